/-! The law's table, decoded. Printed by wip/p1/gen17.py. -/
theorem ed_cat {l : List (List ex_I)} {f : List ex_I → Bool} (k n : Nat) (h1 : ((l.drop k).take n).all f = true) (h2 : (l.drop (k + n)).all f = true) : (l.drop k).all f = true := by
  have e : (l.drop k).drop n = l.drop (k + n) := by rw [List.drop_drop]
  rw [← List.take_append_drop n (l.drop k), List.all_append, h1, e, h2]
  rfl
theorem ed_law0 : ((et_law.drop 0).take 8).all (fun ch => ch.all fun x => ek_d code x) = true := by decide +kernel
theorem ed_law1 : ((et_law.drop 8).take 8).all (fun ch => ch.all fun x => ek_d code x) = true := by decide +kernel
theorem ed_law2 : ((et_law.drop 16).take 8).all (fun ch => ch.all fun x => ek_d code x) = true := by decide +kernel
theorem ed_law3 : ((et_law.drop 24).take 8).all (fun ch => ch.all fun x => ek_d code x) = true := by decide +kernel
theorem ed_law4 : ((et_law.drop 32).take 8).all (fun ch => ch.all fun x => ek_d code x) = true := by decide +kernel
theorem ed_law5 : ((et_law.drop 40).take 8).all (fun ch => ch.all fun x => ek_d code x) = true := by decide +kernel
theorem ed_law6 : ((et_law.drop 48).take 8).all (fun ch => ch.all fun x => ek_d code x) = true := by decide +kernel
theorem ed_law7 : ((et_law.drop 56).take 8).all (fun ch => ch.all fun x => ek_d code x) = true := by decide +kernel
theorem ed_law8 : ((et_law.drop 64).take 8).all (fun ch => ch.all fun x => ek_d code x) = true := by decide +kernel
theorem ed_law9 : ((et_law.drop 72).take 8).all (fun ch => ch.all fun x => ek_d code x) = true := by decide +kernel
theorem ed_law10 : ((et_law.drop 80).take 8).all (fun ch => ch.all fun x => ek_d code x) = true := by decide +kernel
theorem ed_law11 : ((et_law.drop 88).take 8).all (fun ch => ch.all fun x => ek_d code x) = true := by decide +kernel
theorem ed_law : (et_law.all fun ch => ch.all fun x => ek_d code x) = true := (ed_cat 0 8 ed_law0 (ed_cat 8 8 ed_law1 (ed_cat 16 8 ed_law2 (ed_cat 24 8 ed_law3 (ed_cat 32 8 ed_law4 (ed_cat 40 8 ed_law5 (ed_cat 48 8 ed_law6 (ed_cat 56 8 ed_law7 (ed_cat 64 8 ed_law8 (ed_cat 72 8 ed_law9 (ed_cat 80 8 ed_law10 (ed_cat 88 8 ed_law11 (by rfl)))))))))))))
