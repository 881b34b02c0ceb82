/-! Runs in the kernel: the searches. Printed by wip/p1/gen35.py. -/
theorem ez_find_r : ex_entry et_cls et_vt eu_ms (ex_memL ez_L0) (nat_lit 1000000) (nat_lit 55) ez_find [] = true := by decide +kernel
theorem ez_fb_e : ex_locs ez_fb.1 (nat_lit 11) (fun q => ex_run et_cls et_vt eu_ms (ex_memL ez_L3) (nat_lit 1000000) (nat_lit 12) (ex_cutL [ez_bS (Int.ofNat (nat_lit 1))]) eu_178 (0, 0) (some .boolean) [] 0 q [] ez_fb.2.1 0 0 (ex_K ez_fb.2.2.1 ez_fb.2.2.2.1)) = true := by decide +kernel
def ez_isN (ls : List (Option ex_V)) : Bool := match ls with
  | _ :: _ :: _ :: _ :: _ :: some (.inr (.inr (.inr (.inr (.inr (j, _, _)))))) :: _ => Nat.beq j 0
  | _ => false
noncomputable def ez_bcut : ex_Cut := fun pc ls st hp ce sl => bif Nat.beq pc (nat_lit 306) then ex_leS none none pc ls st hp ce sl ez_bF && ez_isN ls else false
theorem ez_fb_row : ex_run et_cls et_vt eu_ms (ex_memL ez_L3) (nat_lit 1000000) (nat_lit 12) ez_bcut eu_178 (0, 0) (some .boolean) [] (nat_lit 61) (ez_bls (some ez_bN)) [] ez_bB 0 0 (ex_K ez_fb.2.2.1 ez_fb.2.2.2.1) = true := by decide +kernel
theorem ez_fb_end : ex_run et_cls et_vt eu_ms (ex_memL ez_L3) (nat_lit 1000000) (nat_lit 12) (ex_cutL []) eu_178 (0, 0) (some .boolean) [] (nat_lit 61) (ez_bls (some (.inl (Int.ofNat (nat_lit 6561))))) [] ez_bB 0 0 (ex_K ez_fb.2.2.1 ez_fb.2.2.2.1) = true := by decide +kernel
noncomputable def ez_tail (a n : Nat) : Bool := Nat.rec (motive := fun _ => Bool) true (fun i ih => ex_n (Nat.add a i) (fun r => ex_n (Nat.succ r) (fun r' => ex_run et_cls et_vt eu_ms (ex_memL ez_L3) (nat_lit 1000000) (nat_lit 12) (ex_cutL [ez_bS (Int.ofNat r')]) eu_178 (0, 0) (some .boolean) [] (nat_lit 306) (ez_bls (some (.inl (Int.ofNat r)))) [] ez_bB 0 0 (ex_K ez_fb.2.2.1 ez_fb.2.2.2.1))) && ih) n
theorem ez_tail0 : ez_tail (nat_lit 1) (nat_lit 410) = true := by decide +kernel
theorem ez_tail1 : ez_tail (nat_lit 411) (nat_lit 410) = true := by decide +kernel
theorem ez_tail2 : ez_tail (nat_lit 821) (nat_lit 410) = true := by decide +kernel
theorem ez_tail3 : ez_tail (nat_lit 1231) (nat_lit 410) = true := by decide +kernel
theorem ez_tail4 : ez_tail (nat_lit 1641) (nat_lit 410) = true := by decide +kernel
theorem ez_tail5 : ez_tail (nat_lit 2051) (nat_lit 410) = true := by decide +kernel
theorem ez_tail6 : ez_tail (nat_lit 2461) (nat_lit 410) = true := by decide +kernel
theorem ez_tail7 : ez_tail (nat_lit 2871) (nat_lit 410) = true := by decide +kernel
theorem ez_tail8 : ez_tail (nat_lit 3281) (nat_lit 410) = true := by decide +kernel
theorem ez_tail9 : ez_tail (nat_lit 3691) (nat_lit 410) = true := by decide +kernel
theorem ez_tail10 : ez_tail (nat_lit 4101) (nat_lit 410) = true := by decide +kernel
theorem ez_tail11 : ez_tail (nat_lit 4511) (nat_lit 410) = true := by decide +kernel
theorem ez_tail12 : ez_tail (nat_lit 4921) (nat_lit 410) = true := by decide +kernel
theorem ez_tail13 : ez_tail (nat_lit 5331) (nat_lit 410) = true := by decide +kernel
theorem ez_tail14 : ez_tail (nat_lit 5741) (nat_lit 410) = true := by decide +kernel
theorem ez_tail15 : ez_tail (nat_lit 6151) (nat_lit 410) = true := by decide +kernel
theorem ez_fb_K : (ex_K ez_fb.2.2.1 ez_fb.2.2.2.1) ez_fb.2.2.1 ez_fb.2.2.2.1 = true := by decide +kernel
theorem ez_fb_le : ex_leO none none (ez_bls none) (ez_bls none) = true := by decide +kernel
theorem ez_fb_hp : ex_leH ez_bB ez_bB = true := by decide +kernel
