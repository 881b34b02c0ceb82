/-! type and clear of both, with their answers and the text's length by letters. Printed by wip/p3/exactgen.py. -/
/-- INV with the length of the class's text by a letter -/
def et_lc (x : Int) : ex_H := ex_hput ei_h0 46 ((nat_lit 3), (nat_lit 9), (nat_lit 0), (nat_lit 0), [.inr (.inr (.inl (some (nat_lit 47)))), .inl x, .inr (.inr (.inl (some (nat_lit 48)))), .inr (.inr (.inl (some (nat_lit 49)))), .inr (.inr (.inr (.inl ((Int.ofNat (nat_lit 0)), (Int.ofNat (nat_lit 50)))))), .inr (.inr (.inr (.inl ((Int.ofNat (nat_lit 0)), (Int.ofNat (nat_lit 300))))))])
/-- INV with the length of the reference's text by a letter -/
def et_lr (x : Int) : ex_H := ex_hput ei_h0 345 ((nat_lit 3), (nat_lit 12), (nat_lit 0), (nat_lit 0), [.inr (.inr (.inl (some (nat_lit 346)))), .inr (.inr (.inl (some (nat_lit 347)))), .inr (.inr (.inl (some (nat_lit 348)))), .inr (.inr (.inl (some (nat_lit 349)))), .inr (.inr (.inr (.inr (.inl ((Int.negSucc (nat_lit 9223372036854775807)), (Int.ofNat (nat_lit 9223372036854775807))))))), .inr (.inr (.inr (.inr (.inl ((Int.negSucc (nat_lit 9223372036854775807)), (Int.ofNat (nat_lit 9223372036854775807))))))), .inr (.inr (.inl (some (nat_lit 350)))), .inl x, .inr (.inr (.inr (.inl ((Int.ofNat (nat_lit 0)), (Int.ofNat (nat_lit 301)))))), .inr (.inr (.inr (.inl ((Int.ofNat (nat_lit 0)), (Int.ofNat (nat_lit 300)))))), .inr (.inr (.inr (.inl ((Int.negSucc (nat_lit 2147483647)), (Int.ofNat (nat_lit 2147483647)))))), .inr (.inr (.inr (.inl ((Int.negSucc (nat_lit 2147483647)), (Int.ofNat (nat_lit 2147483647)))))), .inr (.inr (.inl (some (nat_lit 351)))), .inr (.inr (.inl (some (nat_lit 352)))), .inr (.inr (.inr (.inl ((Int.ofNat (nat_lit 0)), (Int.ofNat (nat_lit 300)))))), .inr (.inr (.inl (some (nat_lit 353)))), .inr (.inr (.inl (some (nat_lit 354)))), .inr (.inr (.inl (some (nat_lit 355)))), .inr (.inr (.inl (some (nat_lit 356)))), .inr (.inr (.inl (some (nat_lit 357)))), .inr (.inr (.inr (.inl ((Int.negSucc (nat_lit 2147483647)), (Int.ofNat (nat_lit 2147483647)))))), .inr (.inr (.inr (.inl ((Int.negSucc (nat_lit 2147483647)), (Int.ofNat (nat_lit 2147483647)))))), .inr (.inr (.inr (.inl ((Int.negSucc (nat_lit 2147483647)), (Int.ofNat (nat_lit 2147483647)))))), .inr (.inr (.inl (some (nat_lit 358)))), .inr (.inr (.inr (.inl ((Int.negSucc (nat_lit 2147483647)), (Int.ofNat (nat_lit 2147483647)))))), .inr (.inr (.inl (some (nat_lit 359)))), .inr (.inr (.inl (some (nat_lit 360)))), .inr (.inr (.inl (some (nat_lit 361)))), .inr (.inr (.inl (some (nat_lit 362)))), .inr (.inr (.inl (some (nat_lit 363)))), .inr (.inr (.inl (some (nat_lit 364)))), .inr (.inr (.inl (some (nat_lit 365)))), .inr (.inr (.inl (some (nat_lit 366))))])
/-- what type answers, by the length and the number of letters -/
def et_an (x m : Int) : Int := if 1 ≤ m ∧ m ≤ 8 then (if x + m ≤ 300 then x + m else -300000) else -100000
/-- the length behind it -/
def et_nx (x m : Int) : Int := if 1 ≤ m ∧ m ≤ 8 then (if x + m ≤ 300 then x + m else x) else x
theorem et_rb {x m : Int} (h : ¬ (1 ≤ m ∧ m ≤ 8)) : et_an x m = -100000 ∧ et_nx x m = x := by
  unfold et_an et_nx
  rw [if_neg h, if_neg h]
  exact ⟨rfl, rfl⟩
theorem et_rf {x m : Int} (h : 1 ≤ m ∧ m ≤ 8) (h2 : ¬ (x + m ≤ 300)) : et_an x m = -300000 ∧ et_nx x m = x := by
  unfold et_an et_nx
  rw [if_pos h, if_pos h, if_neg h2, if_neg h2]
  exact ⟨rfl, rfl⟩
theorem et_ro {x m : Int} (h : 1 ≤ m ∧ m ≤ 8) (h2 : x + m ≤ 300) : et_an x m = x + m ∧ et_nx x m = x + m := by
  unfold et_an et_nx
  rw [if_pos h, if_pos h, if_pos h2, if_pos h2]
  exact ⟨rfl, rfl⟩
theorem et_nx_le {x m : Int} (h : 0 ≤ x ∧ x ≤ 300) : 0 ≤ et_nx x m ∧ et_nx x m ≤ 300 := by
  by_cases c : 1 ≤ m ∧ m ≤ 8
  · by_cases d : x + m ≤ 300
    · rw [(et_ro c d).2]; omega
    · rw [(et_rf c d).2]; exact h
  · rw [(et_rb c).2]; exact h
theorem eq_addX_l {l : Launch} {D : va_G} {τ : Nat → ClassId} {sa : List Nat} {A : Nat → Prop} (hmn : em_mna) {own mname : String} {bytes : ByteArray} (hT : ∀ ch ∈ eu_71, ∀ x ∈ ch, ek_J em_inf et_cls et_vt own mname bytes x) {d : Nat} (hd : 1 ≤ d) {K : Option ex_V → ex_H → Bool} {z m T : Int} (hm : 1 ≤ m ∧ m ≤ 8) (hT0 : 0 ≤ T ∧ T ≤ 300) (hK : K (some (.inl T)) (et_lc (T)) = true) : ∀ (i : Nat) (x k : Int), k < i → (-1 ≤ k ∧ k < m) → (0 ≤ x ∧ x + k + 1 = T) → em_G l D τ sa A own mname bytes 5 d (0, 0) (some .int) K (33, [some (.inr (.inr (.inl (some 46)))), some (.inr (.inl (z))), none, some (.inl (m)), some (.inl (k))], [], (et_lc (x)), 0, 0) := by
  intro i
  induction i with
  | zero =>
    intro x k hi hk hl
    refine ej_plain hmn (eg_at hT 1 0 rfl rfl) (pc' := 35) (ls' := [some (.inr (.inr (.inl (some 46)))), some (.inr (.inl (z))), none, some (.inl (m)), some (.inl (k))]) (st' := [.inl (k)]) (fun _ _ => rfl) ?_
    refine ej_ifCond hmn (eg_at hT 1 1 rfl rfl) (pc' := 38) rfl (fun _ => rfl) (fun (tc1 : k < 0) => ?_) (fun (tc1 : ¬ (k < 0)) => ?_)
    · refine ej_plain hmn (eg_at hT 2 4 rfl rfl) (pc' := 73) (ls' := [some (.inr (.inr (.inl (some 46)))), some (.inr (.inl (z))), none, some (.inl (m)), some (.inl (k))]) (st' := [.inr (.inr (.inl (some 46)))]) (fun _ _ => rfl) ?_
      refine ej_plain hmn (eg_at hT 2 5 rfl rfl) (pc' := 76) (ls' := [some (.inr (.inr (.inl (some 46)))), some (.inr (.inl (z))), none, some (.inl (m)), some (.inl (k))]) (st' := [.inl (x)]) (fun _ _ => rfl) ?_
      exact ej_ireturn hmn (eg_at hT 2 6 rfl rfl) (by rw [show x = T by omega]; exact hK)
    · exfalso
      omega
  | succ i ih =>
    intro x k hi hk hl
    refine ej_plain hmn (eg_at hT 1 0 rfl rfl) (pc' := 35) (ls' := [some (.inr (.inr (.inl (some 46)))), some (.inr (.inl (z))), none, some (.inl (m)), some (.inl (k))]) (st' := [.inl (k)]) (fun _ _ => rfl) ?_
    refine ej_ifCond hmn (eg_at hT 1 1 rfl rfl) (pc' := 38) rfl (fun _ => rfl) (fun (tc1 : k < 0) => ?_) (fun (tc1 : ¬ (k < 0)) => ?_)
    · refine ej_plain hmn (eg_at hT 2 4 rfl rfl) (pc' := 73) (ls' := [some (.inr (.inr (.inl (some 46)))), some (.inr (.inl (z))), none, some (.inl (m)), some (.inl (k))]) (st' := [.inr (.inr (.inl (some 46)))]) (fun _ _ => rfl) ?_
      refine ej_plain hmn (eg_at hT 2 5 rfl rfl) (pc' := 76) (ls' := [some (.inr (.inr (.inl (some 46)))), some (.inr (.inl (z))), none, some (.inl (m)), some (.inl (k))]) (st' := [.inl (x)]) (fun _ _ => rfl) ?_
      exact ej_ireturn hmn (eg_at hT 2 6 rfl rfl) (by rw [show x = T by omega]; exact hK)
    · refine ej_plain hmn (eg_at hT 1 2 rfl rfl) (pc' := 39) (ls' := [some (.inr (.inr (.inl (some 46)))), some (.inr (.inl (z))), none, some (.inl (m)), some (.inl (k))]) (st' := [.inr (.inr (.inl (some 46)))]) (fun _ _ => rfl) ?_
      refine ej_plain hmn (eg_at hT 1 3 rfl rfl) (pc' := 42) (ls' := [some (.inr (.inr (.inl (some 46)))), some (.inr (.inl (z))), none, some (.inl (m)), some (.inl (k))]) (st' := [.inr (.inr (.inl (some 47)))]) (fun _ _ => rfl) ?_
      refine ej_plain hmn (eg_at hT 1 4 rfl rfl) (pc' := 43) (ls' := [some (.inr (.inr (.inl (some 46)))), some (.inr (.inl (z))), none, some (.inl (m)), some (.inl (k))]) (st' := [.inr (.inr (.inl (some 46))), .inr (.inr (.inl (some 47)))]) (fun _ _ => rfl) ?_
      refine ej_plain hmn (eg_at hT 1 5 rfl rfl) (pc' := 44) (ls' := [some (.inr (.inr (.inl (some 46)))), some (.inr (.inl (z))), none, some (.inl (m)), some (.inl (k))]) (st' := [.inr (.inr (.inl (some 46))), .inr (.inr (.inl (some 46))), .inr (.inr (.inl (some 47)))]) (fun _ _ => rfl) ?_
      refine ej_plain hmn (eg_at hT 1 6 rfl rfl) (pc' := 47) (ls' := [some (.inr (.inr (.inl (some 46)))), some (.inr (.inl (z))), none, some (.inl (m)), some (.inl (k))]) (st' := [.inl (x), .inr (.inr (.inl (some 46))), .inr (.inr (.inl (some 47)))]) (fun _ _ => rfl) ?_
      refine ej_plain hmn (eg_at hT 1 7 rfl rfl) (pc' := 48) (ls' := [some (.inr (.inr (.inl (some 46)))), some (.inr (.inl (z))), none, some (.inl (m)), some (.inl (k))]) (st' := [.inl (x), .inr (.inr (.inl (some 46))), .inl (x), .inr (.inr (.inl (some 47)))]) (fun _ _ => rfl) ?_
      refine ej_plain hmn (eg_at hT 1 8 rfl rfl) (pc' := 49) (ls' := [some (.inr (.inr (.inl (some 46)))), some (.inr (.inl (z))), none, some (.inl (m)), some (.inl (k))]) (st' := [.inl (1), .inl (x), .inr (.inr (.inl (some 46))), .inl (x), .inr (.inr (.inl (some 47)))]) (fun _ _ => rfl) ?_
      refine ej_iadd hmn (eg_at hT 1 9 rfl rfl) (pc' := 50) rfl (by omega) (by omega) ?_
      refine ej_plain hmn (eg_at hT 1 10 rfl rfl) (pc' := 53) (ls' := [some (.inr (.inr (.inl (some 46)))), some (.inr (.inl (z))), none, some (.inl (m)), some (.inl (k))]) (st' := [.inl (x), .inr (.inr (.inl (some 47)))]) (hp' := (et_lc (x + 1))) (fun _ _ => rfl) ?_
      refine ej_plain hmn (eg_at hT 1 11 rfl rfl) (pc' := 54) (ls' := [some (.inr (.inr (.inl (some 46)))), some (.inr (.inl (z))), none, some (.inl (m)), some (.inl (k))]) (st' := [.inr (.inl (z)), .inl (x), .inr (.inr (.inl (some 47)))]) (fun _ _ => rfl) ?_
      refine ej_plain hmn (eg_at hT 1 12 rfl rfl) (pc' := 56) (ls' := [some (.inr (.inr (.inl (some 46)))), some (.inr (.inl (z))), none, some (.inl (m)), some (.inl (k))]) (st' := [.inl (8), .inr (.inl (z)), .inl (x), .inr (.inr (.inl (some 47)))]) (fun _ _ => rfl) ?_
      refine ej_plain hmn (eg_at hT 1 13 rfl rfl) (pc' := 58) (ls' := [some (.inr (.inr (.inl (some 46)))), some (.inr (.inl (z))), none, some (.inl (m)), some (.inl (k))]) (st' := [.inl (k), .inl (8), .inr (.inl (z)), .inl (x), .inr (.inr (.inl (some 47)))]) (fun _ _ => rfl) ?_
      refine ej_imul hmn (eg_at hT 1 14 rfl rfl) (pc' := 59) rfl (by omega) (by omega) ?_
      refine ej_plain hmn (eg_at hT 1 15 rfl rfl) (pc' := 60) (ls' := [some (.inr (.inr (.inl (some 46)))), some (.inr (.inl (z))), none, some (.inl (m)), some (.inl (k))]) (st' := [.inr (.inr (.inr (.inr (.inl (-9223372036854775808, 9223372036854775807))))), .inl (x), .inr (.inr (.inl (some 47)))]) (fun _ _ => rfl) ?_
      refine ej_someL (fun tv2 tv2a tv2b => ?_)
      refine ej_plain hmn (eg_at hT 1 16 rfl rfl) (pc' := 63) (ls' := [some (.inr (.inr (.inl (some 46)))), some (.inr (.inl (z))), none, some (.inl (m)), some (.inl (k))]) (st' := [.inr (.inl (255)), .inr (.inl (tv2)), .inl (x), .inr (.inr (.inl (some 47)))]) (fun _ _ => rfl) ?_
      refine ej_landw hmn (eg_at hT 1 17 rfl rfl) (pc' := 64) rfl (fun tv3 => ?_)
      refine ej_plain hmn (eg_at hT 2 0 rfl rfl) (pc' := 65) (ls' := [some (.inr (.inr (.inl (some 46)))), some (.inr (.inl (z))), none, some (.inl (m)), some (.inl (k))]) (st' := [.inr (.inr (.inr (.inl (-2147483648, 2147483647)))), .inl (x), .inr (.inr (.inl (some 47)))]) (fun _ _ => rfl) ?_
      refine ej_some (fun tv4 tv4a tv4b => ?_)
      refine ej_iastoreW hmn (eg_at hT 2 1 rfl rfl) (pc' := 66) (n := 300) (lo := (-2147483648)) (hi := (2147483647)) rfl rfl (fun _ => rfl) rfl (by omega) (by omega) (evw_47 _ (by omega)) (by omega) (by omega) ?_
      refine ej_iinc hmn (eg_at hT 2 2 rfl rfl) (pc' := 69) rfl (w := -1) rfl (fun _ => rfl) (lsf := fun V => [some (.inr (.inr (.inl (some 46)))), some (.inr (.inl (z))), none, some (.inl (m)), some V]) (fun _ _ => rfl) (by decide) (by decide) (by omega) (by omega) ?_
      refine ej_plain hmn (eg_at hT 2 3 rfl rfl) (pc' := 33) (ls' := [some (.inr (.inr (.inl (some 46)))), some (.inr (.inl (z))), none, some (.inl (m)), some (.inl (k + -1))]) (st' := []) (fun _ _ => rfl) ?_
      exact ih _ _ (by omega) (by omega) (by omega)
theorem eq_addX {l : Launch} {D : va_G} {τ : Nat → ClassId} {sa : List Nat} {A : Nat → Prop} (hmn : em_mna) {x z m : Int} (l0 : 0 ≤ x ∧ x ≤ 300) (hm : (-2147483648 ≤ m ∧ m ≤ 2147483647)) : em_X l D τ sa A 71 [(.inr (.inr (.inl (some 46)))), .inr (.inl z), .inl m] (et_lc (x)) (fun w hp' => w = some (.inl (et_an x m)) ∧ hp' = (et_lc (et_nx x m))) 1 := by
  refine em_X.of (tb := eu_71) (nl := 5) (ret := some .int) rfl (q := [some (.inr (.inr (.inl (some 46)))), some (.inr (.inl (z))), none, some (.inl (m)), none]) (fun _ => rfl) (fun own mname bytes hT => ?_)
  refine ej_plain hmn (eg_at hT 0 0 rfl rfl) (pc' := 1) (ls' := [some (.inr (.inr (.inl (some 46)))), some (.inr (.inl (z))), none, some (.inl (m)), none]) (st' := [.inl (m)]) (fun _ _ => rfl) ?_
  refine ej_plain hmn (eg_at hT 0 1 rfl rfl) (pc' := 2) (ls' := [some (.inr (.inr (.inl (some 46)))), some (.inr (.inl (z))), none, some (.inl (m)), none]) (st' := [.inl (1), .inl (m)]) (fun _ _ => rfl) ?_
  refine ej_plain hmn (eg_at hT 0 2 rfl rfl) (pc' := 4) (ls' := [some (.inr (.inr (.inl (some 46)))), some (.inr (.inl (z))), none, some (.inl (m)), none]) (st' := [.inl (8), .inl (1), .inl (m)]) (fun _ _ => rfl) ?_
  refine ej_call hmn (eg_at hT 0 3 rfl rfl) (pc' := 7) (r := []) (eq_within hmn (v := m) (lo := 1) (hi := 8)) (by omega) (fun _ _ => rfl) (fun v hp' hP => ?_)
  obtain ⟨r1, rfl, rfl, r1a, r1b⟩ := hP
  show em_G l D τ sa A own mname bytes 5 1 (0, 0) (some .int) _ (7, [some (.inr (.inr (.inl (some 46)))), some (.inr (.inl (z))), none, some (.inl (m)), none], [.inl (r1)], (et_lc (x)), 0, 0)
  refine ej_ifCond hmn (eg_at hT 0 4 rfl rfl) (pc' := 10) rfl (fun _ => rfl) (fun (uc1 : r1 ≠ 0) => ?_) (fun (uc1 : ¬ (r1 ≠ 0)) => ?_)
  · refine ej_plain hmn (eg_at hT 0 7 rfl rfl) (pc' := 14) (ls' := [some (.inr (.inr (.inl (some 46)))), some (.inr (.inl (z))), none, some (.inl (m)), none]) (st' := [.inr (.inr (.inl (some 46)))]) (fun _ _ => rfl) ?_
    refine ej_plain hmn (eg_at hT 0 8 rfl rfl) (pc' := 17) (ls' := [some (.inr (.inr (.inl (some 46)))), some (.inr (.inl (z))), none, some (.inl (m)), none]) (st' := [.inl (x)]) (fun _ _ => rfl) ?_
    refine ej_plain hmn (eg_at hT 0 9 rfl rfl) (pc' := 18) (ls' := [some (.inr (.inr (.inl (some 46)))), some (.inr (.inl (z))), none, some (.inl (m)), none]) (st' := [.inl (m), .inl (x)]) (fun _ _ => rfl) ?_
    refine ej_iadd hmn (eg_at hT 0 10 rfl rfl) (pc' := 19) rfl (by omega) (by omega) ?_
    refine ej_plain hmn (eg_at hT 0 11 rfl rfl) (pc' := 22) (ls' := [some (.inr (.inr (.inl (some 46)))), some (.inr (.inl (z))), none, some (.inl (m)), none]) (st' := [.inl (300), .inl (x + m)]) (fun _ _ => rfl) ?_
    refine ej_if_icmp hmn (eg_at hT 0 12 rfl rfl) (pc' := 25) rfl (fun _ => rfl) (fun (uc2 : x + m ≤ 300) => ?_) (fun (uc2 : ¬ (x + m ≤ 300)) => ?_)
    · refine ej_plain hmn (eg_at hT 0 15 rfl rfl) (pc' := 29) (ls' := [some (.inr (.inr (.inl (some 46)))), some (.inr (.inl (z))), none, some (.inl (m)), none]) (st' := [.inl (m)]) (fun _ _ => rfl) ?_
      refine ej_plain hmn (eg_at hT 0 16 rfl rfl) (pc' := 30) (ls' := [some (.inr (.inr (.inl (some 46)))), some (.inr (.inl (z))), none, some (.inl (m)), none]) (st' := [.inl (1), .inl (m)]) (fun _ _ => rfl) ?_
      refine ej_isub hmn (eg_at hT 0 17 rfl rfl) (pc' := 31) rfl (by omega) (by omega) ?_
      refine ej_plain hmn (eg_at hT 0 18 rfl rfl) (pc' := 33) (ls' := [some (.inr (.inr (.inl (some 46)))), some (.inr (.inl (z))), none, some (.inl (m)), some (.inl (m - 1))]) (st' := []) (fun _ _ => rfl) ?_
      refine eq_addX_l hmn hT (Nat.le_refl 1) (by omega) (T := x + m) (by omega) (@decide_eq_true _ (Classical.propDecidable _) ?_) 9 x (m - 1) (by omega) (by omega) (by omega)
      show (some (.inl (x + m)) : Option ex_V) = some (.inl (et_an x m)) ∧ (et_lc (x + m)) = (et_lc (et_nx x m))
      have e := et_ro (x := x) (m := m) (by omega) (by omega)
      rw [e.1, e.2]
      exact ⟨rfl, rfl⟩
    · refine ej_plain hmn (eg_at hT 0 13 rfl rfl) (pc' := 27) (ls' := [some (.inr (.inr (.inl (some 46)))), some (.inr (.inl (z))), none, some (.inl (m)), none]) (st' := [.inl (-300000)]) (fun _ _ => rfl) ?_
      refine ej_ireturn hmn (eg_at hT 0 14 rfl rfl) (@decide_eq_true _ (Classical.propDecidable _) ?_)
      show (some (.inl (-300000)) : Option ex_V) = some (.inl (et_an x m)) ∧ (et_lc (x)) = (et_lc (et_nx x m))
      have e := et_rf (x := x) (m := m) (by omega) (by omega)
      rw [e.1, e.2]
      exact ⟨rfl, rfl⟩
  · refine ej_plain hmn (eg_at hT 0 5 rfl rfl) (pc' := 12) (ls' := [some (.inr (.inr (.inl (some 46)))), some (.inr (.inl (z))), none, some (.inl (m)), none]) (st' := [.inl (-100000)]) (fun _ _ => rfl) ?_
    refine ej_ireturn hmn (eg_at hT 0 6 rfl rfl) (@decide_eq_true _ (Classical.propDecidable _) ?_)
    show (some (.inl (-100000)) : Option ex_V) = some (.inl (et_an x m)) ∧ (et_lc (x)) = (et_lc (et_nx x m))
    have e := et_rb (x := x) (m := m) (by omega)
    rw [e.1, e.2]
    exact ⟨rfl, rfl⟩
theorem eq_typeX_l {l : Launch} {D : va_G} {τ : Nat → ClassId} {sa : List Nat} {A : Nat → Prop} (hmn : em_mna) {own mname : String} {bytes : ByteArray} (hT : ∀ ch ∈ eu_149, ∀ x ∈ ch, ek_J em_inf et_cls et_vt own mname bytes x) {d : Nat} (hd : 1 ≤ d) {K : Option ex_V → ex_H → Bool} {z m T : Int} (hm : 1 ≤ m ∧ m ≤ 8) (hT0 : 0 ≤ T ∧ T ≤ 300) (hK : K (some (.inl T)) (et_lr (T)) = true) : ∀ (i : Nat) (x k : Int), k < i → (-1 ≤ k ∧ k < m) → (0 ≤ x ∧ x + k + 1 = T) → em_G l D τ sa A own mname bytes 5 d (0, 0) (some .int) K (35, [some (.inr (.inr (.inl (some 345)))), some (.inr (.inl (z))), none, some (.inl (m)), some (.inl (k))], [], (et_lr (x)), 0, 0) := by
  intro i
  induction i with
  | zero =>
    intro x k hi hk hl
    refine ej_plain hmn (eg_at hT 1 2 rfl rfl) (pc' := 37) (ls' := [some (.inr (.inr (.inl (some 345)))), some (.inr (.inl (z))), none, some (.inl (m)), some (.inl (k))]) (st' := [.inl (k)]) (fun _ _ => rfl) ?_
    refine ej_ifCond hmn (eg_at hT 1 3 rfl rfl) (pc' := 40) rfl (fun _ => rfl) (fun (tc1 : k < 0) => ?_) (fun (tc1 : ¬ (k < 0)) => ?_)
    · refine ej_plain hmn (eg_at hT 2 5 rfl rfl) (pc' := 78) (ls' := [some (.inr (.inr (.inl (some 345)))), some (.inr (.inl (z))), none, some (.inl (m)), some (.inl (k))]) (st' := [.inr (.inr (.inl (some 345)))]) (fun _ _ => rfl) ?_
      refine ej_plain hmn (eg_at hT 2 6 rfl rfl) (pc' := 81) (ls' := [some (.inr (.inr (.inl (some 345)))), some (.inr (.inl (z))), none, some (.inl (m)), some (.inl (k))]) (st' := [.inl (x)]) (fun _ _ => rfl) ?_
      exact ej_ireturn hmn (eg_at hT 2 7 rfl rfl) (by rw [show x = T by omega]; exact hK)
    · exfalso
      omega
  | succ i ih =>
    intro x k hi hk hl
    refine ej_plain hmn (eg_at hT 1 2 rfl rfl) (pc' := 37) (ls' := [some (.inr (.inr (.inl (some 345)))), some (.inr (.inl (z))), none, some (.inl (m)), some (.inl (k))]) (st' := [.inl (k)]) (fun _ _ => rfl) ?_
    refine ej_ifCond hmn (eg_at hT 1 3 rfl rfl) (pc' := 40) rfl (fun _ => rfl) (fun (tc1 : k < 0) => ?_) (fun (tc1 : ¬ (k < 0)) => ?_)
    · refine ej_plain hmn (eg_at hT 2 5 rfl rfl) (pc' := 78) (ls' := [some (.inr (.inr (.inl (some 345)))), some (.inr (.inl (z))), none, some (.inl (m)), some (.inl (k))]) (st' := [.inr (.inr (.inl (some 345)))]) (fun _ _ => rfl) ?_
      refine ej_plain hmn (eg_at hT 2 6 rfl rfl) (pc' := 81) (ls' := [some (.inr (.inr (.inl (some 345)))), some (.inr (.inl (z))), none, some (.inl (m)), some (.inl (k))]) (st' := [.inl (x)]) (fun _ _ => rfl) ?_
      exact ej_ireturn hmn (eg_at hT 2 7 rfl rfl) (by rw [show x = T by omega]; exact hK)
    · refine ej_plain hmn (eg_at hT 1 4 rfl rfl) (pc' := 41) (ls' := [some (.inr (.inr (.inl (some 345)))), some (.inr (.inl (z))), none, some (.inl (m)), some (.inl (k))]) (st' := [.inr (.inr (.inl (some 345)))]) (fun _ _ => rfl) ?_
      refine ej_plain hmn (eg_at hT 1 5 rfl rfl) (pc' := 44) (ls' := [some (.inr (.inr (.inl (some 345)))), some (.inr (.inl (z))), none, some (.inl (m)), some (.inl (k))]) (st' := [.inr (.inr (.inl (some 350)))]) (fun _ _ => rfl) ?_
      refine ej_plain hmn (eg_at hT 1 6 rfl rfl) (pc' := 45) (ls' := [some (.inr (.inr (.inl (some 345)))), some (.inr (.inl (z))), none, some (.inl (m)), some (.inl (k))]) (st' := [.inr (.inr (.inl (some 345))), .inr (.inr (.inl (some 350)))]) (fun _ _ => rfl) ?_
      refine ej_plain hmn (eg_at hT 1 7 rfl rfl) (pc' := 48) (ls' := [some (.inr (.inr (.inl (some 345)))), some (.inr (.inl (z))), none, some (.inl (m)), some (.inl (k))]) (st' := [.inl (x), .inr (.inr (.inl (some 350)))]) (fun _ _ => rfl) ?_
      refine ej_plain hmn (eg_at hT 1 8 rfl rfl) (pc' := 49) (ls' := [some (.inr (.inr (.inl (some 345)))), some (.inr (.inl (z))), none, some (.inl (m)), some (.inl (k))]) (st' := [.inr (.inl (z)), .inl (x), .inr (.inr (.inl (some 350)))]) (fun _ _ => rfl) ?_
      refine ej_plain hmn (eg_at hT 1 9 rfl rfl) (pc' := 51) (ls' := [some (.inr (.inr (.inl (some 345)))), some (.inr (.inl (z))), none, some (.inl (m)), some (.inl (k))]) (st' := [.inl (8), .inr (.inl (z)), .inl (x), .inr (.inr (.inl (some 350)))]) (fun _ _ => rfl) ?_
      refine ej_plain hmn (eg_at hT 1 10 rfl rfl) (pc' := 53) (ls' := [some (.inr (.inr (.inl (some 345)))), some (.inr (.inl (z))), none, some (.inl (m)), some (.inl (k))]) (st' := [.inl (k), .inl (8), .inr (.inl (z)), .inl (x), .inr (.inr (.inl (some 350)))]) (fun _ _ => rfl) ?_
      refine ej_imul hmn (eg_at hT 1 11 rfl rfl) (pc' := 54) rfl (by omega) (by omega) ?_
      refine ej_plain hmn (eg_at hT 1 12 rfl rfl) (pc' := 55) (ls' := [some (.inr (.inr (.inl (some 345)))), some (.inr (.inl (z))), none, some (.inl (m)), some (.inl (k))]) (st' := [.inr (.inr (.inr (.inr (.inl (-9223372036854775808, 9223372036854775807))))), .inl (x), .inr (.inr (.inl (some 350)))]) (fun _ _ => rfl) ?_
      refine ej_someL (fun tv2 tv2a tv2b => ?_)
      refine ej_plain hmn (eg_at hT 1 13 rfl rfl) (pc' := 58) (ls' := [some (.inr (.inr (.inl (some 345)))), some (.inr (.inl (z))), none, some (.inl (m)), some (.inl (k))]) (st' := [.inr (.inl (255)), .inr (.inl (tv2)), .inl (x), .inr (.inr (.inl (some 350)))]) (fun _ _ => rfl) ?_
      refine ej_landw hmn (eg_at hT 1 14 rfl rfl) (pc' := 59) rfl (fun tv3 => ?_)
      refine ej_plain hmn (eg_at hT 1 15 rfl rfl) (pc' := 60) (ls' := [some (.inr (.inr (.inl (some 345)))), some (.inr (.inl (z))), none, some (.inl (m)), some (.inl (k))]) (st' := [.inr (.inr (.inr (.inl (-2147483648, 2147483647)))), .inl (x), .inr (.inr (.inl (some 350)))]) (fun _ _ => rfl) ?_
      refine ej_some (fun tv4 tv4a tv4b => ?_)
      refine ej_iastoreW hmn (eg_at hT 1 16 rfl rfl) (pc' := 61) (n := 300) (lo := (-2147483648)) (hi := (2147483647)) rfl rfl (fun _ => rfl) rfl (by omega) (by omega) (evw_350 _ (by omega)) (by omega) (by omega) ?_
      refine ej_plain hmn (eg_at hT 1 17 rfl rfl) (pc' := 62) (ls' := [some (.inr (.inr (.inl (some 345)))), some (.inr (.inl (z))), none, some (.inl (m)), some (.inl (k))]) (st' := [.inr (.inr (.inl (some 345)))]) (fun _ _ => rfl) ?_
      refine ej_plain hmn (eg_at hT 1 18 rfl rfl) (pc' := 63) (ls' := [some (.inr (.inr (.inl (some 345)))), some (.inr (.inl (z))), none, some (.inl (m)), some (.inl (k))]) (st' := [.inr (.inr (.inl (some 345))), .inr (.inr (.inl (some 345)))]) (fun _ _ => rfl) ?_
      refine ej_plain hmn (eg_at hT 1 19 rfl rfl) (pc' := 66) (ls' := [some (.inr (.inr (.inl (some 345)))), some (.inr (.inl (z))), none, some (.inl (m)), some (.inl (k))]) (st' := [.inl (x), .inr (.inr (.inl (some 345)))]) (fun _ _ => rfl) ?_
      refine ej_plain hmn (eg_at hT 2 0 rfl rfl) (pc' := 67) (ls' := [some (.inr (.inr (.inl (some 345)))), some (.inr (.inl (z))), none, some (.inl (m)), some (.inl (k))]) (st' := [.inl (1), .inl (x), .inr (.inr (.inl (some 345)))]) (fun _ _ => rfl) ?_
      refine ej_iadd hmn (eg_at hT 2 1 rfl rfl) (pc' := 68) rfl (by omega) (by omega) ?_
      refine ej_plain hmn (eg_at hT 2 2 rfl rfl) (pc' := 71) (ls' := [some (.inr (.inr (.inl (some 345)))), some (.inr (.inl (z))), none, some (.inl (m)), some (.inl (k))]) (st' := []) (hp' := (et_lr (x + 1))) (fun _ _ => rfl) ?_
      refine ej_iinc hmn (eg_at hT 2 3 rfl rfl) (pc' := 74) rfl (w := -1) rfl (fun _ => rfl) (lsf := fun V => [some (.inr (.inr (.inl (some 345)))), some (.inr (.inl (z))), none, some (.inl (m)), some V]) (fun _ _ => rfl) (by decide) (by decide) (by omega) (by omega) ?_
      refine ej_plain hmn (eg_at hT 2 4 rfl rfl) (pc' := 35) (ls' := [some (.inr (.inr (.inl (some 345)))), some (.inr (.inl (z))), none, some (.inl (m)), some (.inl (k + -1))]) (st' := []) (fun _ _ => rfl) ?_
      exact ih _ _ (by omega) (by omega) (by omega)
theorem eq_typeX {l : Launch} {D : va_G} {τ : Nat → ClassId} {sa : List Nat} {A : Nat → Prop} (hmn : em_mna) {x z m : Int} (l0 : 0 ≤ x ∧ x ≤ 300) (hm : (-2147483648 ≤ m ∧ m ≤ 2147483647)) : em_X l D τ sa A 149 [(.inr (.inr (.inl (some 345)))), .inr (.inl z), .inl m] (et_lr (x)) (fun w hp' => w = some (.inl (et_an x m)) ∧ hp' = (et_lr (et_nx x m))) 1 := by
  refine em_X.of (tb := eu_149) (nl := 5) (ret := some .int) rfl (q := [some (.inr (.inr (.inl (some 345)))), some (.inr (.inl (z))), none, some (.inl (m)), none]) (fun _ => rfl) (fun own mname bytes hT => ?_)
  refine ej_plain hmn (eg_at hT 0 0 rfl rfl) (pc' := 1) (ls' := [some (.inr (.inr (.inl (some 345)))), some (.inr (.inl (z))), none, some (.inl (m)), none]) (st' := [.inl (m)]) (fun _ _ => rfl) ?_
  refine ej_plain hmn (eg_at hT 0 1 rfl rfl) (pc' := 2) (ls' := [some (.inr (.inr (.inl (some 345)))), some (.inr (.inl (z))), none, some (.inl (m)), none]) (st' := [.inr (.inl (m))]) (fun _ _ => rfl) ?_
  refine ej_plain hmn (eg_at hT 0 2 rfl rfl) (pc' := 3) (ls' := [some (.inr (.inr (.inl (some 345)))), some (.inr (.inl (z))), none, some (.inl (m)), none]) (st' := [.inr (.inl (1)), .inr (.inl (m))]) (fun _ _ => rfl) ?_
  refine ej_plain hmn (eg_at hT 0 3 rfl rfl) (pc' := 6) (ls' := [some (.inr (.inr (.inl (some 345)))), some (.inr (.inl (z))), none, some (.inl (m)), none]) (st' := [.inr (.inl (8)), .inr (.inl (1)), .inr (.inl (m))]) (fun _ _ => rfl) ?_
  refine ej_call hmn (eg_at hT 0 4 rfl rfl) (pc' := 9) (r := []) (eq_inG hmn (v := m) (lo := 1) (hi := 8)) (by omega) (fun _ _ => rfl) (fun v hp' hP => ?_)
  obtain ⟨r1, rfl, rfl, r1a, r1b⟩ := hP
  show em_G l D τ sa A own mname bytes 5 1 (0, 0) (some .int) _ (9, [some (.inr (.inr (.inl (some 345)))), some (.inr (.inl (z))), none, some (.inl (m)), none], [.inl (r1)], (et_lr (x)), 0, 0)
  refine ej_ifCond hmn (eg_at hT 0 5 rfl rfl) (pc' := 12) rfl (fun _ => rfl) (fun (uc1 : r1 ≠ 0) => ?_) (fun (uc1 : ¬ (r1 ≠ 0)) => ?_)
  · refine ej_plain hmn (eg_at hT 0 8 rfl rfl) (pc' := 16) (ls' := [some (.inr (.inr (.inl (some 345)))), some (.inr (.inl (z))), none, some (.inl (m)), none]) (st' := [.inr (.inr (.inl (some 345)))]) (fun _ _ => rfl) ?_
    refine ej_plain hmn (eg_at hT 0 9 rfl rfl) (pc' := 19) (ls' := [some (.inr (.inr (.inl (some 345)))), some (.inr (.inl (z))), none, some (.inl (m)), none]) (st' := [.inl (x)]) (fun _ _ => rfl) ?_
    refine ej_plain hmn (eg_at hT 0 10 rfl rfl) (pc' := 20) (ls' := [some (.inr (.inr (.inl (some 345)))), some (.inr (.inl (z))), none, some (.inl (m)), none]) (st' := [.inl (m), .inl (x)]) (fun _ _ => rfl) ?_
    refine ej_iadd hmn (eg_at hT 0 11 rfl rfl) (pc' := 21) rfl (by omega) (by omega) ?_
    refine ej_plain hmn (eg_at hT 0 12 rfl rfl) (pc' := 24) (ls' := [some (.inr (.inr (.inl (some 345)))), some (.inr (.inl (z))), none, some (.inl (m)), none]) (st' := [.inl (300), .inl (x + m)]) (fun _ _ => rfl) ?_
    refine ej_if_icmp hmn (eg_at hT 0 13 rfl rfl) (pc' := 27) rfl (fun _ => rfl) (fun (uc2 : x + m ≤ 300) => ?_) (fun (uc2 : ¬ (x + m ≤ 300)) => ?_)
    · refine ej_plain hmn (eg_at hT 0 16 rfl rfl) (pc' := 31) (ls' := [some (.inr (.inr (.inl (some 345)))), some (.inr (.inl (z))), none, some (.inl (m)), none]) (st' := [.inl (m)]) (fun _ _ => rfl) ?_
      refine ej_plain hmn (eg_at hT 0 17 rfl rfl) (pc' := 32) (ls' := [some (.inr (.inr (.inl (some 345)))), some (.inr (.inl (z))), none, some (.inl (m)), none]) (st' := [.inl (1), .inl (m)]) (fun _ _ => rfl) ?_
      refine ej_isub hmn (eg_at hT 1 0 rfl rfl) (pc' := 33) rfl (by omega) (by omega) ?_
      refine ej_plain hmn (eg_at hT 1 1 rfl rfl) (pc' := 35) (ls' := [some (.inr (.inr (.inl (some 345)))), some (.inr (.inl (z))), none, some (.inl (m)), some (.inl (m - 1))]) (st' := []) (fun _ _ => rfl) ?_
      refine eq_typeX_l hmn hT (Nat.le_refl 1) (by omega) (T := x + m) (by omega) (@decide_eq_true _ (Classical.propDecidable _) ?_) 9 x (m - 1) (by omega) (by omega) (by omega)
      show (some (.inl (x + m)) : Option ex_V) = some (.inl (et_an x m)) ∧ (et_lr (x + m)) = (et_lr (et_nx x m))
      have e := et_ro (x := x) (m := m) (by omega) (by omega)
      rw [e.1, e.2]
      exact ⟨rfl, rfl⟩
    · refine ej_plain hmn (eg_at hT 0 14 rfl rfl) (pc' := 29) (ls' := [some (.inr (.inr (.inl (some 345)))), some (.inr (.inl (z))), none, some (.inl (m)), none]) (st' := [.inl (-300000)]) (fun _ _ => rfl) ?_
      refine ej_ireturn hmn (eg_at hT 0 15 rfl rfl) (@decide_eq_true _ (Classical.propDecidable _) ?_)
      show (some (.inl (-300000)) : Option ex_V) = some (.inl (et_an x m)) ∧ (et_lr (x)) = (et_lr (et_nx x m))
      have e := et_rf (x := x) (m := m) (by omega) (by omega)
      rw [e.1, e.2]
      exact ⟨rfl, rfl⟩
  · refine ej_plain hmn (eg_at hT 0 6 rfl rfl) (pc' := 14) (ls' := [some (.inr (.inr (.inl (some 345)))), some (.inr (.inl (z))), none, some (.inl (m)), none]) (st' := [.inl (-100000)]) (fun _ _ => rfl) ?_
    refine ej_ireturn hmn (eg_at hT 0 7 rfl rfl) (@decide_eq_true _ (Classical.propDecidable _) ?_)
    show (some (.inl (-100000)) : Option ex_V) = some (.inl (et_an x m)) ∧ (et_lr (x)) = (et_lr (et_nx x m))
    have e := et_rb (x := x) (m := m) (by omega)
    rw [e.1, e.2]
    exact ⟨rfl, rfl⟩
theorem eq_ctypeX {l : Launch} {D : va_G} {τ : Nat → ClassId} {sa : List Nat} {A : Nat → Prop} (hmn : em_mna) {x z m : Int} (l0 : 0 ≤ x ∧ x ≤ 300) (hm : (-2147483648 ≤ m ∧ m ≤ 2147483647)) : em_X l D τ sa A 96 [(.inr (.inr (.inl (some 5)))), .inr (.inl z), .inl m] (et_lc (x)) (fun w hp' => w = some (.inl (et_an x m)) ∧ hp' = (et_lc (et_nx x m))) 2 := by
  refine em_X.of (tb := eu_96) (nl := 4) (ret := some .int) rfl (q := [some (.inr (.inr (.inl (some 5)))), some (.inr (.inl (z))), none, some (.inl (m))]) (fun _ => rfl) (fun own mname bytes hT => ?_)
  refine ej_plain hmn (eg_at hT 0 0 rfl rfl) (pc' := 1) (ls' := [some (.inr (.inr (.inl (some 5)))), some (.inr (.inl (z))), none, some (.inl (m))]) (st' := [.inr (.inr (.inl (some 5)))]) (fun _ _ => rfl) ?_
  refine ej_plain hmn (eg_at hT 0 1 rfl rfl) (pc' := 4) (ls' := [some (.inr (.inr (.inl (some 5)))), some (.inr (.inl (z))), none, some (.inl (m))]) (st' := [.inr (.inr (.inl (some 46)))]) (fun _ _ => rfl) ?_
  refine ej_plain hmn (eg_at hT 0 2 rfl rfl) (pc' := 5) (ls' := [some (.inr (.inr (.inl (some 5)))), some (.inr (.inl (z))), none, some (.inl (m))]) (st' := [.inr (.inl (z)), .inr (.inr (.inl (some 46)))]) (fun _ _ => rfl) ?_
  refine ej_plain hmn (eg_at hT 0 3 rfl rfl) (pc' := 6) (ls' := [some (.inr (.inr (.inl (some 5)))), some (.inr (.inl (z))), none, some (.inl (m))]) (st' := [.inl (m), .inr (.inl (z)), .inr (.inr (.inl (some 46)))]) (fun _ _ => rfl) ?_
  refine ej_call hmn (eg_at hT 0 4 rfl rfl) (pc' := 9) (r := []) (eq_addX hmn (x := x) (z := z) (m := m) l0 hm) (by omega) (fun _ _ => rfl) (fun v hp' hP => ?_)
  obtain ⟨rfl, rfl⟩ := hP
  show em_G l D τ sa A own mname bytes 4 2 (0, 0) (some .int) _ (9, [some (.inr (.inr (.inl (some 5)))), some (.inr (.inl (z))), none, some (.inl (m))], [.inl (et_an x m)], (et_lc (et_nx x m)), 0, 0)
  exact ej_ireturn hmn (eg_at hT 0 5 rfl rfl) (@decide_eq_true _ (Classical.propDecidable _) ⟨rfl, rfl⟩)
theorem eq_emptyX {l : Launch} {D : va_G} {τ : Nat → ClassId} {sa : List Nat} {A : Nat → Prop} (hmn : em_mna) {x : Int} : em_X l D τ sa A 72 [(.inr (.inr (.inl (some 46))))] (et_lc (x)) (fun w hp' => w = some (.inl x) ∧ hp' = (et_lc (0))) 0 := by
  refine em_X.of (tb := eu_72) (nl := 2) (ret := some .int) rfl (q := [some (.inr (.inr (.inl (some 46)))), none]) (fun _ => rfl) (fun own mname bytes hT => ?_)
  refine ej_plain hmn (eg_at hT 0 0 rfl rfl) (pc' := 1) (ls' := [some (.inr (.inr (.inl (some 46)))), none]) (st' := [.inr (.inr (.inl (some 46)))]) (fun _ _ => rfl) ?_
  refine ej_plain hmn (eg_at hT 0 1 rfl rfl) (pc' := 4) (ls' := [some (.inr (.inr (.inl (some 46)))), none]) (st' := [.inl (x)]) (fun _ _ => rfl) ?_
  refine ej_plain hmn (eg_at hT 0 2 rfl rfl) (pc' := 5) (ls' := [some (.inr (.inr (.inl (some 46)))), some (.inl (x))]) (st' := []) (fun _ _ => rfl) ?_
  refine ej_plain hmn (eg_at hT 0 3 rfl rfl) (pc' := 6) (ls' := [some (.inr (.inr (.inl (some 46)))), some (.inl (x))]) (st' := [.inr (.inr (.inl (some 46)))]) (fun _ _ => rfl) ?_
  refine ej_plain hmn (eg_at hT 0 4 rfl rfl) (pc' := 7) (ls' := [some (.inr (.inr (.inl (some 46)))), some (.inl (x))]) (st' := [.inl (0), .inr (.inr (.inl (some 46)))]) (fun _ _ => rfl) ?_
  refine ej_plain hmn (eg_at hT 0 5 rfl rfl) (pc' := 10) (ls' := [some (.inr (.inr (.inl (some 46)))), some (.inl (x))]) (st' := []) (hp' := (et_lc (0))) (fun _ _ => rfl) ?_
  refine ej_plain hmn (eg_at hT 0 6 rfl rfl) (pc' := 11) (ls' := [some (.inr (.inr (.inl (some 46)))), some (.inl (x))]) (st' := [.inl (x)]) (fun _ _ => rfl) ?_
  exact ej_ireturn hmn (eg_at hT 0 7 rfl rfl) (@decide_eq_true _ (Classical.propDecidable _) ⟨rfl, rfl⟩)
theorem eq_clearX {l : Launch} {D : va_G} {τ : Nat → ClassId} {sa : List Nat} {A : Nat → Prop} (hmn : em_mna) {x : Int} : em_X l D τ sa A 150 [(.inr (.inr (.inl (some 345))))] (et_lr (x)) (fun w hp' => w = some (.inl x) ∧ hp' = (et_lr (0))) 0 := by
  refine em_X.of (tb := eu_150) (nl := 2) (ret := some .int) rfl (q := [some (.inr (.inr (.inl (some 345)))), none]) (fun _ => rfl) (fun own mname bytes hT => ?_)
  refine ej_plain hmn (eg_at hT 0 0 rfl rfl) (pc' := 1) (ls' := [some (.inr (.inr (.inl (some 345)))), none]) (st' := [.inr (.inr (.inl (some 345)))]) (fun _ _ => rfl) ?_
  refine ej_plain hmn (eg_at hT 0 1 rfl rfl) (pc' := 4) (ls' := [some (.inr (.inr (.inl (some 345)))), none]) (st' := [.inl (x)]) (fun _ _ => rfl) ?_
  refine ej_plain hmn (eg_at hT 0 2 rfl rfl) (pc' := 5) (ls' := [some (.inr (.inr (.inl (some 345)))), some (.inl (x))]) (st' := []) (fun _ _ => rfl) ?_
  refine ej_plain hmn (eg_at hT 0 3 rfl rfl) (pc' := 6) (ls' := [some (.inr (.inr (.inl (some 345)))), some (.inl (x))]) (st' := [.inr (.inr (.inl (some 345)))]) (fun _ _ => rfl) ?_
  refine ej_plain hmn (eg_at hT 0 4 rfl rfl) (pc' := 7) (ls' := [some (.inr (.inr (.inl (some 345)))), some (.inl (x))]) (st' := [.inl (0), .inr (.inr (.inl (some 345)))]) (fun _ _ => rfl) ?_
  refine ej_plain hmn (eg_at hT 0 5 rfl rfl) (pc' := 10) (ls' := [some (.inr (.inr (.inl (some 345)))), some (.inl (x))]) (st' := []) (hp' := (et_lr (0))) (fun _ _ => rfl) ?_
  refine ej_plain hmn (eg_at hT 0 6 rfl rfl) (pc' := 11) (ls' := [some (.inr (.inr (.inl (some 345)))), some (.inl (x))]) (st' := [.inl (x)]) (fun _ _ => rfl) ?_
  exact ej_ireturn hmn (eg_at hT 0 7 rfl rfl) (@decide_eq_true _ (Classical.propDecidable _) ⟨rfl, rfl⟩)
theorem eq_cclearX {l : Launch} {D : va_G} {τ : Nat → ClassId} {sa : List Nat} {A : Nat → Prop} (hmn : em_mna) {x : Int} : em_X l D τ sa A 97 [(.inr (.inr (.inl (some 5))))] (et_lc (x)) (fun w hp' => w = some (.inl (x)) ∧ hp' = (et_lc (0))) 1 := by
  refine em_X.of (tb := eu_97) (nl := 1) (ret := some .int) rfl (q := [some (.inr (.inr (.inl (some 5))))]) (fun _ => rfl) (fun own mname bytes hT => ?_)
  refine ej_plain hmn (eg_at hT 0 0 rfl rfl) (pc' := 1) (ls' := [some (.inr (.inr (.inl (some 5))))]) (st' := [.inr (.inr (.inl (some 5)))]) (fun _ _ => rfl) ?_
  refine ej_plain hmn (eg_at hT 0 1 rfl rfl) (pc' := 4) (ls' := [some (.inr (.inr (.inl (some 5))))]) (st' := [.inr (.inr (.inl (some 46)))]) (fun _ _ => rfl) ?_
  refine ej_call hmn (eg_at hT 0 2 rfl rfl) (pc' := 7) (r := []) (eq_emptyX hmn (x := x)) (by omega) (fun _ _ => rfl) (fun v hp' hP => ?_)
  obtain ⟨rfl, rfl⟩ := hP
  show em_G l D τ sa A own mname bytes 1 1 (0, 0) (some .int) _ (7, [some (.inr (.inr (.inl (some 5))))], [.inl (x)], (et_lc (0)), 0, 0)
  exact ej_ireturn hmn (eg_at hT 0 3 rfl rfl) (@decide_eq_true _ (Classical.propDecidable _) ⟨rfl, rfl⟩)
