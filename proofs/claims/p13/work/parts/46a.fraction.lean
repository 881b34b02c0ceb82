/-! commonDivisor, setFraction of the class, by hand. Printed by wip/p3/savegen.py. -/
theorem eq_cd_l {l : Launch} {D : va_G} {τ : Nat → ClassId} {sa : List Nat} {A : Nat → Prop} (hmn : em_mna) {own mname : String} {bytes : ByteArray} (hT : ∀ ch ∈ eu_125, ∀ x ∈ ch, ek_J em_inf et_cls et_vt own mname bytes x) {d : Nat}  {K : Option ex_V → ex_H → Bool} {hp : ex_H} (hK : ∀ r : Int, -2147483648 ≤ r → r ≤ 2147483647 → K (some (.inl r)) hp = true) {p q : Int} : ∀ (i : Nat) (a_ b_ r : Int), 64 - r < i → (0 ≤ r ∧ r ≤ 64) → (-2147483648 ≤ a_ ∧ a_ ≤ 2147483647) → (-2147483648 ≤ b_ ∧ b_ ≤ 2147483647) → em_G l D τ sa A own mname bytes 6 d (0, 0) (some .int) K (7, [some (.inl (p)), some (.inl (q)), some (.inl (a_)), some (.inl (b_)), some (.inl (r)), none], [], hp, 0, 0) := by
  intro i
  induction i with
  | zero => intro a_ b_ r hi hr; exfalso; omega
  | succ i ih =>
    intro a_ b_ r hi hr ha hb
    refine ej_plain hmn (eg_at hT 0 6 rfl rfl) (pc' := 9) (ls' := [some (.inl (p)), some (.inl (q)), some (.inl (a_)), some (.inl (b_)), some (.inl (r)), none]) (st' := [.inl (r)]) (fun _ _ => rfl) ?_
    refine ej_plain hmn (eg_at hT 0 7 rfl rfl) (pc' := 11) (ls' := [some (.inl (p)), some (.inl (q)), some (.inl (a_)), some (.inl (b_)), some (.inl (r)), none]) (st' := [.inl (64), .inl (r)]) (fun _ _ => rfl) ?_
    refine ej_if_icmp hmn (eg_at hT 0 8 rfl rfl) (pc' := 14) rfl (fun _ => rfl) (fun (gc1 : 64 ≤ r) => ?_) (fun (gc1 : ¬ (64 ≤ r)) => ?_)
    · refine ej_plain hmn (eg_at hT 1 0 rfl rfl) (pc' := 35) (ls' := [some (.inl (p)), some (.inl (q)), some (.inl (a_)), some (.inl (b_)), some (.inl (r)), none]) (st' := [.inl (a_)]) (fun _ _ => rfl) ?_
      exact ej_ireturn hmn (eg_at hT 1 1 rfl rfl) (hK _ (by omega) (by omega))
    · refine ej_plain hmn (eg_at hT 0 9 rfl rfl) (pc' := 15) (ls' := [some (.inl (p)), some (.inl (q)), some (.inl (a_)), some (.inl (b_)), some (.inl (r)), none]) (st' := [.inl (b_)]) (fun _ _ => rfl) ?_
      refine ej_ifCond hmn (eg_at hT 0 10 rfl rfl) (pc' := 18) rfl (fun _ => rfl) (fun (gc2 : b_ = 0) => ?_) (fun (gc2 : ¬ (b_ = 0)) => ?_)
      · refine ej_plain hmn (eg_at hT 1 0 rfl rfl) (pc' := 35) (ls' := [some (.inl (p)), some (.inl (q)), some (.inl (a_)), some (.inl (b_)), some (.inl (r)), none]) (st' := [.inl (a_)]) (fun _ _ => rfl) ?_
        exact ej_ireturn hmn (eg_at hT 1 1 rfl rfl) (hK _ (by omega) (by omega))
      · refine ej_plain hmn (eg_at hT 0 11 rfl rfl) (pc' := 19) (ls' := [some (.inl (p)), some (.inl (q)), some (.inl (a_)), some (.inl (b_)), some (.inl (r)), none]) (st' := [.inl (a_)]) (fun _ _ => rfl) ?_
        refine ej_plain hmn (eg_at hT 0 12 rfl rfl) (pc' := 20) (ls' := [some (.inl (p)), some (.inl (q)), some (.inl (a_)), some (.inl (b_)), some (.inl (r)), none]) (st' := [.inl (b_), .inl (a_)]) (fun _ _ => rfl) ?_
        refine ej_iremw hmn (eg_at hT 0 13 rfl rfl) (pc' := 21) rfl (by omega) (fun gv3 gv3a gv3b => ?_)
        refine ej_plain hmn (eg_at hT 0 14 rfl rfl) (pc' := 23) (ls' := [some (.inl (p)), some (.inl (q)), some (.inl (a_)), some (.inl (b_)), some (.inl (r)), some (.inl (gv3))]) (st' := []) (fun _ _ => rfl) ?_
        refine ej_plain hmn (eg_at hT 0 15 rfl rfl) (pc' := 24) (ls' := [some (.inl (p)), some (.inl (q)), some (.inl (a_)), some (.inl (b_)), some (.inl (r)), some (.inl (gv3))]) (st' := [.inl (b_)]) (fun _ _ => rfl) ?_
        refine ej_plain hmn (eg_at hT 0 16 rfl rfl) (pc' := 25) (ls' := [some (.inl (p)), some (.inl (q)), some (.inl (b_)), some (.inl (b_)), some (.inl (r)), some (.inl (gv3))]) (st' := []) (fun _ _ => rfl) ?_
        refine ej_plain hmn (eg_at hT 0 17 rfl rfl) (pc' := 27) (ls' := [some (.inl (p)), some (.inl (q)), some (.inl (b_)), some (.inl (b_)), some (.inl (r)), some (.inl (gv3))]) (st' := [.inl (gv3)]) (fun _ _ => rfl) ?_
        refine ej_plain hmn (eg_at hT 0 18 rfl rfl) (pc' := 28) (ls' := [some (.inl (p)), some (.inl (q)), some (.inl (b_)), some (.inl (gv3)), some (.inl (r)), some (.inl (gv3))]) (st' := []) (fun _ _ => rfl) ?_
        refine ej_iinc hmn (eg_at hT 0 19 rfl rfl) (pc' := 31) rfl (w := 1) rfl (fun _ => rfl) (lsf := fun V => [some (.inl (p)), some (.inl (q)), some (.inl (b_)), some (.inl (gv3)), some V, some (.inl (gv3))]) (fun _ _ => rfl) (by decide) (by decide) (by omega) (by omega) ?_
        refine ej_plain hmn (eg_at hT 0 20 rfl rfl) (pc' := 7) (ls' := [some (.inl (p)), some (.inl (q)), some (.inl (b_)), some (.inl (gv3)), some (.inl (r + 1)), some (.inl (gv3))]) (st' := []) (fun _ _ => rfl) ?_
        refine ej_drop 5 rfl ?_
        exact ih _ _ _ (by omega) (by omega) (by omega) (by omega)
theorem eq_commonDivisor {l : Launch} {D : va_G} {τ : Nat → ClassId} {sa : List Nat} {A : Nat → Prop} (hmn : em_mna) {hp : ex_H} {p q : Int} (hp' : -2147483648 ≤ p ∧ p ≤ 2147483647) (hq : -2147483648 ≤ q ∧ q ≤ 2147483647) : em_X l D τ sa A 125 [.inl p, .inl q] hp (fun w hp' => ∃ r : Int, w = some (.inl r) ∧ hp' = hp ∧ -2147483648 ≤ r ∧ r ≤ 2147483647) 0 := by
  refine em_X.of (tb := eu_125) (nl := 6) (ret := some .int) rfl (q := [some (.inl (p)), some (.inl (q)), none, none, none, none]) (fun _ => rfl) (fun own mname bytes hT => ?_)
  refine ej_plain hmn (eg_at hT 0 0 rfl rfl) (pc' := 1) (ls' := [some (.inl (p)), some (.inl (q)), none, none, none, none]) (st' := [.inl (q)]) (fun _ _ => rfl) ?_
  refine ej_plain hmn (eg_at hT 0 1 rfl rfl) (pc' := 2) (ls' := [some (.inl (p)), some (.inl (q)), some (.inl (q)), none, none, none]) (st' := []) (fun _ _ => rfl) ?_
  refine ej_plain hmn (eg_at hT 0 2 rfl rfl) (pc' := 3) (ls' := [some (.inl (p)), some (.inl (q)), some (.inl (q)), none, none, none]) (st' := [.inl (p)]) (fun _ _ => rfl) ?_
  refine ej_plain hmn (eg_at hT 0 3 rfl rfl) (pc' := 4) (ls' := [some (.inl (p)), some (.inl (q)), some (.inl (q)), some (.inl (p)), none, none]) (st' := []) (fun _ _ => rfl) ?_
  refine ej_plain hmn (eg_at hT 0 4 rfl rfl) (pc' := 5) (ls' := [some (.inl (p)), some (.inl (q)), some (.inl (q)), some (.inl (p)), none, none]) (st' := [.inl (0)]) (fun _ _ => rfl) ?_
  refine ej_plain hmn (eg_at hT 0 5 rfl rfl) (pc' := 7) (ls' := [some (.inl (p)), some (.inl (q)), some (.inl (q)), some (.inl (p)), some (.inl (0)), none]) (st' := []) (fun _ _ => rfl) ?_
  exact eq_cd_l hmn hT (fun r r0 r1 => @decide_eq_true _ (Classical.propDecidable _) ⟨r, rfl, rfl, r0, r1⟩) 65 q p 0 (by decide) (by decide) hq hp'
theorem eq_setFraction {l : Launch} {D : va_G} {τ : Nat → ClassId} {sa : List Nat} {A : Nat → Prop} (hmn : em_mna) {p q : Int} (hp' : -2147483648 ≤ p ∧ p ≤ 2147483647) (hq : -2147483648 ≤ q ∧ q ≤ 2147483647) : em_X l D τ sa A 124 [.inr (.inr (.inl (some 5))), .inl p, .inl q] ei_h0 (fun w hp' => w = none ∧ hp' = ei_h0) 1 := by
  refine em_X.of (tb := eu_124) (nl := 4) (ret := none) rfl (q := [some (.inr (.inr (.inl (some 5)))), some (.inl (p)), some (.inl (q)), none]) (fun _ => rfl) (fun own mname bytes hT => ?_)
  refine ej_plain hmn (eg_at hT 0 0 rfl rfl) (pc' := 1) (ls' := [some (.inr (.inr (.inl (some 5)))), some (.inl (p)), some (.inl (q)), none]) (st' := [.inl (p)]) (fun _ _ => rfl) ?_
  refine ej_plain hmn (eg_at hT 0 1 rfl rfl) (pc' := 2) (ls' := [some (.inr (.inr (.inl (some 5)))), some (.inl (p)), some (.inl (q)), none]) (st' := [.inl (q), .inl (p)]) (fun _ _ => rfl) ?_
  refine ej_call hmn (eg_at hT 0 2 rfl rfl) (pc' := 5) (r := []) (eq_commonDivisor hmn hp' hq) (by omega) (fun _ _ => rfl) (fun v hp' hP => ?_)
  obtain ⟨cd, rfl, rfl, cdl, cdh⟩ := hP
  show em_G l D τ sa A own mname bytes 4 1 (0, 0) none _ (5, [some (.inr (.inr (.inl (some 5)))), some (.inl (p)), some (.inl (q)), none], [.inl (cd)], ei_h0, 0, 0)
  refine ej_plain hmn (eg_at hT 0 3 rfl rfl) (pc' := 6) (ls' := [some (.inr (.inr (.inl (some 5)))), some (.inl (p)), some (.inl (q)), some (.inl (cd))]) (st' := []) (fun _ _ => rfl) ?_
  refine ej_plain hmn (eg_at hT 0 4 rfl rfl) (pc' := 7) (ls' := [some (.inr (.inr (.inl (some 5)))), some (.inl (p)), some (.inl (q)), some (.inl (cd))]) (st' := [.inl (cd)]) (fun _ _ => rfl) ?_
  refine ej_ifCond hmn (eg_at hT 0 5 rfl rfl) (pc' := 10) rfl (fun _ => rfl) (fun (gc1 : cd ≤ 0) => ?_) (fun (gc1 : ¬ (cd ≤ 0)) => ?_)
  · exact ej_return hmn (eg_at hT 0 18 rfl rfl) (@decide_eq_true _ (Classical.propDecidable _) ⟨rfl, rfl⟩)
  · refine ej_plain hmn (eg_at hT 0 6 rfl rfl) (pc' := 11) (ls' := [some (.inr (.inr (.inl (some 5)))), some (.inl (p)), some (.inl (q)), some (.inl (cd))]) (st' := [.inr (.inr (.inl (some 5)))]) (fun _ _ => rfl) ?_
    refine ej_plain hmn (eg_at hT 0 7 rfl rfl) (pc' := 12) (ls' := [some (.inr (.inr (.inl (some 5)))), some (.inl (p)), some (.inl (q)), some (.inl (cd))]) (st' := [.inl (p), .inr (.inr (.inl (some 5)))]) (fun _ _ => rfl) ?_
    refine ej_plain hmn (eg_at hT 0 8 rfl rfl) (pc' := 13) (ls' := [some (.inr (.inr (.inl (some 5)))), some (.inl (p)), some (.inl (q)), some (.inl (cd))]) (st' := [.inl (cd), .inl (p), .inr (.inr (.inl (some 5)))]) (fun _ _ => rfl) ?_
    refine ej_idivw hmn (eg_at hT 0 9 rfl rfl) (pc' := 14) rfl (by omega) (fun gv2 gv2a gv2b => ?_)
    refine ej_plain hmn (eg_at hT 0 10 rfl rfl) (pc' := 15) (ls' := [some (.inr (.inr (.inl (some 5)))), some (.inl (p)), some (.inl (q)), some (.inl (cd))]) (st' := [.inr (.inl (gv2)), .inr (.inr (.inl (some 5)))]) (fun _ _ => rfl) ?_
    refine ej_putW hmn (eg_at hT 0 11 rfl rfl) (pc' := 18) rfl rfl (Nat.le_of_ble_eq_true rfl) (fun _ => rfl) rfl rfl (fun _ _ => er_topJ) ?_
    refine ej_plain hmn (eg_at hT 0 12 rfl rfl) (pc' := 19) (ls' := [some (.inr (.inr (.inl (some 5)))), some (.inl (p)), some (.inl (q)), some (.inl (cd))]) (st' := [.inr (.inr (.inl (some 5)))]) (fun _ _ => rfl) ?_
    refine ej_plain hmn (eg_at hT 0 13 rfl rfl) (pc' := 20) (ls' := [some (.inr (.inr (.inl (some 5)))), some (.inl (p)), some (.inl (q)), some (.inl (cd))]) (st' := [.inl (q), .inr (.inr (.inl (some 5)))]) (fun _ _ => rfl) ?_
    refine ej_plain hmn (eg_at hT 0 14 rfl rfl) (pc' := 21) (ls' := [some (.inr (.inr (.inl (some 5)))), some (.inl (p)), some (.inl (q)), some (.inl (cd))]) (st' := [.inl (cd), .inl (q), .inr (.inr (.inl (some 5)))]) (fun _ _ => rfl) ?_
    refine ej_idivw hmn (eg_at hT 0 15 rfl rfl) (pc' := 22) rfl (by omega) (fun gv3 gv3a gv3b => ?_)
    refine ej_plain hmn (eg_at hT 0 16 rfl rfl) (pc' := 23) (ls' := [some (.inr (.inr (.inl (some 5)))), some (.inl (p)), some (.inl (q)), some (.inl (cd))]) (st' := [.inr (.inl (gv3)), .inr (.inr (.inl (some 5)))]) (fun _ _ => rfl) ?_
    refine ej_putW hmn (eg_at hT 0 17 rfl rfl) (pc' := 26) rfl rfl (Nat.le_of_ble_eq_true rfl) (fun _ => rfl) rfl rfl (fun _ _ => er_topJ) ?_
    exact ej_return hmn (eg_at hT 0 18 rfl rfl) (@decide_eq_true _ (Classical.propDecidable _) ⟨rfl, rfl⟩)
theorem ec_setFraction_k {l : Launch} {D : va_G} {τ : Nat → ClassId} {sa : List Nat} {A : Nat → Prop} (hmn : em_mna) : em_E l D τ sa A em_inf 124 ([.inr (.inr (.inl (some 5))), .inr (.inr (.inr (.inl (-2147483648, 2147483647)))), .inr (.inr (.inr (.inl (-2147483648, 2147483647))))], ei_h0, none, ei_h0, 1) := by
  refine ⟨_, _, _, _, rfl, Nat.le_of_ble_eq_true rfl, fun ν ro avs ws hs => ?_⟩
  obtain ⟨v0, vs0, rfl, g0, hs0⟩ := hs.cons
  obtain ⟨v1, vs1, rfl, ⟨x1, rfl, -, -⟩, hs1⟩ := hs0.cons
  obtain ⟨v2, vs2, rfl, ⟨x2, rfl, -, -⟩, hs2⟩ := hs1.cons
  obtain ⟨y', bytes', nl', ret', j1, j2, j3⟩ := eq_setFraction (l := l) (D := D) (τ := τ) (sa := sa) (A := A) hmn (p := x1.toInt) (q := x2.toInt) (ey_i32 x1) (ey_i32 x2)
  cases j1
  refine em_weak (j3 ν ro (v0 :: .int x1 :: .int x2 :: vs2) ws ⟨g0, er_int x1, er_int x2, hs2⟩) ?_
  rintro a st o t ⟨⟨ov, hp', ws', rv, k1, k2, k3, k4, k5⟩, k6⟩
  obtain ⟨rfl, rfl⟩ := @of_decide_eq_true _ (Classical.propDecidable _) k2
  exact ⟨⟨ws', rv, k1, k3, k4, k5⟩, k6⟩
