/-! The reference reads a text, by hand. Printed by wip/p3/textgen.py. -/
/-- INV with the reader's fields by letters: typed, at, start, token, value, items -/
def et_r (L a s t v n : Int) : ex_H := ex_hput ei_h0 345 ((nat_lit 3), (nat_lit 12), (nat_lit 0), (nat_lit 0), [.inr (.inr (.inl (some (nat_lit 346)))), .inr (.inr (.inl (some (nat_lit 347)))), .inr (.inr (.inl (some (nat_lit 348)))), .inr (.inr (.inl (some (nat_lit 349)))), .inr (.inr (.inr (.inr (.inl ((Int.negSucc (nat_lit 9223372036854775807)), (Int.ofNat (nat_lit 9223372036854775807))))))), .inr (.inr (.inr (.inr (.inl ((Int.negSucc (nat_lit 9223372036854775807)), (Int.ofNat (nat_lit 9223372036854775807))))))), .inr (.inr (.inl (some (nat_lit 350)))), .inl L, .inl a, .inl s, .inl t, .inl v, .inr (.inr (.inl (some (nat_lit 351)))), .inr (.inr (.inl (some (nat_lit 352)))), .inl n, .inr (.inr (.inl (some (nat_lit 353)))), .inr (.inr (.inl (some (nat_lit 354)))), .inr (.inr (.inl (some (nat_lit 355)))), .inr (.inr (.inl (some (nat_lit 356)))), .inr (.inr (.inl (some (nat_lit 357)))), .inr (.inr (.inr (.inl ((Int.negSucc (nat_lit 2147483647)), (Int.ofNat (nat_lit 2147483647)))))), .inr (.inr (.inr (.inl ((Int.negSucc (nat_lit 2147483647)), (Int.ofNat (nat_lit 2147483647)))))), .inr (.inr (.inr (.inl ((Int.negSucc (nat_lit 2147483647)), (Int.ofNat (nat_lit 2147483647)))))), .inr (.inr (.inl (some (nat_lit 358)))), .inr (.inr (.inr (.inl ((Int.negSucc (nat_lit 2147483647)), (Int.ofNat (nat_lit 2147483647)))))), .inr (.inr (.inl (some (nat_lit 359)))), .inr (.inr (.inl (some (nat_lit 360)))), .inr (.inr (.inl (some (nat_lit 361)))), .inr (.inr (.inl (some (nat_lit 362)))), .inr (.inr (.inl (some (nat_lit 363)))), .inr (.inr (.inl (some (nat_lit 364)))), .inr (.inr (.inl (some (nat_lit 365)))), .inr (.inr (.inl (some (nat_lit 366))))])
theorem eq_inG {l : Launch} {D : va_G} {τ : Nat → ClassId} {sa : List Nat} {A : Nat → Prop} (hmn : em_mna) {hp : ex_H} {v lo hi : Int} : em_X l D τ sa A 126 [.inr (.inl v), .inr (.inl lo), .inr (.inl hi)] hp (fun v' hp' => ∃ r : Int, v' = some (.inl r) ∧ hp' = hp ∧ (r = 0 ∨ r = 1) ∧ (r = 1 ↔ lo ≤ v ∧ v ≤ hi)) 0 := by
  refine em_X.of (tb := eu_126) (nl := 6) (ret := some .boolean) rfl (q := [some (.inr (.inl (v))), none, some (.inr (.inl (lo))), none, some (.inr (.inl (hi))), none]) (fun _ => rfl) (fun own mname bytes hT => ?_)
  refine ej_plain hmn (eg_at hT 0 0 rfl rfl) (pc' := 1) (ls' := [some (.inr (.inl (v))), none, some (.inr (.inl (lo))), none, some (.inr (.inl (hi))), none]) (st' := [.inr (.inl (v))]) (fun _ _ => rfl) ?_
  refine ej_plain hmn (eg_at hT 0 1 rfl rfl) (pc' := 2) (ls' := [some (.inr (.inl (v))), none, some (.inr (.inl (lo))), none, some (.inr (.inl (hi))), none]) (st' := [.inr (.inl (lo)), .inr (.inl (v))]) (fun _ _ => rfl) ?_
  refine ej_lcmp hmn (eg_at hT 0 2 rfl rfl) (pc' := 3) rfl (fun (gc1 : v < lo) => ?_) (fun (gc1 : v = lo) => ?_) (fun (gc1 : lo < v) => ?_)
  · refine ej_plain hmn (eg_at hT 0 3 rfl rfl) (pc' := 17) (ls' := [some (.inr (.inl (v))), none, some (.inr (.inl (lo))), none, some (.inr (.inl (hi))), none]) (st' := []) (fun _ _ => rfl) ?_
    refine ej_plain hmn (eg_at hT 0 10 rfl rfl) (pc' := 18) (ls' := [some (.inr (.inl (v))), none, some (.inr (.inl (lo))), none, some (.inr (.inl (hi))), none]) (st' := [.inl (0)]) (fun _ _ => rfl) ?_
    exact ej_zreturn hmn (eg_at hT 0 11 rfl rfl) (by omega) (by omega) (@decide_eq_true _ (Classical.propDecidable _) ⟨0, rfl, rfl, by omega, by omega⟩)
  · refine ej_plain hmn (eg_at hT 0 3 rfl rfl) (pc' := 6) (ls' := [some (.inr (.inl (v))), none, some (.inr (.inl (lo))), none, some (.inr (.inl (hi))), none]) (st' := []) (fun _ _ => rfl) ?_
    refine ej_plain hmn (eg_at hT 0 4 rfl rfl) (pc' := 7) (ls' := [some (.inr (.inl (v))), none, some (.inr (.inl (lo))), none, some (.inr (.inl (hi))), none]) (st' := [.inr (.inl (v))]) (fun _ _ => rfl) ?_
    refine ej_plain hmn (eg_at hT 0 5 rfl rfl) (pc' := 9) (ls' := [some (.inr (.inl (v))), none, some (.inr (.inl (lo))), none, some (.inr (.inl (hi))), none]) (st' := [.inr (.inl (hi)), .inr (.inl (v))]) (fun _ _ => rfl) ?_
    refine ej_lcmp hmn (eg_at hT 0 6 rfl rfl) (pc' := 10) rfl (fun (gc2 : v < hi) => ?_) (fun (gc2 : v = hi) => ?_) (fun (gc2 : hi < v) => ?_)
    · refine ej_plain hmn (eg_at hT 0 7 rfl rfl) (pc' := 13) (ls' := [some (.inr (.inl (v))), none, some (.inr (.inl (lo))), none, some (.inr (.inl (hi))), none]) (st' := []) (fun _ _ => rfl) ?_
      refine ej_plain hmn (eg_at hT 0 8 rfl rfl) (pc' := 14) (ls' := [some (.inr (.inl (v))), none, some (.inr (.inl (lo))), none, some (.inr (.inl (hi))), none]) (st' := [.inl (1)]) (fun _ _ => rfl) ?_
      refine ej_plain hmn (eg_at hT 0 9 rfl rfl) (pc' := 18) (ls' := [some (.inr (.inl (v))), none, some (.inr (.inl (lo))), none, some (.inr (.inl (hi))), none]) (st' := [.inl (1)]) (fun _ _ => rfl) ?_
      exact ej_zreturn hmn (eg_at hT 0 11 rfl rfl) (by omega) (by omega) (@decide_eq_true _ (Classical.propDecidable _) ⟨1, rfl, rfl, by omega, by omega⟩)
    · refine ej_plain hmn (eg_at hT 0 7 rfl rfl) (pc' := 13) (ls' := [some (.inr (.inl (v))), none, some (.inr (.inl (lo))), none, some (.inr (.inl (hi))), none]) (st' := []) (fun _ _ => rfl) ?_
      refine ej_plain hmn (eg_at hT 0 8 rfl rfl) (pc' := 14) (ls' := [some (.inr (.inl (v))), none, some (.inr (.inl (lo))), none, some (.inr (.inl (hi))), none]) (st' := [.inl (1)]) (fun _ _ => rfl) ?_
      refine ej_plain hmn (eg_at hT 0 9 rfl rfl) (pc' := 18) (ls' := [some (.inr (.inl (v))), none, some (.inr (.inl (lo))), none, some (.inr (.inl (hi))), none]) (st' := [.inl (1)]) (fun _ _ => rfl) ?_
      exact ej_zreturn hmn (eg_at hT 0 11 rfl rfl) (by omega) (by omega) (@decide_eq_true _ (Classical.propDecidable _) ⟨1, rfl, rfl, by omega, by omega⟩)
    · refine ej_plain hmn (eg_at hT 0 7 rfl rfl) (pc' := 17) (ls' := [some (.inr (.inl (v))), none, some (.inr (.inl (lo))), none, some (.inr (.inl (hi))), none]) (st' := []) (fun _ _ => rfl) ?_
      refine ej_plain hmn (eg_at hT 0 10 rfl rfl) (pc' := 18) (ls' := [some (.inr (.inl (v))), none, some (.inr (.inl (lo))), none, some (.inr (.inl (hi))), none]) (st' := [.inl (0)]) (fun _ _ => rfl) ?_
      exact ej_zreturn hmn (eg_at hT 0 11 rfl rfl) (by omega) (by omega) (@decide_eq_true _ (Classical.propDecidable _) ⟨0, rfl, rfl, by omega, by omega⟩)
  · refine ej_plain hmn (eg_at hT 0 3 rfl rfl) (pc' := 6) (ls' := [some (.inr (.inl (v))), none, some (.inr (.inl (lo))), none, some (.inr (.inl (hi))), none]) (st' := []) (fun _ _ => rfl) ?_
    refine ej_plain hmn (eg_at hT 0 4 rfl rfl) (pc' := 7) (ls' := [some (.inr (.inl (v))), none, some (.inr (.inl (lo))), none, some (.inr (.inl (hi))), none]) (st' := [.inr (.inl (v))]) (fun _ _ => rfl) ?_
    refine ej_plain hmn (eg_at hT 0 5 rfl rfl) (pc' := 9) (ls' := [some (.inr (.inl (v))), none, some (.inr (.inl (lo))), none, some (.inr (.inl (hi))), none]) (st' := [.inr (.inl (hi)), .inr (.inl (v))]) (fun _ _ => rfl) ?_
    refine ej_lcmp hmn (eg_at hT 0 6 rfl rfl) (pc' := 10) rfl (fun (gc3 : v < hi) => ?_) (fun (gc3 : v = hi) => ?_) (fun (gc3 : hi < v) => ?_)
    · refine ej_plain hmn (eg_at hT 0 7 rfl rfl) (pc' := 13) (ls' := [some (.inr (.inl (v))), none, some (.inr (.inl (lo))), none, some (.inr (.inl (hi))), none]) (st' := []) (fun _ _ => rfl) ?_
      refine ej_plain hmn (eg_at hT 0 8 rfl rfl) (pc' := 14) (ls' := [some (.inr (.inl (v))), none, some (.inr (.inl (lo))), none, some (.inr (.inl (hi))), none]) (st' := [.inl (1)]) (fun _ _ => rfl) ?_
      refine ej_plain hmn (eg_at hT 0 9 rfl rfl) (pc' := 18) (ls' := [some (.inr (.inl (v))), none, some (.inr (.inl (lo))), none, some (.inr (.inl (hi))), none]) (st' := [.inl (1)]) (fun _ _ => rfl) ?_
      exact ej_zreturn hmn (eg_at hT 0 11 rfl rfl) (by omega) (by omega) (@decide_eq_true _ (Classical.propDecidable _) ⟨1, rfl, rfl, by omega, by omega⟩)
    · refine ej_plain hmn (eg_at hT 0 7 rfl rfl) (pc' := 13) (ls' := [some (.inr (.inl (v))), none, some (.inr (.inl (lo))), none, some (.inr (.inl (hi))), none]) (st' := []) (fun _ _ => rfl) ?_
      refine ej_plain hmn (eg_at hT 0 8 rfl rfl) (pc' := 14) (ls' := [some (.inr (.inl (v))), none, some (.inr (.inl (lo))), none, some (.inr (.inl (hi))), none]) (st' := [.inl (1)]) (fun _ _ => rfl) ?_
      refine ej_plain hmn (eg_at hT 0 9 rfl rfl) (pc' := 18) (ls' := [some (.inr (.inl (v))), none, some (.inr (.inl (lo))), none, some (.inr (.inl (hi))), none]) (st' := [.inl (1)]) (fun _ _ => rfl) ?_
      exact ej_zreturn hmn (eg_at hT 0 11 rfl rfl) (by omega) (by omega) (@decide_eq_true _ (Classical.propDecidable _) ⟨1, rfl, rfl, by omega, by omega⟩)
    · refine ej_plain hmn (eg_at hT 0 7 rfl rfl) (pc' := 17) (ls' := [some (.inr (.inl (v))), none, some (.inr (.inl (lo))), none, some (.inr (.inl (hi))), none]) (st' := []) (fun _ _ => rfl) ?_
      refine ej_plain hmn (eg_at hT 0 10 rfl rfl) (pc' := 18) (ls' := [some (.inr (.inl (v))), none, some (.inr (.inl (lo))), none, some (.inr (.inl (hi))), none]) (st' := [.inl (0)]) (fun _ _ => rfl) ?_
      exact ej_zreturn hmn (eg_at hT 0 11 rfl rfl) (by omega) (by omega) (@decide_eq_true _ (Classical.propDecidable _) ⟨0, rfl, rfl, by omega, by omega⟩)
theorem eq_isAt {l : Launch} {D : va_G} {τ : Nat → ClassId} {sa : List Nat} {A : Nat → Prop} (hmn : em_mna) {L a s t v n lo hi : Int} (a0 : 0 ≤ a) (hL : L ≤ 300) : em_X l D τ sa A 151 [(.inr (.inr (.inl (some 345)))), .inl lo, .inl hi] (et_r L a s t v n) (fun v' hp' => ∃ r : Int, v' = some (.inl r) ∧ hp' = et_r L a s t v n ∧ (r = 0 ∨ r = 1) ∧ (r = 1 → a < L)) 1 := by
  refine em_X.of (tb := eu_151) (nl := 3) (ret := some .boolean) rfl (q := [some (.inr (.inr (.inl (some 345)))), some (.inl (lo)), some (.inl (hi))]) (fun _ => rfl) (fun own mname bytes hT => ?_)
  refine ej_plain hmn (eg_at hT 0 0 rfl rfl) (pc' := 1) (ls' := [some (.inr (.inr (.inl (some 345)))), some (.inl (lo)), some (.inl (hi))]) (st' := [.inr (.inr (.inl (some 345)))]) (fun _ _ => rfl) ?_
  refine ej_plain hmn (eg_at hT 0 1 rfl rfl) (pc' := 4) (ls' := [some (.inr (.inr (.inl (some 345)))), some (.inl (lo)), some (.inl (hi))]) (st' := [.inl (a)]) (fun _ _ => rfl) ?_
  refine ej_plain hmn (eg_at hT 0 2 rfl rfl) (pc' := 5) (ls' := [some (.inr (.inr (.inl (some 345)))), some (.inl (lo)), some (.inl (hi))]) (st' := [.inr (.inr (.inl (some 345))), .inl (a)]) (fun _ _ => rfl) ?_
  refine ej_plain hmn (eg_at hT 0 3 rfl rfl) (pc' := 8) (ls' := [some (.inr (.inr (.inl (some 345)))), some (.inl (lo)), some (.inl (hi))]) (st' := [.inl (L), .inl (a)]) (fun _ _ => rfl) ?_
  refine ej_if_icmp hmn (eg_at hT 0 4 rfl rfl) (pc' := 11) rfl (fun _ => rfl) (fun (gc1 : L ≤ a) => ?_) (fun (gc1 : ¬ (L ≤ a)) => ?_)
  · refine ej_plain hmn (eg_at hT 1 1 rfl rfl) (pc' := 36) (ls' := [some (.inr (.inr (.inl (some 345)))), some (.inl (lo)), some (.inl (hi))]) (st' := [.inl (0)]) (fun _ _ => rfl) ?_
    exact ej_zreturn hmn (eg_at hT 1 2 rfl rfl) (by omega) (by omega) (@decide_eq_true _ (Classical.propDecidable _) ⟨0, rfl, rfl, by omega, by omega⟩)
  · refine ej_plain hmn (eg_at hT 0 5 rfl rfl) (pc' := 12) (ls' := [some (.inr (.inr (.inl (some 345)))), some (.inl (lo)), some (.inl (hi))]) (st' := [.inr (.inr (.inl (some 345)))]) (fun _ _ => rfl) ?_
    refine ej_plain hmn (eg_at hT 0 6 rfl rfl) (pc' := 15) (ls' := [some (.inr (.inr (.inl (some 345)))), some (.inl (lo)), some (.inl (hi))]) (st' := [.inr (.inr (.inl (some 350)))]) (fun _ _ => rfl) ?_
    refine ej_plain hmn (eg_at hT 0 7 rfl rfl) (pc' := 16) (ls' := [some (.inr (.inr (.inl (some 345)))), some (.inl (lo)), some (.inl (hi))]) (st' := [.inr (.inr (.inl (some 345))), .inr (.inr (.inl (some 350)))]) (fun _ _ => rfl) ?_
    refine ej_plain hmn (eg_at hT 0 8 rfl rfl) (pc' := 19) (ls' := [some (.inr (.inr (.inl (some 345)))), some (.inl (lo)), some (.inl (hi))]) (st' := [.inl (a), .inr (.inr (.inl (some 350)))]) (fun _ _ => rfl) ?_
    refine ej_ialoadW hmn (eg_at hT 0 9 rfl rfl) (pc' := 20) (n := 300) (lo := (-2147483648)) (hi := (2147483647)) rfl (fun _ => rfl) (by omega) (by omega) (evw_350 _ (by omega)) (by decide) (fun gv2 gv2a gv2b => ?_)
    refine ej_plain hmn (eg_at hT 0 10 rfl rfl) (pc' := 21) (ls' := [some (.inr (.inr (.inl (some 345)))), some (.inl (lo)), some (.inl (hi))]) (st' := [.inr (.inl (gv2))]) (fun _ _ => rfl) ?_
    refine ej_plain hmn (eg_at hT 0 11 rfl rfl) (pc' := 22) (ls' := [some (.inr (.inr (.inl (some 345)))), some (.inl (lo)), some (.inl (hi))]) (st' := [.inl (lo), .inr (.inl (gv2))]) (fun _ _ => rfl) ?_
    refine ej_plain hmn (eg_at hT 0 12 rfl rfl) (pc' := 23) (ls' := [some (.inr (.inr (.inl (some 345)))), some (.inl (lo)), some (.inl (hi))]) (st' := [.inr (.inl (lo)), .inr (.inl (gv2))]) (fun _ _ => rfl) ?_
    refine ej_plain hmn (eg_at hT 0 13 rfl rfl) (pc' := 24) (ls' := [some (.inr (.inr (.inl (some 345)))), some (.inl (lo)), some (.inl (hi))]) (st' := [.inl (hi), .inr (.inl (lo)), .inr (.inl (gv2))]) (fun _ _ => rfl) ?_
    refine ej_plain hmn (eg_at hT 0 14 rfl rfl) (pc' := 25) (ls' := [some (.inr (.inr (.inl (some 345)))), some (.inl (lo)), some (.inl (hi))]) (st' := [.inr (.inl (hi)), .inr (.inl (lo)), .inr (.inl (gv2))]) (fun _ _ => rfl) ?_
    refine ej_call hmn (eg_at hT 0 15 rfl rfl) (pc' := 28) (r := []) (eq_inG hmn (v := gv2) (lo := lo) (hi := hi)) (by omega) (fun _ _ => rfl) (fun v hp' hP => ?_)
    obtain ⟨r1, rfl, rfl, r1a, r1b⟩ := hP
    show em_G l D τ sa A own mname bytes 3 1 (0, 0) (some .boolean) _ (28, [some (.inr (.inr (.inl (some 345)))), some (.inl (lo)), some (.inl (hi))], [.inl (r1)], (et_r (L) (a) (s) (t) (v) (n)), 0, 0)
    refine ej_ifCond hmn (eg_at hT 0 16 rfl rfl) (pc' := 31) rfl (fun _ => rfl) (fun (gc3 : r1 = 0) => ?_) (fun (gc3 : ¬ (r1 = 0)) => ?_)
    · refine ej_plain hmn (eg_at hT 1 1 rfl rfl) (pc' := 36) (ls' := [some (.inr (.inr (.inl (some 345)))), some (.inl (lo)), some (.inl (hi))]) (st' := [.inl (0)]) (fun _ _ => rfl) ?_
      exact ej_zreturn hmn (eg_at hT 1 2 rfl rfl) (by omega) (by omega) (@decide_eq_true _ (Classical.propDecidable _) ⟨0, rfl, rfl, by omega, by omega⟩)
    · refine ej_plain hmn (eg_at hT 0 17 rfl rfl) (pc' := 32) (ls' := [some (.inr (.inr (.inl (some 345)))), some (.inl (lo)), some (.inl (hi))]) (st' := [.inl (1)]) (fun _ _ => rfl) ?_
      refine ej_plain hmn (eg_at hT 1 0 rfl rfl) (pc' := 36) (ls' := [some (.inr (.inr (.inl (some 345)))), some (.inl (lo)), some (.inl (hi))]) (st' := [.inl (1)]) (fun _ _ => rfl) ?_
      exact ej_zreturn hmn (eg_at hT 1 2 rfl rfl) (by omega) (by omega) (@decide_eq_true _ (Classical.propDecidable _) ⟨1, rfl, rfl, by omega, by omega⟩)
theorem eq_wo_133 {l : Launch} {D : va_G} {τ : Nat → ClassId} {sa : List Nat} {A : Nat → Prop} (hmn : em_mna) {own mname : String} {bytes : ByteArray} (hT : ∀ ch ∈ eu_152, ∀ x ∈ ch, ek_J em_inf et_cls et_vt own mname bytes x) {d : Nat}  {K : Option ex_V → ex_H → Bool} {hp : ex_H} (hK : ∀ r : Int, (1 ≤ r ∧ r ≤ 19 ∧ r ≠ 3) → K (some (.inl r)) hp = true) {z : Int} : ∀ x y : Int, (1 ≤ x ∧ x ≤ 19 ∧ x ≠ 3) ∧ (1 ≤ y ∧ y ≤ 19 ∧ y ≠ 3) → em_G l D τ sa A own mname bytes 4 d (0, 0) (some .int) K (133, [some (.inr (.inl (z))), none, some (.inl (x)), none], [.inl (y)], hp, 0, 0) := by
  intro x y hx
  refine ej_plain hmn (eg_at hT 4 2 rfl rfl) (pc' := 134) (ls' := [some (.inr (.inl (z))), none, some (.inl (x)), some (.inl (y))]) (st' := []) (fun _ _ => rfl) ?_
  refine ej_plain hmn (eg_at hT 4 3 rfl rfl) (pc' := 135) (ls' := [some (.inr (.inl (z))), none, some (.inl (x)), some (.inl (y))]) (st' := [.inl (x)]) (fun _ _ => rfl) ?_
  refine ej_plain hmn (eg_at hT 4 4 rfl rfl) (pc' := 136) (ls' := [some (.inr (.inl (z))), none, some (.inl (x)), some (.inl (y))]) (st' := [.inl (1), .inl (x)]) (fun _ _ => rfl) ?_
  refine ej_if_icmp hmn (eg_at hT 4 5 rfl rfl) (pc' := 139) rfl (fun _ => rfl) (fun (gc1 : x = 1) => ?_) (fun (gc1 : ¬ (x = 1)) => ?_)
  · refine ej_plain hmn (eg_at hT 4 8 rfl rfl) (pc' := 144) (ls' := [some (.inr (.inl (z))), none, some (.inl (x)), some (.inl (y))]) (st' := [.inl (y)]) (fun _ _ => rfl) ?_
    exact ej_ireturn hmn (eg_at hT 4 9 rfl rfl) (hK _ (by omega))
  · refine ej_plain hmn (eg_at hT 4 6 rfl rfl) (pc' := 140) (ls' := [some (.inr (.inl (z))), none, some (.inl (x)), some (.inl (y))]) (st' := [.inl (x)]) (fun _ _ => rfl) ?_
    refine ej_plain hmn (eg_at hT 4 7 rfl rfl) (pc' := 144) (ls' := [some (.inr (.inl (z))), none, some (.inl (x)), some (.inl (y))]) (st' := [.inl (x)]) (fun _ _ => rfl) ?_
    exact ej_ireturn hmn (eg_at hT 4 9 rfl rfl) (hK _ (by omega))
theorem eq_wo_119 {l : Launch} {D : va_G} {τ : Nat → ClassId} {sa : List Nat} {A : Nat → Prop} (hmn : em_mna) {own mname : String} {bytes : ByteArray} (hT : ∀ ch ∈ eu_152, ∀ x ∈ ch, ek_J em_inf et_cls et_vt own mname bytes x) {d : Nat}  {K : Option ex_V → ex_H → Bool} {hp : ex_H} (hK : ∀ r : Int, (1 ≤ r ∧ r ≤ 19 ∧ r ≠ 3) → K (some (.inl r)) hp = true) {z : Int} : ∀ x : Int, (1 ≤ x ∧ x ≤ 19 ∧ x ≠ 3) → em_G l D τ sa A own mname bytes 4 d (0, 0) (some .int) K (119, [some (.inr (.inl (z))), none, some (.inl (x)), none], [], hp, 0, 0) := by
  intro x hx
  refine ej_plain hmn (eg_at hT 3 10 rfl rfl) (pc' := 120) (ls' := [some (.inr (.inl (z))), none, some (.inl (x)), none]) (st' := [.inr (.inl (z))]) (fun _ _ => rfl) ?_
  refine ej_plain hmn (eg_at hT 3 11 rfl rfl) (pc' := 123) (ls' := [some (.inr (.inl (z))), none, some (.inl (x)), none]) (st' := [.inr (.inl (508078)), .inr (.inl (z))]) (fun _ _ => rfl) ?_
  refine ej_lcmp hmn (eg_at hT 3 12 rfl rfl) (pc' := 124) rfl (fun (gc1 : z < 508078) => ?_) (fun (gc1 : z = 508078) => ?_) (fun (gc1 : 508078 < z) => ?_)
  · refine ej_plain hmn (eg_at hT 3 13 rfl rfl) (pc' := 132) (ls' := [some (.inr (.inl (z))), none, some (.inl (x)), none]) (st' := []) (fun _ _ => rfl) ?_
    refine ej_plain hmn (eg_at hT 4 1 rfl rfl) (pc' := 133) (ls' := [some (.inr (.inl (z))), none, some (.inl (x)), none]) (st' := [.inl (1)]) (fun _ _ => rfl) ?_
    exact eq_wo_133 hmn hT hK _ _ (by omega)
  · refine ej_plain hmn (eg_at hT 3 13 rfl rfl) (pc' := 127) (ls' := [some (.inr (.inl (z))), none, some (.inl (x)), none]) (st' := []) (fun _ _ => rfl) ?_
    refine ej_plain hmn (eg_at hT 3 14 rfl rfl) (pc' := 129) (ls' := [some (.inr (.inl (z))), none, some (.inl (x)), none]) (st' := [.inl (19)]) (fun _ _ => rfl) ?_
    refine ej_plain hmn (eg_at hT 4 0 rfl rfl) (pc' := 133) (ls' := [some (.inr (.inl (z))), none, some (.inl (x)), none]) (st' := [.inl (19)]) (fun _ _ => rfl) ?_
    exact eq_wo_133 hmn hT hK _ _ (by omega)
  · refine ej_plain hmn (eg_at hT 3 13 rfl rfl) (pc' := 132) (ls' := [some (.inr (.inl (z))), none, some (.inl (x)), none]) (st' := []) (fun _ _ => rfl) ?_
    refine ej_plain hmn (eg_at hT 4 1 rfl rfl) (pc' := 133) (ls' := [some (.inr (.inl (z))), none, some (.inl (x)), none]) (st' := [.inl (1)]) (fun _ _ => rfl) ?_
    exact eq_wo_133 hmn hT hK _ _ (by omega)
theorem eq_wo_106 {l : Launch} {D : va_G} {τ : Nat → ClassId} {sa : List Nat} {A : Nat → Prop} (hmn : em_mna) {own mname : String} {bytes : ByteArray} (hT : ∀ ch ∈ eu_152, ∀ x ∈ ch, ek_J em_inf et_cls et_vt own mname bytes x) {d : Nat}  {K : Option ex_V → ex_H → Bool} {hp : ex_H} (hK : ∀ r : Int, (1 ≤ r ∧ r ≤ 19 ∧ r ≠ 3) → K (some (.inl r)) hp = true) {z : Int} : ∀ x : Int, (1 ≤ x ∧ x ≤ 19 ∧ x ≠ 3) → em_G l D τ sa A own mname bytes 4 d (0, 0) (some .int) K (106, [some (.inr (.inl (z))), none, some (.inl (x)), none], [], hp, 0, 0) := by
  intro x hx
  refine ej_plain hmn (eg_at hT 3 4 rfl rfl) (pc' := 107) (ls' := [some (.inr (.inl (z))), none, some (.inl (x)), none]) (st' := [.inr (.inl (z))]) (fun _ _ => rfl) ?_
  refine ej_plain hmn (eg_at hT 3 5 rfl rfl) (pc' := 110) (ls' := [some (.inr (.inl (z))), none, some (.inl (x)), none]) (st' := [.inr (.inl (2692139)), .inr (.inl (z))]) (fun _ _ => rfl) ?_
  refine ej_lcmp hmn (eg_at hT 3 6 rfl rfl) (pc' := 111) rfl (fun (gc1 : z < 2692139) => ?_) (fun (gc1 : z = 2692139) => ?_) (fun (gc1 : 2692139 < z) => ?_)
  · refine ej_plain hmn (eg_at hT 3 7 rfl rfl) (pc' := 119) (ls' := [some (.inr (.inl (z))), none, some (.inl (x)), none]) (st' := []) (fun _ _ => rfl) ?_
    exact eq_wo_119 hmn hT hK _ (by omega)
  · refine ej_plain hmn (eg_at hT 3 7 rfl rfl) (pc' := 114) (ls' := [some (.inr (.inl (z))), none, some (.inl (x)), none]) (st' := []) (fun _ _ => rfl) ?_
    refine ej_plain hmn (eg_at hT 3 8 rfl rfl) (pc' := 116) (ls' := [some (.inr (.inl (z))), none, some (.inl (x)), none]) (st' := [.inl (18)]) (fun _ _ => rfl) ?_
    refine ej_plain hmn (eg_at hT 3 9 rfl rfl) (pc' := 133) (ls' := [some (.inr (.inl (z))), none, some (.inl (x)), none]) (st' := [.inl (18)]) (fun _ _ => rfl) ?_
    exact eq_wo_133 hmn hT hK _ _ (by omega)
  · refine ej_plain hmn (eg_at hT 3 7 rfl rfl) (pc' := 119) (ls' := [some (.inr (.inl (z))), none, some (.inl (x)), none]) (st' := []) (fun _ _ => rfl) ?_
    exact eq_wo_119 hmn hT hK _ (by omega)
theorem eq_wo_93 {l : Launch} {D : va_G} {τ : Nat → ClassId} {sa : List Nat} {A : Nat → Prop} (hmn : em_mna) {own mname : String} {bytes : ByteArray} (hT : ∀ ch ∈ eu_152, ∀ x ∈ ch, ek_J em_inf et_cls et_vt own mname bytes x) {d : Nat}  {K : Option ex_V → ex_H → Bool} {hp : ex_H} (hK : ∀ r : Int, (1 ≤ r ∧ r ≤ 19 ∧ r ≠ 3) → K (some (.inl r)) hp = true) {z : Int} : ∀ x : Int, (1 ≤ x ∧ x ≤ 19 ∧ x ≠ 3) → em_G l D τ sa A own mname bytes 4 d (0, 0) (some .int) K (93, [some (.inr (.inl (z))), none, some (.inl (x)), none], [], hp, 0, 0) := by
  intro x hx
  refine ej_plain hmn (eg_at hT 2 14 rfl rfl) (pc' := 94) (ls' := [some (.inr (.inl (z))), none, some (.inl (x)), none]) (st' := [.inr (.inl (z))]) (fun _ _ => rfl) ?_
  refine ej_plain hmn (eg_at hT 2 15 rfl rfl) (pc' := 97) (ls' := [some (.inr (.inl (z))), none, some (.inl (x)), none]) (st' := [.inr (.inl (113716)), .inr (.inl (z))]) (fun _ _ => rfl) ?_
  refine ej_lcmp hmn (eg_at hT 3 0 rfl rfl) (pc' := 98) rfl (fun (gc1 : z < 113716) => ?_) (fun (gc1 : z = 113716) => ?_) (fun (gc1 : 113716 < z) => ?_)
  · refine ej_plain hmn (eg_at hT 3 1 rfl rfl) (pc' := 106) (ls' := [some (.inr (.inl (z))), none, some (.inl (x)), none]) (st' := []) (fun _ _ => rfl) ?_
    exact eq_wo_106 hmn hT hK _ (by omega)
  · refine ej_plain hmn (eg_at hT 3 1 rfl rfl) (pc' := 101) (ls' := [some (.inr (.inl (z))), none, some (.inl (x)), none]) (st' := []) (fun _ _ => rfl) ?_
    refine ej_plain hmn (eg_at hT 3 2 rfl rfl) (pc' := 103) (ls' := [some (.inr (.inl (z))), none, some (.inl (x)), none]) (st' := [.inl (17)]) (fun _ _ => rfl) ?_
    refine ej_plain hmn (eg_at hT 3 3 rfl rfl) (pc' := 133) (ls' := [some (.inr (.inl (z))), none, some (.inl (x)), none]) (st' := [.inl (17)]) (fun _ _ => rfl) ?_
    exact eq_wo_133 hmn hT hK _ _ (by omega)
  · refine ej_plain hmn (eg_at hT 3 1 rfl rfl) (pc' := 106) (ls' := [some (.inr (.inl (z))), none, some (.inl (x)), none]) (st' := []) (fun _ _ => rfl) ?_
    exact eq_wo_106 hmn hT hK _ (by omega)
theorem eq_wo_80 {l : Launch} {D : va_G} {τ : Nat → ClassId} {sa : List Nat} {A : Nat → Prop} (hmn : em_mna) {own mname : String} {bytes : ByteArray} (hT : ∀ ch ∈ eu_152, ∀ x ∈ ch, ek_J em_inf et_cls et_vt own mname bytes x) {d : Nat}  {K : Option ex_V → ex_H → Bool} {hp : ex_H} (hK : ∀ r : Int, (1 ≤ r ∧ r ≤ 19 ∧ r ≠ 3) → K (some (.inl r)) hp = true) {z : Int} : ∀ x : Int, (1 ≤ x ∧ x ≤ 19 ∧ x ≠ 3) → em_G l D τ sa A own mname bytes 4 d (0, 0) (some .int) K (80, [some (.inr (.inl (z))), none, some (.inl (x)), none], [], hp, 0, 0) := by
  intro x hx
  refine ej_plain hmn (eg_at hT 2 8 rfl rfl) (pc' := 81) (ls' := [some (.inr (.inl (z))), none, some (.inl (x)), none]) (st' := [.inr (.inl (z))]) (fun _ _ => rfl) ?_
  refine ej_plain hmn (eg_at hT 2 9 rfl rfl) (pc' := 84) (ls' := [some (.inr (.inl (z))), none, some (.inl (x)), none]) (st' := [.inr (.inl (13358)), .inr (.inl (z))]) (fun _ _ => rfl) ?_
  refine ej_lcmp hmn (eg_at hT 2 10 rfl rfl) (pc' := 85) rfl (fun (gc1 : z < 13358) => ?_) (fun (gc1 : z = 13358) => ?_) (fun (gc1 : 13358 < z) => ?_)
  · refine ej_plain hmn (eg_at hT 2 11 rfl rfl) (pc' := 93) (ls' := [some (.inr (.inl (z))), none, some (.inl (x)), none]) (st' := []) (fun _ _ => rfl) ?_
    exact eq_wo_93 hmn hT hK _ (by omega)
  · refine ej_plain hmn (eg_at hT 2 11 rfl rfl) (pc' := 88) (ls' := [some (.inr (.inl (z))), none, some (.inl (x)), none]) (st' := []) (fun _ _ => rfl) ?_
    refine ej_plain hmn (eg_at hT 2 12 rfl rfl) (pc' := 90) (ls' := [some (.inr (.inl (z))), none, some (.inl (x)), none]) (st' := [.inl (16)]) (fun _ _ => rfl) ?_
    refine ej_plain hmn (eg_at hT 2 13 rfl rfl) (pc' := 133) (ls' := [some (.inr (.inl (z))), none, some (.inl (x)), none]) (st' := [.inl (16)]) (fun _ _ => rfl) ?_
    exact eq_wo_133 hmn hT hK _ _ (by omega)
  · refine ej_plain hmn (eg_at hT 2 11 rfl rfl) (pc' := 93) (ls' := [some (.inr (.inl (z))), none, some (.inl (x)), none]) (st' := []) (fun _ _ => rfl) ?_
    exact eq_wo_93 hmn hT hK _ (by omega)
theorem eq_wo_67 {l : Launch} {D : va_G} {τ : Nat → ClassId} {sa : List Nat} {A : Nat → Prop} (hmn : em_mna) {own mname : String} {bytes : ByteArray} (hT : ∀ ch ∈ eu_152, ∀ x ∈ ch, ek_J em_inf et_cls et_vt own mname bytes x) {d : Nat}  {K : Option ex_V → ex_H → Bool} {hp : ex_H} (hK : ∀ r : Int, (1 ≤ r ∧ r ≤ 19 ∧ r ≠ 3) → K (some (.inl r)) hp = true) {z : Int} : ∀ x : Int, (1 ≤ x ∧ x ≤ 19 ∧ x ≠ 3) → em_G l D τ sa A own mname bytes 4 d (0, 0) (some .int) K (67, [some (.inr (.inl (z))), none, some (.inl (x)), none], [], hp, 0, 0) := by
  intro x hx
  refine ej_plain hmn (eg_at hT 2 2 rfl rfl) (pc' := 68) (ls' := [some (.inr (.inl (z))), none, some (.inl (x)), none]) (st' := [.inr (.inl (z))]) (fun _ _ => rfl) ?_
  refine ej_plain hmn (eg_at hT 2 3 rfl rfl) (pc' := 71) (ls' := [some (.inr (.inl (z))), none, some (.inl (x)), none]) (st' := [.inr (.inl (267664)), .inr (.inl (z))]) (fun _ _ => rfl) ?_
  refine ej_lcmp hmn (eg_at hT 2 4 rfl rfl) (pc' := 72) rfl (fun (gc1 : z < 267664) => ?_) (fun (gc1 : z = 267664) => ?_) (fun (gc1 : 267664 < z) => ?_)
  · refine ej_plain hmn (eg_at hT 2 5 rfl rfl) (pc' := 80) (ls' := [some (.inr (.inl (z))), none, some (.inl (x)), none]) (st' := []) (fun _ _ => rfl) ?_
    exact eq_wo_80 hmn hT hK _ (by omega)
  · refine ej_plain hmn (eg_at hT 2 5 rfl rfl) (pc' := 75) (ls' := [some (.inr (.inl (z))), none, some (.inl (x)), none]) (st' := []) (fun _ _ => rfl) ?_
    refine ej_plain hmn (eg_at hT 2 6 rfl rfl) (pc' := 77) (ls' := [some (.inr (.inl (z))), none, some (.inl (x)), none]) (st' := [.inl (15)]) (fun _ _ => rfl) ?_
    refine ej_plain hmn (eg_at hT 2 7 rfl rfl) (pc' := 133) (ls' := [some (.inr (.inl (z))), none, some (.inl (x)), none]) (st' := [.inl (15)]) (fun _ _ => rfl) ?_
    exact eq_wo_133 hmn hT hK _ _ (by omega)
  · refine ej_plain hmn (eg_at hT 2 5 rfl rfl) (pc' := 80) (ls' := [some (.inr (.inl (z))), none, some (.inl (x)), none]) (st' := []) (fun _ _ => rfl) ?_
    exact eq_wo_80 hmn hT hK _ (by omega)
theorem eq_wo_66 {l : Launch} {D : va_G} {τ : Nat → ClassId} {sa : List Nat} {A : Nat → Prop} (hmn : em_mna) {own mname : String} {bytes : ByteArray} (hT : ∀ ch ∈ eu_152, ∀ x ∈ ch, ek_J em_inf et_cls et_vt own mname bytes x) {d : Nat}  {K : Option ex_V → ex_H → Bool} {hp : ex_H} (hK : ∀ r : Int, (1 ≤ r ∧ r ≤ 19 ∧ r ≠ 3) → K (some (.inl r)) hp = true) {z : Int} : ∀ x : Int, (1 ≤ x ∧ x ≤ 19 ∧ x ≠ 3) → em_G l D τ sa A own mname bytes 4 d (0, 0) (some .int) K (66, [some (.inr (.inl (z))), none, none, none], [.inl (x)], hp, 0, 0) := by
  intro x hx
  refine ej_plain hmn (eg_at hT 2 1 rfl rfl) (pc' := 67) (ls' := [some (.inr (.inl (z))), none, some (.inl (x)), none]) (st' := []) (fun _ _ => rfl) ?_
  exact eq_wo_67 hmn hT hK _ (by omega)
theorem eq_wo_52 {l : Launch} {D : va_G} {τ : Nat → ClassId} {sa : List Nat} {A : Nat → Prop} (hmn : em_mna) {own mname : String} {bytes : ByteArray} (hT : ∀ ch ∈ eu_152, ∀ x ∈ ch, ek_J em_inf et_cls et_vt own mname bytes x) {d : Nat}  {K : Option ex_V → ex_H → Bool} {hp : ex_H} (hK : ∀ r : Int, (1 ≤ r ∧ r ≤ 19 ∧ r ≠ 3) → K (some (.inl r)) hp = true) {z : Int} : em_G l D τ sa A own mname bytes 4 d (0, 0) (some .int) K (52, [some (.inr (.inl (z))), none, none, none], [], hp, 0, 0) := by
  refine ej_plain hmn (eg_at hT 1 8 rfl rfl) (pc' := 53) (ls' := [some (.inr (.inl (z))), none, none, none]) (st' := [.inr (.inl (z))]) (fun _ _ => rfl) ?_
  refine ej_plain hmn (eg_at hT 1 9 rfl rfl) (pc' := 56) (ls' := [some (.inr (.inl (z))), none, none, none]) (st' := [.inr (.inl (114052)), .inr (.inl (z))]) (fun _ _ => rfl) ?_
  refine ej_lcmp hmn (eg_at hT 1 10 rfl rfl) (pc' := 57) rfl (fun (gc1 : z < 114052) => ?_) (fun (gc1 : z = 114052) => ?_) (fun (gc1 : 114052 < z) => ?_)
  · refine ej_plain hmn (eg_at hT 1 11 rfl rfl) (pc' := 65) (ls' := [some (.inr (.inl (z))), none, none, none]) (st' := []) (fun _ _ => rfl) ?_
    refine ej_plain hmn (eg_at hT 2 0 rfl rfl) (pc' := 66) (ls' := [some (.inr (.inl (z))), none, none, none]) (st' := [.inl (1)]) (fun _ _ => rfl) ?_
    exact eq_wo_66 hmn hT hK _ (by omega)
  · refine ej_plain hmn (eg_at hT 1 11 rfl rfl) (pc' := 60) (ls' := [some (.inr (.inl (z))), none, none, none]) (st' := []) (fun _ _ => rfl) ?_
    refine ej_plain hmn (eg_at hT 1 12 rfl rfl) (pc' := 62) (ls' := [some (.inr (.inl (z))), none, none, none]) (st' := [.inl (14)]) (fun _ _ => rfl) ?_
    refine ej_plain hmn (eg_at hT 1 13 rfl rfl) (pc' := 66) (ls' := [some (.inr (.inl (z))), none, none, none]) (st' := [.inl (14)]) (fun _ _ => rfl) ?_
    exact eq_wo_66 hmn hT hK _ (by omega)
  · refine ej_plain hmn (eg_at hT 1 11 rfl rfl) (pc' := 65) (ls' := [some (.inr (.inl (z))), none, none, none]) (st' := []) (fun _ _ => rfl) ?_
    refine ej_plain hmn (eg_at hT 2 0 rfl rfl) (pc' := 66) (ls' := [some (.inr (.inl (z))), none, none, none]) (st' := [.inl (1)]) (fun _ _ => rfl) ?_
    exact eq_wo_66 hmn hT hK _ (by omega)
theorem eq_wo_39 {l : Launch} {D : va_G} {τ : Nat → ClassId} {sa : List Nat} {A : Nat → Prop} (hmn : em_mna) {own mname : String} {bytes : ByteArray} (hT : ∀ ch ∈ eu_152, ∀ x ∈ ch, ek_J em_inf et_cls et_vt own mname bytes x) {d : Nat}  {K : Option ex_V → ex_H → Bool} {hp : ex_H} (hK : ∀ r : Int, (1 ≤ r ∧ r ≤ 19 ∧ r ≠ 3) → K (some (.inl r)) hp = true) {z : Int} : em_G l D τ sa A own mname bytes 4 d (0, 0) (some .int) K (39, [some (.inr (.inl (z))), none, none, none], [], hp, 0, 0) := by
  refine ej_plain hmn (eg_at hT 1 2 rfl rfl) (pc' := 40) (ls' := [some (.inr (.inl (z))), none, none, none]) (st' := [.inr (.inl (z))]) (fun _ _ => rfl) ?_
  refine ej_plain hmn (eg_at hT 1 3 rfl rfl) (pc' := 43) (ls' := [some (.inr (.inl (z))), none, none, none]) (st' := [.inr (.inl (263623)), .inr (.inl (z))]) (fun _ _ => rfl) ?_
  refine ej_lcmp hmn (eg_at hT 1 4 rfl rfl) (pc' := 44) rfl (fun (gc1 : z < 263623) => ?_) (fun (gc1 : z = 263623) => ?_) (fun (gc1 : 263623 < z) => ?_)
  · refine ej_plain hmn (eg_at hT 1 5 rfl rfl) (pc' := 52) (ls' := [some (.inr (.inl (z))), none, none, none]) (st' := []) (fun _ _ => rfl) ?_
    exact eq_wo_52 hmn hT hK
  · refine ej_plain hmn (eg_at hT 1 5 rfl rfl) (pc' := 47) (ls' := [some (.inr (.inl (z))), none, none, none]) (st' := []) (fun _ _ => rfl) ?_
    refine ej_plain hmn (eg_at hT 1 6 rfl rfl) (pc' := 49) (ls' := [some (.inr (.inl (z))), none, none, none]) (st' := [.inl (13)]) (fun _ _ => rfl) ?_
    refine ej_plain hmn (eg_at hT 1 7 rfl rfl) (pc' := 66) (ls' := [some (.inr (.inl (z))), none, none, none]) (st' := [.inl (13)]) (fun _ _ => rfl) ?_
    exact eq_wo_66 hmn hT hK _ (by omega)
  · refine ej_plain hmn (eg_at hT 1 5 rfl rfl) (pc' := 52) (ls' := [some (.inr (.inl (z))), none, none, none]) (st' := []) (fun _ _ => rfl) ?_
    exact eq_wo_52 hmn hT hK
theorem eq_wo_26 {l : Launch} {D : va_G} {τ : Nat → ClassId} {sa : List Nat} {A : Nat → Prop} (hmn : em_mna) {own mname : String} {bytes : ByteArray} (hT : ∀ ch ∈ eu_152, ∀ x ∈ ch, ek_J em_inf et_cls et_vt own mname bytes x) {d : Nat}  {K : Option ex_V → ex_H → Bool} {hp : ex_H} (hK : ∀ r : Int, (1 ≤ r ∧ r ≤ 19 ∧ r ≠ 3) → K (some (.inl r)) hp = true) {z : Int} : em_G l D τ sa A own mname bytes 4 d (0, 0) (some .int) K (26, [some (.inr (.inl (z))), none, none, none], [], hp, 0, 0) := by
  refine ej_plain hmn (eg_at hT 0 12 rfl rfl) (pc' := 27) (ls' := [some (.inr (.inl (z))), none, none, none]) (st' := [.inr (.inl (z))]) (fun _ _ => rfl) ?_
  refine ej_plain hmn (eg_at hT 0 13 rfl rfl) (pc' := 30) (ls' := [some (.inr (.inl (z))), none, none, none]) (st' := [.inr (.inl (525939)), .inr (.inl (z))]) (fun _ _ => rfl) ?_
  refine ej_lcmp hmn (eg_at hT 0 14 rfl rfl) (pc' := 31) rfl (fun (gc1 : z < 525939) => ?_) (fun (gc1 : z = 525939) => ?_) (fun (gc1 : 525939 < z) => ?_)
  · refine ej_plain hmn (eg_at hT 0 15 rfl rfl) (pc' := 39) (ls' := [some (.inr (.inl (z))), none, none, none]) (st' := []) (fun _ _ => rfl) ?_
    exact eq_wo_39 hmn hT hK
  · refine ej_plain hmn (eg_at hT 0 15 rfl rfl) (pc' := 34) (ls' := [some (.inr (.inl (z))), none, none, none]) (st' := []) (fun _ _ => rfl) ?_
    refine ej_plain hmn (eg_at hT 1 0 rfl rfl) (pc' := 36) (ls' := [some (.inr (.inl (z))), none, none, none]) (st' := [.inl (12)]) (fun _ _ => rfl) ?_
    refine ej_plain hmn (eg_at hT 1 1 rfl rfl) (pc' := 66) (ls' := [some (.inr (.inl (z))), none, none, none]) (st' := [.inl (12)]) (fun _ _ => rfl) ?_
    exact eq_wo_66 hmn hT hK _ (by omega)
  · refine ej_plain hmn (eg_at hT 0 15 rfl rfl) (pc' := 39) (ls' := [some (.inr (.inl (z))), none, none, none]) (st' := []) (fun _ _ => rfl) ?_
    exact eq_wo_39 hmn hT hK
theorem eq_wo_13 {l : Launch} {D : va_G} {τ : Nat → ClassId} {sa : List Nat} {A : Nat → Prop} (hmn : em_mna) {own mname : String} {bytes : ByteArray} (hT : ∀ ch ∈ eu_152, ∀ x ∈ ch, ek_J em_inf et_cls et_vt own mname bytes x) {d : Nat}  {K : Option ex_V → ex_H → Bool} {hp : ex_H} (hK : ∀ r : Int, (1 ≤ r ∧ r ≤ 19 ∧ r ≠ 3) → K (some (.inl r)) hp = true) {z : Int} : em_G l D τ sa A own mname bytes 4 d (0, 0) (some .int) K (13, [some (.inr (.inl (z))), none, none, none], [], hp, 0, 0) := by
  refine ej_plain hmn (eg_at hT 0 6 rfl rfl) (pc' := 14) (ls' := [some (.inr (.inl (z))), none, none, none]) (st' := [.inr (.inl (z))]) (fun _ _ => rfl) ?_
  refine ej_plain hmn (eg_at hT 0 7 rfl rfl) (pc' := 17) (ls' := [some (.inr (.inl (z))), none, none, none]) (st' := [.inr (.inl (103820)), .inr (.inl (z))]) (fun _ _ => rfl) ?_
  refine ej_lcmp hmn (eg_at hT 0 8 rfl rfl) (pc' := 18) rfl (fun (gc1 : z < 103820) => ?_) (fun (gc1 : z = 103820) => ?_) (fun (gc1 : 103820 < z) => ?_)
  · refine ej_plain hmn (eg_at hT 0 9 rfl rfl) (pc' := 26) (ls' := [some (.inr (.inl (z))), none, none, none]) (st' := []) (fun _ _ => rfl) ?_
    exact eq_wo_26 hmn hT hK
  · refine ej_plain hmn (eg_at hT 0 9 rfl rfl) (pc' := 21) (ls' := [some (.inr (.inl (z))), none, none, none]) (st' := []) (fun _ _ => rfl) ?_
    refine ej_plain hmn (eg_at hT 0 10 rfl rfl) (pc' := 23) (ls' := [some (.inr (.inl (z))), none, none, none]) (st' := [.inl (11)]) (fun _ _ => rfl) ?_
    refine ej_plain hmn (eg_at hT 0 11 rfl rfl) (pc' := 66) (ls' := [some (.inr (.inl (z))), none, none, none]) (st' := [.inl (11)]) (fun _ _ => rfl) ?_
    exact eq_wo_66 hmn hT hK _ (by omega)
  · refine ej_plain hmn (eg_at hT 0 9 rfl rfl) (pc' := 26) (ls' := [some (.inr (.inl (z))), none, none, none]) (st' := []) (fun _ _ => rfl) ?_
    exact eq_wo_26 hmn hT hK
theorem eq_wo_0 {l : Launch} {D : va_G} {τ : Nat → ClassId} {sa : List Nat} {A : Nat → Prop} (hmn : em_mna) {own mname : String} {bytes : ByteArray} (hT : ∀ ch ∈ eu_152, ∀ x ∈ ch, ek_J em_inf et_cls et_vt own mname bytes x) {d : Nat}  {K : Option ex_V → ex_H → Bool} {hp : ex_H} (hK : ∀ r : Int, (1 ≤ r ∧ r ≤ 19 ∧ r ≠ 3) → K (some (.inl r)) hp = true) {z : Int} : em_G l D τ sa A own mname bytes 4 d (0, 0) (some .int) K (0, [some (.inr (.inl (z))), none, none, none], [], hp, 0, 0) := by
  refine ej_plain hmn (eg_at hT 0 0 rfl rfl) (pc' := 1) (ls' := [some (.inr (.inl (z))), none, none, none]) (st' := [.inr (.inl (z))]) (fun _ _ => rfl) ?_
  refine ej_plain hmn (eg_at hT 0 1 rfl rfl) (pc' := 4) (ls' := [some (.inr (.inl (z))), none, none, none]) (st' := [.inr (.inl (17076)), .inr (.inl (z))]) (fun _ _ => rfl) ?_
  refine ej_lcmp hmn (eg_at hT 0 2 rfl rfl) (pc' := 5) rfl (fun (gc1 : z < 17076) => ?_) (fun (gc1 : z = 17076) => ?_) (fun (gc1 : 17076 < z) => ?_)
  · refine ej_plain hmn (eg_at hT 0 3 rfl rfl) (pc' := 13) (ls' := [some (.inr (.inl (z))), none, none, none]) (st' := []) (fun _ _ => rfl) ?_
    exact eq_wo_13 hmn hT hK
  · refine ej_plain hmn (eg_at hT 0 3 rfl rfl) (pc' := 8) (ls' := [some (.inr (.inl (z))), none, none, none]) (st' := []) (fun _ _ => rfl) ?_
    refine ej_plain hmn (eg_at hT 0 4 rfl rfl) (pc' := 10) (ls' := [some (.inr (.inl (z))), none, none, none]) (st' := [.inl (10)]) (fun _ _ => rfl) ?_
    refine ej_plain hmn (eg_at hT 0 5 rfl rfl) (pc' := 66) (ls' := [some (.inr (.inl (z))), none, none, none]) (st' := [.inl (10)]) (fun _ _ => rfl) ?_
    exact eq_wo_66 hmn hT hK _ (by omega)
  · refine ej_plain hmn (eg_at hT 0 3 rfl rfl) (pc' := 13) (ls' := [some (.inr (.inl (z))), none, none, none]) (st' := []) (fun _ _ => rfl) ?_
    exact eq_wo_13 hmn hT hK
theorem eq_wordOf {l : Launch} {D : va_G} {τ : Nat → ClassId} {sa : List Nat} {A : Nat → Prop} (hmn : em_mna) {hp : ex_H} {z : Int} : em_X l D τ sa A 152 [.inr (.inl z)] hp (fun w hp' => ∃ r : Int, w = some (.inl r) ∧ hp' = hp ∧ (1 ≤ r ∧ r ≤ 19 ∧ r ≠ 3)) 0 := by
  refine em_X.of (tb := eu_152) (nl := 4) (ret := some .int) rfl (q := [some (.inr (.inl (z))), none, none, none]) (fun _ => rfl) (fun own mname bytes hT => ?_)
  exact eq_wo_0 hmn hT (fun r r0 => @decide_eq_true _ (Classical.propDecidable _) ⟨r, rfl, rfl, r0⟩)
theorem eq_sc_D {l : Launch} {D : va_G} {τ : Nat → ClassId} {sa : List Nat} {A : Nat → Prop} (hmn : em_mna) {own mname : String} {bytes : ByteArray} (hT : ∀ ch ∈ eu_153, ∀ x ∈ ch, ek_J em_inf et_cls et_vt own mname bytes x) {d : Nat} (hd : 2 ≤ d) {K : Option ex_V → ex_H → Bool} {L a0 n : Int} (hL : L ≤ 300) (z0 : 0 ≤ a0) (hK : ∀ a s t v : Int, (a0 ≤ s ∧ s ≤ a ∧ a ≤ L ∧ (-2147483648 ≤ t ∧ t ≤ 2147483647) ∧ (-2147483648 ≤ v ∧ v ≤ 2147483647) ∧ (t ≠ 0 → s < L) ∧ (t = 3 → s < a)) → K none (et_r L a s t v n) = true) {s t mi fr : Int} : ∀ (i : Nat) (a v : Int), L - a < i → (a0 ≤ s ∧ s ≤ fr ∧ fr ≤ a ∧ a ≤ L ∧ s < L ∧ (mi = 0 ∨ mi = 1) ∧ (mi = 1 → s < fr) ∧ (mi = 0 → fr = s) ∧ (-2147483648 ≤ v ∧ v ≤ 2147483647) ∧ (-2147483648 ≤ t ∧ t ≤ 2147483647)) → em_G l D τ sa A own mname bytes 3 d (0, 0) none K (189, [some (.inr (.inr (.inl (some 345)))), some (.inl (mi)), some (.inl (fr))], [], (et_r (L) (a) (s) (t) (v) (n)), 0, 0) := by
  intro i
  induction i with
  | zero => intro a v hi hv; exfalso; omega
  | succ i ih =>
    intro a v hi hv
    refine ej_plain hmn (eg_at hT 5 17 rfl rfl) (pc' := 190) (ls' := [some (.inr (.inr (.inl (some 345)))), some (.inl (mi)), some (.inl (fr))]) (st' := [.inr (.inr (.inl (some 345)))]) (fun _ _ => rfl) ?_
    refine ej_plain hmn (eg_at hT 5 18 rfl rfl) (pc' := 192) (ls' := [some (.inr (.inr (.inl (some 345)))), some (.inl (mi)), some (.inl (fr))]) (st' := [.inl (48), .inr (.inr (.inl (some 345)))]) (fun _ _ => rfl) ?_
    refine ej_plain hmn (eg_at hT 6 0 rfl rfl) (pc' := 194) (ls' := [some (.inr (.inr (.inl (some 345)))), some (.inl (mi)), some (.inl (fr))]) (st' := [.inl (57), .inl (48), .inr (.inr (.inl (some 345)))]) (fun _ _ => rfl) ?_
    refine ej_call hmn (eg_at hT 6 1 rfl rfl) (pc' := 197) (r := []) (eq_isAt hmn (lo := 48) (hi := 57) (by omega) hL) (by omega) (fun _ _ => rfl) (fun v hp' hP => ?_)
    obtain ⟨dr1, rfl, rfl, dr1a, dr1b⟩ := hP
    show em_G l D τ sa A own mname bytes 3 d (0, 0) none K (197, [some (.inr (.inr (.inl (some 345)))), some (.inl (mi)), some (.inl (fr))], [.inl (dr1)], (et_r (L) (a) (s) (t) (v) (n)), 0, 0)
    refine ej_ifCond hmn (eg_at hT 6 2 rfl rfl) (pc' := 200) rfl (fun _ => rfl) (fun (dc2 : dr1 = 0) => ?_) (fun (dc2 : ¬ (dr1 = 0)) => ?_)
    · refine ej_plain hmn (eg_at hT 7 15 rfl rfl) (pc' := 255) (ls' := [some (.inr (.inr (.inl (some 345)))), some (.inl (mi)), some (.inl (fr))]) (st' := [.inl (mi)]) (fun _ _ => rfl) ?_
      refine ej_ifCond hmn (eg_at hT 7 16 rfl rfl) (pc' := 258) rfl (fun _ => rfl) (fun (dc3 : mi ≠ 0) => ?_) (fun (dc3 : ¬ (mi ≠ 0)) => ?_)
      · refine ej_plain hmn (eg_at hT 8 4 rfl rfl) (pc' := 267) (ls' := [some (.inr (.inr (.inl (some 345)))), some (.inl (mi)), some (.inl (fr))]) (st' := [.inr (.inr (.inl (some 345)))]) (fun _ _ => rfl) ?_
        refine ej_plain hmn (eg_at hT 8 5 rfl rfl) (pc' := 268) (ls' := [some (.inr (.inr (.inl (some 345)))), some (.inl (mi)), some (.inl (fr))]) (st' := [.inr (.inr (.inl (some 345))), .inr (.inr (.inl (some 345)))]) (fun _ _ => rfl) ?_
        refine ej_plain hmn (eg_at hT 8 6 rfl rfl) (pc' := 271) (ls' := [some (.inr (.inr (.inl (some 345)))), some (.inl (mi)), some (.inl (fr))]) (st' := [.inl (a), .inr (.inr (.inl (some 345)))]) (fun _ _ => rfl) ?_
        refine ej_plain hmn (eg_at hT 8 7 rfl rfl) (pc' := 272) (ls' := [some (.inr (.inr (.inl (some 345)))), some (.inl (mi)), some (.inl (fr))]) (st' := [.inl (fr), .inl (a), .inr (.inr (.inl (some 345)))]) (fun _ _ => rfl) ?_
        refine ej_isub hmn (eg_at hT 8 8 rfl rfl) (pc' := 273) rfl (by omega) (by omega) ?_
        refine ej_plain hmn (eg_at hT 8 9 rfl rfl) (pc' := 274) (ls' := [some (.inr (.inr (.inl (some 345)))), some (.inl (mi)), some (.inl (fr))]) (st' := [.inr (.inl (a - fr)), .inr (.inr (.inl (some 345)))]) (fun _ _ => rfl) ?_
        refine ej_plain hmn (eg_at hT 8 10 rfl rfl) (pc' := 275) (ls' := [some (.inr (.inr (.inl (some 345)))), some (.inl (mi)), some (.inl (fr))]) (st' := [.inr (.inl (1)), .inr (.inl (a - fr)), .inr (.inr (.inl (some 345)))]) (fun _ _ => rfl) ?_
        refine ej_plain hmn (eg_at hT 8 11 rfl rfl) (pc' := 278) (ls' := [some (.inr (.inr (.inl (some 345)))), some (.inl (mi)), some (.inl (fr))]) (st' := [.inr (.inl (3)), .inr (.inl (1)), .inr (.inl (a - fr)), .inr (.inr (.inl (some 345)))]) (fun _ _ => rfl) ?_
        refine ej_call hmn (eg_at hT 8 12 rfl rfl) (pc' := 281) (r := [.inr (.inr (.inl (some 345)))]) (eq_inG hmn (v := a - fr) (lo := 1) (hi := 3)) (by omega) (fun _ _ => rfl) (fun v hp' hP => ?_)
        obtain ⟨dr4, rfl, rfl, dr4a, dr4b⟩ := hP
        show em_G l D τ sa A own mname bytes 3 d (0, 0) none K (281, [some (.inr (.inr (.inl (some 345)))), some (.inl (mi)), some (.inl (fr))], [.inl (dr4), .inr (.inr (.inl (some 345)))], (et_r (L) (a) (s) (t) (v) (n)), 0, 0)
        refine ej_ifCond hmn (eg_at hT 8 13 rfl rfl) (pc' := 284) rfl (fun _ => rfl) (fun (dc5 : dr4 = 0) => ?_) (fun (dc5 : ¬ (dr4 = 0)) => ?_)
        · refine ej_plain hmn (eg_at hT 9 0 rfl rfl) (pc' := 289) (ls' := [some (.inr (.inr (.inl (some 345)))), some (.inl (mi)), some (.inl (fr))]) (st' := [.inl (1), .inr (.inr (.inl (some 345)))]) (fun _ _ => rfl) ?_
          refine ej_plain hmn (eg_at hT 9 1 rfl rfl) (pc' := 292) (ls' := [some (.inr (.inr (.inl (some 345)))), some (.inl (mi)), some (.inl (fr))]) (st' := []) (hp' := (et_r (L) (a) (s) (1) (v) (n))) (fun _ _ => rfl) ?_
          refine ej_plain hmn (eg_at hT 9 2 rfl rfl) (pc' := 293) (ls' := [some (.inr (.inr (.inl (some 345)))), some (.inl (mi)), some (.inl (fr))]) (st' := [.inr (.inr (.inl (some 345)))]) (fun _ _ => rfl) ?_
          refine ej_plain hmn (eg_at hT 9 3 rfl rfl) (pc' := 294) (ls' := [some (.inr (.inr (.inl (some 345)))), some (.inl (mi)), some (.inl (fr))]) (st' := [.inl (mi), .inr (.inr (.inl (some 345)))]) (fun _ _ => rfl) ?_
          refine ej_ifCond hmn (eg_at hT 9 4 rfl rfl) (pc' := 297) rfl (fun _ => rfl) (fun (dc6 : mi = 0) => ?_) (fun (dc6 : ¬ (mi = 0)) => ?_)
          · refine ej_plain hmn (eg_at hT 9 9 rfl rfl) (pc' := 306) (ls' := [some (.inr (.inr (.inl (some 345)))), some (.inl (mi)), some (.inl (fr))]) (st' := [.inr (.inr (.inl (some 345))), .inr (.inr (.inl (some 345)))]) (fun _ _ => rfl) ?_
            refine ej_plain hmn (eg_at hT 9 10 rfl rfl) (pc' := 309) (ls' := [some (.inr (.inr (.inl (some 345)))), some (.inl (mi)), some (.inl (fr))]) (st' := [.inl (v), .inr (.inr (.inl (some 345)))]) (fun _ _ => rfl) ?_
            refine ej_plain hmn (eg_at hT 9 11 rfl rfl) (pc' := 312) (ls' := [some (.inr (.inr (.inl (some 345)))), some (.inl (mi)), some (.inl (fr))]) (st' := []) (hp' := (et_r (L) (a) (s) (1) (v) (n))) (fun _ _ => rfl) ?_
            exact ej_return hmn (eg_at hT 9 12 rfl rfl) (hK _ _ _ _ (by omega))
          · refine ej_plain hmn (eg_at hT 9 5 rfl rfl) (pc' := 298) (ls' := [some (.inr (.inr (.inl (some 345)))), some (.inl (mi)), some (.inl (fr))]) (st' := [.inr (.inr (.inl (some 345))), .inr (.inr (.inl (some 345)))]) (fun _ _ => rfl) ?_
            refine ej_plain hmn (eg_at hT 9 6 rfl rfl) (pc' := 301) (ls' := [some (.inr (.inr (.inl (some 345)))), some (.inl (mi)), some (.inl (fr))]) (st' := [.inl (v), .inr (.inr (.inl (some 345)))]) (fun _ _ => rfl) ?_
            refine ej_inegw hmn (eg_at hT 9 7 rfl rfl) (pc' := 302) rfl (fun dv7 dv7a dv7b => ?_)
            refine ej_plain hmn (eg_at hT 9 8 rfl rfl) (pc' := 309) (ls' := [some (.inr (.inr (.inl (some 345)))), some (.inl (mi)), some (.inl (fr))]) (st' := [.inl (dv7), .inr (.inr (.inl (some 345)))]) (fun _ _ => rfl) ?_
            refine ej_plain hmn (eg_at hT 9 11 rfl rfl) (pc' := 312) (ls' := [some (.inr (.inr (.inl (some 345)))), some (.inl (mi)), some (.inl (fr))]) (st' := []) (hp' := (et_r (L) (a) (s) (1) (dv7) (n))) (fun _ _ => rfl) ?_
            exact ej_return hmn (eg_at hT 9 12 rfl rfl) (hK _ _ _ _ (by omega))
        · refine ej_plain hmn (eg_at hT 8 14 rfl rfl) (pc' := 285) (ls' := [some (.inr (.inr (.inl (some 345)))), some (.inl (mi)), some (.inl (fr))]) (st' := [.inl (2), .inr (.inr (.inl (some 345)))]) (fun _ _ => rfl) ?_
          refine ej_plain hmn (eg_at hT 8 15 rfl rfl) (pc' := 289) (ls' := [some (.inr (.inr (.inl (some 345)))), some (.inl (mi)), some (.inl (fr))]) (st' := [.inl (2), .inr (.inr (.inl (some 345)))]) (fun _ _ => rfl) ?_
          refine ej_plain hmn (eg_at hT 9 1 rfl rfl) (pc' := 292) (ls' := [some (.inr (.inr (.inl (some 345)))), some (.inl (mi)), some (.inl (fr))]) (st' := []) (hp' := (et_r (L) (a) (s) (2) (v) (n))) (fun _ _ => rfl) ?_
          refine ej_plain hmn (eg_at hT 9 2 rfl rfl) (pc' := 293) (ls' := [some (.inr (.inr (.inl (some 345)))), some (.inl (mi)), some (.inl (fr))]) (st' := [.inr (.inr (.inl (some 345)))]) (fun _ _ => rfl) ?_
          refine ej_plain hmn (eg_at hT 9 3 rfl rfl) (pc' := 294) (ls' := [some (.inr (.inr (.inl (some 345)))), some (.inl (mi)), some (.inl (fr))]) (st' := [.inl (mi), .inr (.inr (.inl (some 345)))]) (fun _ _ => rfl) ?_
          refine ej_ifCond hmn (eg_at hT 9 4 rfl rfl) (pc' := 297) rfl (fun _ => rfl) (fun (dc8 : mi = 0) => ?_) (fun (dc8 : ¬ (mi = 0)) => ?_)
          · refine ej_plain hmn (eg_at hT 9 9 rfl rfl) (pc' := 306) (ls' := [some (.inr (.inr (.inl (some 345)))), some (.inl (mi)), some (.inl (fr))]) (st' := [.inr (.inr (.inl (some 345))), .inr (.inr (.inl (some 345)))]) (fun _ _ => rfl) ?_
            refine ej_plain hmn (eg_at hT 9 10 rfl rfl) (pc' := 309) (ls' := [some (.inr (.inr (.inl (some 345)))), some (.inl (mi)), some (.inl (fr))]) (st' := [.inl (v), .inr (.inr (.inl (some 345)))]) (fun _ _ => rfl) ?_
            refine ej_plain hmn (eg_at hT 9 11 rfl rfl) (pc' := 312) (ls' := [some (.inr (.inr (.inl (some 345)))), some (.inl (mi)), some (.inl (fr))]) (st' := []) (hp' := (et_r (L) (a) (s) (2) (v) (n))) (fun _ _ => rfl) ?_
            exact ej_return hmn (eg_at hT 9 12 rfl rfl) (hK _ _ _ _ (by omega))
          · refine ej_plain hmn (eg_at hT 9 5 rfl rfl) (pc' := 298) (ls' := [some (.inr (.inr (.inl (some 345)))), some (.inl (mi)), some (.inl (fr))]) (st' := [.inr (.inr (.inl (some 345))), .inr (.inr (.inl (some 345)))]) (fun _ _ => rfl) ?_
            refine ej_plain hmn (eg_at hT 9 6 rfl rfl) (pc' := 301) (ls' := [some (.inr (.inr (.inl (some 345)))), some (.inl (mi)), some (.inl (fr))]) (st' := [.inl (v), .inr (.inr (.inl (some 345)))]) (fun _ _ => rfl) ?_
            refine ej_inegw hmn (eg_at hT 9 7 rfl rfl) (pc' := 302) rfl (fun dv9 dv9a dv9b => ?_)
            refine ej_plain hmn (eg_at hT 9 8 rfl rfl) (pc' := 309) (ls' := [some (.inr (.inr (.inl (some 345)))), some (.inl (mi)), some (.inl (fr))]) (st' := [.inl (dv9), .inr (.inr (.inl (some 345)))]) (fun _ _ => rfl) ?_
            refine ej_plain hmn (eg_at hT 9 11 rfl rfl) (pc' := 312) (ls' := [some (.inr (.inr (.inl (some 345)))), some (.inl (mi)), some (.inl (fr))]) (st' := []) (hp' := (et_r (L) (a) (s) (2) (dv9) (n))) (fun _ _ => rfl) ?_
            exact ej_return hmn (eg_at hT 9 12 rfl rfl) (hK _ _ _ _ (by omega))
      · refine ej_plain hmn (eg_at hT 8 0 rfl rfl) (pc' := 259) (ls' := [some (.inr (.inr (.inl (some 345)))), some (.inl (mi)), some (.inl (fr))]) (st' := [.inr (.inr (.inl (some 345)))]) (fun _ _ => rfl) ?_
        refine ej_plain hmn (eg_at hT 8 1 rfl rfl) (pc' := 262) (ls' := [some (.inr (.inr (.inl (some 345)))), some (.inl (mi)), some (.inl (fr))]) (st' := [.inl (a)]) (fun _ _ => rfl) ?_
        refine ej_plain hmn (eg_at hT 8 2 rfl rfl) (pc' := 263) (ls' := [some (.inr (.inr (.inl (some 345)))), some (.inl (mi)), some (.inl (fr))]) (st' := [.inl (fr), .inl (a)]) (fun _ _ => rfl) ?_
        refine ej_if_icmp hmn (eg_at hT 8 3 rfl rfl) (pc' := 266) rfl (fun _ => rfl) (fun (dc10 : a ≤ fr) => ?_) (fun (dc10 : ¬ (a ≤ fr)) => ?_)
        · refine ej_plain hmn (eg_at hT 9 13 rfl rfl) (pc' := 314) (ls' := [some (.inr (.inr (.inl (some 345)))), some (.inl (mi)), some (.inl (fr))]) (st' := [.inr (.inr (.inl (some 345)))]) (fun _ _ => rfl) ?_
          refine ej_plain hmn (eg_at hT 9 14 rfl rfl) (pc' := 315) (ls' := [some (.inr (.inr (.inl (some 345)))), some (.inl (mi)), some (.inl (fr))]) (st' := [.inr (.inr (.inl (some 345))), .inr (.inr (.inl (some 345)))]) (fun _ _ => rfl) ?_
          refine ej_plain hmn (eg_at hT 9 15 rfl rfl) (pc' := 317) (ls' := [some (.inr (.inr (.inl (some 345)))), some (.inl (mi)), some (.inl (fr))]) (st' := [.inl (59), .inr (.inr (.inl (some 345))), .inr (.inr (.inl (some 345)))]) (fun _ _ => rfl) ?_
          refine ej_plain hmn (eg_at hT 9 16 rfl rfl) (pc' := 319) (ls' := [some (.inr (.inr (.inl (some 345)))), some (.inl (mi)), some (.inl (fr))]) (st' := [.inl (59), .inl (59), .inr (.inr (.inl (some 345))), .inr (.inr (.inl (some 345)))]) (fun _ _ => rfl) ?_
          refine ej_call hmn (eg_at hT 9 17 rfl rfl) (pc' := 322) (r := [.inr (.inr (.inl (some 345)))]) (eq_isAt hmn (lo := 59) (hi := 59) (by omega) hL) (by omega) (fun _ _ => rfl) (fun v hp' hP => ?_)
          obtain ⟨dr11, rfl, rfl, dr11a, dr11b⟩ := hP
          show em_G l D τ sa A own mname bytes 3 d (0, 0) none K (322, [some (.inr (.inr (.inl (some 345)))), some (.inl (mi)), some (.inl (fr))], [.inl (dr11), .inr (.inr (.inl (some 345)))], (et_r (L) (a) (s) (t) (v) (n)), 0, 0)
          refine ej_ifCond hmn (eg_at hT 10 0 rfl rfl) (pc' := 325) rfl (fun _ => rfl) (fun (dc12 : dr11 = 0) => ?_) (fun (dc12 : ¬ (dr11 = 0)) => ?_)
          · refine ej_plain hmn (eg_at hT 10 3 rfl rfl) (pc' := 330) (ls' := [some (.inr (.inr (.inl (some 345)))), some (.inl (mi)), some (.inl (fr))]) (st' := [.inl (1), .inr (.inr (.inl (some 345)))]) (fun _ _ => rfl) ?_
            refine ej_plain hmn (eg_at hT 10 4 rfl rfl) (pc' := 333) (ls' := [some (.inr (.inr (.inl (some 345)))), some (.inl (mi)), some (.inl (fr))]) (st' := []) (hp' := (et_r (L) (a) (s) (1) (v) (n))) (fun _ _ => rfl) ?_
            refine ej_plain hmn (eg_at hT 10 5 rfl rfl) (pc' := 334) (ls' := [some (.inr (.inr (.inl (some 345)))), some (.inl (mi)), some (.inl (fr))]) (st' := [.inr (.inr (.inl (some 345)))]) (fun _ _ => rfl) ?_
            refine ej_plain hmn (eg_at hT 10 6 rfl rfl) (pc' := 335) (ls' := [some (.inr (.inr (.inl (some 345)))), some (.inl (mi)), some (.inl (fr))]) (st' := [.inr (.inr (.inl (some 345))), .inr (.inr (.inl (some 345)))]) (fun _ _ => rfl) ?_
            refine ej_plain hmn (eg_at hT 10 7 rfl rfl) (pc' := 338) (ls' := [some (.inr (.inr (.inl (some 345)))), some (.inl (mi)), some (.inl (fr))]) (st' := [.inl (a), .inr (.inr (.inl (some 345)))]) (fun _ _ => rfl) ?_
            refine ej_plain hmn (eg_at hT 10 8 rfl rfl) (pc' := 339) (ls' := [some (.inr (.inr (.inl (some 345)))), some (.inl (mi)), some (.inl (fr))]) (st' := [.inl (1), .inl (a), .inr (.inr (.inl (some 345)))]) (fun _ _ => rfl) ?_
            refine ej_iadd hmn (eg_at hT 10 9 rfl rfl) (pc' := 340) rfl (by omega) (by omega) ?_
            refine ej_plain hmn (eg_at hT 10 10 rfl rfl) (pc' := 343) (ls' := [some (.inr (.inr (.inl (some 345)))), some (.inl (mi)), some (.inl (fr))]) (st' := []) (hp' := (et_r (L) (a + 1) (s) (1) (v) (n))) (fun _ _ => rfl) ?_
            exact ej_return hmn (eg_at hT 10 11 rfl rfl) (hK _ _ _ _ (by omega))
          · refine ej_plain hmn (eg_at hT 10 1 rfl rfl) (pc' := 326) (ls' := [some (.inr (.inr (.inl (some 345)))), some (.inl (mi)), some (.inl (fr))]) (st' := [.inl (3), .inr (.inr (.inl (some 345)))]) (fun _ _ => rfl) ?_
            refine ej_plain hmn (eg_at hT 10 2 rfl rfl) (pc' := 330) (ls' := [some (.inr (.inr (.inl (some 345)))), some (.inl (mi)), some (.inl (fr))]) (st' := [.inl (3), .inr (.inr (.inl (some 345)))]) (fun _ _ => rfl) ?_
            refine ej_plain hmn (eg_at hT 10 4 rfl rfl) (pc' := 333) (ls' := [some (.inr (.inr (.inl (some 345)))), some (.inl (mi)), some (.inl (fr))]) (st' := []) (hp' := (et_r (L) (a) (s) (3) (v) (n))) (fun _ _ => rfl) ?_
            refine ej_plain hmn (eg_at hT 10 5 rfl rfl) (pc' := 334) (ls' := [some (.inr (.inr (.inl (some 345)))), some (.inl (mi)), some (.inl (fr))]) (st' := [.inr (.inr (.inl (some 345)))]) (fun _ _ => rfl) ?_
            refine ej_plain hmn (eg_at hT 10 6 rfl rfl) (pc' := 335) (ls' := [some (.inr (.inr (.inl (some 345)))), some (.inl (mi)), some (.inl (fr))]) (st' := [.inr (.inr (.inl (some 345))), .inr (.inr (.inl (some 345)))]) (fun _ _ => rfl) ?_
            refine ej_plain hmn (eg_at hT 10 7 rfl rfl) (pc' := 338) (ls' := [some (.inr (.inr (.inl (some 345)))), some (.inl (mi)), some (.inl (fr))]) (st' := [.inl (a), .inr (.inr (.inl (some 345)))]) (fun _ _ => rfl) ?_
            refine ej_plain hmn (eg_at hT 10 8 rfl rfl) (pc' := 339) (ls' := [some (.inr (.inr (.inl (some 345)))), some (.inl (mi)), some (.inl (fr))]) (st' := [.inl (1), .inl (a), .inr (.inr (.inl (some 345)))]) (fun _ _ => rfl) ?_
            refine ej_iadd hmn (eg_at hT 10 9 rfl rfl) (pc' := 340) rfl (by omega) (by omega) ?_
            refine ej_plain hmn (eg_at hT 10 10 rfl rfl) (pc' := 343) (ls' := [some (.inr (.inr (.inl (some 345)))), some (.inl (mi)), some (.inl (fr))]) (st' := []) (hp' := (et_r (L) (a + 1) (s) (3) (v) (n))) (fun _ _ => rfl) ?_
            exact ej_return hmn (eg_at hT 10 11 rfl rfl) (hK _ _ _ _ (by omega))
        · refine ej_plain hmn (eg_at hT 8 4 rfl rfl) (pc' := 267) (ls' := [some (.inr (.inr (.inl (some 345)))), some (.inl (mi)), some (.inl (fr))]) (st' := [.inr (.inr (.inl (some 345)))]) (fun _ _ => rfl) ?_
          refine ej_plain hmn (eg_at hT 8 5 rfl rfl) (pc' := 268) (ls' := [some (.inr (.inr (.inl (some 345)))), some (.inl (mi)), some (.inl (fr))]) (st' := [.inr (.inr (.inl (some 345))), .inr (.inr (.inl (some 345)))]) (fun _ _ => rfl) ?_
          refine ej_plain hmn (eg_at hT 8 6 rfl rfl) (pc' := 271) (ls' := [some (.inr (.inr (.inl (some 345)))), some (.inl (mi)), some (.inl (fr))]) (st' := [.inl (a), .inr (.inr (.inl (some 345)))]) (fun _ _ => rfl) ?_
          refine ej_plain hmn (eg_at hT 8 7 rfl rfl) (pc' := 272) (ls' := [some (.inr (.inr (.inl (some 345)))), some (.inl (mi)), some (.inl (fr))]) (st' := [.inl (fr), .inl (a), .inr (.inr (.inl (some 345)))]) (fun _ _ => rfl) ?_
          refine ej_isub hmn (eg_at hT 8 8 rfl rfl) (pc' := 273) rfl (by omega) (by omega) ?_
          refine ej_plain hmn (eg_at hT 8 9 rfl rfl) (pc' := 274) (ls' := [some (.inr (.inr (.inl (some 345)))), some (.inl (mi)), some (.inl (fr))]) (st' := [.inr (.inl (a - fr)), .inr (.inr (.inl (some 345)))]) (fun _ _ => rfl) ?_
          refine ej_plain hmn (eg_at hT 8 10 rfl rfl) (pc' := 275) (ls' := [some (.inr (.inr (.inl (some 345)))), some (.inl (mi)), some (.inl (fr))]) (st' := [.inr (.inl (1)), .inr (.inl (a - fr)), .inr (.inr (.inl (some 345)))]) (fun _ _ => rfl) ?_
          refine ej_plain hmn (eg_at hT 8 11 rfl rfl) (pc' := 278) (ls' := [some (.inr (.inr (.inl (some 345)))), some (.inl (mi)), some (.inl (fr))]) (st' := [.inr (.inl (3)), .inr (.inl (1)), .inr (.inl (a - fr)), .inr (.inr (.inl (some 345)))]) (fun _ _ => rfl) ?_
          refine ej_call hmn (eg_at hT 8 12 rfl rfl) (pc' := 281) (r := [.inr (.inr (.inl (some 345)))]) (eq_inG hmn (v := a - fr) (lo := 1) (hi := 3)) (by omega) (fun _ _ => rfl) (fun v hp' hP => ?_)
          obtain ⟨dr13, rfl, rfl, dr13a, dr13b⟩ := hP
          show em_G l D τ sa A own mname bytes 3 d (0, 0) none K (281, [some (.inr (.inr (.inl (some 345)))), some (.inl (mi)), some (.inl (fr))], [.inl (dr13), .inr (.inr (.inl (some 345)))], (et_r (L) (a) (s) (t) (v) (n)), 0, 0)
          refine ej_ifCond hmn (eg_at hT 8 13 rfl rfl) (pc' := 284) rfl (fun _ => rfl) (fun (dc14 : dr13 = 0) => ?_) (fun (dc14 : ¬ (dr13 = 0)) => ?_)
          · refine ej_plain hmn (eg_at hT 9 0 rfl rfl) (pc' := 289) (ls' := [some (.inr (.inr (.inl (some 345)))), some (.inl (mi)), some (.inl (fr))]) (st' := [.inl (1), .inr (.inr (.inl (some 345)))]) (fun _ _ => rfl) ?_
            refine ej_plain hmn (eg_at hT 9 1 rfl rfl) (pc' := 292) (ls' := [some (.inr (.inr (.inl (some 345)))), some (.inl (mi)), some (.inl (fr))]) (st' := []) (hp' := (et_r (L) (a) (s) (1) (v) (n))) (fun _ _ => rfl) ?_
            refine ej_plain hmn (eg_at hT 9 2 rfl rfl) (pc' := 293) (ls' := [some (.inr (.inr (.inl (some 345)))), some (.inl (mi)), some (.inl (fr))]) (st' := [.inr (.inr (.inl (some 345)))]) (fun _ _ => rfl) ?_
            refine ej_plain hmn (eg_at hT 9 3 rfl rfl) (pc' := 294) (ls' := [some (.inr (.inr (.inl (some 345)))), some (.inl (mi)), some (.inl (fr))]) (st' := [.inl (mi), .inr (.inr (.inl (some 345)))]) (fun _ _ => rfl) ?_
            refine ej_ifCond hmn (eg_at hT 9 4 rfl rfl) (pc' := 297) rfl (fun _ => rfl) (fun (dc15 : mi = 0) => ?_) (fun (dc15 : ¬ (mi = 0)) => ?_)
            · refine ej_plain hmn (eg_at hT 9 9 rfl rfl) (pc' := 306) (ls' := [some (.inr (.inr (.inl (some 345)))), some (.inl (mi)), some (.inl (fr))]) (st' := [.inr (.inr (.inl (some 345))), .inr (.inr (.inl (some 345)))]) (fun _ _ => rfl) ?_
              refine ej_plain hmn (eg_at hT 9 10 rfl rfl) (pc' := 309) (ls' := [some (.inr (.inr (.inl (some 345)))), some (.inl (mi)), some (.inl (fr))]) (st' := [.inl (v), .inr (.inr (.inl (some 345)))]) (fun _ _ => rfl) ?_
              refine ej_plain hmn (eg_at hT 9 11 rfl rfl) (pc' := 312) (ls' := [some (.inr (.inr (.inl (some 345)))), some (.inl (mi)), some (.inl (fr))]) (st' := []) (hp' := (et_r (L) (a) (s) (1) (v) (n))) (fun _ _ => rfl) ?_
              exact ej_return hmn (eg_at hT 9 12 rfl rfl) (hK _ _ _ _ (by omega))
            · refine ej_plain hmn (eg_at hT 9 5 rfl rfl) (pc' := 298) (ls' := [some (.inr (.inr (.inl (some 345)))), some (.inl (mi)), some (.inl (fr))]) (st' := [.inr (.inr (.inl (some 345))), .inr (.inr (.inl (some 345)))]) (fun _ _ => rfl) ?_
              refine ej_plain hmn (eg_at hT 9 6 rfl rfl) (pc' := 301) (ls' := [some (.inr (.inr (.inl (some 345)))), some (.inl (mi)), some (.inl (fr))]) (st' := [.inl (v), .inr (.inr (.inl (some 345)))]) (fun _ _ => rfl) ?_
              refine ej_inegw hmn (eg_at hT 9 7 rfl rfl) (pc' := 302) rfl (fun dv16 dv16a dv16b => ?_)
              refine ej_plain hmn (eg_at hT 9 8 rfl rfl) (pc' := 309) (ls' := [some (.inr (.inr (.inl (some 345)))), some (.inl (mi)), some (.inl (fr))]) (st' := [.inl (dv16), .inr (.inr (.inl (some 345)))]) (fun _ _ => rfl) ?_
              refine ej_plain hmn (eg_at hT 9 11 rfl rfl) (pc' := 312) (ls' := [some (.inr (.inr (.inl (some 345)))), some (.inl (mi)), some (.inl (fr))]) (st' := []) (hp' := (et_r (L) (a) (s) (1) (dv16) (n))) (fun _ _ => rfl) ?_
              exact ej_return hmn (eg_at hT 9 12 rfl rfl) (hK _ _ _ _ (by omega))
          · refine ej_plain hmn (eg_at hT 8 14 rfl rfl) (pc' := 285) (ls' := [some (.inr (.inr (.inl (some 345)))), some (.inl (mi)), some (.inl (fr))]) (st' := [.inl (2), .inr (.inr (.inl (some 345)))]) (fun _ _ => rfl) ?_
            refine ej_plain hmn (eg_at hT 8 15 rfl rfl) (pc' := 289) (ls' := [some (.inr (.inr (.inl (some 345)))), some (.inl (mi)), some (.inl (fr))]) (st' := [.inl (2), .inr (.inr (.inl (some 345)))]) (fun _ _ => rfl) ?_
            refine ej_plain hmn (eg_at hT 9 1 rfl rfl) (pc' := 292) (ls' := [some (.inr (.inr (.inl (some 345)))), some (.inl (mi)), some (.inl (fr))]) (st' := []) (hp' := (et_r (L) (a) (s) (2) (v) (n))) (fun _ _ => rfl) ?_
            refine ej_plain hmn (eg_at hT 9 2 rfl rfl) (pc' := 293) (ls' := [some (.inr (.inr (.inl (some 345)))), some (.inl (mi)), some (.inl (fr))]) (st' := [.inr (.inr (.inl (some 345)))]) (fun _ _ => rfl) ?_
            refine ej_plain hmn (eg_at hT 9 3 rfl rfl) (pc' := 294) (ls' := [some (.inr (.inr (.inl (some 345)))), some (.inl (mi)), some (.inl (fr))]) (st' := [.inl (mi), .inr (.inr (.inl (some 345)))]) (fun _ _ => rfl) ?_
            refine ej_ifCond hmn (eg_at hT 9 4 rfl rfl) (pc' := 297) rfl (fun _ => rfl) (fun (dc17 : mi = 0) => ?_) (fun (dc17 : ¬ (mi = 0)) => ?_)
            · refine ej_plain hmn (eg_at hT 9 9 rfl rfl) (pc' := 306) (ls' := [some (.inr (.inr (.inl (some 345)))), some (.inl (mi)), some (.inl (fr))]) (st' := [.inr (.inr (.inl (some 345))), .inr (.inr (.inl (some 345)))]) (fun _ _ => rfl) ?_
              refine ej_plain hmn (eg_at hT 9 10 rfl rfl) (pc' := 309) (ls' := [some (.inr (.inr (.inl (some 345)))), some (.inl (mi)), some (.inl (fr))]) (st' := [.inl (v), .inr (.inr (.inl (some 345)))]) (fun _ _ => rfl) ?_
              refine ej_plain hmn (eg_at hT 9 11 rfl rfl) (pc' := 312) (ls' := [some (.inr (.inr (.inl (some 345)))), some (.inl (mi)), some (.inl (fr))]) (st' := []) (hp' := (et_r (L) (a) (s) (2) (v) (n))) (fun _ _ => rfl) ?_
              exact ej_return hmn (eg_at hT 9 12 rfl rfl) (hK _ _ _ _ (by omega))
            · refine ej_plain hmn (eg_at hT 9 5 rfl rfl) (pc' := 298) (ls' := [some (.inr (.inr (.inl (some 345)))), some (.inl (mi)), some (.inl (fr))]) (st' := [.inr (.inr (.inl (some 345))), .inr (.inr (.inl (some 345)))]) (fun _ _ => rfl) ?_
              refine ej_plain hmn (eg_at hT 9 6 rfl rfl) (pc' := 301) (ls' := [some (.inr (.inr (.inl (some 345)))), some (.inl (mi)), some (.inl (fr))]) (st' := [.inl (v), .inr (.inr (.inl (some 345)))]) (fun _ _ => rfl) ?_
              refine ej_inegw hmn (eg_at hT 9 7 rfl rfl) (pc' := 302) rfl (fun dv18 dv18a dv18b => ?_)
              refine ej_plain hmn (eg_at hT 9 8 rfl rfl) (pc' := 309) (ls' := [some (.inr (.inr (.inl (some 345)))), some (.inl (mi)), some (.inl (fr))]) (st' := [.inl (dv18), .inr (.inr (.inl (some 345)))]) (fun _ _ => rfl) ?_
              refine ej_plain hmn (eg_at hT 9 11 rfl rfl) (pc' := 312) (ls' := [some (.inr (.inr (.inl (some 345)))), some (.inl (mi)), some (.inl (fr))]) (st' := []) (hp' := (et_r (L) (a) (s) (2) (dv18) (n))) (fun _ _ => rfl) ?_
              exact ej_return hmn (eg_at hT 9 12 rfl rfl) (hK _ _ _ _ (by omega))
    · refine ej_plain hmn (eg_at hT 6 3 rfl rfl) (pc' := 201) (ls' := [some (.inr (.inr (.inl (some 345)))), some (.inl (mi)), some (.inl (fr))]) (st' := [.inr (.inr (.inl (some 345)))]) (fun _ _ => rfl) ?_
      refine ej_plain hmn (eg_at hT 6 4 rfl rfl) (pc' := 202) (ls' := [some (.inr (.inr (.inl (some 345)))), some (.inl (mi)), some (.inl (fr))]) (st' := [.inr (.inr (.inl (some 345))), .inr (.inr (.inl (some 345)))]) (fun _ _ => rfl) ?_
      refine ej_plain hmn (eg_at hT 6 5 rfl rfl) (pc' := 205) (ls' := [some (.inr (.inr (.inl (some 345)))), some (.inl (mi)), some (.inl (fr))]) (st' := [.inl (a), .inr (.inr (.inl (some 345)))]) (fun _ _ => rfl) ?_
      refine ej_plain hmn (eg_at hT 6 6 rfl rfl) (pc' := 206) (ls' := [some (.inr (.inr (.inl (some 345)))), some (.inl (mi)), some (.inl (fr))]) (st' := [.inl (fr), .inl (a), .inr (.inr (.inl (some 345)))]) (fun _ _ => rfl) ?_
      refine ej_isub hmn (eg_at hT 6 7 rfl rfl) (pc' := 207) rfl (by omega) (by omega) ?_
      refine ej_plain hmn (eg_at hT 6 8 rfl rfl) (pc' := 208) (ls' := [some (.inr (.inr (.inl (some 345)))), some (.inl (mi)), some (.inl (fr))]) (st' := [.inl (3), .inl (a - fr), .inr (.inr (.inl (some 345)))]) (fun _ _ => rfl) ?_
      refine ej_if_icmp hmn (eg_at hT 6 9 rfl rfl) (pc' := 211) rfl (fun _ => rfl) (fun (dc19 : 3 ≤ a - fr) => ?_) (fun (dc19 : ¬ (3 ≤ a - fr)) => ?_)
      · refine ej_plain hmn (eg_at hT 7 5 rfl rfl) (pc' := 235) (ls' := [some (.inr (.inr (.inl (some 345)))), some (.inl (mi)), some (.inl (fr))]) (st' := [.inr (.inr (.inl (some 345))), .inr (.inr (.inl (some 345)))]) (fun _ _ => rfl) ?_
        refine ej_plain hmn (eg_at hT 7 6 rfl rfl) (pc' := 238) (ls' := [some (.inr (.inr (.inl (some 345)))), some (.inl (mi)), some (.inl (fr))]) (st' := [.inl (v), .inr (.inr (.inl (some 345)))]) (fun _ _ => rfl) ?_
        refine ej_plain hmn (eg_at hT 7 7 rfl rfl) (pc' := 241) (ls' := [some (.inr (.inr (.inl (some 345)))), some (.inl (mi)), some (.inl (fr))]) (st' := []) (hp' := (et_r (L) (a) (s) (t) (v) (n))) (fun _ _ => rfl) ?_
        refine ej_plain hmn (eg_at hT 7 8 rfl rfl) (pc' := 242) (ls' := [some (.inr (.inr (.inl (some 345)))), some (.inl (mi)), some (.inl (fr))]) (st' := [.inr (.inr (.inl (some 345)))]) (fun _ _ => rfl) ?_
        refine ej_plain hmn (eg_at hT 7 9 rfl rfl) (pc' := 243) (ls' := [some (.inr (.inr (.inl (some 345)))), some (.inl (mi)), some (.inl (fr))]) (st' := [.inr (.inr (.inl (some 345))), .inr (.inr (.inl (some 345)))]) (fun _ _ => rfl) ?_
        refine ej_plain hmn (eg_at hT 7 10 rfl rfl) (pc' := 246) (ls' := [some (.inr (.inr (.inl (some 345)))), some (.inl (mi)), some (.inl (fr))]) (st' := [.inl (a), .inr (.inr (.inl (some 345)))]) (fun _ _ => rfl) ?_
        refine ej_plain hmn (eg_at hT 7 11 rfl rfl) (pc' := 247) (ls' := [some (.inr (.inr (.inl (some 345)))), some (.inl (mi)), some (.inl (fr))]) (st' := [.inl (1), .inl (a), .inr (.inr (.inl (some 345)))]) (fun _ _ => rfl) ?_
        refine ej_iadd hmn (eg_at hT 7 12 rfl rfl) (pc' := 248) rfl (by omega) (by omega) ?_
        refine ej_plain hmn (eg_at hT 7 13 rfl rfl) (pc' := 251) (ls' := [some (.inr (.inr (.inl (some 345)))), some (.inl (mi)), some (.inl (fr))]) (st' := []) (hp' := (et_r (L) (a + 1) (s) (t) (v) (n))) (fun _ _ => rfl) ?_
        refine ej_plain hmn (eg_at hT 7 14 rfl rfl) (pc' := 189) (ls' := [some (.inr (.inr (.inl (some 345)))), some (.inl (mi)), some (.inl (fr))]) (st' := []) (fun _ _ => rfl) ?_
        exact ih _ _ (by omega) (by omega)
      · refine ej_plain hmn (eg_at hT 6 10 rfl rfl) (pc' := 213) (ls' := [some (.inr (.inr (.inl (some 345)))), some (.inl (mi)), some (.inl (fr))]) (st' := [.inl (10), .inr (.inr (.inl (some 345)))]) (fun _ _ => rfl) ?_
        refine ej_plain hmn (eg_at hT 6 11 rfl rfl) (pc' := 214) (ls' := [some (.inr (.inr (.inl (some 345)))), some (.inl (mi)), some (.inl (fr))]) (st' := [.inr (.inr (.inl (some 345))), .inl (10), .inr (.inr (.inl (some 345)))]) (fun _ _ => rfl) ?_
        refine ej_plain hmn (eg_at hT 6 12 rfl rfl) (pc' := 217) (ls' := [some (.inr (.inr (.inl (some 345)))), some (.inl (mi)), some (.inl (fr))]) (st' := [.inl (v), .inl (10), .inr (.inr (.inl (some 345)))]) (fun _ _ => rfl) ?_
        refine ej_imulw hmn (eg_at hT 6 13 rfl rfl) (pc' := 218) rfl (fun dv20 dv20a dv20b => ?_)
        refine ej_plain hmn (eg_at hT 6 14 rfl rfl) (pc' := 219) (ls' := [some (.inr (.inr (.inl (some 345)))), some (.inl (mi)), some (.inl (fr))]) (st' := [.inr (.inr (.inl (some 345))), .inl (dv20), .inr (.inr (.inl (some 345)))]) (fun _ _ => rfl) ?_
        refine ej_plain hmn (eg_at hT 6 15 rfl rfl) (pc' := 222) (ls' := [some (.inr (.inr (.inl (some 345)))), some (.inl (mi)), some (.inl (fr))]) (st' := [.inr (.inr (.inl (some 350))), .inl (dv20), .inr (.inr (.inl (some 345)))]) (fun _ _ => rfl) ?_
        refine ej_plain hmn (eg_at hT 6 16 rfl rfl) (pc' := 223) (ls' := [some (.inr (.inr (.inl (some 345)))), some (.inl (mi)), some (.inl (fr))]) (st' := [.inr (.inr (.inl (some 345))), .inr (.inr (.inl (some 350))), .inl (dv20), .inr (.inr (.inl (some 345)))]) (fun _ _ => rfl) ?_
        refine ej_plain hmn (eg_at hT 6 17 rfl rfl) (pc' := 226) (ls' := [some (.inr (.inr (.inl (some 345)))), some (.inl (mi)), some (.inl (fr))]) (st' := [.inl (a), .inr (.inr (.inl (some 350))), .inl (dv20), .inr (.inr (.inl (some 345)))]) (fun _ _ => rfl) ?_
        refine ej_ialoadW hmn (eg_at hT 7 0 rfl rfl) (pc' := 227) (n := 300) (lo := (-2147483648)) (hi := (2147483647)) rfl (fun _ => rfl) (by omega) (by omega) (evw_350 _ (by omega)) (by decide) (fun dv21 dv21a dv21b => ?_)
        refine ej_iaddw hmn (eg_at hT 7 1 rfl rfl) (pc' := 228) rfl (fun dw22 dw22a dw22b dw22c => ?_)
        refine ej_plain hmn (eg_at hT 7 2 rfl rfl) (pc' := 230) (ls' := [some (.inr (.inr (.inl (some 345)))), some (.inl (mi)), some (.inl (fr))]) (st' := [.inl (48), .inl (dw22), .inr (.inr (.inl (some 345)))]) (fun _ _ => rfl) ?_
        refine ej_isubw hmn (eg_at hT 7 3 rfl rfl) (pc' := 231) rfl (fun dw23 dw23a dw23b dw23c => ?_)
        refine ej_plain hmn (eg_at hT 7 4 rfl rfl) (pc' := 238) (ls' := [some (.inr (.inr (.inl (some 345)))), some (.inl (mi)), some (.inl (fr))]) (st' := [.inl (dw23), .inr (.inr (.inl (some 345)))]) (fun _ _ => rfl) ?_
        refine ej_plain hmn (eg_at hT 7 7 rfl rfl) (pc' := 241) (ls' := [some (.inr (.inr (.inl (some 345)))), some (.inl (mi)), some (.inl (fr))]) (st' := []) (hp' := (et_r (L) (a) (s) (t) (dw23) (n))) (fun _ _ => rfl) ?_
        refine ej_plain hmn (eg_at hT 7 8 rfl rfl) (pc' := 242) (ls' := [some (.inr (.inr (.inl (some 345)))), some (.inl (mi)), some (.inl (fr))]) (st' := [.inr (.inr (.inl (some 345)))]) (fun _ _ => rfl) ?_
        refine ej_plain hmn (eg_at hT 7 9 rfl rfl) (pc' := 243) (ls' := [some (.inr (.inr (.inl (some 345)))), some (.inl (mi)), some (.inl (fr))]) (st' := [.inr (.inr (.inl (some 345))), .inr (.inr (.inl (some 345)))]) (fun _ _ => rfl) ?_
        refine ej_plain hmn (eg_at hT 7 10 rfl rfl) (pc' := 246) (ls' := [some (.inr (.inr (.inl (some 345)))), some (.inl (mi)), some (.inl (fr))]) (st' := [.inl (a), .inr (.inr (.inl (some 345)))]) (fun _ _ => rfl) ?_
        refine ej_plain hmn (eg_at hT 7 11 rfl rfl) (pc' := 247) (ls' := [some (.inr (.inr (.inl (some 345)))), some (.inl (mi)), some (.inl (fr))]) (st' := [.inl (1), .inl (a), .inr (.inr (.inl (some 345)))]) (fun _ _ => rfl) ?_
        refine ej_iadd hmn (eg_at hT 7 12 rfl rfl) (pc' := 248) rfl (by omega) (by omega) ?_
        refine ej_plain hmn (eg_at hT 7 13 rfl rfl) (pc' := 251) (ls' := [some (.inr (.inr (.inl (some 345)))), some (.inl (mi)), some (.inl (fr))]) (st' := []) (hp' := (et_r (L) (a + 1) (s) (t) (dw23) (n))) (fun _ _ => rfl) ?_
        refine ej_plain hmn (eg_at hT 7 14 rfl rfl) (pc' := 189) (ls' := [some (.inr (.inr (.inl (some 345)))), some (.inl (mi)), some (.inl (fr))]) (st' := []) (fun _ _ => rfl) ?_
        exact ih _ _ (by omega) (by omega)
theorem eq_sc_L {l : Launch} {D : va_G} {τ : Nat → ClassId} {sa : List Nat} {A : Nat → Prop} (hmn : em_mna) {own mname : String} {bytes : ByteArray} (hT : ∀ ch ∈ eu_153, ∀ x ∈ ch, ek_J em_inf et_cls et_vt own mname bytes x) {d : Nat} (hd : 2 ≤ d) {K : Option ex_V → ex_H → Bool} {L a0 n : Int} (hL : L ≤ 300) (z0 : 0 ≤ a0) (hK : ∀ a s t v : Int, (a0 ≤ s ∧ s ≤ a ∧ a ≤ L ∧ (-2147483648 ≤ t ∧ t ≤ 2147483647) ∧ (-2147483648 ≤ v ∧ v ≤ 2147483647) ∧ (t ≠ 0 → s < L) ∧ (t = 3 → s < a)) → K none (et_r L a s t v n) = true) {s t v : Int} : ∀ (i : Nat) (a z : Int), L - a < i → (a0 ≤ s ∧ s ≤ a ∧ a ≤ L ∧ s < L ∧ (-2147483648 ≤ v ∧ v ≤ 2147483647)) → em_G l D τ sa A own mname bytes 3 d (0, 0) none K (62, [some (.inr (.inr (.inl (some 345)))), some (.inr (.inl (z))), none], [], (et_r (L) (a) (s) (t) (v) (n)), 0, 0) := by
  intro i
  induction i with
  | zero => intro a z hi hv; exfalso; omega
  | succ i ih =>
    intro a z hi hv
    refine ej_plain hmn (eg_at hT 1 16 rfl rfl) (pc' := 63) (ls' := [some (.inr (.inr (.inl (some 345)))), some (.inr (.inl (z))), none]) (st' := [.inr (.inr (.inl (some 345)))]) (fun _ _ => rfl) ?_
    refine ej_plain hmn (eg_at hT 1 17 rfl rfl) (pc' := 65) (ls' := [some (.inr (.inr (.inl (some 345)))), some (.inr (.inl (z))), none]) (st' := [.inl (97), .inr (.inr (.inl (some 345)))]) (fun _ _ => rfl) ?_
    refine ej_plain hmn (eg_at hT 2 0 rfl rfl) (pc' := 67) (ls' := [some (.inr (.inr (.inl (some 345)))), some (.inr (.inl (z))), none]) (st' := [.inl (122), .inl (97), .inr (.inr (.inl (some 345)))]) (fun _ _ => rfl) ?_
    refine ej_call hmn (eg_at hT 2 1 rfl rfl) (pc' := 70) (r := []) (eq_isAt hmn (lo := 97) (hi := 122) (by omega) hL) (by omega) (fun _ _ => rfl) (fun v hp' hP => ?_)
    obtain ⟨lr1, rfl, rfl, lr1a, lr1b⟩ := hP
    show em_G l D τ sa A own mname bytes 3 d (0, 0) none K (70, [some (.inr (.inr (.inl (some 345)))), some (.inr (.inl (z))), none], [.inl (lr1)], (et_r (L) (a) (s) (t) (v) (n)), 0, 0)
    refine ej_ifCond hmn (eg_at hT 2 2 rfl rfl) (pc' := 73) rfl (fun _ => rfl) (fun (lc2 : lr1 = 0) => ?_) (fun (lc2 : ¬ (lr1 = 0)) => ?_)
    · refine ej_plain hmn (eg_at hT 3 18 rfl rfl) (pc' := 127) (ls' := [some (.inr (.inr (.inl (some 345)))), some (.inr (.inl (z))), none]) (st' := [.inr (.inr (.inl (some 345)))]) (fun _ _ => rfl) ?_
      refine ej_plain hmn (eg_at hT 3 19 rfl rfl) (pc' := 128) (ls' := [some (.inr (.inr (.inl (some 345)))), some (.inr (.inl (z))), none]) (st' := [.inr (.inr (.inl (some 345))), .inr (.inr (.inl (some 345)))]) (fun _ _ => rfl) ?_
      refine ej_plain hmn (eg_at hT 4 0 rfl rfl) (pc' := 131) (ls' := [some (.inr (.inr (.inl (some 345)))), some (.inr (.inl (z))), none]) (st' := [.inl (a), .inr (.inr (.inl (some 345)))]) (fun _ _ => rfl) ?_
      refine ej_plain hmn (eg_at hT 4 1 rfl rfl) (pc' := 132) (ls' := [some (.inr (.inr (.inl (some 345)))), some (.inr (.inl (z))), none]) (st' := [.inr (.inr (.inl (some 345))), .inl (a), .inr (.inr (.inl (some 345)))]) (fun _ _ => rfl) ?_
      refine ej_plain hmn (eg_at hT 4 2 rfl rfl) (pc' := 135) (ls' := [some (.inr (.inr (.inl (some 345)))), some (.inr (.inl (z))), none]) (st' := [.inl (s), .inl (a), .inr (.inr (.inl (some 345)))]) (fun _ _ => rfl) ?_
      refine ej_isub hmn (eg_at hT 4 3 rfl rfl) (pc' := 136) rfl (by omega) (by omega) ?_
      refine ej_plain hmn (eg_at hT 4 4 rfl rfl) (pc' := 137) (ls' := [some (.inr (.inr (.inl (some 345)))), some (.inr (.inl (z))), none]) (st' := [.inl (5), .inl (a - s), .inr (.inr (.inl (some 345)))]) (fun _ _ => rfl) ?_
      refine ej_if_icmp hmn (eg_at hT 4 5 rfl rfl) (pc' := 140) rfl (fun _ => rfl) (fun (lc3 : a - s ≤ 5) => ?_) (fun (lc3 : ¬ (a - s ≤ 5)) => ?_)
      · refine ej_plain hmn (eg_at hT 4 8 rfl rfl) (pc' := 145) (ls' := [some (.inr (.inr (.inl (some 345)))), some (.inr (.inl (z))), none]) (st' := [.inr (.inl (z)), .inr (.inr (.inl (some 345)))]) (fun _ _ => rfl) ?_
        refine ej_call hmn (eg_at hT 4 9 rfl rfl) (pc' := 148) (r := [.inr (.inr (.inl (some 345)))]) (eq_wordOf hmn (z := z)) (by omega) (fun _ _ => rfl) (fun v hp' hP => ?_)
        obtain ⟨lr4, rfl, rfl, lr4a⟩ := hP
        show em_G l D τ sa A own mname bytes 3 d (0, 0) none K (148, [some (.inr (.inr (.inl (some 345)))), some (.inr (.inl (z))), none], [.inl (lr4), .inr (.inr (.inl (some 345)))], (et_r (L) (a) (s) (t) (v) (n)), 0, 0)
        refine ej_plain hmn (eg_at hT 4 10 rfl rfl) (pc' := 151) (ls' := [some (.inr (.inr (.inl (some 345)))), some (.inr (.inl (z))), none]) (st' := []) (hp' := (et_r (L) (a) (s) (lr4) (v) (n))) (fun _ _ => rfl) ?_
        exact ej_return hmn (eg_at hT 4 11 rfl rfl) (hK _ _ _ _ (by omega))
      · refine ej_plain hmn (eg_at hT 4 6 rfl rfl) (pc' := 141) (ls' := [some (.inr (.inr (.inl (some 345)))), some (.inr (.inl (z))), none]) (st' := [.inl (1), .inr (.inr (.inl (some 345)))]) (fun _ _ => rfl) ?_
        refine ej_plain hmn (eg_at hT 4 7 rfl rfl) (pc' := 148) (ls' := [some (.inr (.inr (.inl (some 345)))), some (.inr (.inl (z))), none]) (st' := [.inl (1), .inr (.inr (.inl (some 345)))]) (fun _ _ => rfl) ?_
        refine ej_plain hmn (eg_at hT 4 10 rfl rfl) (pc' := 151) (ls' := [some (.inr (.inr (.inl (some 345)))), some (.inr (.inl (z))), none]) (st' := []) (hp' := (et_r (L) (a) (s) (1) (v) (n))) (fun _ _ => rfl) ?_
        exact ej_return hmn (eg_at hT 4 11 rfl rfl) (hK _ _ _ _ (by omega))
    · refine ej_plain hmn (eg_at hT 2 3 rfl rfl) (pc' := 74) (ls' := [some (.inr (.inr (.inl (some 345)))), some (.inr (.inl (z))), none]) (st' := [.inr (.inr (.inl (some 345)))]) (fun _ _ => rfl) ?_
      refine ej_plain hmn (eg_at hT 2 4 rfl rfl) (pc' := 77) (ls' := [some (.inr (.inr (.inl (some 345)))), some (.inr (.inl (z))), none]) (st' := [.inl (a)]) (fun _ _ => rfl) ?_
      refine ej_plain hmn (eg_at hT 2 5 rfl rfl) (pc' := 78) (ls' := [some (.inr (.inr (.inl (some 345)))), some (.inr (.inl (z))), none]) (st' := [.inr (.inr (.inl (some 345))), .inl (a)]) (fun _ _ => rfl) ?_
      refine ej_plain hmn (eg_at hT 2 6 rfl rfl) (pc' := 81) (ls' := [some (.inr (.inr (.inl (some 345)))), some (.inr (.inl (z))), none]) (st' := [.inl (s), .inl (a)]) (fun _ _ => rfl) ?_
      refine ej_isub hmn (eg_at hT 2 7 rfl rfl) (pc' := 82) rfl (by omega) (by omega) ?_
      refine ej_plain hmn (eg_at hT 2 8 rfl rfl) (pc' := 83) (ls' := [some (.inr (.inr (.inl (some 345)))), some (.inr (.inl (z))), none]) (st' := [.inl (5), .inl (a - s)]) (fun _ _ => rfl) ?_
      refine ej_if_icmp hmn (eg_at hT 2 9 rfl rfl) (pc' := 86) rfl (fun _ => rfl) (fun (lc5 : a - s ≤ 5) => ?_) (fun (lc5 : ¬ (a - s ≤ 5)) => ?_)
      · refine ej_plain hmn (eg_at hT 2 12 rfl rfl) (pc' := 93) (ls' := [some (.inr (.inr (.inl (some 345)))), some (.inr (.inl (z))), none]) (st' := [.inr (.inl (32))]) (fun _ _ => rfl) ?_
        refine ej_plain hmn (eg_at hT 2 13 rfl rfl) (pc' := 94) (ls' := [some (.inr (.inr (.inl (some 345)))), some (.inr (.inl (z))), none]) (st' := [.inr (.inl (z)), .inr (.inl (32))]) (fun _ _ => rfl) ?_
        refine ej_lmulw hmn (eg_at hT 2 14 rfl rfl) (pc' := 95) rfl (fun lv6 => ?_)
        refine ej_plain hmn (eg_at hT 2 15 rfl rfl) (pc' := 96) (ls' := [some (.inr (.inr (.inl (some 345)))), some (.inr (.inl (z))), none]) (st' := [.inr (.inr (.inl (some 345))), .inr (.inl (lv6))]) (fun _ _ => rfl) ?_
        refine ej_plain hmn (eg_at hT 3 0 rfl rfl) (pc' := 99) (ls' := [some (.inr (.inr (.inl (some 345)))), some (.inr (.inl (z))), none]) (st' := [.inr (.inr (.inl (some 350))), .inr (.inl (lv6))]) (fun _ _ => rfl) ?_
        refine ej_plain hmn (eg_at hT 3 1 rfl rfl) (pc' := 100) (ls' := [some (.inr (.inr (.inl (some 345)))), some (.inr (.inl (z))), none]) (st' := [.inr (.inr (.inl (some 345))), .inr (.inr (.inl (some 350))), .inr (.inl (lv6))]) (fun _ _ => rfl) ?_
        refine ej_plain hmn (eg_at hT 3 2 rfl rfl) (pc' := 103) (ls' := [some (.inr (.inr (.inl (some 345)))), some (.inr (.inl (z))), none]) (st' := [.inl (a), .inr (.inr (.inl (some 350))), .inr (.inl (lv6))]) (fun _ _ => rfl) ?_
        refine ej_ialoadW hmn (eg_at hT 3 3 rfl rfl) (pc' := 104) (n := 300) (lo := (-2147483648)) (hi := (2147483647)) rfl (fun _ => rfl) (by omega) (by omega) (evw_350 _ (by omega)) (by decide) (fun lv7 lv7a lv7b => ?_)
        refine ej_plain hmn (eg_at hT 3 4 rfl rfl) (pc' := 105) (ls' := [some (.inr (.inr (.inl (some 345)))), some (.inr (.inl (z))), none]) (st' := [.inr (.inl (lv7)), .inr (.inl (lv6))]) (fun _ _ => rfl) ?_
        refine ej_laddw hmn (eg_at hT 3 5 rfl rfl) (pc' := 106) rfl (fun lv8 => ?_)
        refine ej_plain hmn (eg_at hT 3 6 rfl rfl) (pc' := 109) (ls' := [some (.inr (.inr (.inl (some 345)))), some (.inr (.inl (z))), none]) (st' := [.inr (.inl (97)), .inr (.inl (lv8))]) (fun _ _ => rfl) ?_
        refine ej_lsubw hmn (eg_at hT 3 7 rfl rfl) (pc' := 110) rfl (fun lv9 => ?_)
        refine ej_plain hmn (eg_at hT 3 8 rfl rfl) (pc' := 111) (ls' := [some (.inr (.inr (.inl (some 345)))), some (.inr (.inl (z))), none]) (st' := [.inr (.inl (1)), .inr (.inl (lv9))]) (fun _ _ => rfl) ?_
        refine ej_laddw hmn (eg_at hT 3 9 rfl rfl) (pc' := 112) rfl (fun lv10 => ?_)
        refine ej_plain hmn (eg_at hT 3 10 rfl rfl) (pc' := 113) (ls' := [some (.inr (.inr (.inl (some 345)))), some (.inr (.inl (lv10))), none]) (st' := []) (fun _ _ => rfl) ?_
        refine ej_plain hmn (eg_at hT 3 11 rfl rfl) (pc' := 114) (ls' := [some (.inr (.inr (.inl (some 345)))), some (.inr (.inl (lv10))), none]) (st' := [.inr (.inr (.inl (some 345)))]) (fun _ _ => rfl) ?_
        refine ej_plain hmn (eg_at hT 3 12 rfl rfl) (pc' := 115) (ls' := [some (.inr (.inr (.inl (some 345)))), some (.inr (.inl (lv10))), none]) (st' := [.inr (.inr (.inl (some 345))), .inr (.inr (.inl (some 345)))]) (fun _ _ => rfl) ?_
        refine ej_plain hmn (eg_at hT 3 13 rfl rfl) (pc' := 118) (ls' := [some (.inr (.inr (.inl (some 345)))), some (.inr (.inl (lv10))), none]) (st' := [.inl (a), .inr (.inr (.inl (some 345)))]) (fun _ _ => rfl) ?_
        refine ej_plain hmn (eg_at hT 3 14 rfl rfl) (pc' := 119) (ls' := [some (.inr (.inr (.inl (some 345)))), some (.inr (.inl (lv10))), none]) (st' := [.inl (1), .inl (a), .inr (.inr (.inl (some 345)))]) (fun _ _ => rfl) ?_
        refine ej_iadd hmn (eg_at hT 3 15 rfl rfl) (pc' := 120) rfl (by omega) (by omega) ?_
        refine ej_plain hmn (eg_at hT 3 16 rfl rfl) (pc' := 123) (ls' := [some (.inr (.inr (.inl (some 345)))), some (.inr (.inl (lv10))), none]) (st' := []) (hp' := (et_r (L) (a + 1) (s) (t) (v) (n))) (fun _ _ => rfl) ?_
        refine ej_plain hmn (eg_at hT 3 17 rfl rfl) (pc' := 62) (ls' := [some (.inr (.inr (.inl (some 345)))), some (.inr (.inl (lv10))), none]) (st' := []) (fun _ _ => rfl) ?_
        exact ih _ _ (by omega) (by omega)
      · refine ej_plain hmn (eg_at hT 2 10 rfl rfl) (pc' := 87) (ls' := [some (.inr (.inr (.inl (some 345)))), some (.inr (.inl (z))), none]) (st' := [.inr (.inl (0))]) (fun _ _ => rfl) ?_
        refine ej_plain hmn (eg_at hT 2 11 rfl rfl) (pc' := 112) (ls' := [some (.inr (.inr (.inl (some 345)))), some (.inr (.inl (z))), none]) (st' := [.inr (.inl (0))]) (fun _ _ => rfl) ?_
        refine ej_plain hmn (eg_at hT 3 10 rfl rfl) (pc' := 113) (ls' := [some (.inr (.inr (.inl (some 345)))), some (.inr (.inl (0))), none]) (st' := []) (fun _ _ => rfl) ?_
        refine ej_plain hmn (eg_at hT 3 11 rfl rfl) (pc' := 114) (ls' := [some (.inr (.inr (.inl (some 345)))), some (.inr (.inl (0))), none]) (st' := [.inr (.inr (.inl (some 345)))]) (fun _ _ => rfl) ?_
        refine ej_plain hmn (eg_at hT 3 12 rfl rfl) (pc' := 115) (ls' := [some (.inr (.inr (.inl (some 345)))), some (.inr (.inl (0))), none]) (st' := [.inr (.inr (.inl (some 345))), .inr (.inr (.inl (some 345)))]) (fun _ _ => rfl) ?_
        refine ej_plain hmn (eg_at hT 3 13 rfl rfl) (pc' := 118) (ls' := [some (.inr (.inr (.inl (some 345)))), some (.inr (.inl (0))), none]) (st' := [.inl (a), .inr (.inr (.inl (some 345)))]) (fun _ _ => rfl) ?_
        refine ej_plain hmn (eg_at hT 3 14 rfl rfl) (pc' := 119) (ls' := [some (.inr (.inr (.inl (some 345)))), some (.inr (.inl (0))), none]) (st' := [.inl (1), .inl (a), .inr (.inr (.inl (some 345)))]) (fun _ _ => rfl) ?_
        refine ej_iadd hmn (eg_at hT 3 15 rfl rfl) (pc' := 120) rfl (by omega) (by omega) ?_
        refine ej_plain hmn (eg_at hT 3 16 rfl rfl) (pc' := 123) (ls' := [some (.inr (.inr (.inl (some 345)))), some (.inr (.inl (0))), none]) (st' := []) (hp' := (et_r (L) (a + 1) (s) (t) (v) (n))) (fun _ _ => rfl) ?_
        refine ej_plain hmn (eg_at hT 3 17 rfl rfl) (pc' := 62) (ls' := [some (.inr (.inr (.inl (some 345)))), some (.inr (.inl (0))), none]) (st' := []) (fun _ _ => rfl) ?_
        exact ih _ _ (by omega) (by omega)
theorem eq_sc_B {l : Launch} {D : va_G} {τ : Nat → ClassId} {sa : List Nat} {A : Nat → Prop} (hmn : em_mna) {own mname : String} {bytes : ByteArray} (hT : ∀ ch ∈ eu_153, ∀ x ∈ ch, ek_J em_inf et_cls et_vt own mname bytes x) {d : Nat} (hd : 2 ≤ d) {K : Option ex_V → ex_H → Bool} {L a0 n : Int} (hL : L ≤ 300) (z0 : 0 ≤ a0) (hK : ∀ a s t v : Int, (a0 ≤ s ∧ s ≤ a ∧ a ≤ L ∧ (-2147483648 ≤ t ∧ t ≤ 2147483647) ∧ (-2147483648 ≤ v ∧ v ≤ 2147483647) ∧ (t ≠ 0 → s < L) ∧ (t = 3 → s < a)) → K none (et_r L a s t v n) = true) {s t v : Int} (hv : (-2147483648 ≤ v ∧ v ≤ 2147483647) ∧ (-2147483648 ≤ t ∧ t ≤ 2147483647)) : ∀ (i : Nat) (a : Int), L - a < i → (a0 ≤ a ∧ a ≤ L) → em_G l D τ sa A own mname bytes 3 d (0, 0) none K (0, [some (.inr (.inr (.inl (some 345)))), none, none], [], (et_r (L) (a) (s) (t) (v) (n)), 0, 0) := by
  intro i
  induction i with
  | zero => intro a hi ha; exfalso; omega
  | succ i ih =>
    intro a hi ha
    refine ej_plain hmn (eg_at hT 0 0 rfl rfl) (pc' := 1) (ls' := [some (.inr (.inr (.inl (some 345)))), none, none]) (st' := [.inr (.inr (.inl (some 345)))]) (fun _ _ => rfl) ?_
    refine ej_plain hmn (eg_at hT 0 1 rfl rfl) (pc' := 3) (ls' := [some (.inr (.inr (.inl (some 345)))), none, none]) (st' := [.inl (32), .inr (.inr (.inl (some 345)))]) (fun _ _ => rfl) ?_
    refine ej_plain hmn (eg_at hT 0 2 rfl rfl) (pc' := 5) (ls' := [some (.inr (.inr (.inl (some 345)))), none, none]) (st' := [.inl (32), .inl (32), .inr (.inr (.inl (some 345)))]) (fun _ _ => rfl) ?_
    refine ej_call hmn (eg_at hT 0 3 rfl rfl) (pc' := 8) (r := []) (eq_isAt hmn (lo := 32) (hi := 32) (by omega) hL) (by omega) (fun _ _ => rfl) (fun v hp' hP => ?_)
    obtain ⟨br1, rfl, rfl, br1a, br1b⟩ := hP
    show em_G l D τ sa A own mname bytes 3 d (0, 0) none K (8, [some (.inr (.inr (.inl (some 345)))), none, none], [.inl (br1)], (et_r (L) (a) (s) (t) (v) (n)), 0, 0)
    refine ej_ifCond hmn (eg_at hT 0 4 rfl rfl) (pc' := 11) rfl (fun _ => rfl) (fun (bc2 : br1 = 0) => ?_) (fun (bc2 : ¬ (br1 = 0)) => ?_)
    · refine ej_plain hmn (eg_at hT 0 12 rfl rfl) (pc' := 25) (ls' := [some (.inr (.inr (.inl (some 345)))), none, none]) (st' := [.inr (.inr (.inl (some 345)))]) (fun _ _ => rfl) ?_
      refine ej_plain hmn (eg_at hT 0 13 rfl rfl) (pc' := 26) (ls' := [some (.inr (.inr (.inl (some 345)))), none, none]) (st' := [.inr (.inr (.inl (some 345))), .inr (.inr (.inl (some 345)))]) (fun _ _ => rfl) ?_
      refine ej_plain hmn (eg_at hT 0 14 rfl rfl) (pc' := 29) (ls' := [some (.inr (.inr (.inl (some 345)))), none, none]) (st' := [.inl (a), .inr (.inr (.inl (some 345)))]) (fun _ _ => rfl) ?_
      refine ej_plain hmn (eg_at hT 0 15 rfl rfl) (pc' := 32) (ls' := [some (.inr (.inr (.inl (some 345)))), none, none]) (st' := []) (hp' := (et_r (L) (a) (a) (t) (v) (n))) (fun _ _ => rfl) ?_
      refine ej_plain hmn (eg_at hT 1 0 rfl rfl) (pc' := 33) (ls' := [some (.inr (.inr (.inl (some 345)))), none, none]) (st' := [.inr (.inr (.inl (some 345)))]) (fun _ _ => rfl) ?_
      refine ej_plain hmn (eg_at hT 1 1 rfl rfl) (pc' := 36) (ls' := [some (.inr (.inr (.inl (some 345)))), none, none]) (st' := [.inl (a)]) (fun _ _ => rfl) ?_
      refine ej_plain hmn (eg_at hT 1 2 rfl rfl) (pc' := 37) (ls' := [some (.inr (.inr (.inl (some 345)))), none, none]) (st' := [.inr (.inr (.inl (some 345))), .inl (a)]) (fun _ _ => rfl) ?_
      refine ej_plain hmn (eg_at hT 1 3 rfl rfl) (pc' := 40) (ls' := [some (.inr (.inr (.inl (some 345)))), none, none]) (st' := [.inl (L), .inl (a)]) (fun _ _ => rfl) ?_
      refine ej_if_icmp hmn (eg_at hT 1 4 rfl rfl) (pc' := 43) rfl (fun _ => rfl) (fun (bc3 : a ≠ L) => ?_) (fun (bc3 : ¬ (a ≠ L)) => ?_)
      · refine ej_plain hmn (eg_at hT 1 9 rfl rfl) (pc' := 50) (ls' := [some (.inr (.inr (.inl (some 345)))), none, none]) (st' := [.inr (.inr (.inl (some 345)))]) (fun _ _ => rfl) ?_
        refine ej_plain hmn (eg_at hT 1 10 rfl rfl) (pc' := 52) (ls' := [some (.inr (.inr (.inl (some 345)))), none, none]) (st' := [.inl (97), .inr (.inr (.inl (some 345)))]) (fun _ _ => rfl) ?_
        refine ej_plain hmn (eg_at hT 1 11 rfl rfl) (pc' := 54) (ls' := [some (.inr (.inr (.inl (some 345)))), none, none]) (st' := [.inl (122), .inl (97), .inr (.inr (.inl (some 345)))]) (fun _ _ => rfl) ?_
        refine ej_call hmn (eg_at hT 1 12 rfl rfl) (pc' := 57) (r := []) (eq_isAt hmn (lo := 97) (hi := 122) (by omega) hL) (by omega) (fun _ _ => rfl) (fun v hp' hP => ?_)
        obtain ⟨br4, rfl, rfl, br4a, br4b⟩ := hP
        show em_G l D τ sa A own mname bytes 3 d (0, 0) none K (57, [some (.inr (.inr (.inl (some 345)))), none, none], [.inl (br4)], (et_r (L) (a) (a) (t) (v) (n)), 0, 0)
        refine ej_ifCond hmn (eg_at hT 1 13 rfl rfl) (pc' := 60) rfl (fun _ => rfl) (fun (bc5 : br4 = 0) => ?_) (fun (bc5 : ¬ (br4 = 0)) => ?_)
        · refine ej_plain hmn (eg_at hT 4 12 rfl rfl) (pc' := 153) (ls' := [some (.inr (.inr (.inl (some 345)))), none, none]) (st' := [.inr (.inr (.inl (some 345)))]) (fun _ _ => rfl) ?_
          refine ej_plain hmn (eg_at hT 4 13 rfl rfl) (pc' := 155) (ls' := [some (.inr (.inr (.inl (some 345)))), none, none]) (st' := [.inl (45), .inr (.inr (.inl (some 345)))]) (fun _ _ => rfl) ?_
          refine ej_plain hmn (eg_at hT 4 14 rfl rfl) (pc' := 157) (ls' := [some (.inr (.inr (.inl (some 345)))), none, none]) (st' := [.inl (45), .inl (45), .inr (.inr (.inl (some 345)))]) (fun _ _ => rfl) ?_
          refine ej_call hmn (eg_at hT 4 15 rfl rfl) (pc' := 160) (r := []) (eq_isAt hmn (lo := 45) (hi := 45) (by omega) hL) (by omega) (fun _ _ => rfl) (fun v hp' hP => ?_)
          obtain ⟨br6, rfl, rfl, br6a, br6b⟩ := hP
          show em_G l D τ sa A own mname bytes 3 d (0, 0) none K (160, [some (.inr (.inr (.inl (some 345)))), none, none], [.inl (br6)], (et_r (L) (a) (a) (t) (v) (n)), 0, 0)
          refine ej_plain hmn (eg_at hT 5 0 rfl rfl) (pc' := 161) (ls' := [some (.inr (.inr (.inl (some 345)))), some (.inl (br6)), none]) (st' := []) (fun _ _ => rfl) ?_
          refine ej_plain hmn (eg_at hT 5 1 rfl rfl) (pc' := 162) (ls' := [some (.inr (.inr (.inl (some 345)))), some (.inl (br6)), none]) (st' := [.inr (.inr (.inl (some 345)))]) (fun _ _ => rfl) ?_
          refine ej_plain hmn (eg_at hT 5 2 rfl rfl) (pc' := 163) (ls' := [some (.inr (.inr (.inl (some 345)))), some (.inl (br6)), none]) (st' := [.inr (.inr (.inl (some 345))), .inr (.inr (.inl (some 345)))]) (fun _ _ => rfl) ?_
          refine ej_plain hmn (eg_at hT 5 3 rfl rfl) (pc' := 166) (ls' := [some (.inr (.inr (.inl (some 345)))), some (.inl (br6)), none]) (st' := [.inl (a), .inr (.inr (.inl (some 345)))]) (fun _ _ => rfl) ?_
          refine ej_plain hmn (eg_at hT 5 4 rfl rfl) (pc' := 167) (ls' := [some (.inr (.inr (.inl (some 345)))), some (.inl (br6)), none]) (st' := [.inl (br6), .inl (a), .inr (.inr (.inl (some 345)))]) (fun _ _ => rfl) ?_
          refine ej_ifCond hmn (eg_at hT 5 5 rfl rfl) (pc' := 170) rfl (fun _ => rfl) (fun (bc7 : br6 = 0) => ?_) (fun (bc7 : ¬ (br6 = 0)) => ?_)
          · refine ej_plain hmn (eg_at hT 5 8 rfl rfl) (pc' := 175) (ls' := [some (.inr (.inr (.inl (some 345)))), some (.inl (br6)), none]) (st' := [.inl (0), .inl (a), .inr (.inr (.inl (some 345)))]) (fun _ _ => rfl) ?_
            refine ej_iadd hmn (eg_at hT 5 9 rfl rfl) (pc' := 176) rfl (by omega) (by omega) ?_
            refine ej_plain hmn (eg_at hT 5 10 rfl rfl) (pc' := 179) (ls' := [some (.inr (.inr (.inl (some 345)))), some (.inl (br6)), none]) (st' := []) (hp' := (et_r (L) (a + 0) (a) (t) (v) (n))) (fun _ _ => rfl) ?_
            refine ej_plain hmn (eg_at hT 5 11 rfl rfl) (pc' := 180) (ls' := [some (.inr (.inr (.inl (some 345)))), some (.inl (br6)), none]) (st' := [.inr (.inr (.inl (some 345)))]) (fun _ _ => rfl) ?_
            refine ej_plain hmn (eg_at hT 5 12 rfl rfl) (pc' := 183) (ls' := [some (.inr (.inr (.inl (some 345)))), some (.inl (br6)), none]) (st' := [.inl (a + 0)]) (fun _ _ => rfl) ?_
            refine ej_plain hmn (eg_at hT 5 13 rfl rfl) (pc' := 184) (ls' := [some (.inr (.inr (.inl (some 345)))), some (.inl (br6)), some (.inl (a + 0))]) (st' := []) (fun _ _ => rfl) ?_
            refine ej_plain hmn (eg_at hT 5 14 rfl rfl) (pc' := 185) (ls' := [some (.inr (.inr (.inl (some 345)))), some (.inl (br6)), some (.inl (a + 0))]) (st' := [.inr (.inr (.inl (some 345)))]) (fun _ _ => rfl) ?_
            refine ej_plain hmn (eg_at hT 5 15 rfl rfl) (pc' := 186) (ls' := [some (.inr (.inr (.inl (some 345)))), some (.inl (br6)), some (.inl (a + 0))]) (st' := [.inl (0), .inr (.inr (.inl (some 345)))]) (fun _ _ => rfl) ?_
            refine ej_plain hmn (eg_at hT 5 16 rfl rfl) (pc' := 189) (ls' := [some (.inr (.inr (.inl (some 345)))), some (.inl (br6)), some (.inl (a + 0))]) (st' := []) (hp' := (et_r (L) (a + 0) (a) (t) (0) (n))) (fun _ _ => rfl) ?_
            exact eq_sc_D hmn hT hd hL z0 hK 301 _ _ (by omega) (by omega)
          · refine ej_plain hmn (eg_at hT 5 6 rfl rfl) (pc' := 171) (ls' := [some (.inr (.inr (.inl (some 345)))), some (.inl (br6)), none]) (st' := [.inl (1), .inl (a), .inr (.inr (.inl (some 345)))]) (fun _ _ => rfl) ?_
            refine ej_plain hmn (eg_at hT 5 7 rfl rfl) (pc' := 175) (ls' := [some (.inr (.inr (.inl (some 345)))), some (.inl (br6)), none]) (st' := [.inl (1), .inl (a), .inr (.inr (.inl (some 345)))]) (fun _ _ => rfl) ?_
            refine ej_iadd hmn (eg_at hT 5 9 rfl rfl) (pc' := 176) rfl (by omega) (by omega) ?_
            refine ej_plain hmn (eg_at hT 5 10 rfl rfl) (pc' := 179) (ls' := [some (.inr (.inr (.inl (some 345)))), some (.inl (br6)), none]) (st' := []) (hp' := (et_r (L) (a + 1) (a) (t) (v) (n))) (fun _ _ => rfl) ?_
            refine ej_plain hmn (eg_at hT 5 11 rfl rfl) (pc' := 180) (ls' := [some (.inr (.inr (.inl (some 345)))), some (.inl (br6)), none]) (st' := [.inr (.inr (.inl (some 345)))]) (fun _ _ => rfl) ?_
            refine ej_plain hmn (eg_at hT 5 12 rfl rfl) (pc' := 183) (ls' := [some (.inr (.inr (.inl (some 345)))), some (.inl (br6)), none]) (st' := [.inl (a + 1)]) (fun _ _ => rfl) ?_
            refine ej_plain hmn (eg_at hT 5 13 rfl rfl) (pc' := 184) (ls' := [some (.inr (.inr (.inl (some 345)))), some (.inl (br6)), some (.inl (a + 1))]) (st' := []) (fun _ _ => rfl) ?_
            refine ej_plain hmn (eg_at hT 5 14 rfl rfl) (pc' := 185) (ls' := [some (.inr (.inr (.inl (some 345)))), some (.inl (br6)), some (.inl (a + 1))]) (st' := [.inr (.inr (.inl (some 345)))]) (fun _ _ => rfl) ?_
            refine ej_plain hmn (eg_at hT 5 15 rfl rfl) (pc' := 186) (ls' := [some (.inr (.inr (.inl (some 345)))), some (.inl (br6)), some (.inl (a + 1))]) (st' := [.inl (0), .inr (.inr (.inl (some 345)))]) (fun _ _ => rfl) ?_
            refine ej_plain hmn (eg_at hT 5 16 rfl rfl) (pc' := 189) (ls' := [some (.inr (.inr (.inl (some 345)))), some (.inl (br6)), some (.inl (a + 1))]) (st' := []) (hp' := (et_r (L) (a + 1) (a) (t) (0) (n))) (fun _ _ => rfl) ?_
            exact eq_sc_D hmn hT hd hL z0 hK 301 _ _ (by omega) (by omega)
        · refine ej_plain hmn (eg_at hT 1 14 rfl rfl) (pc' := 61) (ls' := [some (.inr (.inr (.inl (some 345)))), none, none]) (st' := [.inr (.inl (0))]) (fun _ _ => rfl) ?_
          refine ej_plain hmn (eg_at hT 1 15 rfl rfl) (pc' := 62) (ls' := [some (.inr (.inr (.inl (some 345)))), some (.inr (.inl (0))), none]) (st' := []) (fun _ _ => rfl) ?_
          exact eq_sc_L hmn hT hd hL z0 hK 301 _ _ (by omega) (by omega)
      · refine ej_plain hmn (eg_at hT 1 5 rfl rfl) (pc' := 44) (ls' := [some (.inr (.inr (.inl (some 345)))), none, none]) (st' := [.inr (.inr (.inl (some 345)))]) (fun _ _ => rfl) ?_
        refine ej_plain hmn (eg_at hT 1 6 rfl rfl) (pc' := 45) (ls' := [some (.inr (.inr (.inl (some 345)))), none, none]) (st' := [.inl (0), .inr (.inr (.inl (some 345)))]) (fun _ _ => rfl) ?_
        refine ej_plain hmn (eg_at hT 1 7 rfl rfl) (pc' := 48) (ls' := [some (.inr (.inr (.inl (some 345)))), none, none]) (st' := []) (hp' := (et_r (L) (a) (a) (0) (v) (n))) (fun _ _ => rfl) ?_
        exact ej_return hmn (eg_at hT 1 8 rfl rfl) (hK _ _ _ _ (by omega))
    · refine ej_plain hmn (eg_at hT 0 5 rfl rfl) (pc' := 12) (ls' := [some (.inr (.inr (.inl (some 345)))), none, none]) (st' := [.inr (.inr (.inl (some 345)))]) (fun _ _ => rfl) ?_
      refine ej_plain hmn (eg_at hT 0 6 rfl rfl) (pc' := 13) (ls' := [some (.inr (.inr (.inl (some 345)))), none, none]) (st' := [.inr (.inr (.inl (some 345))), .inr (.inr (.inl (some 345)))]) (fun _ _ => rfl) ?_
      refine ej_plain hmn (eg_at hT 0 7 rfl rfl) (pc' := 16) (ls' := [some (.inr (.inr (.inl (some 345)))), none, none]) (st' := [.inl (a), .inr (.inr (.inl (some 345)))]) (fun _ _ => rfl) ?_
      refine ej_plain hmn (eg_at hT 0 8 rfl rfl) (pc' := 17) (ls' := [some (.inr (.inr (.inl (some 345)))), none, none]) (st' := [.inl (1), .inl (a), .inr (.inr (.inl (some 345)))]) (fun _ _ => rfl) ?_
      refine ej_iadd hmn (eg_at hT 0 9 rfl rfl) (pc' := 18) rfl (by omega) (by omega) ?_
      refine ej_plain hmn (eg_at hT 0 10 rfl rfl) (pc' := 21) (ls' := [some (.inr (.inr (.inl (some 345)))), none, none]) (st' := []) (hp' := (et_r (L) (a + 1) (s) (t) (v) (n))) (fun _ _ => rfl) ?_
      refine ej_plain hmn (eg_at hT 0 11 rfl rfl) (pc' := 0) (ls' := [some (.inr (.inr (.inl (some 345)))), none, none]) (st' := []) (fun _ _ => rfl) ?_
      exact ih _ (by omega) (by omega)
theorem eq_scans {l : Launch} {D : va_G} {τ : Nat → ClassId} {sa : List Nat} {A : Nat → Prop} (hmn : em_mna) {L a0 s0 t0 v0 n : Int} (hL : L ≤ 300) (z0 : 0 ≤ a0) (z1 : a0 ≤ L) (hv : (-2147483648 ≤ v0 ∧ v0 ≤ 2147483647) ∧ (-2147483648 ≤ t0 ∧ t0 ≤ 2147483647)) : em_X l D τ sa A 153 [(.inr (.inr (.inl (some 345))))] (et_r L a0 s0 t0 v0 n) (fun w hp' => ∃ a s t v : Int, w = none ∧ hp' = et_r L a s t v n ∧ (a0 ≤ s ∧ s ≤ a ∧ a ≤ L ∧ (-2147483648 ≤ t ∧ t ≤ 2147483647) ∧ (-2147483648 ≤ v ∧ v ≤ 2147483647) ∧ (t ≠ 0 → s < L) ∧ (t = 3 → s < a))) 2 := by
  refine em_X.of (tb := eu_153) (nl := 3) (ret := none) rfl (q := [some (.inr (.inr (.inl (some 345)))), none, none]) (fun _ => rfl) (fun own mname bytes hT => ?_)
  exact eq_sc_B hmn hT (Nat.le_refl 2) hL z0 (fun a s t v h => @decide_eq_true _ (Classical.propDecidable _) ⟨a, s, t, v, rfl, rfl, h⟩) hv 301 a0 (by omega) (by omega)
