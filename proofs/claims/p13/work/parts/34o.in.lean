/-! in, isRule, isMan, feelsIn, by hand. Printed by wip/p3/ingen.py. -/
theorem ej_lcmp {l : Launch} {D : va_G} {τ : Nat → ClassId} {sa : List Nat} {A : Nat → Prop} {own mname : String} {bytes : ByteArray} {nL d : Nat} {ret : Option FieldType} {K : Option ex_V → ex_H → Bool} {pc pc' a b : Nat} {z : Int} {ls : List (Option ex_V)} {r : List ex_V} {hp : ex_H} {x y : Int} (hmn : em_mna) (hx : ek_J em_inf et_cls et_vt own mname bytes (pc, eh_lcmp, a, b, z)) (hpc : pc + 1 = pc') (h1 : x < y → em_G l D τ sa A own mname bytes nL d (0, 0) ret K (pc', ls, .inl (-1) :: r, hp, 0, 0)) (h2 : x = y → em_G l D τ sa A own mname bytes nL d (0, 0) ret K (pc', ls, .inl 0 :: r, hp, 0, 0)) (h3 : y < x → em_G l D τ sa A own mname bytes nL d (0, 0) ret K (pc', ls, .inl 1 :: r, hp, 0, 0)) : em_G l D τ sa A own mname bytes nL d (0, 0) ret K (pc, ls, .inr (.inl y) :: .inr (.inl x) :: r, hp, 0, 0) := by
  subst hpc
  refine eg_step hmn _ hx ?_
  show ex_n (pc + 1) (fun pc => eg_go l D τ sa A own mname bytes nL d ret K pc ls (ex_lc x x y y :: r) hp 0 0) = true
  rw [ex_n_eq]
  refine eg_go_of ?_
  unfold ex_lc
  by_cases c1 : x < y
  · rw [if_pos ((ex_le_iff _ _).mpr (by omega))]; exact h1 c1
  · rw [if_neg (fun q => by have := (ex_le_iff _ _).mp q; omega)]
    by_cases c2 : y < x
    · rw [if_pos ((ex_le_iff _ _).mpr (by omega))]; exact h3 c2
    · have e : x = y := by omega
      subst e
      rw [if_neg (fun q => by have := (ex_le_iff _ _).mp q; omega), if_pos (by rw [(ex_eq_iff x x).mpr rfl]; rfl)]
      exact h2 rfl
theorem eq_in {l : Launch} {D : va_G} {τ : Nat → ClassId} {sa : List Nat} {A : Nat → Prop} (hmn : em_mna) {B W Z Y N F M S U C a b R : Nat} {v lo hi : Int} : em_X l D τ sa A 126 [.inr (.inl v), .inr (.inl lo), .inr (.inl hi)] (ey_h B W Z Y N F M S U C a b R) (fun v' hp' => ∃ r : Int, v' = some (.inl r) ∧ hp' = ey_h B W Z Y N F M S U C a b R ∧ (r = 0 ∨ r = 1) ∧ (r = 1 ↔ lo ≤ v ∧ v ≤ hi)) 0 := by
  refine em_X.of (tb := eu_126) (nl := 6) (ret := some .boolean) rfl (q := [some (.inr (.inl (v))), none, some (.inr (.inl (lo))), none, some (.inr (.inl (hi))), none]) (fun _ => rfl) (fun own mname bytes hT => ?_)
  refine ej_plain hmn (eg_at hT 0 0 rfl rfl) (pc' := 1) (ls' := [some (.inr (.inl (v))), none, some (.inr (.inl (lo))), none, some (.inr (.inl (hi))), none]) (st' := [.inr (.inl (v))]) (fun _ _ => rfl) ?_
  refine ej_plain hmn (eg_at hT 0 1 rfl rfl) (pc' := 2) (ls' := [some (.inr (.inl (v))), none, some (.inr (.inl (lo))), none, some (.inr (.inl (hi))), none]) (st' := [.inr (.inl (lo)), .inr (.inl (v))]) (fun _ _ => rfl) ?_
  refine ej_lcmp hmn (eg_at hT 0 2 rfl rfl) (pc' := 3) rfl (fun (gc1 : v < lo) => ?_) (fun (gc1 : v = lo) => ?_) (fun (gc1 : lo < v) => ?_)
  · refine ej_plain hmn (eg_at hT 0 3 rfl rfl) (pc' := 17) (ls' := [some (.inr (.inl (v))), none, some (.inr (.inl (lo))), none, some (.inr (.inl (hi))), none]) (st' := []) (fun _ _ => rfl) ?_
    refine ej_plain hmn (eg_at hT 0 10 rfl rfl) (pc' := 18) (ls' := [some (.inr (.inl (v))), none, some (.inr (.inl (lo))), none, some (.inr (.inl (hi))), none]) (st' := [.inl (0)]) (fun _ _ => rfl) ?_
    exact ej_zreturn hmn (eg_at hT 0 11 rfl rfl) (by omega) (by omega) (@decide_eq_true _ (Classical.propDecidable _) ⟨0, rfl, rfl, by omega, by omega⟩)
  · refine ej_plain hmn (eg_at hT 0 3 rfl rfl) (pc' := 6) (ls' := [some (.inr (.inl (v))), none, some (.inr (.inl (lo))), none, some (.inr (.inl (hi))), none]) (st' := []) (fun _ _ => rfl) ?_
    refine ej_plain hmn (eg_at hT 0 4 rfl rfl) (pc' := 7) (ls' := [some (.inr (.inl (v))), none, some (.inr (.inl (lo))), none, some (.inr (.inl (hi))), none]) (st' := [.inr (.inl (v))]) (fun _ _ => rfl) ?_
    refine ej_plain hmn (eg_at hT 0 5 rfl rfl) (pc' := 9) (ls' := [some (.inr (.inl (v))), none, some (.inr (.inl (lo))), none, some (.inr (.inl (hi))), none]) (st' := [.inr (.inl (hi)), .inr (.inl (v))]) (fun _ _ => rfl) ?_
    refine ej_lcmp hmn (eg_at hT 0 6 rfl rfl) (pc' := 10) rfl (fun (gc2 : v < hi) => ?_) (fun (gc2 : v = hi) => ?_) (fun (gc2 : hi < v) => ?_)
    · refine ej_plain hmn (eg_at hT 0 7 rfl rfl) (pc' := 13) (ls' := [some (.inr (.inl (v))), none, some (.inr (.inl (lo))), none, some (.inr (.inl (hi))), none]) (st' := []) (fun _ _ => rfl) ?_
      refine ej_plain hmn (eg_at hT 0 8 rfl rfl) (pc' := 14) (ls' := [some (.inr (.inl (v))), none, some (.inr (.inl (lo))), none, some (.inr (.inl (hi))), none]) (st' := [.inl (1)]) (fun _ _ => rfl) ?_
      refine ej_plain hmn (eg_at hT 0 9 rfl rfl) (pc' := 18) (ls' := [some (.inr (.inl (v))), none, some (.inr (.inl (lo))), none, some (.inr (.inl (hi))), none]) (st' := [.inl (1)]) (fun _ _ => rfl) ?_
      exact ej_zreturn hmn (eg_at hT 0 11 rfl rfl) (by omega) (by omega) (@decide_eq_true _ (Classical.propDecidable _) ⟨1, rfl, rfl, by omega, by omega⟩)
    · refine ej_plain hmn (eg_at hT 0 7 rfl rfl) (pc' := 13) (ls' := [some (.inr (.inl (v))), none, some (.inr (.inl (lo))), none, some (.inr (.inl (hi))), none]) (st' := []) (fun _ _ => rfl) ?_
      refine ej_plain hmn (eg_at hT 0 8 rfl rfl) (pc' := 14) (ls' := [some (.inr (.inl (v))), none, some (.inr (.inl (lo))), none, some (.inr (.inl (hi))), none]) (st' := [.inl (1)]) (fun _ _ => rfl) ?_
      refine ej_plain hmn (eg_at hT 0 9 rfl rfl) (pc' := 18) (ls' := [some (.inr (.inl (v))), none, some (.inr (.inl (lo))), none, some (.inr (.inl (hi))), none]) (st' := [.inl (1)]) (fun _ _ => rfl) ?_
      exact ej_zreturn hmn (eg_at hT 0 11 rfl rfl) (by omega) (by omega) (@decide_eq_true _ (Classical.propDecidable _) ⟨1, rfl, rfl, by omega, by omega⟩)
    · refine ej_plain hmn (eg_at hT 0 7 rfl rfl) (pc' := 17) (ls' := [some (.inr (.inl (v))), none, some (.inr (.inl (lo))), none, some (.inr (.inl (hi))), none]) (st' := []) (fun _ _ => rfl) ?_
      refine ej_plain hmn (eg_at hT 0 10 rfl rfl) (pc' := 18) (ls' := [some (.inr (.inl (v))), none, some (.inr (.inl (lo))), none, some (.inr (.inl (hi))), none]) (st' := [.inl (0)]) (fun _ _ => rfl) ?_
      exact ej_zreturn hmn (eg_at hT 0 11 rfl rfl) (by omega) (by omega) (@decide_eq_true _ (Classical.propDecidable _) ⟨0, rfl, rfl, by omega, by omega⟩)
  · refine ej_plain hmn (eg_at hT 0 3 rfl rfl) (pc' := 6) (ls' := [some (.inr (.inl (v))), none, some (.inr (.inl (lo))), none, some (.inr (.inl (hi))), none]) (st' := []) (fun _ _ => rfl) ?_
    refine ej_plain hmn (eg_at hT 0 4 rfl rfl) (pc' := 7) (ls' := [some (.inr (.inl (v))), none, some (.inr (.inl (lo))), none, some (.inr (.inl (hi))), none]) (st' := [.inr (.inl (v))]) (fun _ _ => rfl) ?_
    refine ej_plain hmn (eg_at hT 0 5 rfl rfl) (pc' := 9) (ls' := [some (.inr (.inl (v))), none, some (.inr (.inl (lo))), none, some (.inr (.inl (hi))), none]) (st' := [.inr (.inl (hi)), .inr (.inl (v))]) (fun _ _ => rfl) ?_
    refine ej_lcmp hmn (eg_at hT 0 6 rfl rfl) (pc' := 10) rfl (fun (gc3 : v < hi) => ?_) (fun (gc3 : v = hi) => ?_) (fun (gc3 : hi < v) => ?_)
    · refine ej_plain hmn (eg_at hT 0 7 rfl rfl) (pc' := 13) (ls' := [some (.inr (.inl (v))), none, some (.inr (.inl (lo))), none, some (.inr (.inl (hi))), none]) (st' := []) (fun _ _ => rfl) ?_
      refine ej_plain hmn (eg_at hT 0 8 rfl rfl) (pc' := 14) (ls' := [some (.inr (.inl (v))), none, some (.inr (.inl (lo))), none, some (.inr (.inl (hi))), none]) (st' := [.inl (1)]) (fun _ _ => rfl) ?_
      refine ej_plain hmn (eg_at hT 0 9 rfl rfl) (pc' := 18) (ls' := [some (.inr (.inl (v))), none, some (.inr (.inl (lo))), none, some (.inr (.inl (hi))), none]) (st' := [.inl (1)]) (fun _ _ => rfl) ?_
      exact ej_zreturn hmn (eg_at hT 0 11 rfl rfl) (by omega) (by omega) (@decide_eq_true _ (Classical.propDecidable _) ⟨1, rfl, rfl, by omega, by omega⟩)
    · refine ej_plain hmn (eg_at hT 0 7 rfl rfl) (pc' := 13) (ls' := [some (.inr (.inl (v))), none, some (.inr (.inl (lo))), none, some (.inr (.inl (hi))), none]) (st' := []) (fun _ _ => rfl) ?_
      refine ej_plain hmn (eg_at hT 0 8 rfl rfl) (pc' := 14) (ls' := [some (.inr (.inl (v))), none, some (.inr (.inl (lo))), none, some (.inr (.inl (hi))), none]) (st' := [.inl (1)]) (fun _ _ => rfl) ?_
      refine ej_plain hmn (eg_at hT 0 9 rfl rfl) (pc' := 18) (ls' := [some (.inr (.inl (v))), none, some (.inr (.inl (lo))), none, some (.inr (.inl (hi))), none]) (st' := [.inl (1)]) (fun _ _ => rfl) ?_
      exact ej_zreturn hmn (eg_at hT 0 11 rfl rfl) (by omega) (by omega) (@decide_eq_true _ (Classical.propDecidable _) ⟨1, rfl, rfl, by omega, by omega⟩)
    · refine ej_plain hmn (eg_at hT 0 7 rfl rfl) (pc' := 17) (ls' := [some (.inr (.inl (v))), none, some (.inr (.inl (lo))), none, some (.inr (.inl (hi))), none]) (st' := []) (fun _ _ => rfl) ?_
      refine ej_plain hmn (eg_at hT 0 10 rfl rfl) (pc' := 18) (ls' := [some (.inr (.inl (v))), none, some (.inr (.inl (lo))), none, some (.inr (.inl (hi))), none]) (st' := [.inl (0)]) (fun _ _ => rfl) ?_
      exact ej_zreturn hmn (eg_at hT 0 11 rfl rfl) (by omega) (by omega) (@decide_eq_true _ (Classical.propDecidable _) ⟨0, rfl, rfl, by omega, by omega⟩)
theorem eq_isRule {l : Launch} {D : va_G} {τ : Nat → ClassId} {sa : List Nat} {A : Nat → Prop} (hmn : em_mna) {B W Z Y N F M S U C a b R : Nat} {kind n : Int} : em_X l D τ sa A 170 [.inl kind, .inl n] (ey_h B W Z Y N F M S U C a b R) (fun v' hp' => ∃ r : Int, v' = some (.inl r) ∧ hp' = ey_h B W Z Y N F M S U C a b R ∧ (r = 0 ∨ r = 1) ∧ (r = 1 ↔ (0 ≤ kind ∧ kind ≤ 5) ∧ 0 ≤ n ∧ n ≤ 9)) 1 := by
  refine em_X.of (tb := eu_170) (nl := 2) (ret := some .boolean) rfl (q := [some (.inl (kind)), some (.inl (n))]) (fun _ => rfl) (fun own mname bytes hT => ?_)
  refine ej_plain hmn (eg_at hT 0 0 rfl rfl) (pc' := 1) (ls' := [some (.inl (kind)), some (.inl (n))]) (st' := [.inl (kind)]) (fun _ _ => rfl) ?_
  refine ej_plain hmn (eg_at hT 0 1 rfl rfl) (pc' := 2) (ls' := [some (.inl (kind)), some (.inl (n))]) (st' := [.inr (.inl (kind))]) (fun _ _ => rfl) ?_
  refine ej_plain hmn (eg_at hT 0 2 rfl rfl) (pc' := 3) (ls' := [some (.inl (kind)), some (.inl (n))]) (st' := [.inr (.inl (0)), .inr (.inl (kind))]) (fun _ _ => rfl) ?_
  refine ej_plain hmn (eg_at hT 0 3 rfl rfl) (pc' := 6) (ls' := [some (.inl (kind)), some (.inl (n))]) (st' := [.inr (.inl (5)), .inr (.inl (0)), .inr (.inl (kind))]) (fun _ _ => rfl) ?_
  refine ej_call hmn (eg_at hT 0 4 rfl rfl) (pc' := 9) (r := []) (eq_in hmn (v := kind) (lo := 0) (hi := 5)) (by omega) (fun _ _ => rfl) (fun v hp' hP => ?_)
  obtain ⟨r0, rfl, rfl, r0a, r0b⟩ := hP
  show em_G l D τ sa A own mname bytes 2 1 (0, 0) (some .boolean) _ (9, [some (.inl (kind)), some (.inl (n))], [.inl (r0)], (ey_h B W Z Y N F M S U C a b R), 0, 0)
  refine ej_ifCond hmn (eg_at hT 0 5 rfl rfl) (pc' := 12) rfl (fun _ => rfl) (fun (gc2 : r0 = 0) => ?_) (fun (gc2 : ¬ (r0 = 0)) => ?_)
  · refine ej_plain hmn (eg_at hT 0 14 rfl rfl) (pc' := 29) (ls' := [some (.inl (kind)), some (.inl (n))]) (st' := [.inl (0)]) (fun _ _ => rfl) ?_
    exact ej_zreturn hmn (eg_at hT 0 15 rfl rfl) (by omega) (by omega) (@decide_eq_true _ (Classical.propDecidable _) ⟨0, rfl, rfl, by omega, by omega⟩)
  · refine ej_plain hmn (eg_at hT 0 6 rfl rfl) (pc' := 13) (ls' := [some (.inl (kind)), some (.inl (n))]) (st' := [.inl (n)]) (fun _ _ => rfl) ?_
    refine ej_plain hmn (eg_at hT 0 7 rfl rfl) (pc' := 14) (ls' := [some (.inl (kind)), some (.inl (n))]) (st' := [.inr (.inl (n))]) (fun _ _ => rfl) ?_
    refine ej_plain hmn (eg_at hT 0 8 rfl rfl) (pc' := 15) (ls' := [some (.inl (kind)), some (.inl (n))]) (st' := [.inr (.inl (0)), .inr (.inl (n))]) (fun _ _ => rfl) ?_
    refine ej_plain hmn (eg_at hT 0 9 rfl rfl) (pc' := 18) (ls' := [some (.inl (kind)), some (.inl (n))]) (st' := [.inr (.inl (9)), .inr (.inl (0)), .inr (.inl (n))]) (fun _ _ => rfl) ?_
    refine ej_call hmn (eg_at hT 0 10 rfl rfl) (pc' := 21) (r := []) (eq_in hmn (v := n) (lo := 0) (hi := 9)) (by omega) (fun _ _ => rfl) (fun v hp' hP => ?_)
    obtain ⟨r2, rfl, rfl, r2a, r2b⟩ := hP
    show em_G l D τ sa A own mname bytes 2 1 (0, 0) (some .boolean) _ (21, [some (.inl (kind)), some (.inl (n))], [.inl (r2)], (ey_h B W Z Y N F M S U C a b R), 0, 0)
    refine ej_ifCond hmn (eg_at hT 0 11 rfl rfl) (pc' := 24) rfl (fun _ => rfl) (fun (gc4 : r2 = 0) => ?_) (fun (gc4 : ¬ (r2 = 0)) => ?_)
    · refine ej_plain hmn (eg_at hT 0 14 rfl rfl) (pc' := 29) (ls' := [some (.inl (kind)), some (.inl (n))]) (st' := [.inl (0)]) (fun _ _ => rfl) ?_
      exact ej_zreturn hmn (eg_at hT 0 15 rfl rfl) (by omega) (by omega) (@decide_eq_true _ (Classical.propDecidable _) ⟨0, rfl, rfl, by omega, by omega⟩)
    · refine ej_plain hmn (eg_at hT 0 12 rfl rfl) (pc' := 25) (ls' := [some (.inl (kind)), some (.inl (n))]) (st' := [.inl (1)]) (fun _ _ => rfl) ?_
      refine ej_plain hmn (eg_at hT 0 13 rfl rfl) (pc' := 29) (ls' := [some (.inl (kind)), some (.inl (n))]) (st' := [.inl (1)]) (fun _ _ => rfl) ?_
      exact ej_zreturn hmn (eg_at hT 0 15 rfl rfl) (by omega) (by omega) (@decide_eq_true _ (Classical.propDecidable _) ⟨1, rfl, rfl, by omega, by omega⟩)
theorem eq_isMan {l : Launch} {D : va_G} {τ : Nat → ClassId} {sa : List Nat} {A : Nat → Prop} (hmn : em_mna) {B W Z Y N F M S U C a b R : Nat} {bf : Int → Int} (hB : ey_R 230 B bf) (h11 : 0 ≤ bf 11 ∧ bf 11 ≤ 24) {m : Int} : em_X l D τ sa A 144 [(.inr (.inr (.inl (some 345)))), .inl m] (ey_h B W Z Y N F M S U C a b R) (fun v' hp' => ∃ r : Int, v' = some (.inl r) ∧ hp' = ey_h B W Z Y N F M S U C a b R ∧ (r = 0 ∨ r = 1) ∧ (r = 1 ↔ 0 ≤ m ∧ m < bf 11)) 1 := by
  refine em_X.of (tb := eu_144) (nl := 2) (ret := some .boolean) rfl (q := [some (.inr (.inr (.inl (some 345)))), some (.inl (m))]) (fun _ => rfl) (fun own mname bytes hT => ?_)
  refine ej_plain hmn (eg_at hT 0 0 rfl rfl) (pc' := 1) (ls' := [some (.inr (.inr (.inl (some 345)))), some (.inl (m))]) (st' := [.inl (m)]) (fun _ _ => rfl) ?_
  refine ej_plain hmn (eg_at hT 0 1 rfl rfl) (pc' := 2) (ls' := [some (.inr (.inr (.inl (some 345)))), some (.inl (m))]) (st' := [.inr (.inl (m))]) (fun _ _ => rfl) ?_
  refine ej_plain hmn (eg_at hT 0 2 rfl rfl) (pc' := 3) (ls' := [some (.inr (.inr (.inl (some 345)))), some (.inl (m))]) (st' := [.inr (.inl (0)), .inr (.inl (m))]) (fun _ _ => rfl) ?_
  refine ej_plain hmn (eg_at hT 0 3 rfl rfl) (pc' := 4) (ls' := [some (.inr (.inr (.inl (some 345)))), some (.inl (m))]) (st' := [.inr (.inr (.inl (some 345))), .inr (.inl (0)), .inr (.inl (m))]) (fun _ _ => rfl) ?_
  refine ej_plain hmn (eg_at hT 0 4 rfl rfl) (pc' := 7) (ls' := [some (.inr (.inr (.inl (some 345)))), some (.inl (m))]) (st' := [.inr (.inr (.inl (some 346))), .inr (.inl (0)), .inr (.inl (m))]) (fun _ _ => rfl) ?_
  refine ej_plain hmn (eg_at hT 0 5 rfl rfl) (pc' := 9) (ls' := [some (.inr (.inr (.inl (some 345)))), some (.inl (m))]) (st' := [.inl (11), .inr (.inr (.inl (some 346))), .inr (.inl (0)), .inr (.inl (m))]) (fun _ _ => rfl) ?_
  refine ej_iaload hmn (eg_at hT 0 6 rfl rfl) (pc' := 10) (n := 230) rfl (fun _ => rfl) hB (by omega) (by omega) ?_
  refine ej_plain hmn (eg_at hT 0 7 rfl rfl) (pc' := 11) (ls' := [some (.inr (.inr (.inl (some 345)))), some (.inl (m))]) (st' := [.inl (1), .inl (bf 11), .inr (.inl (0)), .inr (.inl (m))]) (fun _ _ => rfl) ?_
  refine ej_isub hmn (eg_at hT 0 8 rfl rfl) (pc' := 12) rfl (by omega) (by omega) ?_
  refine ej_plain hmn (eg_at hT 0 9 rfl rfl) (pc' := 13) (ls' := [some (.inr (.inr (.inl (some 345)))), some (.inl (m))]) (st' := [.inr (.inl ((bf 11) - 1)), .inr (.inl (0)), .inr (.inl (m))]) (fun _ _ => rfl) ?_
  refine ej_call hmn (eg_at hT 0 10 rfl rfl) (pc' := 16) (r := []) (eq_in hmn (v := m) (lo := 0) (hi := (bf 11) - 1)) (by omega) (fun _ _ => rfl) (fun v hp' hP => ?_)
  obtain ⟨r0, rfl, rfl, r0a, r0b⟩ := hP
  show em_G l D τ sa A own mname bytes 2 1 (0, 0) (some .boolean) _ (16, [some (.inr (.inr (.inl (some 345)))), some (.inl (m))], [.inl (r0)], (ey_h B W Z Y N F M S U C a b R), 0, 0)
  exact ej_zreturn hmn (eg_at hT 0 11 rfl rfl) (by omega) (by omega) (@decide_eq_true _ (Classical.propDecidable _) ⟨r0, rfl, rfl, by omega, by omega⟩)
theorem eq_isIn {l : Launch} {D : va_G} {τ : Nat → ClassId} {sa : List Nat} {A : Nat → Prop} (hmn : em_mna) {B W Z Y N F M S U C a b R : Nat} {bf : Int → Int} (hB : ey_R 230 B bf) (h11 : 0 ≤ bf 3 ∧ bf 3 ≤ 24) {m : Int} : em_X l D τ sa A 171 [(.inr (.inr (.inl (some 345)))), .inl m] (ey_h B W Z Y N F M S U C a b R) (fun v' hp' => ∃ r : Int, v' = some (.inl r) ∧ hp' = ey_h B W Z Y N F M S U C a b R ∧ (r = 0 ∨ r = 1) ∧ (r = 1 ↔ 0 ≤ m ∧ m < bf 3)) 1 := by
  refine em_X.of (tb := eu_171) (nl := 2) (ret := some .boolean) rfl (q := [some (.inr (.inr (.inl (some 345)))), some (.inl (m))]) (fun _ => rfl) (fun own mname bytes hT => ?_)
  refine ej_plain hmn (eg_at hT 0 0 rfl rfl) (pc' := 1) (ls' := [some (.inr (.inr (.inl (some 345)))), some (.inl (m))]) (st' := [.inl (m)]) (fun _ _ => rfl) ?_
  refine ej_plain hmn (eg_at hT 0 1 rfl rfl) (pc' := 2) (ls' := [some (.inr (.inr (.inl (some 345)))), some (.inl (m))]) (st' := [.inr (.inl (m))]) (fun _ _ => rfl) ?_
  refine ej_plain hmn (eg_at hT 0 2 rfl rfl) (pc' := 3) (ls' := [some (.inr (.inr (.inl (some 345)))), some (.inl (m))]) (st' := [.inr (.inl (0)), .inr (.inl (m))]) (fun _ _ => rfl) ?_
  refine ej_plain hmn (eg_at hT 0 3 rfl rfl) (pc' := 4) (ls' := [some (.inr (.inr (.inl (some 345)))), some (.inl (m))]) (st' := [.inr (.inr (.inl (some 345))), .inr (.inl (0)), .inr (.inl (m))]) (fun _ _ => rfl) ?_
  refine ej_plain hmn (eg_at hT 0 4 rfl rfl) (pc' := 7) (ls' := [some (.inr (.inr (.inl (some 345)))), some (.inl (m))]) (st' := [.inr (.inr (.inl (some 346))), .inr (.inl (0)), .inr (.inl (m))]) (fun _ _ => rfl) ?_
  refine ej_plain hmn (eg_at hT 0 5 rfl rfl) (pc' := 8) (ls' := [some (.inr (.inr (.inl (some 345)))), some (.inl (m))]) (st' := [.inl (3), .inr (.inr (.inl (some 346))), .inr (.inl (0)), .inr (.inl (m))]) (fun _ _ => rfl) ?_
  refine ej_iaload hmn (eg_at hT 0 6 rfl rfl) (pc' := 9) (n := 230) rfl (fun _ => rfl) hB (by omega) (by omega) ?_
  refine ej_plain hmn (eg_at hT 0 7 rfl rfl) (pc' := 10) (ls' := [some (.inr (.inr (.inl (some 345)))), some (.inl (m))]) (st' := [.inl (1), .inl (bf 3), .inr (.inl (0)), .inr (.inl (m))]) (fun _ _ => rfl) ?_
  refine ej_isub hmn (eg_at hT 0 8 rfl rfl) (pc' := 11) rfl (by omega) (by omega) ?_
  refine ej_plain hmn (eg_at hT 0 9 rfl rfl) (pc' := 12) (ls' := [some (.inr (.inr (.inl (some 345)))), some (.inl (m))]) (st' := [.inr (.inl ((bf 3) - 1)), .inr (.inl (0)), .inr (.inl (m))]) (fun _ _ => rfl) ?_
  refine ej_call hmn (eg_at hT 0 10 rfl rfl) (pc' := 15) (r := []) (eq_in hmn (v := m) (lo := 0) (hi := (bf 3) - 1)) (by omega) (fun _ _ => rfl) (fun v hp' hP => ?_)
  obtain ⟨r0, rfl, rfl, r0a, r0b⟩ := hP
  show em_G l D τ sa A own mname bytes 2 1 (0, 0) (some .boolean) _ (15, [some (.inr (.inr (.inl (some 345)))), some (.inl (m))], [.inl (r0)], (ey_h B W Z Y N F M S U C a b R), 0, 0)
  exact ej_zreturn hmn (eg_at hT 0 11 rfl rfl) (by omega) (by omega) (@decide_eq_true _ (Classical.propDecidable _) ⟨r0, rfl, rfl, by omega, by omega⟩)
theorem eq_feelsIn {l : Launch} {D : va_G} {τ : Nat → ClassId} {sa : List Nat} {A : Nat → Prop} (hmn : em_mna) {B W Z Y N F M S U C a b R : Nat} {bf wf : Int → Int} (hB : ey_R 230 B bf) (hW : ey_R 192 W wf) (hBB : ∀ c, ex_at ep_h1 346 = some c → ey_bd 230 c.2.2.2.1 bf) {c m q co : Int} (c0 : 0 ≤ c ∧ c < 8) (m0 : 0 ≤ m ∧ m < 8) (q0 : 0 ≤ q ∧ q < 24) (hw : -100000 ≤ wf (8 * q + c) ∧ wf (8 * q + c) ≤ 100000) : em_X l D τ sa A 166 [(.inr (.inr (.inl (some 345)))), .inl c, .inl m, .inl q, .inl co] (ey_h B W Z Y N F M S U C a b R) (fun v' hp' => ∃ r : Int, v' = some (.inl r) ∧ hp' = ey_h B W Z Y N F M S U C a b R ∧ -100100 ≤ r ∧ r ≤ 100200) 0 := by
  refine em_X.of (tb := eu_166) (nl := 5) (ret := some .int) rfl (q := [some (.inr (.inr (.inl (some 345)))), some (.inl (c)), some (.inl (m)), some (.inl (q)), some (.inl (co))]) (fun _ => rfl) (fun own mname bytes hT => ?_)
  obtain ⟨k0, k1, k2, k3, k4, k5, k6, k7, k8, k11, kc, kq, km⟩ := ey_book hBB
  have km' := km m m0.1 m0.2
  refine ej_plain hmn (eg_at hT 0 0 rfl rfl) (pc' := 1) (ls' := [some (.inr (.inr (.inl (some 345)))), some (.inl (c)), some (.inl (m)), some (.inl (q)), some (.inl (co))]) (st' := [.inr (.inr (.inl (some 345)))]) (fun _ _ => rfl) ?_
  refine ej_plain hmn (eg_at hT 0 1 rfl rfl) (pc' := 4) (ls' := [some (.inr (.inr (.inl (some 345)))), some (.inl (c)), some (.inl (m)), some (.inl (q)), some (.inl (co))]) (st' := [.inr (.inr (.inl (some 353)))]) (fun _ _ => rfl) ?_
  refine ej_plain hmn (eg_at hT 0 2 rfl rfl) (pc' := 6) (ls' := [some (.inr (.inr (.inl (some 345)))), some (.inl (c)), some (.inl (m)), some (.inl (q)), some (.inl (co))]) (st' := [.inl (8), .inr (.inr (.inl (some 353)))]) (fun _ _ => rfl) ?_
  refine ej_plain hmn (eg_at hT 0 3 rfl rfl) (pc' := 7) (ls' := [some (.inr (.inr (.inl (some 345)))), some (.inl (c)), some (.inl (m)), some (.inl (q)), some (.inl (co))]) (st' := [.inl (q), .inl (8), .inr (.inr (.inl (some 353)))]) (fun _ _ => rfl) ?_
  refine ej_imul hmn (eg_at hT 0 4 rfl rfl) (pc' := 8) rfl (by omega) (by omega) ?_
  refine ej_plain hmn (eg_at hT 0 5 rfl rfl) (pc' := 9) (ls' := [some (.inr (.inr (.inl (some 345)))), some (.inl (c)), some (.inl (m)), some (.inl (q)), some (.inl (co))]) (st' := [.inl (c), .inl (8 * q), .inr (.inr (.inl (some 353)))]) (fun _ _ => rfl) ?_
  refine ej_iadd hmn (eg_at hT 0 6 rfl rfl) (pc' := 10) rfl (by omega) (by omega) ?_
  refine ej_iaload hmn (eg_at hT 0 7 rfl rfl) (pc' := 11) (n := 192) rfl (fun _ => rfl) hW (by omega) (by omega) ?_
  refine ej_plain hmn (eg_at hT 0 8 rfl rfl) (pc' := 13) (ls' := [some (.inr (.inr (.inl (some 345)))), some (.inl (c)), some (.inl (m)), some (.inl (q)), some (.inl (co))]) (st' := [.inl (co), .inl (wf ((8 * q) + c))]) (fun _ _ => rfl) ?_
  refine ej_ifCond hmn (eg_at hT 0 9 rfl rfl) (pc' := 16) rfl (fun _ => rfl) (fun (gc1 : co = 0) => ?_) (fun (gc1 : ¬ (co = 0)) => ?_)
  · refine ej_plain hmn (eg_at hT 0 15 rfl rfl) (pc' := 27) (ls' := [some (.inr (.inr (.inl (some 345)))), some (.inl (c)), some (.inl (m)), some (.inl (q)), some (.inl (co))]) (st' := [.inl (0), .inl (wf ((8 * q) + c))]) (fun _ _ => rfl) ?_
    refine ej_iadd hmn (eg_at hT 0 16 rfl rfl) (pc' := 28) rfl (by omega) (by omega) ?_
    refine ej_plain hmn (eg_at hT 0 17 rfl rfl) (pc' := 29) (ls' := [some (.inr (.inr (.inl (some 345)))), some (.inl (c)), some (.inl (m)), some (.inl (q)), some (.inl (co))]) (st' := [.inr (.inr (.inl (some 345))), .inl ((wf ((8 * q) + c)) + 0)]) (fun _ _ => rfl) ?_
    refine ej_plain hmn (eg_at hT 0 18 rfl rfl) (pc' := 32) (ls' := [some (.inr (.inr (.inl (some 345)))), some (.inl (c)), some (.inl (m)), some (.inl (q)), some (.inl (co))]) (st' := [.inr (.inr (.inl (some 346))), .inl ((wf ((8 * q) + c)) + 0)]) (fun _ _ => rfl) ?_
    refine ej_plain hmn (eg_at hT 1 0 rfl rfl) (pc' := 35) (ls' := [some (.inr (.inr (.inl (some 345)))), some (.inl (c)), some (.inl (m)), some (.inl (q)), some (.inl (co))]) (st' := [.inl (160), .inr (.inr (.inl (some 346))), .inl ((wf ((8 * q) + c)) + 0)]) (fun _ _ => rfl) ?_
    refine ej_plain hmn (eg_at hT 1 1 rfl rfl) (pc' := 37) (ls' := [some (.inr (.inr (.inl (some 345)))), some (.inl (c)), some (.inl (m)), some (.inl (q)), some (.inl (co))]) (st' := [.inl (6), .inl (160), .inr (.inr (.inl (some 346))), .inl ((wf ((8 * q) + c)) + 0)]) (fun _ _ => rfl) ?_
    refine ej_plain hmn (eg_at hT 1 2 rfl rfl) (pc' := 38) (ls' := [some (.inr (.inr (.inl (some 345)))), some (.inl (c)), some (.inl (m)), some (.inl (q)), some (.inl (co))]) (st' := [.inl (m), .inl (6), .inl (160), .inr (.inr (.inl (some 346))), .inl ((wf ((8 * q) + c)) + 0)]) (fun _ _ => rfl) ?_
    refine ej_imul hmn (eg_at hT 1 3 rfl rfl) (pc' := 39) rfl (by omega) (by omega) ?_
    refine ej_iadd hmn (eg_at hT 1 4 rfl rfl) (pc' := 40) rfl (by omega) (by omega) ?_
    refine ej_plain hmn (eg_at hT 1 5 rfl rfl) (pc' := 41) (ls' := [some (.inr (.inr (.inl (some 345)))), some (.inl (c)), some (.inl (m)), some (.inl (q)), some (.inl (co))]) (st' := [.inl (4), .inl (160 + (6 * m)), .inr (.inr (.inl (some 346))), .inl ((wf ((8 * q) + c)) + 0)]) (fun _ _ => rfl) ?_
    refine ej_iadd hmn (eg_at hT 1 6 rfl rfl) (pc' := 42) rfl (by omega) (by omega) ?_
    refine ej_iaload hmn (eg_at hT 1 7 rfl rfl) (pc' := 43) (n := 230) rfl (fun _ => rfl) hB (by omega) (by omega) ?_
    refine ej_isub hmn (eg_at hT 1 8 rfl rfl) (pc' := 44) rfl (by omega) (by omega) ?_
    exact ej_ireturn hmn (eg_at hT 1 9 rfl rfl) (@decide_eq_true _ (Classical.propDecidable _) ⟨_, rfl, rfl, by omega, by omega⟩)
  · refine ej_plain hmn (eg_at hT 0 10 rfl rfl) (pc' := 17) (ls' := [some (.inr (.inr (.inl (some 345)))), some (.inl (c)), some (.inl (m)), some (.inl (q)), some (.inl (co))]) (st' := [.inr (.inr (.inl (some 345))), .inl (wf ((8 * q) + c))]) (fun _ _ => rfl) ?_
    refine ej_plain hmn (eg_at hT 0 11 rfl rfl) (pc' := 20) (ls' := [some (.inr (.inr (.inl (some 345)))), some (.inl (c)), some (.inl (m)), some (.inl (q)), some (.inl (co))]) (st' := [.inr (.inr (.inl (some 346))), .inl (wf ((8 * q) + c))]) (fun _ _ => rfl) ?_
    refine ej_plain hmn (eg_at hT 0 12 rfl rfl) (pc' := 22) (ls' := [some (.inr (.inr (.inl (some 345)))), some (.inl (c)), some (.inl (m)), some (.inl (q)), some (.inl (co))]) (st' := [.inl (6), .inr (.inr (.inl (some 346))), .inl (wf ((8 * q) + c))]) (fun _ _ => rfl) ?_
    refine ej_iaload hmn (eg_at hT 0 13 rfl rfl) (pc' := 23) (n := 230) rfl (fun _ => rfl) hB (by omega) (by omega) ?_
    refine ej_plain hmn (eg_at hT 0 14 rfl rfl) (pc' := 27) (ls' := [some (.inr (.inr (.inl (some 345)))), some (.inl (c)), some (.inl (m)), some (.inl (q)), some (.inl (co))]) (st' := [.inl (bf 6), .inl (wf ((8 * q) + c))]) (fun _ _ => rfl) ?_
    refine ej_iadd hmn (eg_at hT 0 16 rfl rfl) (pc' := 28) rfl (by omega) (by omega) ?_
    refine ej_plain hmn (eg_at hT 0 17 rfl rfl) (pc' := 29) (ls' := [some (.inr (.inr (.inl (some 345)))), some (.inl (c)), some (.inl (m)), some (.inl (q)), some (.inl (co))]) (st' := [.inr (.inr (.inl (some 345))), .inl ((wf ((8 * q) + c)) + (bf 6))]) (fun _ _ => rfl) ?_
    refine ej_plain hmn (eg_at hT 0 18 rfl rfl) (pc' := 32) (ls' := [some (.inr (.inr (.inl (some 345)))), some (.inl (c)), some (.inl (m)), some (.inl (q)), some (.inl (co))]) (st' := [.inr (.inr (.inl (some 346))), .inl ((wf ((8 * q) + c)) + (bf 6))]) (fun _ _ => rfl) ?_
    refine ej_plain hmn (eg_at hT 1 0 rfl rfl) (pc' := 35) (ls' := [some (.inr (.inr (.inl (some 345)))), some (.inl (c)), some (.inl (m)), some (.inl (q)), some (.inl (co))]) (st' := [.inl (160), .inr (.inr (.inl (some 346))), .inl ((wf ((8 * q) + c)) + (bf 6))]) (fun _ _ => rfl) ?_
    refine ej_plain hmn (eg_at hT 1 1 rfl rfl) (pc' := 37) (ls' := [some (.inr (.inr (.inl (some 345)))), some (.inl (c)), some (.inl (m)), some (.inl (q)), some (.inl (co))]) (st' := [.inl (6), .inl (160), .inr (.inr (.inl (some 346))), .inl ((wf ((8 * q) + c)) + (bf 6))]) (fun _ _ => rfl) ?_
    refine ej_plain hmn (eg_at hT 1 2 rfl rfl) (pc' := 38) (ls' := [some (.inr (.inr (.inl (some 345)))), some (.inl (c)), some (.inl (m)), some (.inl (q)), some (.inl (co))]) (st' := [.inl (m), .inl (6), .inl (160), .inr (.inr (.inl (some 346))), .inl ((wf ((8 * q) + c)) + (bf 6))]) (fun _ _ => rfl) ?_
    refine ej_imul hmn (eg_at hT 1 3 rfl rfl) (pc' := 39) rfl (by omega) (by omega) ?_
    refine ej_iadd hmn (eg_at hT 1 4 rfl rfl) (pc' := 40) rfl (by omega) (by omega) ?_
    refine ej_plain hmn (eg_at hT 1 5 rfl rfl) (pc' := 41) (ls' := [some (.inr (.inr (.inl (some 345)))), some (.inl (c)), some (.inl (m)), some (.inl (q)), some (.inl (co))]) (st' := [.inl (4), .inl (160 + (6 * m)), .inr (.inr (.inl (some 346))), .inl ((wf ((8 * q) + c)) + (bf 6))]) (fun _ _ => rfl) ?_
    refine ej_iadd hmn (eg_at hT 1 6 rfl rfl) (pc' := 42) rfl (by omega) (by omega) ?_
    refine ej_iaload hmn (eg_at hT 1 7 rfl rfl) (pc' := 43) (n := 230) rfl (fun _ => rfl) hB (by omega) (by omega) ?_
    refine ej_isub hmn (eg_at hT 1 8 rfl rfl) (pc' := 44) rfl (by omega) (by omega) ?_
    exact ej_ireturn hmn (eg_at hT 1 9 rfl rfl) (@decide_eq_true _ (Classical.propDecidable _) ⟨_, rfl, rfl, by omega, by omega⟩)
