/-! divisor, tells, saved of the reference. Printed by wip/p3/savegen3.py. -/
theorem ej_ldivw {l : Launch} {D : va_G} {τ : Nat → ClassId} {sa : List Nat} {A : Nat → Prop} {own mname : String} {bytes : ByteArray} {nL d : Nat} {ret : Option FieldType} {K : Option ex_V → ex_H → Bool} {pc pc' a b : Nat} {z : Int} {ls : List (Option ex_V)} {r : List ex_V} {hp : ex_H} {x y : Int} (hmn : em_mna) (hx : ek_J em_inf et_cls et_vt own mname bytes (pc, eh_ldiv, a, b, z)) (hpc : pc + 1 = pc') (h0 : y ≠ 0) (h : ∀ w : Int, em_G l D τ sa A own mname bytes nL d (0, 0) ret K (pc', ls, .inr (.inl w) :: r, hp, 0, 0)) : em_G l D τ sa A own mname bytes nL d (0, 0) ret K (pc, ls, .inr (.inl y) :: .inr (.inl x) :: r, hp, 0, 0) := by
  subst hpc
  refine eg_step hmn _ hx ?_
  show (if ex_ne0 y y then ex_z (Int64.ofInt x / Int64.ofInt y).toInt (fun v => ex_n (pc + 1) (fun pc => eg_go l D τ sa A own mname bytes nL d ret K pc ls (.inr (.inl v) :: r) hp 0 0)) else false) = true
  rw [if_pos (by unfold ex_ne0; rw [Bool.or_eq_true, ex_le_iff, ex_le_iff]; omega), ex_z_eq, ex_n_eq]
  exact eg_go_of (h _)
theorem eq_dv_l {l : Launch} {D : va_G} {τ : Nat → ClassId} {sa : List Nat} {A : Nat → Prop} (hmn : em_mna) {own mname : String} {bytes : ByteArray} (hT : ∀ ch ∈ eu_129, ∀ x ∈ ch, ek_J em_inf et_cls et_vt own mname bytes x) {d : Nat} {K : Option ex_V → ex_H → Bool} {hp : ex_H} {x y : Int} (hK : ∀ r : Int, 1 ≤ r → K (some (.inr (.inl r))) hp = true) : ∀ (i : Nat) (u w : Int), w < i → (0 ≤ u ∧ u ≤ 9223372036854775807) → (0 ≤ w ∧ w ≤ 9223372036854775807) → (1 ≤ u ∨ 1 ≤ w) → em_G l D τ sa A own mname bytes 10 d (0, 0) (some .long) K (6, [some (.inr (.inl (x))), none, some (.inr (.inl (y))), none, some (.inr (.inl (u))), none, some (.inr (.inl (w))), none, none, none], [], hp, 0, 0) := by
  intro i
  induction i with
  | zero => intro u w hi hu hw; exfalso; omega
  | succ i ih =>
    intro u w hi hu hw hz
    refine ej_plain hmn (eg_at hT 0 4 rfl rfl) (pc' := 8) (ls' := [some (.inr (.inl (x))), none, some (.inr (.inl (y))), none, some (.inr (.inl (u))), none, some (.inr (.inl (w))), none, none, none]) (st' := [.inr (.inl (w))]) (fun _ _ => rfl) ?_
    refine ej_plain hmn (eg_at hT 0 5 rfl rfl) (pc' := 9) (ls' := [some (.inr (.inl (x))), none, some (.inr (.inl (y))), none, some (.inr (.inl (u))), none, some (.inr (.inl (w))), none, none, none]) (st' := [.inr (.inl (0)), .inr (.inl (w))]) (fun _ _ => rfl) ?_
    refine ej_lcmp hmn (eg_at hT 0 6 rfl rfl) (pc' := 10) rfl (fun (gc1 : w < 0) => ?_) (fun (gc1 : w = 0) => ?_) (fun (gc1 : 0 < w) => ?_)
    · refine ej_plain hmn (eg_at hT 0 7 rfl rfl) (pc' := 13) (ls' := [some (.inr (.inl (x))), none, some (.inr (.inl (y))), none, some (.inr (.inl (u))), none, some (.inr (.inl (w))), none, none, none]) (st' := []) (fun _ _ => rfl) ?_
      refine ej_plain hmn (eg_at hT 0 8 rfl rfl) (pc' := 15) (ls' := [some (.inr (.inl (x))), none, some (.inr (.inl (y))), none, some (.inr (.inl (u))), none, some (.inr (.inl (w))), none, none, none]) (st' := [.inr (.inl (u))]) (fun _ _ => rfl) ?_
      refine ej_plain hmn (eg_at hT 0 9 rfl rfl) (pc' := 17) (ls' := [some (.inr (.inl (x))), none, some (.inr (.inl (y))), none, some (.inr (.inl (u))), none, some (.inr (.inl (w))), none, none, none]) (st' := [.inr (.inl (w)), .inr (.inl (u))]) (fun _ _ => rfl) ?_
      refine ej_lremn hmn (eg_at hT 0 10 rfl rfl) (pc' := 18) rfl (by omega) (by omega) (by omega) (by omega) ?_
      refine ej_plain hmn (eg_at hT 0 11 rfl rfl) (pc' := 20) (ls' := [some (.inr (.inl (x))), none, some (.inr (.inl (y))), none, some (.inr (.inl (u))), none, some (.inr (.inl (w))), none, some (.inr (.inl (u % w))), none]) (st' := []) (fun _ _ => rfl) ?_
      refine ej_plain hmn (eg_at hT 0 12 rfl rfl) (pc' := 22) (ls' := [some (.inr (.inl (x))), none, some (.inr (.inl (y))), none, some (.inr (.inl (u))), none, some (.inr (.inl (w))), none, some (.inr (.inl (u % w))), none]) (st' := [.inr (.inl (w))]) (fun _ _ => rfl) ?_
      refine ej_plain hmn (eg_at hT 0 13 rfl rfl) (pc' := 24) (ls' := [some (.inr (.inl (x))), none, some (.inr (.inl (y))), none, some (.inr (.inl (w))), none, some (.inr (.inl (w))), none, some (.inr (.inl (u % w))), none]) (st' := []) (fun _ _ => rfl) ?_
      refine ej_plain hmn (eg_at hT 0 14 rfl rfl) (pc' := 26) (ls' := [some (.inr (.inl (x))), none, some (.inr (.inl (y))), none, some (.inr (.inl (w))), none, some (.inr (.inl (w))), none, some (.inr (.inl (u % w))), none]) (st' := [.inr (.inl (u % w))]) (fun _ _ => rfl) ?_
      refine ej_plain hmn (eg_at hT 0 15 rfl rfl) (pc' := 28) (ls' := [some (.inr (.inl (x))), none, some (.inr (.inl (y))), none, some (.inr (.inl (w))), none, some (.inr (.inl (u % w))), none, some (.inr (.inl (u % w))), none]) (st' := []) (fun _ _ => rfl) ?_
      refine ej_plain hmn (eg_at hT 0 16 rfl rfl) (pc' := 6) (ls' := [some (.inr (.inl (x))), none, some (.inr (.inl (y))), none, some (.inr (.inl (w))), none, some (.inr (.inl (u % w))), none, some (.inr (.inl (u % w))), none]) (st' := []) (fun _ _ => rfl) ?_
      have m1 := Int.emod_nonneg u (show w ≠ 0 by omega)
      have m2 := Int.emod_lt_of_pos u (show 0 < w by omega)
      refine ej_drop 8 rfl ?_
      exact ih _ _ (by omega) (by omega) (by omega) (by omega)
    · refine ej_plain hmn (eg_at hT 0 7 rfl rfl) (pc' := 31) (ls' := [some (.inr (.inl (x))), none, some (.inr (.inl (y))), none, some (.inr (.inl (u))), none, some (.inr (.inl (w))), none, none, none]) (st' := []) (fun _ _ => rfl) ?_
      refine ej_plain hmn (eg_at hT 0 17 rfl rfl) (pc' := 33) (ls' := [some (.inr (.inl (x))), none, some (.inr (.inl (y))), none, some (.inr (.inl (u))), none, some (.inr (.inl (w))), none, none, none]) (st' := [.inr (.inl (u))]) (fun _ _ => rfl) ?_
      exact ej_lreturn hmn (eg_at hT 1 0 rfl rfl) (hK _ (by omega))
    · refine ej_plain hmn (eg_at hT 0 7 rfl rfl) (pc' := 13) (ls' := [some (.inr (.inl (x))), none, some (.inr (.inl (y))), none, some (.inr (.inl (u))), none, some (.inr (.inl (w))), none, none, none]) (st' := []) (fun _ _ => rfl) ?_
      refine ej_plain hmn (eg_at hT 0 8 rfl rfl) (pc' := 15) (ls' := [some (.inr (.inl (x))), none, some (.inr (.inl (y))), none, some (.inr (.inl (u))), none, some (.inr (.inl (w))), none, none, none]) (st' := [.inr (.inl (u))]) (fun _ _ => rfl) ?_
      refine ej_plain hmn (eg_at hT 0 9 rfl rfl) (pc' := 17) (ls' := [some (.inr (.inl (x))), none, some (.inr (.inl (y))), none, some (.inr (.inl (u))), none, some (.inr (.inl (w))), none, none, none]) (st' := [.inr (.inl (w)), .inr (.inl (u))]) (fun _ _ => rfl) ?_
      refine ej_lremn hmn (eg_at hT 0 10 rfl rfl) (pc' := 18) rfl (by omega) (by omega) (by omega) (by omega) ?_
      refine ej_plain hmn (eg_at hT 0 11 rfl rfl) (pc' := 20) (ls' := [some (.inr (.inl (x))), none, some (.inr (.inl (y))), none, some (.inr (.inl (u))), none, some (.inr (.inl (w))), none, some (.inr (.inl (u % w))), none]) (st' := []) (fun _ _ => rfl) ?_
      refine ej_plain hmn (eg_at hT 0 12 rfl rfl) (pc' := 22) (ls' := [some (.inr (.inl (x))), none, some (.inr (.inl (y))), none, some (.inr (.inl (u))), none, some (.inr (.inl (w))), none, some (.inr (.inl (u % w))), none]) (st' := [.inr (.inl (w))]) (fun _ _ => rfl) ?_
      refine ej_plain hmn (eg_at hT 0 13 rfl rfl) (pc' := 24) (ls' := [some (.inr (.inl (x))), none, some (.inr (.inl (y))), none, some (.inr (.inl (w))), none, some (.inr (.inl (w))), none, some (.inr (.inl (u % w))), none]) (st' := []) (fun _ _ => rfl) ?_
      refine ej_plain hmn (eg_at hT 0 14 rfl rfl) (pc' := 26) (ls' := [some (.inr (.inl (x))), none, some (.inr (.inl (y))), none, some (.inr (.inl (w))), none, some (.inr (.inl (w))), none, some (.inr (.inl (u % w))), none]) (st' := [.inr (.inl (u % w))]) (fun _ _ => rfl) ?_
      refine ej_plain hmn (eg_at hT 0 15 rfl rfl) (pc' := 28) (ls' := [some (.inr (.inl (x))), none, some (.inr (.inl (y))), none, some (.inr (.inl (w))), none, some (.inr (.inl (u % w))), none, some (.inr (.inl (u % w))), none]) (st' := []) (fun _ _ => rfl) ?_
      refine ej_plain hmn (eg_at hT 0 16 rfl rfl) (pc' := 6) (ls' := [some (.inr (.inl (x))), none, some (.inr (.inl (y))), none, some (.inr (.inl (w))), none, some (.inr (.inl (u % w))), none, some (.inr (.inl (u % w))), none]) (st' := []) (fun _ _ => rfl) ?_
      have m1 := Int.emod_nonneg u (show w ≠ 0 by omega)
      have m2 := Int.emod_lt_of_pos u (show 0 < w by omega)
      refine ej_drop 8 rfl ?_
      exact ih _ _ (by omega) (by omega) (by omega) (by omega)
theorem eq_divisor {l : Launch} {D : va_G} {τ : Nat → ClassId} {sa : List Nat} {A : Nat → Prop} (hmn : em_mna) {hp : ex_H} {x y : Int} (h1 : 0 ≤ x ∧ x ≤ 9223372036854775807) (h2 : 1 ≤ y ∧ y ≤ 9223372036854775807) : em_X l D τ sa A 129 [.inr (.inl x), .inr (.inl y)] hp (fun w hp' => ∃ r : Int, w = some (.inr (.inl r)) ∧ hp' = hp ∧ 1 ≤ r) 0 := by
  refine em_X.of (tb := eu_129) (nl := 10) (ret := some .long) rfl (q := [some (.inr (.inl (x))), none, some (.inr (.inl (y))), none, none, none, none, none, none, none]) (fun _ => rfl) (fun own mname bytes hT => ?_)
  refine ej_plain hmn (eg_at hT 0 0 rfl rfl) (pc' := 1) (ls' := [some (.inr (.inl (x))), none, some (.inr (.inl (y))), none, none, none, none, none, none, none]) (st' := [.inr (.inl (x))]) (fun _ _ => rfl) ?_
  refine ej_plain hmn (eg_at hT 0 1 rfl rfl) (pc' := 3) (ls' := [some (.inr (.inl (x))), none, some (.inr (.inl (y))), none, some (.inr (.inl (x))), none, none, none, none, none]) (st' := []) (fun _ _ => rfl) ?_
  refine ej_plain hmn (eg_at hT 0 2 rfl rfl) (pc' := 4) (ls' := [some (.inr (.inl (x))), none, some (.inr (.inl (y))), none, some (.inr (.inl (x))), none, none, none, none, none]) (st' := [.inr (.inl (y))]) (fun _ _ => rfl) ?_
  refine ej_plain hmn (eg_at hT 0 3 rfl rfl) (pc' := 6) (ls' := [some (.inr (.inl (x))), none, some (.inr (.inl (y))), none, some (.inr (.inl (x))), none, some (.inr (.inl (y))), none, none, none]) (st' := []) (fun _ _ => rfl) ?_
  exact eq_dv_l hmn hT (fun r h => @decide_eq_true _ (Classical.propDecidable _) ⟨r, rfl, rfl, h⟩) (y.toNat + 1) x y (by omega) (by omega) (by omega) (by omega)
theorem eq_tells {l : Launch} {D : va_G} {τ : Nat → ClassId} {sa : List Nat} {A : Nat → Prop} (hmn : em_mna) {B W Z Y N F M S U C a b R : Nat} {x y : Int} (h1 : 0 ≤ x ∧ x ≤ 9223372036854775807) (h2 : 1 ≤ y ∧ y ≤ 9223372036854775807) : em_X l D τ sa A 130 [(.inr (.inr (.inl (some 345)))), .inr (.inl x), .inr (.inl y)] (ey_h B W Z Y N F M S U C a b R) (fun w hp' => w = some (.inl 1) ∧ hp' = (ey_h B W Z Y N F M S U C a b R)) 1 := by
  refine em_X.of (tb := eu_130) (nl := 7) (ret := some .int) rfl (q := [some (.inr (.inr (.inl (some 345)))), some (.inr (.inl (x))), none, some (.inr (.inl (y))), none, none, none]) (fun _ => rfl) (fun own mname bytes hT => ?_)
  refine ej_plain hmn (eg_at hT 0 0 rfl rfl) (pc' := 1) (ls' := [some (.inr (.inr (.inl (some 345)))), some (.inr (.inl (x))), none, some (.inr (.inl (y))), none, none, none]) (st' := [.inr (.inl (x))]) (fun _ _ => rfl) ?_
  refine ej_plain hmn (eg_at hT 0 1 rfl rfl) (pc' := 2) (ls' := [some (.inr (.inr (.inl (some 345)))), some (.inr (.inl (x))), none, some (.inr (.inl (y))), none, none, none]) (st' := [.inr (.inl (y)), .inr (.inl (x))]) (fun _ _ => rfl) ?_
  refine ej_call hmn (eg_at hT 0 2 rfl rfl) (pc' := 5) (r := []) (eq_divisor hmn h1 h2) (by decide) (fun _ _ => rfl) (fun v hp' hP => ?_)
  obtain ⟨dv, rfl, rfl, dv1⟩ := hP
  show em_G l D τ sa A own mname bytes 7 1 (0, 0) (some .int) _ (5, [some (.inr (.inr (.inl (some 345)))), some (.inr (.inl (x))), none, some (.inr (.inl (y))), none, none, none], [.inr (.inl (dv))], (ey_h B W Z Y N F M S U C a b R), 0, 0)
  refine ej_plain hmn (eg_at hT 0 3 rfl rfl) (pc' := 7) (ls' := [some (.inr (.inr (.inl (some 345)))), some (.inr (.inl (x))), none, some (.inr (.inl (y))), none, some (.inr (.inl (dv))), none]) (st' := []) (fun _ _ => rfl) ?_
  refine ej_plain hmn (eg_at hT 0 4 rfl rfl) (pc' := 8) (ls' := [some (.inr (.inr (.inl (some 345)))), some (.inr (.inl (x))), none, some (.inr (.inl (y))), none, some (.inr (.inl (dv))), none]) (st' := [.inr (.inr (.inl (some 345)))]) (fun _ _ => rfl) ?_
  refine ej_plain hmn (eg_at hT 0 5 rfl rfl) (pc' := 9) (ls' := [some (.inr (.inr (.inl (some 345)))), some (.inr (.inl (x))), none, some (.inr (.inl (y))), none, some (.inr (.inl (dv))), none]) (st' := [.inr (.inl (x)), .inr (.inr (.inl (some 345)))]) (fun _ _ => rfl) ?_
  refine ej_plain hmn (eg_at hT 0 6 rfl rfl) (pc' := 11) (ls' := [some (.inr (.inr (.inl (some 345)))), some (.inr (.inl (x))), none, some (.inr (.inl (y))), none, some (.inr (.inl (dv))), none]) (st' := [.inr (.inl (dv)), .inr (.inl (x)), .inr (.inr (.inl (some 345)))]) (fun _ _ => rfl) ?_
  refine ej_ldivw hmn (eg_at hT 0 7 rfl rfl) (pc' := 12) rfl (by omega) (fun gv1 => ?_)
  refine ej_putW hmn (eg_at hT 0 8 rfl rfl) (pc' := 15) rfl rfl (Nat.le_of_ble_eq_true rfl) (fun _ => rfl) rfl rfl (fun _ _ => er_topJ) ?_
  refine ej_plain hmn (eg_at hT 0 9 rfl rfl) (pc' := 16) (ls' := [some (.inr (.inr (.inl (some 345)))), some (.inr (.inl (x))), none, some (.inr (.inl (y))), none, some (.inr (.inl (dv))), none]) (st' := [.inr (.inr (.inl (some 345)))]) (fun _ _ => rfl) ?_
  refine ej_plain hmn (eg_at hT 0 10 rfl rfl) (pc' := 17) (ls' := [some (.inr (.inr (.inl (some 345)))), some (.inr (.inl (x))), none, some (.inr (.inl (y))), none, some (.inr (.inl (dv))), none]) (st' := [.inr (.inl (y)), .inr (.inr (.inl (some 345)))]) (fun _ _ => rfl) ?_
  refine ej_plain hmn (eg_at hT 0 11 rfl rfl) (pc' := 19) (ls' := [some (.inr (.inr (.inl (some 345)))), some (.inr (.inl (x))), none, some (.inr (.inl (y))), none, some (.inr (.inl (dv))), none]) (st' := [.inr (.inl (dv)), .inr (.inl (y)), .inr (.inr (.inl (some 345)))]) (fun _ _ => rfl) ?_
  refine ej_ldivw hmn (eg_at hT 0 12 rfl rfl) (pc' := 20) rfl (by omega) (fun gv2 => ?_)
  refine ej_putW hmn (eg_at hT 0 13 rfl rfl) (pc' := 23) rfl rfl (Nat.le_of_ble_eq_true rfl) (fun _ => rfl) rfl rfl (fun _ _ => er_topJ) ?_
  refine ej_plain hmn (eg_at hT 0 14 rfl rfl) (pc' := 24) (ls' := [some (.inr (.inr (.inl (some 345)))), some (.inr (.inl (x))), none, some (.inr (.inl (y))), none, some (.inr (.inl (dv))), none]) (st' := [.inl (1)]) (fun _ _ => rfl) ?_
  exact ej_ireturn hmn (eg_at hT 0 15 rfl rfl) (@decide_eq_true _ (Classical.propDecidable _) ⟨rfl, rfl⟩)
theorem eq_saved {l : Launch} {D : va_G} {τ : Nat → ClassId} {sa : List Nat} {A : Nat → Prop} (hmn : em_mna) {B W Z Y N F M S U C a b R : Nat} {bf wf zf yf nf ff_ mg sf uf cf af ef rf : Int → Int} (hB : ey_R 230 B bf) (hBB : ∀ c, ex_at ep_h1 346 = some c → ey_bd 230 c.2.2.2.1 bf) (hM : ey_R 64 M mg) (hS : ey_R 8 S sf) (b1 : ∀ j, 0 ≤ j → j < 8 → -1 ≤ sf j ∧ sf j ≤ 7) (hU : ey_R 8 U uf) (hC : ey_R 8 C cf) (b2 : ∀ j, 0 ≤ j → j < 8 → -1 ≤ cf j ∧ cf j ≤ 7) (ha : ey_R 8 a af) (b3 : ∀ j, 0 ≤ j → j < 8 → 0 ≤ af j ∧ af j ≤ 1) (he : ey_R 8 b ef) (b4 : ∀ j, 0 ≤ j → j < 8 → 0 ≤ ef j ∧ ef j ≤ 1) (hR : ey_R 8 R rf) (b5 : ∀ j, 0 ≤ j → j < 8 → 0 ≤ rf j ∧ rf j ≤ 7) (hW : ey_R 192 W wf) (hZ : ey_R 24 Z zf) (hY : ey_R 24 Y yf) (hN : ey_R 8 N nf) (hF : ey_R 8 F ff_) {kind n : Int} : em_X l D τ sa A 192 [(.inr (.inr (.inl (some 345)))), .inl kind, .inl n] (ey_h B W Z Y N F M S U C a b R) ez_PT 6 := by
  refine em_X.of (tb := eu_192) (nl := 3) (ret := some .int) rfl (q := [some (.inr (.inr (.inl (some 345)))), some (.inl (kind)), some (.inl (n))]) (fun _ => rfl) (fun own mname bytes hT => ?_)
  refine ej_plain hmn (eg_at hT 0 0 rfl rfl) (pc' := 1) (ls' := [some (.inr (.inr (.inl (some 345)))), some (.inl (kind)), some (.inl (n))]) (st' := [.inl (kind)]) (fun _ _ => rfl) ?_
  refine ej_plain hmn (eg_at hT 0 1 rfl rfl) (pc' := 2) (ls' := [some (.inr (.inr (.inl (some 345)))), some (.inl (kind)), some (.inl (n))]) (st' := [.inl (n), .inl (kind)]) (fun _ _ => rfl) ?_
  refine ej_call hmn (eg_at hT 0 2 rfl rfl) (pc' := 5) (r := []) (eq_isRule hmn (kind := kind) (n := n)) (by decide) (fun _ _ => rfl) (fun v hp' hP => ?_)
  obtain ⟨r1, rfl, rfl, r1a, r1b⟩ := hP
  show em_G l D τ sa A own mname bytes 3 6 (0, 0) (some .int) _ (5, [some (.inr (.inr (.inl (some 345)))), some (.inl (kind)), some (.inl (n))], [.inl (r1)], (ey_h B W Z Y N F M S U C a b R), 0, 0)
  refine ej_ifCond hmn (eg_at hT 0 3 rfl rfl) (pc' := 8) rfl (fun _ => rfl) (fun (gc1 : r1 ≠ 0) => ?_) (fun (gc1 : ¬ (r1 ≠ 0)) => ?_)
  · refine ej_plain hmn (eg_at hT 0 6 rfl rfl) (pc' := 12) (ls' := [some (.inr (.inr (.inl (some 345)))), some (.inl (kind)), some (.inl (n))]) (st' := [.inr (.inr (.inl (some 345)))]) (fun _ _ => rfl) ?_
    refine ej_call hmn (eg_at hT 0 7 rfl rfl) (pc' := 15) (r := []) (eq_allHelp hmn hB hBB) (by decide) (fun _ _ => rfl) (fun v hp' hP => ?_)
    obtain ⟨h1, rfl, rfl, h1a, h1b⟩ := hP
    show em_G l D τ sa A own mname bytes 3 6 (0, 0) (some .int) _ (15, [some (.inr (.inr (.inl (some 345)))), some (.inl (kind)), some (.inl (n))], [.inl (h1)], (ey_h B W Z Y N F M S U C a b R), 0, 0)
    refine ej_ifCond hmn (eg_at hT 0 8 rfl rfl) (pc' := 18) rfl (fun _ => rfl) (fun (gc2 : h1 ≠ 0) => ?_) (fun (gc2 : ¬ (h1 ≠ 0)) => ?_)
    · refine ej_plain hmn (eg_at hT 0 11 rfl rfl) (pc' := 24) (ls' := [some (.inr (.inr (.inl (some 345)))), some (.inl (kind)), some (.inl (n))]) (st' := [.inr (.inr (.inl (some 345)))]) (fun _ _ => rfl) ?_
      refine ej_plain hmn (eg_at hT 0 12 rfl rfl) (pc' := 25) (ls' := [some (.inr (.inr (.inl (some 345)))), some (.inl (kind)), some (.inl (n))]) (st' := [.inr (.inr (.inl (some 345))), .inr (.inr (.inl (some 345)))]) (fun _ _ => rfl) ?_
      refine ej_plain hmn (eg_at hT 0 13 rfl rfl) (pc' := 26) (ls' := [some (.inr (.inr (.inl (some 345)))), some (.inl (kind)), some (.inl (n))]) (st' := [.inl (kind), .inr (.inr (.inl (some 345))), .inr (.inr (.inl (some 345)))]) (fun _ _ => rfl) ?_
      refine ej_plain hmn (eg_at hT 0 14 rfl rfl) (pc' := 27) (ls' := [some (.inr (.inr (.inl (some 345)))), some (.inl (kind)), some (.inl (n))]) (st' := [.inl (n), .inl (kind), .inr (.inr (.inl (some 345))), .inr (.inr (.inl (some 345)))]) (fun _ _ => rfl) ?_
      refine ej_call hmn (eg_at hT 0 15 rfl rfl) (pc' := 30) (r := [.inr (.inr (.inl (some 345)))]) (eq_savedBy hmn hB hBB hM hS b1 hU hC b2 ha b3 he b4 hR b5 hW hZ hY hN hF (kind := kind) (n := n) (by omega) (by omega)) (by decide) (fun _ _ => rfl) (fun v hp' hP => ?_)
      obtain ⟨s1, W2, Z2, Y2, N2, F2, wf2, zf2, yf2, nf2, ff2, rfl, rfl, s1a, q1, q2, q3, q4, q5⟩ := hP
      show em_G l D τ sa A own mname bytes 3 6 (0, 0) (some .int) _ (30, [some (.inr (.inr (.inl (some 345)))), some (.inl (kind)), some (.inl (n))], [.inl (s1), .inr (.inr (.inl (some 345)))], (ey_h B W2 Z2 Y2 N2 F2 M S U C a b R), 0, 0)
      refine ej_plain hmn (eg_at hT 0 16 rfl rfl) (pc' := 31) (ls' := [some (.inr (.inr (.inl (some 345)))), some (.inl (kind)), some (.inl (n))]) (st' := [.inr (.inl (s1)), .inr (.inr (.inl (some 345)))]) (fun _ _ => rfl) ?_
      refine ej_plain hmn (eg_at hT 0 17 rfl rfl) (pc' := 32) (ls' := [some (.inr (.inr (.inl (some 345)))), some (.inl (kind)), some (.inl (n))]) (st' := [.inr (.inr (.inl (some 345))), .inr (.inl (s1)), .inr (.inr (.inl (some 345)))]) (fun _ _ => rfl) ?_
      refine ej_call hmn (eg_at hT 1 0 rfl rfl) (pc' := 35) (r := [.inr (.inl (s1)), .inr (.inr (.inl (some 345)))]) (eq_allHelp hmn hB hBB) (by decide) (fun _ _ => rfl) (fun v hp' hP => ?_)
      obtain ⟨h2, rfl, rfl, h2a, h2b⟩ := hP
      show em_G l D τ sa A own mname bytes 3 6 (0, 0) (some .int) _ (35, [some (.inr (.inr (.inl (some 345)))), some (.inl (kind)), some (.inl (n))], [.inl (h2), .inr (.inl (s1)), .inr (.inr (.inl (some 345)))], (ey_h B W2 Z2 Y2 N2 F2 M S U C a b R), 0, 0)
      refine ej_plain hmn (eg_at hT 1 1 rfl rfl) (pc' := 36) (ls' := [some (.inr (.inr (.inl (some 345)))), some (.inl (kind)), some (.inl (n))]) (st' := [.inr (.inl (h2)), .inr (.inl (s1)), .inr (.inr (.inl (some 345)))]) (fun _ _ => rfl) ?_
      refine ej_call hmn (eg_at hT 1 2 rfl rfl) (pc' := 39) (r := []) (eq_tells hmn (x := s1) (y := h2) (by omega) (by omega)) (by decide) (fun _ _ => rfl) (fun v hp' hP => ?_)
      obtain ⟨rfl, rfl⟩ := hP
      show em_G l D τ sa A own mname bytes 3 6 (0, 0) (some .int) _ (39, [some (.inr (.inr (.inl (some 345)))), some (.inl (kind)), some (.inl (n))], [.inl (1)], (ey_h B W2 Z2 Y2 N2 F2 M S U C a b R), 0, 0)
      exact ej_ireturn hmn (eg_at hT 1 3 rfl rfl) (@decide_eq_true _ (Classical.propDecidable _) ⟨_, B, W2, Z2, Y2, N2, F2, M, S, U, C, a, b, R, _, _, _, _, _, _, _, _, _, _, _, _, _, rfl, rfl, (ey_mk hB hBB q1 q2 q3 q4 q5 hM hS b1 hU hC b2 ha b3 he b4 hR b5)⟩)
    · refine ej_plain hmn (eg_at hT 0 9 rfl rfl) (pc' := 20) (ls' := [some (.inr (.inr (.inl (some 345)))), some (.inl (kind)), some (.inl (n))]) (st' := [.inl (-200000)]) (fun _ _ => rfl) ?_
      refine ej_plain hmn (eg_at hT 0 10 rfl rfl) (pc' := 39) (ls' := [some (.inr (.inr (.inl (some 345)))), some (.inl (kind)), some (.inl (n))]) (st' := [.inl (-200000)]) (fun _ _ => rfl) ?_
      exact ej_ireturn hmn (eg_at hT 1 3 rfl rfl) (@decide_eq_true _ (Classical.propDecidable _) ⟨_, B, W, Z, Y, N, F, M, S, U, C, a, b, R, _, _, _, _, _, _, _, _, _, _, _, _, _, rfl, rfl, (ey_mk hB hBB hW hZ hY hN hF hM hS b1 hU hC b2 ha b3 he b4 hR b5)⟩)
  · refine ej_plain hmn (eg_at hT 0 4 rfl rfl) (pc' := 10) (ls' := [some (.inr (.inr (.inl (some 345)))), some (.inl (kind)), some (.inl (n))]) (st' := [.inl (-100000)]) (fun _ _ => rfl) ?_
    exact ej_ireturn hmn (eg_at hT 0 5 rfl rfl) (@decide_eq_true _ (Classical.propDecidable _) ⟨_, B, W, Z, Y, N, F, M, S, U, C, a, b, R, _, _, _, _, _, _, _, _, _, _, _, _, _, rfl, rfl, (ey_mk hB hBB hW hZ hY hN hF hM hS b1 hU hC b2 ha b3 he b4 hR b5)⟩)
/-- saved, from INV to INV -/
theorem ec_saved_k {l : Launch} {D : va_G} {τ : Nat → ClassId} {sa : List Nat} {A : Nat → Prop} (hmn : em_mna) : em_E l D τ sa A em_inf 192 ([.inr (.inr (.inl (some 345))), ex_top, ex_top], ei_h0, some ex_top, ei_h0, 6) := by
  refine ⟨_, _, _, _, rfl, Nat.le_of_ble_eq_true rfl, fun ν ro avs ws hs => ?_⟩
  obtain ⟨v0, vs0, rfl, g0, hs0⟩ := hs.cons
  obtain ⟨v1, vs1, rfl, ⟨x1, rfl, -, -⟩, hs1⟩ := hs0.cons
  obtain ⟨v2, vs2, rfl, ⟨x2, rfl, -, -⟩, hs2⟩ := hs1.cons
  intro p e hA hc hk s m args below hf happ hP hK
  obtain ⟨k1, k2, k3⟩ := hP
  obtain ⟨PP, fs, hR, hB, hW⟩ := ey_exact k3
  obtain ⟨r346, r353, r354, r355, r356, r357, r360, r361, r362, r363, r364, r365, r366, hBB, b1, b2, b3, b4, b5⟩ := ey_split hR hB
  obtain ⟨y', bytes', nl', ret', j1, j2, j3⟩ := eq_saved (l := l) (D := D) (τ := τ) (sa := sa) (A := A) hmn r346 hBB r360 r361 b1 r362 r363 b2 r364 b3 r365 b4 r366 b5 r353 r354 r355 r356 r357 (kind := x1.toInt) (n := x2.toInt)
  cases j1
  obtain ⟨n, o, h1, h2, h3, h4, h5⟩ := j3 ν ro (v0 :: .int x1 :: .int x2 :: vs2) ws ⟨g0, er_int x1, er_int x2, hs2⟩ p e hA hc hk s m args below hf happ ⟨k1, k2, hW⟩ hK
  refine ⟨n, o, h1, h2, h3, ?_, h5⟩
  obtain ⟨⟨ov, hp', ws', rv, w1, w2, w3, w4, w5⟩, w6⟩ := h4
  obtain ⟨r, B1, W1, Z1, Y1, N1, F1, M1, S1, U1, C1, a1, b1, R1, bf1, wf1, zf1, yf1, nf1, ff_1, mg1, sf1, uf1, cf1, af1, ef1, rf1, rfl, rfl, hok⟩ := @of_decide_eq_true _ (Classical.propDecidable _) w2
  refine ⟨⟨ws', rv, w1, ?_, ey_inv (PP := ey_PP B1 W1 Z1 Y1 N1 F1 M1 S1 U1 C1 a1 b1 R1) (fs := ey_ff bf1 wf1 zf1 yf1 nf1 ff_1 mg1 sf1 uf1 cf1 af1 ef1 rf1) hok.1 hok.2 w4, w5⟩, w6⟩
  match rv, w3 with
  | some v, ⟨x, e1, e2⟩ => subst e1; exact er_top (ρ := er_r ν sa ws') x
  | none, w3 => exact w3.elim
