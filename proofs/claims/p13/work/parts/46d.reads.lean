/-! The reference reads a text, by hand: its items. Printed by wip/p3/textgen.py. -/
/-- a switch on what is none of its cases -/
theorem ej_tswd {l : Launch} {D : va_G} {τ : Nat → ClassId} {sa : List Nat} {A : Nat → Prop} {own mname : String} {bytes : ByteArray} {nL d : Nat} {ret : Option FieldType} {K : Option ex_V → ex_H → Bool} {pc a b t : Nat} {z : Int} {ls : List (Option ex_V)} {r : List ex_V} {hp : ex_H} {x df lo hi : Int} {offs : Array Int} (hmn : em_mna) (hx : ek_J em_inf et_cls et_vt own mname bytes (pc, eh_tableswitch df lo offs, a, b, z)) (hg : ∀ k : Nat → Bool, ex_tgt pc df k = k t) (hs : lo + (offs.size : Int) = hi + 1) (ho : x < lo ∨ hi < x) (h : em_G l D τ sa A own mname bytes nL d (0, 0) ret K (t, ls, r, hp, 0, 0)) : em_G l D τ sa A own mname bytes nL d (0, 0) ret K (pc, ls, .inl x :: r, hp, 0, 0) := by
  refine eg_step hmn _ hx ?_
  show (if ex_le lo x then (match offs[(x - lo).toNat]? with | some off => ex_tgt pc off (fun t => eg_go l D τ sa A own mname bytes nL d ret K t ls r hp 0 0) | none => ex_tgt pc df (fun t => eg_go l D τ sa A own mname bytes nL d ret K t ls r hp 0 0)) else ex_tgt pc df (fun t => eg_go l D τ sa A own mname bytes nL d ret K t ls r hp 0 0)) = true
  by_cases c : lo ≤ x
  · rw [if_pos ((ex_le_iff _ _).mpr c), Array.getElem?_eq_none (by omega)]
    show ex_tgt pc df _ = true
    rw [hg]
    exact eg_go_of h
  · rw [if_neg (fun q => c ((ex_le_iff _ _).mp q)), hg]
    exact eg_go_of h
theorem eq_numbers {l : Launch} {D : va_G} {τ : Nat → ClassId} {sa : List Nat} {A : Nat → Prop} (hmn : em_mna) {hp : ex_H} {vb : Int} : em_X l D τ sa A 154 [.inl vb] hp (fun w hp' => ∃ r : Int, w = some (.inl r) ∧ hp' = hp ∧ 0 ≤ r ∧ r ≤ 5) 0 := by
  refine em_X.of (tb := eu_154) (nl := 1) (ret := some .int) rfl (q := [some (.inl (vb))]) (fun _ => rfl) (fun own mname bytes hT => ?_)
  refine ej_plain hmn (eg_at hT 0 0 rfl rfl) (pc' := 1) (ls' := [some (.inl (vb))]) (st' := [.inl (vb)]) (fun _ _ => rfl) ?_
  by_cases gs1 : vb < 11 ∨ 19 < vb
  · refine ej_tswd hmn (eg_at hT 0 1 rfl rfl) (t := 60) (fun _ => rfl) (hi := 19) rfl gs1 ?_
    refine ej_plain hmn (eg_at hT 1 8 rfl rfl) (pc' := 61) (ls' := [some (.inl (vb))]) (st' := [.inl (2)]) (fun _ _ => rfl) ?_
    exact ej_ireturn hmn (eg_at hT 1 9 rfl rfl) (@decide_eq_true _ (Classical.propDecidable _) ⟨2, rfl, rfl, by omega, by omega⟩)
  · have hz : vb = 11 ∨ vb = 12 ∨ vb = 13 ∨ vb = 14 ∨ vb = 15 ∨ vb = 16 ∨ vb = 17 ∨ vb = 18 ∨ vb = 19 := by omega
    rcases hz with hz | hz | hz | hz | hz | hz | hz | hz | hz
    · subst hz
      refine ej_plain hmn (eg_at hT 0 1 rfl rfl) (pc' := 52) (ls' := [some (.inl (11))]) (st' := []) (fun _ _ => rfl) ?_
      refine ej_plain hmn (eg_at hT 1 0 rfl rfl) (pc' := 53) (ls' := [some (.inl (11))]) (st' := [.inl (4)]) (fun _ _ => rfl) ?_
      exact ej_ireturn hmn (eg_at hT 1 1 rfl rfl) (@decide_eq_true _ (Classical.propDecidable _) ⟨4, rfl, rfl, by omega, by omega⟩)
    · subst hz
      refine ej_plain hmn (eg_at hT 0 1 rfl rfl) (pc' := 60) (ls' := [some (.inl (12))]) (st' := []) (fun _ _ => rfl) ?_
      refine ej_plain hmn (eg_at hT 1 8 rfl rfl) (pc' := 61) (ls' := [some (.inl (12))]) (st' := [.inl (2)]) (fun _ _ => rfl) ?_
      exact ej_ireturn hmn (eg_at hT 1 9 rfl rfl) (@decide_eq_true _ (Classical.propDecidable _) ⟨2, rfl, rfl, by omega, by omega⟩)
    · subst hz
      refine ej_plain hmn (eg_at hT 0 1 rfl rfl) (pc' := 54) (ls' := [some (.inl (13))]) (st' := []) (fun _ _ => rfl) ?_
      refine ej_plain hmn (eg_at hT 1 2 rfl rfl) (pc' := 55) (ls' := [some (.inl (13))]) (st' := [.inl (1)]) (fun _ _ => rfl) ?_
      exact ej_ireturn hmn (eg_at hT 1 3 rfl rfl) (@decide_eq_true _ (Classical.propDecidable _) ⟨1, rfl, rfl, by omega, by omega⟩)
    · subst hz
      refine ej_plain hmn (eg_at hT 0 1 rfl rfl) (pc' := 56) (ls' := [some (.inl (14))]) (st' := []) (fun _ _ => rfl) ?_
      refine ej_plain hmn (eg_at hT 1 4 rfl rfl) (pc' := 57) (ls' := [some (.inl (14))]) (st' := [.inl (3)]) (fun _ _ => rfl) ?_
      exact ej_ireturn hmn (eg_at hT 1 5 rfl rfl) (@decide_eq_true _ (Classical.propDecidable _) ⟨3, rfl, rfl, by omega, by omega⟩)
    · subst hz
      refine ej_plain hmn (eg_at hT 0 1 rfl rfl) (pc' := 60) (ls' := [some (.inl (15))]) (st' := []) (fun _ _ => rfl) ?_
      refine ej_plain hmn (eg_at hT 1 8 rfl rfl) (pc' := 61) (ls' := [some (.inl (15))]) (st' := [.inl (2)]) (fun _ _ => rfl) ?_
      exact ej_ireturn hmn (eg_at hT 1 9 rfl rfl) (@decide_eq_true _ (Classical.propDecidable _) ⟨2, rfl, rfl, by omega, by omega⟩)
    · subst hz
      refine ej_plain hmn (eg_at hT 0 1 rfl rfl) (pc' := 58) (ls' := [some (.inl (16))]) (st' := []) (fun _ _ => rfl) ?_
      refine ej_plain hmn (eg_at hT 1 6 rfl rfl) (pc' := 59) (ls' := [some (.inl (16))]) (st' := [.inl (5)]) (fun _ _ => rfl) ?_
      exact ej_ireturn hmn (eg_at hT 1 7 rfl rfl) (@decide_eq_true _ (Classical.propDecidable _) ⟨5, rfl, rfl, by omega, by omega⟩)
    · subst hz
      refine ej_plain hmn (eg_at hT 0 1 rfl rfl) (pc' := 54) (ls' := [some (.inl (17))]) (st' := []) (fun _ _ => rfl) ?_
      refine ej_plain hmn (eg_at hT 1 2 rfl rfl) (pc' := 55) (ls' := [some (.inl (17))]) (st' := [.inl (1)]) (fun _ _ => rfl) ?_
      exact ej_ireturn hmn (eg_at hT 1 3 rfl rfl) (@decide_eq_true _ (Classical.propDecidable _) ⟨1, rfl, rfl, by omega, by omega⟩)
    · subst hz
      refine ej_plain hmn (eg_at hT 0 1 rfl rfl) (pc' := 56) (ls' := [some (.inl (18))]) (st' := []) (fun _ _ => rfl) ?_
      refine ej_plain hmn (eg_at hT 1 4 rfl rfl) (pc' := 57) (ls' := [some (.inl (18))]) (st' := [.inl (3)]) (fun _ _ => rfl) ?_
      exact ej_ireturn hmn (eg_at hT 1 5 rfl rfl) (@decide_eq_true _ (Classical.propDecidable _) ⟨3, rfl, rfl, by omega, by omega⟩)
    · subst hz
      refine ej_plain hmn (eg_at hT 0 1 rfl rfl) (pc' := 54) (ls' := [some (.inl (19))]) (st' := []) (fun _ _ => rfl) ?_
      refine ej_plain hmn (eg_at hT 1 2 rfl rfl) (pc' := 55) (ls' := [some (.inl (19))]) (st' := [.inl (1)]) (fun _ _ => rfl) ?_
      exact ej_ireturn hmn (eg_at hT 1 3 rfl rfl) (@decide_eq_true _ (Classical.propDecidable _) ⟨1, rfl, rfl, by omega, by omega⟩)
theorem eq_re_K {l : Launch} {D : va_G} {τ : Nat → ClassId} {sa : List Nat} {A : Nat → Prop} (hmn : em_mna) {own mname : String} {bytes : ByteArray} (hT : ∀ ch ∈ eu_155, ∀ x ∈ ch, ek_J em_inf et_cls et_vt own mname bytes x) {d : Nat} (hd : 3 ≤ d) {K : Option ex_V → ex_H → Bool} {L : Int} (hL : 0 ≤ L ∧ L ≤ 300) (hK : ∀ r a s t v n : Int, (r = 0 ∨ r = 1) → (0 ≤ a ∧ a ≤ 300 ∧ 0 ≤ s ∧ s ≤ 300 ∧ 0 ≤ n ∧ n ≤ 300 ∧ (-2147483648 ≤ t ∧ t ≤ 2147483647) ∧ (-2147483648 ≤ v ∧ v ≤ 2147483647)) → K (some (.inl r)) (et_r L a s t v n) = true) {vb n b0 : Int} (hb : (-2147483648 ≤ vb ∧ vb ≤ 2147483647)) (hn : 0 ≤ n ∧ n ≤ b0 ∧ b0 < L) (hX : ∀ a s t v : Int, b0 < s → (0 ≤ s ∧ s ≤ a ∧ a ≤ L ∧ (-2147483648 ≤ t ∧ t ≤ 2147483647) ∧ (-2147483648 ≤ v ∧ v ≤ 2147483647) ∧ (t ≠ 0 → s < L) ∧ (t = 3 → s < a)) → em_G l D τ sa A own mname bytes 3 d (0, 0) (some .boolean) K (14, [some (.inr (.inr (.inl (some 345)))), none, none], [], (et_r (L) (a) (s) (t) (v) (n + 1)), 0, 0)) : ∀ (i : Nat) (a s t v k : Int), 5 - k < i → (0 ≤ k ∧ k ≤ 5) → b0 ≤ s → (0 ≤ s ∧ s ≤ a ∧ a ≤ L ∧ (-2147483648 ≤ t ∧ t ≤ 2147483647) ∧ (-2147483648 ≤ v ∧ v ≤ 2147483647) ∧ (t ≠ 0 → s < L) ∧ (t = 3 → s < a)) → em_G l D τ sa A own mname bytes 3 d (0, 0) (some .boolean) K (40, [some (.inr (.inr (.inl (some 345)))), some (.inl (vb)), some (.inl (k))], [], (et_r (L) (a) (s) (t) (v) (n)), 0, 0) := by
  intro i
  induction i with
  | zero => intro a s t v k hi hk; exfalso; omega
  | succ i ih =>
    intro a s t v k hi hk hs hv
    refine ej_plain hmn (eg_at hT 1 6 rfl rfl) (pc' := 41) (ls' := [some (.inr (.inr (.inl (some 345)))), some (.inl (vb)), some (.inl (k))]) (st' := [.inl (k)]) (fun _ _ => rfl) ?_
    refine ej_plain hmn (eg_at hT 1 7 rfl rfl) (pc' := 42) (ls' := [some (.inr (.inr (.inl (some 345)))), some (.inl (vb)), some (.inl (k))]) (st' := [.inl (vb), .inl (k)]) (fun _ _ => rfl) ?_
    refine ej_call hmn (eg_at hT 1 8 rfl rfl) (pc' := 45) (r := [.inl (k)]) (eq_numbers hmn (vb := vb)) (by omega) (fun _ _ => rfl) (fun v hp' hP => ?_)
    obtain ⟨nr, rfl, rfl, nra, nrb⟩ := hP
    show em_G l D τ sa A own mname bytes 3 d (0, 0) (some .boolean) K (45, [some (.inr (.inr (.inl (some 345)))), some (.inl (vb)), some (.inl (k))], [.inl (nr), .inl (k)], (et_r (L) (a) (s) (t) (v) (n)), 0, 0)
    refine ej_if_icmp hmn (eg_at hT 1 9 rfl rfl) (pc' := 48) rfl (fun _ => rfl) (fun (kc1 : nr ≤ k) => ?_) (fun (kc1 : ¬ (nr ≤ k)) => ?_)
    · refine ej_plain hmn (eg_at hT 2 11 rfl rfl) (pc' := 86) (ls' := [some (.inr (.inr (.inl (some 345)))), some (.inl (vb)), some (.inl (k))]) (st' := [.inr (.inr (.inl (some 345)))]) (fun _ _ => rfl) ?_
      refine ej_plain hmn (eg_at hT 2 12 rfl rfl) (pc' := 89) (ls' := [some (.inr (.inr (.inl (some 345)))), some (.inl (vb)), some (.inl (k))]) (st' := [.inl (t)]) (fun _ _ => rfl) ?_
      refine ej_plain hmn (eg_at hT 2 13 rfl rfl) (pc' := 90) (ls' := [some (.inr (.inr (.inl (some 345)))), some (.inl (vb)), some (.inl (k))]) (st' := [.inl (3), .inl (t)]) (fun _ _ => rfl) ?_
      refine ej_if_icmp hmn (eg_at hT 2 14 rfl rfl) (pc' := 93) rfl (fun _ => rfl) (fun (kc2 : t = 3) => ?_) (fun (kc2 : ¬ (t = 3)) => ?_)
      · refine ej_plain hmn (eg_at hT 2 17 rfl rfl) (pc' := 96) (ls' := [some (.inr (.inr (.inl (some 345)))), some (.inl (vb)), some (.inl (k))]) (st' := [.inr (.inr (.inl (some 345)))]) (fun _ _ => rfl) ?_
        refine ej_plain hmn (eg_at hT 3 0 rfl rfl) (pc' := 99) (ls' := [some (.inr (.inr (.inl (some 345)))), some (.inl (vb)), some (.inl (k))]) (st' := [.inr (.inr (.inl (some 351)))]) (fun _ _ => rfl) ?_
        refine ej_plain hmn (eg_at hT 3 1 rfl rfl) (pc' := 100) (ls' := [some (.inr (.inr (.inl (some 345)))), some (.inl (vb)), some (.inl (k))]) (st' := [.inr (.inr (.inl (some 345))), .inr (.inr (.inl (some 351)))]) (fun _ _ => rfl) ?_
        refine ej_plain hmn (eg_at hT 3 2 rfl rfl) (pc' := 103) (ls' := [some (.inr (.inr (.inl (some 345)))), some (.inl (vb)), some (.inl (k))]) (st' := [.inl (n), .inr (.inr (.inl (some 351)))]) (fun _ _ => rfl) ?_
        refine ej_plain hmn (eg_at hT 3 3 rfl rfl) (pc' := 104) (ls' := [some (.inr (.inr (.inl (some 345)))), some (.inl (vb)), some (.inl (k))]) (st' := [.inl (vb), .inl (n), .inr (.inr (.inl (some 351)))]) (fun _ _ => rfl) ?_
        refine ej_iastoreW hmn (eg_at hT 3 4 rfl rfl) (pc' := 105) (n := 300) (lo := (-2147483648)) (hi := (2147483647)) rfl rfl (fun _ => rfl) rfl (by omega) (by omega) (evw_351 _ (by omega)) (by omega) (by omega) ?_
        refine ej_plain hmn (eg_at hT 3 5 rfl rfl) (pc' := 106) (ls' := [some (.inr (.inr (.inl (some 345)))), some (.inl (vb)), some (.inl (k))]) (st' := [.inr (.inr (.inl (some 345)))]) (fun _ _ => rfl) ?_
        refine ej_plain hmn (eg_at hT 3 6 rfl rfl) (pc' := 107) (ls' := [some (.inr (.inr (.inl (some 345)))), some (.inl (vb)), some (.inl (k))]) (st' := [.inr (.inr (.inl (some 345))), .inr (.inr (.inl (some 345)))]) (fun _ _ => rfl) ?_
        refine ej_plain hmn (eg_at hT 3 7 rfl rfl) (pc' := 110) (ls' := [some (.inr (.inr (.inl (some 345)))), some (.inl (vb)), some (.inl (k))]) (st' := [.inl (n), .inr (.inr (.inl (some 345)))]) (fun _ _ => rfl) ?_
        refine ej_plain hmn (eg_at hT 3 8 rfl rfl) (pc' := 111) (ls' := [some (.inr (.inr (.inl (some 345)))), some (.inl (vb)), some (.inl (k))]) (st' := [.inl (1), .inl (n), .inr (.inr (.inl (some 345)))]) (fun _ _ => rfl) ?_
        refine ej_iadd hmn (eg_at hT 3 9 rfl rfl) (pc' := 112) rfl (by omega) (by omega) ?_
        refine ej_plain hmn (eg_at hT 3 10 rfl rfl) (pc' := 115) (ls' := [some (.inr (.inr (.inl (some 345)))), some (.inl (vb)), some (.inl (k))]) (st' := []) (hp' := (et_r (L) (a) (s) (t) (v) (n + 1))) (fun _ _ => rfl) ?_
        refine ej_plain hmn (eg_at hT 3 11 rfl rfl) (pc' := 116) (ls' := [some (.inr (.inr (.inl (some 345)))), some (.inl (vb)), some (.inl (k))]) (st' := [.inr (.inr (.inl (some 345)))]) (fun _ _ => rfl) ?_
        refine ej_call hmn (eg_at hT 3 12 rfl rfl) (pc' := 119) (r := []) (eq_scans hmn (by omega) (by omega) (by omega) (by omega)) (by omega) (fun _ _ => rfl) (fun w hp' hP => ?_)
        obtain ⟨akz3, skz3, tkz3, vkz3, rfl, rfl, hkz3⟩ := hP
        show em_G l D τ sa A own mname bytes 3 d (0, 0) (some .boolean) K (119, [some (.inr (.inr (.inl (some 345)))), some (.inl (vb)), some (.inl (k))], [], (et_r (L) (akz3) (skz3) (tkz3) (vkz3) (n + 1)), 0, 0)
        refine ej_plain hmn (eg_at hT 3 13 rfl rfl) (pc' := 14) (ls' := [some (.inr (.inr (.inl (some 345)))), some (.inl (vb)), some (.inl (k))]) (st' := []) (fun _ _ => rfl) ?_
        refine ej_drop 1 rfl (ej_drop 2 rfl ?_)
        exact hX _ _ _ _ (by omega) (by omega)
      · refine ej_plain hmn (eg_at hT 2 15 rfl rfl) (pc' := 94) (ls' := [some (.inr (.inr (.inl (some 345)))), some (.inl (vb)), some (.inl (k))]) (st' := [.inl (0)]) (fun _ _ => rfl) ?_
        exact ej_zreturn hmn (eg_at hT 2 16 rfl rfl) (by omega) (by omega) (hK _ _ _ _ _ _ (by omega) (by omega))
    · refine ej_plain hmn (eg_at hT 1 10 rfl rfl) (pc' := 49) (ls' := [some (.inr (.inr (.inl (some 345)))), some (.inl (vb)), some (.inl (k))]) (st' := [.inr (.inr (.inl (some 345)))]) (fun _ _ => rfl) ?_
      refine ej_plain hmn (eg_at hT 1 11 rfl rfl) (pc' := 52) (ls' := [some (.inr (.inr (.inl (some 345)))), some (.inl (vb)), some (.inl (k))]) (st' := [.inl (t)]) (fun _ _ => rfl) ?_
      refine ej_plain hmn (eg_at hT 1 12 rfl rfl) (pc' := 53) (ls' := [some (.inr (.inr (.inl (some 345)))), some (.inl (vb)), some (.inl (k))]) (st' := [.inl (2), .inl (t)]) (fun _ _ => rfl) ?_
      refine ej_if_icmp hmn (eg_at hT 1 13 rfl rfl) (pc' := 56) rfl (fun _ => rfl) (fun (kc4 : t = 2) => ?_) (fun (kc4 : ¬ (t = 2)) => ?_)
      · refine ej_plain hmn (eg_at hT 1 16 rfl rfl) (pc' := 59) (ls' := [some (.inr (.inr (.inl (some 345)))), some (.inl (vb)), some (.inl (k))]) (st' := [.inr (.inr (.inl (some 345)))]) (fun _ _ => rfl) ?_
        refine ej_plain hmn (eg_at hT 1 17 rfl rfl) (pc' := 62) (ls' := [some (.inr (.inr (.inl (some 345)))), some (.inl (vb)), some (.inl (k))]) (st' := [.inr (.inr (.inl (some 352)))]) (fun _ _ => rfl) ?_
        refine ej_plain hmn (eg_at hT 1 18 rfl rfl) (pc' := 63) (ls' := [some (.inr (.inr (.inl (some 345)))), some (.inl (vb)), some (.inl (k))]) (st' := [.inl (5), .inr (.inr (.inl (some 352)))]) (fun _ _ => rfl) ?_
        refine ej_plain hmn (eg_at hT 1 19 rfl rfl) (pc' := 64) (ls' := [some (.inr (.inr (.inl (some 345)))), some (.inl (vb)), some (.inl (k))]) (st' := [.inr (.inr (.inl (some 345))), .inl (5), .inr (.inr (.inl (some 352)))]) (fun _ _ => rfl) ?_
        refine ej_plain hmn (eg_at hT 2 0 rfl rfl) (pc' := 67) (ls' := [some (.inr (.inr (.inl (some 345)))), some (.inl (vb)), some (.inl (k))]) (st' := [.inl (n), .inl (5), .inr (.inr (.inl (some 352)))]) (fun _ _ => rfl) ?_
        refine ej_imul hmn (eg_at hT 2 1 rfl rfl) (pc' := 68) rfl (by omega) (by omega) ?_
        refine ej_plain hmn (eg_at hT 2 2 rfl rfl) (pc' := 69) (ls' := [some (.inr (.inr (.inl (some 345)))), some (.inl (vb)), some (.inl (k))]) (st' := [.inl (k), .inl (5 * n), .inr (.inr (.inl (some 352)))]) (fun _ _ => rfl) ?_
        refine ej_iadd hmn (eg_at hT 2 3 rfl rfl) (pc' := 70) rfl (by omega) (by omega) ?_
        refine ej_plain hmn (eg_at hT 2 4 rfl rfl) (pc' := 71) (ls' := [some (.inr (.inr (.inl (some 345)))), some (.inl (vb)), some (.inl (k))]) (st' := [.inr (.inr (.inl (some 345))), .inl ((5 * n) + k), .inr (.inr (.inl (some 352)))]) (fun _ _ => rfl) ?_
        refine ej_plain hmn (eg_at hT 2 5 rfl rfl) (pc' := 74) (ls' := [some (.inr (.inr (.inl (some 345)))), some (.inl (vb)), some (.inl (k))]) (st' := [.inl (v), .inl ((5 * n) + k), .inr (.inr (.inl (some 352)))]) (fun _ _ => rfl) ?_
        refine ej_iastoreW hmn (eg_at hT 2 6 rfl rfl) (pc' := 75) (n := 1500) (lo := (-2147483648)) (hi := (2147483647)) rfl rfl (fun _ => rfl) rfl (by omega) (by omega) (evw_352 _ (by omega)) (by omega) (by omega) ?_
        refine ej_plain hmn (eg_at hT 2 7 rfl rfl) (pc' := 76) (ls' := [some (.inr (.inr (.inl (some 345)))), some (.inl (vb)), some (.inl (k))]) (st' := [.inr (.inr (.inl (some 345)))]) (fun _ _ => rfl) ?_
        refine ej_call hmn (eg_at hT 2 8 rfl rfl) (pc' := 79) (r := []) (eq_scans hmn (by omega) (by omega) (by omega) (by omega)) (by omega) (fun _ _ => rfl) (fun w hp' hP => ?_)
        obtain ⟨akz5, skz5, tkz5, vkz5, rfl, rfl, hkz5⟩ := hP
        show em_G l D τ sa A own mname bytes 3 d (0, 0) (some .boolean) K (79, [some (.inr (.inr (.inl (some 345)))), some (.inl (vb)), some (.inl (k))], [], (et_r (L) (akz5) (skz5) (tkz5) (vkz5) (n)), 0, 0)
        refine ej_iinc hmn (eg_at hT 2 9 rfl rfl) (pc' := 82) rfl (w := 1) rfl (fun _ => rfl) (lsf := fun V => [some (.inr (.inr (.inl (some 345)))), some (.inl (vb)), some V]) (fun _ _ => rfl) (by decide) (by decide) (by omega) (by omega) ?_
        refine ej_plain hmn (eg_at hT 2 10 rfl rfl) (pc' := 40) (ls' := [some (.inr (.inr (.inl (some 345)))), some (.inl (vb)), some (.inl (k + 1))]) (st' := []) (fun _ _ => rfl) ?_
        exact ih _ _ _ _ _ (by omega) (by omega) (by omega) (by omega)
      · refine ej_plain hmn (eg_at hT 1 14 rfl rfl) (pc' := 57) (ls' := [some (.inr (.inr (.inl (some 345)))), some (.inl (vb)), some (.inl (k))]) (st' := [.inl (0)]) (fun _ _ => rfl) ?_
        exact ej_zreturn hmn (eg_at hT 1 15 rfl rfl) (by omega) (by omega) (hK _ _ _ _ _ _ (by omega) (by omega))
theorem eq_re_I {l : Launch} {D : va_G} {τ : Nat → ClassId} {sa : List Nat} {A : Nat → Prop} (hmn : em_mna) {own mname : String} {bytes : ByteArray} (hT : ∀ ch ∈ eu_155, ∀ x ∈ ch, ek_J em_inf et_cls et_vt own mname bytes x) {d : Nat} (hd : 3 ≤ d) {K : Option ex_V → ex_H → Bool} {L : Int} (hL : 0 ≤ L ∧ L ≤ 300) (hK : ∀ r a s t v n : Int, (r = 0 ∨ r = 1) → (0 ≤ a ∧ a ≤ 300 ∧ 0 ≤ s ∧ s ≤ 300 ∧ 0 ≤ n ∧ n ≤ 300 ∧ (-2147483648 ≤ t ∧ t ≤ 2147483647) ∧ (-2147483648 ≤ v ∧ v ≤ 2147483647)) → K (some (.inl r)) (et_r L a s t v n) = true) : ∀ (i : Nat) (a s t v n : Int), L - s < i → (0 ≤ n ∧ n ≤ s) → (0 ≤ s ∧ s ≤ a ∧ a ≤ L ∧ (-2147483648 ≤ t ∧ t ≤ 2147483647) ∧ (-2147483648 ≤ v ∧ v ≤ 2147483647) ∧ (t ≠ 0 → s < L) ∧ (t = 3 → s < a)) → em_G l D τ sa A own mname bytes 3 d (0, 0) (some .boolean) K (14, [some (.inr (.inr (.inl (some 345)))), none, none], [], (et_r (L) (a) (s) (t) (v) (n)), 0, 0) := by
  intro i
  induction i with
  | zero => intro a s t v n hi hn hv; exfalso; omega
  | succ i ih =>
    intro a s t v n hi hn hv
    refine ej_plain hmn (eg_at hT 0 8 rfl rfl) (pc' := 15) (ls' := [some (.inr (.inr (.inl (some 345)))), none, none]) (st' := [.inr (.inr (.inl (some 345)))]) (fun _ _ => rfl) ?_
    refine ej_plain hmn (eg_at hT 0 9 rfl rfl) (pc' := 18) (ls' := [some (.inr (.inr (.inl (some 345)))), none, none]) (st' := [.inl (t)]) (fun _ _ => rfl) ?_
    refine ej_ifCond hmn (eg_at hT 0 10 rfl rfl) (pc' := 21) rfl (fun _ => rfl) (fun (rc1 : t = 0) => ?_) (fun (rc1 : ¬ (t = 0)) => ?_)
    · refine ej_plain hmn (eg_at hT 3 14 rfl rfl) (pc' := 123) (ls' := [some (.inr (.inr (.inl (some 345)))), none, none]) (st' := [.inl (1)]) (fun _ _ => rfl) ?_
      exact ej_zreturn hmn (eg_at hT 3 15 rfl rfl) (by omega) (by omega) (hK _ _ _ _ _ _ (by omega) (by omega))
    · refine ej_plain hmn (eg_at hT 0 11 rfl rfl) (pc' := 22) (ls' := [some (.inr (.inr (.inl (some 345)))), none, none]) (st' := [.inr (.inr (.inl (some 345)))]) (fun _ _ => rfl) ?_
      refine ej_plain hmn (eg_at hT 0 12 rfl rfl) (pc' := 25) (ls' := [some (.inr (.inr (.inl (some 345)))), none, none]) (st' := [.inl (t)]) (fun _ _ => rfl) ?_
      refine ej_plain hmn (eg_at hT 0 13 rfl rfl) (pc' := 26) (ls' := [some (.inr (.inr (.inl (some 345)))), some (.inl (t)), none]) (st' := []) (fun _ _ => rfl) ?_
      refine ej_plain hmn (eg_at hT 0 14 rfl rfl) (pc' := 27) (ls' := [some (.inr (.inr (.inl (some 345)))), some (.inl (t)), none]) (st' := [.inl (t)]) (fun _ _ => rfl) ?_
      refine ej_plain hmn (eg_at hT 0 15 rfl rfl) (pc' := 29) (ls' := [some (.inr (.inr (.inl (some 345)))), some (.inl (t)), none]) (st' := [.inl (10), .inl (t)]) (fun _ _ => rfl) ?_
      refine ej_if_icmp hmn (eg_at hT 0 16 rfl rfl) (pc' := 32) rfl (fun _ => rfl) (fun (rc2 : 10 ≤ t) => ?_) (fun (rc2 : ¬ (10 ≤ t)) => ?_)
      · refine ej_plain hmn (eg_at hT 1 2 rfl rfl) (pc' := 35) (ls' := [some (.inr (.inr (.inl (some 345)))), some (.inl (t)), none]) (st' := [.inr (.inr (.inl (some 345)))]) (fun _ _ => rfl) ?_
        refine ej_call hmn (eg_at hT 1 3 rfl rfl) (pc' := 38) (r := []) (eq_scans hmn (by omega) (by omega) (by omega) (by omega)) (by omega) (fun _ _ => rfl) (fun w hp' hP => ?_)
        obtain ⟨arz3, srz3, trz3, vrz3, rfl, rfl, hrz3⟩ := hP
        show em_G l D τ sa A own mname bytes 3 d (0, 0) (some .boolean) K (38, [some (.inr (.inr (.inl (some 345)))), some (.inl (t)), none], [], (et_r (L) (arz3) (srz3) (trz3) (vrz3) (n)), 0, 0)
        refine ej_plain hmn (eg_at hT 1 4 rfl rfl) (pc' := 39) (ls' := [some (.inr (.inr (.inl (some 345)))), some (.inl (t)), none]) (st' := [.inl (0)]) (fun _ _ => rfl) ?_
        refine ej_plain hmn (eg_at hT 1 5 rfl rfl) (pc' := 40) (ls' := [some (.inr (.inr (.inl (some 345)))), some (.inl (t)), some (.inl (0))]) (st' := []) (fun _ _ => rfl) ?_
        exact eq_re_K hmn hT hd hL hK (vb := t) (n := n) (b0 := s) (by omega) (by omega) (fun a1 s1 t1 v1 g1 g2 => ih _ _ _ _ _ (by omega) (by omega) g2) 6 _ _ _ _ 0 (by omega) (by omega) (by omega) (by omega)
      · refine ej_plain hmn (eg_at hT 1 0 rfl rfl) (pc' := 33) (ls' := [some (.inr (.inr (.inl (some 345)))), some (.inl (t)), none]) (st' := [.inl (0)]) (fun _ _ => rfl) ?_
        exact ej_zreturn hmn (eg_at hT 1 1 rfl rfl) (by omega) (by omega) (hK _ _ _ _ _ _ (by omega) (by omega))
theorem eq_reads {l : Launch} {D : va_G} {τ : Nat → ClassId} {sa : List Nat} {A : Nat → Prop} (hmn : em_mna) {L a s t v n : Int} (hL : 0 ≤ L ∧ L ≤ 300) (hv : (-2147483648 ≤ v ∧ v ≤ 2147483647) ∧ (-2147483648 ≤ t ∧ t ≤ 2147483647)) : em_X l D τ sa A 155 [(.inr (.inr (.inl (some 345))))] (et_r L a s t v n) (fun w hp' => ∃ r a s t v n : Int, w = some (.inl r) ∧ hp' = et_r L a s t v n ∧ (r = 0 ∨ r = 1) ∧ (0 ≤ a ∧ a ≤ 300 ∧ 0 ≤ s ∧ s ≤ 300 ∧ 0 ≤ n ∧ n ≤ 300 ∧ (-2147483648 ≤ t ∧ t ≤ 2147483647) ∧ (-2147483648 ≤ v ∧ v ≤ 2147483647))) 3 := by
  refine em_X.of (tb := eu_155) (nl := 3) (ret := some .boolean) rfl (q := [some (.inr (.inr (.inl (some 345)))), none, none]) (fun _ => rfl) (fun own mname bytes hT => ?_)
  refine ej_plain hmn (eg_at hT 0 0 rfl rfl) (pc' := 1) (ls' := [some (.inr (.inr (.inl (some 345)))), none, none]) (st' := [.inr (.inr (.inl (some 345)))]) (fun _ _ => rfl) ?_
  refine ej_plain hmn (eg_at hT 0 1 rfl rfl) (pc' := 2) (ls' := [some (.inr (.inr (.inl (some 345)))), none, none]) (st' := [.inl (0), .inr (.inr (.inl (some 345)))]) (fun _ _ => rfl) ?_
  refine ej_plain hmn (eg_at hT 0 2 rfl rfl) (pc' := 5) (ls' := [some (.inr (.inr (.inl (some 345)))), none, none]) (st' := []) (hp' := (et_r (L) (0) (s) (t) (v) (n))) (fun _ _ => rfl) ?_
  refine ej_plain hmn (eg_at hT 0 3 rfl rfl) (pc' := 6) (ls' := [some (.inr (.inr (.inl (some 345)))), none, none]) (st' := [.inr (.inr (.inl (some 345)))]) (fun _ _ => rfl) ?_
  refine ej_plain hmn (eg_at hT 0 4 rfl rfl) (pc' := 7) (ls' := [some (.inr (.inr (.inl (some 345)))), none, none]) (st' := [.inl (0), .inr (.inr (.inl (some 345)))]) (fun _ _ => rfl) ?_
  refine ej_plain hmn (eg_at hT 0 5 rfl rfl) (pc' := 10) (ls' := [some (.inr (.inr (.inl (some 345)))), none, none]) (st' := []) (hp' := (et_r (L) (0) (s) (t) (v) (0))) (fun _ _ => rfl) ?_
  refine ej_plain hmn (eg_at hT 0 6 rfl rfl) (pc' := 11) (ls' := [some (.inr (.inr (.inl (some 345)))), none, none]) (st' := [.inr (.inr (.inl (some 345)))]) (fun _ _ => rfl) ?_
  refine ej_call hmn (eg_at hT 0 7 rfl rfl) (pc' := 14) (r := []) (eq_scans hmn (by omega) (by omega) (by omega) (by omega)) (by omega) (fun _ _ => rfl) (fun w hp' hP => ?_)
  obtain ⟨ayz1, syz1, tyz1, vyz1, rfl, rfl, hyz1⟩ := hP
  show em_G l D τ sa A own mname bytes 3 3 (0, 0) (some .boolean) _ (14, [some (.inr (.inr (.inl (some 345)))), none, none], [], (et_r (L) (ayz1) (syz1) (tyz1) (vyz1) (0)), 0, 0)
  exact eq_re_I hmn hT (Nat.le_refl 3) hL (fun r a s t v n h1 h2 => @decide_eq_true _ (Classical.propDecidable _) ⟨r, a, s, t, v, n, rfl, rfl, h1, h2⟩) 301 _ _ _ _ _ (by omega) (by omega) (by omega)
