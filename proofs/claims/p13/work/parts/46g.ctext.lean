/-! The class reads a text, by hand. Printed by wip/p3/ctextgen.py. -/
/-- INV with the text's fields by letters: length, items, place -/
def et_c (L it p : Int) : ex_H := ex_hput ei_h0 46 ((nat_lit 3), (nat_lit 9), (nat_lit 0), (nat_lit 0), [.inr (.inr (.inl (some (nat_lit 47)))), .inl L, .inr (.inr (.inl (some (nat_lit 48)))), .inr (.inr (.inl (some (nat_lit 49)))), .inl it, .inl p])
theorem et_catC (L it p : Int) : ex_at (et_c L it p) 46 = some ((nat_lit 3), (nat_lit 9), (nat_lit 0), (nat_lit 0), [.inr (.inr (.inl (some (nat_lit 47)))), .inl L, .inr (.inr (.inl (some (nat_lit 48)))), .inr (.inr (.inl (some (nat_lit 49)))), .inl it, .inl p]) := rfl
theorem et_cat0 : ex_at ei_h0 46 = some ((nat_lit 3), (nat_lit 9), (nat_lit 0), (nat_lit 0), [.inr (.inr (.inl (some (nat_lit 47)))), .inr (.inr (.inr (.inr (.inr ((nat_lit 1), (Int.ofNat (nat_lit 0)), (Int.ofNat (nat_lit 300))))))), .inr (.inr (.inl (some (nat_lit 48)))), .inr (.inr (.inl (some (nat_lit 49)))), .inr (.inr (.inr (.inl ((Int.ofNat (nat_lit 0)), (Int.ofNat (nat_lit 50)))))), .inr (.inr (.inr (.inl ((Int.ofNat (nat_lit 0)), (Int.ofNat (nat_lit 300))))))]) := rfl
theorem et_cne (L it p : Int) {q : Nat} (h : q ≠ 46) : ex_at (et_c L it p) q = ex_at ei_h0 q := by unfold et_c; rw [ex_hput_at et_cat0 q, if_neg h]
theorem et_row0 : ∀ q, q < 50 → ex_at ei_h0 (50 + q) = some (0, 0, 5, (ei_c3[2]!).2.2.2.1, []) := by
  intro q hq
  match q, hq with
  | 0, _ => rfl
  | 1, _ => rfl
  | 2, _ => rfl
  | 3, _ => rfl
  | 4, _ => rfl
  | 5, _ => rfl
  | 6, _ => rfl
  | 7, _ => rfl
  | 8, _ => rfl
  | 9, _ => rfl
  | 10, _ => rfl
  | 11, _ => rfl
  | 12, _ => rfl
  | 13, _ => rfl
  | 14, _ => rfl
  | 15, _ => rfl
  | 16, _ => rfl
  | 17, _ => rfl
  | 18, _ => rfl
  | 19, _ => rfl
  | 20, _ => rfl
  | 21, _ => rfl
  | 22, _ => rfl
  | 23, _ => rfl
  | 24, _ => rfl
  | 25, _ => rfl
  | 26, _ => rfl
  | 27, _ => rfl
  | 28, _ => rfl
  | 29, _ => rfl
  | 30, _ => rfl
  | 31, _ => rfl
  | 32, _ => rfl
  | 33, _ => rfl
  | 34, _ => rfl
  | 35, _ => rfl
  | 36, _ => rfl
  | 37, _ => rfl
  | 38, _ => rfl
  | 39, _ => rfl
  | 40, _ => rfl
  | 41, _ => rfl
  | 42, _ => rfl
  | 43, _ => rfl
  | 44, _ => rfl
  | 45, _ => rfl
  | 46, _ => rfl
  | 47, _ => rfl
  | 48, _ => rfl
  | 49, _ => rfl
  | q + 50, h => exact absurd h (by omega)
theorem et_rows : ∀ i, i < 50 → (ei_c3[1]!).2.2.2.2[i]? = some (.inr (.inr (.inl (some (50 + i))))) := by
  intro q hq
  match q, hq with
  | 0, _ => rfl
  | 1, _ => rfl
  | 2, _ => rfl
  | 3, _ => rfl
  | 4, _ => rfl
  | 5, _ => rfl
  | 6, _ => rfl
  | 7, _ => rfl
  | 8, _ => rfl
  | 9, _ => rfl
  | 10, _ => rfl
  | 11, _ => rfl
  | 12, _ => rfl
  | 13, _ => rfl
  | 14, _ => rfl
  | 15, _ => rfl
  | 16, _ => rfl
  | 17, _ => rfl
  | 18, _ => rfl
  | 19, _ => rfl
  | 20, _ => rfl
  | 21, _ => rfl
  | 22, _ => rfl
  | 23, _ => rfl
  | 24, _ => rfl
  | 25, _ => rfl
  | 26, _ => rfl
  | 27, _ => rfl
  | 28, _ => rfl
  | 29, _ => rfl
  | 30, _ => rfl
  | 31, _ => rfl
  | 32, _ => rfl
  | 33, _ => rfl
  | 34, _ => rfl
  | 35, _ => rfl
  | 36, _ => rfl
  | 37, _ => rfl
  | 38, _ => rfl
  | 39, _ => rfl
  | 40, _ => rfl
  | 41, _ => rfl
  | 42, _ => rfl
  | 43, _ => rfl
  | 44, _ => rfl
  | 45, _ => rfl
  | 46, _ => rfl
  | 47, _ => rfl
  | 48, _ => rfl
  | 49, _ => rfl
  | q + 50, h => exact absurd h (by omega)
theorem ex_hget_eq {hp : ex_H} {q : Nat} {c : ex_C} (h : ex_at hp q = some c) (k : ex_C → Bool) : ex_hget hp q k = k c := by
  unfold ex_at at h
  unfold ex_hget
  cases hch : hp.2[q / 16]? with
  | none => rw [hch] at h; cases h
  | some ch =>
    rw [hch] at h
    rw [ex_get_eq _ _ _ _ hch, ex_get_eq _ _ _ _ h]
theorem et_row {L it p : Int} {qr : Nat} (h1 : 50 ≤ qr) (h2 : qr ≤ 99) : (∀ k : ex_C → Bool, ex_hget (et_c L it p) qr k = k (0, 0, 5, (ei_c3[2]!).2.2.2.1, [])) ∧ ex_at (et_c L it p) qr = some (0, 0, 5, (ei_c3[2]!).2.2.2.1, []) := by
  have e : ex_at (et_c L it p) qr = some (0, 0, 5, (ei_c3[2]!).2.2.2.1, []) := by
    rw [et_cne L it p (by omega)]
    have := et_row0 (qr - 50) (by omega)
    rw [show 50 + (qr - 50) = qr by omega] at this
    exact this
  exact ⟨ex_hget_eq e, e⟩
theorem evw_row : ∀ i, i < 5 → ey_wr (ei_c3[2]!).2.2.2.1 i (-2147483648) (2147483647) := by
  have h : ∀ i, i < 5 → ex_pg (ei_c3[2]!).2.2.2.1 i % 4294967296 = 0 ∧ ex_pg (ei_c3[2]!).2.2.2.1 i / 4294967296 = 4294967295 := by decide +kernel
  intro i hi
  obtain ⟨h1, h2⟩ := h i hi
  exact ⟨by rw [h1]; rfl, by rw [h2]; rfl⟩
section EA
variable {l : Launch} {D : va_G} {τ : Nat → ClassId} {sa : List Nat} {A : Nat → Prop} {own mname : String} {bytes : ByteArray} {nL d : Nat} {ret : Option FieldType} {K : Option ex_V → ex_H → Bool} {pc pc' a b : Nat} {z : Int} {ls : List (Option ex_V)} {r : List ex_V} {hp : ex_H} {x : Int}
/-- a row of rows -/
theorem ej_aaloadR (hmn : em_mna) {q ty n P lo hi : Nat} {xs : List ex_V} (hx : ek_J em_inf et_cls et_vt own mname bytes (pc, eh_aaload, a, b, z)) (hpc : pc + 1 = pc') (hq : ∀ k : ex_C → Bool, ex_hget hp q k = k (2, ty, n, P, xs)) (h0 : 0 ≤ x) (hxs : ∀ i : Nat, (i : Int) = x → ∃ qr : Nat, xs[i]? = some (.inr (.inr (.inl (some qr)))) ∧ lo ≤ qr ∧ qr ≤ hi) (h : ∀ qr : Nat, lo ≤ qr → qr ≤ hi → em_G l D τ sa A own mname bytes nL d (0, 0) ret K (pc', ls, .inr (.inr (.inl (some qr))) :: r, hp, 0, 0)) : em_G l D τ sa A own mname bytes nL d (0, 0) ret K (pc, ls, .inl x :: .inr (.inr (.inl (some q))) :: r, hp, 0, 0) := by
  subst hpc
  obtain ⟨i, rfl⟩ : ∃ i : Nat, x = i := ⟨x.toNat, by omega⟩
  obtain ⟨qr, e1, e2, e3⟩ := hxs i rfl
  refine eg_step hmn _ hx ?_
  show ex_hget hp q (fun o => match o with | (t, _, _, _, xs) => if Nat.beq t 2 then ex_get xs i (fun w => ex_n (pc + 1) (fun pc => eg_go l D τ sa A own mname bytes nL d ret K pc ls (w :: r) hp 0 0)) else false) = true
  rw [hq]
  show ex_get xs i (fun w => ex_n (pc + 1) (fun pc => eg_go l D τ sa A own mname bytes nL d ret K pc ls (w :: r) hp 0 0)) = true
  rw [ex_get_eq _ _ _ _ e1, ex_n_eq]
  exact eg_go_of (h qr e2 e3)
theorem ex_stat_at (hp : ex_H) {q : Nat} (hq : 4 ≤ q) : ex_at (ex_stat hp) q = ex_at hp q := by
  unfold ex_stat
  split
  · rename_i n a0 a1 a2 a3 r t
    unfold ex_at
    by_cases hl : q < 16
    · have hk : q / 16 = 0 := Nat.div_eq_of_lt hl
      have hm : q % 16 = (q - 4) + 4 := by rw [Nat.mod_eq_of_lt hl]; omega
      rw [hk, hm]
      rfl
    · obtain ⟨k, hk⟩ : ∃ k, q / 16 = k + 1 := ⟨q / 16 - 1, by omega⟩
      rw [hk]
      rfl
  · rfl
theorem er_W.unstat {ν : Nat → Int32} {ro : List ex_C} {ws : va_W} {H : Heap} (h9 : ∀ (q : Nat) (c : ex_C), q < 5 → ex_at hp q = some c → c.1 = 9) (hn : (ex_stat hp).1 = hp.1) (h : er_W ν D τ sa ro A (ex_stat hp) ws H) : er_W ν D τ sa ro A hp ws H := by
  obtain ⟨h1, h2, h3, h4, h5⟩ := h
  exact ⟨h1, h2, by rw [← hn]; exact h3, fun q c hq hc => Or.inl (h9 q c hq hc), fun q c hq hc => h5 q c hq (by rw [ex_stat_at hp (by omega)]; exact hc)⟩
end EA
theorem et_five (L it p : Int) : ∀ (q : Nat) (c : ex_C), q < 5 → ex_at (et_c L it p) q = some c → c.1 = 9 := by
  intro q c hq hc
  rw [et_cne L it p (by omega)] at hc
  match q, hq, hc with
  | 0, _, hc => cases hc; rfl
  | 1, _, hc => cases hc; rfl
  | 2, _, hc => cases hc; rfl
  | 3, _, hc => cases hc; rfl
  | 4, _, hc => cases hc; rfl
  | q + 5, hq, _ => omega
theorem evw_of : ∀ i, i < 10 → 1 ≤ (ex_pg (ec_stat[3]!).2.2.2.1 i % 4294967296) - 2147483648 ∧ ex_pg (ec_stat[3]!).2.2.2.1 i % 4294967296 = ex_pg (ec_stat[3]!).2.2.2.1 i / 4294967296 ∧ 2147483648 ≤ ex_pg (ec_stat[3]!).2.2.2.1 i % 4294967296 ∧ (ex_pg (ec_stat[3]!).2.2.2.1 i % 4294967296) - 2147483648 ≤ 5 := by decide +kernel
/-- how many numbers a word has -/
theorem ej_numof {l : Launch} {D : va_G} {τ : Nat → ClassId} {sa : List Nat} {A : Nat → Prop} {own mname : String} {bytes : ByteArray} {nL d : Nat} {ret : Option FieldType} {K : Option ex_V → ex_H → Bool} {pc pc' a b : Nat} {z : Int} {ls : List (Option ex_V)} {r : List ex_V} {x L it p : Int} (hmn : em_mna) (hx : ek_J em_inf et_cls et_vt own mname bytes (pc, eh_iaload, a, b, z)) (hpc : pc + 1 = pc') (h0 : 0 ≤ x) (h1 : x < 10) (h : ∀ w : Int, 1 ≤ w → w ≤ 5 → em_G l D τ sa A own mname bytes nL d (0, 0) ret K (pc', ls, .inl w :: r, et_c L it p, 0, 0)) : em_G l D τ sa A own mname bytes nL d (0, 0) ret K (pc, ls, .inl x :: .inr (.inr (.inl (some 3))) :: r, et_c L it p, 0, 0) := by
  refine eg_stat ?_
  obtain ⟨i, rfl⟩ : ∃ i : Nat, x = i := ⟨x.toNat, by omega⟩
  obtain ⟨e1, e2, e3, e4⟩ := evw_of i (by omega)
  refine ej_ialoadW hmn (q := 3) (ty := 0) (n := 10) (P := (ec_stat[3]!).2.2.2.1) (xs := []) (lo := ((ex_pg (ec_stat[3]!).2.2.2.1 i % 4294967296 : Nat) : Int) - 2147483648) (hi := ((ex_pg (ec_stat[3]!).2.2.2.1 i % 4294967296 : Nat) : Int) - 2147483648) hx hpc (fun _ => rfl) h0 (by omega) ⟨by show ((ex_pg (ec_stat[3]!).2.2.2.1 i % 4294967296 : Nat) : Int) = _; omega, by show ((ex_pg (ec_stat[3]!).2.2.2.1 i / 4294967296 : Nat) : Int) = _; rw [← e2]; omega⟩ (Int.le_refl _) (fun w w1 w2 => ?_)
  exact ej_weak (fun ν ro ws H => er_W.unstat (et_five L it p) rfl) (h w (by omega) (by omega))
theorem eq_within {l : Launch} {D : va_G} {τ : Nat → ClassId} {sa : List Nat} {A : Nat → Prop} (hmn : em_mna) {hp : ex_H} {v lo hi : Int} : em_X l D τ sa A 119 [.inl v, .inl lo, .inl hi] hp (fun v' hp' => ∃ r : Int, v' = some (.inl r) ∧ hp' = hp ∧ (r = 0 ∨ r = 1) ∧ (r = 1 ↔ lo ≤ v ∧ v ≤ hi)) 0 := by
  refine em_X.of (tb := eu_119) (nl := 3) (ret := some .boolean) rfl (q := [some (.inl (v)), some (.inl (lo)), some (.inl (hi))]) (fun _ => rfl) (fun own mname bytes hT => ?_)
  refine ej_plain hmn (eg_at hT 0 0 rfl rfl) (pc' := 1) (ls' := [some (.inl (v)), some (.inl (lo)), some (.inl (hi))]) (st' := [.inl (v)]) (fun _ _ => rfl) ?_
  refine ej_plain hmn (eg_at hT 0 1 rfl rfl) (pc' := 2) (ls' := [some (.inl (v)), some (.inl (lo)), some (.inl (hi))]) (st' := [.inl (lo), .inl (v)]) (fun _ _ => rfl) ?_
  refine ej_if_icmp hmn (eg_at hT 0 2 rfl rfl) (pc' := 5) rfl (fun _ => rfl) (fun (gc1 : v < lo) => ?_) (fun (gc1 : ¬ (v < lo)) => ?_)
  · refine ej_plain hmn (eg_at hT 0 8 rfl rfl) (pc' := 15) (ls' := [some (.inl (v)), some (.inl (lo)), some (.inl (hi))]) (st' := [.inl (0)]) (fun _ _ => rfl) ?_
    exact ej_zreturn hmn (eg_at hT 0 9 rfl rfl) (by omega) (by omega) (@decide_eq_true _ (Classical.propDecidable _) ⟨0, rfl, rfl, by omega, by omega⟩)
  · refine ej_plain hmn (eg_at hT 0 3 rfl rfl) (pc' := 6) (ls' := [some (.inl (v)), some (.inl (lo)), some (.inl (hi))]) (st' := [.inl (v)]) (fun _ _ => rfl) ?_
    refine ej_plain hmn (eg_at hT 0 4 rfl rfl) (pc' := 7) (ls' := [some (.inl (v)), some (.inl (lo)), some (.inl (hi))]) (st' := [.inl (hi), .inl (v)]) (fun _ _ => rfl) ?_
    refine ej_if_icmp hmn (eg_at hT 0 5 rfl rfl) (pc' := 10) rfl (fun _ => rfl) (fun (gc2 : hi < v) => ?_) (fun (gc2 : ¬ (hi < v)) => ?_)
    · refine ej_plain hmn (eg_at hT 0 8 rfl rfl) (pc' := 15) (ls' := [some (.inl (v)), some (.inl (lo)), some (.inl (hi))]) (st' := [.inl (0)]) (fun _ _ => rfl) ?_
      exact ej_zreturn hmn (eg_at hT 0 9 rfl rfl) (by omega) (by omega) (@decide_eq_true _ (Classical.propDecidable _) ⟨0, rfl, rfl, by omega, by omega⟩)
    · refine ej_plain hmn (eg_at hT 0 6 rfl rfl) (pc' := 11) (ls' := [some (.inl (v)), some (.inl (lo)), some (.inl (hi))]) (st' := [.inl (1)]) (fun _ _ => rfl) ?_
      refine ej_plain hmn (eg_at hT 0 7 rfl rfl) (pc' := 15) (ls' := [some (.inl (v)), some (.inl (lo)), some (.inl (hi))]) (st' := [.inl (1)]) (fun _ _ => rfl) ?_
      exact ej_zreturn hmn (eg_at hT 0 9 rfl rfl) (by omega) (by omega) (@decide_eq_true _ (Classical.propDecidable _) ⟨1, rfl, rfl, by omega, by omega⟩)
theorem eq_sk_l {l : Launch} {D : va_G} {τ : Nat → ClassId} {sa : List Nat} {A : Nat → Prop} (hmn : em_mna) {own mname : String} {bytes : ByteArray} (hT : ∀ ch ∈ eu_78, ∀ x ∈ ch, ek_J em_inf et_cls et_vt own mname bytes x) {d : Nat}  {K : Option ex_V → ex_H → Bool} {L it p0 : Int} (l0 : 0 ≤ L ∧ L ≤ 300) (hK : ∀ p : Int, (p0 ≤ p ∧ p ≤ 300) → K none (et_c L it p) = true) (z0 : 0 ≤ p0) : ∀ (i : Nat) (p : Int), 300 - p < i → (p0 ≤ p ∧ p ≤ 300) → em_G l D τ sa A own mname bytes 1 d (0, 0) none K (0, [some (.inr (.inr (.inl (some 46))))], [], (et_c (L) (it) (p)), 0, 0) := by
  intro i
  induction i with
  | zero => intro p hi hp; exfalso; omega
  | succ i ih =>
    intro p hi hp
    refine ej_plain hmn (eg_at hT 0 0 rfl rfl) (pc' := 1) (ls' := [some (.inr (.inr (.inl (some 46))))]) (st' := [.inr (.inr (.inl (some 46)))]) (fun _ _ => rfl) ?_
    refine ej_plain hmn (eg_at hT 0 1 rfl rfl) (pc' := 4) (ls' := [some (.inr (.inr (.inl (some 46))))]) (st' := [.inl (p)]) (fun _ _ => rfl) ?_
    refine ej_plain hmn (eg_at hT 0 2 rfl rfl) (pc' := 5) (ls' := [some (.inr (.inr (.inl (some 46))))]) (st' := [.inr (.inr (.inl (some 46))), .inl (p)]) (fun _ _ => rfl) ?_
    refine ej_plain hmn (eg_at hT 0 3 rfl rfl) (pc' := 8) (ls' := [some (.inr (.inr (.inl (some 46))))]) (st' := [.inl (L), .inl (p)]) (fun _ _ => rfl) ?_
    refine ej_if_icmp hmn (eg_at hT 0 4 rfl rfl) (pc' := 11) rfl (fun _ => rfl) (fun (gc1 : L ≤ p) => ?_) (fun (gc1 : ¬ (L ≤ p)) => ?_)
    · exact ej_return hmn (eg_at hT 1 2 rfl rfl) (hK _ (by omega))
    · refine ej_plain hmn (eg_at hT 0 5 rfl rfl) (pc' := 12) (ls' := [some (.inr (.inr (.inl (some 46))))]) (st' := [.inr (.inr (.inl (some 46)))]) (fun _ _ => rfl) ?_
      refine ej_plain hmn (eg_at hT 0 6 rfl rfl) (pc' := 15) (ls' := [some (.inr (.inr (.inl (some 46))))]) (st' := [.inr (.inr (.inl (some 47)))]) (fun _ _ => rfl) ?_
      refine ej_plain hmn (eg_at hT 0 7 rfl rfl) (pc' := 16) (ls' := [some (.inr (.inr (.inl (some 46))))]) (st' := [.inr (.inr (.inl (some 46))), .inr (.inr (.inl (some 47)))]) (fun _ _ => rfl) ?_
      refine ej_plain hmn (eg_at hT 0 8 rfl rfl) (pc' := 19) (ls' := [some (.inr (.inr (.inl (some 46))))]) (st' := [.inl (p), .inr (.inr (.inl (some 47)))]) (fun _ _ => rfl) ?_
      refine ej_ialoadW hmn (eg_at hT 0 9 rfl rfl) (pc' := 20) (n := 300) (lo := (-2147483648)) (hi := (2147483647)) rfl (fun _ => rfl) (by omega) (by omega) (evw_47 _ (by omega)) (by decide) (fun gv2 gv2a gv2b => ?_)
      refine ej_plain hmn (eg_at hT 0 10 rfl rfl) (pc' := 22) (ls' := [some (.inr (.inr (.inl (some 46))))]) (st' := [.inl (32), .inl (gv2)]) (fun _ _ => rfl) ?_
      refine ej_if_icmp hmn (eg_at hT 0 11 rfl rfl) (pc' := 25) rfl (fun _ => rfl) (fun (gc3 : gv2 ≠ 32) => ?_) (fun (gc3 : ¬ (gv2 ≠ 32)) => ?_)
      · exact ej_return hmn (eg_at hT 1 2 rfl rfl) (hK _ (by omega))
      · refine ej_plain hmn (eg_at hT 0 12 rfl rfl) (pc' := 26) (ls' := [some (.inr (.inr (.inl (some 46))))]) (st' := [.inr (.inr (.inl (some 46)))]) (fun _ _ => rfl) ?_
        refine ej_plain hmn (eg_at hT 0 13 rfl rfl) (pc' := 27) (ls' := [some (.inr (.inr (.inl (some 46))))]) (st' := [.inr (.inr (.inl (some 46))), .inr (.inr (.inl (some 46)))]) (fun _ _ => rfl) ?_
        refine ej_plain hmn (eg_at hT 0 14 rfl rfl) (pc' := 30) (ls' := [some (.inr (.inr (.inl (some 46))))]) (st' := [.inl (p), .inr (.inr (.inl (some 46)))]) (fun _ _ => rfl) ?_
        refine ej_plain hmn (eg_at hT 0 15 rfl rfl) (pc' := 31) (ls' := [some (.inr (.inr (.inl (some 46))))]) (st' := [.inl (1), .inl (p), .inr (.inr (.inl (some 46)))]) (fun _ _ => rfl) ?_
        refine ej_iadd hmn (eg_at hT 0 16 rfl rfl) (pc' := 32) rfl (by omega) (by omega) ?_
        refine ej_plain hmn (eg_at hT 1 0 rfl rfl) (pc' := 35) (ls' := [some (.inr (.inr (.inl (some 46))))]) (st' := []) (hp' := (et_c (L) (it) (p + 1))) (fun _ _ => rfl) ?_
        refine ej_plain hmn (eg_at hT 1 1 rfl rfl) (pc' := 0) (ls' := [some (.inr (.inr (.inl (some 46))))]) (st' := []) (fun _ _ => rfl) ?_
        exact ih _ (by omega) (by omega)
theorem eq_skipBlanks {l : Launch} {D : va_G} {τ : Nat → ClassId} {sa : List Nat} {A : Nat → Prop} (hmn : em_mna) {L it p : Int} (l0 : 0 ≤ L ∧ L ≤ 300) (hp : 0 ≤ p ∧ p ≤ 300) : em_X l D τ sa A 78 [(.inr (.inr (.inl (some 46))))] (et_c L it p) (fun w hp' => ∃ p' : Int, w = none ∧ hp' = et_c L it p' ∧ (p ≤ p' ∧ p' ≤ 300)) 0 := by
  refine em_X.of (tb := eu_78) (nl := 1) (ret := none) rfl (q := [some (.inr (.inr (.inl (some 46))))]) (fun _ => rfl) (fun own mname bytes hT => ?_)
  exact eq_sk_l hmn hT l0 (fun p' h => @decide_eq_true _ (Classical.propDecidable _) ⟨p', rfl, rfl, h⟩) (by omega) 301 p (by omega) (by omega)
theorem eq_byteAt {l : Launch} {D : va_G} {τ : Nat → ClassId} {sa : List Nat} {A : Nat → Prop} (hmn : em_mna) {L it p j : Int} (l0 : 0 ≤ L ∧ L ≤ 300) : em_X l D τ sa A 80 [(.inr (.inr (.inl (some 46)))), .inl j] (et_c L it p) (fun w hp' => ∃ r : Int, w = some (.inl r) ∧ hp' = et_c L it p ∧ (-2147483648 ≤ r ∧ r ≤ 2147483647) ∧ (r ≠ -1 → 0 ≤ j ∧ j < L)) 1 := by
  refine em_X.of (tb := eu_80) (nl := 2) (ret := some .int) rfl (q := [some (.inr (.inr (.inl (some 46)))), some (.inl (j))]) (fun _ => rfl) (fun own mname bytes hT => ?_)
  refine ej_plain hmn (eg_at hT 0 0 rfl rfl) (pc' := 1) (ls' := [some (.inr (.inr (.inl (some 46)))), some (.inl (j))]) (st' := [.inl (j)]) (fun _ _ => rfl) ?_
  refine ej_plain hmn (eg_at hT 0 1 rfl rfl) (pc' := 2) (ls' := [some (.inr (.inr (.inl (some 46)))), some (.inl (j))]) (st' := [.inl (0), .inl (j)]) (fun _ _ => rfl) ?_
  refine ej_plain hmn (eg_at hT 0 2 rfl rfl) (pc' := 3) (ls' := [some (.inr (.inr (.inl (some 46)))), some (.inl (j))]) (st' := [.inr (.inr (.inl (some 46))), .inl (0), .inl (j)]) (fun _ _ => rfl) ?_
  refine ej_plain hmn (eg_at hT 0 3 rfl rfl) (pc' := 6) (ls' := [some (.inr (.inr (.inl (some 46)))), some (.inl (j))]) (st' := [.inl (L), .inl (0), .inl (j)]) (fun _ _ => rfl) ?_
  refine ej_plain hmn (eg_at hT 0 4 rfl rfl) (pc' := 7) (ls' := [some (.inr (.inr (.inl (some 46)))), some (.inl (j))]) (st' := [.inl (1), .inl (L), .inl (0), .inl (j)]) (fun _ _ => rfl) ?_
  refine ej_isub hmn (eg_at hT 0 5 rfl rfl) (pc' := 8) rfl (by omega) (by omega) ?_
  refine ej_call hmn (eg_at hT 0 6 rfl rfl) (pc' := 11) (r := []) (eq_within hmn (v := j) (lo := 0) (hi := L - 1)) (by omega) (fun _ _ => rfl) (fun v hp' hP => ?_)
  obtain ⟨r1, rfl, rfl, r1a, r1b⟩ := hP
  show em_G l D τ sa A own mname bytes 2 1 (0, 0) (some .int) _ (11, [some (.inr (.inr (.inl (some 46)))), some (.inl (j))], [.inl (r1)], (et_c (L) (it) (p)), 0, 0)
  refine ej_ifCond hmn (eg_at hT 0 7 rfl rfl) (pc' := 14) rfl (fun _ => rfl) (fun (gc1 : r1 = 0) => ?_) (fun (gc1 : ¬ (r1 = 0)) => ?_)
  · refine ej_plain hmn (eg_at hT 0 13 rfl rfl) (pc' := 24) (ls' := [some (.inr (.inr (.inl (some 46)))), some (.inl (j))]) (st' := [.inl (-1)]) (fun _ _ => rfl) ?_
    exact ej_ireturn hmn (eg_at hT 0 14 rfl rfl) (@decide_eq_true _ (Classical.propDecidable _) ⟨-1, rfl, rfl, by omega, by omega⟩)
  · refine ej_plain hmn (eg_at hT 0 8 rfl rfl) (pc' := 15) (ls' := [some (.inr (.inr (.inl (some 46)))), some (.inl (j))]) (st' := [.inr (.inr (.inl (some 46)))]) (fun _ _ => rfl) ?_
    refine ej_plain hmn (eg_at hT 0 9 rfl rfl) (pc' := 18) (ls' := [some (.inr (.inr (.inl (some 46)))), some (.inl (j))]) (st' := [.inr (.inr (.inl (some 47)))]) (fun _ _ => rfl) ?_
    refine ej_plain hmn (eg_at hT 0 10 rfl rfl) (pc' := 19) (ls' := [some (.inr (.inr (.inl (some 46)))), some (.inl (j))]) (st' := [.inl (j), .inr (.inr (.inl (some 47)))]) (fun _ _ => rfl) ?_
    refine ej_ialoadW hmn (eg_at hT 0 11 rfl rfl) (pc' := 20) (n := 300) (lo := (-2147483648)) (hi := (2147483647)) rfl (fun _ => rfl) (by omega) (by omega) (evw_47 _ (by omega)) (by decide) (fun gv2 gv2a gv2b => ?_)
    refine ej_plain hmn (eg_at hT 0 12 rfl rfl) (pc' := 24) (ls' := [some (.inr (.inr (.inl (some 46)))), some (.inl (j))]) (st' := [.inl (gv2)]) (fun _ _ => rfl) ?_
    exact ej_ireturn hmn (eg_at hT 0 14 rfl rfl) (@decide_eq_true _ (Classical.propDecidable _) ⟨gv2, rfl, rfl, by omega, by omega⟩)
theorem eq_isFigure {l : Launch} {D : va_G} {τ : Nat → ClassId} {sa : List Nat} {A : Nat → Prop} (hmn : em_mna) {L it p j : Int} (l0 : 0 ≤ L ∧ L ≤ 300) : em_X l D τ sa A 79 [(.inr (.inr (.inl (some 46)))), .inl j] (et_c L it p) (fun w hp' => ∃ r : Int, w = some (.inl r) ∧ hp' = et_c L it p ∧ (r = 0 ∨ r = 1) ∧ (r = 1 → 0 ≤ j ∧ j < L)) 2 := by
  refine em_X.of (tb := eu_79) (nl := 2) (ret := some .boolean) rfl (q := [some (.inr (.inr (.inl (some 46)))), some (.inl (j))]) (fun _ => rfl) (fun own mname bytes hT => ?_)
  refine ej_plain hmn (eg_at hT 0 0 rfl rfl) (pc' := 1) (ls' := [some (.inr (.inr (.inl (some 46)))), some (.inl (j))]) (st' := [.inr (.inr (.inl (some 46)))]) (fun _ _ => rfl) ?_
  refine ej_plain hmn (eg_at hT 0 1 rfl rfl) (pc' := 2) (ls' := [some (.inr (.inr (.inl (some 46)))), some (.inl (j))]) (st' := [.inl (j), .inr (.inr (.inl (some 46)))]) (fun _ _ => rfl) ?_
  refine ej_call hmn (eg_at hT 0 2 rfl rfl) (pc' := 5) (r := []) (eq_byteAt hmn (j := j) l0) (by omega) (fun _ _ => rfl) (fun v hp' hP => ?_)
  obtain ⟨r1, rfl, rfl, r1a, r1b⟩ := hP
  show em_G l D τ sa A own mname bytes 2 2 (0, 0) (some .boolean) _ (5, [some (.inr (.inr (.inl (some 46)))), some (.inl (j))], [.inl (r1)], (et_c (L) (it) (p)), 0, 0)
  refine ej_plain hmn (eg_at hT 0 3 rfl rfl) (pc' := 7) (ls' := [some (.inr (.inr (.inl (some 46)))), some (.inl (j))]) (st' := [.inl (48), .inl (r1)]) (fun _ _ => rfl) ?_
  refine ej_plain hmn (eg_at hT 0 4 rfl rfl) (pc' := 9) (ls' := [some (.inr (.inr (.inl (some 46)))), some (.inl (j))]) (st' := [.inl (57), .inl (48), .inl (r1)]) (fun _ _ => rfl) ?_
  refine ej_call hmn (eg_at hT 0 5 rfl rfl) (pc' := 12) (r := []) (eq_within hmn (v := r1) (lo := 48) (hi := 57)) (by omega) (fun _ _ => rfl) (fun v hp' hP => ?_)
  obtain ⟨r2, rfl, rfl, r2a, r2b⟩ := hP
  show em_G l D τ sa A own mname bytes 2 2 (0, 0) (some .boolean) _ (12, [some (.inr (.inr (.inl (some 46)))), some (.inl (j))], [.inl (r2)], (et_c (L) (it) (p)), 0, 0)
  exact ej_zreturn hmn (eg_at hT 0 6 rfl rfl) (by omega) (by omega) (@decide_eq_true _ (Classical.propDecidable _) ⟨r2, rfl, rfl, by omega, by omega⟩)
theorem eq_rn_l {l : Launch} {D : va_G} {τ : Nat → ClassId} {sa : List Nat} {A : Nat → Prop} (hmn : em_mna) {own mname : String} {bytes : ByteArray} (hT : ∀ ch ∈ eu_77, ∀ x ∈ ch, ek_J em_inf et_cls et_vt own mname bytes x) {d : Nat} (hd : 3 ≤ d) {K : Option ex_V → ex_H → Bool} {L it p im j : Int} (l0 : 0 ≤ L ∧ L ≤ 300) (hp : 0 ≤ p ∧ p ≤ 300) (hi_ : 0 ≤ im ∧ im < 50) (hj : 0 ≤ j ∧ j < 5) (hK : ∀ r p' : Int, (r = 0 ∨ r = 1) → (p ≤ p' ∧ p' ≤ 300) → K (some (.inl r)) (et_c L it p') = true) {mi fi : Int} (hm : mi = 0 ∨ mi = 1) (hf : p ≤ fi ∧ fi ≤ p + 1) : ∀ (i : Nat) (en v : Int), 4 + fi - en < i → (fi ≤ en ∧ en ≤ fi + 4 ∧ (fi < en → en ≤ L)) → (-2147483648 ≤ v ∧ v ≤ 2147483647) → em_G l D τ sa A own mname bytes 7 d (0, 0) (some .boolean) K (60, [some (.inr (.inr (.inl (some 46)))), some (.inl (im)), some (.inl (j)), some (.inl (mi)), some (.inl (fi)), some (.inl (en)), some (.inl (v))], [], (et_c (L) (it) (p)), 0, 0) := by
  intro i
  induction i with
  | zero => intro en v hi he; exfalso; omega
  | succ i ih =>
    intro en v hi he hv
    refine ej_plain hmn (eg_at hT 1 16 rfl rfl) (pc' := 62) (ls' := [some (.inr (.inr (.inl (some 46)))), some (.inl (im)), some (.inl (j)), some (.inl (mi)), some (.inl (fi)), some (.inl (en)), some (.inl (v))]) (st' := [.inl (en)]) (fun _ _ => rfl) ?_
    refine ej_plain hmn (eg_at hT 1 17 rfl rfl) (pc' := 64) (ls' := [some (.inr (.inr (.inl (some 46)))), some (.inl (im)), some (.inl (j)), some (.inl (mi)), some (.inl (fi)), some (.inl (en)), some (.inl (v))]) (st' := [.inl (fi), .inl (en)]) (fun _ _ => rfl) ?_
    refine ej_isub hmn (eg_at hT 2 0 rfl rfl) (pc' := 65) rfl (by omega) (by omega) ?_
    refine ej_plain hmn (eg_at hT 2 1 rfl rfl) (pc' := 66) (ls' := [some (.inr (.inr (.inl (some 46)))), some (.inl (im)), some (.inl (j)), some (.inl (mi)), some (.inl (fi)), some (.inl (en)), some (.inl (v))]) (st' := [.inl (3), .inl (en - fi)]) (fun _ _ => rfl) ?_
    refine ej_if_icmp hmn (eg_at hT 2 2 rfl rfl) (pc' := 69) rfl (fun _ => rfl) (fun (gc1 : 3 < en - fi) => ?_) (fun (gc1 : ¬ (3 < en - fi)) => ?_)
    · refine ej_plain hmn (eg_at hT 3 1 rfl rfl) (pc' := 103) (ls' := [some (.inr (.inr (.inl (some 46)))), some (.inl (im)), some (.inl (j)), some (.inl (mi)), some (.inl (fi)), some (.inl (en)), some (.inl (v))]) (st' := [.inl (en)]) (fun _ _ => rfl) ?_
      refine ej_plain hmn (eg_at hT 3 2 rfl rfl) (pc' := 105) (ls' := [some (.inr (.inr (.inl (some 46)))), some (.inl (im)), some (.inl (j)), some (.inl (mi)), some (.inl (fi)), some (.inl (en)), some (.inl (v))]) (st' := [.inl (fi), .inl (en)]) (fun _ _ => rfl) ?_
      refine ej_isub hmn (eg_at hT 3 3 rfl rfl) (pc' := 106) rfl (by omega) (by omega) ?_
      refine ej_plain hmn (eg_at hT 3 4 rfl rfl) (pc' := 107) (ls' := [some (.inr (.inr (.inl (some 46)))), some (.inl (im)), some (.inl (j)), some (.inl (mi)), some (.inl (fi)), some (.inl (en)), some (.inl (v))]) (st' := [.inl (1), .inl (en - fi)]) (fun _ _ => rfl) ?_
      refine ej_plain hmn (eg_at hT 3 5 rfl rfl) (pc' := 108) (ls' := [some (.inr (.inr (.inl (some 46)))), some (.inl (im)), some (.inl (j)), some (.inl (mi)), some (.inl (fi)), some (.inl (en)), some (.inl (v))]) (st' := [.inl (3), .inl (1), .inl (en - fi)]) (fun _ _ => rfl) ?_
      refine ej_call hmn (eg_at hT 3 6 rfl rfl) (pc' := 111) (r := []) (eq_within hmn (v := en - fi) (lo := 1) (hi := 3)) (by omega) (fun _ _ => rfl) (fun v hp' hP => ?_)
      obtain ⟨gr2, rfl, rfl, gr2a, gr2b⟩ := hP
      show em_G l D τ sa A own mname bytes 7 d (0, 0) (some .boolean) K (111, [some (.inr (.inr (.inl (some 46)))), some (.inl (im)), some (.inl (j)), some (.inl (mi)), some (.inl (fi)), some (.inl (en)), some (.inl (v))], [.inl (gr2)], (et_c (L) (it) (p)), 0, 0)
      refine ej_ifCond hmn (eg_at hT 3 7 rfl rfl) (pc' := 114) rfl (fun _ => rfl) (fun (gc3 : gr2 ≠ 0) => ?_) (fun (gc3 : ¬ (gr2 ≠ 0)) => ?_)
      · refine ej_plain hmn (eg_at hT 3 10 rfl rfl) (pc' := 117) (ls' := [some (.inr (.inr (.inl (some 46)))), some (.inl (im)), some (.inl (j)), some (.inl (mi)), some (.inl (fi)), some (.inl (en)), some (.inl (v))]) (st' := [.inr (.inr (.inl (some 46)))]) (fun _ _ => rfl) ?_
        refine ej_plain hmn (eg_at hT 3 11 rfl rfl) (pc' := 120) (ls' := [some (.inr (.inr (.inl (some 46)))), some (.inl (im)), some (.inl (j)), some (.inl (mi)), some (.inl (fi)), some (.inl (en)), some (.inl (v))]) (st' := [.inr (.inr (.inl (some 49)))]) (fun _ _ => rfl) ?_
        refine ej_plain hmn (eg_at hT 3 12 rfl rfl) (pc' := 121) (ls' := [some (.inr (.inr (.inl (some 46)))), some (.inl (im)), some (.inl (j)), some (.inl (mi)), some (.inl (fi)), some (.inl (en)), some (.inl (v))]) (st' := [.inl (im), .inr (.inr (.inl (some 49)))]) (fun _ _ => rfl) ?_
        refine ej_aaloadR hmn (eg_at hT 3 13 rfl rfl) (pc' := 122) (lo := 50) (hi := 99) rfl (fun _ => rfl) (by omega) (fun i hi => ⟨50 + i, et_rows i (by omega), by omega, by omega⟩) (fun qr qr1 qr2 => ?_)
        refine ej_plain hmn (eg_at hT 3 14 rfl rfl) (pc' := 123) (ls' := [some (.inr (.inr (.inl (some 46)))), some (.inl (im)), some (.inl (j)), some (.inl (mi)), some (.inl (fi)), some (.inl (en)), some (.inl (v))]) (st' := [.inl (j), .inr (.inr (.inl (some qr)))]) (fun _ _ => rfl) ?_
        refine ej_plain hmn (eg_at hT 3 15 rfl rfl) (pc' := 124) (ls' := [some (.inr (.inr (.inl (some 46)))), some (.inl (im)), some (.inl (j)), some (.inl (mi)), some (.inl (fi)), some (.inl (en)), some (.inl (v))]) (st' := [.inl (mi), .inl (j), .inr (.inr (.inl (some qr)))]) (fun _ _ => rfl) ?_
        refine ej_ifCond hmn (eg_at hT 3 16 rfl rfl) (pc' := 127) rfl (fun _ => rfl) (fun (gc4 : mi = 0) => ?_) (fun (gc4 : ¬ (mi = 0)) => ?_)
        · refine ej_plain hmn (eg_at hT 4 2 rfl rfl) (pc' := 135) (ls' := [some (.inr (.inr (.inl (some 46)))), some (.inl (im)), some (.inl (j)), some (.inl (mi)), some (.inl (fi)), some (.inl (en)), some (.inl (v))]) (st' := [.inl (v), .inl (j), .inr (.inr (.inl (some qr)))]) (fun _ _ => rfl) ?_
          refine ej_iastoreW hmn (eg_at hT 4 3 rfl rfl) (pc' := 136) (n := 5) (lo := (-2147483648)) (hi := (2147483647)) rfl (Nat.ble_eq.mpr (by omega)) (et_row qr1 qr2).1 (et_row qr1 qr2).2 (by omega) (by omega) (evw_row _ (by omega)) (by omega) (by omega) ?_
          refine ej_plain hmn (eg_at hT 4 4 rfl rfl) (pc' := 137) (ls' := [some (.inr (.inr (.inl (some 46)))), some (.inl (im)), some (.inl (j)), some (.inl (mi)), some (.inl (fi)), some (.inl (en)), some (.inl (v))]) (st' := [.inr (.inr (.inl (some 46)))]) (fun _ _ => rfl) ?_
          refine ej_plain hmn (eg_at hT 4 5 rfl rfl) (pc' := 139) (ls' := [some (.inr (.inr (.inl (some 46)))), some (.inl (im)), some (.inl (j)), some (.inl (mi)), some (.inl (fi)), some (.inl (en)), some (.inl (v))]) (st' := [.inl (en), .inr (.inr (.inl (some 46)))]) (fun _ _ => rfl) ?_
          refine ej_plain hmn (eg_at hT 4 6 rfl rfl) (pc' := 142) (ls' := [some (.inr (.inr (.inl (some 46)))), some (.inl (im)), some (.inl (j)), some (.inl (mi)), some (.inl (fi)), some (.inl (en)), some (.inl (v))]) (st' := []) (hp' := (et_c (L) (it) (en))) (fun _ _ => rfl) ?_
          refine ej_plain hmn (eg_at hT 4 7 rfl rfl) (pc' := 143) (ls' := [some (.inr (.inr (.inl (some 46)))), some (.inl (im)), some (.inl (j)), some (.inl (mi)), some (.inl (fi)), some (.inl (en)), some (.inl (v))]) (st' := [.inl (1)]) (fun _ _ => rfl) ?_
          exact ej_zreturn hmn (eg_at hT 4 8 rfl rfl) (by omega) (by omega) (hK _ _ (by omega) (by omega))
        · refine ej_plain hmn (eg_at hT 3 17 rfl rfl) (pc' := 129) (ls' := [some (.inr (.inr (.inl (some 46)))), some (.inl (im)), some (.inl (j)), some (.inl (mi)), some (.inl (fi)), some (.inl (en)), some (.inl (v))]) (st' := [.inl (v), .inl (j), .inr (.inr (.inl (some qr)))]) (fun _ _ => rfl) ?_
          refine ej_inegw hmn (eg_at hT 4 0 rfl rfl) (pc' := 130) rfl (fun gv5 gv5a gv5b => ?_)
          refine ej_plain hmn (eg_at hT 4 1 rfl rfl) (pc' := 135) (ls' := [some (.inr (.inr (.inl (some 46)))), some (.inl (im)), some (.inl (j)), some (.inl (mi)), some (.inl (fi)), some (.inl (en)), some (.inl (v))]) (st' := [.inl (gv5), .inl (j), .inr (.inr (.inl (some qr)))]) (fun _ _ => rfl) ?_
          refine ej_iastoreW hmn (eg_at hT 4 3 rfl rfl) (pc' := 136) (n := 5) (lo := (-2147483648)) (hi := (2147483647)) rfl (Nat.ble_eq.mpr (by omega)) (et_row qr1 qr2).1 (et_row qr1 qr2).2 (by omega) (by omega) (evw_row _ (by omega)) (by omega) (by omega) ?_
          refine ej_plain hmn (eg_at hT 4 4 rfl rfl) (pc' := 137) (ls' := [some (.inr (.inr (.inl (some 46)))), some (.inl (im)), some (.inl (j)), some (.inl (mi)), some (.inl (fi)), some (.inl (en)), some (.inl (v))]) (st' := [.inr (.inr (.inl (some 46)))]) (fun _ _ => rfl) ?_
          refine ej_plain hmn (eg_at hT 4 5 rfl rfl) (pc' := 139) (ls' := [some (.inr (.inr (.inl (some 46)))), some (.inl (im)), some (.inl (j)), some (.inl (mi)), some (.inl (fi)), some (.inl (en)), some (.inl (v))]) (st' := [.inl (en), .inr (.inr (.inl (some 46)))]) (fun _ _ => rfl) ?_
          refine ej_plain hmn (eg_at hT 4 6 rfl rfl) (pc' := 142) (ls' := [some (.inr (.inr (.inl (some 46)))), some (.inl (im)), some (.inl (j)), some (.inl (mi)), some (.inl (fi)), some (.inl (en)), some (.inl (v))]) (st' := []) (hp' := (et_c (L) (it) (en))) (fun _ _ => rfl) ?_
          refine ej_plain hmn (eg_at hT 4 7 rfl rfl) (pc' := 143) (ls' := [some (.inr (.inr (.inl (some 46)))), some (.inl (im)), some (.inl (j)), some (.inl (mi)), some (.inl (fi)), some (.inl (en)), some (.inl (v))]) (st' := [.inl (1)]) (fun _ _ => rfl) ?_
          exact ej_zreturn hmn (eg_at hT 4 8 rfl rfl) (by omega) (by omega) (hK _ _ (by omega) (by omega))
      · refine ej_plain hmn (eg_at hT 3 8 rfl rfl) (pc' := 115) (ls' := [some (.inr (.inr (.inl (some 46)))), some (.inl (im)), some (.inl (j)), some (.inl (mi)), some (.inl (fi)), some (.inl (en)), some (.inl (v))]) (st' := [.inl (0)]) (fun _ _ => rfl) ?_
        exact ej_zreturn hmn (eg_at hT 3 9 rfl rfl) (by omega) (by omega) (hK _ _ (by omega) (by omega))
    · refine ej_plain hmn (eg_at hT 2 3 rfl rfl) (pc' := 70) (ls' := [some (.inr (.inr (.inl (some 46)))), some (.inl (im)), some (.inl (j)), some (.inl (mi)), some (.inl (fi)), some (.inl (en)), some (.inl (v))]) (st' := [.inr (.inr (.inl (some 46)))]) (fun _ _ => rfl) ?_
      refine ej_plain hmn (eg_at hT 2 4 rfl rfl) (pc' := 72) (ls' := [some (.inr (.inr (.inl (some 46)))), some (.inl (im)), some (.inl (j)), some (.inl (mi)), some (.inl (fi)), some (.inl (en)), some (.inl (v))]) (st' := [.inl (en), .inr (.inr (.inl (some 46)))]) (fun _ _ => rfl) ?_
      refine ej_call hmn (eg_at hT 2 5 rfl rfl) (pc' := 75) (r := []) (eq_isFigure hmn (j := en) l0) (by omega) (fun _ _ => rfl) (fun v hp' hP => ?_)
      obtain ⟨gr6, rfl, rfl, gr6a, gr6b⟩ := hP
      show em_G l D τ sa A own mname bytes 7 d (0, 0) (some .boolean) K (75, [some (.inr (.inr (.inl (some 46)))), some (.inl (im)), some (.inl (j)), some (.inl (mi)), some (.inl (fi)), some (.inl (en)), some (.inl (v))], [.inl (gr6)], (et_c (L) (it) (p)), 0, 0)
      refine ej_ifCond hmn (eg_at hT 2 6 rfl rfl) (pc' := 78) rfl (fun _ => rfl) (fun (gc7 : gr6 = 0) => ?_) (fun (gc7 : ¬ (gr6 = 0)) => ?_)
      · refine ej_plain hmn (eg_at hT 3 1 rfl rfl) (pc' := 103) (ls' := [some (.inr (.inr (.inl (some 46)))), some (.inl (im)), some (.inl (j)), some (.inl (mi)), some (.inl (fi)), some (.inl (en)), some (.inl (v))]) (st' := [.inl (en)]) (fun _ _ => rfl) ?_
        refine ej_plain hmn (eg_at hT 3 2 rfl rfl) (pc' := 105) (ls' := [some (.inr (.inr (.inl (some 46)))), some (.inl (im)), some (.inl (j)), some (.inl (mi)), some (.inl (fi)), some (.inl (en)), some (.inl (v))]) (st' := [.inl (fi), .inl (en)]) (fun _ _ => rfl) ?_
        refine ej_isub hmn (eg_at hT 3 3 rfl rfl) (pc' := 106) rfl (by omega) (by omega) ?_
        refine ej_plain hmn (eg_at hT 3 4 rfl rfl) (pc' := 107) (ls' := [some (.inr (.inr (.inl (some 46)))), some (.inl (im)), some (.inl (j)), some (.inl (mi)), some (.inl (fi)), some (.inl (en)), some (.inl (v))]) (st' := [.inl (1), .inl (en - fi)]) (fun _ _ => rfl) ?_
        refine ej_plain hmn (eg_at hT 3 5 rfl rfl) (pc' := 108) (ls' := [some (.inr (.inr (.inl (some 46)))), some (.inl (im)), some (.inl (j)), some (.inl (mi)), some (.inl (fi)), some (.inl (en)), some (.inl (v))]) (st' := [.inl (3), .inl (1), .inl (en - fi)]) (fun _ _ => rfl) ?_
        refine ej_call hmn (eg_at hT 3 6 rfl rfl) (pc' := 111) (r := []) (eq_within hmn (v := en - fi) (lo := 1) (hi := 3)) (by omega) (fun _ _ => rfl) (fun v hp' hP => ?_)
        obtain ⟨gr8, rfl, rfl, gr8a, gr8b⟩ := hP
        show em_G l D τ sa A own mname bytes 7 d (0, 0) (some .boolean) K (111, [some (.inr (.inr (.inl (some 46)))), some (.inl (im)), some (.inl (j)), some (.inl (mi)), some (.inl (fi)), some (.inl (en)), some (.inl (v))], [.inl (gr8)], (et_c (L) (it) (p)), 0, 0)
        refine ej_ifCond hmn (eg_at hT 3 7 rfl rfl) (pc' := 114) rfl (fun _ => rfl) (fun (gc9 : gr8 ≠ 0) => ?_) (fun (gc9 : ¬ (gr8 ≠ 0)) => ?_)
        · refine ej_plain hmn (eg_at hT 3 10 rfl rfl) (pc' := 117) (ls' := [some (.inr (.inr (.inl (some 46)))), some (.inl (im)), some (.inl (j)), some (.inl (mi)), some (.inl (fi)), some (.inl (en)), some (.inl (v))]) (st' := [.inr (.inr (.inl (some 46)))]) (fun _ _ => rfl) ?_
          refine ej_plain hmn (eg_at hT 3 11 rfl rfl) (pc' := 120) (ls' := [some (.inr (.inr (.inl (some 46)))), some (.inl (im)), some (.inl (j)), some (.inl (mi)), some (.inl (fi)), some (.inl (en)), some (.inl (v))]) (st' := [.inr (.inr (.inl (some 49)))]) (fun _ _ => rfl) ?_
          refine ej_plain hmn (eg_at hT 3 12 rfl rfl) (pc' := 121) (ls' := [some (.inr (.inr (.inl (some 46)))), some (.inl (im)), some (.inl (j)), some (.inl (mi)), some (.inl (fi)), some (.inl (en)), some (.inl (v))]) (st' := [.inl (im), .inr (.inr (.inl (some 49)))]) (fun _ _ => rfl) ?_
          refine ej_aaloadR hmn (eg_at hT 3 13 rfl rfl) (pc' := 122) (lo := 50) (hi := 99) rfl (fun _ => rfl) (by omega) (fun i hi => ⟨50 + i, et_rows i (by omega), by omega, by omega⟩) (fun qr qr1 qr2 => ?_)
          refine ej_plain hmn (eg_at hT 3 14 rfl rfl) (pc' := 123) (ls' := [some (.inr (.inr (.inl (some 46)))), some (.inl (im)), some (.inl (j)), some (.inl (mi)), some (.inl (fi)), some (.inl (en)), some (.inl (v))]) (st' := [.inl (j), .inr (.inr (.inl (some qr)))]) (fun _ _ => rfl) ?_
          refine ej_plain hmn (eg_at hT 3 15 rfl rfl) (pc' := 124) (ls' := [some (.inr (.inr (.inl (some 46)))), some (.inl (im)), some (.inl (j)), some (.inl (mi)), some (.inl (fi)), some (.inl (en)), some (.inl (v))]) (st' := [.inl (mi), .inl (j), .inr (.inr (.inl (some qr)))]) (fun _ _ => rfl) ?_
          refine ej_ifCond hmn (eg_at hT 3 16 rfl rfl) (pc' := 127) rfl (fun _ => rfl) (fun (gc10 : mi = 0) => ?_) (fun (gc10 : ¬ (mi = 0)) => ?_)
          · refine ej_plain hmn (eg_at hT 4 2 rfl rfl) (pc' := 135) (ls' := [some (.inr (.inr (.inl (some 46)))), some (.inl (im)), some (.inl (j)), some (.inl (mi)), some (.inl (fi)), some (.inl (en)), some (.inl (v))]) (st' := [.inl (v), .inl (j), .inr (.inr (.inl (some qr)))]) (fun _ _ => rfl) ?_
            refine ej_iastoreW hmn (eg_at hT 4 3 rfl rfl) (pc' := 136) (n := 5) (lo := (-2147483648)) (hi := (2147483647)) rfl (Nat.ble_eq.mpr (by omega)) (et_row qr1 qr2).1 (et_row qr1 qr2).2 (by omega) (by omega) (evw_row _ (by omega)) (by omega) (by omega) ?_
            refine ej_plain hmn (eg_at hT 4 4 rfl rfl) (pc' := 137) (ls' := [some (.inr (.inr (.inl (some 46)))), some (.inl (im)), some (.inl (j)), some (.inl (mi)), some (.inl (fi)), some (.inl (en)), some (.inl (v))]) (st' := [.inr (.inr (.inl (some 46)))]) (fun _ _ => rfl) ?_
            refine ej_plain hmn (eg_at hT 4 5 rfl rfl) (pc' := 139) (ls' := [some (.inr (.inr (.inl (some 46)))), some (.inl (im)), some (.inl (j)), some (.inl (mi)), some (.inl (fi)), some (.inl (en)), some (.inl (v))]) (st' := [.inl (en), .inr (.inr (.inl (some 46)))]) (fun _ _ => rfl) ?_
            refine ej_plain hmn (eg_at hT 4 6 rfl rfl) (pc' := 142) (ls' := [some (.inr (.inr (.inl (some 46)))), some (.inl (im)), some (.inl (j)), some (.inl (mi)), some (.inl (fi)), some (.inl (en)), some (.inl (v))]) (st' := []) (hp' := (et_c (L) (it) (en))) (fun _ _ => rfl) ?_
            refine ej_plain hmn (eg_at hT 4 7 rfl rfl) (pc' := 143) (ls' := [some (.inr (.inr (.inl (some 46)))), some (.inl (im)), some (.inl (j)), some (.inl (mi)), some (.inl (fi)), some (.inl (en)), some (.inl (v))]) (st' := [.inl (1)]) (fun _ _ => rfl) ?_
            exact ej_zreturn hmn (eg_at hT 4 8 rfl rfl) (by omega) (by omega) (hK _ _ (by omega) (by omega))
          · refine ej_plain hmn (eg_at hT 3 17 rfl rfl) (pc' := 129) (ls' := [some (.inr (.inr (.inl (some 46)))), some (.inl (im)), some (.inl (j)), some (.inl (mi)), some (.inl (fi)), some (.inl (en)), some (.inl (v))]) (st' := [.inl (v), .inl (j), .inr (.inr (.inl (some qr)))]) (fun _ _ => rfl) ?_
            refine ej_inegw hmn (eg_at hT 4 0 rfl rfl) (pc' := 130) rfl (fun gv11 gv11a gv11b => ?_)
            refine ej_plain hmn (eg_at hT 4 1 rfl rfl) (pc' := 135) (ls' := [some (.inr (.inr (.inl (some 46)))), some (.inl (im)), some (.inl (j)), some (.inl (mi)), some (.inl (fi)), some (.inl (en)), some (.inl (v))]) (st' := [.inl (gv11), .inl (j), .inr (.inr (.inl (some qr)))]) (fun _ _ => rfl) ?_
            refine ej_iastoreW hmn (eg_at hT 4 3 rfl rfl) (pc' := 136) (n := 5) (lo := (-2147483648)) (hi := (2147483647)) rfl (Nat.ble_eq.mpr (by omega)) (et_row qr1 qr2).1 (et_row qr1 qr2).2 (by omega) (by omega) (evw_row _ (by omega)) (by omega) (by omega) ?_
            refine ej_plain hmn (eg_at hT 4 4 rfl rfl) (pc' := 137) (ls' := [some (.inr (.inr (.inl (some 46)))), some (.inl (im)), some (.inl (j)), some (.inl (mi)), some (.inl (fi)), some (.inl (en)), some (.inl (v))]) (st' := [.inr (.inr (.inl (some 46)))]) (fun _ _ => rfl) ?_
            refine ej_plain hmn (eg_at hT 4 5 rfl rfl) (pc' := 139) (ls' := [some (.inr (.inr (.inl (some 46)))), some (.inl (im)), some (.inl (j)), some (.inl (mi)), some (.inl (fi)), some (.inl (en)), some (.inl (v))]) (st' := [.inl (en), .inr (.inr (.inl (some 46)))]) (fun _ _ => rfl) ?_
            refine ej_plain hmn (eg_at hT 4 6 rfl rfl) (pc' := 142) (ls' := [some (.inr (.inr (.inl (some 46)))), some (.inl (im)), some (.inl (j)), some (.inl (mi)), some (.inl (fi)), some (.inl (en)), some (.inl (v))]) (st' := []) (hp' := (et_c (L) (it) (en))) (fun _ _ => rfl) ?_
            refine ej_plain hmn (eg_at hT 4 7 rfl rfl) (pc' := 143) (ls' := [some (.inr (.inr (.inl (some 46)))), some (.inl (im)), some (.inl (j)), some (.inl (mi)), some (.inl (fi)), some (.inl (en)), some (.inl (v))]) (st' := [.inl (1)]) (fun _ _ => rfl) ?_
            exact ej_zreturn hmn (eg_at hT 4 8 rfl rfl) (by omega) (by omega) (hK _ _ (by omega) (by omega))
        · refine ej_plain hmn (eg_at hT 3 8 rfl rfl) (pc' := 115) (ls' := [some (.inr (.inr (.inl (some 46)))), some (.inl (im)), some (.inl (j)), some (.inl (mi)), some (.inl (fi)), some (.inl (en)), some (.inl (v))]) (st' := [.inl (0)]) (fun _ _ => rfl) ?_
          exact ej_zreturn hmn (eg_at hT 3 9 rfl rfl) (by omega) (by omega) (hK _ _ (by omega) (by omega))
      · refine ej_plain hmn (eg_at hT 2 7 rfl rfl) (pc' := 80) (ls' := [some (.inr (.inr (.inl (some 46)))), some (.inl (im)), some (.inl (j)), some (.inl (mi)), some (.inl (fi)), some (.inl (en)), some (.inl (v))]) (st' := [.inl (10)]) (fun _ _ => rfl) ?_
        refine ej_plain hmn (eg_at hT 2 8 rfl rfl) (pc' := 82) (ls' := [some (.inr (.inr (.inl (some 46)))), some (.inl (im)), some (.inl (j)), some (.inl (mi)), some (.inl (fi)), some (.inl (en)), some (.inl (v))]) (st' := [.inl (v), .inl (10)]) (fun _ _ => rfl) ?_
        refine ej_imulw hmn (eg_at hT 2 9 rfl rfl) (pc' := 83) rfl (fun gv12 gv12a gv12b => ?_)
        refine ej_plain hmn (eg_at hT 2 10 rfl rfl) (pc' := 84) (ls' := [some (.inr (.inr (.inl (some 46)))), some (.inl (im)), some (.inl (j)), some (.inl (mi)), some (.inl (fi)), some (.inl (en)), some (.inl (v))]) (st' := [.inr (.inr (.inl (some 46))), .inl (gv12)]) (fun _ _ => rfl) ?_
        refine ej_plain hmn (eg_at hT 2 11 rfl rfl) (pc' := 86) (ls' := [some (.inr (.inr (.inl (some 46)))), some (.inl (im)), some (.inl (j)), some (.inl (mi)), some (.inl (fi)), some (.inl (en)), some (.inl (v))]) (st' := [.inl (en), .inr (.inr (.inl (some 46))), .inl (gv12)]) (fun _ _ => rfl) ?_
        refine ej_call hmn (eg_at hT 2 12 rfl rfl) (pc' := 89) (r := [.inl (gv12)]) (eq_byteAt hmn (j := en) l0) (by omega) (fun _ _ => rfl) (fun v hp' hP => ?_)
        obtain ⟨gr13, rfl, rfl, gr13a, gr13b⟩ := hP
        show em_G l D τ sa A own mname bytes 7 d (0, 0) (some .boolean) K (89, [some (.inr (.inr (.inl (some 46)))), some (.inl (im)), some (.inl (j)), some (.inl (mi)), some (.inl (fi)), some (.inl (en)), some (.inl (v))], [.inl (gr13), .inl (gv12)], (et_c (L) (it) (p)), 0, 0)
        refine ej_iaddw hmn (eg_at hT 2 13 rfl rfl) (pc' := 90) rfl (fun gw14 gw14a gw14b gw14c => ?_)
        refine ej_plain hmn (eg_at hT 2 14 rfl rfl) (pc' := 92) (ls' := [some (.inr (.inr (.inl (some 46)))), some (.inl (im)), some (.inl (j)), some (.inl (mi)), some (.inl (fi)), some (.inl (en)), some (.inl (v))]) (st' := [.inl (48), .inl (gw14)]) (fun _ _ => rfl) ?_
        refine ej_isubw hmn (eg_at hT 2 15 rfl rfl) (pc' := 93) rfl (fun gw15 gw15a gw15b gw15c => ?_)
        refine ej_plain hmn (eg_at hT 2 16 rfl rfl) (pc' := 95) (ls' := [some (.inr (.inr (.inl (some 46)))), some (.inl (im)), some (.inl (j)), some (.inl (mi)), some (.inl (fi)), some (.inl (en)), some (.inl (gw15))]) (st' := []) (fun _ _ => rfl) ?_
        refine ej_iinc hmn (eg_at hT 2 17 rfl rfl) (pc' := 98) rfl (w := 1) rfl (fun _ => rfl) (lsf := fun V => [some (.inr (.inr (.inl (some 46)))), some (.inl (im)), some (.inl (j)), some (.inl (mi)), some (.inl (fi)), some V, some (.inl (gw15))]) (fun _ _ => rfl) (by decide) (by decide) (by omega) (by omega) ?_
        refine ej_plain hmn (eg_at hT 3 0 rfl rfl) (pc' := 60) (ls' := [some (.inr (.inr (.inl (some 46)))), some (.inl (im)), some (.inl (j)), some (.inl (mi)), some (.inl (fi)), some (.inl (en + 1)), some (.inl (gw15))]) (st' := []) (fun _ _ => rfl) ?_
        exact ih _ _ (by omega) (by omega) (by omega)
theorem eq_readNumber {l : Launch} {D : va_G} {τ : Nat → ClassId} {sa : List Nat} {A : Nat → Prop} (hmn : em_mna) {L it p im j : Int} (l0 : 0 ≤ L ∧ L ≤ 300) (hp : 0 ≤ p ∧ p ≤ 300) (hi_ : 0 ≤ im ∧ im < 50) (hj : 0 ≤ j ∧ j < 5) : em_X l D τ sa A 77 [(.inr (.inr (.inl (some 46)))), .inl im, .inl j] (et_c L it p) (fun w hp' => ∃ r p' : Int, w = some (.inl r) ∧ hp' = et_c L it p' ∧ (r = 0 ∨ r = 1) ∧ (p ≤ p' ∧ p' ≤ 300)) 3 := by
  refine em_X.of (tb := eu_77) (nl := 7) (ret := some .boolean) rfl (q := [some (.inr (.inr (.inl (some 46)))), some (.inl (im)), some (.inl (j)), none, none, none, none]) (fun _ => rfl) (fun own mname bytes hT => ?_)
  refine ej_plain hmn (eg_at hT 0 0 rfl rfl) (pc' := 1) (ls' := [some (.inr (.inr (.inl (some 46)))), some (.inl (im)), some (.inl (j)), none, none, none, none]) (st' := [.inr (.inr (.inl (some 46)))]) (fun _ _ => rfl) ?_
  refine ej_plain hmn (eg_at hT 0 1 rfl rfl) (pc' := 2) (ls' := [some (.inr (.inr (.inl (some 46)))), some (.inl (im)), some (.inl (j)), none, none, none, none]) (st' := [.inr (.inr (.inl (some 46))), .inr (.inr (.inl (some 46)))]) (fun _ _ => rfl) ?_
  refine ej_plain hmn (eg_at hT 0 2 rfl rfl) (pc' := 5) (ls' := [some (.inr (.inr (.inl (some 46)))), some (.inl (im)), some (.inl (j)), none, none, none, none]) (st' := [.inl (p), .inr (.inr (.inl (some 46)))]) (fun _ _ => rfl) ?_
  refine ej_plain hmn (eg_at hT 0 3 rfl rfl) (pc' := 6) (ls' := [some (.inr (.inr (.inl (some 46)))), some (.inl (im)), some (.inl (j)), none, none, none, none]) (st' := [.inl (1), .inl (p), .inr (.inr (.inl (some 46)))]) (fun _ _ => rfl) ?_
  refine ej_isub hmn (eg_at hT 0 4 rfl rfl) (pc' := 7) rfl (by omega) (by omega) ?_
  refine ej_call hmn (eg_at hT 0 5 rfl rfl) (pc' := 10) (r := []) (eq_isFigure hmn (j := p - 1) l0) (by omega) (fun _ _ => rfl) (fun v hp' hP => ?_)
  obtain ⟨yr1, rfl, rfl, yr1a, yr1b⟩ := hP
  show em_G l D τ sa A own mname bytes 7 3 (0, 0) (some .boolean) _ (10, [some (.inr (.inr (.inl (some 46)))), some (.inl (im)), some (.inl (j)), none, none, none, none], [.inl (yr1)], (et_c (L) (it) (p)), 0, 0)
  refine ej_ifCond hmn (eg_at hT 0 6 rfl rfl) (pc' := 13) rfl (fun _ => rfl) (fun (yc2 : yr1 = 0) => ?_) (fun (yc2 : ¬ (yr1 = 0)) => ?_)
  · refine ej_plain hmn (eg_at hT 0 9 rfl rfl) (pc' := 16) (ls' := [some (.inr (.inr (.inl (some 46)))), some (.inl (im)), some (.inl (j)), none, none, none, none]) (st' := [.inr (.inr (.inl (some 46)))]) (fun _ _ => rfl) ?_
    refine ej_plain hmn (eg_at hT 0 10 rfl rfl) (pc' := 17) (ls' := [some (.inr (.inr (.inl (some 46)))), some (.inl (im)), some (.inl (j)), none, none, none, none]) (st' := [.inr (.inr (.inl (some 46))), .inr (.inr (.inl (some 46)))]) (fun _ _ => rfl) ?_
    refine ej_plain hmn (eg_at hT 0 11 rfl rfl) (pc' := 20) (ls' := [some (.inr (.inr (.inl (some 46)))), some (.inl (im)), some (.inl (j)), none, none, none, none]) (st' := [.inl (p), .inr (.inr (.inl (some 46)))]) (fun _ _ => rfl) ?_
    refine ej_call hmn (eg_at hT 0 12 rfl rfl) (pc' := 23) (r := []) (eq_byteAt hmn (j := p) l0) (by omega) (fun _ _ => rfl) (fun v hp' hP => ?_)
    obtain ⟨yr3, rfl, rfl, yr3a, yr3b⟩ := hP
    show em_G l D τ sa A own mname bytes 7 3 (0, 0) (some .boolean) _ (23, [some (.inr (.inr (.inl (some 46)))), some (.inl (im)), some (.inl (j)), none, none, none, none], [.inl (yr3)], (et_c (L) (it) (p)), 0, 0)
    refine ej_plain hmn (eg_at hT 0 13 rfl rfl) (pc' := 25) (ls' := [some (.inr (.inr (.inl (some 46)))), some (.inl (im)), some (.inl (j)), none, none, none, none]) (st' := [.inl (45), .inl (yr3)]) (fun _ _ => rfl) ?_
    refine ej_if_icmp hmn (eg_at hT 0 14 rfl rfl) (pc' := 28) rfl (fun _ => rfl) (fun (yc4 : yr3 ≠ 45) => ?_) (fun (yc4 : ¬ (yr3 ≠ 45)) => ?_)
    · refine ej_plain hmn (eg_at hT 1 0 rfl rfl) (pc' := 33) (ls' := [some (.inr (.inr (.inl (some 46)))), some (.inl (im)), some (.inl (j)), none, none, none, none]) (st' := [.inl (0)]) (fun _ _ => rfl) ?_
      refine ej_plain hmn (eg_at hT 1 1 rfl rfl) (pc' := 34) (ls' := [some (.inr (.inr (.inl (some 46)))), some (.inl (im)), some (.inl (j)), some (.inl (0)), none, none, none]) (st' := []) (fun _ _ => rfl) ?_
      refine ej_plain hmn (eg_at hT 1 2 rfl rfl) (pc' := 35) (ls' := [some (.inr (.inr (.inl (some 46)))), some (.inl (im)), some (.inl (j)), some (.inl (0)), none, none, none]) (st' := [.inl (0)]) (fun _ _ => rfl) ?_
      refine ej_plain hmn (eg_at hT 1 3 rfl rfl) (pc' := 47) (ls' := [some (.inr (.inr (.inl (some 46)))), some (.inl (im)), some (.inl (j)), some (.inl (0)), none, none, none]) (st' := []) (fun _ _ => rfl) ?_
      refine ej_plain hmn (eg_at hT 1 9 rfl rfl) (pc' := 48) (ls' := [some (.inr (.inr (.inl (some 46)))), some (.inl (im)), some (.inl (j)), some (.inl (0)), none, none, none]) (st' := [.inr (.inr (.inl (some 46)))]) (fun _ _ => rfl) ?_
      refine ej_plain hmn (eg_at hT 1 10 rfl rfl) (pc' := 51) (ls' := [some (.inr (.inr (.inl (some 46)))), some (.inl (im)), some (.inl (j)), some (.inl (0)), none, none, none]) (st' := [.inl (p)]) (fun _ _ => rfl) ?_
      refine ej_plain hmn (eg_at hT 1 11 rfl rfl) (pc' := 53) (ls' := [some (.inr (.inr (.inl (some 46)))), some (.inl (im)), some (.inl (j)), some (.inl (0)), some (.inl (p)), none, none]) (st' := []) (fun _ _ => rfl) ?_
      refine ej_plain hmn (eg_at hT 1 12 rfl rfl) (pc' := 55) (ls' := [some (.inr (.inr (.inl (some 46)))), some (.inl (im)), some (.inl (j)), some (.inl (0)), some (.inl (p)), none, none]) (st' := [.inl (p)]) (fun _ _ => rfl) ?_
      refine ej_plain hmn (eg_at hT 1 13 rfl rfl) (pc' := 57) (ls' := [some (.inr (.inr (.inl (some 46)))), some (.inl (im)), some (.inl (j)), some (.inl (0)), some (.inl (p)), some (.inl (p)), none]) (st' := []) (fun _ _ => rfl) ?_
      refine ej_plain hmn (eg_at hT 1 14 rfl rfl) (pc' := 58) (ls' := [some (.inr (.inr (.inl (some 46)))), some (.inl (im)), some (.inl (j)), some (.inl (0)), some (.inl (p)), some (.inl (p)), none]) (st' := [.inl (0)]) (fun _ _ => rfl) ?_
      refine ej_plain hmn (eg_at hT 1 15 rfl rfl) (pc' := 60) (ls' := [some (.inr (.inr (.inl (some 46)))), some (.inl (im)), some (.inl (j)), some (.inl (0)), some (.inl (p)), some (.inl (p)), some (.inl (0))]) (st' := []) (fun _ _ => rfl) ?_
      exact eq_rn_l hmn hT (Nat.le_refl 3) l0 hp hi_ hj (fun r p' h1 h2 => @decide_eq_true _ (Classical.propDecidable _) ⟨r, p', rfl, rfl, h1, h2⟩) (by omega) (by omega) 6 _ 0 (by omega) (by omega) (by decide)
    · refine ej_plain hmn (eg_at hT 0 15 rfl rfl) (pc' := 29) (ls' := [some (.inr (.inr (.inl (some 46)))), some (.inl (im)), some (.inl (j)), none, none, none, none]) (st' := [.inl (1)]) (fun _ _ => rfl) ?_
      refine ej_plain hmn (eg_at hT 0 16 rfl rfl) (pc' := 33) (ls' := [some (.inr (.inr (.inl (some 46)))), some (.inl (im)), some (.inl (j)), none, none, none, none]) (st' := [.inl (1)]) (fun _ _ => rfl) ?_
      refine ej_plain hmn (eg_at hT 1 1 rfl rfl) (pc' := 34) (ls' := [some (.inr (.inr (.inl (some 46)))), some (.inl (im)), some (.inl (j)), some (.inl (1)), none, none, none]) (st' := []) (fun _ _ => rfl) ?_
      refine ej_plain hmn (eg_at hT 1 2 rfl rfl) (pc' := 35) (ls' := [some (.inr (.inr (.inl (some 46)))), some (.inl (im)), some (.inl (j)), some (.inl (1)), none, none, none]) (st' := [.inl (1)]) (fun _ _ => rfl) ?_
      refine ej_plain hmn (eg_at hT 1 3 rfl rfl) (pc' := 38) (ls' := [some (.inr (.inr (.inl (some 46)))), some (.inl (im)), some (.inl (j)), some (.inl (1)), none, none, none]) (st' := []) (fun _ _ => rfl) ?_
      refine ej_plain hmn (eg_at hT 1 4 rfl rfl) (pc' := 39) (ls' := [some (.inr (.inr (.inl (some 46)))), some (.inl (im)), some (.inl (j)), some (.inl (1)), none, none, none]) (st' := [.inr (.inr (.inl (some 46)))]) (fun _ _ => rfl) ?_
      refine ej_plain hmn (eg_at hT 1 5 rfl rfl) (pc' := 42) (ls' := [some (.inr (.inr (.inl (some 46)))), some (.inl (im)), some (.inl (j)), some (.inl (1)), none, none, none]) (st' := [.inl (p)]) (fun _ _ => rfl) ?_
      refine ej_plain hmn (eg_at hT 1 6 rfl rfl) (pc' := 43) (ls' := [some (.inr (.inr (.inl (some 46)))), some (.inl (im)), some (.inl (j)), some (.inl (1)), none, none, none]) (st' := [.inl (1), .inl (p)]) (fun _ _ => rfl) ?_
      refine ej_iadd hmn (eg_at hT 1 7 rfl rfl) (pc' := 44) rfl (by omega) (by omega) ?_
      refine ej_plain hmn (eg_at hT 1 8 rfl rfl) (pc' := 51) (ls' := [some (.inr (.inr (.inl (some 46)))), some (.inl (im)), some (.inl (j)), some (.inl (1)), none, none, none]) (st' := [.inl (p + 1)]) (fun _ _ => rfl) ?_
      refine ej_plain hmn (eg_at hT 1 11 rfl rfl) (pc' := 53) (ls' := [some (.inr (.inr (.inl (some 46)))), some (.inl (im)), some (.inl (j)), some (.inl (1)), some (.inl (p + 1)), none, none]) (st' := []) (fun _ _ => rfl) ?_
      refine ej_plain hmn (eg_at hT 1 12 rfl rfl) (pc' := 55) (ls' := [some (.inr (.inr (.inl (some 46)))), some (.inl (im)), some (.inl (j)), some (.inl (1)), some (.inl (p + 1)), none, none]) (st' := [.inl (p + 1)]) (fun _ _ => rfl) ?_
      refine ej_plain hmn (eg_at hT 1 13 rfl rfl) (pc' := 57) (ls' := [some (.inr (.inr (.inl (some 46)))), some (.inl (im)), some (.inl (j)), some (.inl (1)), some (.inl (p + 1)), some (.inl (p + 1)), none]) (st' := []) (fun _ _ => rfl) ?_
      refine ej_plain hmn (eg_at hT 1 14 rfl rfl) (pc' := 58) (ls' := [some (.inr (.inr (.inl (some 46)))), some (.inl (im)), some (.inl (j)), some (.inl (1)), some (.inl (p + 1)), some (.inl (p + 1)), none]) (st' := [.inl (0)]) (fun _ _ => rfl) ?_
      refine ej_plain hmn (eg_at hT 1 15 rfl rfl) (pc' := 60) (ls' := [some (.inr (.inr (.inl (some 46)))), some (.inl (im)), some (.inl (j)), some (.inl (1)), some (.inl (p + 1)), some (.inl (p + 1)), some (.inl (0))]) (st' := []) (fun _ _ => rfl) ?_
      exact eq_rn_l hmn hT (Nat.le_refl 3) l0 hp hi_ hj (fun r p' h1 h2 => @decide_eq_true _ (Classical.propDecidable _) ⟨r, p', rfl, rfl, h1, h2⟩) (by omega) (by omega) 6 _ 0 (by omega) (by omega) (by decide)
  · refine ej_plain hmn (eg_at hT 0 7 rfl rfl) (pc' := 14) (ls' := [some (.inr (.inr (.inl (some 46)))), some (.inl (im)), some (.inl (j)), none, none, none, none]) (st' := [.inl (0)]) (fun _ _ => rfl) ?_
    exact ej_zreturn hmn (eg_at hT 0 8 rfl rfl) (by omega) (by omega) (@decide_eq_true _ (Classical.propDecidable _) ⟨_, p, rfl, rfl, by omega, by omega⟩)
