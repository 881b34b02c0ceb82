/-! The class's reader from INV to INV. Printed by wip/p3/ctextgen3.py. -/
/-- INV, the text's length without its name -/
def eih_c : ex_H := ex_hput ei_h0 46 ((nat_lit 3), (nat_lit 9), (nat_lit 0), (nat_lit 0), [.inr (.inr (.inl (some (nat_lit 47)))), .inr (.inr (.inr (.inl ((Int.ofNat (nat_lit 0)), (Int.ofNat (nat_lit 300)))))), .inr (.inr (.inl (some (nat_lit 48)))), .inr (.inr (.inl (some (nat_lit 49)))), .inr (.inr (.inr (.inl ((Int.ofNat (nat_lit 0)), (Int.ofNat (nat_lit 50)))))), .inr (.inr (.inr (.inl ((Int.ofNat (nat_lit 0)), (Int.ofNat (nat_lit 300))))))])
theorem et_cof {ν : Nat → Int32} {D : va_G} {τ : Nat → ClassId} {sa : List Nat} {ro : List ex_C} {A : Nat → Prop} {ws : va_W} {H : Heap} (h : er_W ν D τ sa ro A ei_h0 ws H) : ∃ L it p : Int, L = (ν 1).toInt ∧ (0 ≤ L ∧ L ≤ 300) ∧ (0 ≤ it ∧ it ≤ 50) ∧ (0 ≤ p ∧ p ≤ 300) ∧ er_W ν D τ sa ro A (et_c L it p) ws H := by
  obtain ⟨y, g1, g2⟩ := h.2.2.2.2 46 _ (Nat.le_of_ble_eq_true rfl) et_cat0
  rcases g2 with ⟨hz, -⟩ | ⟨hz, -⟩ | ⟨hz, -⟩ | ⟨-, vs, e1, e2, e3⟩
  · cases hz
  · cases hz
  · cases hz
  · obtain ⟨v1, f1, rfl, c1, d1⟩ := e3 1 _ rfl
    obtain ⟨v4, f4, x4, rfl, c4, d4⟩ := e3 4 _ rfl
    obtain ⟨v5, f5, x5, rfl, c5, d5⟩ := e3 5 _ rfl
    refine ⟨(ν 1).toInt, x4.toInt, x5.toInt, rfl, ⟨c1, d1⟩, ⟨c4, d4⟩, ⟨c5, d5⟩, h.put (Nat.le_of_ble_eq_true rfl) et_cat0 (fun y' hy => ?_)⟩
    rw [g1] at hy
    cases hy
    refine Or.inr (Or.inr (Or.inr ⟨rfl, vs, e1, e2, fun j b hb => ?_⟩))
    match j, hb with
    | 0, hb => exact e3 0 b hb
    | 1, hb => cases hb; exact ⟨_, f1, er_int _⟩
    | 2, hb => exact e3 2 b hb
    | 3, hb => exact e3 3 b hb
    | 4, hb => cases hb; exact ⟨_, f4, er_int x4⟩
    | 5, hb => cases hb; exact ⟨_, f5, er_int x5⟩
    | j + 6, hb => exact e3 (j + 6) b (by cases hb)
theorem et_cback {ν : Nat → Int32} {D : va_G} {τ : Nat → ClassId} {sa : List Nat} {ro : List ex_C} {A : Nat → Prop} {ws : va_W} {H : Heap} {L it p : Int} (hL : L = (ν 1).toInt) (h0 : 0 ≤ L ∧ L ≤ 300) (h1 : 0 ≤ it ∧ it ≤ 50) (h2 : 0 ≤ p ∧ p ≤ 300) (h : er_W ν D τ sa ro A (et_c L it p) ws H) : er_W ν D τ sa ro A ei_h0 ws H := by
  have hat := et_catC L it p
  obtain ⟨y, g1, g2⟩ := h.2.2.2.2 46 _ (Nat.le_of_ble_eq_true rfl) hat
  have h' := h.put (q := 46) (c := ((nat_lit 3), (nat_lit 9), (nat_lit 0), (nat_lit 0), [.inr (.inr (.inl (some (nat_lit 47)))), .inr (.inr (.inr (.inr (.inr ((nat_lit 1), (Int.ofNat (nat_lit 0)), (Int.ofNat (nat_lit 300))))))), .inr (.inr (.inl (some (nat_lit 48)))), .inr (.inr (.inl (some (nat_lit 49)))), .inr (.inr (.inr (.inl ((Int.ofNat (nat_lit 0)), (Int.ofNat (nat_lit 50)))))), .inr (.inr (.inr (.inl ((Int.ofNat (nat_lit 0)), (Int.ofNat (nat_lit 300))))))])) (Nat.le_of_ble_eq_true rfl) hat (fun y' hy => by
    rw [g1] at hy
    cases hy
    rcases g2 with ⟨hz, -⟩ | ⟨hz, -⟩ | ⟨hz, -⟩ | ⟨-, vs, e1, e2, e3⟩
    · cases hz
    · cases hz
    · cases hz
    · refine Or.inr (Or.inr (Or.inr ⟨rfl, vs, e1, e2, fun j b hb => ?_⟩))
      match j, hb with
      | 0, hb => exact e3 0 b hb
      | 1, hb =>
        cases hb
        obtain ⟨w, f, x, rfl, e⟩ := e3 1 _ rfl
        have ex : x = ν 1 := Int32.toInt_inj.mp (by rw [e, hL])
        subst ex
        exact ⟨_, f, rfl, by show (0 : Int) ≤ (ν 1).toInt; omega, by show (ν 1).toInt ≤ 300; omega⟩
      | 2, hb => exact e3 2 b hb
      | 3, hb => exact e3 3 b hb
      | 4, hb =>
        cases hb
        obtain ⟨w, f, x, rfl, e⟩ := e3 4 _ rfl
        exact ⟨_, f, x, rfl, by show (0 : Int) ≤ x.toInt; omega, by show x.toInt ≤ (50 : Int); omega⟩
      | 5, hb =>
        cases hb
        obtain ⟨w, f, x, rfl, e⟩ := e3 5 _ rfl
        exact ⟨_, f, x, rfl, by show (0 : Int) ≤ x.toInt; omega, by show x.toInt ≤ (300 : Int); omega⟩
      | j + 6, hb => exact e3 (j + 6) b (by cases hb))
  refine ⟨h'.1, h'.2.1, h'.2.2.1, fun q c hq hc => h'.2.2.2.1 q c hq ?_, fun q c hq hc => h'.2.2.2.2 q c hq ?_⟩
  · rw [ex_hput_at hat q]
    by_cases e : q = 46
    · subst e; rw [if_pos rfl]; exact hc
    · rw [if_neg e, et_cne L it p e]
      exact hc
  · rw [ex_hput_at hat q]
    by_cases e : q = 46
    · subst e; rw [if_pos rfl]; exact hc
    · rw [if_neg e, et_cne L it p e]
      exact hc
theorem et_cbackt {ν : Nat → Int32} {D : va_G} {τ : Nat → ClassId} {sa : List Nat} {ro : List ex_C} {A : Nat → Prop} {ws : va_W} {H : Heap} {L it p : Int} (h0 : 0 ≤ L ∧ L ≤ 300) (h1 : 0 ≤ it ∧ it ≤ 50) (h2 : 0 ≤ p ∧ p ≤ 300) (h : er_W ν D τ sa ro A (et_c L it p) ws H) : er_W ν D τ sa ro A eih_c ws H := by
  have hat := et_catC L it p
  obtain ⟨y, g1, g2⟩ := h.2.2.2.2 46 _ (Nat.le_of_ble_eq_true rfl) hat
  have h' := h.put (q := 46) (c := ((nat_lit 3), (nat_lit 9), (nat_lit 0), (nat_lit 0), [.inr (.inr (.inl (some (nat_lit 47)))), .inr (.inr (.inr (.inl ((Int.ofNat (nat_lit 0)), (Int.ofNat (nat_lit 300)))))), .inr (.inr (.inl (some (nat_lit 48)))), .inr (.inr (.inl (some (nat_lit 49)))), .inr (.inr (.inr (.inl ((Int.ofNat (nat_lit 0)), (Int.ofNat (nat_lit 50)))))), .inr (.inr (.inr (.inl ((Int.ofNat (nat_lit 0)), (Int.ofNat (nat_lit 300))))))])) (Nat.le_of_ble_eq_true rfl) hat (fun y' hy => by
    rw [g1] at hy
    cases hy
    rcases g2 with ⟨hz, -⟩ | ⟨hz, -⟩ | ⟨hz, -⟩ | ⟨-, vs, e1, e2, e3⟩
    · cases hz
    · cases hz
    · cases hz
    · refine Or.inr (Or.inr (Or.inr ⟨rfl, vs, e1, e2, fun j b hb => ?_⟩))
      match j, hb with
      | 0, hb => exact e3 0 b hb
      | 1, hb =>
        cases hb
        obtain ⟨w, f, x, rfl, e⟩ := e3 1 _ rfl
        exact ⟨_, f, x, rfl, by show (0 : Int) ≤ x.toInt; omega, by show x.toInt ≤ 300; omega⟩
      | 2, hb => exact e3 2 b hb
      | 3, hb => exact e3 3 b hb
      | 4, hb =>
        cases hb
        obtain ⟨w, f, x, rfl, e⟩ := e3 4 _ rfl
        exact ⟨_, f, x, rfl, by show (0 : Int) ≤ x.toInt; omega, by show x.toInt ≤ (50 : Int); omega⟩
      | 5, hb =>
        cases hb
        obtain ⟨w, f, x, rfl, e⟩ := e3 5 _ rfl
        exact ⟨_, f, x, rfl, by show (0 : Int) ≤ x.toInt; omega, by show x.toInt ≤ (300 : Int); omega⟩
      | j + 6, hb => exact e3 (j + 6) b (by cases hb))
  refine ⟨h'.1, h'.2.1, h'.2.2.1, fun q c hq hc => h'.2.2.2.1 q c hq ?_, fun q c hq hc => h'.2.2.2.2 q c hq ?_⟩
  · rw [ex_hput_at hat q]
    by_cases e : q = 46
    · subst e; rw [if_pos rfl]; exact hc
    · rw [if_neg e, et_cne L it p e]
      unfold eih_c at hc; rw [ex_hput_at et_cat0 q, if_neg e] at hc; exact hc
  · rw [ex_hput_at hat q]
    by_cases e : q = 46
    · subst e; rw [if_pos rfl]; exact hc
    · rw [if_neg e, et_cne L it p e]
      unfold eih_c at hc; rw [ex_hput_at et_cat0 q, if_neg e] at hc; exact hc
theorem ec_findFault_k {l : Launch} {D : va_G} {τ : Nat → ClassId} {sa : List Nat} {A : Nat → Prop} (hmn : em_mna) : em_E l D τ sa A em_inf 73 ([(.inr (.inr (.inl (some 46))))], ei_h0, some (.inr (.inr (.inr (.inl (-1, 300))))), ei_h0, 7) := by
  refine ⟨_, _, _, _, rfl, Nat.le_of_ble_eq_true rfl, fun ν ro avs ws hs => ?_⟩

  intro p' e hA hc hk s' m args below hf happ hP hK
  obtain ⟨k1, k2, k3⟩ := hP
  obtain ⟨L, it, p, hL, hL0, hit, hp, hW⟩ := et_cof k3
  obtain ⟨y', bytes', nl', ret', j1, j2, j3⟩ := eq_findFault (l := l) (D := D) (τ := τ) (sa := sa) (A := A) hmn (it := it) (p := p) hL0
  cases j1
  obtain ⟨n', o, h1, h2, h3, h4, h5⟩ := j3 ν ro _ ws hs p' e hA hc hk s' m args below hf happ ⟨k1, k2, hW⟩ hK
  refine ⟨n', o, h1, h2, h3, ?_, h5⟩
  obtain ⟨⟨ov, hp', ws', rv, w1, w2, w3, w4, w5⟩, w6⟩ := h4
  obtain ⟨r, it, p, rfl, rfl, hr, hi, hb⟩ := @of_decide_eq_true _ (Classical.propDecidable _) w2
  refine ⟨⟨ws', rv, w1, ?_, et_cback hL hL0 hi hb w4, w5⟩, w6⟩
  match rv, w3 with
  | some v, ⟨x, e1, e2⟩ => subst e1; exact ⟨x, rfl, by show (-1 : Int) ≤ x.toInt; omega, by show x.toInt ≤ 300; omega⟩
  | none, w3 => exact w3.elim
theorem ec_add_k {l : Launch} {D : va_G} {τ : Nat → ClassId} {sa : List Nat} {A : Nat → Prop} (hmn : em_mna) : em_E l D τ sa A em_inf 71 ([(.inr (.inr (.inl (some 46)))), .inr (.inr (.inr (.inr (.inl (-9223372036854775808, 9223372036854775807))))), .inr (.inr (.inr (.inl (-2147483648, 2147483647))))], ei_h0, some (.inr (.inr (.inr (.inl (-2147483648, 2147483647))))), eih_c, 1) := by
  refine ⟨_, _, _, _, rfl, Nat.le_of_ble_eq_true rfl, fun ν ro avs ws hs => ?_⟩
  obtain ⟨v0, vs0, rfl, g0, hs0⟩ := hs.cons
  obtain ⟨v1, vs1, rfl, ⟨x1, rfl, -, -⟩, hs1⟩ := hs0.cons
  obtain ⟨v2, vs2, rfl, ⟨x2, rfl, -, -⟩, hs2⟩ := hs1.cons
  intro p' e hA hc hk s' m args below hf happ hP hK
  obtain ⟨k1, k2, k3⟩ := hP
  obtain ⟨L, it, p, hL, hL0, hit, hp, hW⟩ := et_cof k3
  obtain ⟨y', bytes', nl', ret', j1, j2, j3⟩ := eq_add (l := l) (D := D) (τ := τ) (sa := sa) (A := A) hmn (it := it) (p := p) (z := x1.toInt) (m := x2.toInt) hL0 (ey_i32 x2)
  cases j1
  obtain ⟨n', o, h1, h2, h3, h4, h5⟩ := j3 ν ro (v0 :: .long x1 :: .int x2 :: vs2) ws ⟨g0, er_long x1, er_int x2, hs2⟩ p' e hA hc hk s' m args below hf happ ⟨k1, k2, hW⟩ hK
  refine ⟨n', o, h1, h2, h3, ?_, h5⟩
  obtain ⟨⟨ov, hp', ws', rv, w1, w2, w3, w4, w5⟩, w6⟩ := h4
  obtain ⟨r, L', rfl, rfl, hr, hl⟩ := @of_decide_eq_true _ (Classical.propDecidable _) w2
  refine ⟨⟨ws', rv, w1, ?_, et_cbackt hl hit hp w4, w5⟩, w6⟩
  match rv, w3 with
  | some v, ⟨x, e1, e2⟩ => subst e1; exact er_top (ρ := er_r ν sa ws') x
  | none, w3 => exact w3.elim
theorem et_of2 {ν : Nat → Int32} {D : va_G} {τ : Nat → ClassId} {sa : List Nat} {ro : List ex_C} {A : Nat → Prop} {ws : va_W} {H : Heap} (h : er_W ν D τ sa ro A ei_h0 ws H) : ∃ L a s t v n : Int, L = (ν 2).toInt ∧ (0 ≤ L ∧ L ≤ 300) ∧ (0 ≤ a ∧ a ≤ 301) ∧ (0 ≤ s ∧ s ≤ 300) ∧ (0 ≤ n ∧ n ≤ 300) ∧ er_W ν D τ sa ro A (et_r L a s t v n) ws H := by
  obtain ⟨L, a, s, t, v, n, hL, hL0, ht, hv, hW⟩ := et_of h
  refine ⟨L, a, s, t, v, n, hL, hL0, ?_⟩
  obtain ⟨y, g1, g2⟩ := h.2.2.2.2 345 _ (Nat.le_of_ble_eq_true rfl) et_at0
  obtain ⟨y', q1, q2⟩ := hW.2.2.2.2 345 _ (Nat.le_of_ble_eq_true rfl) (rfl : ex_at (et_r L a s t v n) 345 = some ((nat_lit 3), (nat_lit 12), (nat_lit 0), (nat_lit 0), [.inr (.inr (.inl (some (nat_lit 346)))), .inr (.inr (.inl (some (nat_lit 347)))), .inr (.inr (.inl (some (nat_lit 348)))), .inr (.inr (.inl (some (nat_lit 349)))), .inr (.inr (.inr (.inr (.inl ((Int.negSucc (nat_lit 9223372036854775807)), (Int.ofNat (nat_lit 9223372036854775807))))))), .inr (.inr (.inr (.inr (.inl ((Int.negSucc (nat_lit 9223372036854775807)), (Int.ofNat (nat_lit 9223372036854775807))))))), .inr (.inr (.inl (some (nat_lit 350)))), .inl L, .inl a, .inl s, .inl t, .inl v, .inr (.inr (.inl (some (nat_lit 351)))), .inr (.inr (.inl (some (nat_lit 352)))), .inl n, .inr (.inr (.inl (some (nat_lit 353)))), .inr (.inr (.inl (some (nat_lit 354)))), .inr (.inr (.inl (some (nat_lit 355)))), .inr (.inr (.inl (some (nat_lit 356)))), .inr (.inr (.inl (some (nat_lit 357)))), .inr (.inr (.inr (.inl ((Int.negSucc (nat_lit 2147483647)), (Int.ofNat (nat_lit 2147483647)))))), .inr (.inr (.inr (.inl ((Int.negSucc (nat_lit 2147483647)), (Int.ofNat (nat_lit 2147483647)))))), .inr (.inr (.inr (.inl ((Int.negSucc (nat_lit 2147483647)), (Int.ofNat (nat_lit 2147483647)))))), .inr (.inr (.inl (some (nat_lit 358)))), .inr (.inr (.inr (.inl ((Int.negSucc (nat_lit 2147483647)), (Int.ofNat (nat_lit 2147483647)))))), .inr (.inr (.inl (some (nat_lit 359)))), .inr (.inr (.inl (some (nat_lit 360)))), .inr (.inr (.inl (some (nat_lit 361)))), .inr (.inr (.inl (some (nat_lit 362)))), .inr (.inr (.inl (some (nat_lit 363)))), .inr (.inr (.inl (some (nat_lit 364)))), .inr (.inr (.inl (some (nat_lit 365)))), .inr (.inr (.inl (some (nat_lit 366))))]))
  rw [g1] at q1
  cases q1
  rcases g2 with ⟨hz, -⟩ | ⟨hz, -⟩ | ⟨hz, -⟩ | ⟨-, vs, e1, e2, e3⟩
  · cases hz
  · cases hz
  · cases hz
  rcases q2 with ⟨hz, -⟩ | ⟨hz, -⟩ | ⟨hz, -⟩ | ⟨-, us, u1, u2, u3⟩
  · cases hz
  · cases hz
  · cases hz
  rw [e1] at u1
  cases u1
  obtain ⟨v8, f8, x8, rfl, c8, d8⟩ := e3 8 _ rfl
  obtain ⟨v9, f9, x9, rfl, c9, d9⟩ := e3 9 _ rfl
  obtain ⟨v14, f14, x14, rfl, c14, d14⟩ := e3 14 _ rfl
  obtain ⟨w8, k8, y8, rfl, m8⟩ := u3 8 _ rfl
  obtain ⟨w9, k9, y9, rfl, m9⟩ := u3 9 _ rfl
  obtain ⟨w14, k14, y14, rfl, m14⟩ := u3 14 _ rfl
  rw [f8] at k8
  rw [f9] at k9
  rw [f14] at k14
  cases k8
  cases k9
  cases k14
  replace c8 : (0 : Int) ≤ x8.toInt := c8
  replace d8 : x8.toInt ≤ 301 := d8
  replace c9 : (0 : Int) ≤ x9.toInt := c9
  replace d9 : x9.toInt ≤ 300 := d9
  replace c14 : (0 : Int) ≤ x14.toInt := c14
  replace d14 : x14.toInt ≤ 300 := d14
  exact ⟨by omega, by omega, by omega, hW⟩
theorem ec_type_k {l : Launch} {D : va_G} {τ : Nat → ClassId} {sa : List Nat} {A : Nat → Prop} (hmn : em_mna) : em_E l D τ sa A em_inf 149 ([(.inr (.inr (.inl (some 345)))), .inr (.inr (.inr (.inr (.inl (-9223372036854775808, 9223372036854775807))))), .inr (.inr (.inr (.inl (-2147483648, 2147483647))))], ei_h0, some (.inr (.inr (.inr (.inl (-2147483648, 2147483647))))), eih_t, 1) := by
  refine ⟨_, _, _, _, rfl, Nat.le_of_ble_eq_true rfl, fun ν ro avs ws hs => ?_⟩
  obtain ⟨v0, vs0, rfl, g0, hs0⟩ := hs.cons
  obtain ⟨v1, vs1, rfl, ⟨x1, rfl, -, -⟩, hs1⟩ := hs0.cons
  obtain ⟨v2, vs2, rfl, ⟨x2, rfl, -, -⟩, hs2⟩ := hs1.cons
  intro p' e hA hc hk s' m args below hf happ hP hK
  obtain ⟨k1, k2, k3⟩ := hP
  obtain ⟨L, a, s, t, v, n, hL, hL0, ha, hs', hn, hW⟩ := et_of2 k3
  obtain ⟨y', bytes', nl', ret', j1, j2, j3⟩ := eq_type (l := l) (D := D) (τ := τ) (sa := sa) (A := A) hmn (a := a) (s := s) (t := t) (v := v) (n := n) (z := x1.toInt) (m := x2.toInt) hL0 (ey_i32 x2)
  cases j1
  obtain ⟨n', o, h1, h2, h3, h4, h5⟩ := j3 ν ro (v0 :: .long x1 :: .int x2 :: vs2) ws ⟨g0, er_long x1, er_int x2, hs2⟩ p' e hA hc hk s' m args below hf happ ⟨k1, k2, hW⟩ hK
  refine ⟨n', o, h1, h2, h3, ?_, h5⟩
  obtain ⟨⟨ov, hp', ws', rv, w1, w2, w3, w4, w5⟩, w6⟩ := h4
  obtain ⟨r, L', rfl, rfl, hr, hl⟩ := @of_decide_eq_true _ (Classical.propDecidable _) w2
  refine ⟨⟨ws', rv, w1, ?_, et_backt hl ha hs' hn w4, w5⟩, w6⟩
  match rv, w3 with
  | some v, ⟨x, e1, e2⟩ => subst e1; exact er_top (ρ := er_r ν sa ws') x
  | none, w3 => exact w3.elim
