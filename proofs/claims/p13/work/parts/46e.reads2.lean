/-! The reference's reader from INV to INV; type, clear. Printed by wip/p3/textgen2.py. -/
/-- INV, the text's length without its name -/
def eih_t : ex_H := ex_hput ei_h0 345 ((nat_lit 3), (nat_lit 12), (nat_lit 0), (nat_lit 0), [.inr (.inr (.inl (some (nat_lit 346)))), .inr (.inr (.inl (some (nat_lit 347)))), .inr (.inr (.inl (some (nat_lit 348)))), .inr (.inr (.inl (some (nat_lit 349)))), .inr (.inr (.inr (.inr (.inl ((Int.negSucc (nat_lit 9223372036854775807)), (Int.ofNat (nat_lit 9223372036854775807))))))), .inr (.inr (.inr (.inr (.inl ((Int.negSucc (nat_lit 9223372036854775807)), (Int.ofNat (nat_lit 9223372036854775807))))))), .inr (.inr (.inl (some (nat_lit 350)))), .inr (.inr (.inr (.inl ((Int.ofNat (nat_lit 0)), (Int.ofNat (nat_lit 300)))))), .inr (.inr (.inr (.inl ((Int.ofNat (nat_lit 0)), (Int.ofNat (nat_lit 301)))))), .inr (.inr (.inr (.inl ((Int.ofNat (nat_lit 0)), (Int.ofNat (nat_lit 300)))))), .inr (.inr (.inr (.inl ((Int.negSucc (nat_lit 2147483647)), (Int.ofNat (nat_lit 2147483647)))))), .inr (.inr (.inr (.inl ((Int.negSucc (nat_lit 2147483647)), (Int.ofNat (nat_lit 2147483647)))))), .inr (.inr (.inl (some (nat_lit 351)))), .inr (.inr (.inl (some (nat_lit 352)))), .inr (.inr (.inr (.inl ((Int.ofNat (nat_lit 0)), (Int.ofNat (nat_lit 300)))))), .inr (.inr (.inl (some (nat_lit 353)))), .inr (.inr (.inl (some (nat_lit 354)))), .inr (.inr (.inl (some (nat_lit 355)))), .inr (.inr (.inl (some (nat_lit 356)))), .inr (.inr (.inl (some (nat_lit 357)))), .inr (.inr (.inr (.inl ((Int.negSucc (nat_lit 2147483647)), (Int.ofNat (nat_lit 2147483647)))))), .inr (.inr (.inr (.inl ((Int.negSucc (nat_lit 2147483647)), (Int.ofNat (nat_lit 2147483647)))))), .inr (.inr (.inr (.inl ((Int.negSucc (nat_lit 2147483647)), (Int.ofNat (nat_lit 2147483647)))))), .inr (.inr (.inl (some (nat_lit 358)))), .inr (.inr (.inr (.inl ((Int.negSucc (nat_lit 2147483647)), (Int.ofNat (nat_lit 2147483647)))))), .inr (.inr (.inl (some (nat_lit 359)))), .inr (.inr (.inl (some (nat_lit 360)))), .inr (.inr (.inl (some (nat_lit 361)))), .inr (.inr (.inl (some (nat_lit 362)))), .inr (.inr (.inl (some (nat_lit 363)))), .inr (.inr (.inl (some (nat_lit 364)))), .inr (.inr (.inl (some (nat_lit 365)))), .inr (.inr (.inl (some (nat_lit 366))))])
theorem et_at0 : ex_at ei_h0 345 = some ((nat_lit 3), (nat_lit 12), (nat_lit 0), (nat_lit 0), [.inr (.inr (.inl (some (nat_lit 346)))), .inr (.inr (.inl (some (nat_lit 347)))), .inr (.inr (.inl (some (nat_lit 348)))), .inr (.inr (.inl (some (nat_lit 349)))), .inr (.inr (.inr (.inr (.inl ((Int.negSucc (nat_lit 9223372036854775807)), (Int.ofNat (nat_lit 9223372036854775807))))))), .inr (.inr (.inr (.inr (.inl ((Int.negSucc (nat_lit 9223372036854775807)), (Int.ofNat (nat_lit 9223372036854775807))))))), .inr (.inr (.inl (some (nat_lit 350)))), .inr (.inr (.inr (.inr (.inr ((nat_lit 2), (Int.ofNat (nat_lit 0)), (Int.ofNat (nat_lit 300))))))), .inr (.inr (.inr (.inl ((Int.ofNat (nat_lit 0)), (Int.ofNat (nat_lit 301)))))), .inr (.inr (.inr (.inl ((Int.ofNat (nat_lit 0)), (Int.ofNat (nat_lit 300)))))), .inr (.inr (.inr (.inl ((Int.negSucc (nat_lit 2147483647)), (Int.ofNat (nat_lit 2147483647)))))), .inr (.inr (.inr (.inl ((Int.negSucc (nat_lit 2147483647)), (Int.ofNat (nat_lit 2147483647)))))), .inr (.inr (.inl (some (nat_lit 351)))), .inr (.inr (.inl (some (nat_lit 352)))), .inr (.inr (.inr (.inl ((Int.ofNat (nat_lit 0)), (Int.ofNat (nat_lit 300)))))), .inr (.inr (.inl (some (nat_lit 353)))), .inr (.inr (.inl (some (nat_lit 354)))), .inr (.inr (.inl (some (nat_lit 355)))), .inr (.inr (.inl (some (nat_lit 356)))), .inr (.inr (.inl (some (nat_lit 357)))), .inr (.inr (.inr (.inl ((Int.negSucc (nat_lit 2147483647)), (Int.ofNat (nat_lit 2147483647)))))), .inr (.inr (.inr (.inl ((Int.negSucc (nat_lit 2147483647)), (Int.ofNat (nat_lit 2147483647)))))), .inr (.inr (.inr (.inl ((Int.negSucc (nat_lit 2147483647)), (Int.ofNat (nat_lit 2147483647)))))), .inr (.inr (.inl (some (nat_lit 358)))), .inr (.inr (.inr (.inl ((Int.negSucc (nat_lit 2147483647)), (Int.ofNat (nat_lit 2147483647)))))), .inr (.inr (.inl (some (nat_lit 359)))), .inr (.inr (.inl (some (nat_lit 360)))), .inr (.inr (.inl (some (nat_lit 361)))), .inr (.inr (.inl (some (nat_lit 362)))), .inr (.inr (.inl (some (nat_lit 363)))), .inr (.inr (.inl (some (nat_lit 364)))), .inr (.inr (.inl (some (nat_lit 365)))), .inr (.inr (.inl (some (nat_lit 366))))]) := rfl
theorem et_of {ν : Nat → Int32} {D : va_G} {τ : Nat → ClassId} {sa : List Nat} {ro : List ex_C} {A : Nat → Prop} {ws : va_W} {H : Heap} (h : er_W ν D τ sa ro A ei_h0 ws H) : ∃ L a s t v n : Int, L = (ν 2).toInt ∧ (0 ≤ L ∧ L ≤ 300) ∧ (-2147483648 ≤ t ∧ t ≤ 2147483647) ∧ (-2147483648 ≤ v ∧ v ≤ 2147483647) ∧ er_W ν D τ sa ro A (et_r L a s t v n) ws H := by
  obtain ⟨y, g1, g2⟩ := h.2.2.2.2 345 _ (Nat.le_of_ble_eq_true rfl) et_at0
  rcases g2 with ⟨hz, -⟩ | ⟨hz, -⟩ | ⟨hz, -⟩ | ⟨-, vs, e1, e2, e3⟩
  · cases hz
  · cases hz
  · cases hz
  · obtain ⟨v7, f7, rfl, c7, d7⟩ := e3 7 _ rfl
    obtain ⟨v8, f8, x8, rfl, c8, d8⟩ := e3 8 _ rfl
    obtain ⟨v9, f9, x9, rfl, c9, d9⟩ := e3 9 _ rfl
    obtain ⟨v10, f10, x10, rfl, c10, d10⟩ := e3 10 _ rfl
    obtain ⟨v11, f11, x11, rfl, c11, d11⟩ := e3 11 _ rfl
    obtain ⟨v14, f14, x14, rfl, c14, d14⟩ := e3 14 _ rfl
    refine ⟨(ν 2).toInt, x8.toInt, x9.toInt, x10.toInt, x11.toInt, x14.toInt, rfl, ⟨c7, d7⟩, ey_i32 x10, ey_i32 x11, h.put (Nat.le_of_ble_eq_true rfl) et_at0 (fun y' hy => ?_)⟩
    rw [g1] at hy
    cases hy
    refine Or.inr (Or.inr (Or.inr ⟨rfl, vs, e1, e2, fun j b hb => ?_⟩))
    match j, hb with
    | 0, hb => exact e3 0 b hb
    | 1, hb => exact e3 1 b hb
    | 2, hb => exact e3 2 b hb
    | 3, hb => exact e3 3 b hb
    | 4, hb => exact e3 4 b hb
    | 5, hb => exact e3 5 b hb
    | 6, hb => exact e3 6 b hb
    | 7, hb => cases hb; exact ⟨_, f7, er_int _⟩
    | 8, hb => cases hb; exact ⟨_, f8, er_int x8⟩
    | 9, hb => cases hb; exact ⟨_, f9, er_int x9⟩
    | 10, hb => cases hb; exact ⟨_, f10, er_int x10⟩
    | 11, hb => cases hb; exact ⟨_, f11, er_int x11⟩
    | 12, hb => exact e3 12 b hb
    | 13, hb => exact e3 13 b hb
    | 14, hb => cases hb; exact ⟨_, f14, er_int x14⟩
    | 15, hb => exact e3 15 b hb
    | 16, hb => exact e3 16 b hb
    | 17, hb => exact e3 17 b hb
    | 18, hb => exact e3 18 b hb
    | 19, hb => exact e3 19 b hb
    | 20, hb => exact e3 20 b hb
    | 21, hb => exact e3 21 b hb
    | 22, hb => exact e3 22 b hb
    | 23, hb => exact e3 23 b hb
    | 24, hb => exact e3 24 b hb
    | 25, hb => exact e3 25 b hb
    | 26, hb => exact e3 26 b hb
    | 27, hb => exact e3 27 b hb
    | 28, hb => exact e3 28 b hb
    | 29, hb => exact e3 29 b hb
    | 30, hb => exact e3 30 b hb
    | 31, hb => exact e3 31 b hb
    | 32, hb => exact e3 32 b hb
    | j + 33, hb => exact e3 (j + 33) b (by cases hb)
theorem et_back {ν : Nat → Int32} {D : va_G} {τ : Nat → ClassId} {sa : List Nat} {ro : List ex_C} {A : Nat → Prop} {ws : va_W} {H : Heap} {L a s t v n : Int} (hL : L = (ν 2).toInt) (h0 : 0 ≤ L ∧ L ≤ 300) (h1 : 0 ≤ a ∧ a ≤ 301) (h2 : 0 ≤ s ∧ s ≤ 300) (h3 : 0 ≤ n ∧ n ≤ 300) (h : er_W ν D τ sa ro A (et_r L a s t v n) ws H) : er_W ν D τ sa ro A ei_h0 ws H := by
  have hat : ex_at (et_r L a s t v n) 345 = some ((nat_lit 3), (nat_lit 12), (nat_lit 0), (nat_lit 0), [.inr (.inr (.inl (some (nat_lit 346)))), .inr (.inr (.inl (some (nat_lit 347)))), .inr (.inr (.inl (some (nat_lit 348)))), .inr (.inr (.inl (some (nat_lit 349)))), .inr (.inr (.inr (.inr (.inl ((Int.negSucc (nat_lit 9223372036854775807)), (Int.ofNat (nat_lit 9223372036854775807))))))), .inr (.inr (.inr (.inr (.inl ((Int.negSucc (nat_lit 9223372036854775807)), (Int.ofNat (nat_lit 9223372036854775807))))))), .inr (.inr (.inl (some (nat_lit 350)))), .inl L, .inl a, .inl s, .inl t, .inl v, .inr (.inr (.inl (some (nat_lit 351)))), .inr (.inr (.inl (some (nat_lit 352)))), .inl n, .inr (.inr (.inl (some (nat_lit 353)))), .inr (.inr (.inl (some (nat_lit 354)))), .inr (.inr (.inl (some (nat_lit 355)))), .inr (.inr (.inl (some (nat_lit 356)))), .inr (.inr (.inl (some (nat_lit 357)))), .inr (.inr (.inr (.inl ((Int.negSucc (nat_lit 2147483647)), (Int.ofNat (nat_lit 2147483647)))))), .inr (.inr (.inr (.inl ((Int.negSucc (nat_lit 2147483647)), (Int.ofNat (nat_lit 2147483647)))))), .inr (.inr (.inr (.inl ((Int.negSucc (nat_lit 2147483647)), (Int.ofNat (nat_lit 2147483647)))))), .inr (.inr (.inl (some (nat_lit 358)))), .inr (.inr (.inr (.inl ((Int.negSucc (nat_lit 2147483647)), (Int.ofNat (nat_lit 2147483647)))))), .inr (.inr (.inl (some (nat_lit 359)))), .inr (.inr (.inl (some (nat_lit 360)))), .inr (.inr (.inl (some (nat_lit 361)))), .inr (.inr (.inl (some (nat_lit 362)))), .inr (.inr (.inl (some (nat_lit 363)))), .inr (.inr (.inl (some (nat_lit 364)))), .inr (.inr (.inl (some (nat_lit 365)))), .inr (.inr (.inl (some (nat_lit 366))))]) := rfl
  obtain ⟨y, g1, g2⟩ := h.2.2.2.2 345 _ (Nat.le_of_ble_eq_true rfl) hat
  have h' := h.put (q := 345) (c := ((nat_lit 3), (nat_lit 12), (nat_lit 0), (nat_lit 0), [.inr (.inr (.inl (some (nat_lit 346)))), .inr (.inr (.inl (some (nat_lit 347)))), .inr (.inr (.inl (some (nat_lit 348)))), .inr (.inr (.inl (some (nat_lit 349)))), .inr (.inr (.inr (.inr (.inl ((Int.negSucc (nat_lit 9223372036854775807)), (Int.ofNat (nat_lit 9223372036854775807))))))), .inr (.inr (.inr (.inr (.inl ((Int.negSucc (nat_lit 9223372036854775807)), (Int.ofNat (nat_lit 9223372036854775807))))))), .inr (.inr (.inl (some (nat_lit 350)))), .inr (.inr (.inr (.inr (.inr ((nat_lit 2), (Int.ofNat (nat_lit 0)), (Int.ofNat (nat_lit 300))))))), .inr (.inr (.inr (.inl ((Int.ofNat (nat_lit 0)), (Int.ofNat (nat_lit 301)))))), .inr (.inr (.inr (.inl ((Int.ofNat (nat_lit 0)), (Int.ofNat (nat_lit 300)))))), .inr (.inr (.inr (.inl ((Int.negSucc (nat_lit 2147483647)), (Int.ofNat (nat_lit 2147483647)))))), .inr (.inr (.inr (.inl ((Int.negSucc (nat_lit 2147483647)), (Int.ofNat (nat_lit 2147483647)))))), .inr (.inr (.inl (some (nat_lit 351)))), .inr (.inr (.inl (some (nat_lit 352)))), .inr (.inr (.inr (.inl ((Int.ofNat (nat_lit 0)), (Int.ofNat (nat_lit 300)))))), .inr (.inr (.inl (some (nat_lit 353)))), .inr (.inr (.inl (some (nat_lit 354)))), .inr (.inr (.inl (some (nat_lit 355)))), .inr (.inr (.inl (some (nat_lit 356)))), .inr (.inr (.inl (some (nat_lit 357)))), .inr (.inr (.inr (.inl ((Int.negSucc (nat_lit 2147483647)), (Int.ofNat (nat_lit 2147483647)))))), .inr (.inr (.inr (.inl ((Int.negSucc (nat_lit 2147483647)), (Int.ofNat (nat_lit 2147483647)))))), .inr (.inr (.inr (.inl ((Int.negSucc (nat_lit 2147483647)), (Int.ofNat (nat_lit 2147483647)))))), .inr (.inr (.inl (some (nat_lit 358)))), .inr (.inr (.inr (.inl ((Int.negSucc (nat_lit 2147483647)), (Int.ofNat (nat_lit 2147483647)))))), .inr (.inr (.inl (some (nat_lit 359)))), .inr (.inr (.inl (some (nat_lit 360)))), .inr (.inr (.inl (some (nat_lit 361)))), .inr (.inr (.inl (some (nat_lit 362)))), .inr (.inr (.inl (some (nat_lit 363)))), .inr (.inr (.inl (some (nat_lit 364)))), .inr (.inr (.inl (some (nat_lit 365)))), .inr (.inr (.inl (some (nat_lit 366))))])) (Nat.le_of_ble_eq_true rfl) hat (fun y' hy => by
    rw [g1] at hy
    cases hy
    rcases g2 with ⟨hz, -⟩ | ⟨hz, -⟩ | ⟨hz, -⟩ | ⟨-, vs, e1, e2, e3⟩
    · cases hz
    · cases hz
    · cases hz
    · refine Or.inr (Or.inr (Or.inr ⟨rfl, vs, e1, e2, fun j b hb => ?_⟩))
      match j, hb with
      | 0, hb => exact e3 0 b hb
      | 1, hb => exact e3 1 b hb
      | 2, hb => exact e3 2 b hb
      | 3, hb => exact e3 3 b hb
      | 4, hb => exact e3 4 b hb
      | 5, hb => exact e3 5 b hb
      | 6, hb => exact e3 6 b hb
      | 7, hb =>
        cases hb
        obtain ⟨w, f, x, rfl, e⟩ := e3 7 _ rfl
        have ex : x = ν 2 := Int32.toInt_inj.mp (by rw [e, hL])
        subst ex
        exact ⟨_, f, rfl, by show (0 : Int) ≤ (ν 2).toInt; omega, by show (ν 2).toInt ≤ 300; omega⟩
      | 8, hb =>
        cases hb
        obtain ⟨w, f, x, rfl, e⟩ := e3 8 _ rfl
        have := ey_i32 x
        exact ⟨_, f, x, rfl, by show (0 : Int) ≤ x.toInt; omega, by show x.toInt ≤ (301 : Int); omega⟩
      | 9, hb =>
        cases hb
        obtain ⟨w, f, x, rfl, e⟩ := e3 9 _ rfl
        have := ey_i32 x
        exact ⟨_, f, x, rfl, by show (0 : Int) ≤ x.toInt; omega, by show x.toInt ≤ (300 : Int); omega⟩
      | 10, hb =>
        cases hb
        obtain ⟨w, f, x, rfl, e⟩ := e3 10 _ rfl
        have := ey_i32 x
        exact ⟨_, f, x, rfl, by show (-2147483648 : Int) ≤ x.toInt; omega, by show x.toInt ≤ (2147483647 : Int); omega⟩
      | 11, hb =>
        cases hb
        obtain ⟨w, f, x, rfl, e⟩ := e3 11 _ rfl
        have := ey_i32 x
        exact ⟨_, f, x, rfl, by show (-2147483648 : Int) ≤ x.toInt; omega, by show x.toInt ≤ (2147483647 : Int); omega⟩
      | 12, hb => exact e3 12 b hb
      | 13, hb => exact e3 13 b hb
      | 14, hb =>
        cases hb
        obtain ⟨w, f, x, rfl, e⟩ := e3 14 _ rfl
        have := ey_i32 x
        exact ⟨_, f, x, rfl, by show (0 : Int) ≤ x.toInt; omega, by show x.toInt ≤ (300 : Int); omega⟩
      | 15, hb => exact e3 15 b hb
      | 16, hb => exact e3 16 b hb
      | 17, hb => exact e3 17 b hb
      | 18, hb => exact e3 18 b hb
      | 19, hb => exact e3 19 b hb
      | 20, hb => exact e3 20 b hb
      | 21, hb => exact e3 21 b hb
      | 22, hb => exact e3 22 b hb
      | 23, hb => exact e3 23 b hb
      | 24, hb => exact e3 24 b hb
      | 25, hb => exact e3 25 b hb
      | 26, hb => exact e3 26 b hb
      | 27, hb => exact e3 27 b hb
      | 28, hb => exact e3 28 b hb
      | 29, hb => exact e3 29 b hb
      | 30, hb => exact e3 30 b hb
      | 31, hb => exact e3 31 b hb
      | 32, hb => exact e3 32 b hb
      | j + 33, hb => exact e3 (j + 33) b (by cases hb))
  refine ⟨h'.1, h'.2.1, h'.2.2.1, fun q c hq hc => h'.2.2.2.1 q c hq ?_, fun q c hq hc => h'.2.2.2.2 q c hq ?_⟩
  · rw [ex_hput_at hat q]
    by_cases e : q = 345
    · subst e; rw [if_pos rfl]; exact hc
    · rw [if_neg e]
      have e1 : ex_at (et_r L a s t v n) q = ex_at ei_h0 q := by unfold et_r; rw [ex_hput_at et_at0 q, if_neg e]
      rw [e1]
      exact hc
  · rw [ex_hput_at hat q]
    by_cases e : q = 345
    · subst e; rw [if_pos rfl]; exact hc
    · rw [if_neg e]
      have e1 : ex_at (et_r L a s t v n) q = ex_at ei_h0 q := by unfold et_r; rw [ex_hput_at et_at0 q, if_neg e]
      rw [e1]
      exact hc
theorem et_backt {ν : Nat → Int32} {D : va_G} {τ : Nat → ClassId} {sa : List Nat} {ro : List ex_C} {A : Nat → Prop} {ws : va_W} {H : Heap} {L a s t v n : Int} (h0 : 0 ≤ L ∧ L ≤ 300) (h1 : 0 ≤ a ∧ a ≤ 301) (h2 : 0 ≤ s ∧ s ≤ 300) (h3 : 0 ≤ n ∧ n ≤ 300) (h : er_W ν D τ sa ro A (et_r L a s t v n) ws H) : er_W ν D τ sa ro A eih_t ws H := by
  have hat : ex_at (et_r L a s t v n) 345 = some ((nat_lit 3), (nat_lit 12), (nat_lit 0), (nat_lit 0), [.inr (.inr (.inl (some (nat_lit 346)))), .inr (.inr (.inl (some (nat_lit 347)))), .inr (.inr (.inl (some (nat_lit 348)))), .inr (.inr (.inl (some (nat_lit 349)))), .inr (.inr (.inr (.inr (.inl ((Int.negSucc (nat_lit 9223372036854775807)), (Int.ofNat (nat_lit 9223372036854775807))))))), .inr (.inr (.inr (.inr (.inl ((Int.negSucc (nat_lit 9223372036854775807)), (Int.ofNat (nat_lit 9223372036854775807))))))), .inr (.inr (.inl (some (nat_lit 350)))), .inl L, .inl a, .inl s, .inl t, .inl v, .inr (.inr (.inl (some (nat_lit 351)))), .inr (.inr (.inl (some (nat_lit 352)))), .inl n, .inr (.inr (.inl (some (nat_lit 353)))), .inr (.inr (.inl (some (nat_lit 354)))), .inr (.inr (.inl (some (nat_lit 355)))), .inr (.inr (.inl (some (nat_lit 356)))), .inr (.inr (.inl (some (nat_lit 357)))), .inr (.inr (.inr (.inl ((Int.negSucc (nat_lit 2147483647)), (Int.ofNat (nat_lit 2147483647)))))), .inr (.inr (.inr (.inl ((Int.negSucc (nat_lit 2147483647)), (Int.ofNat (nat_lit 2147483647)))))), .inr (.inr (.inr (.inl ((Int.negSucc (nat_lit 2147483647)), (Int.ofNat (nat_lit 2147483647)))))), .inr (.inr (.inl (some (nat_lit 358)))), .inr (.inr (.inr (.inl ((Int.negSucc (nat_lit 2147483647)), (Int.ofNat (nat_lit 2147483647)))))), .inr (.inr (.inl (some (nat_lit 359)))), .inr (.inr (.inl (some (nat_lit 360)))), .inr (.inr (.inl (some (nat_lit 361)))), .inr (.inr (.inl (some (nat_lit 362)))), .inr (.inr (.inl (some (nat_lit 363)))), .inr (.inr (.inl (some (nat_lit 364)))), .inr (.inr (.inl (some (nat_lit 365)))), .inr (.inr (.inl (some (nat_lit 366))))]) := rfl
  obtain ⟨y, g1, g2⟩ := h.2.2.2.2 345 _ (Nat.le_of_ble_eq_true rfl) hat
  have h' := h.put (q := 345) (c := ((nat_lit 3), (nat_lit 12), (nat_lit 0), (nat_lit 0), [.inr (.inr (.inl (some (nat_lit 346)))), .inr (.inr (.inl (some (nat_lit 347)))), .inr (.inr (.inl (some (nat_lit 348)))), .inr (.inr (.inl (some (nat_lit 349)))), .inr (.inr (.inr (.inr (.inl ((Int.negSucc (nat_lit 9223372036854775807)), (Int.ofNat (nat_lit 9223372036854775807))))))), .inr (.inr (.inr (.inr (.inl ((Int.negSucc (nat_lit 9223372036854775807)), (Int.ofNat (nat_lit 9223372036854775807))))))), .inr (.inr (.inl (some (nat_lit 350)))), .inr (.inr (.inr (.inl ((Int.ofNat (nat_lit 0)), (Int.ofNat (nat_lit 300)))))), .inr (.inr (.inr (.inl ((Int.ofNat (nat_lit 0)), (Int.ofNat (nat_lit 301)))))), .inr (.inr (.inr (.inl ((Int.ofNat (nat_lit 0)), (Int.ofNat (nat_lit 300)))))), .inr (.inr (.inr (.inl ((Int.negSucc (nat_lit 2147483647)), (Int.ofNat (nat_lit 2147483647)))))), .inr (.inr (.inr (.inl ((Int.negSucc (nat_lit 2147483647)), (Int.ofNat (nat_lit 2147483647)))))), .inr (.inr (.inl (some (nat_lit 351)))), .inr (.inr (.inl (some (nat_lit 352)))), .inr (.inr (.inr (.inl ((Int.ofNat (nat_lit 0)), (Int.ofNat (nat_lit 300)))))), .inr (.inr (.inl (some (nat_lit 353)))), .inr (.inr (.inl (some (nat_lit 354)))), .inr (.inr (.inl (some (nat_lit 355)))), .inr (.inr (.inl (some (nat_lit 356)))), .inr (.inr (.inl (some (nat_lit 357)))), .inr (.inr (.inr (.inl ((Int.negSucc (nat_lit 2147483647)), (Int.ofNat (nat_lit 2147483647)))))), .inr (.inr (.inr (.inl ((Int.negSucc (nat_lit 2147483647)), (Int.ofNat (nat_lit 2147483647)))))), .inr (.inr (.inr (.inl ((Int.negSucc (nat_lit 2147483647)), (Int.ofNat (nat_lit 2147483647)))))), .inr (.inr (.inl (some (nat_lit 358)))), .inr (.inr (.inr (.inl ((Int.negSucc (nat_lit 2147483647)), (Int.ofNat (nat_lit 2147483647)))))), .inr (.inr (.inl (some (nat_lit 359)))), .inr (.inr (.inl (some (nat_lit 360)))), .inr (.inr (.inl (some (nat_lit 361)))), .inr (.inr (.inl (some (nat_lit 362)))), .inr (.inr (.inl (some (nat_lit 363)))), .inr (.inr (.inl (some (nat_lit 364)))), .inr (.inr (.inl (some (nat_lit 365)))), .inr (.inr (.inl (some (nat_lit 366))))])) (Nat.le_of_ble_eq_true rfl) hat (fun y' hy => by
    rw [g1] at hy
    cases hy
    rcases g2 with ⟨hz, -⟩ | ⟨hz, -⟩ | ⟨hz, -⟩ | ⟨-, vs, e1, e2, e3⟩
    · cases hz
    · cases hz
    · cases hz
    · refine Or.inr (Or.inr (Or.inr ⟨rfl, vs, e1, e2, fun j b hb => ?_⟩))
      match j, hb with
      | 0, hb => exact e3 0 b hb
      | 1, hb => exact e3 1 b hb
      | 2, hb => exact e3 2 b hb
      | 3, hb => exact e3 3 b hb
      | 4, hb => exact e3 4 b hb
      | 5, hb => exact e3 5 b hb
      | 6, hb => exact e3 6 b hb
      | 7, hb =>
        cases hb
        obtain ⟨w, f, x, rfl, e⟩ := e3 7 _ rfl
        exact ⟨_, f, x, rfl, by show (0 : Int) ≤ x.toInt; omega, by show x.toInt ≤ 300; omega⟩
      | 8, hb =>
        cases hb
        obtain ⟨w, f, x, rfl, e⟩ := e3 8 _ rfl
        have := ey_i32 x
        exact ⟨_, f, x, rfl, by show (0 : Int) ≤ x.toInt; omega, by show x.toInt ≤ (301 : Int); omega⟩
      | 9, hb =>
        cases hb
        obtain ⟨w, f, x, rfl, e⟩ := e3 9 _ rfl
        have := ey_i32 x
        exact ⟨_, f, x, rfl, by show (0 : Int) ≤ x.toInt; omega, by show x.toInt ≤ (300 : Int); omega⟩
      | 10, hb =>
        cases hb
        obtain ⟨w, f, x, rfl, e⟩ := e3 10 _ rfl
        have := ey_i32 x
        exact ⟨_, f, x, rfl, by show (-2147483648 : Int) ≤ x.toInt; omega, by show x.toInt ≤ (2147483647 : Int); omega⟩
      | 11, hb =>
        cases hb
        obtain ⟨w, f, x, rfl, e⟩ := e3 11 _ rfl
        have := ey_i32 x
        exact ⟨_, f, x, rfl, by show (-2147483648 : Int) ≤ x.toInt; omega, by show x.toInt ≤ (2147483647 : Int); omega⟩
      | 12, hb => exact e3 12 b hb
      | 13, hb => exact e3 13 b hb
      | 14, hb =>
        cases hb
        obtain ⟨w, f, x, rfl, e⟩ := e3 14 _ rfl
        have := ey_i32 x
        exact ⟨_, f, x, rfl, by show (0 : Int) ≤ x.toInt; omega, by show x.toInt ≤ (300 : Int); omega⟩
      | 15, hb => exact e3 15 b hb
      | 16, hb => exact e3 16 b hb
      | 17, hb => exact e3 17 b hb
      | 18, hb => exact e3 18 b hb
      | 19, hb => exact e3 19 b hb
      | 20, hb => exact e3 20 b hb
      | 21, hb => exact e3 21 b hb
      | 22, hb => exact e3 22 b hb
      | 23, hb => exact e3 23 b hb
      | 24, hb => exact e3 24 b hb
      | 25, hb => exact e3 25 b hb
      | 26, hb => exact e3 26 b hb
      | 27, hb => exact e3 27 b hb
      | 28, hb => exact e3 28 b hb
      | 29, hb => exact e3 29 b hb
      | 30, hb => exact e3 30 b hb
      | 31, hb => exact e3 31 b hb
      | 32, hb => exact e3 32 b hb
      | j + 33, hb => exact e3 (j + 33) b (by cases hb))
  refine ⟨h'.1, h'.2.1, h'.2.2.1, fun q c hq hc => h'.2.2.2.1 q c hq ?_, fun q c hq hc => h'.2.2.2.2 q c hq ?_⟩
  · rw [ex_hput_at hat q]
    by_cases e : q = 345
    · subst e; rw [if_pos rfl]; exact hc
    · rw [if_neg e]
      have e1 : ex_at (et_r L a s t v n) q = ex_at ei_h0 q := by unfold et_r; rw [ex_hput_at et_at0 q, if_neg e]
      rw [e1]
      unfold eih_t at hc; rw [ex_hput_at et_at0 q, if_neg e] at hc; exact hc
  · rw [ex_hput_at hat q]
    by_cases e : q = 345
    · subst e; rw [if_pos rfl]; exact hc
    · rw [if_neg e]
      have e1 : ex_at (et_r L a s t v n) q = ex_at ei_h0 q := by unfold et_r; rw [ex_hput_at et_at0 q, if_neg e]
      rw [e1]
      unfold eih_t at hc; rw [ex_hput_at et_at0 q, if_neg e] at hc; exact hc
theorem ec_reads_k {l : Launch} {D : va_G} {τ : Nat → ClassId} {sa : List Nat} {A : Nat → Prop} (hmn : em_mna) : em_E l D τ sa A em_inf 155 ([(.inr (.inr (.inl (some 345))))], ei_h0, some (.inr (.inr (.inr (.inl (0, 1))))), ei_h0, 3) := by
  refine ⟨_, _, _, _, rfl, Nat.le_of_ble_eq_true rfl, fun ν ro avs ws hs => ?_⟩

  intro p e hA hc hk s' m args below hf happ hP hK
  obtain ⟨k1, k2, k3⟩ := hP
  obtain ⟨L, a, s, t, v, n, hL, hL0, ht, hv, hW⟩ := et_of k3
  obtain ⟨y', bytes', nl', ret', j1, j2, j3⟩ := eq_reads (l := l) (D := D) (τ := τ) (sa := sa) (A := A) hmn hL0 ⟨hv, ht⟩
  cases j1
  obtain ⟨n', o, h1, h2, h3, h4, h5⟩ := j3 ν ro _ ws hs p e hA hc hk s' m args below hf happ ⟨k1, k2, hW⟩ hK
  refine ⟨n', o, h1, h2, h3, ?_, h5⟩
  obtain ⟨⟨ov, hp', ws', rv, w1, w2, w3, w4, w5⟩, w6⟩ := h4
  obtain ⟨r, a, s, t, v, n, rfl, rfl, hr, hb⟩ := @of_decide_eq_true _ (Classical.propDecidable _) w2
  refine ⟨⟨ws', rv, w1, ?_, et_back hL hL0 (by omega) (by omega) (by omega) w4, w5⟩, w6⟩
  match rv, w3 with
  | some v, ⟨x, e1, e2⟩ => subst e1; exact ⟨x, rfl, by show (0 : Int) ≤ x.toInt; omega, by show x.toInt ≤ 1; omega⟩
  | none, w3 => exact w3.elim
theorem eq_ty_l {l : Launch} {D : va_G} {τ : Nat → ClassId} {sa : List Nat} {A : Nat → Prop} (hmn : em_mna) {own mname : String} {bytes : ByteArray} (hT : ∀ ch ∈ eu_149, ∀ x ∈ ch, ek_J em_inf et_cls et_vt own mname bytes x) {d : Nat} (hd : 1 ≤ d) {K : Option ex_V → ex_H → Bool} {a s t v n z m : Int} (hm : 1 ≤ m ∧ m ≤ 8) (hK : ∀ r L : Int, (-2147483648 ≤ r ∧ r ≤ 2147483647) → (0 ≤ L ∧ L ≤ 300) → K (some (.inl r)) (et_r L a s t v n) = true) : ∀ (i : Nat) (L k : Int), k < i → (-1 ≤ k ∧ k < m) → (0 ≤ L ∧ L + k + 1 ≤ 300) → em_G l D τ sa A own mname bytes 5 d (0, 0) (some .int) K (35, [some (.inr (.inr (.inl (some 345)))), some (.inr (.inl (z))), none, some (.inl (m)), some (.inl (k))], [], (et_r (L) (a) (s) (t) (v) (n)), 0, 0) := by
  intro i
  induction i with
  | zero =>
    intro L k hi hk hl
    refine ej_plain hmn (eg_at hT 1 2 rfl rfl) (pc' := 37) (ls' := [some (.inr (.inr (.inl (some 345)))), some (.inr (.inl (z))), none, some (.inl (m)), some (.inl (k))]) (st' := [.inl (k)]) (fun _ _ => rfl) ?_
    refine ej_ifCond hmn (eg_at hT 1 3 rfl rfl) (pc' := 40) rfl (fun _ => rfl) (fun (tc1 : k < 0) => ?_) (fun (tc1 : ¬ (k < 0)) => ?_)
    · refine ej_plain hmn (eg_at hT 2 5 rfl rfl) (pc' := 78) (ls' := [some (.inr (.inr (.inl (some 345)))), some (.inr (.inl (z))), none, some (.inl (m)), some (.inl (k))]) (st' := [.inr (.inr (.inl (some 345)))]) (fun _ _ => rfl) ?_
      refine ej_plain hmn (eg_at hT 2 6 rfl rfl) (pc' := 81) (ls' := [some (.inr (.inr (.inl (some 345)))), some (.inr (.inl (z))), none, some (.inl (m)), some (.inl (k))]) (st' := [.inl (L)]) (fun _ _ => rfl) ?_
      exact ej_ireturn hmn (eg_at hT 2 7 rfl rfl) (hK _ _ (by omega) (by omega))
    · exfalso
      omega
  | succ i ih =>
    intro L k hi hk hl
    refine ej_plain hmn (eg_at hT 1 2 rfl rfl) (pc' := 37) (ls' := [some (.inr (.inr (.inl (some 345)))), some (.inr (.inl (z))), none, some (.inl (m)), some (.inl (k))]) (st' := [.inl (k)]) (fun _ _ => rfl) ?_
    refine ej_ifCond hmn (eg_at hT 1 3 rfl rfl) (pc' := 40) rfl (fun _ => rfl) (fun (tc1 : k < 0) => ?_) (fun (tc1 : ¬ (k < 0)) => ?_)
    · refine ej_plain hmn (eg_at hT 2 5 rfl rfl) (pc' := 78) (ls' := [some (.inr (.inr (.inl (some 345)))), some (.inr (.inl (z))), none, some (.inl (m)), some (.inl (k))]) (st' := [.inr (.inr (.inl (some 345)))]) (fun _ _ => rfl) ?_
      refine ej_plain hmn (eg_at hT 2 6 rfl rfl) (pc' := 81) (ls' := [some (.inr (.inr (.inl (some 345)))), some (.inr (.inl (z))), none, some (.inl (m)), some (.inl (k))]) (st' := [.inl (L)]) (fun _ _ => rfl) ?_
      exact ej_ireturn hmn (eg_at hT 2 7 rfl rfl) (hK _ _ (by omega) (by omega))
    · refine ej_plain hmn (eg_at hT 1 4 rfl rfl) (pc' := 41) (ls' := [some (.inr (.inr (.inl (some 345)))), some (.inr (.inl (z))), none, some (.inl (m)), some (.inl (k))]) (st' := [.inr (.inr (.inl (some 345)))]) (fun _ _ => rfl) ?_
      refine ej_plain hmn (eg_at hT 1 5 rfl rfl) (pc' := 44) (ls' := [some (.inr (.inr (.inl (some 345)))), some (.inr (.inl (z))), none, some (.inl (m)), some (.inl (k))]) (st' := [.inr (.inr (.inl (some 350)))]) (fun _ _ => rfl) ?_
      refine ej_plain hmn (eg_at hT 1 6 rfl rfl) (pc' := 45) (ls' := [some (.inr (.inr (.inl (some 345)))), some (.inr (.inl (z))), none, some (.inl (m)), some (.inl (k))]) (st' := [.inr (.inr (.inl (some 345))), .inr (.inr (.inl (some 350)))]) (fun _ _ => rfl) ?_
      refine ej_plain hmn (eg_at hT 1 7 rfl rfl) (pc' := 48) (ls' := [some (.inr (.inr (.inl (some 345)))), some (.inr (.inl (z))), none, some (.inl (m)), some (.inl (k))]) (st' := [.inl (L), .inr (.inr (.inl (some 350)))]) (fun _ _ => rfl) ?_
      refine ej_plain hmn (eg_at hT 1 8 rfl rfl) (pc' := 49) (ls' := [some (.inr (.inr (.inl (some 345)))), some (.inr (.inl (z))), none, some (.inl (m)), some (.inl (k))]) (st' := [.inr (.inl (z)), .inl (L), .inr (.inr (.inl (some 350)))]) (fun _ _ => rfl) ?_
      refine ej_plain hmn (eg_at hT 1 9 rfl rfl) (pc' := 51) (ls' := [some (.inr (.inr (.inl (some 345)))), some (.inr (.inl (z))), none, some (.inl (m)), some (.inl (k))]) (st' := [.inl (8), .inr (.inl (z)), .inl (L), .inr (.inr (.inl (some 350)))]) (fun _ _ => rfl) ?_
      refine ej_plain hmn (eg_at hT 1 10 rfl rfl) (pc' := 53) (ls' := [some (.inr (.inr (.inl (some 345)))), some (.inr (.inl (z))), none, some (.inl (m)), some (.inl (k))]) (st' := [.inl (k), .inl (8), .inr (.inl (z)), .inl (L), .inr (.inr (.inl (some 350)))]) (fun _ _ => rfl) ?_
      refine ej_imul hmn (eg_at hT 1 11 rfl rfl) (pc' := 54) rfl (by omega) (by omega) ?_
      refine ej_plain hmn (eg_at hT 1 12 rfl rfl) (pc' := 55) (ls' := [some (.inr (.inr (.inl (some 345)))), some (.inr (.inl (z))), none, some (.inl (m)), some (.inl (k))]) (st' := [.inr (.inr (.inr (.inr (.inl (-9223372036854775808, 9223372036854775807))))), .inl (L), .inr (.inr (.inl (some 350)))]) (fun _ _ => rfl) ?_
      refine ej_someL (fun tv2 tv2a tv2b => ?_)
      refine ej_plain hmn (eg_at hT 1 13 rfl rfl) (pc' := 58) (ls' := [some (.inr (.inr (.inl (some 345)))), some (.inr (.inl (z))), none, some (.inl (m)), some (.inl (k))]) (st' := [.inr (.inl (255)), .inr (.inl (tv2)), .inl (L), .inr (.inr (.inl (some 350)))]) (fun _ _ => rfl) ?_
      refine ej_landw hmn (eg_at hT 1 14 rfl rfl) (pc' := 59) rfl (fun tv3 => ?_)
      refine ej_plain hmn (eg_at hT 1 15 rfl rfl) (pc' := 60) (ls' := [some (.inr (.inr (.inl (some 345)))), some (.inr (.inl (z))), none, some (.inl (m)), some (.inl (k))]) (st' := [.inr (.inr (.inr (.inl (-2147483648, 2147483647)))), .inl (L), .inr (.inr (.inl (some 350)))]) (fun _ _ => rfl) ?_
      refine ej_some (fun tv4 tv4a tv4b => ?_)
      refine ej_iastoreW hmn (eg_at hT 1 16 rfl rfl) (pc' := 61) (n := 300) (lo := (-2147483648)) (hi := (2147483647)) rfl rfl (fun _ => rfl) rfl (by omega) (by omega) (evw_350 _ (by omega)) (by omega) (by omega) ?_
      refine ej_plain hmn (eg_at hT 1 17 rfl rfl) (pc' := 62) (ls' := [some (.inr (.inr (.inl (some 345)))), some (.inr (.inl (z))), none, some (.inl (m)), some (.inl (k))]) (st' := [.inr (.inr (.inl (some 345)))]) (fun _ _ => rfl) ?_
      refine ej_plain hmn (eg_at hT 1 18 rfl rfl) (pc' := 63) (ls' := [some (.inr (.inr (.inl (some 345)))), some (.inr (.inl (z))), none, some (.inl (m)), some (.inl (k))]) (st' := [.inr (.inr (.inl (some 345))), .inr (.inr (.inl (some 345)))]) (fun _ _ => rfl) ?_
      refine ej_plain hmn (eg_at hT 1 19 rfl rfl) (pc' := 66) (ls' := [some (.inr (.inr (.inl (some 345)))), some (.inr (.inl (z))), none, some (.inl (m)), some (.inl (k))]) (st' := [.inl (L), .inr (.inr (.inl (some 345)))]) (fun _ _ => rfl) ?_
      refine ej_plain hmn (eg_at hT 2 0 rfl rfl) (pc' := 67) (ls' := [some (.inr (.inr (.inl (some 345)))), some (.inr (.inl (z))), none, some (.inl (m)), some (.inl (k))]) (st' := [.inl (1), .inl (L), .inr (.inr (.inl (some 345)))]) (fun _ _ => rfl) ?_
      refine ej_iadd hmn (eg_at hT 2 1 rfl rfl) (pc' := 68) rfl (by omega) (by omega) ?_
      refine ej_plain hmn (eg_at hT 2 2 rfl rfl) (pc' := 71) (ls' := [some (.inr (.inr (.inl (some 345)))), some (.inr (.inl (z))), none, some (.inl (m)), some (.inl (k))]) (st' := []) (hp' := (et_r (L + 1) (a) (s) (t) (v) (n))) (fun _ _ => rfl) ?_
      refine ej_iinc hmn (eg_at hT 2 3 rfl rfl) (pc' := 74) rfl (w := -1) rfl (fun _ => rfl) (lsf := fun V => [some (.inr (.inr (.inl (some 345)))), some (.inr (.inl (z))), none, some (.inl (m)), some V]) (fun _ _ => rfl) (by decide) (by decide) (by omega) (by omega) ?_
      refine ej_plain hmn (eg_at hT 2 4 rfl rfl) (pc' := 35) (ls' := [some (.inr (.inr (.inl (some 345)))), some (.inr (.inl (z))), none, some (.inl (m)), some (.inl (k + -1))]) (st' := []) (fun _ _ => rfl) ?_
      exact ih _ _ (by omega) (by omega) (by omega)
theorem eq_type {l : Launch} {D : va_G} {τ : Nat → ClassId} {sa : List Nat} {A : Nat → Prop} (hmn : em_mna) {L a s t v n z m : Int} (hL : 0 ≤ L ∧ L ≤ 300) (hm : (-2147483648 ≤ m ∧ m ≤ 2147483647)) : em_X l D τ sa A 149 [(.inr (.inr (.inl (some 345)))), .inr (.inl z), .inl m] (et_r L a s t v n) (fun w hp' => ∃ r L' : Int, w = some (.inl r) ∧ hp' = et_r L' a s t v n ∧ (-2147483648 ≤ r ∧ r ≤ 2147483647) ∧ (0 ≤ L' ∧ L' ≤ 300)) 1 := by
  refine em_X.of (tb := eu_149) (nl := 5) (ret := some .int) rfl (q := [some (.inr (.inr (.inl (some 345)))), some (.inr (.inl (z))), none, some (.inl (m)), none]) (fun _ => rfl) (fun own mname bytes hT => ?_)
  refine ej_plain hmn (eg_at hT 0 0 rfl rfl) (pc' := 1) (ls' := [some (.inr (.inr (.inl (some 345)))), some (.inr (.inl (z))), none, some (.inl (m)), none]) (st' := [.inl (m)]) (fun _ _ => rfl) ?_
  refine ej_plain hmn (eg_at hT 0 1 rfl rfl) (pc' := 2) (ls' := [some (.inr (.inr (.inl (some 345)))), some (.inr (.inl (z))), none, some (.inl (m)), none]) (st' := [.inr (.inl (m))]) (fun _ _ => rfl) ?_
  refine ej_plain hmn (eg_at hT 0 2 rfl rfl) (pc' := 3) (ls' := [some (.inr (.inr (.inl (some 345)))), some (.inr (.inl (z))), none, some (.inl (m)), none]) (st' := [.inr (.inl (1)), .inr (.inl (m))]) (fun _ _ => rfl) ?_
  refine ej_plain hmn (eg_at hT 0 3 rfl rfl) (pc' := 6) (ls' := [some (.inr (.inr (.inl (some 345)))), some (.inr (.inl (z))), none, some (.inl (m)), none]) (st' := [.inr (.inl (8)), .inr (.inl (1)), .inr (.inl (m))]) (fun _ _ => rfl) ?_
  refine ej_call hmn (eg_at hT 0 4 rfl rfl) (pc' := 9) (r := []) (eq_inG hmn (v := m) (lo := 1) (hi := 8)) (by omega) (fun _ _ => rfl) (fun v hp' hP => ?_)
  obtain ⟨r1, rfl, rfl, r1a, r1b⟩ := hP
  show em_G l D τ sa A own mname bytes 5 1 (0, 0) (some .int) _ (9, [some (.inr (.inr (.inl (some 345)))), some (.inr (.inl (z))), none, some (.inl (m)), none], [.inl (r1)], (et_r (L) (a) (s) (t) (v) (n)), 0, 0)
  refine ej_ifCond hmn (eg_at hT 0 5 rfl rfl) (pc' := 12) rfl (fun _ => rfl) (fun (uc1 : r1 ≠ 0) => ?_) (fun (uc1 : ¬ (r1 ≠ 0)) => ?_)
  · refine ej_plain hmn (eg_at hT 0 8 rfl rfl) (pc' := 16) (ls' := [some (.inr (.inr (.inl (some 345)))), some (.inr (.inl (z))), none, some (.inl (m)), none]) (st' := [.inr (.inr (.inl (some 345)))]) (fun _ _ => rfl) ?_
    refine ej_plain hmn (eg_at hT 0 9 rfl rfl) (pc' := 19) (ls' := [some (.inr (.inr (.inl (some 345)))), some (.inr (.inl (z))), none, some (.inl (m)), none]) (st' := [.inl (L)]) (fun _ _ => rfl) ?_
    refine ej_plain hmn (eg_at hT 0 10 rfl rfl) (pc' := 20) (ls' := [some (.inr (.inr (.inl (some 345)))), some (.inr (.inl (z))), none, some (.inl (m)), none]) (st' := [.inl (m), .inl (L)]) (fun _ _ => rfl) ?_
    refine ej_iadd hmn (eg_at hT 0 11 rfl rfl) (pc' := 21) rfl (by omega) (by omega) ?_
    refine ej_plain hmn (eg_at hT 0 12 rfl rfl) (pc' := 24) (ls' := [some (.inr (.inr (.inl (some 345)))), some (.inr (.inl (z))), none, some (.inl (m)), none]) (st' := [.inl (300), .inl (L + m)]) (fun _ _ => rfl) ?_
    refine ej_if_icmp hmn (eg_at hT 0 13 rfl rfl) (pc' := 27) rfl (fun _ => rfl) (fun (uc2 : L + m ≤ 300) => ?_) (fun (uc2 : ¬ (L + m ≤ 300)) => ?_)
    · refine ej_plain hmn (eg_at hT 0 16 rfl rfl) (pc' := 31) (ls' := [some (.inr (.inr (.inl (some 345)))), some (.inr (.inl (z))), none, some (.inl (m)), none]) (st' := [.inl (m)]) (fun _ _ => rfl) ?_
      refine ej_plain hmn (eg_at hT 0 17 rfl rfl) (pc' := 32) (ls' := [some (.inr (.inr (.inl (some 345)))), some (.inr (.inl (z))), none, some (.inl (m)), none]) (st' := [.inl (1), .inl (m)]) (fun _ _ => rfl) ?_
      refine ej_isub hmn (eg_at hT 1 0 rfl rfl) (pc' := 33) rfl (by omega) (by omega) ?_
      refine ej_plain hmn (eg_at hT 1 1 rfl rfl) (pc' := 35) (ls' := [some (.inr (.inr (.inl (some 345)))), some (.inr (.inl (z))), none, some (.inl (m)), some (.inl (m - 1))]) (st' := []) (fun _ _ => rfl) ?_
      exact eq_ty_l hmn hT (Nat.le_refl 1) (by omega) (fun r L h1 h2 => @decide_eq_true _ (Classical.propDecidable _) ⟨r, L, rfl, rfl, h1, h2⟩) 9 L (m - 1) (by omega) (by omega) (by omega)
    · refine ej_plain hmn (eg_at hT 0 14 rfl rfl) (pc' := 29) (ls' := [some (.inr (.inr (.inl (some 345)))), some (.inr (.inl (z))), none, some (.inl (m)), none]) (st' := [.inl (-300000)]) (fun _ _ => rfl) ?_
      exact ej_ireturn hmn (eg_at hT 0 15 rfl rfl) (@decide_eq_true _ (Classical.propDecidable _) ⟨_, L, rfl, rfl, by omega, by omega⟩)
  · refine ej_plain hmn (eg_at hT 0 6 rfl rfl) (pc' := 14) (ls' := [some (.inr (.inr (.inl (some 345)))), some (.inr (.inl (z))), none, some (.inl (m)), none]) (st' := [.inl (-100000)]) (fun _ _ => rfl) ?_
    exact ej_ireturn hmn (eg_at hT 0 7 rfl rfl) (@decide_eq_true _ (Classical.propDecidable _) ⟨_, L, rfl, rfl, by omega, by omega⟩)
