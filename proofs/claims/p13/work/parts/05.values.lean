/-! Which values a picture stands for; what the runner's arithmetic says of them. -/
/-- the addresses of the cells by their numbers, the ints by their names -/
abbrev ex_R : Type := List Nat × (Nat → Int32)
/-- more addresses, the same names -/
def er_ext (ρ ρ' : ex_R) : Prop := (∀ k q : Nat, ρ.1[k]? = some q → ρ'.1[k]? = some q) ∧ ρ'.2 = ρ.2
/-- a picture of a value, and a value that it stands for -/
def er_V (ρ : ex_R) (a : ex_V) (v : Value) : Prop := match a with
  | .inl z => ∃ x : Int32, v = .int x ∧ x.toInt = z
  | .inr (.inl z) => ∃ x : Int64, v = .long x ∧ x.toInt = z
  | .inr (.inr (.inl none)) => v = .null
  | .inr (.inr (.inl (some k))) => ∃ q : Nat, ρ.1[k]? = some q ∧ v = .ref q
  | .inr (.inr (.inr (.inl q))) => ∃ x : Int32, v = .int x ∧ q.1 ≤ x.toInt ∧ x.toInt ≤ q.2
  | .inr (.inr (.inr (.inr (.inl q)))) => ∃ x : Int64, v = .long x ∧ q.1 ≤ x.toInt ∧ x.toInt ≤ q.2
  | .inr (.inr (.inr (.inr (.inr q)))) => v = .int (ρ.2 q.1) ∧ q.2.1 ≤ (ρ.2 q.1).toInt ∧ (ρ.2 q.1).toInt ≤ q.2.2
theorem er_V.more {ρ ρ' : ex_R} {a : ex_V} {v : Value} (h : er_V ρ a v) (hp : er_ext ρ ρ') : er_V ρ' a v := by
  match a, h with
  | .inl z, h => exact h
  | .inr (.inl z), h => exact h
  | .inr (.inr (.inl none)), h => exact h
  | .inr (.inr (.inl (some k))), h =>
    obtain ⟨q, h1, h2⟩ := h
    exact ⟨q, hp.1 k q h1, h2⟩
  | .inr (.inr (.inr (.inl q))), h => exact h
  | .inr (.inr (.inr (.inr (.inl q)))), h => exact h
  | .inr (.inr (.inr (.inr (.inr q)))), h =>
    show v = .int (ρ'.2 q.1) ∧ q.2.1 ≤ (ρ'.2 q.1).toInt ∧ (ρ'.2 q.1).toInt ≤ q.2.2
    rw [hp.2]
    exact h
theorem er_cat {ρ : ex_R} {a : ex_V} {v : Value} (h : er_V ρ a v) : v.category = ex_cat a := by
  match a, h with
  | .inl z, h => obtain ⟨x, rfl, -⟩ := h; rfl
  | .inr (.inl z), h => obtain ⟨x, rfl, -⟩ := h; rfl
  | .inr (.inr (.inl none)), h => cases h; rfl
  | .inr (.inr (.inl (some k))), h => obtain ⟨q, -, rfl⟩ := h; rfl
  | .inr (.inr (.inr (.inl q))), h => obtain ⟨x, rfl, -⟩ := h; rfl
  | .inr (.inr (.inr (.inr (.inl q)))), h => obtain ⟨x, rfl, -⟩ := h; rfl
  | .inr (.inr (.inr (.inr (.inr q)))), h => obtain ⟨rfl, -⟩ := h; rfl
theorem er_int {ρ : ex_R} (x : Int32) : er_V ρ (.inl x.toInt) (.int x) := ⟨x, rfl, rfl⟩
theorem er_long {ρ : ex_R} (x : Int64) : er_V ρ (.inr (.inl x.toInt)) (.long x) := ⟨x, rfl, rfl⟩
theorem er_top {ρ : ex_R} (x : Int32) : er_V ρ ex_top (.int x) := by
  have h1 := Int32.le_toInt x
  have h2 := Int32.toInt_lt x
  exact ⟨x, rfl, by simpa using h1, by simp; omega⟩
theorem er_topL {ρ : ex_R} (x : Int64) : er_V ρ ex_topL (.long x) := by
  have h1 := Int64.le_toInt x
  have h2 := Int64.toInt_lt x
  exact ⟨x, rfl, by simpa using h1, by simp; omega⟩
theorem ex_i_ok {ρ : ex_R} {a : ex_V} {v : Value} {k : Int → Int → Bool} (h : ex_i a k = true) (hv : er_V ρ a v) : ∃ (x : Int32) (lo hi : Int), v = .int x ∧ lo ≤ x.toInt ∧ x.toInt ≤ hi ∧ k lo hi = true := by
  match a, h, hv with
  | .inl z, h, hv => obtain ⟨x, rfl, rfl⟩ := hv; exact ⟨x, _, _, rfl, Int.le_refl _, Int.le_refl _, h⟩
  | .inr (.inr (.inr (.inl q))), h, hv => obtain ⟨x, rfl, h1, h2⟩ := hv; exact ⟨x, _, _, rfl, h1, h2, h⟩
  | .inr (.inr (.inr (.inr (.inr q)))), h, hv => obtain ⟨rfl, h1, h2⟩ := hv; exact ⟨_, _, _, rfl, h1, h2, h⟩
  | .inr (.inl z), h, hv => exact absurd h Bool.false_ne_true
  | .inr (.inr (.inl z)), h, hv => exact absurd h Bool.false_ne_true
  | .inr (.inr (.inr (.inr (.inl z)))), h, hv => exact absurd h Bool.false_ne_true
theorem ex_l_ok {ρ : ex_R} {a : ex_V} {v : Value} {k : Int → Int → Bool} (h : ex_l a k = true) (hv : er_V ρ a v) : ∃ (x : Int64) (lo hi : Int), v = .long x ∧ lo ≤ x.toInt ∧ x.toInt ≤ hi ∧ k lo hi = true := by
  match a, h, hv with
  | .inr (.inl z), h, hv => obtain ⟨x, rfl, rfl⟩ := hv; exact ⟨x, _, _, rfl, Int.le_refl _, Int.le_refl _, h⟩
  | .inr (.inr (.inr (.inr (.inl q)))), h, hv => obtain ⟨x, rfl, h1, h2⟩ := hv; exact ⟨x, _, _, rfl, h1, h2, h⟩
  | .inr (.inr (.inr (.inr (.inr q)))), h, hv => exact absurd h Bool.false_ne_true
  | .inl z, h, hv => exact absurd h Bool.false_ne_true
  | .inr (.inr (.inl z)), h, hv => exact absurd h Bool.false_ne_true
  | .inr (.inr (.inr (.inl z))), h, hv => exact absurd h Bool.false_ne_true
theorem ex_ix_ok {ρ : ex_R} {a : ex_V} {v : Value} {k : Nat → Bool} (h : ex_ix a k = true) (hv : er_V ρ a v) : ∃ (x : Int32) (n : Nat), v = .int x ∧ x.toInt = (n : Int) ∧ k n = true := by
  match a, h, hv with
  | .inl (.ofNat n), h, hv => obtain ⟨x, rfl, e⟩ := hv; exact ⟨x, n, rfl, e, h⟩
  | .inl (.negSucc n), h, hv => exact absurd h Bool.false_ne_true
  | .inr (.inl z), h, hv => exact absurd h Bool.false_ne_true
  | .inr (.inr (.inl z)), h, hv => exact absurd h Bool.false_ne_true
  | .inr (.inr (.inr (.inr z))), h, hv => exact absurd h Bool.false_ne_true
  | .inr (.inr (.inr (.inl z))), h, hv => exact absurd h Bool.false_ne_true
theorem ex_each_ok {k : Nat → Bool} : ∀ (n i : Nat), ex_each n k i = true → ∀ j, i ≤ j → j ≤ i + n → k j = true := by
  intro n
  induction n with
  | zero =>
    intro i h j h1 h2
    obtain rfl : j = i := by omega
    exact h
  | succ n ih =>
    intro i h j h1 h2
    replace h : (k i && ex_n (Nat.succ i) (ex_each n k)) = true := h
    rw [Bool.and_eq_true, ex_n_eq] at h
    by_cases e : j = i
    · rw [e]; exact h.1
    · exact ih (Nat.succ i) h.2 j (by omega) (by omega)
theorem ex_iy_ok {ρ : ex_R} {a : ex_V} {v : Value} {k : Nat → Bool} (h : ex_iy a k = true) (hv : er_V ρ a v) : ∃ (x : Int32) (n : Nat), v = .int x ∧ x.toInt = (n : Int) ∧ k n = true := by
  have key : ∀ (lo hi : Nat) (x : Int32), (bif Nat.ble lo hi && Nat.ble (hi - lo) 400 then ex_n (hi - lo) (fun n => ex_each n k lo) else false) = true → (lo : Int) ≤ x.toInt → x.toInt ≤ (hi : Int) → ∃ n : Nat, x.toInt = (n : Int) ∧ k n = true := by
    intro lo hi x hh h1 h2
    cases hb : Nat.ble lo hi && Nat.ble (hi - lo) 400 with
    | false => rw [hb] at hh; exact absurd hh Bool.false_ne_true
    | true =>
      rw [hb] at hh
      replace hh : ex_n (hi - lo) (fun n => ex_each n k lo) = true := hh
      rw [ex_n_eq] at hh
      rw [Bool.and_eq_true] at hb
      have hle := Nat.le_of_ble_eq_true hb.1
      refine ⟨x.toInt.toNat, by omega, ex_each_ok _ _ hh _ (by omega) (by omega)⟩
  match a, h, hv with
  | .inl (.ofNat n), h, hv => obtain ⟨x, rfl, e⟩ := hv; exact ⟨x, n, rfl, e, h⟩
  | .inl (.negSucc n), h, hv => exact absurd h Bool.false_ne_true
  | .inr (.inl z), h, hv => exact absurd h Bool.false_ne_true
  | .inr (.inr (.inl z)), h, hv => exact absurd h Bool.false_ne_true
  | .inr (.inr (.inr (.inl (.ofNat lo, .ofNat hi)))), h, hv =>
    obtain ⟨x, rfl, h1, h2⟩ := hv
    obtain ⟨n, e1, e2⟩ := key lo hi x h h1 h2
    exact ⟨x, n, rfl, e1, e2⟩
  | .inr (.inr (.inr (.inl (.negSucc _, _)))), h, hv => exact absurd h Bool.false_ne_true
  | .inr (.inr (.inr (.inl (.ofNat _, .negSucc _)))), h, hv => exact absurd h Bool.false_ne_true
  | .inr (.inr (.inr (.inr (.inl z)))), h, hv => exact absurd h Bool.false_ne_true
  | .inr (.inr (.inr (.inr (.inr (_, .ofNat lo, .ofNat hi))))), h, hv =>
    obtain ⟨rfl, h1, h2⟩ := hv
    obtain ⟨n, e1, e2⟩ := key lo hi _ h h1 h2
    exact ⟨_, n, rfl, e1, e2⟩
  | .inr (.inr (.inr (.inr (.inr (_, .negSucc _, _))))), h, hv => exact absurd h Bool.false_ne_true
  | .inr (.inr (.inr (.inr (.inr (_, .ofNat _, .negSucc _))))), h, hv => exact absurd h Bool.false_ne_true
theorem ex_ref_ok {ρ : ex_R} {a : ex_V} {v : Value} {k : Nat → Bool} (h : ex_ref a k = true) (hv : er_V ρ a v) : ∃ (n q : Nat), a = .inr (.inr (.inl (some n))) ∧ ρ.1[n]? = some q ∧ v = .ref q ∧ k n = true := by
  match a, h, hv with
  | .inr (.inr (.inl (some n))), h, hv => obtain ⟨q, e, rfl⟩ := hv; exact ⟨n, q, rfl, e, rfl, h⟩
  | .inr (.inr (.inl none)), h, hv => exact absurd h Bool.false_ne_true
  | .inl z, h, hv => exact absurd h Bool.false_ne_true
  | .inr (.inl z), h, hv => exact absurd h Bool.false_ne_true
  | .inr (.inr (.inr (.inr z))), h, hv => exact absurd h Bool.false_ne_true
  | .inr (.inr (.inr (.inl z))), h, hv => exact absurd h Bool.false_ne_true
/-- an int at a place, as a place -/
theorem ex_ix_in {x : Int32} {n N : Nat} (h : x.toInt = (n : Int)) (hn : n < N) : vp_in x N ∧ x.toNatClampNeg = n := by
  have hc : x.toNatClampNeg = n := by
    show x.toInt.toNat = n
    rw [h]; rfl
  refine ⟨?_, hc⟩
  intro q
  rcases q with q | q
  · rw [Int32.lt_iff_toInt_lt, h, Int32.toInt_zero] at q
    omega
  · rw [hc] at q; omega
theorem ex_bin_ok {ρ : ex_R} {f : Int32 → Int32 → Int32} {a b : ex_V} {va vb : Value} {k : ex_V → Bool} (h : ex_bin f a b k = true) (ha : er_V ρ a va) (hb : er_V ρ b vb) :
    ∃ (x y : Int32) (r : ex_V), va = .int x ∧ vb = .int y ∧ er_V ρ r (.int (f x y)) ∧ k r = true := by
  have slow : ∀ (a b : ex_V), er_V ρ a va → er_V ρ b vb → ex_i a (fun _ _ => ex_i b (fun _ _ => k ex_top)) = true → ∃ (x y : Int32) (r : ex_V), va = .int x ∧ vb = .int y ∧ er_V ρ r (.int (f x y)) ∧ k r = true := by
    intro a b ha hb h
    obtain ⟨x, -, -, rfl, -, -, h⟩ := ex_i_ok h ha
    obtain ⟨y, -, -, rfl, -, -, h⟩ := ex_i_ok h hb
    exact ⟨x, y, ex_top, rfl, rfl, er_top _, h⟩
  match a, b, h, ha, hb with
  | .inl z, .inl w, h, ha, hb =>
    obtain ⟨x, rfl, rfl⟩ := ha
    obtain ⟨y, rfl, rfl⟩ := hb
    have h : ex_z (f (Int32.ofInt x.toInt) (Int32.ofInt y.toInt)).toInt (fun z => k (.inl z)) = true := h
    rw [ex_z_eq, Int32.ofInt_toInt, Int32.ofInt_toInt] at h
    exact ⟨x, y, _, rfl, rfl, er_int _, h⟩
  | .inl z, .inr w, h, ha, hb => exact slow _ _ ha hb h
  | .inr z, w, h, ha, hb => exact slow _ _ ha hb h
theorem ex_binL_ok {ρ : ex_R} {f : Int64 → Int64 → Int64} {a b : ex_V} {va vb : Value} {k : ex_V → Bool} (h : ex_binL f a b k = true) (ha : er_V ρ a va) (hb : er_V ρ b vb) :
    ∃ (x y : Int64) (r : ex_V), va = .long x ∧ vb = .long y ∧ er_V ρ r (.long (f x y)) ∧ k r = true := by
  have slow : ∀ (a b : ex_V), er_V ρ a va → er_V ρ b vb → ex_l a (fun _ _ => ex_l b (fun _ _ => k ex_topL)) = true → ∃ (x y : Int64) (r : ex_V), va = .long x ∧ vb = .long y ∧ er_V ρ r (.long (f x y)) ∧ k r = true := by
    intro a b ha hb h
    obtain ⟨x, -, -, rfl, -, -, h⟩ := ex_l_ok h ha
    obtain ⟨y, -, -, rfl, -, -, h⟩ := ex_l_ok h hb
    exact ⟨x, y, ex_topL, rfl, rfl, er_topL _, h⟩
  match a, b, h, ha, hb with
  | .inr (.inl z), .inr (.inl w), h, ha, hb =>
    obtain ⟨x, rfl, rfl⟩ := ha
    obtain ⟨y, rfl, rfl⟩ := hb
    have h : ex_z (f (Int64.ofInt x.toInt) (Int64.ofInt y.toInt)).toInt (fun z => k (.inr (.inl z))) = true := h
    rw [ex_z_eq, Int64.ofInt_toInt, Int64.ofInt_toInt] at h
    exact ⟨x, y, _, rfl, rfl, er_long _, h⟩
  | .inr (.inl z), .inr (.inr w), h, ha, hb => exact slow _ _ ha hb h
  | .inr (.inl z), .inl w, h, ha, hb => exact slow _ _ ha hb h
  | .inr (.inr z), w, h, ha, hb => exact slow _ _ ha hb h
  | .inl z, w, h, ha, hb => exact slow _ _ ha hb h
theorem ex_fit32_ok {z : Int} (h : ex_fit32 z = true) : -2147483648 ≤ z ∧ z < 2147483648 := by
  cases z with
  | ofNat n => have := Nat.le_of_ble_eq_true h; constructor <;> simp <;> omega
  | negSucc n => have := Nat.le_of_ble_eq_true h; constructor <;> omega
theorem ex_wrap {z : Int} (h1 : -2147483648 ≤ z) (h2 : z < 2147483648) : z.bmod (2 ^ 32) = z := by
  apply Int.bmod_eq_of_le
  · simpa using h1
  · simpa using h2
theorem ex_rng_ok {ρ : ex_R} {p q : Int} {x : Int32} {k : ex_V → Bool} (h : ex_rng p q k = true) (hx : ex_fit32 p = true → ex_fit32 q = true → p ≤ x.toInt ∧ x.toInt ≤ q) : ∃ r, er_V ρ r (.int x) ∧ k r = true := by
  unfold ex_rng at h
  simp only [ex_z_eq] at h
  by_cases hf : (ex_fit32 p && ex_fit32 q) = true
  · rw [if_pos hf] at h
    rw [Bool.and_eq_true] at hf
    exact ⟨.inr (.inr (.inr (.inl (p, q)))), ⟨x, rfl, hx hf.1 hf.2⟩, h⟩
  · rw [if_neg hf] at h
    exact ⟨ex_top, er_top x, h⟩
theorem ex_add_ok {ρ : ex_R} {a b : ex_V} {va vb : Value} {k : ex_V → Bool} (h : ex_add a b k = true) (ha : er_V ρ a va) (hb : er_V ρ b vb) :
    ∃ (x y : Int32) (r : ex_V), va = .int x ∧ vb = .int y ∧ er_V ρ r (.int (x + y)) ∧ k r = true := by
  have slow : ∀ (a b : ex_V), er_V ρ a va → er_V ρ b vb → ex_i a (fun u v => ex_i b (fun x y => ex_rng (u + x) (v + y) k)) = true → ∃ (x y : Int32) (r : ex_V), va = .int x ∧ vb = .int y ∧ er_V ρ r (.int (x + y)) ∧ k r = true := by
    intro a b ha hb h
    obtain ⟨x, u, v, rfl, h1, h2, h⟩ := ex_i_ok h ha
    obtain ⟨y, u', v', rfl, h3, h4, h⟩ := ex_i_ok h hb
    obtain ⟨r, g1, g2⟩ := ex_rng_ok (ρ := ρ) (x := x + y) h (fun f1 f2 => by
      have f1 := ex_fit32_ok f1
      have f2 := ex_fit32_ok f2
      rw [Int32.toInt_add, ex_wrap (by omega) (by omega)]
      omega)
    exact ⟨x, y, r, rfl, rfl, g1, g2⟩
  match a, b, h, ha, hb with
  | .inl z, .inl w, h, ha, hb =>
    have h : ex_z (z + w) (fun v => if ex_fit32 v then k (.inl v) else ex_bin (· + ·) (.inl z) (.inl w) k) = true := h
    rw [ex_z_eq] at h
    by_cases hf : ex_fit32 (z + w) = true
    · rw [if_pos hf] at h
      obtain ⟨x, rfl, rfl⟩ := ha
      obtain ⟨y, rfl, rfl⟩ := hb
      obtain ⟨h1, h2⟩ := ex_fit32_ok hf
      exact ⟨x, y, .inl (x.toInt + y.toInt), rfl, rfl, ⟨x + y, rfl, by rw [Int32.toInt_add, ex_wrap h1 h2]⟩, h⟩
    · rw [if_neg hf] at h
      exact ex_bin_ok h ha hb
  | .inl z, .inr w, h, ha, hb => exact slow _ _ ha hb h
  | .inr z, w, h, ha, hb => exact slow _ _ ha hb h
theorem ex_sub_ok {ρ : ex_R} {a b : ex_V} {va vb : Value} {k : ex_V → Bool} (h : ex_sub a b k = true) (ha : er_V ρ a va) (hb : er_V ρ b vb) :
    ∃ (x y : Int32) (r : ex_V), va = .int x ∧ vb = .int y ∧ er_V ρ r (.int (x - y)) ∧ k r = true := by
  have slow : ∀ (a b : ex_V), er_V ρ a va → er_V ρ b vb → ex_i a (fun u v => ex_i b (fun x y => ex_rng (u - y) (v - x) k)) = true → ∃ (x y : Int32) (r : ex_V), va = .int x ∧ vb = .int y ∧ er_V ρ r (.int (x - y)) ∧ k r = true := by
    intro a b ha hb h
    obtain ⟨x, u, v, rfl, h1, h2, h⟩ := ex_i_ok h ha
    obtain ⟨y, u', v', rfl, h3, h4, h⟩ := ex_i_ok h hb
    obtain ⟨r, g1, g2⟩ := ex_rng_ok (ρ := ρ) (x := x - y) h (fun f1 f2 => by
      have f1 := ex_fit32_ok f1
      have f2 := ex_fit32_ok f2
      rw [Int32.toInt_sub, ex_wrap (by omega) (by omega)]
      omega)
    exact ⟨x, y, r, rfl, rfl, g1, g2⟩
  match a, b, h, ha, hb with
  | .inl z, .inl w, h, ha, hb =>
    have h : ex_z (z - w) (fun v => if ex_fit32 v then k (.inl v) else ex_bin (· - ·) (.inl z) (.inl w) k) = true := h
    rw [ex_z_eq] at h
    by_cases hf : ex_fit32 (z - w) = true
    · rw [if_pos hf] at h
      obtain ⟨x, rfl, rfl⟩ := ha
      obtain ⟨y, rfl, rfl⟩ := hb
      obtain ⟨h1, h2⟩ := ex_fit32_ok hf
      exact ⟨x, y, .inl (x.toInt - y.toInt), rfl, rfl, ⟨x - y, rfl, by rw [Int32.toInt_sub, ex_wrap h1 h2]⟩, h⟩
    · rw [if_neg hf] at h
      exact ex_bin_ok h ha hb
  | .inl z, .inr w, h, ha, hb => exact slow _ _ ha hb h
  | .inr z, w, h, ha, hb => exact slow _ _ ha hb h
theorem ex_mul_ok {ρ : ex_R} {a b : ex_V} {va vb : Value} {k : ex_V → Bool} (h : ex_mul a b k = true) (ha : er_V ρ a va) (hb : er_V ρ b vb) :
    ∃ (x y : Int32) (r : ex_V), va = .int x ∧ vb = .int y ∧ er_V ρ r (.int (x * y)) ∧ k r = true := by
  have slow : ∀ (a b : ex_V), er_V ρ a va → er_V ρ b vb → ex_i a (fun u v => ex_i b (fun x y => if ex_le 0 u && ex_le 0 x then ex_rng (u * x) (v * y) k else k ex_top)) = true → ∃ (x y : Int32) (r : ex_V), va = .int x ∧ vb = .int y ∧ er_V ρ r (.int (x * y)) ∧ k r = true := by
    intro a b ha hb h
    obtain ⟨x, u, v, rfl, h1, h2, hq⟩ := ex_i_ok h ha
    obtain ⟨y, u', v', rfl, h3, h4, hk⟩ := ex_i_ok hq hb
    by_cases hc : (ex_le 0 u && ex_le 0 u') = true
    · rw [if_pos hc] at hk
      rw [Bool.and_eq_true, ex_le_iff, ex_le_iff] at hc
      have m1 : u * u' ≤ x.toInt * y.toInt := Int.mul_le_mul h1 h3 hc.2 (by omega)
      have m2 : x.toInt * y.toInt ≤ v * v' := Int.mul_le_mul h2 h4 (by omega) (by omega)
      obtain ⟨r, g1, g2⟩ := ex_rng_ok (ρ := ρ) (x := x * y) hk (fun f1 f2 => by
        have f1 := ex_fit32_ok f1
        have f2 := ex_fit32_ok f2
        rw [Int32.toInt_mul, ex_wrap (by omega) (by omega)]
        exact ⟨m1, m2⟩)
      exact ⟨x, y, r, rfl, rfl, g1, g2⟩
    · rw [if_neg hc] at hk
      exact ⟨x, y, ex_top, rfl, rfl, er_top _, hk⟩
  match a, b, h, ha, hb with
  | .inl z, .inl w, h, ha, hb =>
    have h : ex_z (z * w) (fun v => if ex_fit32 v then k (.inl v) else ex_bin (· * ·) (.inl z) (.inl w) k) = true := h
    rw [ex_z_eq] at h
    by_cases hf : ex_fit32 (z * w) = true
    · rw [if_pos hf] at h
      obtain ⟨x, rfl, rfl⟩ := ha
      obtain ⟨y, rfl, rfl⟩ := hb
      obtain ⟨h1, h2⟩ := ex_fit32_ok hf
      exact ⟨x, y, .inl (x.toInt * y.toInt), rfl, rfl, ⟨x * y, rfl, by rw [Int32.toInt_mul, ex_wrap h1 h2]⟩, h⟩
    · rw [if_neg hf] at h
      exact ex_bin_ok h ha hb
  | .inl z, .inr w, h, ha, hb => exact slow _ _ ha hb h
  | .inr z, w, h, ha, hb => exact slow _ _ ha hb h
theorem ex_div_n {x y : Int32} (hx : 0 ≤ x.toInt) (hy : 1 ≤ y.toInt) : (x / y).toInt = x.toInt / y.toInt ∧ 0 ≤ x.toInt / y.toInt ∧ x.toInt / y.toInt ≤ x.toInt := by
  have h1 : x.toInt.tdiv y.toInt = x.toInt / y.toInt := Int.tdiv_eq_ediv_of_nonneg hx
  have h2 : 0 ≤ x.toInt / y.toInt := Int.ediv_nonneg hx (by omega)
  have h3 : x.toInt / y.toInt ≤ x.toInt := Int.ediv_le_self _ hx
  have h4 := Int32.toInt_lt x
  refine ⟨?_, h2, h3⟩
  rw [Int32.toInt_div, h1]
  exact ex_wrap (by omega) (by simp at h4; omega)
theorem ex_quo_ok {ρ : ex_R} {a b : ex_V} {va vb : Value} {k : ex_V → Bool} (h : ex_quo a b k = true) (ha : er_V ρ a va) (hb : er_V ρ b vb) :
    ∃ (x y : Int32) (r : ex_V), va = .int x ∧ vb = .int y ∧ er_V ρ r (.int (x / y)) ∧ k r = true := by
  match a, b, h, ha, hb with
  | .inl z, .inl w, h, ha, hb => exact ex_bin_ok (f := (· / ·)) (a := .inl z) (b := .inl w) (k := k) h ha hb
  | .inl z, .inr w, h, ha, hb => exact ex_bin_ok (f := (· / ·)) (a := .inl z) (b := .inr w) (k := k) h ha hb
  | .inr z, .inr w, h, ha, hb => exact ex_bin_ok (f := (· / ·)) (a := .inr z) (b := .inr w) (k := k) h ha hb
  | .inr z, .inl w, h, ha, hb =>
    replace h : ex_i (.inr z) (fun u v => if ex_le 0 u && ex_le 1 w then ex_rng 0 v k else ex_bin (· / ·) (.inr z) (.inl w) k) = true := h
    obtain ⟨x, u, v, rfl, h1, h2, hk⟩ := ex_i_ok h ha
    clear h
    by_cases hc : (ex_le 0 u && ex_le 1 w) = true
    · rw [if_pos hc] at hk
      rw [Bool.and_eq_true, ex_le_iff, ex_le_iff] at hc
      obtain ⟨y, rfl, rfl⟩ := hb
      obtain ⟨d1, d2, d3⟩ := ex_div_n (x := x) (y := y) (by omega) hc.2
      obtain ⟨r, g1, g2⟩ := ex_rng_ok (ρ := ρ) (x := x / y) hk (fun _ _ => by omega)
      exact ⟨x, y, r, rfl, rfl, g1, g2⟩
    · rw [if_neg hc] at hk
      exact ex_bin_ok (f := (· / ·)) hk ha hb
theorem ex_rst_n {x y : Int32} (hx : 0 ≤ x.toInt) (hc2 : 1 ≤ y.toInt) : (x - x / y * y).toInt = x.toInt % y.toInt ∧ 0 ≤ x.toInt % y.toInt ∧ x.toInt % y.toInt < y.toInt := by
  obtain ⟨d1, d2, d3⟩ := ex_div_n (x := x) (y := y) hx hc2
  have m1 : 0 ≤ x.toInt % y.toInt := Int.emod_nonneg _ (by omega)
  have m2 : x.toInt % y.toInt < y.toInt := Int.emod_lt_of_pos _ (by omega)
  have m3 : y.toInt * (x.toInt / y.toInt) + x.toInt % y.toInt = x.toInt := Int.mul_ediv_add_emod _ _
  have hx2 := Int32.toInt_lt x
  have m4 : 0 ≤ x.toInt / y.toInt * y.toInt := Int.mul_nonneg d2 (by omega)
  have m5 : x.toInt / y.toInt * y.toInt = y.toInt * (x.toInt / y.toInt) := Int.mul_comm _ _
  have e1 : (x / y * y).toInt = x.toInt / y.toInt * y.toInt := by
    rw [Int32.toInt_mul, d1]
    exact ex_wrap (by omega) (by simp at hx2; omega)
  have e2 : (x - x / y * y).toInt = x.toInt % y.toInt := by
    rw [Int32.toInt_sub, e1]
    rw [ex_wrap (by omega) (by simp at hx2; omega)]
    omega
  exact ⟨e2, m1, m2⟩
theorem ex_rst_ok {ρ : ex_R} {a b : ex_V} {va vb : Value} {k : ex_V → Bool} (h : ex_rst a b k = true) (ha : er_V ρ a va) (hb : er_V ρ b vb) :
    ∃ (x y : Int32) (r : ex_V), va = .int x ∧ vb = .int y ∧ er_V ρ r (.int (x - x / y * y)) ∧ k r = true := by
  have slow : ∀ (a b : ex_V), er_V ρ a va → er_V ρ b vb → ex_i a (fun u v => ex_i b (fun x y => if ex_le 0 u && ex_le 1 x then ex_rng 0 (y - 1) k else k ex_top)) = true → ∃ (x y : Int32) (r : ex_V), va = .int x ∧ vb = .int y ∧ er_V ρ r (.int (x - x / y * y)) ∧ k r = true := by
    intro a b ha hb h
    obtain ⟨x, u, v, rfl, h1, h2, hq⟩ := ex_i_ok h ha
    obtain ⟨y, u', v', rfl, h3, h4, hk⟩ := ex_i_ok hq hb
    by_cases hc : (ex_le 0 u && ex_le 1 u') = true
    · rw [if_pos hc] at hk
      rw [Bool.and_eq_true, ex_le_iff, ex_le_iff] at hc
      obtain ⟨e2, m1, m2⟩ := ex_rst_n (x := x) (y := y) (by omega) (by omega)
      obtain ⟨r, g1, g2⟩ := ex_rng_ok (ρ := ρ) (x := x - x / y * y) hk (fun _ _ => by omega)
      exact ⟨x, y, r, rfl, rfl, g1, g2⟩
    · rw [if_neg hc] at hk
      exact ⟨x, y, ex_top, rfl, rfl, er_top _, hk⟩
  match a, b, h, ha, hb with
  | .inl z, .inl w, h, ha, hb => exact ex_bin_ok (f := (fun x y => x - x / y * y)) (a := .inl z) (b := .inl w) (k := k) h ha hb
  | .inl z, .inr w, h, ha, hb => exact slow _ _ ha hb h
  | .inr z, .inr w, h, ha, hb => exact slow _ _ ha hb h
  | .inr z, .inl w, h, ha, hb =>
    replace h : ex_i (.inr z) (fun u _ => if ex_le 0 u && ex_le 1 w then ex_rng 0 (w - 1) k else ex_bin (fun x y => x - x / y * y) (.inr z) (.inl w) k) = true := h
    obtain ⟨x, u, v, rfl, h1, h2, hk⟩ := ex_i_ok h ha
    clear h
    by_cases hc : (ex_le 0 u && ex_le 1 w) = true
    · rw [if_pos hc] at hk
      rw [Bool.and_eq_true, ex_le_iff, ex_le_iff] at hc
      obtain ⟨y, rfl, rfl⟩ := hb
      obtain ⟨d1, d2, d3⟩ := ex_div_n (x := x) (y := y) (by omega) hc.2
      have m1 : 0 ≤ x.toInt % y.toInt := Int.emod_nonneg _ (by omega)
      have m2 : x.toInt % y.toInt < y.toInt := Int.emod_lt_of_pos _ (by omega)
      have m3 : y.toInt * (x.toInt / y.toInt) + x.toInt % y.toInt = x.toInt := Int.mul_ediv_add_emod _ _
      have hx2 := Int32.toInt_lt x
      have m4 : 0 ≤ x.toInt / y.toInt * y.toInt := Int.mul_nonneg d2 (by omega)
      have m5 : x.toInt / y.toInt * y.toInt = y.toInt * (x.toInt / y.toInt) := Int.mul_comm _ _
      have e1 : (x / y * y).toInt = x.toInt / y.toInt * y.toInt := by
        rw [Int32.toInt_mul, d1]
        exact ex_wrap (by omega) (by simp at hx2; omega)
      have e2 : (x - x / y * y).toInt = x.toInt % y.toInt := by
        rw [Int32.toInt_sub, e1]
        rw [ex_wrap (by omega) (by simp at hx2; omega)]
        omega
      obtain ⟨r, g1, g2⟩ := ex_rng_ok (ρ := ρ) (x := x - x / y * y) hk (fun _ _ => by omega)
      exact ⟨x, y, r, rfl, rfl, g1, g2⟩
    · rw [if_neg hc] at hk
      exact ex_bin_ok (f := (fun x y => x - x / y * y)) hk ha hb
theorem ex_and_n {x y : Int32} (hy : 0 ≤ y.toInt) : 0 ≤ (x &&& y).toInt ∧ (x &&& y).toInt ≤ y.toInt := by
  have hm : y.toBitVec.msb = false := by
    rw [BitVec.msb_eq_toInt]
    simpa using hy
  have e1 : (x &&& y).toInt = ((x.toBitVec &&& y.toBitVec).toNat : Int) := by
    show (x &&& y).toBitVec.toInt = _
    rw [Int32.toBitVec_and]
    exact BitVec.toInt_eq_toNat_of_msb (by rw [BitVec.msb_and, hm, Bool.and_false])
  have e2 : y.toInt = (y.toBitVec.toNat : Int) := BitVec.toInt_eq_toNat_of_msb hm
  rw [e1, e2, BitVec.toNat_and]
  have := Nat.and_le_right (n := x.toBitVec.toNat) (m := y.toBitVec.toNat)
  omega
theorem ex_xor_n {x y : Int32} (hx : 0 ≤ x.toInt) (hy : 0 ≤ y.toInt) : 0 ≤ (x ^^^ y).toInt := by
  have mx : x.toBitVec.msb = false := by rw [BitVec.msb_eq_toInt]; simpa using hx
  have my : y.toBitVec.msb = false := by rw [BitVec.msb_eq_toInt]; simpa using hy
  have e1 : (x ^^^ y).toInt = ((x.toBitVec ^^^ y.toBitVec).toNat : Int) := by
    show (x ^^^ y).toBitVec.toInt = _
    rw [Int32.toBitVec_xor]
    exact BitVec.toInt_eq_toNat_of_msb (by rw [BitVec.msb_xor, mx, my]; rfl)
  omega
theorem ex_and_ok {ρ : ex_R} {a b : ex_V} {va vb : Value} {k : ex_V → Bool} (h : ex_and a b k = true) (ha : er_V ρ a va) (hb : er_V ρ b vb) :
    ∃ (x y : Int32) (r : ex_V), va = .int x ∧ vb = .int y ∧ er_V ρ r (.int (x &&& y)) ∧ k r = true := by
  match a, b, h, ha, hb with
  | .inl z, .inl w, h, ha, hb => exact ex_bin_ok (f := (· &&& ·)) (a := .inl z) (b := .inl w) (k := k) h ha hb
  | .inl z, .inr w, h, ha, hb => exact ex_bin_ok (f := (· &&& ·)) (a := .inl z) (b := .inr w) (k := k) h ha hb
  | .inr z, .inr w, h, ha, hb => exact ex_bin_ok (f := (· &&& ·)) (a := .inr z) (b := .inr w) (k := k) h ha hb
  | .inr z, .inl w, h, ha, hb =>
    replace h : ex_i (.inr z) (fun _ _ => if ex_le 0 w then ex_rng 0 w k else k ex_top) = true := h
    obtain ⟨x, u, v, rfl, h1, h2, hk⟩ := ex_i_ok h ha
    clear h
    obtain ⟨y, rfl, rfl⟩ := hb
    by_cases hc : ex_le 0 y.toInt = true
    · rw [if_pos hc] at hk
      rw [ex_le_iff] at hc
      obtain ⟨r, g1, g2⟩ := ex_rng_ok (ρ := ρ) (x := x &&& y) hk (fun _ _ => ex_and_n hc)
      exact ⟨x, y, r, rfl, rfl, g1, g2⟩
    · rw [if_neg hc] at hk
      exact ⟨x, y, ex_top, rfl, rfl, er_top _, hk⟩
theorem ex_xor_ok {ρ : ex_R} {a b : ex_V} {va vb : Value} {k : ex_V → Bool} (h : ex_xor a b k = true) (ha : er_V ρ a va) (hb : er_V ρ b vb) :
    ∃ (x y : Int32) (r : ex_V), va = .int x ∧ vb = .int y ∧ er_V ρ r (.int (x ^^^ y)) ∧ k r = true := by
  have slow : ∀ (a b : ex_V), er_V ρ a va → er_V ρ b vb → ex_i a (fun u _ => ex_i b (fun x _ => if ex_le 0 u && ex_le 0 x then k (.inr (.inr (.inr (.inl (0, 2147483647))))) else k ex_top)) = true → ∃ (x y : Int32) (r : ex_V), va = .int x ∧ vb = .int y ∧ er_V ρ r (.int (x ^^^ y)) ∧ k r = true := by
    intro a b ha hb h
    obtain ⟨x, u, v, rfl, h1, h2, hq⟩ := ex_i_ok h ha
    obtain ⟨y, u', v', rfl, h3, h4, hk⟩ := ex_i_ok hq hb
    by_cases hc : (ex_le 0 u && ex_le 0 u') = true
    · rw [if_pos hc] at hk
      rw [Bool.and_eq_true, ex_le_iff, ex_le_iff] at hc
      refine ⟨x, y, .inr (.inr (.inr (.inl (0, 2147483647)))), rfl, rfl, ⟨x ^^^ y, rfl, ex_xor_n (by omega) (by omega), ?_⟩, hk⟩
      have := Int32.toInt_lt (x ^^^ y)
      simp at this
      show _ ≤ (2147483647 : Int)
      omega
    · rw [if_neg hc] at hk
      exact ⟨x, y, ex_top, rfl, rfl, er_top _, hk⟩
  match a, b, h, ha, hb with
  | .inl z, .inl w, h, ha, hb => exact ex_bin_ok (f := (· ^^^ ·)) (a := .inl z) (b := .inl w) (k := k) h ha hb
  | .inl z, .inr w, h, ha, hb => exact slow _ _ ha hb h
  | .inr z, w, h, ha, hb => exact slow _ _ ha hb h
theorem ex_ne0_ok {lo hi : Int} (h : ex_ne0 lo hi = true) {z : Int} (h1 : lo ≤ z) (h2 : z ≤ hi) : z ≠ 0 := by
  simp only [ex_ne0, Bool.or_eq_true, ex_le_iff] at h
  omega
/-- what a comparison says of two ints -/
def ex_hold (c : ClassFile.Cond) (x y : Int) : Prop := match c with
  | .eq => x = y
  | .ne => ¬ x = y
  | .lt => x < y
  | .ge => y ≤ x
  | .gt => y < x
  | .le => x ≤ y
theorem ex_cmp_iff (c : ClassFile.Cond) (x y : Int) : ex_cmp c x y = true ↔ ex_hold c x y := by
  cases c <;> simp only [ex_cmp, ex_hold, ex_eq_iff, ex_le_iff, Bool.not_eq_true', ← Bool.not_eq_true] <;> omega
theorem ex_may_ok {c : ClassFile.Cond} {a b p q x y : Int} (h1 : a ≤ x) (h2 : x ≤ b) (h3 : p ≤ y) (h4 : y ≤ q) (h : ex_hold c x y) : ex_may c a b p q = true := by
  cases c <;> simp only [ex_may, ex_hold, ex_eq_iff, ex_le_iff, Bool.not_eq_true', ← Bool.not_eq_true, Bool.and_eq_true] at h ⊢ <;> omega
theorem ex_neg_hold {c : ClassFile.Cond} {x y : Int} (h : ¬ ex_hold c x y) : ex_hold (ex_neg c) x y := by
  cases c <;> simp only [ex_neg, ex_hold] at h ⊢ <;> omega
theorem ex_br_ok {ρ : ex_R} {c : ClassFile.Cond} {u v : ex_V} {a b : Value} {kt kf : Bool} (h : ex_br c u v kt kf = true) (hu : er_V ρ u a) (hv : er_V ρ v b) :
    ∃ x y : Int32, a = .int x ∧ b = .int y ∧ (ex_hold c x.toInt y.toInt → kt = true) ∧ (¬ ex_hold c x.toInt y.toInt → kf = true) := by
  have slow : ∀ (u v : ex_V), er_V ρ u a → er_V ρ v b → ex_i u (fun a b => ex_i v (fun x y => (!(ex_may c a b x y) || kt) && (!(ex_may (ex_neg c) a b x y) || kf))) = true → ∃ x y : Int32, a = .int x ∧ b = .int y ∧ (ex_hold c x.toInt y.toInt → kt = true) ∧ (¬ ex_hold c x.toInt y.toInt → kf = true) := by
    intro u v hu hv h
    obtain ⟨x, lo, hi, rfl, h1, h2, h⟩ := ex_i_ok h hu
    obtain ⟨y, lo', hi', rfl, h3, h4, h⟩ := ex_i_ok h hv
    simp only [Bool.and_eq_true, Bool.or_eq_true, Bool.not_eq_true'] at h
    refine ⟨x, y, rfl, rfl, fun q => ?_, fun q => ?_⟩
    · rcases h.1 with z | z
      · rw [ex_may_ok h1 h2 h3 h4 q] at z; cases z
      · exact z
    · rcases h.2 with z | z
      · rw [ex_may_ok h1 h2 h3 h4 (ex_neg_hold q)] at z; cases z
      · exact z
  match u, v, h, hu, hv with
  | .inl z, .inl w, h, hu, hv =>
    have h : (if ex_cmp c z w then kt else kf) = true := h
    obtain ⟨x, rfl, rfl⟩ := hu
    obtain ⟨y, rfl, rfl⟩ := hv
    refine ⟨x, y, rfl, rfl, fun q => ?_, fun q => ?_⟩
    · rw [if_pos ((ex_cmp_iff _ _ _).mpr q)] at h; exact h
    · rw [if_neg (fun z => q ((ex_cmp_iff _ _ _).mp z))] at h; exact h
  | .inl z, .inr w, h, hu, hv => exact slow _ _ hu hv h
  | .inr (.inl z), w, h, hu, hv => exact slow _ _ hu hv h
  | .inr (.inr (.inl z)), w, h, hu, hv => exact slow _ _ hu hv h
  | .inr (.inr (.inr (.inl z))), w, h, hu, hv => exact slow _ _ hu hv h
  | .inr (.inr (.inr (.inr (.inl z)))), w, h, hu, hv => exact slow _ _ hu hv h
  | .inr (.inr (.inr (.inr (.inr z)))), .inl w, h, hu, hv => exact slow _ _ hu hv h
  | .inr (.inr (.inr (.inr (.inr z)))), .inr (.inl w), h, hu, hv => exact slow _ _ hu hv h
  | .inr (.inr (.inr (.inr (.inr z)))), .inr (.inr (.inl w)), h, hu, hv => exact slow _ _ hu hv h
  | .inr (.inr (.inr (.inr (.inr z)))), .inr (.inr (.inr (.inl w))), h, hu, hv => exact slow _ _ hu hv h
  | .inr (.inr (.inr (.inr (.inr z)))), .inr (.inr (.inr (.inr (.inl w)))), h, hu, hv => exact slow _ _ hu hv h
  | .inr (.inr (.inr (.inr (.inr (i, x1, y1))))), .inr (.inr (.inr (.inr (.inr (j, x2, y2))))), h, hu, hv =>
    replace h : (if Nat.beq i j then (if ex_cmp c 0 0 then kt else kf) else (!(ex_may c x1 y1 x2 y2) || kt) && (!(ex_may (ex_neg c) x1 y1 x2 y2) || kf)) = true := h
    by_cases hij : Nat.beq i j = true
    · rw [if_pos hij] at h
      obtain rfl := Nat.eq_of_beq_eq_true hij
      obtain ⟨rfl, -⟩ := hu
      obtain ⟨rfl, -⟩ := hv
      have hold : ∀ z : Int, ex_hold c z z ↔ ex_hold c 0 0 := fun z => by cases c <;> simp [ex_hold]
      refine ⟨_, _, rfl, rfl, fun q => ?_, fun q => ?_⟩
      · rw [if_pos ((ex_cmp_iff _ _ _).mpr ((hold _).mp q))] at h; exact h
      · rw [if_neg (fun z => q ((hold _).mpr ((ex_cmp_iff _ _ _).mp z)))] at h; exact h
    · rw [if_neg hij] at h
      exact slow _ _ hu hv h
theorem ex_tgt_ok {pc : Nat} {off : Int} {k : Nat → Bool} (h : ex_tgt pc off k = true) : ∃ t : Nat, (pc : Int) + off = (t : Int) ∧ k t = true := by
  unfold ex_tgt at h
  cases e : (Int.ofNat pc + off) with
  | ofNat t => rw [e] at h; simp only [ex_n_eq] at h; exact ⟨t, rfl, h⟩
  | negSucc t => rw [e] at h; exact absurd h Bool.false_ne_true
theorem ex_may01_ok {ρ : ex_R} {a : ex_V} {v : Value} (h : ex_may01 a = true) (hv : er_V ρ a v) : v = .int 0 ∨ v = .int 1 := by
  obtain ⟨x, lo, hi, rfl, h1, h2, h⟩ := ex_i_ok h hv
  simp only [Bool.and_eq_true, ex_le_iff] at h
  have h3 : x.toInt = 0 ∨ x.toInt = 1 := by omega
  rcases h3 with h3 | h3
  · left; congr 1; apply Int32.toInt_inj.mp; rw [h3]; rfl
  · right; congr 1; apply Int32.toInt_inj.mp; rw [h3]; rfl
theorem ex_lc_ok {ρ : ex_R} {x y : Int64} {a b p q : Int} (h1 : a ≤ x.toInt) (h2 : x.toInt ≤ b) (h3 : p ≤ y.toInt) (h4 : y.toInt ≤ q) : er_V ρ (ex_lc a b p q) (.int (lg_cmp x y)) := by
  have hc : (lg_cmp x y = -1 ∧ x.toInt < y.toInt) ∨ (lg_cmp x y = 0 ∧ x.toInt = y.toInt) ∨ (lg_cmp x y = 1 ∧ y.toInt < x.toInt) := by
    unfold lg_cmp
    rcases Int.lt_trichotomy x.toInt y.toInt with h | h | h
    · have : x < y := Int64.lt_iff_toInt_lt.mpr h
      have hn : ¬ y < x := by rw [Int64.lt_iff_toInt_lt]; omega
      have hne : ¬ x = y := fun e => by rw [e] at h; omega
      left; exact ⟨by simp [this, hn, hne], h⟩
    · have : x = y := Int64.toInt_inj.mp h
      right; left
      refine ⟨?_, h⟩
      subst this
      simp
    · have : y < x := Int64.lt_iff_toInt_lt.mpr h
      have hn : ¬ x < y := by rw [Int64.lt_iff_toInt_lt]; omega
      have hne : ¬ x = y := fun e => by rw [e] at h; omega
      right; right; exact ⟨by simp [this, hn, hne], h⟩
  have e1 : (-1 : Int32).toInt = -1 := by decide
  have e0 : (0 : Int32).toInt = 0 := by decide
  have e2 : (1 : Int32).toInt = 1 := by decide
  unfold ex_lc
  simp only [Bool.and_eq_true, ex_le_iff, ex_eq_iff]
  split
  · exact ⟨_, rfl, by rcases hc with ⟨e, _⟩ | ⟨e, _⟩ | ⟨e, _⟩ <;> rw [e] <;> omega⟩
  split
  · exact ⟨_, rfl, by rcases hc with ⟨e, _⟩ | ⟨e, _⟩ | ⟨e, _⟩ <;> rw [e] <;> omega⟩
  split
  · exact ⟨_, rfl, by rcases hc with ⟨e, _⟩ | ⟨e, _⟩ | ⟨e, _⟩ <;> rw [e] <;> omega⟩
  split
  · exact ⟨_, rfl, by rcases hc with ⟨e, _⟩ | ⟨e, _⟩ | ⟨e, _⟩ <;> rw [e] <;> simp <;> omega⟩
  split
  · exact ⟨_, rfl, by rcases hc with ⟨e, _⟩ | ⟨e, _⟩ | ⟨e, _⟩ <;> rw [e] <;> simp <;> omega⟩
  · exact ⟨_, rfl, by rcases hc with ⟨e, _⟩ | ⟨e, _⟩ | ⟨e, _⟩ <;> rw [e] <;> simp⟩
