/-! The script's ints by boxes. -/
def ex_word (lo hi : Int) : Nat := (lo + 2147483648).toNat + (hi + 2147483648).toNat * 4294967296
/-- intervals that follow one another up to a greatest int -/
noncomputable def ex_cov (e : Int) (d : List (Int × Int × Bool)) : Int → Bool :=
  List.rec (motive := fun _ => Int → Bool) (fun _ => false) (fun x _ ih a => (ex_eq x.1 a && (ex_le (-2147483648) x.1 && (ex_le x.1 x.2.1 && ex_le x.2.1 2147483647))) && (ex_eq x.2.1 e || ex_z (x.2.1 + 1) ih)) d
/-- intervals that cover what may stand at a place -/
noncomputable def ex_covA (d : List (Int × Int × Bool)) (A i : Nat) : Bool :=
  Nat.ble (i + 1) 6 && ex_n (ex_pg A i) (fun w => ex_z (Int.subNatNat (w / 4294967296) 2147483648) (fun e => ex_z (Int.subNatNat (w % 4294967296) 2147483648) (ex_cov e d)))
noncomputable def ex_all (d : List (Int × Int × Bool)) (f : Int → Int → Bool → Bool) : Bool :=
  List.rec (motive := fun _ => Bool) true (fun x _ ih => f x.1 x.2.1 x.2.2 && ih) d
/-- a box split place by place; what is dead is not split further -/
noncomputable def ex_dims (run : Nat → Bool) (ds : List (Nat × List (Int × Int × Bool))) : Nat → Bool :=
  List.rec (motive := fun _ => Nat → Bool) (fun A => ex_n A run) (fun d _ ih A => ex_covA d.2 A d.1 && ex_all d.2 (fun lo hi live => ex_n (ex_ps A d.1 (ex_word lo hi)) (fun A => bif live then ih A else run A))) ds
theorem ex_cov_ok {e : Int} : ∀ (d : List (Int × Int × Bool)) (a : Int), ex_cov e d a = true → ∀ x : Int, a ≤ x → x ≤ e → ∃ q ∈ d, q.1 ≤ x ∧ x ≤ q.2.1 ∧ -2147483648 ≤ q.1 ∧ q.2.1 ≤ 2147483647 := by
  intro d
  induction d with
  | nil => intro a h; exact absurd h Bool.false_ne_true
  | cons q d ih =>
    intro a h x h1 h2
    replace h : ((ex_eq q.1 a && (ex_le (-2147483648) q.1 && (ex_le q.1 q.2.1 && ex_le q.2.1 2147483647))) && (ex_eq q.2.1 e || ex_z (q.2.1 + 1) (ex_cov e d))) = true := h
    rw [ex_z_eq] at h
    simp only [Bool.and_eq_true, Bool.or_eq_true, ex_eq_iff, ex_le_iff] at h
    obtain ⟨⟨g1, g2, g3, g4⟩, g5⟩ := h
    by_cases hx : x ≤ q.2.1
    · exact ⟨q, List.mem_cons_self, by omega, hx, g2, g4⟩
    · rcases g5 with g5 | g5
      · omega
      · obtain ⟨r, r1, r2⟩ := ih _ g5 x (by omega) h2
        exact ⟨r, List.mem_cons_of_mem _ r1, r2⟩
theorem ex_all_ok {f : Int → Int → Bool → Bool} : ∀ (d : List (Int × Int × Bool)), ex_all d f = true → ∀ q ∈ d, f q.1 q.2.1 q.2.2 = true := by
  intro d
  induction d with
  | nil => intro _ q hq; cases hq
  | cons x d ih =>
    intro h q hq
    replace h : (f x.1 x.2.1 x.2.2 && ex_all d f) = true := h
    rw [Bool.and_eq_true] at h
    rcases List.mem_cons.mp hq with rfl | hq
    · exact h.1
    · exact ih h.2 q hq
theorem ex_word_ok {lo hi : Int} {x : Int32} (h1 : lo ≤ x.toInt) (h2 : x.toInt ≤ hi) (h3 : -2147483648 ≤ lo) (h4 : hi ≤ 2147483647) : ex_word lo hi < 2 ^ 64 ∧ er_w (ex_word lo hi) x := by
  unfold ex_word er_w
  have e1 : ((lo + 2147483648).toNat : Int) = lo + 2147483648 := Int.toNat_of_nonneg (by omega)
  have e2 : ((hi + 2147483648).toNat : Int) = hi + 2147483648 := Int.toNat_of_nonneg (by omega)
  generalize (lo + 2147483648).toNat = u at e1
  generalize (hi + 2147483648).toNat = v at e2
  refine ⟨by omega, ?_, ?_⟩ <;> omega
theorem er_A.cut {n A i : Nat} {f : Nat → Int32} (h : er_A n A f) {lo hi : Int} (h1 : lo ≤ (f i).toInt) (h2 : (f i).toInt ≤ hi) (h3 : -2147483648 ≤ lo) (h4 : hi ≤ 2147483647) : er_A n (ex_ps A i (ex_word lo hi)) f := by
  obtain ⟨g1, g2⟩ := ex_word_ok h1 h2 h3 h4
  have g := h.set (i := i) g1 g2
  have e : upd f i (f i) = f := by
    funext j
    unfold upd
    by_cases hj : j = i
    · rw [if_pos hj, hj]
    · rw [if_neg hj]
  rw [e] at g
  exact g
/-- what holds of every script in a box -/
def er_B (P : (Nat → Int32) → Prop) (A : Nat) : Prop := ∀ f : Nat → Int32, er_A 6 A f → P f
theorem er_B.split {P : (Nat → Int32) → Prop} {A : Nat} (i : Nat) (d : List (Int × Int × Bool)) (hc : ex_covA d A i = true) (h : ∀ q ∈ d, er_B P (ex_ps A i (ex_word q.1 q.2.1))) : er_B P A := by
  intro f hf
  unfold ex_covA at hc
  rw [Bool.and_eq_true] at hc
  obtain ⟨hi, hc⟩ := hc
  have hi := Nat.le_of_ble_eq_true hi
  simp only [ex_n_eq, ex_z_eq] at hc
  have hw := hf i (by omega)
  unfold er_w at hw
  obtain ⟨q, g1, g2, g3, g4, g5⟩ := ex_cov_ok _ _ hc (f i).toInt (by rw [Int.subNatNat_eq_coe]; omega) (by rw [Int.subNatNat_eq_coe]; omega)
  exact h q g1 f (hf.cut g2 g3 g4 g5)
theorem ex_dims_ok {P : (Nat → Int32) → Prop} {run : Nat → Bool} (hrun : ∀ A, run A = true → er_B P A) : ∀ (ds : List (Nat × List (Int × Int × Bool))) (A : Nat), ex_dims run ds A = true → er_B P A := by
  intro ds
  induction ds with
  | nil => intro A h; refine hrun A ?_; exact (ex_n_eq A run).symm.trans h
  | cons d ds ih =>
    intro A h
    replace h : (ex_covA d.2 A d.1 && ex_all d.2 (fun lo hi live => ex_n (ex_ps A d.1 (ex_word lo hi)) (fun A => bif live then ex_dims run ds A else run A))) = true := h
    rw [Bool.and_eq_true] at h
    refine er_B.split d.1 d.2 h.1 (fun q hq => ?_)
    have g := ex_all_ok _ h.2 q hq
    rw [ex_n_eq] at g
    cases hl : q.2.2 with
    | true => rw [hl] at g; exact ih _ g
    | false => rw [hl] at g; exact hrun _ g
/-- a script of which nothing is known -/
noncomputable def ez_any (n : Nat) : Nat := Nat.rec (motive := fun _ => Nat) 0 (fun _ ih => ih * 18446744073709551616 + 18446744069414584320) n
theorem ez_any_ok : ∀ n, n ≤ 6 → ∀ f : Nat → Int32, er_A n (ez_any n) f := by
  have key : ∀ n, n < 7 → ∀ j, j < n → ex_pg (ez_any n) j = 18446744069414584320 := by decide +kernel
  intro n hn f j hj
  rw [key n (by omega) j hj]
  unfold er_w
  have h1 := Int32.le_toInt (f j)
  have h2 := Int32.toInt_lt (f j)
  simp at h1 h2
  constructor
  · show (0 : Int) ≤ _; omega
  · show _ ≤ (4294967295 : Int); omega
