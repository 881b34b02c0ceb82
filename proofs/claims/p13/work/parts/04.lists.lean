/-! What the runner's helpers say: numbers, lists, arrays packed into one number, cells. -/
theorem ex_le_iff (a b : Int) : ex_le a b = true ↔ a ≤ b := by
  cases a <;> cases b <;> simp only [ex_le, Nat.ble_eq, Int.ofNat_eq_natCast, Bool.false_eq_true, false_iff, true_iff] <;> omega
theorem ex_eq_iff (a b : Int) : ex_eq a b = true ↔ a = b := by
  cases a <;> cases b <;> simp only [ex_eq, Nat.beq_eq, Int.ofNat_eq_natCast, Bool.false_eq_true, false_iff, true_iff] <;> omega
theorem ex_le_not (a b : Int) : ex_le a b = false ↔ b < a := by
  rw [← Bool.not_eq_true, ex_le_iff]; omega
theorem ex_n_eq (n : Nat) (k : Nat → Bool) : ex_n n k = k n := by
  cases n <;> rfl
theorem ex_z_eq (z : Int) (k : Int → Bool) : ex_z z k = k z := by
  cases z <;> simp only [ex_z, ex_n_eq]
theorem ex_get_ok {α : Type} (l : List α) : ∀ (i : Nat) (k : α → Bool), ex_get l i k = true → ∃ x, l[i]? = some x ∧ k x = true := by
  induction l with
  | nil => intro i k h; exact absurd h Bool.false_ne_true
  | cons x xs ih =>
    intro i k h
    cases i with
    | zero => exact ⟨x, rfl, h⟩
    | succ i =>
      obtain ⟨y, h1, h2⟩ := ih i k h
      exact ⟨y, by simpa using h1, h2⟩
theorem ex_set_ok {α : Type} (l : List α) : ∀ (i : Nat) (v : α) (k : List α → Bool), ex_set l i v k = true → i < l.length ∧ k (l.set i v) = true := by
  induction l with
  | nil => intro i v k h; exact absurd h Bool.false_ne_true
  | cons x xs ih =>
    intro i v k h
    cases i with
    | zero => exact ⟨Nat.succ_pos _, h⟩
    | succ i =>
      obtain ⟨h1, h2⟩ := ih i v (fun r => k (x :: r)) h
      exact ⟨Nat.succ_lt_succ h1, h2⟩
theorem ex_rep_eq {α : Type} (n : Nat) : ∀ (v : α) (k : List α → Bool), ex_rep n v k = k (List.replicate n v) := by
  induction n with
  | zero => intro v k; rfl
  | succ n ih => intro v k; exact ih v (fun r => k (v :: r))
theorem ex_app_eq {α : Type} (l : List α) : ∀ (ys : List α) (k : List α → Bool), ex_app l ys k = k (l ++ ys) := by
  induction l with
  | nil => intro ys k; rfl
  | cons x xs ih => intro ys k; exact ih ys (fun r => k (x :: r))
theorem ex_take_ok {α : Type} (n : Nat) : ∀ (st acc : List α) (k : List α → List α → Bool), ex_take n st acc k = true → ∃ as r, as.length = n ∧ st = as ++ r ∧ k (as.reverse ++ acc) r = true := by
  induction n with
  | zero => intro st acc k h; exact ⟨[], st, rfl, rfl, h⟩
  | succ n ih =>
    intro st acc k h
    cases st with
    | nil => exact absurd h Bool.false_ne_true
    | cons x st =>
      obtain ⟨as, r, h1, h2, h3⟩ := ih st (x :: acc) k h
      exact ⟨x :: as, r, by rw [List.length_cons, h1], by rw [h2]; rfl, by rw [List.reverse_cons, List.append_assoc]; exact h3⟩
theorem ex_get_eq {α : Type} (l : List α) : ∀ (i : Nat) (k : α → Bool) (x : α), l[i]? = some x → ex_get l i k = k x := by
  induction l with
  | nil => intro i k x h; cases h
  | cons y l ih =>
    intro i k x h
    cases i with
    | zero => cases h; rfl
    | succ i => exact ih i k x h
theorem ex_find_ok {pc : Nat} {k : ex_J → List ex_J → Bool} : ∀ (l : List ex_J), ex_find l pc k = true → ∃ x xs, x ∈ l ∧ (∀ y ∈ xs, y ∈ l) ∧ x.1 = pc ∧ k x xs = true := by
  intro l
  induction l with
  | nil => intro h; exact absurd h Bool.false_ne_true
  | cons x xs ih =>
    intro h
    replace h : (bif Nat.beq x.1 pc then k x xs else ex_find xs pc k) = true := h
    cases hb : Nat.beq x.1 pc with
    | true => rw [hb] at h; exact ⟨x, xs, List.mem_cons_self, fun y hy => List.mem_cons_of_mem _ hy, Nat.eq_of_beq_eq_true hb, h⟩
    | false =>
      rw [hb] at h
      obtain ⟨y, ys, h1, h2, h3⟩ := ih h
      exact ⟨y, ys, List.mem_cons_of_mem _ h1, fun z hz => List.mem_cons_of_mem _ (h2 z hz), h3⟩
theorem ex_look_ok {tb : List (List ex_J)} {pc : Nat} {k : ex_J → List ex_J → Bool} {Pr : ex_J → Prop} (hT : ∀ ch ∈ tb, ∀ x ∈ ch, Pr x) (h : ex_look tb pc k = true) : ∃ x xs, Pr x ∧ (∀ y ∈ xs, Pr y) ∧ x.1 = pc ∧ k x xs = true := by
  obtain ⟨ch, h1, h2⟩ := ex_get_ok _ _ _ h
  obtain ⟨x, xs, h3, h4, h5⟩ := ex_find_ok _ h2
  have hc := hT ch (List.mem_of_getElem? h1)
  exact ⟨x, xs, hc x h3, fun y hy => hc y (h4 y hy), h5⟩
theorem ex_hint_ok {ht : List ex_J} {tb : List (List ex_J)} {pc : Nat} {k : ex_J → List ex_J → Bool} {Pr : ex_J → Prop} (hT : ∀ ch ∈ tb, ∀ x ∈ ch, Pr x) (hH : ∀ x ∈ ht, Pr x) (h : ex_hint ht tb pc k = true) : ∃ x xs, Pr x ∧ (∀ y ∈ xs, Pr y) ∧ x.1 = pc ∧ k x xs = true := by
  cases ht with
  | nil => exact ex_look_ok hT h
  | cons x xs =>
    replace h : (bif Nat.beq x.1 pc then k x xs else ex_look tb pc k) = true := h
    cases hb : Nat.beq x.1 pc with
    | true =>
      rw [hb] at h
      exact ⟨x, xs, hH x List.mem_cons_self, fun y hy => hH y (List.mem_cons_of_mem _ hy), Nat.eq_of_beq_eq_true hb, h⟩
    | false => rw [hb] at h; exact ex_look_ok hT h
theorem ex_get2_ok {α : Type} {l : List (List α)} {n : Nat} {k : α → Bool} (h : ex_get2 l n k = true) : ∃ x, ex_at2 l n = some x ∧ k x = true := by
  obtain ⟨r, h1, h2⟩ := ex_get_ok _ _ _ h
  obtain ⟨x, h3, h4⟩ := ex_get_ok _ _ _ h2
  refine ⟨x, ?_, h4⟩
  replace h1 : l[n / 16]? = some r := h1
  replace h3 : r[n % 16]? = some x := h3
  unfold ex_at2
  rw [h1]
  exact h3
theorem ex_vt_ok (l : List (Nat × Nat)) : ∀ (ci : Nat) (k : Nat → Bool), ex_vt l ci k = true → ∃ x, x ∈ l ∧ x.1 = ci ∧ k x.2 = true := by
  induction l with
  | nil => intro pc k h; exact absurd h Bool.false_ne_true
  | cons x xs ih =>
    intro pc k h
    have h' : (bif Nat.beq x.1 pc then k x.2 else ex_vt xs pc k) = true := h
    cases hb : Nat.beq x.1 pc with
    | true => rw [hb] at h'; exact ⟨x, List.mem_cons_self, Nat.eq_of_beq_eq_true hb, h'⟩
    | false =>
      rw [hb] at h'
      obtain ⟨y, h1, h2⟩ := ih pc k h'
      exact ⟨y, List.mem_cons_of_mem _ h1, h2⟩
theorem ex_refs_eq (n : Nat) : ∀ (h : Nat) (k : List ex_V → Bool), ex_refs n h k = k ((List.range' h n).map (fun i => .inr (.inr (.inl (some i))))) := by
  induction n with
  | zero => intro h k; rfl
  | succ n ih =>
    intro h k
    have e : ex_refs (n + 1) h k = ex_n h (fun h => ex_refs n (h + 1) (fun r => k (.inr (.inr (.inl (some h))) :: r))) := rfl
    rw [e, ex_n_eq, ih]
    rfl
theorem ex_pg_lt (A i : Nat) : ex_pg A i < 2 ^ 64 := Nat.mod_lt _ (by decide)
theorem ex_pg_bit (A i k : Nat) : (ex_pg A i).testBit k = (decide (k < 64) && A.testBit (64 * i + k)) := by
  have e : ex_pg A i = (A >>> (64 * i)) % 2 ^ 64 := rfl
  rw [e, Nat.testBit_mod_two_pow, Nat.testBit_shiftRight]
theorem ex_ps_same {A i w : Nat} (hw : w < 2 ^ 64) : ex_pg (ex_ps A i w) i = w := by
  apply Nat.eq_of_testBit_eq
  intro k
  rw [ex_pg_bit]
  unfold ex_ps
  rw [Nat.testBit_xor, Nat.testBit_shiftLeft, Nat.testBit_xor, ex_pg_bit]
  by_cases hk : k < 64
  · have h1 : 64 * i + k - 64 * i = k := by omega
    have h2 : 64 * i ≤ 64 * i + k := by omega
    simp [hk, h1, h2]
  · have h3 : w.testBit k = false := Nat.testBit_lt_two_pow (Nat.lt_of_lt_of_le hw (Nat.pow_le_pow_right (by decide) (by omega)))
    simp [hk, h3]
theorem ex_ps_ne {A i j w : Nat} (hw : w < 2 ^ 64) (hij : j ≠ i) : ex_pg (ex_ps A i w) j = ex_pg A j := by
  apply Nat.eq_of_testBit_eq
  intro k
  rw [ex_pg_bit, ex_pg_bit]
  unfold ex_ps
  rw [Nat.testBit_xor, Nat.testBit_shiftLeft, Nat.testBit_xor, ex_pg_bit]
  by_cases hk : k < 64
  · by_cases hle : 64 * i ≤ 64 * j + k
    · have h1 : ¬ 64 * j + k - 64 * i < 64 := by omega
      have h3 : w.testBit (64 * j + k - 64 * i) = false := Nat.testBit_lt_two_pow (Nat.lt_of_lt_of_le hw (Nat.pow_le_pow_right (by decide) (by omega)))
      simp [hk, h1, h3]
    · simp [hk, hle]
  · simp [hk]
theorem ex_pz_at (n : Nat) : ∀ j, j < n → ex_pg (ex_pz n) j = 9223372039002259456 := by
  induction n with
  | zero => intro j hj; omega
  | succ n ih =>
    intro j hj
    have e : ex_pz (n + 1) = ex_pz n * 18446744073709551616 + 9223372039002259456 := rfl
    cases j with
    | zero =>
      unfold ex_pg
      rw [e, Nat.mul_zero, Nat.shiftRight_zero]
      omega
    | succ j =>
      have e2 : ex_pg (ex_pz (n + 1)) (j + 1) = ex_pg (ex_pz n) j := by
        unfold ex_pg
        have e3 : 64 * (j + 1) = 64 + 64 * j := by omega
        have e4 : ex_pz (n + 1) >>> 64 = ex_pz n := by
          rw [Nat.shiftRight_eq_div_pow, e, show (2 : Nat) ^ 64 = 18446744073709551616 from rfl]
          omega
        rw [e3, Nat.shiftRight_add, e4]
      rw [e2]
      exact ih j (by omega)
/-- the cell of a number -/
def ex_at (h : ex_H) (q : Nat) : Option ex_C := (h.2[q / 16]?).bind (fun ch => ch[q % 16]?)
theorem ex_hget_ok {h : ex_H} {q : Nat} {k : ex_C → Bool} (e : ex_hget h q k = true) : ∃ c, ex_at h q = some c ∧ k c = true := by
  obtain ⟨ch, h1, h2⟩ := ex_get_ok _ _ _ e
  obtain ⟨c, h3, h4⟩ := ex_get_ok _ _ _ h2
  exact ⟨c, by unfold ex_at; rw [h1]; exact h3, h4⟩
theorem ex_hset_ok {h : ex_H} {q : Nat} {c : ex_C} {k : ex_H → Bool} (e : ex_hset h q c k = true) : ∃ h' : ex_H, h'.1 = h.1 ∧ (∀ q', ex_at h' q' = if q' = q then some c else ex_at h q') ∧ k h' = true := by
  obtain ⟨ch, h1, h2⟩ := ex_get_ok _ _ _ e
  obtain ⟨h3, h4⟩ := ex_set_ok _ _ _ _ h2
  obtain ⟨h5, h6⟩ := ex_set_ok _ _ _ _ h4
  refine ⟨(h.1, h.2.set (q / 16) (ch.set (q % 16) c)), rfl, fun q' => ?_, h6⟩
  unfold ex_at
  simp only [List.getElem?_set, h5, if_true]
  by_cases hq : q' = q
  · subst hq
    simp [h3]
  · by_cases hd : q / 16 = q' / 16
    · have hm : ¬ q % 16 = q' % 16 := by omega
      rw [if_pos hd, if_neg hq, ← hd, h1]
      simp only [Option.bind_some]
      rw [List.getElem?_set, if_neg hm]
    · simp [hd, hq]
theorem ex_hpush_ok {h : ex_H} {c : ex_C} {k : ex_H → Bool} (e : ex_hpush h c k = true) : ∃ h' : ex_H, h'.1 = h.1 + 1 ∧ (∀ q c', ex_at h' q = some c' → (q = h.1 ∧ c' = c) ∨ ex_at h q = some c') ∧ k h' = true := by
  unfold ex_hpush at e
  cases hb : Nat.beq (h.1 % 16) 0 with
  | true =>
    rw [hb] at e
    cases hl : Nat.beq h.2.length (h.1 / 16) with
    | false => rw [hl] at e; exact absurd e Bool.false_ne_true
    | true =>
      rw [hl] at e
      simp only [cond_true] at e
      rw [ex_app_eq, ex_n_eq] at e
      have h0 := Nat.eq_of_beq_eq_true hb
      have h1 := Nat.eq_of_beq_eq_true hl
      refine ⟨(h.1 + 1, h.2 ++ [[c]]), rfl, fun q c' hq => ?_, e⟩
      unfold ex_at at hq ⊢
      simp only at hq
      by_cases hlt : q / 16 < h.2.length
      · rw [List.getElem?_append_left hlt] at hq
        exact Or.inr hq
      · rw [List.getElem?_append_right (by omega)] at hq
        by_cases hz : q / 16 - h.2.length = 0
        · rw [hz] at hq
          simp only [List.getElem?_cons_zero, Option.bind_some] at hq
          by_cases hm : q % 16 = 0
          · rw [hm] at hq
            simp only [List.getElem?_cons_zero, Option.some.injEq] at hq
            exact Or.inl ⟨by omega, hq.symm⟩
          · obtain ⟨j, hj⟩ : ∃ j, q % 16 = j + 1 := ⟨q % 16 - 1, by omega⟩
            rw [hj] at hq
            simp at hq
        · obtain ⟨j, hj⟩ : ∃ j, q / 16 - h.2.length = j + 1 := ⟨q / 16 - h.2.length - 1, by omega⟩
          rw [hj] at hq
          simp at hq
  | false =>
    rw [hb] at e
    simp only [cond_false] at e
    obtain ⟨ch, h1, h2⟩ := ex_get_ok _ _ _ e
    cases hl : Nat.beq ch.length (h.1 % 16) with
    | false => rw [hl] at h2; exact absurd h2 Bool.false_ne_true
    | true =>
      rw [hl] at h2
      simp only [cond_true] at h2
      rw [ex_app_eq] at h2
      obtain ⟨h3, h4⟩ := ex_set_ok _ _ _ _ h2
      rw [ex_n_eq] at h4
      have h5 := Nat.eq_of_beq_eq_true hl
      refine ⟨(h.1 + 1, h.2.set (h.1 / 16) (ch ++ [c])), rfl, fun q c' hq => ?_, h4⟩
      unfold ex_at at hq ⊢
      simp only at hq
      rw [List.getElem?_set] at hq
      by_cases hd : h.1 / 16 = q / 16
      · rw [if_pos hd, if_pos h3] at hq
        simp only [Option.bind_some] at hq
        by_cases hlt : q % 16 < ch.length
        · rw [List.getElem?_append_left hlt] at hq
          right
          rw [← hd, h1]
          exact hq
        · rw [List.getElem?_append_right (by omega)] at hq
          by_cases hz : q % 16 - ch.length = 0
          · rw [hz] at hq
            simp only [List.getElem?_cons_zero, Option.some.injEq] at hq
            exact Or.inl ⟨by omega, hq.symm⟩
          · obtain ⟨j, hj⟩ : ∃ j, q % 16 - ch.length = j + 1 := ⟨q % 16 - ch.length - 1, by omega⟩
            rw [hj] at hq
            simp at hq
      · rw [if_neg hd] at hq
        exact Or.inr hq
theorem ex_hpushs_ok (l : List ex_C) : ∀ (h : ex_H) (k : ex_H → Bool), ex_hpushs l h k = true → ∃ h' : ex_H, h'.1 = h.1 + l.length ∧ (∀ q c', ex_at h' q = some c' → (∃ i, q = h.1 + i ∧ l[i]? = some c') ∨ ex_at h q = some c') ∧ k h' = true := by
  induction l with
  | nil => intro h k e; exact ⟨h, rfl, fun q c' hq => Or.inr hq, e⟩
  | cons c l ih =>
    intro h k e
    obtain ⟨h1, e1, e2, e3⟩ := ex_hpush_ok (k := fun h => ex_hpushs l h k) e
    obtain ⟨h2, f1, f2, f3⟩ := ih h1 k e3
    refine ⟨h2, by rw [f1, e1, List.length_cons]; omega, fun q c' hq => ?_, f3⟩
    rcases f2 q c' hq with ⟨i, hi, hl⟩ | hq
    · exact Or.inl ⟨i + 1, by omega, by simpa using hl⟩
    · rcases e2 q c' hq with ⟨hi, hl⟩ | hq
      · exact Or.inl ⟨0, by omega, by rw [hl]; rfl⟩
      · exact Or.inr hq
