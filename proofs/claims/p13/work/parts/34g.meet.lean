/-! Seats: whom the search meets. -/
theorem ez_c_bd (s : Int → Int) (x : Int) : ∀ n : Nat, 0 ≤ ez_c s x n ∧ ez_c s x n ≤ n := by
  intro n
  induction n with
  | zero => exact ⟨Int.le_refl _, Int.le_refl _⟩
  | succ n ih =>
    show 0 ≤ ez_c s x n + (if s (n : Int) = x then 1 else 0) ∧ ez_c s x n + (if s (n : Int) = x then 1 else 0) ≤ ((n + 1 : Nat) : Int)
    split <;> omega
theorem ez_s_up {f : Int → Int} {i x : Int} (h0 : 0 ≤ i) : ∀ k : Nat, ez_s (ey_up f i x) k = ez_s f k + (if i < k then x - f i else 0) := by
  intro k
  induction k with
  | zero =>
    have hl : ¬ i < ((0 : Nat) : Int) := by omega
    rw [if_neg hl]; rfl
  | succ k ih =>
    show ez_s (ey_up f i x) k + ey_up f i x (k : Int) = ez_s f k + f k + (if i < ((k + 1 : Nat) : Int) then x - f i else 0)
    rw [ih]
    by_cases e : (k : Int) = i
    · have hl : ¬ i < (k : Int) := by omega
      have hl' : i < ((k + 1 : Nat) : Int) := by omega
      rw [if_neg hl, if_pos hl', e, ey_up_same]; omega
    · rw [ey_up_ne _ _ e]
      by_cases l : i < (k : Int)
      · have hl' : i < ((k + 1 : Nat) : Int) := by omega
        rw [if_pos l, if_pos hl']; omega
      · have hl' : ¬ i < ((k + 1 : Nat) : Int) := by omega
        rw [if_neg l, if_neg hl']; omega
theorem ez_s_bd {f : Int → Int} {lo hi : Int} (h : ∀ x, lo ≤ f x ∧ f x ≤ hi) : ∀ k : Nat, lo * k ≤ ez_s f k ∧ ez_s f k ≤ hi * k := by
  intro k
  induction k with
  | zero => show lo * 0 ≤ 0 ∧ 0 ≤ hi * 0; omega
  | succ k ih =>
    have := h k
    have e1 : lo * ((k + 1 : Nat) : Int) = lo * k + lo := by rw [Int.natCast_succ, Int.mul_add, Int.mul_one]
    have e2 : hi * ((k + 1 : Nat) : Int) = hi * k + hi := by rw [Int.natCast_succ, Int.mul_add, Int.mul_one]
    rw [e1, e2]
    show lo * k + lo ≤ ez_s f k + f k ∧ ez_s f k + f k ≤ hi * k + hi
    omega
theorem ez_s_le8 {f : Int → Int} (h : ∀ x, 0 ≤ x → x < 8 → f x = 0 ∨ f x = 1) : ez_s f 8 ≤ 8 := by
  have e : ez_s f 8 = ez_s (fun x => if 0 ≤ x ∧ x < 8 then f x else 0) 8 := ez_s_congr 8 (fun x h0 h1 => (if_pos ⟨h0, h1⟩).symm)
  rw [e]
  have := (ez_s_bd (f := fun x => if 0 ≤ x ∧ x < 8 then f x else 0) (lo := 0) (hi := 1) (fun x => by
    show 0 ≤ (if 0 ≤ x ∧ x < 8 then f x else 0) ∧ (if 0 ≤ x ∧ x < 8 then f x else 0) ≤ 1
    by_cases c : 0 ≤ x ∧ x < 8
    · rw [if_pos c]; have := h x c.1 c.2; omega
    · rw [if_neg c]; omega) 8).2
  simpa using this
/-- whom and what the search has met; of the cell cx only those ahead of bx are sure -/
def ez_K (b mg S U C a e : Int → Int) (od : Int → Nat) (k : Nat) (least ff m cx bx : Int) : Prop :=
  ez_Q b mg S C e od least ff m ∧ (∀ x, 0 ≤ x → x < 8 → (a x = 0 ∨ a x = 1) ∧ (e x = 0 ∨ e x = 1) ∧ (e x = 1 → od x < k)) ∧ a m = 1 ∧ (∀ x, 0 ≤ x → x < 8 → a x = 1 → x ≠ m → ff ≤ x ∧ x < m ∧ e (S x) = 1) ∧ (∀ x, 0 ≤ x → x < 8 → e x = 1 → b (20 + 5 * x + 2) ≤ U x) ∧ ∀ x j, 0 ≤ x → x < 8 → e x = 1 → ff ≤ j → j < m → (x = cx → j < bx) → S j = x → a j = 1
theorem ez_K.first {b mg S U C a e : Int → Int} {least ff m : Int} (ha : ∀ x, 0 ≤ x → x < 8 → a x = if x = m then 1 else 0) (he : ∀ x, 0 ≤ x → x < 8 → e x = 0) (m0 : 0 ≤ m) (m8 : m < 8) : ez_K b mg S U C a e (fun _ => 0) 0 least ff m (-1) 0 := by
  refine ⟨fun c c0 c8 h => ?_, fun x x0 x8 => ⟨?_, Or.inl (he x x0 x8), fun h => ?_⟩, by rw [ha m m0 m8, if_pos rfl], fun x x0 x8 h hn => ?_, fun x x0 x8 h => ?_, fun x j x0 x8 h => ?_⟩
  · rw [he c c0 c8] at h; cases h
  · rw [ha x x0 x8]; split
    · exact Or.inr rfl
    · exact Or.inl rfl
  · rw [he x x0 x8] at h; cases h
  · rw [ha x x0 x8, if_neg hn] at h; cases h
  · rw [he x x0 x8] at h; cases h
  · rw [he x x0 x8] at h; cases h
/-- a cell is met -/
theorem ez_K.meetQ {b mg S U C a e : Int → Int} {od : Int → Nat} {k : Nat} {least ff m : Int} (h : ez_K b mg S U C a e od k least ff m (-1) 0) (hI : ez_I b mg S U least ff m) {n c : Int} (n0 : 0 ≤ n) (n8 : n < 8) (c0 : 0 ≤ c) (cb : c < b 0) (hb : b 0 ≤ 8) (fm : ff ≤ m) (an : a n = 1) (ec : e c = 0) (ok : least ≤ mg (8 * n + c)) : ez_Q b mg S (ey_up C c n) (ey_up e c 1) (fun x => if x = c then k else od x) least ff m := by
  obtain ⟨hQ, hv, hm, ha, hf, ho⟩ := h
  obtain ⟨i1, i2, i3, i4, i5⟩ := hI
  intro x x0 x8 xe
  by_cases ex : x = c
  · subst ex
    rw [ey_up_same]
    have hnm : n ≠ m → ff ≤ n ∧ n < m ∧ e (S n) = 1 := ha n n0 n8 an
    have hn2 : ff ≤ n ∧ n ≤ m := by
      by_cases q : n = m
      · omega
      · have := hnm q; omega
    refine ⟨cb, hn2.1, hn2.2, ok, fun q => ?_⟩
    obtain ⟨q1, q2, q3⟩ := hnm q
    obtain ⟨s0, s1, s2⟩ := i2 n q1 q2
    have hne : S n ≠ x := fun w => by rw [w, ec] at q3; cases q3
    refine ⟨s0, by omega, by rw [ey_up_ne _ _ hne]; exact q3, ?_⟩
    show (if S n = x then k else od (S n)) < (if x = x then k else od x)
    rw [if_neg hne, if_pos rfl]
    exact (hv (S n) s0 (by omega)).2.2 q3
  · rw [ey_up_ne _ _ ex] at xe
    rw [ey_up_ne _ _ ex]
    obtain ⟨q1, q2, q3, q4, q5⟩ := hQ x x0 x8 xe
    refine ⟨q1, q2, q3, q4, fun q => ?_⟩
    obtain ⟨s0, s1, s2, s3⟩ := q5 q
    have hne : S (C x) ≠ c := fun w => by rw [w, ec] at s2; cases s2
    refine ⟨s0, s1, by rw [ey_up_ne _ _ hne]; exact s2, ?_⟩
    show (if S (C x) = c then k else od (S (C x))) < (if x = c then k else od x)
    rw [if_neg hne, if_neg ex]
    exact s3
theorem ez_K.meet {b mg S U C a e : Int → Int} {od : Int → Nat} {k : Nat} {least ff m : Int} (h : ez_K b mg S U C a e od k least ff m (-1) 0) (hI : ez_I b mg S U least ff m) {n c : Int} (n0 : 0 ≤ n) (n8 : n < 8) (c0 : 0 ≤ c) (cb : c < b 0) (hb : b 0 ≤ 8) (fm : ff ≤ m) (an : a n = 1) (ec : e c = 0) (ok : least ≤ mg (8 * n + c)) (full : b (20 + 5 * c + 2) ≤ U c) : ez_K b mg S U (ey_up C c n) a (ey_up e c 1) (fun x => if x = c then k else od x) (k + 1) least ff m c ff := by
  refine ⟨h.meetQ hI n0 n8 c0 cb hb fm an ec ok, ?_⟩
  obtain ⟨hQ, hv, hm, ha, hf, ho⟩ := h
  refine ⟨fun x x0 x8 => ⟨(hv x x0 x8).1, ?_, fun xe => ?_⟩, hm, fun x x0 x8 xa xn => ?_, fun x x0 x8 xe => ?_, fun x j x0 x8 xe j0 j1 hx hs => ?_⟩
  · by_cases ex : x = c
    · rw [ex, ey_up_same]; exact Or.inr rfl
    · rw [ey_up_ne _ _ ex]; exact (hv x x0 x8).2.1
  · show (if x = c then k else od x) < k + 1
    by_cases ex : x = c
    · rw [if_pos ex]; omega
    · rw [ey_up_ne _ _ ex] at xe; rw [if_neg ex]; have := (hv x x0 x8).2.2 xe; omega
  · obtain ⟨q1, q2, q3⟩ := ha x x0 x8 xa xn
    refine ⟨q1, q2, ?_⟩
    have hne : S x ≠ c := fun w => by rw [w, ec] at q3; cases q3
    rw [ey_up_ne _ _ hne]; exact q3
  · by_cases ex : x = c
    · rw [ex]; exact full
    · rw [ey_up_ne _ _ ex] at xe; exact hf x x0 x8 xe
  · by_cases ex : x = c
    · have := hx ex; omega
    · rw [ey_up_ne _ _ ex] at xe; exact ho x j x0 x8 xe j0 j1 (fun w => by omega) hs
/-- one who sits there is met, or not -/
theorem ez_K.man {b mg S U C a e : Int → Int} {od : Int → Nat} {k : Nat} {least ff m c n v : Int} (h : ez_K b mg S U C a e od k least ff m c n) (hI : ez_I b mg S U least ff m) (c0 : 0 ≤ c) (c8 : c < 8) (ec : e c = 1) (n0 : 0 ≤ n) (nf : ff ≤ n) (nb : n < b 11) (h8 : b 11 ≤ 8) (hv : v = 0 ∨ v = 1) (hv1 : v = 1 ↔ a n ≠ 0 ∨ (S n = c ∧ n ≠ m)) : ez_K b mg S U C (ey_up a n v) e od k least ff m c (n + 1) := by
  obtain ⟨hQ, hw, hm, ha, hf, ho⟩ := h
  obtain ⟨i1, i2, i3, i4, i5⟩ := hI
  refine ⟨hQ, fun x x0 x8 => ⟨?_, (hw x x0 x8).2⟩, ?_, fun x x0 x8 xa xn => ?_, hf, fun x j x0 x8 xe j0 j1 hx hs => ?_⟩
  · by_cases ex : x = n
    · rw [ex, ey_up_same]; exact hv
    · rw [ey_up_ne _ _ ex]; exact (hw x x0 x8).1
  · by_cases ex : m = n
    · rw [ex, ey_up_same, hv1]; rw [ex] at hm; left; omega
    · rw [ey_up_ne _ _ ex]; exact hm
  · by_cases ex : x = n
    · subst ex
      rw [ey_up_same] at xa
      rcases hv1.mp xa with q | ⟨q1, q2⟩
      · refine ha x x0 x8 ?_ xn
        rcases (hw x x0 x8).1 with w | w
        · exact absurd w q
        · exact w
      · refine ⟨nf, ?_, by rw [q1]; exact ec⟩
        refine Classical.byContradiction (fun w => ?_)
        have := i3 x (by omega) nb
        omega
    · rw [ey_up_ne _ _ ex] at xa; exact ha x x0 x8 xa xn
  · by_cases ex : j = n
    · subst ex
      rw [ey_up_same, hv1]
      by_cases q : x = c
      · right; exact ⟨by rw [hs, q], by omega⟩
      · left; have := ho x j x0 x8 xe j0 j1 (fun w => absurd w q) hs; omega
    · rw [ey_up_ne _ _ ex]
      exact ho x j x0 x8 xe j0 j1 (fun w => by have := hx w; omega) hs
theorem ez_K.all {b mg S U C a e : Int → Int} {od : Int → Nat} {k : Nat} {least ff m c n : Int} (h : ez_K b mg S U C a e od k least ff m c n) (hn : m ≤ n) : ez_K b mg S U C a e od k least ff m (-1) 0 := by
  obtain ⟨hQ, hw, hm, ha, hf, ho⟩ := h
  exact ⟨hQ, hw, hm, ha, hf, fun x j x0 x8 xe j0 j1 _ hs => ho x j x0 x8 xe j0 j1 (fun _ => by omega) hs⟩
/-- nothing more to meet: nobody can seat all -/
theorem ez_K.none {b mg S U C a e : Int → Int} {od : Int → Nat} {k : Nat} {least ff m : Int} (h : ez_K b mg S U C a e od k least ff m (-1) 0) (hI : ez_I b mg S U least ff m) (f0 : 0 ≤ ff) (fm : ff ≤ m) (hm : m < b 11) (h8 : b 11 ≤ 8) (hb : b 0 ≤ 8) (cl : ∀ x y, 0 ≤ x → x < b 11 → a x = 1 → 0 ≤ y → y < b 0 → least ≤ mg (8 * x + y) → e y = 1) : ¬ ez_F b mg least ff S := by
  rintro ⟨t, t1, t2, t3⟩
  obtain ⟨hQ, hw, ham, ha, hf, ho⟩ := h
  obtain ⟨i1, i2, i3, i4, i5⟩ := hI
  have hT : ∀ y, decide (0 ≤ y ∧ y < 8 ∧ e y = 1) = true ↔ (0 ≤ y ∧ y < 8 ∧ e y = 1) := fun y => ⟨of_decide_eq_true, decide_eq_true⟩
  have met : ∀ j, 0 ≤ j → j < b 11 → ff ≤ j → a j = 1 → decide (0 ≤ t j ∧ t j < 8 ∧ e (t j) = 1) = true := fun j j0 j1 jf ja => by
    obtain ⟨q1, q2, q3, q4⟩ := t1 j j0 j1
    exact (hT _).mpr ⟨q1, q2, cl j (t j) j0 j1 ja q1 (q3 jf) q4⟩
  refine ez_full (s := S) (t := t) (cap := fun x => b (20 + 5 * x + 2)) (M := fun y => decide (0 ≤ y ∧ y < 8 ∧ e y = 1)) (m := m) (N := (b 11).toNat) (fun y hy => ?_) (fun x hx => ?_) (fun x hx => ?_) (by omega) (by omega) ?_ (met m (by omega) hm fm ham) (fun j j0 j1 hj => ?_)
  · have := (hT y).mp hy; exact ⟨this.1, this.2.1⟩
  · obtain ⟨x0, x8, xe⟩ := (hT x).mp hx
    show b (20 + 5 * x + 2) ≤ _
    rw [← i4 x x0 x8]
    exact hf x x0 x8 xe
  · obtain ⟨x0, x8, xe⟩ := (hT x).mp hx
    exact t3 x x0 (hQ x x0 x8 xe).1
  · show decide (0 ≤ S m ∧ S m < 8 ∧ e (S m) = 1) = false
    rw [i3 m (Int.le_refl _) hm]
    rfl
  · have jb : j < b 11 := by omega
    obtain ⟨s0, s8, se⟩ := (hT (S j)).mp hj
    show decide (0 ≤ t j ∧ t j < 8 ∧ e (t j) = 1) = true
    by_cases q1 : j < ff
    · rw [t2 j j0 q1]; exact hj
    · by_cases q2 : j < m
      · exact met j j0 jb (by omega) (ho (S j) j s0 s8 se (by omega) q2 (fun w => by omega) rfl)
      · have := i3 j (by omega) jb; omega
