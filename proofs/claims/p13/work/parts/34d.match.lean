/-! Seats: counting; who moves on; when all can sit. -/
def ez_c (s : Int → Int) (x : Int) : Nat → Int
  | 0 => 0
  | n + 1 => ez_c s x n + (if s (n : Int) = x then 1 else 0)
theorem ez_c_up (s : Int → Int) {a : Int} (c x : Int) (h0 : 0 ≤ a) : ∀ n : Nat, ez_c (ey_up s a c) x n = if a < n then ez_c s x n - (if s a = x then 1 else 0) + (if c = x then 1 else 0) else ez_c s x n := by
  intro n
  induction n with
  | zero => rw [if_neg (by omega)]; rfl
  | succ n ih =>
    show ez_c (ey_up s a c) x n + (if ey_up s a c (n : Int) = x then 1 else 0) = _
    rw [ih]
    show _ = if a < ((n + 1 : Nat) : Int) then ez_c s x n + (if s (n : Int) = x then 1 else 0) - (if s a = x then 1 else 0) + (if c = x then 1 else 0) else ez_c s x n + (if s (n : Int) = x then 1 else 0)
    by_cases e : (n : Int) = a
    · have hl : ¬ a < (n : Int) := by omega
      have hl' : a < ((n + 1 : Nat) : Int) := by omega
      rw [if_neg hl, if_pos hl', e, ey_up_same]
      omega
    · rw [ey_up_ne _ _ e]
      by_cases l : a < (n : Int)
      · have hl' : a < ((n + 1 : Nat) : Int) := by omega
        rw [if_pos l, if_pos hl']; omega
      · have hl' : ¬ a < ((n + 1 : Nat) : Int) := by omega
        rw [if_neg l, if_neg hl']
theorem ez_c_none {s : Int → Int} {x : Int} : ∀ n : Nat, (∀ j : Int, 0 ≤ j → j < n → s j ≠ x) → ez_c s x n = 0 := by
  intro n
  induction n with
  | zero => intro _; rfl
  | succ n ih =>
    intro h
    show ez_c s x n + (if s (n : Int) = x then 1 else 0) = 0
    rw [ih (fun j h0 h1 => h j h0 (by omega)), if_neg (h n (by omega) (by omega))]
    rfl
theorem ez_c_congr {s t : Int → Int} {x : Int} : ∀ n : Nat, (∀ j : Int, 0 ≤ j → j < n → s j = t j) → ez_c s x n = ez_c t x n := by
  intro n
  induction n with
  | zero => intro _; rfl
  | succ n ih =>
    intro h
    show ez_c s x n + (if s (n : Int) = x then 1 else 0) = ez_c t x n + (if t (n : Int) = x then 1 else 0)
    rw [ih (fun j h0 h1 => h j h0 (by omega)), h n (by omega) (by omega)]
def ez_t (s : Int → Int) (M : Int → Bool) : Nat → Int
  | 0 => 0
  | n + 1 => ez_t s M n + (if M (s (n : Int)) = true then 1 else 0)
def ez_s (F : Int → Int) : Nat → Int
  | 0 => 0
  | k + 1 => ez_s F k + F (k : Int)
theorem ez_s_congr {F G : Int → Int} : ∀ k : Nat, (∀ x : Int, 0 ≤ x → x < k → F x = G x) → ez_s F k = ez_s G k := by
  intro k
  induction k with
  | zero => intro _; rfl
  | succ k ih =>
    intro h
    show ez_s F k + F k = ez_s G k + G k
    rw [ih (fun x h0 h1 => h x h0 (by omega)), h k (by omega) (by omega)]
theorem ez_s_le {F G : Int → Int} : ∀ k : Nat, (∀ x : Int, 0 ≤ x → x < k → F x ≤ G x) → ez_s F k ≤ ez_s G k := by
  intro k
  induction k with
  | zero => intro _; exact Int.le_refl _
  | succ k ih =>
    intro h
    show ez_s F k + F k ≤ ez_s G k + G k
    have h1 := ih (fun x h0 h1 => h x h0 (by omega))
    have h2 := h k (by omega) (by omega)
    omega
theorem ez_s_add (F G : Int → Int) : ∀ k : Nat, ez_s (fun x => F x + G x) k = ez_s F k + ez_s G k := by
  intro k
  induction k with
  | zero => rfl
  | succ k ih =>
    show ez_s (fun x => F x + G x) k + (F k + G k) = ez_s F k + F k + (ez_s G k + G k)
    rw [ih]; omega
theorem ez_s_zero : ∀ k : Nat, ez_s (fun _ => 0) k = 0 := by
  intro k
  induction k with
  | zero => rfl
  | succ k ih => show ez_s (fun _ => 0) k + 0 = 0; rw [ih]; rfl
theorem ez_s_ind (y v : Int) : ∀ k : Nat, ez_s (fun x => if y = x then v else 0) k = if 0 ≤ y ∧ y < k then v else 0 := by
  intro k
  induction k with
  | zero => rw [if_neg (by omega)]; rfl
  | succ k ih =>
    show ez_s (fun x => if y = x then v else 0) k + (if y = (k : Int) then v else 0) = _
    rw [ih]
    by_cases e : y = (k : Int)
    · rw [if_neg (by omega), if_pos e, if_pos (by omega)]; omega
    · rw [if_neg e]
      by_cases l : 0 ≤ y ∧ y < k
      · rw [if_pos l, if_pos (by omega)]; omega
      · rw [if_neg l, if_neg (by omega)]; rfl
theorem ez_t_eq {s : Int → Int} {M : Int → Bool} {k : Nat} (hM : ∀ y, M y = true → 0 ≤ y ∧ y < k) : ∀ n : Nat, ez_t s M n = ez_s (fun x => if M x = true then ez_c s x n else 0) k := by
  intro n
  induction n with
  | zero =>
    rw [ez_s_congr (G := fun _ => 0) k (fun x _ _ => by show (if M x = true then (0 : Int) else 0) = 0; split <;> rfl), ez_s_zero]
    rfl
  | succ n ih =>
    show ez_t s M n + (if M (s (n : Int)) = true then 1 else 0) = _
    rw [ih, ez_s_congr (F := fun x => if M x = true then ez_c s x (n + 1) else 0) (G := fun x => (if M x = true then ez_c s x n else 0) + (if s (n : Int) = x then (if M (s (n : Int)) = true then 1 else 0) else 0)) k (fun x _ _ => ?_), ez_s_add, ez_s_ind]
    · by_cases h : M (s (n : Int)) = true
      · rw [if_pos h, if_pos (hM _ h)]
      · rw [if_neg h]; split <;> rfl
    · show (if M x = true then ez_c s x n + (if s (n : Int) = x then 1 else 0) else 0) = _
      by_cases e : s (n : Int) = x
      · rw [e]
        by_cases h : M x = true
        · rw [if_pos h, if_pos h, if_pos rfl, if_pos rfl, if_pos h]
        · rw [if_neg h, if_neg h, if_pos rfl, if_neg h]; rfl
      · rw [if_neg e, if_neg e]
        by_cases h : M x = true
        · rw [if_pos h, if_pos h]
        · rw [if_neg h, if_neg h]; rfl
theorem ez_t_le {s t : Int → Int} {M : Int → Bool} : ∀ n : Nat, (∀ j : Int, 0 ≤ j → j < n → M (s j) = true → M (t j) = true) → ez_t s M n ≤ ez_t t M n := by
  intro n
  induction n with
  | zero => intro _; exact Int.le_refl _
  | succ n ih =>
    intro h
    show ez_t s M n + (if M (s (n : Int)) = true then 1 else 0) ≤ ez_t t M n + (if M (t (n : Int)) = true then 1 else 0)
    have h1 := ih (fun j h0 h1 => h j h0 (by omega))
    by_cases e : M (s (n : Int)) = true
    · rw [if_pos e, if_pos (h n (by omega) (by omega) e)]; omega
    · rw [if_neg e]; split <;> omega
theorem ez_t_lt {s t : Int → Int} {M : Int → Bool} {m : Int} (h0 : 0 ≤ m) (hs : M (s m) = false) (ht : M (t m) = true) : ∀ n : Nat, m < n → (∀ j : Int, 0 ≤ j → j < n → M (s j) = true → M (t j) = true) → ez_t s M n + 1 ≤ ez_t t M n := by
  intro n
  induction n with
  | zero => intro h; omega
  | succ n ih =>
    intro hn h
    show ez_t s M n + (if M (s (n : Int)) = true then 1 else 0) + 1 ≤ ez_t t M n + (if M (t (n : Int)) = true then 1 else 0)
    by_cases e : m = (n : Int)
    · subst e
      have h1 := ez_t_le (s := s) (t := t) (M := M) n (fun j h0 h1 => h j h0 (by omega))
      rw [if_neg (by rw [hs]; exact Bool.false_ne_true), if_pos ht]
      omega
    · have h1 := ih (by omega) (fun j h0 h1 => h j h0 (by omega))
      by_cases e : M (s (n : Int)) = true
      · rw [if_pos e, if_pos (h n (by omega) (by omega) e)]; omega
      · rw [if_neg e]; split <;> omega
/-- cells that are full, with all who may sit there and one more: nobody can seat them -/
theorem ez_full {s t cap : Int → Int} {M : Int → Bool} {m : Int} {N : Nat} (hM : ∀ y, M y = true → 0 ≤ y ∧ y < 8) (hs : ∀ x, M x = true → cap x ≤ ez_c s x N) (ht : ∀ x, M x = true → ez_c t x N ≤ cap x) (h0 : 0 ≤ m) (hmN : m < N) (h1 : M (s m) = false) (h2 : M (t m) = true) (h3 : ∀ j : Int, 0 ≤ j → j < N → M (s j) = true → M (t j) = true) : False := by
  have e1 := ez_t_lt h0 h1 h2 N hmN h3
  rw [ez_t_eq (k := 8) hM, ez_t_eq (k := 8) hM] at e1
  have e2 := ez_s_le (F := fun x => if M x = true then ez_c t x N else 0) (G := fun x => if M x = true then ez_c s x N else 0) 8 (fun x _ _ => by
    show (if M x = true then ez_c t x N else 0) ≤ (if M x = true then ez_c s x N else 0)
    by_cases e : M x = true
    · rw [if_pos e, if_pos e]
      have := hs x e
      have := ht x e
      omega
    · rw [if_neg e, if_neg e]; exact Int.le_refl _)
  omega
/-- enough seats for all -/
theorem ez_room {cap : Int → Int} {k : Nat} : ∀ n : Nat, (n : Int) ≤ ez_s cap k → ∃ t : Int → Int, (∀ j : Int, 0 ≤ j → j < n → 0 ≤ t j ∧ t j < k) ∧ ∀ x : Int, 0 ≤ x → x < k → 0 ≤ cap x → ez_c t x n ≤ cap x := by
  intro n
  induction n with
  | zero => intro _; exact ⟨fun _ => 0, fun j h0 h1 => by omega, fun x _ _ h => h⟩
  | succ n ih =>
    intro hn
    obtain ⟨t, h1, h2⟩ := ih (by omega)
    have hx : ∃ x : Int, 0 ≤ x ∧ x < k ∧ ez_c t x n < cap x := by
      refine Classical.byContradiction (fun hne => ?_)
      have hle := ez_s_le (F := cap) (G := fun x => ez_c t x n) k (fun x g0 g1 => by
        refine Classical.byContradiction (fun g => hne ⟨x, g0, g1, ?_⟩)
        show ez_c t x n < cap x
        have g' : ¬ cap x ≤ ez_c t x n := g
        omega)
      have hc : ∀ m : Nat, m ≤ n → ez_t t (fun y => decide (0 ≤ y ∧ y < k)) m = m := by
        intro m
        induction m with
        | zero => intro _; rfl
        | succ m ihm =>
          intro hm
          show ez_t t (fun y => decide (0 ≤ y ∧ y < k)) m + (if decide (0 ≤ t m ∧ t m < k) = true then 1 else 0) = _
          rw [ihm (by omega), if_pos (decide_eq_true (h1 m (by omega) (by omega)))]
          omega
      have e := hc n (Nat.le_refl _)
      rw [ez_t_eq (k := k) (fun y hy => of_decide_eq_true hy)] at e
      rw [ez_s_congr (G := fun x => ez_c t x n) k (fun x g0 g1 => if_pos (decide_eq_true ⟨g0, g1⟩))] at e
      omega
    obtain ⟨x, x0, x1, x2⟩ := hx
    refine ⟨ey_up t n x, fun j h0 hj => ?_, fun y y0 y1 yc => ?_⟩
    · by_cases e : j = n
      · rw [e, ey_up_same]; exact ⟨x0, x1⟩
      · rw [ey_up_ne _ _ e]; exact h1 j h0 (by omega)
    · show ez_c (ey_up t n x) y n + (if ey_up t n x (n : Int) = y then 1 else 0) ≤ cap y
      rw [ez_c_up t x y (by omega), if_neg (by omega), ey_up_same]
      by_cases e : x = y
      · subst e; rw [if_pos rfl]; omega
      · rw [if_neg e]; have := h2 y y0 y1 yc; omega
/-- all can sit so: those ahead of ff where they do -/
def ez_F (b mg : Int → Int) (least ff : Int) (S : Int → Int) : Prop := ∃ t : Int → Int, (∀ j, 0 ≤ j → j < b 11 → 0 ≤ t j ∧ t j < 8 ∧ (ff ≤ j → t j < b 0) ∧ least ≤ mg (8 * j + t j)) ∧ (∀ j, 0 ≤ j → j < ff → t j = S j) ∧ ∀ x, 0 ≤ x → x < b 0 → ez_c t x (b 11).toNat ≤ b (20 + 5 * x + 2)
/-- those ahead of m sit -/
def ez_I (b mg S U : Int → Int) (least ff m : Int) : Prop := (∀ j, 0 ≤ j → j < ff → 0 ≤ S j ∧ S j < 8 ∧ least ≤ mg (8 * j + S j)) ∧ (∀ j, ff ≤ j → j < m → 0 ≤ S j ∧ S j < b 0 ∧ least ≤ mg (8 * j + S j)) ∧ (∀ j, m ≤ j → j < b 11 → S j = -1) ∧ (∀ x, 0 ≤ x → x < 8 → U x = ez_c S x (b 11).toNat) ∧ ∀ x, 0 ≤ x → x < b 0 → U x ≤ b (20 + 5 * x + 2)
/-- the cells that were met: who met them, and from where -/
def ez_Q (b mg S C e : Int → Int) (od : Int → Nat) (least ff m : Int) : Prop := ∀ c, 0 ≤ c → c < 8 → e c = 1 → c < b 0 ∧ ff ≤ C c ∧ C c ≤ m ∧ least ≤ mg (8 * C c + c) ∧ (C c ≠ m → 0 ≤ S (C c) ∧ S (C c) < 8 ∧ e (S (C c)) = 1 ∧ od (S (C c)) < od c)
/-- moving on: one seat is kept at c -/
def ez_M (b mg S0 C e : Int → Int) (od : Int → Nat) (least ff m : Int) (U S : Int → Int) (c : Int) : Prop := 0 ≤ c ∧ c < 8 ∧ e c = 1 ∧ (∀ j, 0 ≤ j → j < ff → S j = S0 j) ∧ (∀ j, ff ≤ j → j < m → 0 ≤ S j ∧ S j < b 0 ∧ least ≤ mg (8 * j + S j)) ∧ (∀ j, m ≤ j → j < b 11 → S j = -1) ∧ (∀ x, 0 ≤ x → x < 8 → U x = ez_c S x (b 11).toNat + (if c = x then 1 else 0)) ∧ ∀ x, 0 ≤ x → x < 8 → e x = 1 → od x ≤ od c → S (C x) = S0 (C x)
theorem ez_M.step {b mg S0 C e : Int → Int} {od : Int → Nat} {least ff m : Int} {U S : Int → Int} {c : Int} (h : ez_M b mg S0 C e od least ff m U S c) (hQ : ez_Q b mg S0 C e od least ff m) (hf : 0 ≤ ff) (hm : m < b 11) (hb : b 0 ≤ 8) (hne : C c ≠ m) : ez_M b mg S0 C e od least ff m U (ey_up S (C c) c) (S (C c)) ∧ od (S (C c)) < od c := by
  obtain ⟨c0, c8, ce, m1, m2, m3, m4, m5⟩ := h
  obtain ⟨q1, q2, q3, q4, q5⟩ := hQ c c0 c8 ce
  obtain ⟨r0, r8, re, ro⟩ := q5 hne
  have es : S (C c) = S0 (C c) := m5 c c0 c8 ce (Nat.le_refl _)
  rw [es]
  refine ⟨⟨r0, r8, re, fun j j0 j1 => ?_, fun j j0 j1 => ?_, fun j j0 j1 => ?_, fun x x0 x8 => ?_, fun x x0 x8 xe xo => ?_⟩, ro⟩
  · rw [ey_up_ne _ _ (by omega)]; exact m1 j j0 j1
  · by_cases ej : j = C c
    · rw [ej, ey_up_same]; exact ⟨c0, q1, q4⟩
    · rw [ey_up_ne _ _ ej]; exact m2 j j0 j1
  · rw [ey_up_ne _ _ (by omega)]; exact m3 j j0 j1
  · have hl : C c < ((b 11).toNat : Int) := by omega
    rw [m4 x x0 x8, ez_c_up S c x (by omega), if_pos hl, es]
    omega
  · obtain ⟨p1, p2, p3, p4, p5⟩ := hQ x x0 x8 xe
    by_cases ej : C x = C c
    · exfalso
      obtain ⟨s0, s8, se, so⟩ := p5 (by rw [ej]; exact hne)
      rw [ej] at so
      omega
    · rw [ey_up_ne _ _ ej]; exact m5 x x0 x8 xe (by omega)
theorem ez_M.end {b mg S0 C e : Int → Int} {od : Int → Nat} {least ff m : Int} {U S : Int → Int} {c : Int} (h : ez_M b mg S0 C e od least ff m U S c) (hQ : ez_Q b mg S0 C e od least ff m) (hf : 0 ≤ ff) (hfm : ff ≤ m) (hm : m < b 11) (heq : C c = m) : (∀ j, 0 ≤ j → j < ff → ey_up S m c j = S0 j) ∧ (∀ j, ff ≤ j → j < m + 1 → 0 ≤ ey_up S m c j ∧ ey_up S m c j < b 0 ∧ least ≤ mg (8 * j + ey_up S m c j)) ∧ (∀ j, m + 1 ≤ j → j < b 11 → ey_up S m c j = -1) ∧ ∀ x, 0 ≤ x → x < 8 → U x = ez_c (ey_up S m c) x (b 11).toNat := by
  obtain ⟨c0, c8, ce, m1, m2, m3, m4, m5⟩ := h
  obtain ⟨q1, q2, q3, q4, q5⟩ := hQ c c0 c8 ce
  rw [heq] at q4
  refine ⟨fun j j0 j1 => ?_, fun j j0 j1 => ?_, fun j j0 j1 => ?_, fun x x0 x8 => ?_⟩
  · rw [ey_up_ne _ _ (by omega)]; exact m1 j j0 j1
  · by_cases ej : j = m
    · rw [ej, ey_up_same]; exact ⟨c0, q1, q4⟩
    · rw [ey_up_ne _ _ ej]; exact m2 j j0 (by omega)
  · rw [ey_up_ne _ _ (by omega)]; exact m3 j (by omega) j1
  · have hl : m < ((b 11).toNat : Int) := by omega
    rw [m4 x x0 x8, ez_c_up S c x (by omega), if_pos hl, m3 m (Int.le_refl _) hm]
    rw [if_neg (by omega : ¬ (-1 : Int) = x)]
    omega
theorem ey_up_bd {f : Int → Int} {i x lo hi n : Int} (h : ∀ j, 0 ≤ j → j < n → lo ≤ f j ∧ f j ≤ hi) (x0 : lo ≤ x) (x1 : x ≤ hi) : ∀ j, 0 ≤ j → j < n → lo ≤ ey_up f i x j ∧ ey_up f i x j ≤ hi := by
  intro j j0 j1
  by_cases e : j = i
  · rw [e, ey_up_same]; exact ⟨x0, x1⟩
  · rw [ey_up_ne _ _ e]; exact h j j0 j1
