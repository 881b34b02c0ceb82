/-! What lies under a picture; known calls by contracts; places joined in a frame. -/
def ex_leV (zs zt : Option Int) (a b : ex_V) : Bool := match b with
  | .inl y => (match a with
    | .inl x => ex_eq x y
    | .inr (.inr (.inr (.inr (.inr (j, _, _))))) => (match zs with | some z => Nat.beq j 0 && ex_eq z y | none => false)
    | _ => false)
  | .inr (.inl y) => (match a with | .inr (.inl x) => ex_eq x y | _ => false)
  | .inr (.inr (.inl none)) => (match a with | .inr (.inr (.inl none)) => true | _ => false)
  | .inr (.inr (.inl (some k))) => (match a with | .inr (.inr (.inl (some j))) => Nat.beq j k | _ => false)
  | .inr (.inr (.inr (.inl (lo, hi)))) => ex_i a (fun p q => ex_le lo p && ex_le q hi)
  | .inr (.inr (.inr (.inr (.inl (lo, hi))))) => ex_l a (fun p q => ex_le lo p && ex_le q hi)
  | .inr (.inr (.inr (.inr (.inr (j, lo, hi))))) => (match a with
    | .inl x => (match zt with | some z => Nat.beq j 0 && (ex_eq z x && (ex_le lo x && ex_le x hi)) | none => false)
    | .inr (.inr (.inr (.inr (.inr (i, p, q))))) => Nat.beq i j && (Nat.ble 1 j && (ex_le lo p && ex_le q hi))
    | _ => false)
/-- the same addresses; the name 0 stands for a number on either side -/
def er_Z (zs zt : Option Int) (ρ ρ' : ex_R) : Prop := ρ'.1 = ρ.1 ∧ (∀ z, zs = some z → (ρ.2 0).toInt = z) ∧ (∀ z, zt = some z → (ρ'.2 0).toInt = z) ∧ ∀ k, 1 ≤ k → ρ'.2 k = ρ.2 k
theorem er_Z.none {sa : List Nat} {ws : va_W} {ν ν' : Nat → Int32} (hν : ∀ k, 1 ≤ k → ν' k = ν k) : er_Z none none (er_r ν sa ws) (er_r ν' sa ws) := ⟨rfl, fun _ h => (nomatch h), fun _ h => (nomatch h), hν⟩
theorem ex_leV_ok {zs zt : Option Int} {ρ ρ' : ex_R} (hz : er_Z zs zt ρ ρ') {a b : ex_V} {v : Value} (h : ex_leV zs zt a b = true) (hv : er_V ρ a v) : er_V ρ' b v := by
  obtain ⟨hr, hs, ht, hk⟩ := hz
  match b, h with
  | .inl y, h =>
    match a, h, hv with
    | .inl x, h, ⟨w, e1, e2⟩ => exact ⟨w, e1, by rw [e2]; exact (ex_eq_iff _ _).mp h⟩
    | .inr (.inr (.inr (.inr (.inr (j, lo, hi))))), h, hv =>
      cases zs with
      | none => exact absurd h Bool.false_ne_true
      | some z =>
        replace h : (Nat.beq j 0 && ex_eq z y) = true := h
        rw [Bool.and_eq_true] at h
        obtain rfl := Nat.eq_of_beq_eq_true h.1
        obtain ⟨e1, -, -⟩ := hv
        exact ⟨ρ.2 0, e1, by rw [hs z rfl]; exact (ex_eq_iff _ _).mp h.2⟩
    | .inr (.inl _), h, _ => exact absurd h Bool.false_ne_true
    | .inr (.inr (.inl _)), h, _ => exact absurd h Bool.false_ne_true
    | .inr (.inr (.inr (.inl _))), h, _ => exact absurd h Bool.false_ne_true
    | .inr (.inr (.inr (.inr (.inl _)))), h, _ => exact absurd h Bool.false_ne_true
  | .inr (.inl y), h =>
    match a, h, hv with
    | .inr (.inl x), h, ⟨w, e1, e2⟩ => exact ⟨w, e1, by rw [e2]; exact (ex_eq_iff _ _).mp h⟩
    | .inl _, h, _ => exact absurd h Bool.false_ne_true
    | .inr (.inr (.inl _)), h, _ => exact absurd h Bool.false_ne_true
    | .inr (.inr (.inr (.inl _))), h, _ => exact absurd h Bool.false_ne_true
    | .inr (.inr (.inr (.inr (.inl _)))), h, _ => exact absurd h Bool.false_ne_true
    | .inr (.inr (.inr (.inr (.inr _)))), h, _ => exact absurd h Bool.false_ne_true
  | .inr (.inr (.inl none)), h =>
    match a, h, hv with
    | .inr (.inr (.inl none)), _, hv => exact hv
    | .inr (.inr (.inl (some _))), h, _ => exact absurd h Bool.false_ne_true
    | .inl _, h, _ => exact absurd h Bool.false_ne_true
    | .inr (.inl _), h, _ => exact absurd h Bool.false_ne_true
    | .inr (.inr (.inr (.inl _))), h, _ => exact absurd h Bool.false_ne_true
    | .inr (.inr (.inr (.inr (.inl _)))), h, _ => exact absurd h Bool.false_ne_true
    | .inr (.inr (.inr (.inr (.inr _)))), h, _ => exact absurd h Bool.false_ne_true
  | .inr (.inr (.inl (some k))), h =>
    match a, h, hv with
    | .inr (.inr (.inl (some j))), h, ⟨q, e1, e2⟩ =>
      obtain rfl := Nat.eq_of_beq_eq_true h
      exact ⟨q, by rw [hr]; exact e1, e2⟩
    | .inr (.inr (.inl none)), h, _ => exact absurd h Bool.false_ne_true
    | .inl _, h, _ => exact absurd h Bool.false_ne_true
    | .inr (.inl _), h, _ => exact absurd h Bool.false_ne_true
    | .inr (.inr (.inr (.inl _))), h, _ => exact absurd h Bool.false_ne_true
    | .inr (.inr (.inr (.inr (.inl _)))), h, _ => exact absurd h Bool.false_ne_true
    | .inr (.inr (.inr (.inr (.inr _)))), h, _ => exact absurd h Bool.false_ne_true
  | .inr (.inr (.inr (.inl (lo, hi)))), h =>
    obtain ⟨x, p, q, rfl, h1, h2, h3⟩ := ex_i_ok (k := fun p q => ex_le lo p && ex_le q hi) h hv
    simp only [Bool.and_eq_true, ex_le_iff] at h3
    exact ⟨x, rfl, by show lo ≤ _; omega, by show _ ≤ hi; omega⟩
  | .inr (.inr (.inr (.inr (.inl (lo, hi))))), h =>
    obtain ⟨x, p, q, rfl, h1, h2, h3⟩ := ex_l_ok (k := fun p q => ex_le lo p && ex_le q hi) h hv
    simp only [Bool.and_eq_true, ex_le_iff] at h3
    exact ⟨x, rfl, by show lo ≤ _; omega, by show _ ≤ hi; omega⟩
  | .inr (.inr (.inr (.inr (.inr (j, lo, hi))))), h =>
    match a, h, hv with
    | .inl x, h, ⟨w, e1, e2⟩ =>
      cases zt with
      | none => exact absurd h Bool.false_ne_true
      | some z =>
        replace h : (Nat.beq j 0 && (ex_eq z x && (ex_le lo x && ex_le x hi))) = true := h
        simp only [Bool.and_eq_true, ex_le_iff, ex_eq_iff] at h
        obtain ⟨h0, h1, h2, h3⟩ := h
        obtain rfl := Nat.eq_of_beq_eq_true h0
        have e := ht z rfl
        have hw : ρ'.2 0 = w := Int32.toInt_inj.mp (by rw [e, h1, e2])
        exact ⟨by rw [e1, hw], by show lo ≤ _; rw [hw, e2]; exact h2, by show _ ≤ hi; rw [hw, e2]; exact h3⟩
    | .inr (.inr (.inr (.inr (.inr (i, p, q))))), h, ⟨e1, e2, e3⟩ =>
      replace h : (Nat.beq i j && (Nat.ble 1 j && (ex_le lo p && ex_le q hi))) = true := h
      simp only [Bool.and_eq_true, ex_le_iff] at h
      obtain ⟨h0, h1, h2, h3⟩ := h
      obtain rfl := Nat.eq_of_beq_eq_true h0
      have e := hk i (Nat.le_of_ble_eq_true h1)
      replace e2 : p ≤ (ρ.2 i).toInt := e2
      replace e3 : (ρ.2 i).toInt ≤ q := e3
      exact ⟨by rw [e]; exact e1, by show lo ≤ (ρ'.2 i).toInt; rw [e]; omega, by show (ρ'.2 i).toInt ≤ hi; rw [e]; omega⟩
    | .inr (.inl _), h, _ => exact absurd h Bool.false_ne_true
    | .inr (.inr (.inl _)), h, _ => exact absurd h Bool.false_ne_true
    | .inr (.inr (.inr (.inl _))), h, _ => exact absurd h Bool.false_ne_true
    | .inr (.inr (.inr (.inr (.inl _)))), h, _ => exact absurd h Bool.false_ne_true
noncomputable def ex_leL (zs zt : Option Int) (l : List ex_V) : List ex_V → Bool :=
  List.rec (motive := fun _ => List ex_V → Bool) (fun m => match m with | [] => true | _ :: _ => false) (fun x _ ih m => match m with | y :: m => ex_leV zs zt x y && ih m | [] => false) l
theorem ex_leL_ok {zs zt : Option Int} : ∀ (l m : List ex_V), ex_leL zs zt l m = true → m.length = l.length ∧ ∀ (j : Nat) (b : ex_V), m[j]? = some b → ∃ a, l[j]? = some a ∧ ex_leV zs zt a b = true := by
  intro l
  induction l with
  | nil =>
    intro m h
    cases m with
    | nil => exact ⟨rfl, fun j b hb => by cases hb⟩
    | cons y m => exact absurd h Bool.false_ne_true
  | cons x l ih =>
    intro m h
    cases m with
    | nil => exact absurd h Bool.false_ne_true
    | cons y m =>
      replace h : (ex_leV zs zt x y && ex_leL zs zt l m) = true := h
      rw [Bool.and_eq_true] at h
      obtain ⟨h1, h2⟩ := ih m h.2
      refine ⟨by rw [List.length_cons, List.length_cons, h1], fun j b hb => ?_⟩
      cases j with
      | zero => cases hb; exact ⟨x, rfl, h.1⟩
      | succ j => exact h2 j b hb
theorem ex_leL_st {zs zt : Option Int} {ρ ρ' : ex_R} (hz : er_Z zs zt ρ ρ') : ∀ (l m : List ex_V) (vs : List Value), ex_leL zs zt l m = true → er_St ρ l vs → er_St ρ' m vs := by
  intro l
  induction l with
  | nil =>
    intro m vs h hv
    cases m with
    | nil => rw [hv.nil]; exact trivial
    | cons y m => exact absurd h Bool.false_ne_true
  | cons x l ih =>
    intro m vs h hv
    cases m with
    | nil => exact absurd h Bool.false_ne_true
    | cons y m =>
      replace h : (ex_leV zs zt x y && ex_leL zs zt l m) = true := h
      rw [Bool.and_eq_true] at h
      obtain ⟨v, vs, rfl, g1, g2⟩ := hv.cons
      exact ⟨ex_leV_ok hz h.1 g1, ih m vs h.2 g2⟩
def ex_leo (zs zt : Option Int) (x : Option ex_V) (y : ex_V) : Bool := match x with | some x => ex_leV zs zt x y | none => false
noncomputable def ex_leO (zs zt : Option Int) (l : List (Option ex_V)) : List (Option ex_V) → Bool :=
  List.rec (motive := fun _ => List (Option ex_V) → Bool) (fun m => match m with | [] => true | _ :: _ => false) (fun x _ ih m => match m with
    | none :: m => ih m
    | some y :: m => ex_leo zs zt x y && ih m
    | [] => false) l
theorem ex_leO_ok {zs zt : Option Int} : ∀ (l m : List (Option ex_V)), ex_leO zs zt l m = true → m.length = l.length ∧ ∀ (j : Nat) (b : ex_V), m[j]? = some (some b) → ∃ a, l[j]? = some (some a) ∧ ex_leV zs zt a b = true := by
  intro l
  induction l with
  | nil =>
    intro m h
    cases m with
    | nil => exact ⟨rfl, fun j b hb => by cases hb⟩
    | cons y m => exact absurd h Bool.false_ne_true
  | cons x l ih =>
    intro m h
    match m, h with
    | [], h => exact absurd h Bool.false_ne_true
    | none :: m, h =>
      obtain ⟨h1, h2⟩ := ih m h
      refine ⟨by rw [List.length_cons, List.length_cons, h1], fun j b hb => ?_⟩
      cases j with
      | zero => cases hb
      | succ j => exact h2 j b hb
    | some y :: m, h =>
      replace h : (ex_leo zs zt x y && ex_leO zs zt l m) = true := h
      rw [Bool.and_eq_true] at h
      obtain ⟨h1, h2⟩ := ih m h.2
      refine ⟨by rw [List.length_cons, List.length_cons, h1], fun j b hb => ?_⟩
      cases j with
      | zero =>
        cases hb
        cases x with
        | none => exact absurd h.1 Bool.false_ne_true
        | some x => exact ⟨x, rfl, h.1⟩
      | succ j => exact h2 j b hb
theorem ex_leO_L {zs zt : Option Int} {ρ ρ' : ex_R} (hz : er_Z zs zt ρ ρ') {nL : Nat} {la lb : List (Option ex_V)} {ls : Array Slot} (h : ex_leO zs zt la lb = true) (hL : er_L ρ nL la ls) : er_L ρ' nL lb ls := by
  obtain ⟨h1, h2⟩ := ex_leO_ok _ _ h
  obtain ⟨g1, lv, g2, g3⟩ := hL
  refine ⟨by rw [h1]; exact g1, lv, g2, fun i b hb => ?_⟩
  obtain ⟨a, e1, e2⟩ := h2 i b hb
  obtain ⟨v, e3, e4⟩ := g3 i a e1
  exact ⟨v, ex_leV_ok hz e2 e3, e4⟩
def ex_lew (u w : Nat) : Bool := Nat.ble (w % 4294967296) (u % 4294967296) && Nat.ble (u / 4294967296) (w / 4294967296)
noncomputable def ex_leA (n A B : Nat) : Bool := bif Nat.beq A B then true else Nat.rec (motive := fun _ => Bool) true (fun m ih => ex_n (ex_pg A m) (fun u => ex_n (ex_pg B m) (fun w => ex_lew u w)) && ih) n
theorem ex_leA_ok {n A B : Nat} {f : Nat → Int32} (h : ex_leA n A B = true) (hA : er_A n A f) : er_A n B f := by
  unfold ex_leA at h
  cases hb : Nat.beq A B with
  | true =>
    obtain rfl := Nat.eq_of_beq_eq_true hb
    exact hA
  | false =>
    rw [hb] at h
    have key : ∀ k : Nat, Nat.rec (motive := fun _ => Bool) true (fun m ih => ex_n (ex_pg A m) (fun u => ex_n (ex_pg B m) (fun w => ex_lew u w)) && ih) k = true → ∀ j, j < k → ex_lew (ex_pg A j) (ex_pg B j) = true := by
      intro k
      induction k with
      | zero => intro _ j hj; exact absurd hj (Nat.not_lt_zero _)
      | succ k ih =>
        intro hk j hj
        replace hk : (ex_n (ex_pg A k) (fun u => ex_n (ex_pg B k) (fun w => ex_lew u w)) && Nat.rec (motive := fun _ => Bool) true (fun m ih => ex_n (ex_pg A m) (fun u => ex_n (ex_pg B m) (fun w => ex_lew u w)) && ih) k) = true := hk
        rw [Bool.and_eq_true] at hk
        simp only [ex_n_eq] at hk
        by_cases e : j = k
        · rw [e]; exact hk.1
        · refine ih ?_ j (by omega)
          simp only [ex_n_eq]
          exact hk.2
    intro j hj
    have h1 := key n h j hj
    have h2 := hA j hj
    unfold ex_lew at h1
    unfold er_w at h2 ⊢
    simp only [Bool.and_eq_true, Nat.ble_eq] at h1
    constructor <;> omega
/-- names of an array's ints: forgotten, or the same -/
def ex_leN (xs ys : List ex_V) : Bool := match ys with
  | .inr (.inr (.inl (some k))) :: _ => (match xs with | .inr (.inr (.inl (some j))) :: _ => Nat.beq j k && Nat.ble 1 k | _ => false)
  | _ => true
theorem ex_leN_ok {xs ys : List ex_V} (h : ex_leN xs ys = true) {ν ν' : Nat → Int32} (hν : ∀ k, 1 ≤ k → ν' k = ν k) {n : Nat} {f : Nat → Int32} (hf : er_nm ν n xs f) : er_nm ν' n ys f := by
  unfold ex_leN at h
  split at h
  · rename_i k r
    split at h
    · rename_i j r'
      rw [Bool.and_eq_true] at h
      obtain rfl := Nat.eq_of_beq_eq_true h.1
      have h1 := Nat.le_of_ble_eq_true h.2
      intro i hi
      rw [hν (j + i) (by omega)]
      exact hf i hi
    · exact absurd h Bool.false_ne_true
  · rename_i hne
    unfold er_nm
    split
    · rename_i k r
      exact absurd rfl (hne k r)
    · exact trivial
noncomputable def ex_leC (c d : ex_C) : Bool := match c, d with
  | (t, ty, n, p, xs), (t', ty', n', p', ys) => Nat.beq t t' && (Nat.beq ty ty' && (Nat.beq n n' && (ex_leA n p p' && (bif Nat.ble 2 t then ex_leL none none xs ys else ex_leN xs ys))))
theorem ex_leC_ok {τ : Nat → ClassId} {sa : List Nat} {ws : va_W} {ν ν' : Nat → Int32} (hν : ∀ k, 1 ≤ k → ν' k = ν k) {c d : ex_C} {e : va_E} (h : ex_leC c d = true) (hc : er_C τ (er_r ν sa ws) c e) : er_C τ (er_r ν' sa ws) d e := by
  obtain ⟨t, ty, n, p, xs⟩ := c
  obtain ⟨t', ty', n', p', ys⟩ := d
  replace h : (Nat.beq t t' && (Nat.beq ty ty' && (Nat.beq n n' && (ex_leA n p p' && (bif Nat.ble 2 t then ex_leL none none xs ys else ex_leN xs ys))))) = true := h
  simp only [Bool.and_eq_true] at h
  obtain ⟨h1, h2, h3, h4, h5⟩ := h
  obtain rfl := Nat.eq_of_beq_eq_true h1
  obtain rfl := Nat.eq_of_beq_eq_true h2
  obtain rfl := Nat.eq_of_beq_eq_true h3
  rcases hc with ⟨g1, f, g2, g3, g4⟩ | ⟨g1, f, g2, g3, g4⟩ | ⟨g1, g2, f, g3, g4⟩ | ⟨g1, fs, g3, g4, g5⟩
  · cases g1; exact Or.inl ⟨rfl, f, g2, ex_leA_ok h4 g3, ex_leN_ok h5 hν g4⟩
  · cases g1; exact Or.inr (Or.inl ⟨rfl, f, g2, ex_leA_ok h4 g3, ex_leN_ok h5 hν g4⟩)
  · cases g1
    obtain ⟨l1, l2⟩ := ex_leL_ok xs ys h5
    replace g1 : (2 : Nat) = 2 := rfl
    refine Or.inr (Or.inr (Or.inl ⟨g1, g2, f, ?_, fun j b hb => ?_⟩))
    · show e = .inl (τ ty, ys.length, _)
      rw [l1]; exact g3
    · obtain ⟨a, e1, e2⟩ := l2 j b hb
      exact ex_leV_ok (er_Z.none hν) e2 (g4 j a e1)
  · cases g1
    obtain ⟨l1, l2⟩ := ex_leL_ok xs ys h5
    replace g1 : (3 : Nat) = 3 := rfl
    refine Or.inr (Or.inr (Or.inr ⟨g1, fs, g3, ?_, fun j b hb => ?_⟩))
    · show fs.length = ys.length
      rw [l1]; exact g4
    · obtain ⟨a, e1, e2⟩ := l2 j b hb
      obtain ⟨v, e3, e4⟩ := g5 j a e1
      exact ⟨v, e3, ex_leV_ok (er_Z.none hν) e2 e4⟩
noncomputable def ex_leK (m : List ex_C) : List ex_C → Bool :=
  List.rec (motive := fun _ => List ex_C → Bool) (fun _ => true) (fun d _ ih l => match l with | c :: l => ex_leC c d && ih l | [] => false) m
theorem ex_leK_ok : ∀ (m l : List ex_C), ex_leK m l = true → ∀ (j : Nat) (d : ex_C), m[j]? = some d → ∃ c, l[j]? = some c ∧ ex_leC c d = true := by
  intro m
  induction m with
  | nil => intro l _ j d hd; cases hd
  | cons y m ih =>
    intro l h j d hd
    cases l with
    | nil => exact absurd h Bool.false_ne_true
    | cons x l =>
      replace h : (ex_leC x y && ex_leK m l) = true := h
      rw [Bool.and_eq_true] at h
      cases j with
      | zero => cases hd; exact ⟨x, rfl, h.1⟩
      | succ j => exact ih l h.2 j d hd
noncomputable def ex_leKs (m : List (List ex_C)) : List (List ex_C) → Bool :=
  List.rec (motive := fun _ => List (List ex_C) → Bool) (fun _ => true) (fun d _ ih l => match l with | c :: l => ex_leK d c && ih l | [] => false) m
theorem ex_leKs_ok : ∀ (m l : List (List ex_C)), ex_leKs m l = true → ∀ (j : Nat) (d : List ex_C), m[j]? = some d → ∃ c, l[j]? = some c ∧ ex_leK d c = true := by
  intro m
  induction m with
  | nil => intro l _ j d hd; cases hd
  | cons y m ih =>
    intro l h j d hd
    cases l with
    | nil => exact absurd h Bool.false_ne_true
    | cons x l =>
      replace h : (ex_leK y x && ex_leKs m l) = true := h
      rw [Bool.and_eq_true] at h
      cases j with
      | zero => cases hd; exact ⟨x, rfl, h.1⟩
      | succ j => exact ih l h.2 j d hd
def ex_t9 (c : ex_C) : Bool := Nat.beq c.1 9
/-- a heap under a pattern: of the first five cells the pattern knows nothing -/
noncomputable def ex_leH (hp p : ex_H) : Bool := match hp, p with
  | (n, (_ :: _ :: _ :: _ :: _ :: r) :: t), (n', (d0 :: d1 :: d2 :: d3 :: d4 :: r') :: t') => Nat.beq n n' && ((ex_t9 d0 && (ex_t9 d1 && (ex_t9 d2 && (ex_t9 d3 && ex_t9 d4)))) && (ex_leK r' r && ex_leKs t' t))
  | _, _ => false
theorem ex_leH_ok {hp p : ex_H} (h : ex_leH hp p = true) : p.1 = hp.1 ∧ (∀ (q : Nat) (c : ex_C), q < 5 → ex_at p q = some c → c.1 = 9) ∧ ∀ (q : Nat) (d : ex_C), 5 ≤ q → ex_at p q = some d → ∃ c, ex_at hp q = some c ∧ ex_leC c d = true := by
  unfold ex_leH at h
  split at h
  · rename_i n c0 c1 c2 c3 c4 r t n' d0 d1 d2 d3 d4 r' t'
    simp only [Bool.and_eq_true, ex_t9] at h
    obtain ⟨h1, ⟨e0, e1, e2, e3, e4⟩, h2, h3⟩ := h
    refine ⟨(Nat.eq_of_beq_eq_true h1).symm, fun q c hq hc => ?_, fun q d hq hd => ?_⟩
    · match q, hq, hc with
      | 0, _, hc => cases hc; exact Nat.eq_of_beq_eq_true e0
      | 1, _, hc => cases hc; exact Nat.eq_of_beq_eq_true e1
      | 2, _, hc => cases hc; exact Nat.eq_of_beq_eq_true e2
      | 3, _, hc => cases hc; exact Nat.eq_of_beq_eq_true e3
      | 4, _, hc => cases hc; exact Nat.eq_of_beq_eq_true e4
      | q + 5, hq, _ => omega
    · unfold ex_at at hd ⊢
      by_cases hl : q < 16
      · have hk : q / 16 = 0 := Nat.div_eq_of_lt hl
        have hm : q % 16 = (q - 5) + 5 := by rw [Nat.mod_eq_of_lt hl]; omega
        rw [hk, hm] at hd ⊢
        exact ex_leK_ok _ _ h2 (q - 5) d (by simpa using hd)
      · obtain ⟨k, hk⟩ : ∃ k, q / 16 = k + 1 := ⟨q / 16 - 1, by omega⟩
        rw [hk] at hd ⊢
        simp only [List.getElem?_cons_succ] at hd ⊢
        cases hch : t'[k]? with
        | none => rw [hch] at hd; cases hd
        | some ch =>
          rw [hch] at hd
          obtain ⟨ch2, g1, g2⟩ := ex_leKs_ok _ _ h3 k ch hch
          rw [g1]
          exact ex_leK_ok _ _ g2 (q % 16) d hd
  · exact absurd h Bool.false_ne_true
theorem er_W.le {ν ν' : Nat → Int32} {D : va_G} {τ : Nat → ClassId} {sa : List Nat} {ro ro' : List ex_C} {A : Nat → Prop} {hp p : ex_H} {ws : va_W} {H : Heap} (h : er_W ν D τ sa ro A hp ws H) (hν : ∀ k, 1 ≤ k → ν' k = ν k) (hl : ex_leH hp p = true) : er_W ν' D τ sa ro' A p ws H := by
  obtain ⟨h1, h2, h3, h4, h5⟩ := h
  obtain ⟨g1, g2, g3⟩ := ex_leH_ok hl
  refine ⟨h1, h2, by rw [g1]; exact h3, fun q c hq hc => Or.inl (g2 q c hq hc), fun q d hq hd => ?_⟩
  obtain ⟨c, e1, e2⟩ := g3 q d hq hd
  obtain ⟨x, e3, e4⟩ := h5 q c hq e1
  exact ⟨x, e3, ex_leC_ok hν e2 e4⟩
/-- a heap with another's first five cells -/
def ex_fix (hp p : ex_H) : ex_H := match hp, p with
  | (_, (a0 :: a1 :: a2 :: a3 :: a4 :: _) :: _), (n, (_ :: _ :: _ :: _ :: _ :: r) :: t) => (n, (a0 :: a1 :: a2 :: a3 :: a4 :: r) :: t)
  | _, p => p
theorem ex_fix_ok (hp p : ex_H) : (ex_fix hp p).1 = p.1 ∧ (∀ (q : Nat) (c : ex_C), q < 5 → ex_at (ex_fix hp p) q = some c → ex_at hp q = some c ∨ ex_at p q = some c) ∧ ∀ q : Nat, 5 ≤ q → ex_at (ex_fix hp p) q = ex_at p q := by
  unfold ex_fix
  split
  · rename_i n0 a0 a1 a2 a3 a4 r0 t0 n b0 b1 b2 b3 b4 r t
    refine ⟨rfl, fun q c hq hc => Or.inl ?_, fun q hq => ?_⟩
    · match q, hq, hc with
      | 0, _, hc => exact hc
      | 1, _, hc => exact hc
      | 2, _, hc => exact hc
      | 3, _, hc => exact hc
      | 4, _, hc => exact hc
      | q + 5, hq, _ => omega
    · unfold ex_at
      by_cases hl : q < 16
      · have hk : q / 16 = 0 := Nat.div_eq_of_lt hl
        have hm : q % 16 = (q - 5) + 5 := by rw [Nat.mod_eq_of_lt hl]; omega
        rw [hk, hm]
        rfl
      · obtain ⟨k, hk⟩ : ∃ k, q / 16 = k + 1 := ⟨q / 16 - 1, by omega⟩
        rw [hk]
        rfl
  · exact ⟨rfl, fun q c hq hc => Or.inr hc, fun q hq => rfl⟩
/-- what a picture says of the first five cells -/
def er_five (ro : List ex_C) (hp : ex_H) : Prop := ∀ (q : Nat) (c : ex_C), q < 5 → ex_at hp q = some c → c.1 = 9 ∨ ro[q]? = some c
theorem er_W.fix {ν : Nat → Int32} {D : va_G} {τ : Nat → ClassId} {sa : List Nat} {ro ro' : List ex_C} {A : Nat → Prop} {hp p : ex_H} {ws : va_W} {H : Heap} (h : er_W ν D τ sa ro A p ws H) (h5 : er_five ro' hp) (hp5 : er_five ro' p) : er_W ν D τ sa ro' A (ex_fix hp p) ws H := by
  obtain ⟨h1, h2, h3, h4, h6⟩ := h
  obtain ⟨g1, g2, g3⟩ := ex_fix_ok hp p
  refine ⟨h1, h2, by rw [g1]; exact h3, fun q c hq hc => ?_, fun q c hq hc => h6 q c hq (by rw [← g3 q hq]; exact hc)⟩
  rcases g2 q c hq hc with e | e
  · exact h5 q c hq e
  · exact hp5 q c hq e
