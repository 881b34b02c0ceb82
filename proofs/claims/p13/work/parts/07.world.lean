/-! Worlds: which cells a picture of the heap stands for. -/
abbrev ec_tys (τ : Nat → ClassId) : List (ClassId × FieldType) := [(τ 0, .int), (τ 1, .boolean), (τ 2, .array .int), (τ 3, .object "WarmNight$Carriage"), (τ 4, .object "WarmNight$Even")]
def er_w (w : Nat) (x : Int32) : Prop := ((w % 4294967296 : Nat) : Int) ≤ x.toInt + 2147483648 ∧ x.toInt + 2147483648 ≤ ((w / 4294967296 : Nat) : Int)
def er_A (n A : Nat) (f : Nat → Int32) : Prop := ∀ j, j < n → er_w (ex_pg A j) (f j)
theorem er_A.set {n A : Nat} {f : Nat → Int32} (h : er_A n A f) {i w : Nat} {x : Int32} (hw : w < 2 ^ 64) (hx : er_w w x) : er_A n (ex_ps A i w) (upd f i x) := by
  intro j hj
  by_cases e : j = i
  · subst e
    rw [ex_ps_same hw]
    simp only [upd, if_true]
    exact hx
  · rw [ex_ps_ne hw e]
    simp only [upd, e, if_false]
    exact h j hj
theorem er_A.zero (n : Nat) : er_A n (ex_pz n) (fun _ => 0) := by
  intro j hj
  rw [ex_pz_at n j hj]
  show ((9223372039002259456 % 4294967296 : Nat) : Int) ≤ _ ∧ _ ≤ ((9223372039002259456 / 4294967296 : Nat) : Int)
  rw [Int32.toInt_zero]
  decide
theorem ex_el_ok {ρ : ex_R} {n A i : Nat} {f : Nat → Int32} {k : ex_V → Bool} (h : ex_el A i k = true) (hA : er_A n A f) (hi : i < n) : ∃ r, er_V ρ r (.int (f i)) ∧ k r = true := by
  have hw := hA i hi
  unfold er_w at hw
  unfold ex_el at h
  simp only [ex_n_eq, ex_z_eq] at h
  cases hb : Nat.beq (ex_pg A i % 4294967296) (ex_pg A i / 4294967296) with
  | true =>
    rw [hb] at h
    have e := Nat.eq_of_beq_eq_true hb
    refine ⟨.inl (Int.subNatNat (ex_pg A i % 4294967296) 2147483648), ⟨f i, rfl, ?_⟩, h⟩
    rw [Int.subNatNat_eq_coe]
    omega
  | false =>
    rw [hb] at h
    refine ⟨.inr (.inr (.inr (.inl (Int.subNatNat (ex_pg A i % 4294967296) 2147483648, Int.subNatNat (ex_pg A i / 4294967296) 2147483648)))), ⟨f i, rfl, ?_, ?_⟩, h⟩
    · simp only [Int.subNatNat_eq_coe]; omega
    · simp only [Int.subNatNat_eq_coe]; omega
theorem ex_elw_ok {ρ : ex_R} {A i : Nat} {x : Int32} {k : ex_V → Bool} (h : ex_el A i k = true) (hw : er_w (ex_pg A i) x) : ∃ r, er_V ρ r (.int x) ∧ k r = true := by
  unfold er_w at hw
  unfold ex_el at h
  simp only [ex_n_eq, ex_z_eq] at h
  cases hb : Nat.beq (ex_pg A i % 4294967296) (ex_pg A i / 4294967296) with
  | true =>
    rw [hb] at h
    have e := Nat.eq_of_beq_eq_true hb
    refine ⟨.inl (Int.subNatNat (ex_pg A i % 4294967296) 2147483648), ⟨x, rfl, ?_⟩, h⟩
    rw [Int.subNatNat_eq_coe]
    omega
  | false =>
    rw [hb] at h
    refine ⟨.inr (.inr (.inr (.inl (Int.subNatNat (ex_pg A i % 4294967296) 2147483648, Int.subNatNat (ex_pg A i / 4294967296) 2147483648)))), ⟨x, rfl, ?_, ?_⟩, h⟩
    · simp only [Int.subNatNat_eq_coe]; omega
    · simp only [Int.subNatNat_eq_coe]; omega
theorem ex_same_ok {A w : Nat} : ∀ (n i : Nat), ex_same A w n i = true → ∀ j, i ≤ j → j ≤ i + n → ex_pg A j = w := by
  intro n
  induction n with
  | zero =>
    intro i h j h1 h2
    obtain rfl : j = i := by omega
    exact Nat.eq_of_beq_eq_true h
  | succ n ih =>
    intro i h j h1 h2
    replace h : (Nat.beq (ex_pg A i) w && ex_n (Nat.succ i) (ex_same A w n)) = true := h
    rw [Bool.and_eq_true, ex_n_eq] at h
    by_cases e : j = i
    · rw [e]; exact Nat.eq_of_beq_eq_true h.1
    · exact ih (Nat.succ i) h.2 j (by omega) (by omega)
theorem ex_ldr_ok {ρ : ex_R} {n A lo hi : Nat} {k : ex_V → Bool} (h : ex_ldr n A lo hi k = true) {x : Int32} (h1 : (lo : Int) ≤ x.toInt) (h2 : x.toInt ≤ (hi : Int)) : ∃ m : Nat, x.toInt = (m : Int) ∧ m < n ∧ ∀ f : Nat → Int32, er_A n A f → ∃ r, er_V ρ r (.int (f m)) ∧ k r = true := by
  unfold ex_ldr at h
  cases hb : Nat.ble lo hi && (Nat.ble (hi + 1) n && Nat.ble (hi - lo) 400) with
  | false => rw [hb] at h; exact absurd h Bool.false_ne_true
  | true =>
    rw [hb] at h
    simp only [Bool.and_eq_true] at hb
    have b1 := Nat.le_of_ble_eq_true hb.1
    have b2 := Nat.le_of_ble_eq_true hb.2.1
    refine ⟨x.toInt.toNat, by omega, by omega, fun f hf => ?_⟩
    have hw := hf x.toInt.toNat (by omega)
    simp only [ex_n_eq] at h
    cases hs : ex_same A (ex_pg A lo) (hi - lo) lo with
    | true =>
      rw [hs] at h
      have e := ex_same_ok _ _ hs x.toInt.toNat (by omega) (by omega)
      rw [e] at hw
      exact ex_elw_ok h hw
    | false =>
      rw [hs] at h
      exact ex_elw_ok (ex_each_ok _ _ h x.toInt.toNat (by omega) (by omega)) hw
theorem ex_ld_ok {ρ : ex_R} {n A : Nat} {a : ex_V} {v : Value} {k : ex_V → Bool} (h : ex_ld n A a k = true) (hv : er_V ρ a v) : ∃ (x : Int32) (m : Nat), v = .int x ∧ x.toInt = (m : Int) ∧ m < n ∧ ∀ f : Nat → Int32, er_A n A f → ∃ r, er_V ρ r (.int (f m)) ∧ k r = true := by
  match a, h, hv with
  | .inl (.ofNat i), h, hv =>
    obtain ⟨x, rfl, e⟩ := hv
    replace h : (bif Nat.ble (i + 1) n then ex_el A i k else false) = true := h
    cases hb : Nat.ble (i + 1) n with
    | false => rw [hb] at h; exact absurd h Bool.false_ne_true
    | true =>
      rw [hb] at h
      have b := Nat.le_of_ble_eq_true hb
      exact ⟨x, i, rfl, e, b, fun f hf => ex_elw_ok h (hf i b)⟩
  | .inl (.negSucc n), h, hv => exact absurd h Bool.false_ne_true
  | .inr (.inl z), h, hv => exact absurd h Bool.false_ne_true
  | .inr (.inr (.inl z)), h, hv => exact absurd h Bool.false_ne_true
  | .inr (.inr (.inr (.inl (.ofNat lo, .ofNat hi)))), h, hv =>
    obtain ⟨x, rfl, h1, h2⟩ := hv
    obtain ⟨m, e1, e2⟩ := ex_ldr_ok (ρ := ρ) h h1 h2
    exact ⟨x, m, rfl, e1, e2⟩
  | .inr (.inr (.inr (.inl (.negSucc _, _)))), h, hv => exact absurd h Bool.false_ne_true
  | .inr (.inr (.inr (.inl (.ofNat _, .negSucc _)))), h, hv => exact absurd h Bool.false_ne_true
  | .inr (.inr (.inr (.inr (.inl z)))), h, hv => exact absurd h Bool.false_ne_true
  | .inr (.inr (.inr (.inr (.inr (_, .ofNat lo, .ofNat hi))))), h, hv =>
    obtain ⟨rfl, h1, h2⟩ := hv
    obtain ⟨m, e1, e2⟩ := ex_ldr_ok (ρ := ρ) h h1 h2
    exact ⟨_, m, rfl, e1, e2⟩
  | .inr (.inr (.inr (.inr (.inr (_, .negSucc _, _))))), h, hv => exact absurd h Bool.false_ne_true
  | .inr (.inr (.inr (.inr (.inr (_, .ofNat _, .negSucc _))))), h, hv => exact absurd h Bool.false_ne_true
theorem ex_pk_ok {ρ : ex_R} {a : ex_V} {v : Value} {k : Nat → Bool} (h : ex_pk a k = true) (hv : er_V ρ a v) : ∃ (x : Int32) (w : Nat), v = .int x ∧ w < 2 ^ 64 ∧ er_w w x ∧ k w = true := by
  obtain ⟨x, lo, hi, rfl, h1, h2, h⟩ := ex_i_ok h hv
  cases e1 : lo + 2147483648 with
  | negSucc n => rw [e1] at h; exact absurd h Bool.false_ne_true
  | ofNat a =>
    cases e2 : hi + 2147483648 with
    | negSucc n => rw [e1, e2] at h; exact absurd h Bool.false_ne_true
    | ofNat b =>
      rw [e1, e2] at h
      simp only [ex_n_eq] at h
      cases hb : Nat.ble a 4294967295 && Nat.ble b 4294967295 with
      | false => rw [hb] at h; exact absurd h Bool.false_ne_true
      | true =>
        rw [hb] at h
        simp only [Bool.and_eq_true, Nat.ble_eq] at hb
        have e1' : lo + 2147483648 = (a : Int) := e1
        have e2' : hi + 2147483648 = (b : Int) := e2
        refine ⟨x, a + b * 4294967296, rfl, by omega, ?_, h⟩
        unfold er_w
        constructor <;> omega
theorem ex_cpy_ok (n : Nat) : ∀ (A B sp dp : Nat) (k : Nat → Bool), ex_cpy n A B sp dp k = true → ∀ {n1 n2 : Nat} {f g : Nat → Int32}, er_A n1 A f → er_A n2 B g → sp + n ≤ n1 → ∃ B', er_A n2 B' (va_cpy f g sp dp n) ∧ k B' = true := by
  induction n with
  | zero =>
    intro A B sp dp k h n1 n2 f g hA hB _
    refine ⟨B, ?_, h⟩
    have e : va_cpy f g sp dp 0 = g := by
      funext j
      unfold va_cpy
      rw [if_neg (by omega)]
    rw [e]
    exact hB
  | succ n ih =>
    intro A B sp dp k h n1 n2 f g hA hB hs
    have h : ex_n (ex_ps B dp (ex_pg A sp)) (fun B => ex_cpy n A B (sp + 1) (dp + 1) k) = true := h
    rw [ex_n_eq] at h
    obtain ⟨B', h1, h2⟩ := ih A _ (sp + 1) (dp + 1) k h hA (hB.set (i := dp) (ex_pg_lt A sp) (hA sp (by omega))) (by omega)
    refine ⟨B', ?_, h2⟩
    have e : va_cpy f (upd g dp (f sp)) (sp + 1) (dp + 1) n = va_cpy f g sp dp (n + 1) := by
      funext j
      unfold va_cpy upd
      by_cases c1 : dp + 1 ≤ j ∧ j < dp + 1 + n
      · rw [if_pos c1, if_pos (by omega)]
        congr 1; omega
      · rw [if_neg c1]
        by_cases c2 : j = dp
        · subst c2
          rw [if_pos rfl, if_pos (by omega)]
          congr 1; omega
        · rw [if_neg c2, if_neg (by omega)]
    rw [← e]
    exact h1
/-- an array's ints by their names: the list's head tells the first name -/
def er_nm (ν : Nat → Int32) (n : Nat) (xs : List ex_V) (f : Nat → Int32) : Prop := match xs with
  | .inr (.inr (.inl (some k))) :: _ => ∀ j, j < n → f j = ν (k + j)
  | _ => True
/-- a picture of a cell, and what it stands for -/
def er_C (τ : Nat → ClassId) (ρ : ex_R) (c : ex_C) (e : va_E) : Prop :=
  (c.1 = 0 ∧ ∃ f : Nat → Int32, e = .inl (τ 0, c.2.2.1, .inl f) ∧ er_A c.2.2.1 c.2.2.2.1 f ∧ er_nm ρ.2 c.2.2.1 c.2.2.2.2 f) ∨
  (c.1 = 1 ∧ ∃ f : Nat → Int32, e = .inl (τ 1, c.2.2.1, .inl f) ∧ er_A c.2.2.1 c.2.2.2.1 f ∧ er_nm ρ.2 c.2.2.1 c.2.2.2.2 f) ∨
  (c.1 = 2 ∧ (∃ ty, (ec_tys τ)[c.2.1]? = some (τ c.2.1, ty) ∧ ty.isReference = true) ∧ ∃ f : Nat → Option Nat, e = .inl (τ c.2.1, c.2.2.2.2.length, .inr (.inr (.inr (.inr f)))) ∧ ∀ (j : Nat) (a : ex_V), c.2.2.2.2[j]? = some a → er_V ρ a (va_rf (f j))) ∨
  (c.1 = 3 ∧ ∃ fs : List Value, e = .inr (c.2.1, fs) ∧ fs.length = c.2.2.2.2.length ∧ ∀ (j : Nat) (a : ex_V), c.2.2.2.2[j]? = some a → ∃ v, fs[j]? = some v ∧ er_V ρ a v)
theorem er_C.more {τ : Nat → ClassId} {ρ ρ' : ex_R} {c : ex_C} {e : va_E} (h : er_C τ ρ c e) (hp : er_ext ρ ρ') : er_C τ ρ' c e := by
  rcases h with ⟨h1, f, h2, h3, h4⟩ | ⟨h1, f, h2, h3, h4⟩ | ⟨h1, h2, f, h3, h4⟩ | ⟨h1, fs, h3, h4, h5⟩
  · exact Or.inl ⟨h1, f, h2, h3, by rw [hp.2]; exact h4⟩
  · exact Or.inr (Or.inl ⟨h1, f, h2, h3, by rw [hp.2]; exact h4⟩)
  · exact Or.inr (Or.inr (Or.inl ⟨h1, h2, f, h3, fun j a ha => (h4 j a ha).more hp⟩))
  · refine Or.inr (Or.inr (Or.inr ⟨h1, fs, h3, h4, fun j a ha => ?_⟩))
    obtain ⟨v, g1, g2⟩ := h5 j a ha
    exact ⟨v, g1, g2.more hp⟩
/-- the addresses by their numbers: the five that nobody writes, then the world's -/
def er_r (ν : Nat → Int32) (sa : List Nat) (ws : va_W) : ex_R := (sa ++ ws.map Prod.fst, ν)
theorem er_r.more {ν : Nat → Int32} {sa : List Nat} {ws ws' : va_W} (h : ∃ ex, ws'.map Prod.fst = ws.map Prod.fst ++ ex) : er_ext (er_r ν sa ws) (er_r ν sa ws') := by
  obtain ⟨ex, h⟩ := h
  refine ⟨fun k q hk => ?_, rfl⟩
  unfold er_r at hk ⊢
  simp only at hk ⊢
  rw [h, ← List.append_assoc]
  rw [List.getElem?_append_left (List.getElem?_eq_some_iff.mp hk).1]
  exact hk
theorem er_r.at {ν : Nat → Int32} {sa : List Nat} {ws : va_W} {k q : Nat} {x : Nat × va_E} (hs : sa.length = 5) (h5 : 5 ≤ k) (hk : (er_r ν sa ws).1[k]? = some q) (hx : ws[k - 5]? = some x) : x.1 = q := by
  unfold er_r at hk
  simp only at hk
  rw [List.getElem?_append_right (by omega), hs, List.getElem?_map, hx] at hk
  exact Option.some.inj hk
theorem er_r.lo {ν : Nat → Int32} {sa : List Nat} {ws : va_W} {k q : Nat} (hs : sa.length = 5) (h5 : k < 5) (hk : (er_r ν sa ws).1[k]? = some q) : sa[k]? = some q := by
  unfold er_r at hk
  simp only at hk
  rw [List.getElem?_append_left (by omega)] at hk
  exact hk
/-- what a picture of the heap says -/
def er_W (ν : Nat → Int32) (D : va_G) (τ : Nat → ClassId) (sa : List Nat) (ro : List ex_C) (A : Nat → Prop) (hp : ex_H) (ws : va_W) (H : Heap) : Prop :=
  va_P D ec_cl ws H ∧ va_D A ws ∧ hp.1 = 5 + ws.length ∧ (∀ (q : Nat) (c : ex_C), q < 5 → ex_at hp q = some c → c.1 = 9 ∨ ro[q]? = some c) ∧ ∀ (q : Nat) (c : ex_C), 5 ≤ q → ex_at hp q = some c → ∃ x, ws[q - 5]? = some x ∧ er_C τ (er_r ν sa ws) c x.2
/-- the class of int[][] is there, over that of int[] -/
def er_ov (U : State) : Prop := ∃ (comp c : ClassId) (k : Class), U.vm.findClass (FieldType.array .int).toString = some comp ∧ (U.vm.classes.findIdx? fun (x : Class) => match x.kind with | .array component _ => component == comp | _ => false) = some c ∧ U.vm.classes[c]? = some k ∧ k.kind = .array comp (.array .int) ∧ U.vm.findClass ("[" ++ (FieldType.array .int).toString) = some c
theorem er_ov.moved {u U : State} (hvm : u.vm.Alike U.vm) (h : er_ov u) : er_ov U := by
  obtain ⟨comp, c, k, h1, h2, h3, h4, h5⟩ := h
  obtain ⟨k', hk', he⟩ := hvm.2.2 _ _ h3
  refine ⟨comp, c, k', by rw [hvm.findClass]; exact h1, ?_, hk', by rw [he]; exact h4, by rw [hvm.findClass]; exact h5⟩
  have hb : U.vm.bare = u.vm.bare := by first | exact hvm.bare_eq | exact hvm.bare_eq.symm
  refine (va_idx_bare U.vm comp).symm.trans ?_
  rw [hb]
  exact (va_idx_bare u.vm comp).trans h2
theorem er_ov.of {args : Array Value} {U : State} (h : (Jvm.Cond.arrayOver (.array .int)).before args U = true) : er_ov U := by
  simp only [Cond.before, Cond.holds, Cond.value, beq_iff_eq] at h
  cases hc : U.vm.findClass (FieldType.array .int).toString with
  | none => simp [hc] at h
  | some comp =>
    simp only [hc, Option.bind_some, Option.bind_eq_some_iff, Option.map_eq_some_iff] at h
    obtain ⟨c, hi, k, hk, hb⟩ := h
    obtain ⟨hlt, hp, -⟩ := Array.findIdx?_eq_some_iff_getElem.mp hi
    have hkk : U.vm.classes[c] = k := (Array.getElem?_eq_some_iff.mp hk).2
    rw [hkk] at hp
    cases hkind : k.kind with
    | array component ty =>
      rw [hkind] at hb hp
      simp at hb hp
      exact ⟨comp, c, k, hc, hi, hk, by rw [hkind, hp, hb.1], hb.2⟩
    | _ => rw [hkind] at hb; simp at hb
/-- what the makers of arrays of references ask -/
def er_mk (U : State) : Prop := er_ov U ∧ va_AO "WarmNight$Carriage" U ∧ va_AO "WarmNight$Even" U ∧ ∀ q ∈ ec_cast, va_Nw (.castable q.1 q.2) U
theorem er_mk.moved {u U : State} (hvm : u.vm.Alike U.vm) (h : er_mk u) : er_mk U := ⟨h.1.moved hvm, h.2.1.moved hvm, h.2.2.1.moved hvm, fun q hq => va_tabs rfl (rfl : (u.setVm U.vm).vm = U.vm) (by rw [Cond.castable_setVm hvm]; exact h.2.2.2 q hq)⟩
/-- the statics -/
def ec_stat : List ex_C := [((nat_lit 0), (nat_lit 0), (nat_lit 11), (nat_lit 0x80000000800000008000000080000000800000008000000080000000800000008000000080000000800000008000000080000000800000008000000180000001800000008000000080000000800000008000000280000002), []),
  ((nat_lit 0), (nat_lit 0), (nat_lit 11), (nat_lit 0x800000098000000980000007800000078000000980000009800000c8800000c8800000c8800000c88000003c8000003c800000c8800000c88000001880000018800000078000000780000007800000078000000880000008), []),
  ((nat_lit 0), (nat_lit 0), (nat_lit 11), (nat_lit 0x80000001800000018000000180000001800000028000000280000028800000288000003c8000003c800000088000000880000050800000508000000880000008800000038000000380000000800000008000000480000004), []),
  ((nat_lit 0), (nat_lit 0), (nat_lit 10), (nat_lit 0x8000000180000001800000038000000380000001800000018000000580000005800000028000000280000003800000038000000180000001800000028000000280000004800000048000000280000002), [])]
def er_ro (ro : List ex_C) : Prop := ∀ (q : Nat) (c : ex_C), ec_stat[q]? = some c → ro[q]? = some c
/-- what holds at a method's start, and stays -/
def er_E (D : va_G) (τ : Nat → ClassId) (sa : List Nat) (ro : List ex_C) (A : Nat → Prop) (s : State) : Prop :=
  va_K D ec_cl (ec_tys τ) s ∧ sa.length = 5 ∧
  (∀ (q : Nat) (c : ex_C), q < 5 → ro[q]? = some c → c.1 = 0 ∧ ∃ (t : Nat) (f : Nat → Int32), sa[q]? = some t ∧ va_T .int t c.2.2.1 (fun j => .int (f j)) A s s.heap ∧ er_A c.2.2.1 c.2.2.2.1 f) ∧
  (∀ (i : Nat) (x : String × String), ec_st[i]? = some x → ∃ t : Nat, sa[i]? = some t ∧ va_Z x.1 x.2 "[I" (.ref t) A s s.heap) ∧
  (∀ q ∈ ec_nest, va_Nw (.methodLinkNest q.1 q.2.1 q.2.2.1 q.2.2.2) s) ∧ ((∀ q : Nat, s.heap.size ≤ q → A q) ∧ er_ro ro) ∧ er_mk s ∧ es_E A s
theorem er_E.moved {D : va_G} {τ : Nat → ClassId} {sa : List Nat} {ro : List ex_C} {A : Nat → Prop} {s U : State} {H : Heap} {locs : List Loc} (h : er_E D τ sa ro A s) (hW : s.WarmedH U.vm) (hS : va_S A s.heap H locs) (hU : U.heap = H) : er_E D τ sa ro A U := by
  obtain ⟨h1, h2, h3, h4, h5, h6, h7⟩ := h
  subst hU
  refine ⟨va_K.moved hW.alike h1, h2, fun q c hq hc => ?_, fun i x hx => ?_, fun q hq => va_Nw.warmM hW (h5 q hq), ⟨fun q hq => h6.1 q (Nat.le_trans hS.1 hq), h6.2⟩, h7.1.moved hW.alike, h7.2.moved hW hS rfl⟩
  · obtain ⟨g1, t, f, g2, g3, g4⟩ := h3 q c hq hc
    exact ⟨g1, t, f, g2, (g3.kept hS.2.1).moved hW.alike, g4⟩
  · obtain ⟨t, g1, g2⟩ := h4 i x hx
    exact ⟨t, g1, (g2.kept hS.2.1).moved hW.alike⟩
theorem er_E.blind {D : va_G} {τ : Nat → ClassId} {sa : List Nat} {ro : List ex_C} {A : Nat → Prop} {U : State} {g : JFrame} {mk : MethodId} {a : Array Value} (h : er_E D τ sa ro A U) : er_E D τ sa ro A (U.calling g mk a) := by
  obtain ⟨h1, h2, h3, h4, h5, h6, h7⟩ := h
  refine ⟨va_K.moved (u := U) (U := U.calling g mk a) (Vm.Alike.refl U.vm) h1, h2, fun q c hq hc => ?_, fun i x hx => ?_, fun q hq => va_Nw.same (u := U) (U := U.calling g mk a) rfl rfl (h5 q hq), h6, er_mk.moved (u := U) (U := U.calling g mk a) (Vm.Alike.refl U.vm) h7.1, h7.2.blind⟩
  · obtain ⟨g1, t, f, g2, g3, g4⟩ := h3 q c hq hc
    exact ⟨g1, t, f, g2, va_T.moved (u := U) (U := U.calling g mk a) (Vm.Alike.refl U.vm) g3, g4⟩
  · obtain ⟨t, g1, g2⟩ := h4 i x hx
    exact ⟨t, g1, va_Z.moved (u := U) (U := U.calling g mk a) (Vm.Alike.refl U.vm) g2⟩
/-- the operand stack -/
def er_St (ρ : ex_R) : List ex_V → List Value → Prop
  | [], [] => True
  | a :: st, v :: vs => er_V ρ a v ∧ er_St ρ st vs
  | _, _ => False
theorem er_St.cons {ρ : ex_R} {a : ex_V} {st : List ex_V} {vs : List Value} (h : er_St ρ (a :: st) vs) : ∃ v vs', vs = v :: vs' ∧ er_V ρ a v ∧ er_St ρ st vs' := by
  cases vs with
  | nil => exact h.elim
  | cons v vs => exact ⟨v, vs, rfl, h.1, h.2⟩
theorem er_St.nil {ρ : ex_R} {vs : List Value} (h : er_St ρ [] vs) : vs = [] := by
  cases vs with
  | nil => rfl
  | cons v vs => exact h.elim
theorem er_St.more {ρ ρ' : ex_R} (hp : er_ext ρ ρ') : ∀ {st : List ex_V} {vs : List Value}, er_St ρ st vs → er_St ρ' st vs := by
  intro st
  induction st with
  | nil => intro vs h; rw [h.nil]; exact trivial
  | cons a st ih =>
    intro vs h
    obtain ⟨v, vs, rfl, h1, h2⟩ := h.cons
    exact ⟨h1.more hp, ih h2⟩
theorem er_St.app {ρ : ex_R} : ∀ {st st2 : List ex_V} {vs : List Value}, er_St ρ (st ++ st2) vs → ∃ us us2, vs = us ++ us2 ∧ us.length = st.length ∧ er_St ρ st us ∧ er_St ρ st2 us2 := by
  intro st
  induction st with
  | nil => intro st2 vs h; exact ⟨[], vs, rfl, rfl, trivial, h⟩
  | cons a st ih =>
    intro st2 vs h
    obtain ⟨v, vs, rfl, h1, h2⟩ := er_St.cons h
    obtain ⟨us, us2, rfl, e, g1, g2⟩ := ih h2
    exact ⟨v :: us, us2, rfl, by rw [List.length_cons, List.length_cons, e], ⟨h1, g1⟩, g2⟩
theorem er_St.mk {ρ : ex_R} : ∀ {st st2 : List ex_V} {us us2 : List Value}, er_St ρ st us → er_St ρ st2 us2 → er_St ρ (st ++ st2) (us ++ us2) := by
  intro st
  induction st with
  | nil => intro st2 us us2 h h2; rw [h.nil]; exact h2
  | cons a st ih =>
    intro st2 us us2 h h2
    obtain ⟨v, vs, rfl, h1, h3⟩ := h.cons
    exact ⟨h1, ih h3 h2⟩
theorem er_St.rev {ρ : ex_R} : ∀ {st : List ex_V} {us : List Value}, er_St ρ st us → er_St ρ st.reverse us.reverse := by
  intro st
  induction st with
  | nil => intro us h; rw [h.nil]; exact trivial
  | cons a st ih =>
    intro us h
    obtain ⟨v, vs, rfl, h1, h3⟩ := h.cons
    rw [List.reverse_cons, List.reverse_cons]
    exact (ih h3).mk ⟨h1, trivial⟩
theorem er_St.len {ρ : ex_R} : ∀ {st : List ex_V} {us : List Value}, er_St ρ st us → us.length = st.length := by
  intro st
  induction st with
  | nil => intro us h; rw [h.nil]; rfl
  | cons a st ih =>
    intro us h
    obtain ⟨v, vs, rfl, h1, h3⟩ := h.cons
    rw [List.length_cons, List.length_cons, ih h3]
theorem er_St.cats {ρ : ex_R} : ∀ {st : List ex_V} {us : List Value}, er_St ρ st us → (us.map fun v => v.category).sum = ex_cats st := by
  intro st
  induction st with
  | nil => intro us h; rw [h.nil]; rfl
  | cons a st ih =>
    intro us h
    obtain ⟨v, vs, rfl, h1, h3⟩ := h.cons
    rw [List.map_cons, List.sum_cons, ih h3, er_cat h1]
    rfl
/-- the locals -/
def er_L (ρ : ex_R) (nL : Nat) (la : List (Option ex_V)) (ls : Array Slot) : Prop := la.length = nL ∧ ∃ lv : List (Nat × Value), lv_has ls nL lv ∧ ∀ (i : Nat) (a : ex_V), la[i]? = some (some a) → ∃ v, er_V ρ a v ∧ (i, v) ∈ lv
theorem er_L.more {ρ ρ' : ex_R} {nL : Nat} {la : List (Option ex_V)} {ls : Array Slot} (h : er_L ρ nL la ls) (hp : er_ext ρ ρ') : er_L ρ' nL la ls := by
  obtain ⟨h1, lv, h2, h3⟩ := h
  refine ⟨h1, lv, h2, fun i a ha => ?_⟩
  obtain ⟨v, g1, g2⟩ := h3 i a ha
  exact ⟨v, g1.more hp, g2⟩
theorem er_L.get {ρ : ex_R} {nL : Nat} {la : List (Option ex_V)} {ls : Array Slot} (h : er_L ρ nL la ls) {i : Nat} {a : ex_V} (ha : la[i]? = some (some a)) : ∃ v, er_V ρ a v ∧ ls[i]? = some (.val v) := by
  obtain ⟨h1, lv, h2, h3⟩ := h
  obtain ⟨v, g1, g2⟩ := h3 i a ha
  exact ⟨v, g1, h2.2.2 (i, v) g2⟩
theorem ex_clear_ok {la : List (Option ex_V)} {i : Nat} {k : Bool} (h : ex_clear la i k = true) : k = true ∧ ∀ (j : Nat) (a : ex_V), j + 1 = i → la[j]? = some (some a) → ex_cat a = 1 := by
  cases i with
  | zero => exact ⟨h, fun j a hj => by omega⟩
  | succ i =>
    obtain ⟨o, h1, h2⟩ := ex_get_ok _ _ _ h
    cases o with
    | none => exact ⟨h2, fun j a hj ha => by obtain rfl : j = i := by omega
                                             rw [h1] at ha; cases ha⟩
    | some v =>
      have h2 : (if Nat.beq (ex_cat v) 1 then k else false) = true := h2
      by_cases hc : Nat.beq (ex_cat v) 1 = true
      · rw [if_pos hc] at h2
        exact ⟨h2, fun j a hj ha => by obtain rfl : j = i := by omega
                                       rw [h1] at ha; cases ha; exact Nat.eq_of_beq_eq_true hc⟩
      · rw [if_neg hc] at h2; exact absurd h2 Bool.false_ne_true
theorem er_L.set1 {ρ : ex_R} {nL : Nat} {la : List (Option ex_V)} {ls' : Array Slot} {lv : List (Nat × Value)} {i : Nat} {a : ex_V} {v : Value} (hlen : la.length = nL) (hall : ∀ (i : Nat) (a : ex_V), la[i]? = some (some a) → ∃ v, er_V ρ a v ∧ (i, v) ∈ lv)
    (hc : ∀ (j : Nat) (a : ex_V), j + 1 = i → la[j]? = some (some a) → ex_cat a = 1) (hv : er_V ρ a v) (h : lv_has ls' nL ((i, v) :: lv.filter (fun q => !(q.1 == i) && !(q.1 + 1 == i && q.2.category == 2)))) : er_L ρ nL (la.set i (some a)) ls' := by
  refine ⟨by rw [List.length_set]; exact hlen, _, h, fun j b hb => ?_⟩
  rw [List.getElem?_set] at hb
  by_cases hj : i = j
  · subst hj
    rw [if_pos rfl] at hb
    by_cases hl : i < la.length
    · rw [if_pos hl] at hb
      cases hb
      exact ⟨v, hv, List.mem_cons_self⟩
    · rw [if_neg hl] at hb; cases hb
  · rw [if_neg hj] at hb
    obtain ⟨w, g1, g2⟩ := hall j b hb
    refine ⟨w, g1, List.mem_cons_of_mem _ (List.mem_filter.mpr ⟨g2, ?_⟩)⟩
    have hw := er_cat g1
    by_cases hn : j + 1 = i
    · rw [hc j b hn hb] at hw
      simp [hw, Ne.symm hj]
    · simp [hn, Ne.symm hj]
theorem er_L.set2 {ρ : ex_R} {nL : Nat} {la : List (Option ex_V)} {ls' : Array Slot} {lv : List (Nat × Value)} {i : Nat} {a : ex_V} {v : Value} (hlen : la.length = nL) (hall : ∀ (i : Nat) (a : ex_V), la[i]? = some (some a) → ∃ v, er_V ρ a v ∧ (i, v) ∈ lv)
    (hc : ∀ (j : Nat) (a : ex_V), j + 1 = i → la[j]? = some (some a) → ex_cat a = 1) (hv : er_V ρ a v) (h : lv_has ls' nL ((i, v) :: lv.filter (fun q => !(q.1 == i) && (!(q.1 == i + 1) && !(q.1 + 1 == i && q.2.category == 2))))) : er_L ρ nL ((la.set i (some a)).set (i + 1) none) ls' := by
  refine ⟨by rw [List.length_set, List.length_set]; exact hlen, _, h, fun j b hb => ?_⟩
  rw [List.getElem?_set] at hb
  by_cases hj1 : i + 1 = j
  · rw [if_pos hj1] at hb
    split at hb <;> cases hb
  · rw [if_neg hj1, List.getElem?_set] at hb
    by_cases hj : i = j
    · subst hj
      rw [if_pos rfl] at hb
      by_cases hl : i < la.length
      · rw [if_pos hl] at hb
        cases hb
        exact ⟨v, hv, List.mem_cons_self⟩
      · rw [if_neg hl] at hb; cases hb
    · rw [if_neg hj] at hb
      obtain ⟨w, g1, g2⟩ := hall j b hb
      refine ⟨w, g1, List.mem_cons_of_mem _ (List.mem_filter.mpr ⟨g2, ?_⟩)⟩
      have hw := er_cat g1
      by_cases hn : j + 1 = i
      · rw [hc j b hn hb] at hw
        simp [hw, Ne.symm hj, Ne.symm hj1]
      · simp [hn, Ne.symm hj, Ne.symm hj1]
