/-! The compared method: lemmas. Printed by wip/p3/lawx.py. -/
def el_Fm (x y : Int) (ν : Nat → Int32) : Prop := el_C ν ∧ (ν 1).toInt = y ∧ (ν 2).toInt = x
section ELX
variable {ν : Nat → Int32} {D : va_G} {τ : Nat → ClassId} {sa : List Nat} {ro : List ex_C} {A : Nat → Prop} {ws : va_W} {H : Heap} {L P : Nat} {hp : ex_H}
theorem el_avC (y : Int) : ∀ (q : Nat) (c : ex_C), 5 ≤ q → ex_at (ex_fix (el_h L P) (et_lc y)) q = some c → ex_avC 1 1 c = true := by
  intro q c hq hc
  rw [(ex_fix_ok (el_h L P) (et_lc y)).2.2 q hq] at hc
  unfold et_lc at hc
  rw [ex_hput_at et_cat0 q] at hc
  by_cases e : q = 46
  · rw [if_pos e] at hc
    cases hc
    rfl
  · rw [if_neg e] at hc
    have g : ex_at eih_c q = some c := by
      unfold eih_c
      rw [ex_hput_at et_cat0 q, if_neg e]
      exact hc
    exact ex_avH_ok (hp := eih_c) (by decide +kernel) g
theorem et_lc5 (y : Int) : ∀ (q : Nat) (c : ex_C), q < 5 → ex_at (et_lc y) q = some c → c.1 = 9 := by
  intro q c hq hc
  match q, hq, hc with
  | 0, _, hc => cases hc; rfl
  | 1, _, hc => cases hc; rfl
  | 2, _, hc => cases hc; rfl
  | 3, _, hc => cases hc; rfl
  | 4, _, hc => cases hc; rfl
  | q + 5, hq, _ => omega
theorem el_exC (h : er_W ν D τ sa ro A (el_h L P) ws H) : (0 ≤ (ν 1).toInt ∧ (ν 1).toInt ≤ 300) ∧ er_W ν D τ sa ro A (ex_fix (el_h L P) (et_lc (ν 1).toInt)) ws H := by
  obtain ⟨h1, h2⟩ := el_exF (q := 46) (j0 := 1) (k := 1) h (by decide) rfl rfl
  exact ⟨h1, h2⟩
theorem el_backC {y : Int} (h0 : 0 ≤ y ∧ y ≤ 300) (h : er_W ν D τ sa ro A (ex_fix (el_h L P) (et_lc y)) ws H) : ∃ ν' : Nat → Int32, (∀ i, i ≠ 1 → ν' i = ν i) ∧ (ν' 1).toInt = y ∧ er_W ν' D τ sa ro A (el_h L P) ws H := by
  obtain ⟨ν', h1, h2, h3⟩ := el_nmX (q := 46) (k := 1) (j0 := 1) (lo := 0) (hi := 300) h (by decide) rfl rfl h0.1 h0.2 (el_avC y)
  exact ⟨ν', h1, h2, h3⟩
theorem el_avR (y : Int) : ∀ (q : Nat) (c : ex_C), 5 ≤ q → ex_at (ex_fix (el_h L P) (et_lr y)) q = some c → ex_avC 2 2 c = true := by
  intro q c hq hc
  rw [(ex_fix_ok (el_h L P) (et_lr y)).2.2 q hq] at hc
  unfold et_lr at hc
  rw [ex_hput_at et_at0 q] at hc
  by_cases e : q = 345
  · rw [if_pos e] at hc
    cases hc
    rfl
  · rw [if_neg e] at hc
    have g : ex_at eih_t q = some c := by
      unfold eih_t
      rw [ex_hput_at et_at0 q, if_neg e]
      exact hc
    exact ex_avH_ok (hp := eih_t) (by decide +kernel) g
theorem et_lr5 (y : Int) : ∀ (q : Nat) (c : ex_C), q < 5 → ex_at (et_lr y) q = some c → c.1 = 9 := by
  intro q c hq hc
  match q, hq, hc with
  | 0, _, hc => cases hc; rfl
  | 1, _, hc => cases hc; rfl
  | 2, _, hc => cases hc; rfl
  | 3, _, hc => cases hc; rfl
  | 4, _, hc => cases hc; rfl
  | q + 5, hq, _ => omega
theorem el_exR (h : er_W ν D τ sa ro A (el_h L P) ws H) : (0 ≤ (ν 2).toInt ∧ (ν 2).toInt ≤ 300) ∧ er_W ν D τ sa ro A (ex_fix (el_h L P) (et_lr (ν 2).toInt)) ws H := by
  obtain ⟨h1, h2⟩ := el_exF (q := 345) (j0 := 7) (k := 2) h (by decide) rfl rfl
  exact ⟨h1, h2⟩
theorem el_backR {y : Int} (h0 : 0 ≤ y ∧ y ≤ 300) (h : er_W ν D τ sa ro A (ex_fix (el_h L P) (et_lr y)) ws H) : ∃ ν' : Nat → Int32, (∀ i, i ≠ 2 → ν' i = ν i) ∧ (ν' 2).toInt = y ∧ er_W ν' D τ sa ro A (el_h L P) ws H := by
  obtain ⟨ν', h1, h2, h3⟩ := el_nmX (q := 345) (k := 2) (j0 := 7) (lo := 0) (hi := 300) h (by decide) rfl rfl h0.1 h0.2 (el_avR y)
  exact ⟨ν', h1, h2, h3⟩
theorem el_b1 {x y : Int} (h0 : 0 ≤ y ∧ y ≤ 300) (hC : el_F ν ∧ (ν 1).toInt = x) (h : er_W ν D τ sa ro A (ex_fix (el_h L P) (et_lc y)) ws H) : ∃ ν' : Nat → Int32, el_Fm x y ν' ∧ er_W ν' D τ sa ro A (el_h L P) ws H := by
  obtain ⟨ν', h1, h2, h3⟩ := el_backC h0 h
  exact ⟨ν', ⟨hC.1.1.of (h1 _ (by decide)) (h1 _ (by decide)) (h1 _ (by decide)) (h1 _ (by decide)) (h1 _ (by decide)) (h1 _ (by decide)), h2, by rw [h1 2 (by decide), ← hC.1.2]; exact hC.2⟩, h3⟩
theorem el_b2 {x y : Int} (h0 : 0 ≤ y ∧ y ≤ 300) (hC : el_Fm x y ν) (h : er_W ν D τ sa ro A (ex_fix (el_h L P) (et_lr y)) ws H) : ∃ ν' : Nat → Int32, el_F ν' ∧ er_W ν' D τ sa ro A (el_h L P) ws H := by
  obtain ⟨ν', h1, h2, h3⟩ := el_backR h0 h
  exact ⟨ν', ⟨hC.1.of (h1 _ (by decide)) (h1 _ (by decide)) (h1 _ (by decide)) (h1 _ (by decide)) (h1 _ (by decide)) (h1 _ (by decide)), Int32.toInt_inj.mp (by rw [h1 1 (by decide), h2]; exact hC.2.1)⟩, h3⟩
theorem el_exR2 {x : Int} (hx : (ν 2).toInt = x) (h : er_W ν D τ sa ro A (el_h L P) ws H) : er_W ν D τ sa ro A (ex_fix (el_h L P) (et_lr x)) ws H := by
  subst hx
  exact (el_exR h).2
theorem el_un {X : ex_H} (h5 : ∀ (q : Nat) (c : ex_C), q < 5 → ex_at X q = some c → c.1 = 9) (h : er_W ν D τ sa ro A (ex_fix hp X) ws H) : er_W ν D τ sa ro A X ws H := by
  obtain ⟨h1, h2, h3, h4, h6⟩ := h
  obtain ⟨g1, g2, g3⟩ := ex_fix_ok hp X
  exact ⟨h1, h2, by rw [← g1]; exact h3, fun q c hq hc => Or.inl (h5 q c hq hc), fun q c hq hc => h6 q c hq (by rw [g3 q hq]; exact hc)⟩
end ELX
theorem em_X.fixS {l : Launch} {D : va_G} {τ : Nat → ClassId} {sa : List Nat} {A : Nat → Prop} {mi dd : Nat} {as : List ex_V} {X hp : ex_H} {Post : Option ex_V → ex_H → Prop} (h : em_X l D τ sa A mi as X Post dd) (h5 : ∀ (q : Nat) (c : ex_C), q < 5 → ex_at X q = some c → c.1 = 9) (hp5 : ∀ (v : Option ex_V) (X' : ex_H), Post v X' → ∀ (q : Nat) (c : ex_C), q < 5 → ex_at X' q = some c → c.1 = 9) : em_X l D τ sa A mi as (ex_fix hp X) (fun w hp' => ∃ X', Post w X' ∧ hp' = ex_fix (ex_fix hp X) X') dd := by
  obtain ⟨y, bytes, nl, ret, i1, i2, i3⟩ := h
  refine ⟨y, bytes, nl, ret, i1, i2, fun ν ro avs ws hs => em_weak2 (i3 ν ro avs ws hs) ?_ ?_⟩
  · rintro a st ⟨k1, k2, k3⟩
    exact ⟨k1, k2, el_un h5 k3⟩
  · rintro a st o t ⟨k1, k2, k3⟩ ⟨⟨ov, hp', ws', rv, j1, j2, j3, j4, j5⟩, j6⟩
    have j2' := @of_decide_eq_true _ (Classical.propDecidable _) j2
    exact ⟨⟨ov, _, ws', rv, j1, @decide_eq_true _ (Classical.propDecidable _) ⟨hp', j2', rfl⟩, j3, j4.fix k3.2.2.2.1 (fun q c hq hc => Or.inl (hp5 _ _ j2' q c hq hc)), j5⟩, j6⟩
theorem el_len1 {p : Program} {l : Launch} {e : Env} {s : State} {m : MethodId} {below : List Frame} {meth : Method} {c : Code} {b : Nat} {D : va_G} {τ : Nat → ClassId} {sa : List Nat} {ro : List ex_C} {Φ : (Nat → Int32) → Prop} {L P : Nat} {pc : Nat} {ls : List (Option ex_V)} {st : List ex_V} (h : ∀ x : Int, 0 ≤ x → x ≤ 300 → el_G p l e s m below meth c b D τ sa ro (fun ν => Φ ν ∧ (ν 1).toInt = x) (pc, ls, st, (ex_fix (el_h L P) (et_lc x)), 362, 6690)) : el_G p l e s m below meth c b D τ sa ro Φ (pc, ls, st, (el_h L P), 362, 6690) := by
  intro ν hν H locs lsA stA ws hL hT hP hS hw
  obtain ⟨⟨x0, x1⟩, g⟩ := el_exC hP
  exact h _ x0 x1 ν ⟨hν, rfl⟩ H locs lsA stA ws hL hT g hS hw
theorem el_someL {p : Program} {l : Launch} {e : Env} {s : State} {m : MethodId} {below : List Frame} {meth : Method} {c : Code} {b : Nat} {D : va_G} {τ : Nat → ClassId} {sa : List Nat} {ro : List ex_C} {Φ : (Nat → Int32) → Prop} {pc : Nat} {ls : List (Option ex_V)} {r : List ex_V} {hp : ex_H} (h : ∀ z : Int, el_G p l e s m below meth c b D τ sa ro Φ (pc, ls, .inr (.inl z) :: r, hp, 362, 6690)) : el_G p l e s m below meth c b D τ sa ro Φ (pc, ls, ex_topL :: r, hp, 362, 6690) := by
  intro ν hν H locs lsA stA ws hL hT hP hS hw
  obtain ⟨v, vs, rfl, g, hT'⟩ := hT.cons
  obtain ⟨x, rfl, -, -⟩ := g
  exact h x.toInt ν hν H locs lsA _ ws hL ⟨er_long x, hT'⟩ hP hS hw
