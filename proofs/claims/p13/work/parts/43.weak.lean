/-! Steps by hand over INV: what is read is between bounds, what is written must be. -/
theorem ex_set_eq {α : Type} (l : List α) : ∀ (i : Nat) (v : α) (k : List α → Bool), i < l.length → ex_set l i v k = k (l.set i v) := by
  induction l with
  | nil => intro i v k h; exact absurd h (Nat.not_lt_zero _)
  | cons x l ih =>
    intro i v k h
    cases i with
    | zero => rfl
    | succ i =>
      show ex_set l i v (fun r => k (x :: r)) = k (x :: l.set i v)
      rw [ih i v _ (by simpa using h)]
theorem ex_hset_put {hp : ex_H} {q : Nat} {c0 c : ex_C} {k : ex_H → Bool} (h : ex_at hp q = some c0) : ex_hset hp q c k = k (ex_hput hp q c) := by
  unfold ex_at at h
  cases hch : hp.2[q / 16]? with
  | none => rw [hch] at h; cases h
  | some ch =>
    rw [hch] at h
    replace h : ch[q % 16]? = some c0 := h
    unfold ex_hset ex_hput
    rw [ex_get_eq _ _ _ _ hch, ex_set_eq _ _ _ _ (List.getElem?_eq_some_iff.mp h).1, ex_set_eq _ _ _ _ (List.getElem?_eq_some_iff.mp hch).1, hch]
    rfl
theorem er_W.unput {ν : Nat → Int32} {D : va_G} {τ : Nat → ClassId} {sa : List Nat} {ro : List ex_C} {A : Nat → Prop} {hp : ex_H} {ws : va_W} {H : Heap} {q : Nat} {c0 c : ex_C} (h5 : 5 ≤ q) (hat : ex_at hp q = some c0) (hc : ∀ (ρ : ex_R) (e : va_E), er_C τ ρ c e → er_C τ ρ c0 e) (h : er_W ν D τ sa ro A (ex_hput hp q c) ws H) : er_W ν D τ sa ro A hp ws H := by
  obtain ⟨h1, h2, h3, h4, h6⟩ := h
  refine ⟨h1, h2, h3, fun j x hj hx => h4 j x hj (by rw [ex_hput_at hat j, if_neg (by omega)]; exact hx), fun j x hj hx => ?_⟩
  by_cases e : j = q
  · subst e
    rw [hat] at hx
    cases hx
    obtain ⟨y, g1, g2⟩ := h6 j c hj (by rw [ex_hput_at hat j, if_pos rfl])
    exact ⟨y, g1, hc _ _ g2⟩
  · exact h6 j x hj (by rw [ex_hput_at hat j, if_neg e]; exact hx)
/-- the bounds of a place of an array -/
def ey_wr (P i : Nat) (lo hi : Int) : Prop := ((ex_pg P i % 4294967296 : Nat) : Int) = lo + 2147483648 ∧ ((ex_pg P i / 4294967296 : Nat) : Int) = hi + 2147483648
section EW
variable {l : Launch} {D : va_G} {τ : Nat → ClassId} {sa : List Nat} {A : Nat → Prop} {own mname : String} {bytes : ByteArray} {nL d : Nat} {ret : Option FieldType} {K : Option ex_V → ex_H → Bool} {pc pc' a b : Nat} {z : Int} {ls ls' : List (Option ex_V)} {st r : List ex_V} {hp hp' : ex_H} {x y lo hi : Int}
theorem ej_weak (hW : ∀ (ν : Nat → Int32) (ro : List ex_C) (ws : va_W) (H : Heap), er_W ν D τ sa ro A hp' ws H → er_W ν D τ sa ro A hp ws H) (h : em_G l D τ sa A own mname bytes nL d (0, 0) ret K (pc, ls, st, hp, 0, 0)) : em_G l D τ sa A own mname bytes nL d (0, 0) ret K (pc, ls, st, hp', 0, 0) := by
  intro ν ro p e R s m args below meth c Q ws0 B hm hf hlo hlim hret H locs lsA stA ws hL hT hP hS hw
  exact h ν ro p e R s m args below meth c Q ws0 B hm hf hlo hlim hret H locs lsA stA ws hL hT (hW ν ro ws H hP) hS hw
/-- an int between bounds is some int -/
theorem ej_some (h : ∀ w : Int, lo ≤ w → w ≤ hi → em_G l D τ sa A own mname bytes nL d (0, 0) ret K (pc, ls, .inl w :: r, hp, 0, 0)) : em_G l D τ sa A own mname bytes nL d (0, 0) ret K (pc, ls, .inr (.inr (.inr (.inl (lo, hi)))) :: r, hp, 0, 0) := by
  intro ν ro p e R s m args below meth c Q ws0 B hm hf hlo hlim hret H locs lsA stA ws hL hT hP hS hw
  obtain ⟨v, vs, rfl, ⟨x, rfl, x1, x2⟩, g2⟩ := er_St.cons hT
  exact h x.toInt x1 x2 ν ro p e R s m args below meth c Q ws0 B hm hf hlo hlim hret H locs lsA _ ws hL ⟨er_int x, g2⟩ hP hS hw
theorem ej_somen {j : Nat} (h : ∀ w : Int, lo ≤ w → w ≤ hi → em_G l D τ sa A own mname bytes nL d (0, 0) ret K (pc, ls, .inl w :: r, hp, 0, 0)) : em_G l D τ sa A own mname bytes nL d (0, 0) ret K (pc, ls, .inr (.inr (.inr (.inr (.inr (j, lo, hi))))) :: r, hp, 0, 0) := by
  intro ν ro p e R s m args below meth c Q ws0 B hm hf hlo hlim hret H locs lsA stA ws hL hT hP hS hw
  obtain ⟨v, vs, rfl, ⟨rfl, x1, x2⟩, g2⟩ := er_St.cons hT
  exact h _ x1 x2 ν ro p e R s m args below meth c Q ws0 B hm hf hlo hlim hret H locs lsA _ ws hL ⟨er_int _, g2⟩ hP hS hw
theorem ej_someL (h : ∀ w : Int, lo ≤ w → w ≤ hi → em_G l D τ sa A own mname bytes nL d (0, 0) ret K (pc, ls, .inr (.inl w) :: r, hp, 0, 0)) : em_G l D τ sa A own mname bytes nL d (0, 0) ret K (pc, ls, .inr (.inr (.inr (.inr (.inl (lo, hi))))) :: r, hp, 0, 0) := by
  intro ν ro p e R s m args below meth c Q ws0 B hm hf hlo hlim hret H locs lsA stA ws hL hT hP hS hw
  obtain ⟨v, vs, rfl, ⟨x, rfl, x1, x2⟩, g2⟩ := er_St.cons hT
  exact h x.toInt x1 x2 ν ro p e R s m args below meth c Q ws0 B hm hf hlo hlim hret H locs lsA _ ws hL ⟨er_long x, g2⟩ hP hS hw
/-- a local between bounds is some int -/
theorem ej_loc (i : Nat) (hi' : ls[i]? = some (some (.inr (.inr (.inr (.inl (lo, hi))))))) (h : ∀ w : Int, lo ≤ w → w ≤ hi → em_G l D τ sa A own mname bytes nL d (0, 0) ret K (pc, ls.set i (some (.inl w)), st, hp, 0, 0)) : em_G l D τ sa A own mname bytes nL d (0, 0) ret K (pc, ls, st, hp, 0, 0) := by
  intro ν ro p e R s m args below meth c Q ws0 B hm hf hlo hlim hret H locs lsA stA ws hL hT hP hS hw
  obtain ⟨h1, lv, h2, h3⟩ := hL
  obtain ⟨v, ⟨x, rfl, f1, f2⟩, g2⟩ := h3 i _ hi'
  refine h x.toInt f1 f2 ν ro p e R s m args below meth c Q ws0 B hm hf hlo hlim hret H locs lsA stA ws ⟨by rw [List.length_set]; exact h1, lv, h2, fun j a ha => ?_⟩ hT hP hS hw
  rw [List.getElem?_set] at ha
  by_cases e : i = j
  · subst e
    rw [if_pos rfl] at ha
    split at ha
    · cases ha; exact ⟨_, er_int x, g2⟩
    · cases ha
  · rw [if_neg e] at ha
    exact h3 j a ha
theorem ey_elW {P i : Nat} {k : ex_V → Bool} (hw : ey_wr P i lo hi) (h1 : lo = hi → k (.inl lo) = true) (h2 : k (.inr (.inr (.inr (.inl (lo, hi))))) = true) : ex_el P i k = true := by
  obtain ⟨e1, e2⟩ := hw
  unfold ex_el
  simp only [ex_n_eq, ex_z_eq]
  have f1 : Int.subNatNat (ex_pg P i % 4294967296) 2147483648 = lo := by rw [Int.subNatNat_eq_coe]; omega
  have f2 : Int.subNatNat (ex_pg P i / 4294967296) 2147483648 = hi := by rw [Int.subNatNat_eq_coe]; omega
  rw [f1, f2]
  cases hb : Nat.beq (ex_pg P i % 4294967296) (ex_pg P i / 4294967296) with
  | true => exact h1 (by have := Nat.eq_of_beq_eq_true hb; omega)
  | false => exact h2
theorem ej_ialoadW (hmn : em_mna) {q ty n P : Nat} {xs : List ex_V} (hx : ek_J em_inf et_cls et_vt own mname bytes (pc, eh_iaload, a, b, z)) (hpc : pc + 1 = pc') (hq : ∀ k : ex_C → Bool, ex_hget hp q k = k (0, ty, n, P, xs)) (h0 : 0 ≤ x) (h1 : x < (n : Int)) (hw : ey_wr P x.toNat lo hi) (hl : lo ≤ hi) (h : ∀ w : Int, lo ≤ w → w ≤ hi → em_G l D τ sa A own mname bytes nL d (0, 0) ret K (pc', ls, .inl w :: r, hp, 0, 0)) : em_G l D τ sa A own mname bytes nL d (0, 0) ret K (pc, ls, .inl x :: .inr (.inr (.inl (some q))) :: r, hp, 0, 0) := by
  subst hpc
  obtain ⟨i, rfl⟩ : ∃ i : Nat, x = i := ⟨x.toNat, by omega⟩
  refine eg_step hmn _ hx ?_
  show ex_hget hp q (fun o => match o with | (t, _, n, p, _) => if Nat.beq t 0 then ex_ld n p (.inl (i : Int)) (fun w => ex_n (pc + 1) (fun pc => eg_go l D τ sa A own mname bytes nL d ret K pc ls (w :: r) hp 0 0)) else false) = true
  rw [hq]
  show (bif Nat.ble (i + 1) n then ex_el P i (fun w => ex_n (pc + 1) (fun pc => eg_go l D τ sa A own mname bytes nL d ret K pc ls (w :: r) hp 0 0)) else false) = true
  rw [Nat.ble_eq.mpr (by omega : i + 1 ≤ n)]
  have hw' : ey_wr P i lo hi := hw
  show ex_el P i (fun w => ex_n (pc + 1) (fun pc => eg_go l D τ sa A own mname bytes nL d ret K pc ls (w :: r) hp 0 0)) = true
  refine ey_elW hw' (fun e => ?_) ?_
  · rw [ex_n_eq]; exact eg_go_of (h lo (Int.le_refl _) hl)
  · rw [ex_n_eq]; exact eg_go_of (ej_some h)
theorem ej_baloadW (hmn : em_mna) {q ty n P : Nat} {xs : List ex_V} (hx : ek_J em_inf et_cls et_vt own mname bytes (pc, eh_baload, a, b, z)) (hpc : pc + 1 = pc') (hq : ∀ k : ex_C → Bool, ex_hget hp q k = k (1, ty, n, P, xs)) (h0 : 0 ≤ x) (h1 : x < (n : Int)) (hw : ey_wr P x.toNat lo hi) (hl : lo ≤ hi) (h : ∀ w : Int, lo ≤ w → w ≤ hi → em_G l D τ sa A own mname bytes nL d (0, 0) ret K (pc', ls, .inl w :: r, hp, 0, 0)) : em_G l D τ sa A own mname bytes nL d (0, 0) ret K (pc, ls, .inl x :: .inr (.inr (.inl (some q))) :: r, hp, 0, 0) := by
  subst hpc
  obtain ⟨i, rfl⟩ : ∃ i : Nat, x = i := ⟨x.toNat, by omega⟩
  refine eg_step hmn _ hx ?_
  show ex_hget hp q (fun o => match o with | (t, _, n, p, _) => if Nat.beq t 1 then ex_ld n p (.inl (i : Int)) (fun w => ex_n (pc + 1) (fun pc => eg_go l D τ sa A own mname bytes nL d ret K pc ls (w :: r) hp 0 0)) else false) = true
  rw [hq]
  show (bif Nat.ble (i + 1) n then ex_el P i (fun w => ex_n (pc + 1) (fun pc => eg_go l D τ sa A own mname bytes nL d ret K pc ls (w :: r) hp 0 0)) else false) = true
  rw [Nat.ble_eq.mpr (by omega : i + 1 ≤ n)]
  have hw' : ey_wr P i lo hi := hw
  show ex_el P i (fun w => ex_n (pc + 1) (fun pc => eg_go l D τ sa A own mname bytes nL d ret K pc ls (w :: r) hp 0 0)) = true
  refine ey_elW hw' (fun e => ?_) ?_
  · rw [ex_n_eq]; exact eg_go_of (h lo (Int.le_refl _) hl)
  · rw [ex_n_eq]; exact eg_go_of (ej_some h)
/-- a place of an array is written with what may stand there -/
theorem ej_iastoreW (hmn : em_mna) {q ty n P : Nat} (hx : ek_J em_inf et_cls et_vt own mname bytes (pc, eh_iastore, a, b, z)) (hpc : pc + 1 = pc') (h5 : Nat.ble 5 q = true) (hq : ∀ k : ex_C → Bool, ex_hget hp q k = k (0, ty, n, P, [])) (hat : ex_at hp q = some (0, ty, n, P, [])) (h0 : 0 ≤ x) (h1 : x < (n : Int)) (hw : ey_wr P x.toNat lo hi) (b1 : lo ≤ y) (b2 : y ≤ hi) (h : em_G l D τ sa A own mname bytes nL d (0, 0) ret K (pc', ls, r, hp, 0, 0)) : em_G l D τ sa A own mname bytes nL d (0, 0) ret K (pc, ls, .inl y :: .inl x :: .inr (.inr (.inl (some q))) :: r, hp, 0, 0) := by
  subst hpc
  obtain ⟨i, rfl⟩ : ∃ i : Nat, x = i := ⟨x.toNat, by omega⟩
  obtain ⟨e1, e2⟩ := hw
  replace e1 : ((ex_pg P i % 4294967296 : Nat) : Int) = lo + 2147483648 := e1
  replace e2 : ((ex_pg P i / 4294967296 : Nat) : Int) = hi + 2147483648 := e2
  have hlt := ex_pg_lt P i
  have c1 : -2147483648 ≤ y := by omega
  have c2 : y ≤ 2147483647 := by
    have : ex_pg P i / 4294967296 < 4294967296 := Nat.div_lt_of_lt_mul (by omega)
    omega
  refine eg_step hmn _ hx ?_
  show (if Nat.ble 5 q then ex_hget hp q (fun o => match o with | (t, ty, n, p, fs) => if Nat.beq t 0 && Nat.ble (i + 1) n then ex_pk (.inl y) (fun w => ex_n (ex_ps p i w) (fun p => ex_hset hp q (0, ty, n, p, []) (fun hp => ex_n (pc + 1) (fun pc => eg_go l D τ sa A own mname bytes nL d ret K pc ls r hp 0 0)))) else false) else false) = true
  rw [if_pos h5, hq]
  show (if Nat.beq 0 0 && Nat.ble (i + 1) n then ex_pk (.inl y) (fun w => ex_n (ex_ps P i w) (fun p => ex_hset hp q (0, ty, n, p, []) (fun hp => ex_n (pc + 1) (fun pc => eg_go l D τ sa A own mname bytes nL d ret K pc ls r hp 0 0)))) else false) = true
  rw [if_pos (by rw [Nat.ble_eq.mpr (by omega : i + 1 ≤ n)]; rfl)]
  refine ey_pk c1 c2 ?_
  rw [ex_n_eq, ex_hset_put hat, ex_n_eq]
  refine eg_go_of (ej_weak (fun ν ro ws H => er_W.unput (Nat.le_of_ble_eq_true h5) hat (fun ρ e he => ?_)) h)
  obtain ⟨f, f1, f2, -⟩ := (ey_C_iff (Or.inl rfl)).mp he
  refine (ey_C_iff (Or.inl rfl)).mpr ⟨f, f1, fun j hj => ?_, trivial⟩
  have g := f2 j hj
  by_cases ej : j = i
  · subst ej
    unfold er_w at g ⊢
    rw [ex_ps_same (ey_wd_lt c1 c2)] at g
    obtain ⟨d1, d2⟩ := ey_wd_div c1 c2
    omega
  · rw [ex_ps_ne (ey_wd_lt c1 c2) ej] at g
    exact g
/-- a field is written with what may stand there -/
theorem ej_putW (hmn : em_mna) {q ci n pk : Nat} {fs : List ex_V} {F w : ex_V} (hx : ek_J em_inf et_cls et_vt own mname bytes (pc, eh_putfield, ci, b, z)) (hpc : pc + 3 = pc') (hfit : ex_fit z w = true) (h5 : 5 ≤ q) (hq : ∀ k : ex_C → Bool, ex_hget hp q k = k (3, ci, n, pk, fs)) (hat : ex_at hp q = some (3, ci, n, pk, fs)) (hF : fs[b]? = some F) (hle : ∀ (ρ : ex_R) (v : Value), er_V ρ w v → er_V ρ F v) (h : em_G l D τ sa A own mname bytes nL d (0, 0) ret K (pc', ls, r, hp, 0, 0)) : em_G l D τ sa A own mname bytes nL d (0, 0) ret K (pc, ls, w :: .inr (.inr (.inl (some q))) :: r, hp, 0, 0) := by
  subst hpc
  refine eg_step hmn _ hx ?_
  show (if ex_fit z w then ex_hget hp q (fun o => match o with | (t, c, n, p, fs) => if Nat.beq t 3 && Nat.beq c ci then ex_set fs b w (fun fs => ex_hset hp q (3, c, n, p, fs) (fun hp => ex_n (pc + 3) (fun pc => eg_go l D τ sa A own mname bytes nL d ret K pc ls r hp 0 0))) else false) else false) = true
  rw [if_pos hfit, hq]
  show (if Nat.beq 3 3 && Nat.beq ci ci then ex_set fs b w (fun fs => ex_hset hp q (3, ci, n, pk, fs) (fun hp => ex_n (pc + 3) (fun pc => eg_go l D τ sa A own mname bytes nL d ret K pc ls r hp 0 0))) else false) = true
  have hb : b < fs.length := (List.getElem?_eq_some_iff.mp hF).1
  rw [if_pos (by rw [Nat.beq_refl, Nat.beq_refl]; rfl), ex_set_eq _ _ _ _ hb, ex_hset_put hat, ex_n_eq]
  refine eg_go_of (ej_weak (fun ν ro ws H => er_W.unput h5 hat (fun ρ e he => ?_)) h)
  rcases he with ⟨g1, -⟩ | ⟨g1, -⟩ | ⟨g1, -⟩ | ⟨-, vs, g2, g3, g4⟩
  · cases g1
  · cases g1
  · cases g1
  · refine Or.inr (Or.inr (Or.inr ⟨rfl, vs, g2, ?_, fun j x hxj => ?_⟩))
    · show vs.length = fs.length
      rw [g3]
      show (fs.set b w).length = fs.length
      rw [List.length_set]
    · replace hxj : fs[j]? = some x := hxj
      by_cases ej : b = j
      · subst ej
        rw [hF] at hxj
        cases hxj
        obtain ⟨v, v1, v2⟩ := g4 b w (by show (fs.set b w)[b]? = some w; rw [List.getElem?_set, if_pos rfl, if_pos hb])
        exact ⟨v, v1, hle _ _ v2⟩
      · exact g4 j x (by show (fs.set b w)[j]? = some x; rw [List.getElem?_set, if_neg ej]; exact hxj)
end EW
theorem ei_le : ex_leH ei_h0 ei_h0 = true := by decide +kernel
/-- a call from INV to INV -/
theorem ey_invI {l : Launch} {D : va_G} {τ : Nat → ClassId} {sa : List Nat} {A : Nat → Prop} {mi dd : Nat} {as : List ex_V} {lo hi : Int} (h : em_E l D τ sa A em_inf mi (as, ei_h0, some (.inr (.inr (.inr (.inl (lo, hi))))), ei_h0, dd)) {as' : List ex_V} (hl : ex_leL none none as' as = true) : em_X l D τ sa A mi as' ei_h0 (fun w hp' => ∃ r : Int, w = some (.inl r) ∧ hp' = ei_h0 ∧ lo ≤ r ∧ r ≤ hi) dd := by
  obtain ⟨y, bytes, nl, ret, i1, i2, i3⟩ := em_X.ofE h hl ei_le
  refine ⟨y, bytes, nl, ret, i1, i2, fun ν ro avs ws hs => em_weak (i3 ν ro avs ws hs) ?_⟩
  rintro a st o t ⟨⟨ov, hp', ws', rv, j1, j2, j3, j4, j5⟩, j6⟩
  obtain ⟨rfl, rfl⟩ := @of_decide_eq_true _ (Classical.propDecidable _) j2
  match rv, j3 with
  | some v, ⟨x, e1, e2, e3⟩ =>
    subst e1
    exact ⟨⟨some (.inl x.toInt), ei_h0, ws', some (.int x), j1, @decide_eq_true _ (Classical.propDecidable _) ⟨x.toInt, rfl, rfl, e2, e3⟩, ⟨x, rfl, rfl⟩, j4, j5⟩, j6⟩
  | none, j3 => exact j3.elim
theorem ey_invN {l : Launch} {D : va_G} {τ : Nat → ClassId} {sa : List Nat} {A : Nat → Prop} {mi dd : Nat} {as : List ex_V} (h : em_E l D τ sa A em_inf mi (as, ei_h0, none, ei_h0, dd)) {as' : List ex_V} (hl : ex_leL none none as' as = true) : em_X l D τ sa A mi as' ei_h0 (fun w hp' => w = none ∧ hp' = ei_h0) dd := em_X.weak (em_X.ofE h hl ei_le) (fun v hp' h => h)
/-- and back -/
theorem ey_toE {l : Launch} {D : va_G} {τ : Nat → ClassId} {sa : List Nat} {A : Nat → Prop} {mi dd : Nat} {as : List ex_V} {lo hi : Int} (h : em_X l D τ sa A mi as ei_h0 (fun w hp' => ∃ r : Int, w = some (.inl r) ∧ hp' = ei_h0 ∧ lo ≤ r ∧ r ≤ hi) dd) : em_E l D τ sa A em_inf mi (as, ei_h0, some (.inr (.inr (.inr (.inl (lo, hi))))), ei_h0, dd) := by
  obtain ⟨y, bytes, nl, ret, i1, i2, i3⟩ := h
  refine ⟨y, bytes, nl, ret, i1, i2, fun ν ro avs ws hs => em_weak (i3 ν ro avs ws hs) ?_⟩
  rintro a st o t ⟨⟨ov, hp', ws', rv, j1, j2, j3, j4, j5⟩, j6⟩
  obtain ⟨r, rfl, rfl, r1, r2⟩ := @of_decide_eq_true _ (Classical.propDecidable _) j2
  match rv, j3 with
  | some v, ⟨x, e1, e2⟩ =>
    subst e1
    exact ⟨⟨ws', some (.int x), j1, ⟨x, rfl, by show lo ≤ x.toInt; omega, by show x.toInt ≤ hi; omega⟩, j4, j5⟩, j6⟩
  | none, j3 => exact j3.elim
