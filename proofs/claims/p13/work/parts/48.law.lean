/-! The law's frame, by hand: its rules. Written by hand (wip/p3/law0.lean). -/
/-- an image that is kept is one of a carriage -/
def el_C (ν : Nat → Int32) : Prop := ((ν 1010).toInt = 1 → 2 ≤ (ν 2000).toInt ∧ 1 ≤ (ν 2003).toInt) ∧ ((ν 1011).toInt = 1 → 2 ≤ (ν 2230).toInt ∧ 1 ≤ (ν 2233).toInt)
/-- what holds of the names at the loop's head -/
def el_F (ν : Nat → Int32) : Prop := el_C ν ∧ ν 1 = ν 2
theorem el_F.C {ν : Nat → Int32} (h : el_F ν) : el_C ν := h.1
/-- a place of the law's frame is good -/
def el_G (p : Program) (l : Launch) (e : Env) (s : State) (m : MethodId) (below : List Frame) (meth : Method) (c : Code) (b : Nat) (D : va_G) (τ : Nat → ClassId) (sa : List Nat) (ro : List ex_C) (Φ : (Nat → Int32) → Prop) (S : ex_S) : Prop :=
  ∀ ν : Nat → Int32, Φ ν → ew_G p l e room_1 s m #[Value.ref b] below meth c (lw_Z below #[Value.ref b] s) ν D τ sa ro (fun q => s.heap.size ≤ q) [] 4 S.1 S.2.1 S.2.2.1 S.2.2.2.1 S.2.2.2.2.1 S.2.2.2.2.2
noncomputable def el_go (p : Program) (l : Launch) (e : Env) (s : State) (m : MethodId) (below : List Frame) (meth : Method) (c : Code) (b : Nat) (D : va_G) (τ : Nat → ClassId) (sa : List Nat) (ro : List ex_C) (Φ : (Nat → Int32) → Prop) : Nat → List (Option ex_V) → List ex_V → ex_H → Nat → Nat → Bool := fun pc ls st hp ce sl =>
  @decide (el_G p l e s m below meth c b D τ sa ro Φ (pc, ls, st, hp, ce, sl)) (Classical.propDecidable _)
noncomputable def el_cal (l : Launch) (s : State) (D : va_G) (τ : Nat → ClassId) (sa : List Nat) : Nat → List ex_V → ex_H → Nat → Nat → (Option ex_V → ex_H → Nat → Nat → Bool) → Bool := fun mi as hp ce sl k =>
  @decide (∃ (dd : Nat) (Post : Option ex_V → ex_H → Prop), dd + 1 ≤ 30 ∧ em_X l D τ sa (fun q => s.heap.size ≤ q) mi as hp Post dd ∧ ce ≤ 362 ∧ sl ≤ 6690 ∧ ∀ v hp', Post v hp' → k v hp' ce sl = true) (Classical.propDecidable _)
theorem el_cal_ok {l : Launch} {s : State} {D : va_G} {τ : Nat → ClassId} {sa : List Nat} (ν : Nat → Int32) (ro : List ex_C) : em_cal l room_1 ν D τ sa ro (fun q => s.heap.size ≤ q) em_inf (el_cal l s D τ sa) := by
  intro mi as hp ce sl k hc
  obtain ⟨dd, Post, h1, ⟨y, bytes, nl, ret, i1, i2, i3⟩, h3, h4, h2⟩ := @of_decide_eq_true _ (Classical.propDecidable _) hc
  have r1 : 30 ≤ room_1.frames := by decide
  have r2 : 64 * 30 ≤ room_1.locals := by decide
  have r3 : 362 ≤ room_1.cells := by decide
  have r4 : 6690 ≤ room_1.slots := by decide
  refine ⟨y, bytes, nl, ret, 0, 0, dd, i1, ⟨by omega, by omega⟩, ⟨by omega, by omega⟩, fun avs ws ha => em_weak (i3 ν ro avs ws ha) ?_⟩
  rintro a st o t ⟨⟨ov, hp', ws', rv, j1, j2, j3, j4, j5⟩, j6⟩
  exact ⟨⟨ov, hp', ws', rv, j1, h2 _ _ (@of_decide_eq_true _ (Classical.propDecidable _) j2), j3, j4, j5⟩, j6⟩
section EL
variable {p : Program} {l : Launch} {e : Env} {s : State} {m : MethodId} {below : List Frame} {meth : Method} {c : Code} {b : Nat} {D : va_G} {τ : Nat → ClassId} {sa : List Nat} {ro : List ex_C} {Φ : (Nat → Int32) → Prop} {pc pc' a0 b0 : Nat} {z : Int} {ls ls' : List (Option ex_V)} {st st' r : List ex_V} {hp hp' : ex_H} {x y w : Int}
theorem el_go_of {ce sl : Nat} (h : el_G p l e s m below meth c b D τ sa ro Φ (pc, ls, st, hp, ce, sl)) : el_go p l e s m below meth c b D τ sa ro Φ pc ls st hp ce sl = true := @decide_eq_true _ (Classical.propDecidable _) h
theorem el_step (hmn : em_mna) (BB : el_B p s m meth c b D τ sa ro) (X : ex_J) (hx : ek_J em_inf et_cls et_vt "WarmNightLaw" "law" code X) {ce sl : Nat}
    (h : X.2.1 et_cls et_vt el_lim (some .boolean) (el_go p l e s m below meth c b D τ sa ro Φ) (el_cal l s D τ sa) false el_K X.1 X.2.2.1 X.2.2.2.1 X.2.2.2.2 ls st hp ce sl = true) : el_G p l e s m below meth c b D τ sa ro Φ (X.1, ls, st, hp, ce, sl) := by
  intro ν hν
  obtain ⟨ins, len, a0, q1, k1, k2, k3⟩ := hx
  obtain ⟨B0, hn, hr, hlk⟩ := BB
  refine er_step (d := 30) B0 (fun pc ls st hp ce sl hk => ?_) eo_glob hmn hn (fun hn => absurd hn Bool.false_ne_true) (by decide) (el_cal_ok ν ro) (el_ret B0.1 B0.2.1 hr hlk _ _ _ _ _ _) k1 k2 k3 (q1 _ _ _ _ _ _ _ _ _ _ _ _ _ _ h)
  exact (@of_decide_eq_true _ (Classical.propDecidable _) hk) ν hν
theorem el_plain (hmn : em_mna) (BB : el_B p s m meth c b D τ sa ro) {X : ex_J} (hx : ek_J em_inf et_cls et_vt "WarmNightLaw" "law" code X) (hh : ∀ (go : Nat → List (Option ex_V) → List ex_V → ex_H → Nat → Nat → Bool) (cal : Nat → List ex_V → ex_H → Nat → Nat → (Option ex_V → ex_H → Nat → Nat → Bool) → Bool), X.2.1 et_cls et_vt el_lim (some .boolean) go cal false el_K X.1 X.2.2.1 X.2.2.2.1 X.2.2.2.2 ls st hp 362 6690 = go pc' ls' st' hp' 362 6690) (h : el_G p l e s m below meth c b D τ sa ro Φ (pc', ls', st', hp', 362, 6690)) : el_G p l e s m below meth c b D τ sa ro Φ (X.1, ls, st, hp, 362, 6690) := el_step hmn BB X hx ((hh _ _).trans (el_go_of h))
theorem el_iadd (hmn : em_mna) (BB : el_B p s m meth c b D τ sa ro) (hx : ek_J em_inf et_cls et_vt "WarmNightLaw" "law" code (pc, eh_iadd, a0, b0, z)) (hpc : pc + 1 = pc') (h1 : -2147483648 ≤ x + y) (h2 : x + y ≤ 2147483647) (h : el_G p l e s m below meth c b D τ sa ro Φ (pc', ls, .inl (x + y) :: r, hp, 362, 6690)) : el_G p l e s m below meth c b D τ sa ro Φ (pc, ls, .inl y :: .inl x :: r, hp, 362, 6690) := by
  subst hpc
  refine el_step hmn BB _ hx ?_
  show ex_add (.inl x) (.inl y) _ = true
  refine ey_add h1 h2 ?_
  show ex_n _ _ = true
  rw [ex_n_eq]
  exact el_go_of h
theorem el_isub (hmn : em_mna) (BB : el_B p s m meth c b D τ sa ro) (hx : ek_J em_inf et_cls et_vt "WarmNightLaw" "law" code (pc, eh_isub, a0, b0, z)) (hpc : pc + 1 = pc') (h1 : -2147483648 ≤ x - y) (h2 : x - y ≤ 2147483647) (h : el_G p l e s m below meth c b D τ sa ro Φ (pc', ls, .inl (x - y) :: r, hp, 362, 6690)) : el_G p l e s m below meth c b D τ sa ro Φ (pc, ls, .inl y :: .inl x :: r, hp, 362, 6690) := by
  subst hpc
  refine el_step hmn BB _ hx ?_
  show ex_sub (.inl x) (.inl y) _ = true
  refine ey_sub h1 h2 ?_
  show ex_n _ _ = true
  rw [ex_n_eq]
  exact el_go_of h
theorem el_iinc (hmn : em_mna) (BB : el_B p s m meth c b D τ sa ro) {i : Nat} {n : Int} (hx : ek_J em_inf et_cls et_vt "WarmNightLaw" "law" code (pc, eh_iinc i n, a0, b0, z)) (hpc : pc + 3 = pc') (hn : n = w) (hg : ∀ k : Option ex_V → Bool, ex_get ls i k = k (some (.inl x))) {lsf : ex_V → List (Option ex_V)} (hs : ∀ (v : ex_V) (k : List (Option ex_V) → Bool), ex_clear ls i (ex_set ls i (some v) k) = k (lsf v)) (hw1 : -2147483648 ≤ w) (hw2 : w ≤ 2147483647) (h1 : -2147483648 ≤ x + w) (h2 : x + w ≤ 2147483647) (h : el_G p l e s m below meth c b D τ sa ro Φ (pc', lsf (.inl (x + w)), r, hp, 362, 6690)) : el_G p l e s m below meth c b D τ sa ro Φ (pc, ls, r, hp, 362, 6690) := by
  subst hpc; subst hn
  refine el_step hmn BB _ hx ?_
  show (if ex_fit32 n then ex_get ls i (fun o => match o with | some v => ex_add v (.inl n) (fun v => ex_clear ls i (ex_set ls i (some v) (fun ls => ex_n (pc + 3) (fun pc => el_go p l e s m below meth c b D τ sa ro Φ pc ls r hp 362 6690)))) | none => false) else false) = true
  rw [if_pos (ey_fit hw1 hw2), hg]
  show ex_add (.inl x) (.inl n) _ = true
  refine ey_add h1 h2 ?_
  rw [hs, ex_n_eq]
  exact el_go_of h
/-- a call that answers -/
theorem el_call (hmn : em_mna) (BB : el_B p s m meth c b D τ sa ro) {X : ex_J} (hx : ek_J em_inf et_cls et_vt "WarmNightLaw" "law" code X) {mi dd : Nat} {as : List ex_V} {Post : Option ex_V → ex_H → Prop} (hX : em_X l D τ sa (fun q => s.heap.size ≤ q) mi as hp Post dd) (hd : dd + 1 ≤ 30) (hh : ∀ (go : Nat → List (Option ex_V) → List ex_V → ex_H → Nat → Nat → Bool) (cal : Nat → List ex_V → ex_H → Nat → Nat → (Option ex_V → ex_H → Nat → Nat → Bool) → Bool), X.2.1 et_cls et_vt el_lim (some .boolean) go cal false el_K X.1 X.2.2.1 X.2.2.2.1 X.2.2.2.2 ls st hp 362 6690 = cal mi as hp 362 6690 (fun v hp' ce sl => match v with | some v => go pc' ls (v :: r) hp' ce sl | none => go pc' ls r hp' ce sl)) (h : ∀ (v : Option ex_V) (hp' : ex_H), Post v hp' → match v with | some v => el_G p l e s m below meth c b D τ sa ro Φ (pc', ls, v :: r, hp', 362, 6690) | none => el_G p l e s m below meth c b D τ sa ro Φ (pc', ls, r, hp', 362, 6690)) : el_G p l e s m below meth c b D τ sa ro Φ (X.1, ls, st, hp, 362, 6690) := by
  refine el_step hmn BB X hx ((hh _ _).trans (@decide_eq_true _ (Classical.propDecidable _) ⟨dd, Post, hd, hX, Nat.le_refl _, Nat.le_refl _, fun v hp' hP => ?_⟩))
  have g := h v hp' hP
  cases v with
  | some v => exact el_go_of g
  | none => exact el_go_of g
theorem el_tswd {t : Nat} {df lo hi : Int} {offs : Array Int} (hmn : em_mna) (BB : el_B p s m meth c b D τ sa ro) (hx : ek_J em_inf et_cls et_vt "WarmNightLaw" "law" code (pc, eh_tableswitch df lo offs, a0, b0, z)) (hg : ∀ k : Nat → Bool, ex_tgt pc df k = k t) (hs : lo + (offs.size : Int) = hi + 1) (ho : x < lo ∨ hi < x) (h : el_G p l e s m below meth c b D τ sa ro Φ (t, ls, r, hp, 362, 6690)) : el_G p l e s m below meth c b D τ sa ro Φ (pc, ls, .inl x :: r, hp, 362, 6690) := by
  refine el_step hmn BB _ hx ?_
  show (if ex_le lo x then (match offs[(x - lo).toNat]? with | some off => ex_tgt pc off (fun t => el_go p l e s m below meth c b D τ sa ro Φ t ls r hp 362 6690) | none => ex_tgt pc df (fun t => el_go p l e s m below meth c b D τ sa ro Φ t ls r hp 362 6690)) else ex_tgt pc df (fun t => el_go p l e s m below meth c b D τ sa ro Φ t ls r hp 362 6690)) = true
  by_cases c : lo ≤ x
  · rw [if_pos ((ex_le_iff _ _).mpr c), Array.getElem?_eq_none (by omega)]
    show ex_tgt pc df _ = true
    rw [hg]
    exact el_go_of h
  · rw [if_neg (fun q => c ((ex_le_iff _ _).mp q)), hg]
    exact el_go_of h
end EL
