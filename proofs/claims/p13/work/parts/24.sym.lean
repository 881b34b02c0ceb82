/-! By hand, over the runner's own handlers: a step from a place to the places behind it; contracts whose ends are any predicate. -/
/-- a contract whose end is a predicate of pictures -/
def em_X (l : Launch) (D : va_G) (τ : Nat → ClassId) (sa : List Nat) (A : Nat → Prop) (mi : Nat) (as : List ex_V) (hp : ex_H) (Post : Option ex_V → ex_H → Prop) (dd : Nat) : Prop :=
  ∃ (y : MethodName) (bytes : ByteArray) (nl : Nat) (ret : Option FieldType), em_inf[mi]? = some (y, bytes, nl, ret) ∧ nl ≤ 45 ∧
    ∀ (ν : Nat → Int32) (ro : List ex_C) (avs : List Value) (ws : va_W), er_St (er_r ν sa ws) as avs → Met l y (em_ws y bytes nl ret) (em_rm dd 0 0) (em_P ν D τ sa ro A avs hp ws) (em_Q ν D τ sa ro A ws (fun v hp' => @decide (Post v hp') (Classical.propDecidable _))) 0 0 A
/-- a call by such a contract -/
noncomputable def eg_cal (l : Launch) (D : va_G) (τ : Nat → ClassId) (sa : List Nat) (A : Nat → Prop) (d : Nat) : Nat → List ex_V → ex_H → Nat → Nat → (Option ex_V → ex_H → Nat → Nat → Bool) → Bool := fun mi as hp ce sl k =>
  @decide (∃ (dd : Nat) (Post : Option ex_V → ex_H → Prop), dd + 1 ≤ d ∧ em_X l D τ sa A mi as hp Post dd ∧ ce = 0 ∧ sl = 0 ∧ ∀ v hp', Post v hp' → k v hp' 0 0 = true) (Classical.propDecidable _)
theorem eg_cal_ok {l : Launch} {D : va_G} {τ : Nat → ClassId} {sa : List Nat} {A : Nat → Prop} {d : Nat} {R : Room} (hf : d ≤ R.frames) (hl : 64 * d ≤ R.locals) (ν : Nat → Int32) (ro : List ex_C) : em_cal l R ν D τ sa ro A em_inf (eg_cal l D τ sa A d) := by
  intro mi as hp ce sl k hc
  obtain ⟨dd, Post, h1, ⟨y, bytes, nl, ret, i1, i2, i3⟩, rfl, rfl, h2⟩ := @of_decide_eq_true _ (Classical.propDecidable _) hc
  refine ⟨y, bytes, nl, ret, 0, 0, dd, i1, ⟨by omega, by omega⟩, ⟨Nat.zero_le _, Nat.zero_le _⟩, fun avs ws ha => em_weak (i3 ν ro avs ws ha) ?_⟩
  rintro a st o t ⟨⟨ov, hp', ws', rv, j1, j2, j3, j4, j5⟩, j6⟩
  exact ⟨⟨ov, hp', ws', rv, j1, h2 _ _ (@of_decide_eq_true _ (Classical.propDecidable _) j2), j3, j4, j5⟩, j6⟩
section EY
variable {l : Launch} {D : va_G} {τ : Nat → ClassId} {sa : List Nat} {A : Nat → Prop}
/-- the places that are good -/
noncomputable def eg_go (l : Launch) (D : va_G) (τ : Nat → ClassId) (sa : List Nat) (A : Nat → Prop) (own mname : String) (bytes : ByteArray) (nL d : Nat) (ret : Option FieldType) (K : Option ex_V → ex_H → Bool) : Nat → List (Option ex_V) → List ex_V → ex_H → Nat → Nat → Bool := fun pc ls st hp ce sl =>
  @decide (em_G l D τ sa A own mname bytes nL d (0, 0) ret K (pc, ls, st, hp, ce, sl)) (Classical.propDecidable _)
theorem eg_go_of {own mname : String} {bytes : ByteArray} {nL d : Nat} {ret : Option FieldType} {K : Option ex_V → ex_H → Bool} {pc : Nat} {ls : List (Option ex_V)} {st : List ex_V} {hp : ex_H} {ce sl : Nat} (h : em_G l D τ sa A own mname bytes nL d (0, 0) ret K (pc, ls, st, hp, ce, sl)) : eg_go l D τ sa A own mname bytes nL d ret K pc ls st hp ce sl = true := @decide_eq_true _ (Classical.propDecidable _) h
/-- one instruction of a method's table -/
theorem eg_step (hmn : em_mna) {own mname : String} {bytes : ByteArray} {nL d : Nat} {ret : Option FieldType} {K : Option ex_V → ex_H → Bool} (x : ex_J) (hx : ek_J em_inf et_cls et_vt own mname bytes x) {ls : List (Option ex_V)} {st : List ex_V} {hp : ex_H} {ce sl : Nat}
    (h : x.2.1 et_cls et_vt (0, 0) ret (eg_go l D τ sa A own mname bytes nL d ret K) (eg_cal l D τ sa A d) false K x.1 x.2.2.1 x.2.2.2.1 x.2.2.2.2 ls st hp ce sl = true) : em_G l D τ sa A own mname bytes nL d (0, 0) ret K (x.1, ls, st, hp, ce, sl) := by
  intro ν ro p e R s m args below meth c Q ws0 B hm hf hlo hlim hret
  obtain ⟨ins, len, a0, q1, k1, k2, k3⟩ := hx
  refine er_step (d := d) B (fun pc ls st hp ce sl hk => ?_) eo_glob hmn hm (fun hn => absurd hn Bool.false_ne_true) hlim (eg_cal_ok hf hlo ν ro) hret k1 k2 k3 (q1 _ _ _ _ _ _ _ _ _ _ _ _ _ _ h)
  exact (@of_decide_eq_true _ (Classical.propDecidable _) hk) ν ro p e R s m args below meth c Q ws0 B hm hf hlo hlim hret
/-- statics known at a place -/
theorem eg_stat {own mname : String} {bytes : ByteArray} {nL d : Nat} {ret : Option FieldType} {K : Option ex_V → ex_H → Bool} {pc : Nat} {ls : List (Option ex_V)} {st : List ex_V} {hp : ex_H} {ce sl : Nat} (h : em_G l D τ sa A own mname bytes nL d (0, 0) ret K (pc, ls, st, ex_stat hp, ce, sl)) : em_G l D τ sa A own mname bytes nL d (0, 0) ret K (pc, ls, st, hp, ce, sl) := by
  intro ν ro p e R s m args below meth c Q ws0 B hm hf hlo hlim hret H locs lsA stA ws hL hT hP hS hw
  exact h ν ro p e R s m args below meth c Q ws0 B hm hf hlo hlim hret H locs lsA stA ws hL hT (hP.stat (id B).2.2.2.2.2.2.2.2.2.2.1.2) hS hw
/-- a place under a good place -/
theorem eg_le {own mname : String} {bytes : ByteArray} {nL d : Nat} {ret : Option FieldType} {K : Option ex_V → ex_H → Bool} {S : ex_S} (h : em_G l D τ sa A own mname bytes nL d (0, 0) ret K S) {pc : Nat} {ls : List (Option ex_V)} {st : List ex_V} {hp : ex_H} {ce sl : Nat} (hl : ex_leS none none pc ls st hp ce sl S = true) : em_G l D τ sa A own mname bytes nL d (0, 0) ret K (pc, ls, st, hp, ce, sl) := by
  intro ν ro p e R s m args below meth c Q ws0 B hm hf hlo hlim hret
  exact (h ν ro p e R s m args below meth c Q ws0 B hm hf hlo hlim hret).le hl (fun _ h => (nomatch h)) (fun _ h => (nomatch h)) (fun _ _ => rfl)
/-- such a contract out of the entry's place -/
theorem em_X.of {mi : Nat} {tb : List (List ex_J)} {nl : Nat} {ret : Option FieldType} (hat : ex_at2 eu_ms mi = some (tb, nl, ret, 0, 0)) {as : List ex_V} {hp : ex_H} {Post : Option ex_V → ex_H → Prop} {dd : Nat} {q : List (Option ex_V)} (hq : ∀ k : List (Option ex_V) → Bool, ex_locs as nl k = k q)
    (h : ∀ (own mname : String) (bytes : ByteArray), (∀ ch ∈ tb, ∀ x ∈ ch, ek_J em_inf et_cls et_vt own mname bytes x) → em_G l D τ sa A own mname bytes nl dd (0, 0) ret (fun v hp' => @decide (Post v hp') (Classical.propDecidable _)) (0, q, [], hp, 0, 0)) : em_X l D τ sa A mi as hp Post dd := by
  obtain ⟨y, bytes, i1, i2, i3, i4⟩ := eo_ok mi tb nl ret 0 0 hat
  refine ⟨y, bytes, nl, ret, i1, i3, fun ν ro avs ws ha => ?_⟩
  obtain ⟨q', k1, k2, k3⟩ := ex_locs_ok as nl (fun q' => @decide (q' = q) (Classical.propDecidable _)) ((hq _).trans (@decide_eq_true _ (Classical.propDecidable _) rfl))
  obtain rfl := @of_decide_eq_true _ (Classical.propDecidable _) k1
  obtain ⟨f1, f2⟩ := k3 ha
  exact er_metG (ν := ν) (ro := ro) i2 k2 (h y.cls y.name bytes i4) avs ws f1 f2
/-- a contract from a picture to a picture, as such a one -/
theorem em_X.ofE {mi : Nat} {as' : List ex_V} {p p' : ex_H} {v : Option ex_V} {dd : Nat} (h : em_E l D τ sa A em_inf mi (as', p, v, p', dd)) {as : List ex_V} {hp : ex_H} (ha : ex_leL none none as as' = true) (hh : ex_leH hp p = true) : em_X l D τ sa A mi as hp (fun w hp' => w = v ∧ hp' = ex_fix hp p') dd := by
  obtain ⟨y, bytes, nl, ret, i1, i2, i3⟩ := h
  refine ⟨y, bytes, nl, ret, i1, i2, fun ν ro avs ws hs => ?_⟩
  refine em_weak2 (i3 ν ro avs ws (ex_leL_st (er_Z.none (fun _ _ => rfl)) _ _ _ ha hs)) ?_ ?_
  · rintro a st ⟨k1, k2, k3⟩
    exact ⟨k1, k2, k3.le (fun _ _ => rfl) hh⟩
  · rintro a st o t ⟨k1, k2, k3⟩ ⟨⟨ws', rv, j1, j2, j3, j4⟩, j5⟩
    exact ⟨⟨v, ex_fix hp p', ws', rv, j1, @decide_eq_true _ (Classical.propDecidable _) ⟨rfl, rfl⟩, j2, j3.fix k3.2.2.2.1 j3.2.2.2.1, j4⟩, j5⟩
theorem em_X.weak {mi : Nat} {as : List ex_V} {hp : ex_H} {Post Post' : Option ex_V → ex_H → Prop} {dd : Nat} (h : em_X l D τ sa A mi as hp Post dd) (hw : ∀ v hp', Post v hp' → Post' v hp') : em_X l D τ sa A mi as hp Post' dd := by
  obtain ⟨y, bytes, nl, ret, i1, i2, i3⟩ := h
  refine ⟨y, bytes, nl, ret, i1, i2, fun ν ro avs ws hs => em_weak (i3 ν ro avs ws hs) ?_⟩
  rintro a st o t ⟨⟨ov, hp', ws', rv, j1, j2, j3, j4, j5⟩, j6⟩
  exact ⟨⟨ov, hp', ws', rv, j1, @decide_eq_true _ (Classical.propDecidable _) (hw _ _ (@of_decide_eq_true _ (Classical.propDecidable _) j2)), j3, j4, j5⟩, j6⟩
/-- and back: an end under a picture -/
theorem em_X.toE {mi : Nat} {as : List ex_V} {p p' : ex_H} {v : Option ex_V} {dd : Nat} (h : em_X l D τ sa A mi as p (fun w hp' => ex_K v p' w hp' = true) dd) : em_E l D τ sa A em_inf mi (as, p, v, p', dd) := by
  obtain ⟨y, bytes, nl, ret, i1, i2, i3⟩ := h
  refine ⟨y, bytes, nl, ret, i1, i2, fun ν ro avs ws hs => em_weak (i3 ν ro avs ws hs) ?_⟩
  rintro a st o t ⟨⟨ov, hp', ws', rv, j1, j2, j3, j4, j5⟩, j6⟩
  obtain ⟨m1, m2⟩ := ex_K_ok (@of_decide_eq_true _ (Classical.propDecidable _) j2) (ν' := ν) (ro' := ro) (fun _ _ => rfl) j3 j4
  exact ⟨⟨ws', rv, j1, m1, m2, j5⟩, j6⟩
end EY
