/-! Known calls: contracts of methods between patterns; places joined in a frame. -/
/-- arguments, the heap ahead, the answer, the heap behind, the depth -/
abbrev ex_E : Type := List ex_V × ex_H × Option ex_V × ex_H × Nat
noncomputable def ex_memE (as : List ex_V) (hp : ex_H) (els : Option (Option ex_V × ex_H × Nat)) (es : List ex_E) : Option (Option ex_V × ex_H × Nat) :=
  List.rec (motive := fun _ => Option (Option ex_V × ex_H × Nat)) els (fun e _ ih => match e with | (as', p, v, p', dd) => bif ex_leL none none as as' && ex_leH hp p then (match ex_fix hp p' with | (n, cs) => some (v, (n, cs), dd)) else ih) es
noncomputable def ex_memL (L : List (Nat × List ex_E)) : ex_Mem := fun mi as hp =>
  List.rec (motive := fun _ => Option (Option ex_V × ex_H × Nat)) none (fun x _ ih => bif Nat.beq mi x.1 then ex_memE as hp ih x.2 else ih) L
theorem ex_memE_ok {as : List ex_V} {hp : ex_H} {els : Option (Option ex_V × ex_H × Nat)} {r : Option ex_V × ex_H × Nat} : ∀ (es : List ex_E), ex_memE as hp els es = some r → els = some r ∨ ∃ e ∈ es, ex_leL none none as e.1 = true ∧ ex_leH hp e.2.1 = true ∧ r = (e.2.2.1, ex_fix hp e.2.2.2.1, e.2.2.2.2) := by
  intro es
  induction es with
  | nil => intro h; exact Or.inl h
  | cons e es ih =>
    intro h
    obtain ⟨as', p, v, p', dd⟩ := e
    replace h : (bif ex_leL none none as as' && ex_leH hp p then (match ex_fix hp p' with | (n, cs) => some (v, (n, cs), dd)) else ex_memE as hp els es) = some r := h
    cases hb : ex_leL none none as as' && ex_leH hp p with
    | true =>
      rw [hb] at h
      rw [Bool.and_eq_true] at hb
      refine Or.inr ⟨_, List.mem_cons_self, hb.1, hb.2, ?_⟩
      exact (Option.some.inj h).symm
    | false =>
      rw [hb] at h
      rcases ih h with g | ⟨e, g1, g2⟩
      · exact Or.inl g
      · exact Or.inr ⟨e, List.mem_cons_of_mem _ g1, g2⟩
theorem ex_memL_ok {mi : Nat} {as : List ex_V} {hp : ex_H} {r : Option ex_V × ex_H × Nat} : ∀ (L : List (Nat × List ex_E)), ex_memL L mi as hp = some r → ∃ x ∈ L, x.1 = mi ∧ ∃ e ∈ x.2, ex_leL none none as e.1 = true ∧ ex_leH hp e.2.1 = true ∧ r = (e.2.2.1, ex_fix hp e.2.2.2.1, e.2.2.2.2) := by
  intro L
  induction L with
  | nil => intro h; cases h
  | cons x L ih =>
    intro h
    replace h : (bif Nat.beq mi x.1 then ex_memE as hp (ex_memL L mi as hp) x.2 else ex_memL L mi as hp) = some r := h
    have tail : ex_memL L mi as hp = some r → ∃ y ∈ x :: L, y.1 = mi ∧ ∃ e ∈ y.2, ex_leL none none as e.1 = true ∧ ex_leH hp e.2.1 = true ∧ r = (e.2.2.1, ex_fix hp e.2.2.2.1, e.2.2.2.2) := fun g => by
      obtain ⟨y, g1, g2⟩ := ih g
      exact ⟨y, List.mem_cons_of_mem _ g1, g2⟩
    cases hb : Nat.beq mi x.1 with
    | true =>
      rw [hb] at h
      rcases ex_memE_ok _ h with g | g
      · exact tail g
      · exact ⟨x, List.mem_cons_self, (Nat.eq_of_beq_eq_true hb).symm, g⟩
    | false =>
      rw [hb] at h
      exact tail h
theorem em_weak2 {l : Launch} {y : MethodName} {ws : List Cond} {rm : Room} {Pc Pc' : Array Value → State → Prop} {Qc Qc' : Array Value → State → Outcome → State → Prop} {mc ms : Nat} {free : Addr → Prop} (h : Met l y ws rm Pc Qc mc ms free) (hp : ∀ a st, Pc' a st → Pc a st) (hq : ∀ a st o t, Pc' a st → Qc a st o t → Qc' a st o t) : Met l y ws rm Pc' Qc' mc ms free := by
  intro p e ha hc hk s m args below hf happ hP hK
  obtain ⟨n, o, h1, h2, h3, h4⟩ := h p e ha hc hk s m args below hf happ (hp _ _ hP) hK
  exact ⟨n, o, h1, h2, h3, hq _ _ _ _ hP h4.1, h4.2⟩
section EL
variable (l : Launch) (D : va_G) (τ : Nat → ClassId) (sa : List Nat) (A : Nat → Prop) (inf : List (MethodName × ByteArray × Nat × Option FieldType))
/-- a contract -/
def em_E (mi : Nat) (e : ex_E) : Prop := ∃ (y : MethodName) (bytes : ByteArray) (nl : Nat) (ret : Option FieldType), inf[mi]? = some (y, bytes, nl, ret) ∧ nl ≤ 45 ∧
  ∀ (ν : Nat → Int32) (ro : List ex_C) (avs : List Value) (ws : va_W), er_St (er_r ν sa ws) e.1 avs → Met l y (em_ws y bytes nl ret) (em_rm e.2.2.2.2 0 0) (em_P ν D τ sa ro A avs e.2.1 ws) (em_Q1 ν D τ sa ro A ws e.2.2.1 e.2.2.2.1) 0 0 A
def em_L (L : List (Nat × List ex_E)) : Prop := ∀ x ∈ L, ∀ e ∈ x.2, em_E l D τ sa A inf x.1 e
theorem em_memL {L : List (Nat × List ex_E)} (h : em_L l D τ sa A inf L) (ν : Nat → Int32) (ro : List ex_C) : em_mem l ν D τ sa ro A inf (ex_memL L) := by
  intro mi as hp v hp' dd hm
  obtain ⟨x, g1, rfl, e, g2, g3, g4, g5⟩ := ex_memL_ok L hm
  obtain ⟨as', p, v', p', dd'⟩ := e
  cases g5
  obtain ⟨y, bytes, nl, ret, i1, i2, i3⟩ := h x g1 _ g2
  refine ⟨y, bytes, nl, ret, i1, i2, fun avs ws ha => ?_⟩
  refine em_weak2 (i3 ν ro avs ws (ex_leL_st (er_Z.none (fun _ _ => rfl)) _ _ _ g3 ha)) ?_ ?_
  · rintro a st ⟨k1, k2, k3⟩
    exact ⟨k1, k2, k3.le (fun _ _ => rfl) g4⟩
  · rintro a st o t ⟨k1, k2, k3⟩ ⟨⟨ws', rv, j1, j2, j3, j4⟩, j5⟩
    exact ⟨⟨ws', rv, j1, j2, j3.fix k3.2.2.2.1 j3.2.2.2.1, j4⟩, j5⟩
end EL
/-- an end under an end -/
noncomputable def ex_K (v : Option ex_V) (p : ex_H) : Option ex_V → ex_H → Bool := fun ov hp => (match ov, v with | none, none => true | some a, some b => ex_leV none none a b | _, _ => false) && ex_leH hp p
theorem ex_K_ok {v : Option ex_V} {p : ex_H} {ov : Option ex_V} {hp : ex_H} (h : ex_K v p ov hp = true) {ν ν' : Nat → Int32} (hν : ∀ k, 1 ≤ k → ν' k = ν k) {D : va_G} {τ : Nat → ClassId} {sa : List Nat} {ro ro' : List ex_C} {A : Nat → Prop} {ws : va_W} {H : Heap} {rv : Option Value} (hr : em_r (er_r ν sa ws) ov rv) (hW : er_W ν D τ sa ro A hp ws H) : em_r (er_r ν' sa ws) v rv ∧ er_W ν' D τ sa ro' A p ws H := by
  unfold ex_K at h
  rw [Bool.and_eq_true] at h
  refine ⟨?_, hW.le hν h.2⟩
  match ov, v, rv, h.1, hr with
  | none, none, none, _, _ => exact trivial
  | some a, some b, some x, h1, hr => exact ex_leV_ok (er_Z.none hν) h1 hr
  | none, some b, _, h1, _ => exact absurd h1 Bool.false_ne_true
  | some a, none, _, h1, _ => exact absurd h1 Bool.false_ne_true
  | none, none, some _, _, hr => exact hr.elim
  | some a, some b, none, _, hr => exact hr.elim
/-- a place: locals, stack, heap, cells and slots made -/
abbrev ex_S : Type := Nat × List (Option ex_V) × List ex_V × ex_H × Nat × Nat
noncomputable def ex_leS (zs zt : Option Int) (pc : Nat) (ls : List (Option ex_V)) (st : List ex_V) (hp : ex_H) (ce sl : Nat) (S : ex_S) : Bool := match S with
  | (pc', ls', st', hp', ce', sl') => Nat.beq pc pc' && (ex_leO zs zt ls ls' && (ex_leL zs zt st st' && (Nat.beq ce ce' && (Nat.beq sl sl' && ex_leH hp hp'))))
noncomputable def ex_cutM (Ss : List ex_S) : ex_Cut := fun pc ls st hp ce sl =>
  List.rec (motive := fun _ => Bool) false (fun S _ ih => bif ex_leS none none pc ls st hp ce sl S then true else ih) Ss
noncomputable def ex_cutL (Ss : List ex_S) : ex_Cut := fun pc ls st hp ce sl =>
  List.rec (motive := fun _ => Bool) false (fun S Ss _ => bif Nat.beq pc S.1 then ex_cutM (S :: Ss) pc ls st hp ce sl else false) Ss
theorem ex_cutM_ok {pc : Nat} {ls : List (Option ex_V)} {st : List ex_V} {hp : ex_H} {ce sl : Nat} : ∀ (Ss : List ex_S), ex_cutM Ss pc ls st hp ce sl = true → ∃ S ∈ Ss, ex_leS none none pc ls st hp ce sl S = true := by
  intro Ss
  induction Ss with
  | nil => intro h; exact absurd h Bool.false_ne_true
  | cons S Ss ih =>
    intro h
    replace h : (bif ex_leS none none pc ls st hp ce sl S then true else ex_cutM Ss pc ls st hp ce sl) = true := h
    cases hb : ex_leS none none pc ls st hp ce sl S with
    | true => exact ⟨S, List.mem_cons_self, hb⟩
    | false =>
      rw [hb] at h
      obtain ⟨S', g1, g2⟩ := ih h
      exact ⟨S', List.mem_cons_of_mem _ g1, g2⟩
theorem ex_cutL_ok {pc : Nat} {ls : List (Option ex_V)} {st : List ex_V} {hp : ex_H} {ce sl : Nat} : ∀ (Ss : List ex_S), ex_cutL Ss pc ls st hp ce sl = true → ∃ S ∈ Ss, ex_leS none none pc ls st hp ce sl S = true := by
  have key : ∀ (Ss : List ex_S), ex_cutM Ss pc ls st hp ce sl = true → ∃ S ∈ Ss, ex_leS none none pc ls st hp ce sl S = true := ex_cutM_ok
  intro Ss h
  cases Ss with
  | nil => exact absurd h Bool.false_ne_true
  | cons S Ss =>
    replace h : (bif Nat.beq pc S.1 then ex_cutM (S :: Ss) pc ls st hp ce sl else false) = true := h
    cases hb : Nat.beq pc S.1 with
    | true => rw [hb] at h; exact key _ h
    | false => rw [hb] at h; exact absurd h Bool.false_ne_true
theorem ew_G.le {p : Program} {l : Launch} {e : Env} {R : Room} {s : State} {m : MethodId} {args : Array Value} {below : List Frame} {meth : Method} {c : Code} {Q : State → Prop} {ν ν' : Nat → Int32} {D : va_G} {τ : Nat → ClassId} {sa : List Nat} {ro ro' : List ex_C} {A : Nat → Prop} {ws0 : va_W} {nL pc : Nat} {ls : List (Option ex_V)} {st : List ex_V} {hp : ex_H} {ce sl : Nat} {zs zt : Option Int} {S : ex_S}
    (h : ew_G p l e R s m args below meth c Q ν' D τ sa ro' A ws0 nL S.1 S.2.1 S.2.2.1 S.2.2.2.1 S.2.2.2.2.1 S.2.2.2.2.2) (hl : ex_leS zs zt pc ls st hp ce sl S = true) (hs : ∀ z, zs = some z → (ν 0).toInt = z) (ht : ∀ z, zt = some z → (ν' 0).toInt = z) (hν : ∀ k, 1 ≤ k → ν' k = ν k) : ew_G p l e R s m args below meth c Q ν D τ sa ro A ws0 nL pc ls st hp ce sl := by
  obtain ⟨pc', ls', st', hp', ce', sl'⟩ := S
  unfold ex_leS at hl
  simp only [Bool.and_eq_true] at hl
  obtain ⟨h1, h2, h3, h4, h5, h6⟩ := hl
  obtain rfl := Nat.eq_of_beq_eq_true h1
  obtain rfl := Nat.eq_of_beq_eq_true h4
  obtain rfl := Nat.eq_of_beq_eq_true h5
  intro H locs lsA stA ws hL hT hP hS hw
  have hz : er_Z zs zt (er_r ν sa ws) (er_r ν' sa ws) := ⟨rfl, hs, ht, hν⟩
  exact h H locs lsA stA ws (ex_leO_L hz h2 hL) (ex_leL_st hz _ _ _ h3 hT) (hP.le hν h6) hS hw
section EM
variable {l : Launch} {D : va_G} {τ : Nat → ClassId} {sa : List Nat} {A : Nat → Prop} {inf : List (MethodName × ByteArray × Nat × Option FieldType)} {cls : List (List ex_V)} {vt : List (List (Nat × Nat))} {ms : List (List ex_N)}
/-- from a place on, whatever the frame -/
def em_G (l : Launch) (D : va_G) (τ : Nat → ClassId) (sa : List Nat) (A : Nat → Prop) (own mname : String) (bytes : ByteArray) (nL d : Nat) (lim : Nat × Nat) (ret : Option FieldType) (K : Option ex_V → ex_H → Bool) (S : ex_S) : Prop :=
  ∀ (ν : Nat → Int32) (ro : List ex_C) (p : Program) (e : Env) (R : Room) (s : State) (m : MethodId) (args : Array Value) (below : List Frame) (meth : Method) (c : Code) (Q : State → Prop) (ws0 : va_W), eb_B p s m args c bytes nL own D τ sa ro A → meth.name = mname → d ≤ R.frames → 64 * d ≤ R.locals → lim.1 ≤ R.cells ∧ lim.2 ≤ R.slots → em_ret p l e R s m args below meth c Q ν D τ sa ro A ws0 bytes lim ret K →
    ew_G p l e R s m args below meth c Q ν D τ sa ro A ws0 nL S.1 S.2.1 S.2.2.1 S.2.2.2.1 S.2.2.2.2.1 S.2.2.2.2.2
theorem er_link (glob : ek_glob) (hmn : em_mna) (hOK : em_OK inf cls vt ms) {L : List (Nat × List ex_E)} (hL : em_L l D τ sa A inf L) {own mname : String} {bytes : ByteArray} {nL d n : Nat} {lim : Nat × Nat} {ret : Option FieldType} {K : Option ex_V → ex_H → Bool} {tb : List (List ex_J)} (hT : ∀ ch ∈ tb, ∀ x ∈ ch, ek_J inf cls vt own mname bytes x) {S : ex_S} {Ss : List ex_S}
    (h : ex_run cls vt ms (ex_memL L) n d (ex_cutL Ss) tb lim ret [] S.1 S.2.1 S.2.2.1 S.2.2.2.1 S.2.2.2.2.1 S.2.2.2.2.2 K = true) (hS : ∀ S' ∈ Ss, em_G l D τ sa A own mname bytes nL d lim ret K S') : em_G l D τ sa A own mname bytes nL d lim ret K S := by
  intro ν ro p e R s m args below meth c Q ws0 B hm hf hlo hlim hret
  refine er_frame glob hmn hOK (em_memL l D τ sa A inf hL ν ro) n d (ex_cutL Ss) tb lim ret [] _ _ _ _ _ _ K h p e R s m args below meth c Q ws0 bytes nL own mname B hm hT (fun _ hx => absurd hx List.not_mem_nil) hf hlo hlim hret ?_
  intro pc ls st hp ce sl hc
  obtain ⟨S', g1, g2⟩ := ex_cutL_ok Ss hc
  exact (hS S' g1 ν ro p e R s m args below meth c Q ws0 B hm hf hlo hlim hret).le g2 (fun _ h => (nomatch h)) (fun _ h => (nomatch h)) (fun _ _ => rfl)
/-- a chain of places, each leading to later ones or to the end -/
noncomputable def ex_chain (cls : List (List ex_V)) (vt : List (List (Nat × Nat))) (ms : List (List ex_N)) (mem : ex_Mem) (n d : Nat) (tb : List (List ex_J)) (lim : Nat × Nat) (ret : Option FieldType) (K : Option ex_V → ex_H → Bool) (Ss : List ex_S) : Bool :=
  List.rec (motive := fun _ => Bool) true (fun S Ss ih => ex_run cls vt ms mem n d (ex_cutL Ss) tb lim ret [] S.1 S.2.1 S.2.2.1 S.2.2.2.1 S.2.2.2.2.1 S.2.2.2.2.2 K && ih) Ss
theorem er_chain (glob : ek_glob) (hmn : em_mna) (hOK : em_OK inf cls vt ms) {L : List (Nat × List ex_E)} (hL : em_L l D τ sa A inf L) {own mname : String} {bytes : ByteArray} {nL d n : Nat} {lim : Nat × Nat} {ret : Option FieldType} {K : Option ex_V → ex_H → Bool} {tb : List (List ex_J)} (hT : ∀ ch ∈ tb, ∀ x ∈ ch, ek_J inf cls vt own mname bytes x) :
    ∀ {Ss : List ex_S}, ex_chain cls vt ms (ex_memL L) n d tb lim ret K Ss = true → ∀ S' ∈ Ss, em_G l D τ sa A own mname bytes nL d lim ret K S' := by
  intro Ss
  induction Ss with
  | nil => intro _ S' hS; cases hS
  | cons S Ss ih =>
    intro h
    replace h : (ex_run cls vt ms (ex_memL L) n d (ex_cutL Ss) tb lim ret [] S.1 S.2.1 S.2.2.1 S.2.2.2.1 S.2.2.2.2.1 S.2.2.2.2.2 K && ex_chain cls vt ms (ex_memL L) n d tb lim ret K Ss) = true := h
    rw [Bool.and_eq_true] at h
    have rest := ih h.2
    intro S' hS
    rcases List.mem_cons.mp hS with rfl | hS
    · exact er_link glob hmn hOK hL hT h.1 rest
    · exact rest S' hS
/-- a method's entry -/
noncomputable def ex_entry (cls : List (List ex_V)) (vt : List (List (Nat × Nat))) (ms : List (List ex_N)) (mem : ex_Mem) (n mi : Nat) (e : ex_E) (Ss : List ex_S) : Bool := match e with
  | (as, p, v, p', dd) => ex_get2 ms mi (fun m => match m with
    | (tb, nl, ret, mc, sc) => Nat.beq mc 0 && (Nat.beq sc 0 && (ex_locs as nl (fun q => ex_run cls vt ms mem n dd (ex_cutL Ss) tb (0, 0) ret [] 0 q [] p 0 0 (ex_K v p')) && ex_chain cls vt ms mem n dd tb (0, 0) ret (ex_K v p') Ss)))
/-- a method's contract out of what holds at its entry -/
theorem er_metG {ν : Nat → Int32} {ro : List ex_C} {y : MethodName} {bytes : ByteArray} {nl d mc sc : Nat} {ret : Option FieldType} (hy : plainFor y = true) {K : Option ex_V → ex_H → Bool} {q : List (Option ex_V)} (h2 : q.length = nl) {hp : ex_H} (h : em_G l D τ sa A y.cls y.name bytes nl d (mc, sc) ret K (0, q, [], hp, 0, 0)) (avs : List Value) (ws : va_W) (f1 : (lg_sl avs).length ≤ nl) (f2 : ∀ (i off : Nat) (a : ex_V), q[i]? = some (some a) → ∃ v, er_V (er_r ν sa ws) a v ∧ (i + off, v) ∈ lv_args off avs) :
    Met l y (em_ws y bytes nl ret) (em_rm d mc sc) (em_P ν D τ sa ro A avs hp ws) (em_Q ν D τ sa ro A ws K) mc sc A := by
  refine va_MetF (cc := bytes) (maxL := nl) (ret := ret) hy rfl ?_
  intro p e s m args below meth c s₁ B hml hv
  obtain ⟨rfl, hE, hW⟩ := hv
  have hts0 : ∀ w ∈ em_ws y bytes nl ret, w.before avs.toArray s = true := atoms_spec (ws := em_ws y bytes nl ret) B.pre
  have hown : s.vm.findClass y.cls = some m.cls := findClass_of_methodNamed B.named
  rw [lg_entry_eq]
  refine h ν ro p e (em_rm d mc sc) s m avs.toArray below meth c _ ws ⟨B.exec, B.bytes, hml, hown, fun w hw => hts0 w (List.mem_cons_of_mem _ hw), hE⟩ (name_of_methodNamed B.named B.method).1 (Nat.le_refl _) (Nat.le_refl _) ⟨Nat.le_refl _, Nat.le_refl _⟩ ?_ s.heap [] _ [] ws ⟨h2, _, lv_entry avs f1, fun i a hi => ?_⟩ trivial hW va_S.rf ⟨[], (List.append_nil _).symm⟩
  · intro ov hp' ws' H locs ls pc rv hK hrv hW' hS hpre hcase
    have hq : ∀ t : State, t.heap = H → s.WarmedH t.vm → em_Q ν D τ sa ro A ws K avs.toArray s (.returned rv) t := fun t ht _ => ⟨⟨ov, hp', ws', rv, rfl, hK, hrv, by rw [ht]; exact hW', hpre⟩, hS.F ht⟩
    rcases hcase with ⟨rfl, hr, hd⟩ | ⟨x, rfl, hd, hr⟩ | ⟨x, rfl, hd, hr⟩
    · exact W.vret B.exec B.bytes (by rw [B.returns]; exact hr) hq hS.2.2 hd (hlocks := B.notSynchronized)
    · rcases hr with hr | ⟨hr, hx⟩
      · exact W.iret B.exec B.bytes (by rw [B.returns]; exact hr) hq hS.2.2 hd (hlocks := B.notSynchronized)
      · exact W.zret (ty := .boolean) B.exec B.bytes (by rw [B.returns]; exact hr) (by rcases hx with rfl | rfl <;> decide) hq hS.2.2 hd (hlocks := B.notSynchronized)
    · exact W.lret B.exec B.bytes (by rw [B.returns]; exact hr) hq hS.2.2 hd (hlocks := B.notSynchronized)
  · obtain ⟨v, g1, g2⟩ := f2 i 0 a hi
    exact ⟨v, g1, g2⟩
theorem em_of (glob : ek_glob) (hmn : em_mna) (hOK : em_OK inf cls vt ms) {L : List (Nat × List ex_E)} (hL : em_L l D τ sa A inf L) {n mi : Nat} {e : ex_E} {Ss : List ex_S} (h : ex_entry cls vt ms (ex_memL L) n mi e Ss = true) : em_E l D τ sa A inf mi e := by
  obtain ⟨as, p, v, p', dd⟩ := e
  obtain ⟨⟨tb, nl, ret, mc, sc⟩, g1, g2⟩ := ex_get2_ok h
  simp only [Bool.and_eq_true] at g2
  obtain ⟨g2, g3, g4, g5⟩ := g2
  obtain rfl := Nat.eq_of_beq_eq_true g2
  obtain rfl := Nat.eq_of_beq_eq_true g3
  obtain ⟨y, bytes, i1, i2, i3, i4⟩ := hOK mi tb nl ret 0 0 g1
  obtain ⟨q, k1, k2, k3⟩ := ex_locs_ok _ _ _ g4
  refine ⟨y, bytes, nl, ret, i1, i3, fun ν ro avs ws ha => ?_⟩
  obtain ⟨f1, f2⟩ := k3 ha
  have hG := er_link (S := (0, q, [], p, 0, 0)) (nL := nl) glob hmn hOK hL i4 k1 (er_chain glob hmn hOK hL i4 g5)
  refine em_weak (er_metG (ν := ν) (ro := ro) i2 k2 hG avs ws f1 f2) ?_
  rintro a st o t ⟨⟨ov, hp', ws', rv, j1, j2, j3, j4, j5⟩, j6⟩
  obtain ⟨m1, m2⟩ := ex_K_ok j2 (ν' := ν) (ro' := ro) (fun _ _ => rfl) j3 j4
  exact ⟨⟨ws', rv, j1, m1, m2, j5⟩, j6⟩
end EM
