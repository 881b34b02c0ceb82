/-! THE CLAIM OUT OF ONE WALK OF THE LAW'S BODY. Your part is whole_start (and what it stands on); all else here is the same for every law, but numbers. -/
def R_law : String := "WarmNightLaw"
def lw_P (b : Addr) (xs : List Int32) (args : Array Value) (s : State) : Prop := args = #[.ref b] ∧ s.IntsAt b xs ∧ xs.length ≤ 3072 ∧ (Jvm.Cond.and given_1 narrow_1).before args s = true
def lw_Q (_ : Array Value) (s : State) (o : Outcome) (t : State) : Prop := o = .returned (some (.int 1)) ∧ Framed s o t [] 600000 7302250
def lw_Z (below : List Frame) (a : Array Value) (s : State) : State → Prop := fun t => ∃ o, t.status = .running ∧ Ended t below o ∧ lw_Q a s o t
/-- the law's own end, with 1 on the stack, nothing written that was there before, its room as the claim has it -/
theorem lw_ret {p : Program} {l : Launch} {e : Env} {s : State} {m : MethodId} {below : List Frame} {meth : Method} {c : Code} {b : Nat} (hx : p.tables.exec = Jvm.exec) (hb : c.code = code) (hr : meth.sig.returnType = ret) (hlocks : meth.locks = false) {pc : Nat} {H : Heap} {ls : Array Slot} (hdg : decode code pc = .ok (.ireturn, 1)) : W p l e room_1 s m #[Value.ref b] below meth c H [] 600000 7302250 (lw_Z below #[Value.ref b] s) (F0 m pc ls [.int 1]) := by
  intro T hT X
  obtain ⟨fs, hret, hrun, hended, hW, hframe⟩ := X.leave (v := some (.int 1)) (hlocks := hlocks) (fun h => by rw [hr] at h; cases h)
  have hmeth' : T.vm.method? m = some meth := X.method'
  refine ⟨T.setFrames fs, ?_, .returned (some (.int 1)), hrun, hended, rfl, ⟨_, rfl⟩, hW, hframe⟩
  jvm_step X.here [X.here.top, hx, hb, hdg, hmeth', hr, ret, narrow_b1]
  (try refine ⟨rfl, ?_⟩); (try refine ⟨rfl, ?_⟩)
  first | (intro acts; rw [hret _ acts rfl rfl rfl]) | rw [hret _ _ rfl rfl rfl]
  exact Steps.refl _
/-- what holds at the law's entry: the machine, the code, the tables' words (any of lw_tbl by 'hts w (by decide +kernel)'), the script of L ints xs at the cell b, what the Statement gives of the start (any of its parts by flat_of_before) -/
def lw_At (p : Program) (s : State) (m : MethodId) (meth : Method) (c : Code) (b L : Nat) (xs : Nat → Int32) : Prop :=
  p.tables.exec = Jvm.exec ∧ c.code = code ∧ meth.sig.returnType = ret ∧ c.maxLocals = 4 ∧ s.vm.findClass R_law = some m.cls ∧ (∀ w ∈ lw_tbl, w.before #[Value.ref b] s = true) ∧ va_X b L xs s s.heap ∧ b < s.heap.size ∧ meth.locks = false ∧ (Jvm.Cond.and given_1 narrow_1).before #[Value.ref b] s = true
/-- true is answered -/
def el_K (ov : Option ex_V) (_ : ex_H) : Bool := match ov with
  | some (.inl z) => ex_eq z 1
  | _ => false
def el_lim : Nat × Nat := (nat_lit 362, nat_lit 6690)
theorem el_ret {p : Program} {l : Launch} {e : Env} {s : State} {m : MethodId} {below : List Frame} {meth : Method} {c : Code} {b : Nat} (hx : p.tables.exec = Jvm.exec) (hb : c.code = code) (hr : meth.sig.returnType = ret) (hlocks : meth.locks = false) (ν : Nat → Int32) (D : va_G) (τ : Nat → ClassId) (sa : List Nat) (ro : List ex_C) (ws0 : va_W) :
    em_ret p l e room_1 s m #[Value.ref b] below meth c (lw_Z below #[Value.ref b] s) ν D τ sa ro (fun q => s.heap.size ≤ q) ws0 code el_lim (some .boolean) el_K := by
  intro ov hp ws H locs ls pc rv hK hrv hW hS hpre hcase
  match ov, hK, hrv with
  | some (.inl z), hK, hrv =>
    obtain rfl : z = 1 := (ex_eq_iff _ _).mp hK
    match rv, hrv with
    | some v, hrv =>
      obtain ⟨x, rfl, hx1⟩ := hrv
      have h1 : x = 1 := Int32.toInt_inj.mp (hx1.trans (by decide))
      subst h1
      have hd : decode code pc = .ok (.ireturn, 1) := by
        rcases hcase with ⟨h, -, -⟩ | ⟨y, -, h, -⟩ | ⟨y, h, -, -⟩
        · cases h
        · exact h
        · cases h
      exact W.widen (k := 600000) (n := 7302250) (by decide) (by decide) (va_forget (fun q hq => hS.2.2 q hq) (lw_ret hx hb hr hlocks hd))
    | none, hrv => exact hrv.elim
  | none, hK, _ => exact absurd hK Bool.false_ne_true
  | some (.inr _), hK, _ => exact absurd hK Bool.false_ne_true
/-- from a place of the law's frame on -/
def el_W (p : Program) (l : Launch) (e : Env) (s : State) (m : MethodId) (below : List Frame) (meth : Method) (c : Code) (b : Nat) (D : va_G) (τ : Nat → ClassId) (sa : List Nat) (ro : List ex_C) (S : ex_S) : Prop :=
  ew_G p l e room_1 s m #[Value.ref b] below meth c (lw_Z below #[Value.ref b] s) (fun _ => 0) D τ sa ro (fun q => s.heap.size ≤ q) [] 4 S.1 S.2.1 S.2.2.1 S.2.2.2.1 S.2.2.2.2.1 S.2.2.2.2.2
/-- what the law's frame stands on -/
def el_B (p : Program) (s : State) (m : MethodId) (meth : Method) (c : Code) (b : Nat) (D : va_G) (τ : Nat → ClassId) (sa : List Nat) (ro : List ex_C) : Prop :=
  eb_B p s m #[Value.ref b] c code 4 "WarmNightLaw" D τ sa ro (fun q => s.heap.size ≤ q) ∧ meth.name = "law" ∧ meth.sig.returnType = ret ∧ meth.locks = false
noncomputable def el_run (L : List (Nat × List ex_E)) (Ss : List ex_S) (S : ex_S) : Bool := match S with
  | (pc, ls, st, hp, ce, sl) => ex_run et_cls et_vt eu_ms (ex_memL L) (nat_lit 1000000) (nat_lit 30) (ex_cutL Ss) eu_law el_lim (some .boolean) [] pc ls st hp ce sl el_K
section EQ
variable {p : Program} {l : Launch} {e : Env} {s : State} {m : MethodId} {below : List Frame} {meth : Method} {c : Code} {b : Nat} {D : va_G} {τ : Nat → ClassId} {sa : List Nat} {ro : List ex_C}
theorem el_run_ok (hmn : em_mna) {L : List (Nat × List ex_E)} (hL : em_L l D τ sa (fun q => s.heap.size ≤ q) em_inf L) (B : el_B p s m meth c b D τ sa ro) {Ss : List ex_S} {S : ex_S} (h : el_run L Ss S = true) (hS : ∀ S' ∈ Ss, el_W p l e s m below meth c b D τ sa ro S') : el_W p l e s m below meth c b D τ sa ro S := by
  obtain ⟨pc, ls, st, hp, ce, sl⟩ := S
  obtain ⟨B0, hn, hr, hlk⟩ := B
  refine er_frame eo_glob hmn eo_ok (em_memL l D τ sa (fun q => s.heap.size ≤ q) em_inf hL (fun _ => 0) ro) (nat_lit 1000000) (nat_lit 30) (ex_cutL Ss) eu_law el_lim (some .boolean) [] _ _ _ _ _ _ el_K h p e room_1 s m #[Value.ref b] below meth c _ [] code 4 "WarmNightLaw" "law" B0 hn eo_law (fun _ hx => absurd hx List.not_mem_nil) (by decide) (by decide) (by decide) (el_ret B0.1 B0.2.1 hr hlk _ _ _ _ _ _) ?_
  intro pc ls st hp ce sl hc
  obtain ⟨S', g1, g2⟩ := ex_cutL_ok Ss hc
  exact (hS S' g1).le g2 (fun _ h => (nomatch h)) (fun _ h => (nomatch h)) (fun _ _ => rfl)
/-- with the first five cells known -/
theorem el_five {ro' : List ex_C} {pc : Nat} {ls : List (Option ex_V)} {st : List ex_V} {hp q : ex_H} {ce sl : Nat} (h5 : er_five ro' hp) (hq5 : er_five ro' q) (h : el_W p l e s m below meth c b D τ sa ro' (pc, ls, st, ex_fix hp q, ce, sl)) : el_W p l e s m below meth c b D τ sa ro (pc, ls, st, q, ce, sl) := by
  intro H locs lsA stA ws hL hT hP hS hw
  exact h H locs lsA stA ws hL hT (hP.fix h5 hq5) hS hw
/-- a known value for a bounded one at the top of the stack -/
theorem el_top {pc : Nat} {ls : List (Option ex_V)} {hp : ex_H} {ce sl : Nat} (h : ∀ x : Int32, ∃ v : ex_V, (∀ ρ : ex_R, er_V ρ v (.int x)) ∧ el_W p l e s m below meth c b D τ sa ro (pc, ls, [v], hp, ce, sl)) : el_W p l e s m below meth c b D τ sa ro (pc, ls, [ex_top], hp, ce, sl) := by
  intro H locs lsA stA ws hL hT hP hS hw
  obtain ⟨v, vs, rfl, ⟨x, rfl, -⟩, hU⟩ := hT.cons
  obtain ⟨v, hv, g⟩ := h x
  exact g H locs lsA _ ws hL ⟨hv _, hU⟩ hP hS hw
end EQ
