/-! Calls: what a call asks of the words. -/
theorem eg_good {ws : List Cond} (h : ∀ w ∈ ws, w ∈ eg_T) : GoodIn eg_T ws := fun w hw => ⟨h w hw, good_of_word (List.mem_filter.mp (h w hw)).2⟩
theorem eg_mem {w : Cond} (i : Nat) (h : lw_tbl[i]? = some w) (hg : goodWord w = true) : w ∈ eg_T := List.mem_filter.mpr ⟨List.mem_of_getElem? h, hg⟩
abbrev em_ws (y : MethodName) (bytes : ByteArray) (maxL : Nat) (ret : Option FieldType) : List Cond := Jvm.Cond.code y bytes maxL ret :: eg_T
theorem em_ws_good {y : MethodName} {bytes : ByteArray} {maxL : Nat} {ret : Option FieldType} (h : Jvm.Cond.code y bytes maxL ret ∈ eg_T) : GoodIn eg_T (em_ws y bytes maxL ret) := eg_good (fun w hw => by
  rcases List.mem_cons.mp hw with e | e
  · rw [e]; exact h
  · exact e)
/-- a static method, called from a class's own entry -/
def ec_callS (own : String) (idx : Nat) (y : MethodName) (bytes : ByteArray) (maxL : Nat) (ret : Option FieldType) (na : Nat) : Prop :=
  ∀ (p : Program) (l : Launch) (e : Env) (R : Room) (s : State) (m : MethodId) (args : Array Value) (below : List Frame) (meth : Method) (c : Code) (H : Heap) (locs : List Loc) (cells slots mc ms : Nat) (cc : ByteArray) (nL : Nat) (rm : Room) (Pc : Array Value → State → Prop) (Qc : Array Value → State → Outcome → State → Prop) (free : Addr → Prop) (As rest : List Value) (g : JFrame),
    CallFix p m c cc nL s args eg_T own → (∀ q ∈ ec_nest, va_Nw (.methodLinkNest q.1 q.2.1 q.2.2.1 q.2.2.2) s) → Met l y (em_ws y bytes maxL ret) rm Pc Qc mc ms free → rm.cells = mc → rm.slots = ms → rm.frames + 1 ≤ R.frames ∧ 8 + (maxL + 11) + rm.locals ≤ R.locals → PreS s H Pc As → g.method = m → As.length = na → g.locals.size = nL → g.stack = As.reverse ++ rest →
    2 * g.monitorRoom + (rest.map fun v => v.category).sum ≤ 8 → decode cc g.pc = .ok (.invokestatic idx, 3) → cells + mc ≤ R.cells ∧ slots + ms ≤ R.slots → va_Run p l e R s m args below meth c H locs cells slots mc ms g rest (Qc As.toArray) free
/-- an instance method on a receiver of class C -/
def ec_callV (own : String) (idx : Nat) (C : String) (y : MethodName) (bytes : ByteArray) (maxL : Nat) (ret : Option FieldType) (na : Nat) : Prop :=
  ∀ (p : Program) (l : Launch) (e : Env) (R : Room) (s : State) (m : MethodId) (args : Array Value) (below : List Frame) (meth : Method) (c : Code) (H : Heap) (locs : List Loc) (cells slots mc ms : Nat) (cc : ByteArray) (nL : Nat) (rm : Room) (Pc : Array Value → State → Prop) (Qc : Array Value → State → Outcome → State → Prop) (free : Addr → Prop) (b : Addr) (As rest : List Value) (g : JFrame),
    CallFix p m c cc nL s args eg_T own → (∀ q ∈ ec_nest, va_Nw (.methodLinkNest q.1 q.2.1 q.2.2.1 q.2.2.2) s) → Met l y (em_ws y bytes maxL ret) rm Pc Qc mc ms free → rm.cells = mc → rm.slots = ms → rm.frames + 1 ≤ R.frames ∧ 8 + (maxL + 11) + rm.locals ≤ R.locals → PreV s H C b Pc As → g.method = m → As.length = na → g.locals.size = nL → g.stack = As.reverse ++ .ref b :: rest →
    2 * g.monitorRoom + (rest.map fun v => v.category).sum ≤ 8 → decode cc g.pc = .ok (.invokevirtual idx, 3) → cells + mc ≤ R.cells ∧ slots + ms ≤ R.slots → va_Run p l e R s m args below meth c H locs cells slots mc ms g rest (Qc (Value.ref b :: As).toArray) free
/-- a constructor, or a superclass's method -/
def ec_callI (own : String) (idx : Nat) (y : MethodName) (bytes : ByteArray) (maxL : Nat) (ret : Option FieldType) (na : Nat) : Prop :=
  ∀ (p : Program) (l : Launch) (e : Env) (R : Room) (s : State) (m : MethodId) (args : Array Value) (below : List Frame) (meth : Method) (c : Code) (H : Heap) (locs : List Loc) (cells slots mc ms : Nat) (cc : ByteArray) (nL : Nat) (rm : Room) (Pc : Array Value → State → Prop) (Qc : Array Value → State → Outcome → State → Prop) (free : Addr → Prop) (b : Addr) (As rest : List Value) (g : JFrame) (C : String) (cC : ClassId),
    ClassAt s C cC → CallFix p m c cc nL s args eg_T own → (∀ q ∈ ec_nest, va_Nw (.methodLinkNest q.1 q.2.1 q.2.2.1 q.2.2.2) s) → Met l y (em_ws y bytes maxL ret) rm Pc Qc mc ms free → rm.cells = mc → rm.slots = ms → rm.frames + 1 ≤ R.frames ∧ 8 + (maxL + 11) + rm.locals ≤ R.locals → PreV s H C b Pc As → g.method = m → As.length = na → g.locals.size = nL → g.stack = As.reverse ++ .ref b :: rest →
    2 * g.monitorRoom + (rest.map fun v => v.category).sum ≤ 8 → decode cc g.pc = .ok (.invokespecial idx, 3) → cells + mc ≤ R.cells ∧ slots + ms ≤ R.slots → va_Run p l e R s m args below meth c H locs cells slots mc ms g rest (Qc (Value.ref b :: As).toArray) free
/-- a name that the machine does not treat apart, and how many parameters -/
def ec_nm (y : MethodName) (na : Nat) : Prop := y.cls ≠ "java/lang/invoke/MethodHandle" ∧ y.cls ≠ "java/lang/invoke/VarHandle" ∧ (parseMethodDescriptor y.desc).map (fun d => d.parameters.length) = some na
theorem ec_S1 {own : String} {idx : Nat} {y : MethodName} {bytes : ByteArray} {maxL : Nat} {ret : Option FieldType} {na : Nat} (hn : ec_nm y na) (hl : Jvm.Cond.methodLink own idx y ∈ eg_T) (hs : Jvm.Cond.static y ∈ eg_T) (hi : Jvm.Cond.initialized y.cls ∈ eg_T) (hc : Jvm.Cond.code y bytes maxL ret ∈ eg_T) : ec_callS own idx y bytes maxL ret na := by
  intro p l e R s m args below meth c H locs cells slots mc ms cc nL rm Pc Qc free As rest g S hN hM hrc hrs hR hp hg ha hsz hst hW hd hf
  have hts := S.2.2.2.2
  exact va_runS S hM ⟨callB_of na hts (em_ws_good hc) rfl hrc hrs (hts _ hi) (hts _ hl) hn hR, hts _ hs⟩ hp hg ha hsz hst hW hd hf
theorem ec_S2 {own : String} {idx : Nat} {y : MethodName} {bytes : ByteArray} {maxL : Nat} {ret : Option FieldType} {na : Nat} (hn : ec_nm y na) {host : String} (hl : (own, idx, y, host) ∈ ec_nest) (hs : Jvm.Cond.static y ∈ eg_T) (hi : Jvm.Cond.initialized y.cls ∈ eg_T) (hc : Jvm.Cond.code y bytes maxL ret ∈ eg_T) : ec_callS own idx y bytes maxL ret na := by
  intro p l e R s m args below meth c H locs cells slots mc ms cc nL rm Pc Qc free As rest g S hN hM hrc hrs hR hp hg ha hsz hst hW hd hf
  have hts := S.2.2.2.2
  exact va_runSN S hM ⟨va_cnB na hts (em_ws_good hc) rfl hrc hrs (hN _ hl) (hts _ hi) hn hR, hts _ hs, trivial⟩ hp hg ha hsz hst hW hd hf
theorem ec_V1 {own : String} {idx : Nat} {y : MethodName} {bytes : ByteArray} {maxL : Nat} {ret : Option FieldType} {na : Nat} (hn : ec_nm y na) (hl : Jvm.Cond.methodLink own idx y ∈ eg_T) (hs : Jvm.Cond.selects y.cls y y ∈ eg_T) (hi : Jvm.Cond.initialized y.cls ∈ eg_T) (hin : Jvm.Cond.instanceMethod y ∈ eg_T) (hc : Jvm.Cond.code y bytes maxL ret ∈ eg_T) : ec_callV own idx y.cls y bytes maxL ret na := by
  intro p l e R s m args below meth c H locs cells slots mc ms cc nL rm Pc Qc free b As rest g S hN hM hrc hrs hR hp hg ha hsz hst hW hd hf
  have hts := S.2.2.2.2
  exact va_runV S hM ⟨callB_of na hts (em_ws_good hc) rfl hrc hrs (hts _ hi) (hts _ hl) hn hR, hts _ hin, hts _ hs⟩ hp hg ha hsz hst hW hd hf
theorem ec_V3 {own : String} {idx : Nat} {C : String} {x y : MethodName} {bytes : ByteArray} {maxL : Nat} {ret : Option FieldType} {na : Nat} (hn : ec_nm x na) (hl : Jvm.Cond.methodLink own idx x ∈ eg_T) (hsm : Jvm.Cond.sameMethod x.cls x.cls x.name x.desc ∈ eg_T) (hinx : Jvm.Cond.instanceMethod x ∈ eg_T) (hs : Jvm.Cond.selects C x y ∈ eg_T) (hi : Jvm.Cond.initialized y.cls ∈ eg_T) (hin : Jvm.Cond.instanceMethod y ∈ eg_T) (hc : Jvm.Cond.code y bytes maxL ret ∈ eg_T)
    {b0 : ByteArray} {m0 : Nat} {r0 : Option FieldType} (h0 : Jvm.Cond.code x b0 m0 r0 ∈ eg_T) : ec_callV own idx C y bytes maxL ret na := by
  intro p l e R s m args below meth c H locs cells slots mc ms cc nL rm Pc Qc free b As rest g S hN hM hrc hrs hR hp hg ha hsz hst hW hd hf
  have hts := S.2.2.2.2
  refine va_runU (x := x) (owner := x.cls) S hM (va_cwO na hts (eg_good (fun w hw => ?_)) rfl hrc hrs (b0 := b0) (m0 := m0) (r0 := r0) h0 hn hR) hp hg ha hsz hst hW hd hf
  simp only [va_wsO, List.mem_append, List.mem_cons, List.not_mem_nil, or_false] at hw
  rcases hw with (e | e | e | e | e | e) | e | e
  · rw [e]; exact hl
  · rw [e]; exact hsm
  · rw [e]; exact hinx
  · rw [e]; exact hs
  · rw [e]; exact hin
  · rw [e]; exact hi
  · rw [e]; exact hc
  · exact e
theorem ec_I1 {own : String} {idx : Nat} {y : MethodName} {bytes : ByteArray} {maxL : Nat} {na : Nat} (hn : ec_nm y na) (hy : y.name = "<init>") (hl : Jvm.Cond.methodLink own idx y ∈ eg_T) (hi : Jvm.Cond.initialized y.cls ∈ eg_T) (hin : Jvm.Cond.instanceMethod y ∈ eg_T) (hc : Jvm.Cond.code y bytes maxL none ∈ eg_T) : ec_callI own idx y bytes maxL none na := by
  intro p l e R s m args below meth c H locs cells slots mc ms cc nL rm Pc Qc free b As rest g C cC hat S hN hM hrc hrs hR hp hg ha hsz hst hW hd hf
  have hts := S.2.2.2.2
  exact va_runI S hM ⟨callB_of na hts (em_ws_good hc) rfl hrc hrs (hts _ hi) (hts _ hl) hn hR, hy, hts _ hin⟩ ⟨hp.1, hp.2.2⟩ hg ha hsz hst hW hd hf
theorem ec_I2 {own : String} {idx : Nat} {y : MethodName} {bytes : ByteArray} {maxL : Nat} {na : Nat} (hn : ec_nm y na) (hy : y.name = "<init>") {host : String} (hl : (own, idx, y, host) ∈ ec_nest) (hi : Jvm.Cond.initialized y.cls ∈ eg_T) (hin : Jvm.Cond.instanceMethod y ∈ eg_T) (hc : Jvm.Cond.code y bytes maxL none ∈ eg_T) : ec_callI own idx y bytes maxL none na := by
  intro p l e R s m args below meth c H locs cells slots mc ms cc nL rm Pc Qc free b As rest g C cC hat S hN hM hrc hrs hR hp hg ha hsz hst hW hd hf
  have hts := S.2.2.2.2
  exact va_runIN S hM ⟨va_cnB na hts (em_ws_good hc) rfl hrc hrs (hN _ hl) (hts _ hi) hn hR, hy, hts _ hin⟩ ⟨hp.1, hp.2.2⟩ hg ha hsz hst hW hd hf
theorem ec_I3 {own : String} {idx : Nat} {y : MethodName} {bytes : ByteArray} {maxL : Nat} {ret : Option FieldType} {na : Nat} (hn : ec_nm y na) (hy : y.name ≠ "<init>") (hl : Jvm.Cond.methodLink own idx y ∈ eg_T) (hsm : Jvm.Cond.sameMethod y.cls y.cls y.name y.desc ∈ eg_T) (hsu : Jvm.Cond.superclass own y.cls ∈ eg_T) (hi : Jvm.Cond.initialized y.cls ∈ eg_T) (hin : Jvm.Cond.instanceMethod y ∈ eg_T) (hc : Jvm.Cond.code y bytes maxL ret ∈ eg_T) : ec_callI own idx y bytes maxL ret na := by
  intro p l e R s m args below meth c H locs cells slots mc ms cc nL rm Pc Qc free b As rest g C cC hat S hN hM hrc hrs hR hp hg ha hsz hst hW hd hf
  have hts := S.2.2.2.2
  refine va_runSU hat S hM (va_cwSU na hts (eg_good (fun w hw => ?_)) rfl hrc hrs ⟨hy, hn.2.2⟩ hR) hp hg ha hsz hst hW hd hf
  simp only [va_wsSU, List.mem_append, List.mem_cons, List.not_mem_nil, or_false] at hw
  rcases hw with (e | e | e | e | e) | e | e
  · rw [e]; exact hl
  · rw [e]; exact hsm
  · rw [e]; exact hsu
  · rw [e]; exact hin
  · rw [e]; exact hi
  · rw [e]; exact hc
  · exact e
