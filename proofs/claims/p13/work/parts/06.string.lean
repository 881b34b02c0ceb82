/-! A String constant: charAt, by the JDK's own code. Nothing is written on the way: the heap at the end is the heap at the start. -/
abbrev es_yC : MethodName := ⟨"java/lang/String", "charAt", "(I)C"⟩
abbrev es_yI : MethodName := ⟨"java/lang/String", "isLatin1", "()Z"⟩
abbrev es_yK : MethodName := ⟨"java/lang/String", "checkIndex", "(II)V"⟩
abbrev es_yL : MethodName := ⟨"java/lang/StringLatin1", "charAt", "([BI)C"⟩
abbrev es_yP : MethodName := ⟨"jdk/internal/util/Preconditions", "checkIndex", "(IILjava/util/function/BiFunction;)I"⟩
/-- the constant's object, its array, and the two statics that are read -/
def es_T (q v : Nat) (A : Nat → Prop) (U : State) (H : Heap) : Prop :=
  va_O "java/lang/String" q A U H ∧ va_OF "java/lang/String" "coder" "B" (.int 0) q A U H ∧ va_OF "java/lang/String" "value" "[B" (.ref v) q A U H ∧ (∃ f : Nat → Int32, va_T .byte v 50 (fun j => .int (f j)) A U H) ∧
  va_Z "java/lang/String" "COMPACT_STRINGS" "Z" (.int 1) A U H ∧ va_Zq "jdk/internal/util/Preconditions" "SIOOBE_FORMATTER" "Ljava/util/function/BiFunction;" A U H
theorem es_T.moved {q v : Nat} {A : Nat → Prop} {u U : State} {H : Heap} (hvm : u.vm.Alike U.vm) (h : es_T q v A u H) : es_T q v A U H := by
  obtain ⟨h1, h2, h3, ⟨f, h4⟩, h5, h6⟩ := h
  exact ⟨h1.moved hvm, h2.moved hvm, h3.moved hvm, ⟨f, h4.moved hvm⟩, h5.moved hvm, h6.moved hvm⟩
theorem es_T.kept {q v : Nat} {A : Nat → Prop} {U : State} {H H1 : Heap} (h : es_T q v A U H) (hq : ∀ a : Nat, a < H.size → ¬ A a → H1[a]? = H[a]?) : es_T q v A U H1 := by
  obtain ⟨h1, h2, h3, ⟨f, h4⟩, h5, h6⟩ := h
  exact ⟨h1.kept hq, h2.kept hq, h3.kept hq, ⟨f, h4.kept hq⟩, h5.kept hq, h6.kept hq⟩
def es_P (q v : Nat) (A : Nat → Prop) (avs : List Value) : Array Value → State → Prop := fun a U => a = avs.toArray ∧ es_T q v A U U.heap
def es_Q (post : Option Value → Prop) : Array Value → State → Outcome → State → Prop := fun _ st oc t => (∃ rv, oc = .returned rv ∧ post rv) ∧ t.heap = st.heap
def es_rm (d : Nat) : Room := { frames := d, cells := 0, slots := 0, locals := 64 * d }
theorem es_blind {q v : Nat} {A : Nat → Prop} {avs : List Value} : FrameBlind (es_P q v A avs) := fun a U g mk h => ⟨h.1, es_T.moved (u := U) (U := U.calling g mk a) (Vm.Alike.refl U.vm) h.2⟩
theorem es_go {p : Program} {l : Launch} {e : Env} {R : Room} {s : State} {m : MethodId} {args : Array Value} {below : List Frame} {meth : Method} {c : Code} {H : Heap} {locs : List Loc} {cells slots pc : Nat} {Q : State → Prop} {post : Option Value → Prop} {ls : Array Slot} {st0 rest : List Value} {a : Array Value}
    (hr : va_Run p l e R s m args below meth c H locs cells slots 0 0 (F0 m pc ls st0) rest (es_Q post a) (fun _ => False))
    (kk : ∀ rv : Option Value, post rv → W p l e R s m args below meth c H locs cells slots Q (F0 m (pc + 3) ls (rv.toList ++ rest))) : W p l e R s m args below meth c H locs cells slots Q (F0 m pc ls st0) := by
  intro T hT X
  obtain ⟨v, st₀, t, T', L, h0, X', hL, e1, e2, ⟨⟨rv, hv, hp⟩, hh⟩, st⟩ := hr T hT X
  cases hv
  have hL' : L = [] := by
    cases L with
    | nil => rfl
    | cons x L => exact (hL x List.mem_cons_self).elim
  subst hL'
  rw [List.append_nil] at X'
  obtain ⟨t2, a1, b1⟩ := kk v hp T' (by rw [e1, hh, h0]) X'
  exact ⟨t2, st t2 a1, b1⟩
theorem es_d0 : decode prog_21_method_11_code 0 = .ok (.iload_n 0, 1) := by decide +kernel
theorem es_d1 : decode prog_21_method_11_code 1 = .ok (.ifCond .lt 8, 3) := by decide +kernel
theorem es_d4 : decode prog_21_method_11_code 4 = .ok (.iload_n 0, 1) := by decide +kernel
theorem es_d5 : decode prog_21_method_11_code 5 = .ok (.iload_n 1, 1) := by decide +kernel
theorem es_d6 : decode prog_21_method_11_code 6 = .ok (.if_icmp .lt 10, 3) := by decide +kernel
theorem es_d16 : decode prog_21_method_11_code 16 = .ok (.iload_n 0, 1) := by decide +kernel
theorem es_d17 : decode prog_21_method_11_code 17 = .ok (.ireturn, 1) := by decide +kernel
set_option maxHeartbeats 4000000 in
theorem es_pre {l : Launch} {q v : Nat} {A : Nat → Prop} {i n : Int32} {r : Value} (hi : ¬ i < 0) (hn : i < n) (hc : r.category = 1) : Met l es_yP (em_ws es_yP prog_21_method_11_code 3 (some .int)) (es_rm 0) (es_P q v A [.int i, .int n, r]) (es_Q (fun rv => rv = some (.int i))) 0 0 (fun _ => False) := by
  refine va_MetF (cc := prog_21_method_11_code) (maxL := 3) (ret := some .int) (by decide +kernel) rfl ?_
  intro p e s m args below meth c s₁ B hml hv
  obtain ⟨rfl, hT⟩ := hv
  have hx := B.exec
  have hb := B.bytes
  have hr := B.returns
  have hlocks := B.notSynchronized
  have hl := lv_entry ([.int i, .int n, r]) (n := 3) (by have e1 : (Value.int i).category = 1 := rfl; have e2 : (Value.int n).category = 1 := rfl; simp [lg_sl, hc, e1, e2])
  rw [lg_entry_eq]
  generalize (lg_sl ([.int i, .int n, r]) ++ List.replicate (3 - (lg_sl ([.int i, .int n, r])).length) Slot.unset).toArray = ls at hl ⊢
  have hl : lv_has ls 3 [(0, .int i), (1, .int n), (2, r)] := hl
  refine lv_iload_n hx hb es_d0 rfl (lv_at hl 0 rfl) ?_
  refine lv_if_lt hx hb (tgt := 9) es_d1 rfl (fun h => absurd h hi) (fun _ => ?_)
  refine lv_iload_n hx hb es_d4 rfl (lv_at hl 0 rfl) ?_
  refine lv_iload_n hx hb es_d5 rfl (lv_at hl 1 rfl) ?_
  refine lv_icmp_lt hx hb (tgt := 16) es_d6 rfl (fun _ => ?_) (fun h => absurd hn h)
  refine lv_iload_n hx hb es_d16 rfl (lv_at hl 0 rfl) ?_
  exact W.iret hx hb hr (fun t ht _ => ⟨⟨_, rfl, rfl⟩, ht⟩) (fun _ h => absurd h List.not_mem_nil) es_d17
theorem es_k0 : decode prog_17_method_155_code 0 = .ok (.iload_n 0, 1) := by decide +kernel
theorem es_k1 : decode prog_17_method_155_code 1 = .ok (.iload_n 1, 1) := by decide +kernel
theorem es_k2 : decode prog_17_method_155_code 2 = .ok (.getstatic 1053, 3) := by decide +kernel
theorem es_k5 : decode prog_17_method_155_code 5 = .ok (.invokestatic 1059, 3) := by decide +kernel
theorem es_k8 : decode prog_17_method_155_code 8 = .ok (.pop, 1) := by decide +kernel
theorem es_k9 : decode prog_17_method_155_code 9 = .ok (.return_, 1) := by decide +kernel
theorem es_in {w : Cond} (h : w ∈ lw_tbl) (hg : goodWord w = true) : w ∈ eg_T := List.mem_filter.mpr ⟨h, hg⟩
def es_callS (own : String) (idx : Nat) (y : MethodName) (bytes : ByteArray) (maxL : Nat) (ret : Option FieldType) (na : Nat) : Prop :=
  ∀ (p : Program) (l : Launch) (e : Env) (R : Room) (s : State) (m : MethodId) (args : Array Value) (below : List Frame) (meth : Method) (c : Code) (H : Heap) (locs : List Loc) (cells slots mc ms : Nat) (cc : ByteArray) (nL : Nat) (rm : Room) (Pc : Array Value → State → Prop) (Qc : Array Value → State → Outcome → State → Prop) (free : Addr → Prop) (As rest : List Value) (g : JFrame),
    CallFix p m c cc nL s args eg_T own → Met l y (em_ws y bytes maxL ret) rm Pc Qc mc ms free → rm.cells = mc → rm.slots = ms → rm.frames + 1 ≤ R.frames ∧ 8 + (maxL + 11) + rm.locals ≤ R.locals → PreS s H Pc As → g.method = m → As.length = na → g.locals.size = nL → g.stack = As.reverse ++ rest →
    2 * g.monitorRoom + (rest.map fun v => v.category).sum ≤ 8 → decode cc g.pc = .ok (.invokestatic idx, 3) → cells + mc ≤ R.cells ∧ slots + ms ≤ R.slots → va_Run p l e R s m args below meth c H locs cells slots mc ms g rest (Qc As.toArray) free
def es_callV (own : String) (idx : Nat) (C : String) (y : MethodName) (bytes : ByteArray) (maxL : Nat) (ret : Option FieldType) (na : Nat) : Prop :=
  ∀ (p : Program) (l : Launch) (e : Env) (R : Room) (s : State) (m : MethodId) (args : Array Value) (below : List Frame) (meth : Method) (c : Code) (H : Heap) (locs : List Loc) (cells slots mc ms : Nat) (cc : ByteArray) (nL : Nat) (rm : Room) (Pc : Array Value → State → Prop) (Qc : Array Value → State → Outcome → State → Prop) (free : Addr → Prop) (b : Addr) (As rest : List Value) (g : JFrame),
    CallFix p m c cc nL s args eg_T own → Met l y (em_ws y bytes maxL ret) rm Pc Qc mc ms free → rm.cells = mc → rm.slots = ms → rm.frames + 1 ≤ R.frames ∧ 8 + (maxL + 11) + rm.locals ≤ R.locals → PreV s H C b Pc As → g.method = m → As.length = na → g.locals.size = nL → g.stack = As.reverse ++ .ref b :: rest →
    2 * g.monitorRoom + (rest.map fun v => v.category).sum ≤ 8 → decode cc g.pc = .ok (.invokevirtual idx, 3) → cells + mc ≤ R.cells ∧ slots + ms ≤ R.slots → va_Run p l e R s m args below meth c H locs cells slots mc ms g rest (Qc (Value.ref b :: As).toArray) free
theorem es_S1 {own : String} {idx : Nat} {y : MethodName} {bytes : ByteArray} {maxL : Nat} {ret : Option FieldType} {na : Nat} (hn : ec_nm y na) (hl : Jvm.Cond.methodLink own idx y ∈ eg_T) (hs : Jvm.Cond.static y ∈ eg_T) (hi : Jvm.Cond.initialized y.cls ∈ eg_T) (hc : Jvm.Cond.code y bytes maxL ret ∈ eg_T) : es_callS own idx y bytes maxL ret na := by
  intro p l e R s m args below meth c H locs cells slots mc ms cc nL rm Pc Qc free As rest g S hM hrc hrs hR hp hg ha hsz hst hW hd hf
  have hts := S.2.2.2.2
  exact va_runS S hM ⟨callB_of na hts (em_ws_good hc) rfl hrc hrs (hts _ hi) (hts _ hl) hn hR, hts _ hs⟩ hp hg ha hsz hst hW hd hf
theorem es_V1 {own : String} {idx : Nat} {y : MethodName} {bytes : ByteArray} {maxL : Nat} {ret : Option FieldType} {na : Nat} (hn : ec_nm y na) (hl : Jvm.Cond.methodLink own idx y ∈ eg_T) (hs : Jvm.Cond.selects y.cls y y ∈ eg_T) (hi : Jvm.Cond.initialized y.cls ∈ eg_T) (hin : Jvm.Cond.instanceMethod y ∈ eg_T) (hc : Jvm.Cond.code y bytes maxL ret ∈ eg_T) : es_callV own idx y.cls y bytes maxL ret na := by
  intro p l e R s m args below meth c H locs cells slots mc ms cc nL rm Pc Qc free b As rest g S hM hrc hrs hR hp hg ha hsz hst hW hd hf
  have hts := S.2.2.2.2
  exact va_runV S hM ⟨callB_of na hts (em_ws_good hc) rfl hrc hrs (hts _ hi) (hts _ hl) hn hR, hts _ hin, hts _ hs⟩ hp hg ha hsz hst hW hd hf
theorem es_sK : es_callS "java/lang/String" 1059 es_yP prog_21_method_11_code 3 (some .int) 3 := es_S1 ⟨by decide +kernel, by decide +kernel, by decide +kernel⟩ (es_in (by decide +kernel) rfl) (es_in (by decide +kernel) rfl) (es_in (by decide +kernel) rfl) (es_in (by decide +kernel) rfl)
theorem es_sL : es_callS "java/lang/StringLatin1" 9 es_yK prog_17_method_155_code 2 none 2 := es_S1 ⟨by decide +kernel, by decide +kernel, by decide +kernel⟩ (es_in (by decide +kernel) rfl) (es_in (by decide +kernel) rfl) (es_in (by decide +kernel) rfl) (es_in (by decide +kernel) rfl)
theorem es_sC : es_callS "java/lang/String" 495 es_yL prog_18_method_2_code 2 (some .char) 2 := es_S1 ⟨by decide +kernel, by decide +kernel, by decide +kernel⟩ (es_in (by decide +kernel) rfl) (es_in (by decide +kernel) rfl) (es_in (by decide +kernel) rfl) (es_in (by decide +kernel) rfl)
theorem es_sI : es_callV "java/lang/String" 492 "java/lang/String" es_yI prog_17_method_154_code 1 (some .boolean) 0 := es_V1 (y := es_yI) ⟨by decide +kernel, by decide +kernel, by decide +kernel⟩ (es_in (by decide +kernel) rfl) (es_in (by decide +kernel) rfl) (es_in (by decide +kernel) rfl) (es_in (by decide +kernel) rfl) (es_in (by decide +kernel) rfl)
theorem es_sW : es_callV "WarmNight$Text" 68 "java/lang/String" es_yC prog_17_method_56_code 2 (some .char) 1 := es_V1 (y := es_yC) ⟨by decide +kernel, by decide +kernel, by decide +kernel⟩ (es_in (by decide +kernel) rfl) (es_in (by decide +kernel) rfl) (es_in (by decide +kernel) rfl) (es_in (by decide +kernel) rfl) (es_in (by decide +kernel) rfl)
set_option maxHeartbeats 4000000 in
theorem es_chk {l : Launch} {q v : Nat} {A : Nat → Prop} {i n : Int32} (hi : ¬ i < 0) (hn : i < n) : Met l es_yK (em_ws es_yK prog_17_method_155_code 2 none) (es_rm 1) (es_P q v A [.int i, .int n]) (es_Q (fun rv => rv = none)) 0 0 (fun _ => False) := by
  refine va_MetF (cc := prog_17_method_155_code) (maxL := 2) (ret := none) (by decide +kernel) rfl ?_
  intro p e s m args below meth c s₁ B hml hv
  obtain ⟨rfl, hT⟩ := hv
  have hx := B.exec
  have hb := B.bytes
  have hr := B.returns
  have hlocks := B.notSynchronized
  have hown : s.vm.findClass "java/lang/String" = some m.cls := findClass_of_methodNamed B.named
  have hts0 : ∀ w ∈ em_ws es_yK prog_17_method_155_code 2 none, w.before #[.int i, .int n] s = true := atoms_spec (ws := em_ws es_yK prog_17_method_155_code 2 none) B.pre
  have hts : ∀ w ∈ eg_T, w.before #[.int i, .int n] s = true := fun w hw => hts0 w (List.mem_cons_of_mem _ hw)
  have hl := lv_entry ([.int i, .int n]) (n := 2) (by simp [lg_sl, Value.category])
  rw [lg_entry_eq]
  generalize (lg_sl ([.int i, .int n]) ++ List.replicate (2 - (lg_sl ([.int i, .int n])).length) Slot.unset).toArray = ls at hl ⊢
  have hl : lv_has ls 2 [(0, .int i), (1, .int n)] := hl
  refine lv_iload_n hx hb es_k0 rfl (lv_at hl 0 rfl) ?_
  refine lv_iload_n hx hb es_k1 rfl (lv_at hl 1 rfl) ?_
  have key : ∀ r : Value, r.category = 1 → va_Z "jdk/internal/util/Preconditions" "SIOOBE_FORMATTER" "Ljava/util/function/BiFunction;" r A s s.heap → W p l e (es_rm 1) s m #[.int i, .int n] below meth c s.heap [] 0 0 (MQ below (es_Q (fun rv => rv = none)) #[.int i, .int n] s 0 0 (fun _ => False)) (F0 m 2 ls [.int n, .int i]) := by
    intro r hc hZ
    refine va_gets hx hb hZ va_S.rf hown (hts _ (es_in (by decide +kernel : Jvm.Cond.fieldLink "java/lang/String" 1053 "jdk/internal/util/Preconditions" "SIOOBE_FORMATTER" "Ljava/util/function/BiFunction;" ∈ lw_tbl) rfl)) (fun _ h => h) es_k2 ?_
    refine es_go (es_sK p l e (es_rm 1) s m _ below meth c s.heap [] 0 0 0 0 prog_17_method_155_code 2 (es_rm 0) _ _ _ [.int i, .int n, r] [] (F0 m 5 ls [r, .int n, .int i]) ⟨hx, hb, hml, hown, hts⟩ (es_pre (q := q) (v := v) (A := A) hi hn hc) rfl rfl ⟨Nat.le_of_ble_eq_true rfl, Nat.le_of_ble_eq_true rfl⟩ ⟨es_blind, fun U hU hW => ⟨rfl, by rw [hU]; exact hT.moved hW.alike⟩⟩ rfl rfl hl.1 rfl (Nat.le_of_ble_eq_true rfl) es_k5 ⟨Nat.le_refl _, Nat.le_refl _⟩) ?_
    rintro rv rfl
    refine lv_pop hx hb es_k8 rfl ?_
    exact W.vret hx hb hr (fun t ht _ => ⟨⟨_, rfl, rfl⟩, ht⟩) (fun _ h => absurd h List.not_mem_nil) es_k9
  rcases hT.2.2.2.2.2 with h | ⟨t, h⟩
  · exact key _ rfl h
  · exact key _ rfl h
theorem es_l0 : decode prog_18_method_2_code 0 = .ok (.iload_n 1, 1) := by decide +kernel
theorem es_l1 : decode prog_18_method_2_code 1 = .ok (.aload_n 0, 1) := by decide +kernel
theorem es_l2 : decode prog_18_method_2_code 2 = .ok (.arraylength, 1) := by decide +kernel
theorem es_l3 : decode prog_18_method_2_code 3 = .ok (.invokestatic 9, 3) := by decide +kernel
theorem es_l6 : decode prog_18_method_2_code 6 = .ok (.aload_n 0, 1) := by decide +kernel
theorem es_l7 : decode prog_18_method_2_code 7 = .ok (.iload_n 1, 1) := by decide +kernel
theorem es_l8 : decode prog_18_method_2_code 8 = .ok (.baload, 1) := by decide +kernel
theorem es_l9 : decode prog_18_method_2_code 9 = .ok (.sipush 255, 3) := by decide +kernel
theorem es_l12 : decode prog_18_method_2_code 12 = .ok (.iand, 1) := by decide +kernel
theorem es_l13 : decode prog_18_method_2_code 13 = .ok (.i2c, 1) := by decide +kernel
theorem es_l14 : decode prog_18_method_2_code 14 = .ok (.ireturn, 1) := by decide +kernel
theorem es_nar (x : Int32) : narrow .char (.int (x.toUInt32 % 65536).toInt32) = .int (x.toUInt32 % 65536).toInt32 := by
  rw [lg_i2c_nf]
  show Value.int _ = Value.int _
  congr 1
  have h := lg_i2c_toInt x
  refine lg_i2c_small ?_ ?_
  · rw [h]; omega
  · rw [h]; omega
set_option maxHeartbeats 4000000 in
theorem es_lat {l : Launch} {q v : Nat} {A : Nat → Prop} {i : Int32} (hi : ¬ i < 0) (hn : i < 50) : Met l es_yL (em_ws es_yL prog_18_method_2_code 2 (some .char)) (es_rm 2) (es_P q v A [.ref v, .int i]) (es_Q (fun rv => ∃ r : Int32, rv = some (.int r) ∧ narrow .char (.int r) = .int r)) 0 0 (fun _ => False) := by
  refine va_MetF (cc := prog_18_method_2_code) (maxL := 2) (ret := some .char) (by decide +kernel) rfl ?_
  intro p e s m args below meth c s₁ B hml hv
  obtain ⟨rfl, hT⟩ := hv
  have hx := B.exec
  have hb := B.bytes
  have hr := B.returns
  have hlocks := B.notSynchronized
  have hown : s.vm.findClass "java/lang/StringLatin1" = some m.cls := findClass_of_methodNamed B.named
  have hts0 : ∀ w ∈ em_ws es_yL prog_18_method_2_code 2 (some .char), w.before #[.ref v, .int i] s = true := atoms_spec (ws := em_ws es_yL prog_18_method_2_code 2 (some .char)) B.pre
  have hts : ∀ w ∈ eg_T, w.before #[.ref v, .int i] s = true := fun w hw => hts0 w (List.mem_cons_of_mem _ hw)
  have hl := lv_entry ([.ref v, .int i]) (n := 2) (by simp [lg_sl, Value.category])
  rw [lg_entry_eq]
  generalize (lg_sl ([.ref v, .int i]) ++ List.replicate (2 - (lg_sl ([.ref v, .int i])).length) Slot.unset).toArray = ls at hl ⊢
  have hl : lv_has ls 2 [(0, .ref v), (1, .int i)] := hl
  obtain ⟨f, hV⟩ := hT.2.2.2.1
  have hi0 : (0 : Int) ≤ i.toInt := by have := Int32.not_lt.mp hi; simpa using Int32.le_iff_toInt_le.mp this
  have hi1 : i.toInt < 50 := by simpa using Int32.lt_iff_toInt_lt.mp hn
  refine lv_iload_n hx hb es_l0 rfl (lv_at hl 1 rfl) ?_
  refine lv_aload_n hx hb es_l1 rfl (lv_at hl 0 rfl) ?_
  refine va_tlen hx hb hV va_S.rf (v := 50) rfl es_l2 ?_
  refine es_go (es_sL p l e (es_rm 2) s m _ below meth c s.heap [] 0 0 0 0 prog_18_method_2_code 2 (es_rm 1) _ _ _ [.int i, .int 50] [] (F0 m 3 ls [.int 50, .int i]) ⟨hx, hb, hml, hown, hts⟩ (es_chk (q := q) (v := v) (A := A) hi hn) rfl rfl ⟨Nat.le_of_ble_eq_true rfl, Nat.le_of_ble_eq_true rfl⟩ ⟨es_blind, fun U hU hW => ⟨rfl, by rw [hU]; exact hT.moved hW.alike⟩⟩ rfl rfl hl.1 rfl (Nat.le_of_ble_eq_true rfl) es_l3 ⟨Nat.le_refl _, Nat.le_refl _⟩) ?_
  rintro rv rfl
  refine lv_aload_n hx hb es_l6 rfl (lv_at hl 0 rfl) ?_
  refine lv_iload_n hx hb es_l7 rfl (lv_at hl 1 rfl) ?_
  refine va_tb hx hb hV va_S.rf (i := i) (v := .int (f i.toNatClampNeg)) ?_ rfl es_l8 ?_
  · rintro (h | h)
    · exact hi h
    · have : i.toNatClampNeg = i.toInt.toNat := rfl
      omega
  refine lv_sipush hx hb es_l9 (v := 255) rfl ?_
  refine lv_iand hx hb es_l12 ?_
  refine lv_topi (fun y _ => ?_)
  refine lv_i2c hx hb es_l13 rfl ?_
  exact W.zret (ty := .char) hx hb hr (es_nar y) (fun t ht _ => ⟨⟨_, rfl, _, rfl, es_nar y⟩, ht⟩) (fun _ h => absurd h List.not_mem_nil) es_l14
theorem es_i0 : decode prog_17_method_154_code 0 = .ok (.getstatic 38, 3) := by decide +kernel
theorem es_i3 : decode prog_17_method_154_code 3 = .ok (.ifCond .eq 14, 3) := by decide +kernel
theorem es_i6 : decode prog_17_method_154_code 6 = .ok (.aload_n 0, 1) := by decide +kernel
theorem es_i7 : decode prog_17_method_154_code 7 = .ok (.getfield 15, 3) := by decide +kernel
theorem es_i10 : decode prog_17_method_154_code 10 = .ok (.ifCond .ne 7, 3) := by decide +kernel
theorem es_i13 : decode prog_17_method_154_code 13 = .ok (.iconst 1, 1) := by decide +kernel
theorem es_i14 : decode prog_17_method_154_code 14 = .ok (.goto 4, 3) := by decide +kernel
theorem es_i18 : decode prog_17_method_154_code 18 = .ok (.ireturn, 1) := by decide +kernel
set_option maxHeartbeats 4000000 in
theorem es_isl {l : Launch} {q v : Nat} {A : Nat → Prop} : Met l es_yI (em_ws es_yI prog_17_method_154_code 1 (some .boolean)) (es_rm 0) (es_P q v A [.ref q]) (es_Q (fun rv => rv = some (.int 1))) 0 0 (fun _ => False) := by
  refine va_MetF (cc := prog_17_method_154_code) (maxL := 1) (ret := some .boolean) (by decide +kernel) rfl ?_
  intro p e s m args below meth c s₁ B hml hv
  obtain ⟨rfl, hT⟩ := hv
  have hx := B.exec
  have hb := B.bytes
  have hr := B.returns
  have hlocks := B.notSynchronized
  have hown : s.vm.findClass "java/lang/String" = some m.cls := findClass_of_methodNamed B.named
  have hts0 : ∀ w ∈ em_ws es_yI prog_17_method_154_code 1 (some .boolean), w.before #[.ref q] s = true := atoms_spec (ws := em_ws es_yI prog_17_method_154_code 1 (some .boolean)) B.pre
  have hts : ∀ w ∈ eg_T, w.before #[.ref q] s = true := fun w hw => hts0 w (List.mem_cons_of_mem _ hw)
  have hl := lv_entry ([.ref q]) (n := 1) (by simp [lg_sl, Value.category])
  rw [lg_entry_eq]
  generalize (lg_sl ([.ref q]) ++ List.replicate (1 - (lg_sl ([.ref q])).length) Slot.unset).toArray = ls at hl ⊢
  have hl : lv_has ls 1 [(0, .ref q)] := hl
  refine va_gets hx hb hT.2.2.2.2.1 va_S.rf hown (hts _ (es_in (by decide +kernel : Jvm.Cond.fieldLink "java/lang/String" 38 "java/lang/String" "COMPACT_STRINGS" "Z" ∈ lw_tbl) rfl)) (fun _ h => h) es_i0 ?_
  refine lv_if_eq hx hb (tgt := 17) es_i3 rfl (fun h => absurd h (by decide)) (fun _ => ?_)
  refine lv_aload_n hx hb es_i6 rfl (lv_at hl 0 rfl) ?_
  refine vk_getf hx hb hT.2.1 va_S.rf hown (hts _ (es_in (by decide +kernel : Jvm.Cond.fieldLink "java/lang/String" 15 "java/lang/String" "coder" "B" ∈ lw_tbl) rfl)) (fun _ h => h) es_i7 ?_
  refine lv_if_ne hx hb (tgt := 17) es_i10 rfl (fun h => absurd rfl h) (fun _ => ?_)
  refine lv_iconst hx hb es_i13 (v := 1) rfl ?_
  refine lv_goto hx hb (tgt := 18) es_i14 rfl ?_
  exact W.zret (ty := .boolean) hx hb hr (by decide) (fun t ht _ => ⟨⟨_, rfl, rfl⟩, ht⟩) (fun _ h => absurd h List.not_mem_nil) es_i18
theorem es_c0 : decode prog_17_method_56_code 0 = .ok (.aload_n 0, 1) := by decide +kernel
theorem es_c1 : decode prog_17_method_56_code 1 = .ok (.invokevirtual 492, 3) := by decide +kernel
theorem es_c4 : decode prog_17_method_56_code 4 = .ok (.ifCond .eq 12, 3) := by decide +kernel
theorem es_c7 : decode prog_17_method_56_code 7 = .ok (.aload_n 0, 1) := by decide +kernel
theorem es_c8 : decode prog_17_method_56_code 8 = .ok (.getfield 9, 3) := by decide +kernel
theorem es_c11 : decode prog_17_method_56_code 11 = .ok (.iload_n 1, 1) := by decide +kernel
theorem es_c12 : decode prog_17_method_56_code 12 = .ok (.invokestatic 495, 3) := by decide +kernel
theorem es_c15 : decode prog_17_method_56_code 15 = .ok (.ireturn, 1) := by decide +kernel
set_option maxHeartbeats 4000000 in
theorem es_chr {l : Launch} {q v : Nat} {A : Nat → Prop} {i : Int32} (hi : ¬ i < 0) (hn : i < 50) : Met l es_yC (em_ws es_yC prog_17_method_56_code 2 (some .char)) (es_rm 3) (es_P q v A [.ref q, .int i]) (es_Q (fun rv => ∃ r : Int32, rv = some (.int r) ∧ narrow .char (.int r) = .int r)) 0 0 (fun _ => False) := by
  refine va_MetF (cc := prog_17_method_56_code) (maxL := 2) (ret := some .char) (by decide +kernel) rfl ?_
  intro p e s m args below meth c s₁ B hml hv
  obtain ⟨rfl, hT⟩ := hv
  have hx := B.exec
  have hb := B.bytes
  have hr := B.returns
  have hlocks := B.notSynchronized
  have hown : s.vm.findClass "java/lang/String" = some m.cls := findClass_of_methodNamed B.named
  have hts0 : ∀ w ∈ em_ws es_yC prog_17_method_56_code 2 (some .char), w.before #[.ref q, .int i] s = true := atoms_spec (ws := em_ws es_yC prog_17_method_56_code 2 (some .char)) B.pre
  have hts : ∀ w ∈ eg_T, w.before #[.ref q, .int i] s = true := fun w hw => hts0 w (List.mem_cons_of_mem _ hw)
  have hl := lv_entry ([.ref q, .int i]) (n := 2) (by simp [lg_sl, Value.category])
  rw [lg_entry_eq]
  generalize (lg_sl ([.ref q, .int i]) ++ List.replicate (2 - (lg_sl ([.ref q, .int i])).length) Slot.unset).toArray = ls at hl ⊢
  have hl : lv_has ls 2 [(0, .ref q), (1, .int i)] := hl
  obtain ⟨cell, o1, o2, o3, -⟩ := hT.1
  refine lv_aload_n hx hb es_c0 rfl (lv_at hl 0 rfl) ?_
  refine es_go (es_sI p l e (es_rm 3) s m _ below meth c s.heap [] 0 0 0 0 prog_17_method_56_code 2 (es_rm 0) _ _ _ q [] [] (F0 m 1 ls [.ref q]) ⟨hx, hb, hml, hown, hts⟩ (es_isl (q := q) (v := v) (A := A)) rfl rfl ⟨Nat.le_of_ble_eq_true rfl, Nat.le_of_ble_eq_true rfl⟩ ⟨es_blind, ⟨cell, o1, o2, o3⟩, fun U hU hW => ⟨rfl, by rw [hU]; exact hT.moved hW.alike⟩⟩ rfl rfl hl.1 rfl (Nat.le_of_ble_eq_true rfl) es_c1 ⟨Nat.le_refl _, Nat.le_refl _⟩) ?_
  rintro rv rfl
  refine lv_if_eq hx hb (tgt := 16) es_c4 rfl (fun h => absurd h (by decide)) (fun _ => ?_)
  refine lv_aload_n hx hb es_c7 rfl (lv_at hl 0 rfl) ?_
  refine vk_getf hx hb hT.2.2.1 va_S.rf hown (hts _ (es_in (by decide +kernel : Jvm.Cond.fieldLink "java/lang/String" 9 "java/lang/String" "value" "[B" ∈ lw_tbl) rfl)) (fun _ h => h) es_c8 ?_
  refine lv_iload_n hx hb es_c11 rfl (lv_at hl 1 rfl) ?_
  refine es_go (es_sC p l e (es_rm 3) s m _ below meth c s.heap [] 0 0 0 0 prog_17_method_56_code 2 (es_rm 2) _ _ _ [.ref v, .int i] [] (F0 m 12 ls [.int i, .ref v]) ⟨hx, hb, hml, hown, hts⟩ (es_lat (q := q) (v := v) (A := A) hi hn) rfl rfl ⟨Nat.le_of_ble_eq_true rfl, Nat.le_of_ble_eq_true rfl⟩ ⟨es_blind, fun U hU hW => ⟨rfl, by rw [hU]; exact hT.moved hW.alike⟩⟩ rfl rfl hl.1 rfl (Nat.le_of_ble_eq_true rfl) es_c12 ⟨Nat.le_refl _, Nat.le_refl _⟩) ?_
  rintro rv ⟨r, rfl, hnr⟩
  exact W.zret (ty := .char) hx hb hr hnr (fun t ht _ => ⟨⟨_, rfl, _, rfl, hnr⟩, ht⟩) (fun _ h => absurd h List.not_mem_nil) es_c15
/-- the text of the ten words -/
def es_tx : String := "put  cell pass hang cold help man  coat breakopen "
/-- the constant, at every state -/
def es_E (A : Nat → Prop) (U : State) : Prop := ∃ q v : Nat, vk_R "WarmNight$Text" 66 es_tx q U ∧ es_T q v A U U.heap
theorem es_E.moved {A : Nat → Prop} {s U : State} {H : Heap} {locs : List Loc} (h : es_E A s) (hW : s.WarmedH U.vm) (hS : va_S A s.heap H locs) (hU : U.heap = H) : es_E A U := by
  obtain ⟨q, v, h1, h2⟩ := h
  subst hU
  exact ⟨q, v, h1.warm hW, (h2.kept hS.2.1).moved hW.alike⟩
theorem es_E.blind {A : Nat → Prop} {U : State} {g : JFrame} {mk : MethodId} {a : Array Value} (h : es_E A U) : es_E A (U.calling g mk a) := by
  obtain ⟨q, v, h1, h2⟩ := h
  exact ⟨q, v, vk_R.same (u := U) (U := U.calling g mk a) rfl h1, es_T.moved (u := U) (U := U.calling g mk a) (Vm.Alike.refl U.vm) h2⟩
