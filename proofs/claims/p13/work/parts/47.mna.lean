/-! new int[n][k]: the outer array, then row by row an inner one and its place in the outer one. -/
/-- the outer array's cell when i rows stand -/
def eg_out (cA : ClassId) (N h i : Nat) : Cell := arrV cA N (fun j => va_rf (if j < i then some (h + 1 + j) else none))
def eg_row (cB : ClassId) (M : Nat) : Cell := arrV cB M (fun _ => .int 0)
theorem eg_out_next (cA : ClassId) (N h i : Nat) : (eg_out cA N h i).setSlot i (.ref (h + 1 + i)) = eg_out cA N h (i + 1) := by
  unfold eg_out
  rw [arrV_store]
  refine congrArg (arrV cA N) (funext fun j => ?_)
  unfold updV
  by_cases e : j = i
  · subst e
    rw [if_pos rfl, if_pos (Nat.lt_succ_self j)]
    rfl
  · rw [if_neg e]
    show va_rf (if j < i then some (h + 1 + j) else none) = va_rf (if j < i + 1 then some (h + 1 + j) else none)
    by_cases h1 : j < i
    · rw [if_pos h1, if_pos (by omega)]
    · rw [if_neg h1, if_neg (by omega)]
theorem eg_out_zero (cA : ClassId) (N h : Nat) : ({ cls := cA, slots := Array.replicate N .null, vm := .none } : Cell) = eg_out cA N h 0 := by
  rw [arrV_new]
  refine congrArg (arrV cA N) (funext fun j => ?_)
  rw [if_neg (Nat.not_lt_zero j)]
  rfl
theorem eg_row_zero (cB : ClassId) (M : Nat) : ({ cls := cB, slots := Array.replicate M (defaultValue .int), vm := .none } : Cell) = eg_row cB M := arrV_new ..
/-- the state when i rows stand -/
def eg_st (T : State) (cA cB : ClassId) (N M : Nat) (i : Nat) : State := Nat.rec (motive := fun _ => State) (T.pushCell (eg_out cA N T.heap.size 0)) (fun i S => (S.pushCell (eg_row cB M)).setCell T.heap.size (eg_out cA N T.heap.size (i + 1))) i
theorem eg_st_next (T : State) (cA cB : ClassId) (N M i : Nat) : eg_st T cA cB N M (i + 1) = ((eg_st T cA cB N M i).pushCell (eg_row cB M)).setCell T.heap.size (eg_out cA N T.heap.size (i + 1)) := rfl
/-- all that is wanted of it -/
def eg_I (T : State) (cA cB : ClassId) (N M i : Nat) : Prop := (eg_st T cA cB N M i).vm = T.vm ∧ (eg_st T cA cB N M i).heap.size = T.heap.size + 1 + i ∧ (eg_st T cA cB N M i).slotsUsed = T.slotsUsed + N + i * M ∧
  (∀ q : Nat, q < T.heap.size → (eg_st T cA cB N M i).heap[q]? = T.heap[q]?) ∧ (eg_st T cA cB N M i).heap[T.heap.size]? = some (eg_out cA N T.heap.size i) ∧ ∀ j : Nat, j < i → (eg_st T cA cB N M i).heap[T.heap.size + 1 + j]? = some (eg_row cB M)
theorem eg_out_size (cA : ClassId) (N h i : Nat) : (eg_out cA N h i).slots.size = N := arrV_size ..
theorem eg_row_size (cB : ClassId) (M : Nat) : (eg_row cB M).slots.size = M := arrV_size ..
theorem eg_I_all (T : State) (cA cB : ClassId) (N M : Nat) : ∀ i : Nat, eg_I T cA cB N M i := by
  intro i
  induction i with
  | zero =>
    refine ⟨rfl, ?_, ?_, fun q hq => State.heap_pushCell_of_lt _ _ hq, State.heap_pushCell_size _ _, fun j hj => absurd hj (Nat.not_lt_zero j)⟩
    · show (T.pushCell _).heap.size = _
      simp
    · show (T.pushCell _).slotsUsed = _
      simp [eg_out_size]
  | succ i ih =>
    obtain ⟨a1, a2, a3, a4, a5, a6⟩ := ih
    have hl : T.heap.size < (eg_st T cA cB N M i).heap.size := by omega
    have h0 : ((eg_st T cA cB N M i).pushCell (eg_row cB M)).heap[T.heap.size]? = some (eg_out cA N T.heap.size i) := (State.heap_pushCell_of_lt _ _ hl).trans a5
    refine ⟨a1, ?_, ?_, fun q hq => ?_, ?_, fun j hj => ?_⟩
    · rw [eg_st_next]
      simp [State.setCell, a2]
      omega
    · rw [eg_st_next]
      simp [State.setCell, a3, eg_row_size, Nat.add_mul]
      omega
    · rw [eg_st_next, State.heap_setCell_other (show T.heap.size ≠ q by omega), State.heap_pushCell_of_lt _ _ (show q < (eg_st T cA cB N M i).heap.size by omega)]
      exact a4 q hq
    · rw [eg_st_next]
      exact State.heap_setCell_self h0
    · rw [eg_st_next, State.heap_setCell_other (show T.heap.size ≠ T.heap.size + 1 + j by omega)]
      by_cases e : j < i
      · rw [State.heap_pushCell_of_lt _ _ (show T.heap.size + 1 + j < (eg_st T cA cB N M i).heap.size by omega)]
        exact a6 j e
      · obtain rfl : j = i := by omega
        rw [← a2]
        exact State.heap_pushCell_size _ _
theorem eg_top (T : State) (g : JFrame) (cA cB : ClassId) (N M : Nat) : ∀ i : Nat, eg_st (T.setTop g) cA cB N M i = (eg_st T cA cB N M i).setTop g := by
  intro i
  induction i with
  | zero => rfl
  | succ i ih => rw [eg_st_next, eg_st_next, ih, State.pushCell_setTop, State.heap_setTop, State.setCell_setTop]
/-- one array of the class number c, all its places alike -/
theorem eg_new {E : CtlPost} {e : Env} {d : Bool} {acts : List Action} {S : State} {c comp : ClassId} {k : Class} {ty : FieldType} {n : Nat} {v : Value} (hk : S.vm.classes[c]? = some k) (hki : k.kind = .array comp ty) (h1 : n ≤ e.platform.arrayLengthLimit) (h2 : n * componentBytes ty ≤ e.platform.maxHeapBytes) (hf : fits ty v = true) (hv : v.isDefault = true) (h3 : S.heap.size < e.platform.maxCells) (h4 : S.slotsUsed + n ≤ e.platform.maxSlots) {Q : Addr → Pre} (hq : Q S.heap.size d acts (S.pushCell { cls := c, slots := Array.replicate n v, vm := .none })) : wp (Jvm.newArray c n v) Q E e d acts S := by
  have e1 : ∀ (j : Nat) (x : Value), (Array.replicate n v)[j]? = some x → S.fitsSlot c .none j x = true := fun j x hx => by
    rw [Array.getElem?_replicate] at hx
    by_cases hj : j < n
    · rw [if_pos hj] at hx
      cases hx
      simp [State.fitsSlot, State.slotType?, hk, hki, hf]
    · rw [if_neg hj] at hx
      cases hx
  have e2 : allocActs (Array.replicate n v) S.heap.size acts = acts := by
    unfold allocActs
    rw [if_pos]
    rw [Array.all_replicate]
    by_cases hn : n = 0
    · rw [if_pos hn]
    · rw [if_neg hn]; exact hv
  have e3 : ¬ n > e.platform.arrayLengthLimit := by omega
  have e4 : ¬ n * componentBytes ty > e.platform.maxHeapBytes := by omega
  simp only [Jvm.newArray, Jvm.arrayFits, wp_bind', W.ask, W.ite, e3, if_false, wp_pure', W.theClass, hk, hki, e4, W.alloc, W.stop, Option.some.injEq, exists_eq_left', Array.size_replicate, e2]
  rw [if_neg (by omega)]
  exact ⟨h3, h4, e1, hq⟩
/-- the rows, one after another -/
theorem eg_make {E : CtlPost} {e : Env} {d : Bool} {acts : List Action} {S : State} {cA cB cC : ClassId} {kA kB : Class} {n m : Int32} {N M : Nat} (hkA : S.vm.classes[cA]? = some kA) (hA : kA.kind = .array cB (.array .int)) (hkB : S.vm.classes[cB]? = some kB) (hB : kB.kind = .array cC .int) (hn : ¬ n < 0) (hm : ¬ m < 0) (eN : n.toNatClampNeg = N) (eM : m.toNatClampNeg = M)
    (h1 : N ≤ e.platform.arrayLengthLimit) (h2 : M ≤ e.platform.arrayLengthLimit) (h3 : N * 4 ≤ e.platform.maxHeapBytes) (h4 : M * 4 ≤ e.platform.maxHeapBytes) (h5 : S.heap.size + 1 + N ≤ e.platform.maxCells) (h6 : S.slotsUsed + N + N * M ≤ e.platform.maxSlots) {Q : Addr → Pre} (hq : ∀ d' acts', Q S.heap.size d' acts' (eg_st S cA cB N M N)) : wp (multianewarray.make cA [n, m]) Q E e d acts S := by
  have hnone : ([m].find? (· < 0)) = none := by simp [hm]
  have hNM : 0 ≤ N * M := Nat.zero_le _
  unfold multianewarray.make
  simp only [wp_bind', W.ite, hn, if_false, wp_pure', W.theClass, hkA, hA, Option.some.injEq, exists_eq_left', eN]
  refine eg_new hkA hA h1 h3 rfl rfl (by omega) (by omega) ?_
  rw [eg_out_zero cA N S.heap.size]
  simp only [hnone]
  rw [ite_self, wp_bind', Std.Legacy.Range.forIn_eq_forIn_range', show ([:N] : Std.Legacy.Range).size = N by simp [Std.Legacy.Range.size]]
  show wp (forIn (List.range' 0 N 1) PUnit.unit _) _ E e d acts _
  refine wp_forIn_inv (fun todo S' => ∃ i j : Nat, i + j = N ∧ todo = List.range' i j ∧ S' = eg_st S cA cB N M i) _ _ ⟨0, N, Nat.zero_add N, rfl, rfl⟩ ?_ ?_
  · rintro x todo S' d' acts' Q' ⟨i, j, hij, hl, rfl⟩ next
    cases j with
    | zero => cases hl
    | succ j =>
      rw [List.range'_succ] at hl
      obtain ⟨rfl, rfl⟩ := List.cons.inj hl
      obtain ⟨a1, a2, a3, a4, a5, a6⟩ := eg_I_all S cA cB N M x
      have hroom : x * M + M ≤ N * M := by
        have h := Nat.mul_le_mul_right M (show x + 1 ≤ N by omega)
        rw [Nat.add_mul, Nat.one_mul] at h
        exact h
      simp only [wp_bind']
      unfold multianewarray.make
      simp only [wp_bind', W.ite, hm, if_false, wp_pure', W.theClass, a1, hkB, hB, Option.some.injEq, exists_eq_left', eM]
      refine eg_new (by rw [a1]; exact hkB) hB h2 h4 rfl rfl (by rw [a2]; omega) (by rw [a3]; omega) ?_
      rw [eg_row_zero]
      simp only [wp_bind', W.writeLoc, wp_pure']
      refine ⟨eg_out cA N S.heap.size x, (State.heap_pushCell_of_lt _ _ (show S.heap.size < (eg_st S cA cB N M x).heap.size by omega)).trans a5, (by intro h; cases h), (by rw [eg_out_size]; omega), ?_, next _ _ _ ⟨x + 1, j, by omega, rfl, ?_⟩⟩
      · show State.fitsSlot _ cA .none _ _ = true
        simp [State.fitsSlot, State.slotType?, a1, hkA, hA]
        rfl
      · rw [a2, eg_out_next]
        rfl
  · rintro S' d' acts' ⟨i, j, hij, hl, rfl⟩
    cases j with
    | zero =>
      obtain rfl : i = N := by omega
      simp only [wp_pure']
      exact hq _ _
    | succ j => rw [List.range'_succ] at hl; cases hl
/-- the rows are new: no writing to them is told -/
theorem eg_stand {p : Program} {l : Launch} {e : Env} {R : Room} {s : State} {m : MethodId} {args : Array Value} {below : List Frame} {meth : Method} {c : Code} {T : State} {locs : List Loc} {cells slots : Nat} (X : Stand p l e R s m args below meth c T locs cells slots) (hs : s.heap.size ≤ T.heap.size) (cA cB : ClassId) (N M : Nat) : ∀ i : Nat, Stand p l e R s m args below meth c (eg_st T cA cB N M i) locs (cells + 1 + i) (slots + N + i * M) := by
  intro i
  induction i with
  | zero =>
    have h := X.pushed (eg_out cA N T.heap.size 0)
    rw [eg_out_size] at h
    rw [Nat.zero_mul]
    exact h
  | succ i ih =>
    obtain ⟨a1, a2, a3, a4, a5, a6⟩ := eg_I_all T cA cB N M i
    have h0 : ((eg_st T cA cB N M i).pushCell (eg_row cB M)).heap[T.heap.size]? = some (eg_out cA N T.heap.size i) := (State.heap_pushCell_of_lt _ _ (show T.heap.size < (eg_st T cA cB N M i).heap.size by omega)).trans a5
    have h := (ih.pushed (eg_row cB M)).stored h0 i (.ref (T.heap.size + 1 + i))
    rw [eg_row_size, eg_out_next] at h
    have e3 : slots + N + (i + 1) * M = slots + N + i * M + M := by rw [Nat.add_mul]; omega
    rw [e3, eg_st_next]
    exact Stand.forget (locs := locs) h (fun q hq => by rcases List.mem_singleton.mp hq with rfl; exact hs)
theorem em_new {D : va_G} {A : Nat → Prop} {ws nw : va_W} {H H1 : Heap} (hP : va_P D ec_cl ws H) (hD : va_D A ws) (hold : ∀ q : Nat, q < H.size → H1[q]? = H[q]?) (hn : ∀ (k : Nat) (x : Nat × va_E), nw[k]? = some x → x.1 = H.size + k ∧ va_at D ec_cl x H1) (hA : ∀ q : Nat, H.size ≤ q → A q) : va_P D ec_cl (ws ++ nw) H1 ∧ va_D A (ws ++ nw) := by
  refine ⟨(hP.kept (fun k q hk => hold q.1 (hP k q hk).lt)).app (fun k x hx => (hn k x hx).2), hD.app ⟨fun i j x y hi hj hxy => ?_, fun k x hx => hA x.1 ?_⟩ (fun i j x y hi hj hxy => ?_)⟩
  · have h1 := (hn i x hi).1
    have h2 := (hn j y hj).1
    omega
  · have h1 := (hn k x hx).1
    omega
  · have h1 := (hP i x hi).lt
    have h2 := (hn j y hj).1
    omega
theorem em_mna_ok : em_mna := by
  intro p l e R s m args below meth c H locs cells slots Q cc pc ls rest D A ws τ own index n k N K' hexec hb hown hcl hov harr hK hP hD hS hA hn hk hN4 hK4 hce hsl hd kk
  have low : ∀ {z : Int32} {j : Nat}, z.toInt = (j : Int) → ¬ z < 0 ∧ z.toNatClampNeg = j := by
    intro z j hz
    refine ⟨fun q => ?_, ?_⟩
    · rw [Int32.lt_iff_toInt_lt, hz, Int32.toInt_zero] at q
      omega
    · show z.toInt.toNat = j
      rw [hz]; rfl
  obtain ⟨p1, e1⟩ := low hn
  obtain ⟨p2, e2⟩ := low hk
  intro T hT X
  obtain ⟨comp, cA, kA, o1, -, o3, o4, o5⟩ := hov
  obtain ⟨cB, kB, cC, b1, b2, b3⟩ := Cond.arrayClass_spec harr
  obtain rfl : comp = cB := Option.some.inj (o1.symm.trans b1)
  have tA : cA = τ 2 := Option.some.inj (o5.symm.trans (hK.2 2 (τ 2, .array .int) rfl).2)
  have tB : comp = τ 0 := Option.some.inj (b1.symm.trans (hK.2 0 (τ 0, .int) rfl).2)
  obtain ⟨c0, f0, hlink⟩ := Cond.classLink_spec hown hcl e.platform (by rw [X.admits.platform])
  obtain rfl : c0 = cA := Option.some.inj (f0.symm.trans o5)
  obtain ⟨w1, w2, w3⟩ := State.classEntry (e := e) X.warmed hlink
  generalize T.vm.noted m.cls index (.cls c0) = vm₁ at w1 w2 w3
  obtain ⟨kA', qA, rA⟩ := w2.alike.2.2 _ _ o3
  obtain ⟨kB', qB, rB⟩ := w2.alike.2.2 _ _ b2
  have X1 := X.noted w2
  have hTs : s.heap.size ≤ (T.setVm vm₁).heap.size := by show s.heap.size ≤ T.heap.size; rw [hT]; exact hS.1
  have XF := eg_stand X1 hTs c0 comp N K' N
  obtain ⟨r1, r2⟩ := X.roomAbove hce hsl
  obtain ⟨i1, i2, i3, i4, i5, i6⟩ := eg_I_all (T.setVm vm₁) c0 comp N K' N
  have hTh : (T.setVm vm₁).heap = H := hT
  rw [hTh] at i2 i4 i5 i6
  obtain ⟨g1, g2⟩ := em_new (nw := (H.size, .inl (τ 2, N, .inr (.inr (.inr (.inr (fun j => if j < N then some (H.size + 1 + j) else none)))))) :: (List.range N).map (fun i => (H.size + 1 + i, .inl (τ 0, K', .inl (fun _ => 0))))) hP hD i4 (fun j x hx => by
    cases j with
    | zero =>
      cases hx
      refine ⟨rfl, ?_⟩
      show _ = some (vp_cell _ _)
      rw [i5, vp_cell_q, ← tA]
      rfl
    | succ j =>
      rw [List.getElem?_cons_succ, List.getElem?_map] at hx
      by_cases hj : j < N
      · rw [List.getElem?_range hj] at hx
        cases hx
        refine ⟨by show H.size + 1 + j = H.size + (j + 1); omega, ?_⟩
        show _ = some (vp_cell _ _)
        rw [i6 j hj, vp_cell_i, ← tB]
        rfl
      · rw [List.getElem?_eq_none (by rw [List.length_range]; omega)] at hx
        cases hx) (fun q hq => hA q (Nat.le_trans hS.1 hq))
  obtain ⟨t, a1, z1⟩ := kk H.size (eg_st (T.setVm vm₁) c0 comp N K' N).heap _ (fun i hi => if_pos hi) g1 g2 ⟨by rw [i2]; have := hS.1; omega, fun q h1 h2 => (i4 q (Nat.lt_of_lt_of_le h1 hS.1)).trans (hS.2.1 q h1 h2), hS.2.2⟩ _ rfl XF
  refine ⟨t, ?_, z1⟩
  have hl : ∀ x : Nat, x ≤ 4096 → x ≤ e.platform.arrayLengthLimit ∧ x * 4 ≤ e.platform.maxHeapBytes := fun x hx => by
    rw [Launch.admits_arrayLengthLimit X.admits, Launch.admits_maxHeapBytes X.admits]
    constructor <;> omega
  jvm_step X.here [hexec, hb, hd]
  simp only [multianewarray.sem, wp_bind', W.resolveClassAt_links (State.method?_setTop (F0 m pc ls (.int k :: .int n :: rest)) X.here.top) w1]
  rw [W.popN, if_neg (by decide)]
  refine ⟨F0 m pc ls (.int k :: .int n :: rest), State.topJava?_setTop' (s := T.setVm vm₁) _ X.here.top, [.int n, .int k], rest, rfl, rfl, ?_⟩
  simp only [List.mapM_cons, List.mapM_nil, wp_bind', wp_pure']
  refine eg_make qA (by rw [rA]; exact o4) qB (by rw [rB]; exact b3) p1 p2 e1 e2 (hl N hN4).1 (hl K' hK4).1 (hl N hN4).2 (hl K' hK4).2 (by show T.heap.size + 1 + N ≤ _; omega) (by show T.slotsUsed + N + N * K' ≤ _; omega) (fun d' acts' => ?_)
  have eS : ∀ g1 : JFrame, ((T.setTop (F0 m pc ls (.int k :: .int n :: rest))).setVm vm₁).setTop g1 = (T.setVm vm₁).setTop g1 := fun g1 => by
    show ((T.setVm vm₁).setTop (F0 m pc ls (.int k :: .int n :: rest))).setTop g1 = _
    rw [State.setTop_setTop]
  rw [eS, eg_top]
  simp only [wp_bind', W.mark, W.pushRef, State.topJava?_setTop' _ XF.here.top, Option.some.injEq, exists_eq_left', State.setTop_setTop, State.heap_setTop]
  intro acts
  simp [jvm, XF.here.top]
  rw [← hTh] at a1
  exact a1
