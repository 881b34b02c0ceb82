/-! One instruction of the runner, and the machine: what makes cells, and arraycopy. Printed by wip/p1/gen10.py. -/
theorem er_push_r {ν : Nat → Int32} {sa : List Nat} {ws nw : va_W} (hs : sa.length = 5) {k : Nat} {x : Nat × va_E} (hx : nw[k]? = some x) : (er_r ν sa (ws ++ nw)).1[5 + ws.length + k]? = some x.1 := by
  unfold er_r
  simp only
  rw [List.getElem?_append_right (by omega), List.map_append, List.getElem?_append_right (by rw [List.length_map]; omega), List.length_map, List.getElem?_map]
  have e : 5 + ws.length + k - sa.length - ws.length = k := by omega
  rw [e, hx]
  rfl
theorem er_W.push {ν : Nat → Int32} {D : va_G} {τ : Nat → ClassId} {sa : List Nat} {ro : List ex_C} {A : Nat → Prop} {hp hp' : ex_H} {ws nw : va_W} {H H1 : Heap} (h : er_W ν D τ sa ro A hp ws H) {cs : List ex_C} (hl : nw.length = cs.length) (h1 : hp'.1 = hp.1 + cs.length)
    (h2 : ∀ (q : Nat) (c' : ex_C), ex_at hp' q = some c' → (∃ i, q = hp.1 + i ∧ cs[i]? = some c') ∨ ex_at hp q = some c') (hc : ∀ (i : Nat) (c' : ex_C) (x : Nat × va_E), cs[i]? = some c' → nw[i]? = some x → er_C τ (er_r ν sa (ws ++ nw)) c' x.2)
    (hP : va_P D ec_cl (ws ++ nw) H1) (hD : va_D A (ws ++ nw)) : er_W ν D τ sa ro A hp' (ws ++ nw) H1 := by
  obtain ⟨g1, g2, g3, g4, g5⟩ := h
  refine ⟨hP, hD, by rw [h1, g3, List.length_append, hl]; omega, fun q c' hq hc' => ?_, fun q c' hq hc' => ?_⟩
  · rcases h2 q c' hc' with ⟨i, e, -⟩ | e
    · omega
    · exact g4 q c' hq e
  · rcases h2 q c' hc' with ⟨i, e, hi⟩ | e
    · have hlt : i < nw.length := by rw [hl]; exact (List.getElem?_eq_some_iff.mp hi).1
      have hx : nw[i]? = some nw[i] := List.getElem?_eq_getElem hlt
      refine ⟨nw[i], ?_, hc i c' _ hi hx⟩
      rw [List.getElem?_append_right (by omega), show q - 5 - ws.length = i by omega]
      exact hx
    · obtain ⟨x, f1, f2⟩ := g5 q c' hq e
      refine ⟨x, ?_, f2.more (er_r.more ⟨nw.map Prod.fst, List.map_append⟩)⟩
      rw [List.getElem?_append_left (List.getElem?_eq_some_iff.mp f1).1]
      exact f1
theorem er_pre {ws0 ws nw : va_W} (h : ∃ ex, ws.map Prod.fst = ws0.map Prod.fst ++ ex) : ∃ ex, (ws ++ nw).map Prod.fst = ws0.map Prod.fst ++ ex := by
  obtain ⟨ex, h⟩ := h
  exact ⟨ex ++ nw.map Prod.fst, by rw [List.map_append, h, List.append_assoc]⟩
/-- a link to a class that is made -/
def ek_N (own : String) (i a : Nat) (cls : List (List ex_V)) : Prop := ∃ (C : String) (T : u_T) (N : Nat) (ty : Nat → FieldType), ec_cl[a]? = some (C, T, N) ∧ Jvm.Cond.classLink own i C ∈ eg_T ∧ Jvm.Cond.instantiable C N ∈ eg_T ∧ Jvm.Cond.initialized C ∈ eg_T ∧ ek_cls C T N ty ∧
  ∀ fs, cls[a]? = some fs → fs.length = N ∧ ∀ (j : Nat) (v : ex_V), fs[j]? = some v → ∀ ρ : ex_R, er_V ρ v (defaultValue (ty j))
section EC
variable {p : Program} {l : Launch} {e : Env} {R : Room} {s : State} {m : MethodId} {args : Array Value} {below : List Frame} {meth : Method} {c : Code} {H : Heap} {locs : List Loc} {cells slots : Nat} {Q : State → Prop}
variable {cc : ByteArray} {pc : Nat} {ls : Array Slot} {rest : List Value} {D : va_G} {cl : List vw_C} {A : Nat → Prop} {a : Nat} {tys : List (ClassId × FieldType)} {ws : va_W}
/-- arraycopy out of an int array that nobody writes -/
theorem em_copyt (hexec : p.tables.exec = Jvm.exec) (hb : c.code = cc) (hml : c.maxLocals = ls.size) {own : String} {index : Nat} (hown : s.vm.findClass own = some m.cls) (hlink : (Cond.methodLink own index arraycopyName).before args s = true) (hnat : (Cond.native arraycopyName).before args s = true) (hstat : (Cond.static arraycopyName).before args s = true) (hini : (Cond.initialized "java/lang/System").before args s = true)
    (hK : va_K D cl tys s) (hP : va_P D cl ws H) (hD : va_D A ws) (hS : va_S A s.heap H locs) {b0 n0 : Nat} {f : Nat → Int32} (hX : va_T .int b0 n0 (fun j => .int (f j)) A s s.heap) (q1 t1 : Nat) {c1 : ClassId} {n1 : Nat} {g : Nat → Int32} (ha1 : ws[q1]? = some (a, .inl (c1, n1, .inl g))) (ht1 : tys[t1]? = some (c1, .int))
    {sp dp n : Int32} {sp' dp' n' : Nat} (h1 : sp.toInt = (sp' : Int)) (h2 : dp.toInt = (dp' : Int)) (h3 : n.toInt = (n' : Int)) (h4 : sp' + n' ≤ n0) (h5 : dp' + n' ≤ n1)
    (hframes : 1 ≤ R.frames) (hlocals : (rest.map fun v => v.category).sum + (nativeFrameWords "java/lang/System" "arraycopy" 5 + 11) ≤ R.locals) (hdg : decode cc pc = .ok (.invokestatic index, 3))
    (kk : ∀ (H1 : Heap) (locs1 : List Loc), va_P D cl (ws.set q1 (a, .inl (c1, n1, .inl (va_cpy f g sp' dp' n')))) H1 → va_D A (ws.set q1 (a, .inl (c1, n1, .inl (va_cpy f g sp' dp' n')))) → va_S A s.heap H1 locs1 → W p l e R s m args below meth c H1 locs1 cells slots Q (F0 m (pc + 3) ls rest)) : W p l e R s m args below meth c H locs cells slots Q (F0 m pc ls (.int n :: .int dp :: .ref a :: .int sp :: .ref b0 :: rest)) := by
  have low : ∀ {z : Int32} {k : Nat}, z.toInt = (k : Int) → ¬ z < 0 ∧ z.toNatClampNeg = k := by
    intro z k hz
    refine ⟨fun q => ?_, ?_⟩
    · rw [Int32.lt_iff_toInt_lt, hz, Int32.toInt_zero] at q
      omega
    · show z.toInt.toNat = k
      rw [hz]; rfl
  obtain ⟨p1, e1⟩ := low h1
  obtain ⟨p2, e2⟩ := low h2
  obtain ⟨p3, e3⟩ := low h3
  subst e1; subst e2; subst e3
  intro T hT X
  obtain ⟨scr, hs1, hs2, hs3, hs4, -, hs5, hs7⟩ := hX
  have hc0 : H[b0]? = some scr := by rw [hS.2.1 b0 (Array.getElem?_eq_some_iff.mp hs1).1 hs7]; exact hs1
  have hc1 : H[a]? = some (vp_cell c1 (n1, .inl g)) := hP q1 _ ha1
  obtain ⟨hs6, k0, hk0, cm0, hkk0⟩ := hs2
  obtain ⟨-, k1, hk1, cm1, hkk1⟩ := (hK.2 t1 _ ht1).1 n1 (fun j => .int (g j))
  obtain ⟨vm', X', step⟩ := X.arraycopy hexec hown hlink hnat hstat hini (src := b0) (dst := a) (cs := scr) (cd := vp_cell c1 (n1, .inl g)) (srcPos := sp) (destPos := dp) (n := n) (by rw [hT]; exact hc0) (by rw [hT]; exact hc1)
    hs6 (fun _ h => by cases h) hs3 (fun h => by cases h) hk0 hk1 hkk0 hkk1 (by simp [refKind]) p1 p2 p3
    (by rw [h1, h3]; omega)
    (by rw [h2, h3]; show ¬ _ > ((arrV c1 n1 (fun j => .int (g j))).slots.size : Int); rw [arrV_size]; omega)
    (fun vm₁ _ i hi => by
      have e : scr.slots.getD (sp.toNatClampNeg + i) .null = .int (f (sp.toNatClampNeg + i)) := by
        rw [Array.getD_eq_getD_getElem?, hs5 _ (by omega)]
        rfl
      refine ⟨?_, ?_⟩
      · rw [e]
        rfl
      · rw [e]
        exact trivial)
    (g := F0 m pc ls (.int n :: .int dp :: .ref a :: .int sp :: .ref b0 :: rest)) rfl (by rw [hml]) (rest := rest) rfl (by rw [hb]; exact hdg) hframes (by show 2 * 0 + _ + _ ≤ _; omega)
  have e1 : copied scr (vp_cell c1 (n1, .inl g)) sp dp n = vp_cell c1 (n1, .inl (va_cpy f g sp.toNatClampNeg dp.toNatClampNeg n.toNatClampNeg)) := va_copiedX (fun z => .int z) scr c1 f g hs5 h4
  rw [e1] at X' step
  have hl : a < H.size := (Array.getElem?_eq_some_iff.mp hc1).1
  generalize hnew : vp_cell c1 (n1, .inl (va_cpy f g sp.toNatClampNeg dp.toNatClampNeg n.toNatClampNeg)) = nc at X' step
  have oq : ∀ q : Nat, q ≠ a → (H.setIfInBounds a nc)[q]? = H[q]? := fun q hq => by simp [Array.getElem?_setIfInBounds, Ne.symm hq]
  obtain ⟨t, a1, b1⟩ := kk (H.setIfInBounds a nc) _ (hP.set hD ha1 (show (H.setIfInBounds a nc)[a]? = some _ by rw [hnew]; simp [Array.getElem?_setIfInBounds, hl]) oq) (hD.set ha1) ⟨by simp; exact hS.1, fun q g1 g2 => by
      rw [oq q (fun e => g2 (by rw [e]; exact hD.2 q1 _ ha1))]
      exact hS.2.1 q g1 g2, fun q hq => by
      rcases List.mem_append.mp hq with h | h
      · exact hS.2.2 q h
      · obtain ⟨z, -, hz⟩ := List.mem_map.mp h
        rw [← hz]
        exact hD.2 q1 _ ha1⟩ ((T.setVm vm').setCell a nc) (by rw [← hT]; rfl) X'
  exact ⟨t, step t a1, b1⟩
end EC
/-- new int[n][k]: an outer array, then the inner ones; still owed (see NOTES.md) -/
def em_mna : Prop := ∀ (p : Program) (l : Launch) (e : Env) (R : Room) (s : State) (m : MethodId) (args : Array Value) (below : List Frame) (meth : Method) (c : Code) (H : Heap) (locs : List Loc) (cells slots : Nat) (Q : State → Prop) (cc : ByteArray) (pc : Nat) (ls : Array Slot) (rest : List Value) (D : va_G) (A : Nat → Prop) (ws : va_W) (τ : Nat → ClassId) (own : String) (index : Nat) (n k : Int32) (N K' : Nat),
  p.tables.exec = Jvm.exec → c.code = cc → s.vm.findClass own = some m.cls → (Jvm.Cond.classLink own index "[[I").before args s = true → er_ov s → (Jvm.Cond.arrayClass .int).before args s = true →
  va_K D ec_cl (ec_tys τ) s → va_P D ec_cl ws H → va_D A ws → va_S A s.heap H locs → (∀ q : Nat, s.heap.size ≤ q → A q) → n.toInt = (N : Int) → k.toInt = (K' : Int) → N ≤ 4096 → K' ≤ 4096 → cells + (1 + N) ≤ R.cells → slots + (N + N * K') ≤ R.slots → decode cc pc = .ok (.multianewarray index 2, 4) →
  (∀ (q : Nat) (H1 : Heap) (f : Nat → Option Nat), (∀ i : Nat, i < N → f i = some (q + 1 + i)) → va_P D ec_cl (ws ++ ((q, .inl (τ 2, N, .inr (.inr (.inr (.inr f))))) :: (List.range N).map (fun i => (q + 1 + i, .inl (τ 0, K', .inl (fun _ => 0)))))) H1 → va_D A (ws ++ ((q, .inl (τ 2, N, .inr (.inr (.inr (.inr f))))) :: (List.range N).map (fun i => (q + 1 + i, .inl (τ 0, K', .inl (fun _ => 0)))))) → va_S A s.heap H1 locs →
    W p l e R s m args below meth c H1 locs (cells + 1 + N) (slots + N + N * K') Q (F0 m (pc + 4) ls (.ref q :: rest))) →
  W p l e R s m args below meth c H locs cells slots Q (F0 m pc ls (.int k :: .int n :: rest))

section ES
variable {p : Program} {l : Launch} {e : Env} {R : Room} {s : State} {m : MethodId} {args : Array Value} {below : List Frame} {meth : Method} {c : Code} {Q : State → Prop} {ν : Nat → Int32} {D : va_G} {τ : Nat → ClassId} {sa : List Nat} {ro : List ex_C} {A : Nat → Prop} {ws0 : va_W} {bytes : ByteArray} {nL : Nat} {own : String}
variable {cls : List (List ex_V)} {vt : List (List (Nat × Nat))} {lim : Nat × Nat} {ret : Option FieldType} {go : Nat → List (Option ex_V) → List ex_V → ex_H → Nat → Nat → Bool} {cal : Nat → List ex_V → ex_H → Nat → Nat → (Option ex_V → ex_H → Nat → Nat → Bool) → Bool} {nat : Bool} {K : Option ex_V → ex_H → Bool} {pc a b : Nat} {z : Int} {ls : List (Option ex_V)} {st : List ex_V} {hp : ex_H} {ce sl : Nat}

theorem es_new (B : eb_B p s m args c bytes nL own D τ sa ro A) (hgo : ∀ pc ls st hp ce sl, go pc ls st hp ce sl = true → ew_G p l e R s m args below meth c Q ν D τ sa ro A ws0 nL pc ls st hp ce sl) {i : Nat} (hl : ek_N own i a cls) (hlim : lim.1 ≤ R.cells ∧ lim.2 ≤ R.slots) (hd : decode bytes pc = .ok (.new i, 3)) (h : ex_step cls vt lim ret go cal nat K pc (.new i) a b z ls st hp ce sl = true) : ew_G p l e R s m args below meth c Q ν D τ sa ro A ws0 nL pc ls st hp ce sl := by
  intro H locs lsA stA ws hL hT hP hS hw
  obtain ⟨hx, hb, hml, hown, hts, hE⟩ := id B
  have h : ex_get cls a (fun fs => if Nat.ble (ce + 1) lim.1 && Nat.ble (sl + fs.length) lim.2 then ex_n hp.1 (fun h => ex_n (ce + 1) (fun ce => ex_n (sl + fs.length) (fun sl => ex_hpush hp (3, a, 0, 0, fs) (fun hp' => ex_n (pc + 3) (fun pc => go pc ls (.inr (.inr (.inl (some h))) :: st) hp' ce sl))))) else false) = true := h
  obtain ⟨fs, hf, h⟩ := ex_get_ok _ _ _ h
  by_cases hc : (Nat.ble (ce + 1) lim.1 && Nat.ble (sl + fs.length) lim.2) = true
  · rw [if_pos hc, ex_n_eq, ex_n_eq, ex_n_eq] at h
    rw [Bool.and_eq_true] at hc
    have c1 := Nat.le_of_ble_eq_true hc.1
    have c2 := Nat.le_of_ble_eq_true hc.2
    obtain ⟨hp', j1, j2, hk⟩ := ex_hpush_ok h
    rw [ex_n_eq] at hk
    obtain ⟨C, T, N, ty, k1, k2, k3, k4, k5, k6⟩ := hl
    obtain ⟨k7, k8⟩ := k6 fs hf
    subst k7
    refine va_new (ci := a) (fs := (List.range fs.length).map (fun j => defaultValue (ty j))) hx hb hts k5.1 ty k5.2.1 hown (hts _ k2) (hts _ k3) (hts _ k4) hE.1 hP.1 hP.2.1 hS hE.2.2.2.2.2.1.1 k1 (fun j hj => ?_) (by omega) (by omega) hd (fun q H1 hP1 hD1 hS1 => ?_)
    · unfold vp_V
      rw [List.getD_eq_getElem?_getD, List.getElem?_map, List.getElem?_range hj]
      rfl
    · have hW1 : er_W ν D τ sa ro A hp' (ws ++ [(q, .inr (a, (List.range fs.length).map (fun j => defaultValue (ty j))))]) H1 := by
        refine hP.push (cs := [(3, a, 0, 0, fs)]) rfl j1 (fun q c' hq => ?_) (fun i c' x hi hx => ?_) hP1 hD1
        · rcases j2 q c' hq with ⟨e1, e2⟩ | e
          · exact Or.inl ⟨0, by omega, by rw [e2]; rfl⟩
          · exact Or.inr e
        · have hi0 : i = 0 := by have := (List.getElem?_eq_some_iff.mp hi).1; simp at this; omega
          subst hi0
          cases hi
          cases hx
          refine Or.inr (Or.inr (Or.inr ⟨rfl, _, rfl, by rw [List.length_map, List.length_range], fun j v hv => ?_⟩))
          have hj : j < fs.length := (List.getElem?_eq_some_iff.mp hv).1
          exact ⟨defaultValue (ty j), by rw [List.getElem?_map, List.getElem?_range hj]; rfl, k8 j v hv _⟩
      have hm : er_ext (er_r ν sa ws) (er_r ν sa (ws ++ [(q, .inr (a, (List.range fs.length).map (fun j => defaultValue (ty j))))])) := er_r.more ⟨_, List.map_append⟩
      exact hgo _ _ _ _ _ _ hk H1 locs lsA _ _ (hL.more hm) ⟨⟨q, by have := er_push_r (ν := ν) (ws := ws) (k := 0) hE.2.1 (nw := [(q, .inr (a, (List.range fs.length).map (fun j => defaultValue (ty j))))]) rfl; rw [hP.2.2.1]; exact this, rfl⟩, hT.more hm⟩ hW1 hS1 (er_pre hw)
  · rw [if_neg hc] at h; exact absurd h Bool.false_ne_true
theorem es_newarray_int (B : eb_B p s m args c bytes nL own D τ sa ro A) (hgo : ∀ pc ls st hp ce sl, go pc ls st hp ce sl = true → ew_G p l e R s m args below meth c Q ν D τ sa ro A ws0 nL pc ls st hp ce sl) (har : Jvm.Cond.arrayClass .int ∈ eg_T) (hlim : lim.1 ≤ R.cells ∧ lim.2 ≤ R.slots) (hd : decode bytes pc = .ok (.newarray .int, 2)) (h : ex_step cls vt lim ret go cal nat K pc (.newarray .int) a b z ls st hp ce sl = true) : ew_G p l e R s m args below meth c Q ν D τ sa ro A ws0 nL pc ls st hp ce sl := by
  intro H locs lsA stA ws hL hT hP hS hw
  obtain ⟨hx, hb, hml, hown, hts, hE⟩ := id B
  match st, h, hT with
  | [], h, _ => exact absurd h Bool.false_ne_true
  | x :: r, h, hT =>
    have h : ex_ix x (fun n => if Nat.ble n 4096 && Nat.ble (ce + 1) lim.1 && Nat.ble (sl + n) lim.2 then ex_n (ex_pz n) (fun p => ex_n hp.1 (fun h => ex_n (ce + 1) (fun ce => ex_n (sl + n) (fun sl => ex_hpush hp (0, 0, n, p, []) (fun hp' => ex_n (pc + 2) (fun pc => go pc ls (.inr (.inr (.inl (some h))) :: r) hp' ce sl)))))) else false) = true := h
    obtain ⟨vx, s2, rfl, hxv, hU⟩ := hT.cons
    obtain ⟨xi, n, rfl, hxi, h⟩ := ex_ix_ok h hxv
    by_cases hc : (Nat.ble n 4096 && Nat.ble (ce + 1) lim.1 && Nat.ble (sl + n) lim.2) = true
    · rw [if_pos hc, ex_n_eq, ex_n_eq, ex_n_eq, ex_n_eq] at h
      simp only [Bool.and_eq_true] at hc
      have c0 := Nat.le_of_ble_eq_true hc.1.1
      have c1 := Nat.le_of_ble_eq_true hc.1.2
      have c2 := Nat.le_of_ble_eq_true hc.2
      obtain ⟨hp', j1, j2, hk⟩ := ex_hpush_ok h
      rw [ex_n_eq] at hk
      obtain ⟨-, hcl⟩ := ex_ix_in hxi (Nat.lt_succ_self n)
      have hn0 : ¬ xi < 0 := fun q => by
        rw [Int32.lt_iff_toInt_lt, hxi, Int32.toInt_zero] at q
        omega
      refine va_newa (atype := .int) (ty := .int) (a0 := (n, .inl (fun _ => 0))) (N' := n) hx hb (hts _ har) rfl hE.1 hP.1 hP.2.1 hS hE.2.2.2.2.2.1.1 (fun _ => rfl) hn0 hcl (by show n * _ ≤ _; simp only [componentBytes]; omega) (by omega) (by omega) hd (fun q cA H1 hK1 hP1 hD1 hS1 => ?_)
      have hcA : cA = τ 0 := by
        have e1 : va_RA s cA .int := (hK1.2 5 (cA, .int) rfl).2
        have e2 : va_RA s (τ 0) .int := (hE.1.2 0 (τ 0, .int) rfl).2
        exact Option.some.inj (e1.symm.trans e2)
      subst hcA
      have hW1 : er_W ν D τ sa ro A hp' (ws ++ [(q, .inl (τ 0, n, .inl (fun _ => 0)))]) H1 := by
        refine hP.push (cs := [(0, 0, n, ex_pz n, [])]) rfl j1 (fun q c' hq => ?_) (fun i c' x hi hx => ?_) hP1 hD1
        · rcases j2 q c' hq with ⟨e1, e2⟩ | e
          · exact Or.inl ⟨0, by omega, by rw [e2]; rfl⟩
          · exact Or.inr e
        · have hi0 : i = 0 := by have := (List.getElem?_eq_some_iff.mp hi).1; simp at this; omega
          subst hi0
          cases hi
          cases hx
          exact Or.inl ⟨rfl, _, rfl, er_A.zero n, trivial⟩
      have hm : er_ext (er_r ν sa ws) (er_r ν sa (ws ++ [(q, .inl (τ 0, n, .inl (fun _ => 0)))])) := er_r.more ⟨_, List.map_append⟩
      exact hgo _ _ _ _ _ _ hk H1 locs lsA _ _ (hL.more hm) ⟨⟨q, by have := er_push_r (ν := ν) (ws := ws) (k := 0) hE.2.1 (nw := [(q, .inl (τ 0, n, .inl (fun _ => 0)))]) rfl; rw [hP.2.2.1]; exact this, rfl⟩, hU.more hm⟩ hW1 hS1 (er_pre hw)
    · rw [if_neg hc] at h; exact absurd h Bool.false_ne_true
theorem es_newarray_boolean (B : eb_B p s m args c bytes nL own D τ sa ro A) (hgo : ∀ pc ls st hp ce sl, go pc ls st hp ce sl = true → ew_G p l e R s m args below meth c Q ν D τ sa ro A ws0 nL pc ls st hp ce sl) (har : Jvm.Cond.arrayClass .boolean ∈ eg_T) (hlim : lim.1 ≤ R.cells ∧ lim.2 ≤ R.slots) (hd : decode bytes pc = .ok (.newarray .boolean, 2)) (h : ex_step cls vt lim ret go cal nat K pc (.newarray .boolean) a b z ls st hp ce sl = true) : ew_G p l e R s m args below meth c Q ν D τ sa ro A ws0 nL pc ls st hp ce sl := by
  intro H locs lsA stA ws hL hT hP hS hw
  obtain ⟨hx, hb, hml, hown, hts, hE⟩ := id B
  match st, h, hT with
  | [], h, _ => exact absurd h Bool.false_ne_true
  | x :: r, h, hT =>
    have h : ex_ix x (fun n => if Nat.ble n 4096 && Nat.ble (ce + 1) lim.1 && Nat.ble (sl + n) lim.2 then ex_n (ex_pz n) (fun p => ex_n hp.1 (fun h => ex_n (ce + 1) (fun ce => ex_n (sl + n) (fun sl => ex_hpush hp (1, 1, n, p, []) (fun hp' => ex_n (pc + 2) (fun pc => go pc ls (.inr (.inr (.inl (some h))) :: r) hp' ce sl)))))) else false) = true := h
    obtain ⟨vx, s2, rfl, hxv, hU⟩ := hT.cons
    obtain ⟨xi, n, rfl, hxi, h⟩ := ex_ix_ok h hxv
    by_cases hc : (Nat.ble n 4096 && Nat.ble (ce + 1) lim.1 && Nat.ble (sl + n) lim.2) = true
    · rw [if_pos hc, ex_n_eq, ex_n_eq, ex_n_eq, ex_n_eq] at h
      simp only [Bool.and_eq_true] at hc
      have c0 := Nat.le_of_ble_eq_true hc.1.1
      have c1 := Nat.le_of_ble_eq_true hc.1.2
      have c2 := Nat.le_of_ble_eq_true hc.2
      obtain ⟨hp', j1, j2, hk⟩ := ex_hpush_ok h
      rw [ex_n_eq] at hk
      obtain ⟨-, hcl⟩ := ex_ix_in hxi (Nat.lt_succ_self n)
      have hn0 : ¬ xi < 0 := fun q => by
        rw [Int32.lt_iff_toInt_lt, hxi, Int32.toInt_zero] at q
        omega
      refine va_newa (atype := .boolean) (ty := .boolean) (a0 := (n, .inl (fun _ => 0))) (N' := n) hx hb (hts _ har) rfl hE.1 hP.1 hP.2.1 hS hE.2.2.2.2.2.1.1 (fun _ => rfl) hn0 hcl (by show n * _ ≤ _; simp only [componentBytes]; omega) (by omega) (by omega) hd (fun q cA H1 hK1 hP1 hD1 hS1 => ?_)
      have hcA : cA = τ 1 := by
        have e1 : va_RA s cA .boolean := (hK1.2 5 (cA, .boolean) rfl).2
        have e2 : va_RA s (τ 1) .boolean := (hE.1.2 1 (τ 1, .boolean) rfl).2
        exact Option.some.inj (e1.symm.trans e2)
      subst hcA
      have hW1 : er_W ν D τ sa ro A hp' (ws ++ [(q, .inl (τ 1, n, .inl (fun _ => 0)))]) H1 := by
        refine hP.push (cs := [(1, 1, n, ex_pz n, [])]) rfl j1 (fun q c' hq => ?_) (fun i c' x hi hx => ?_) hP1 hD1
        · rcases j2 q c' hq with ⟨e1, e2⟩ | e
          · exact Or.inl ⟨0, by omega, by rw [e2]; rfl⟩
          · exact Or.inr e
        · have hi0 : i = 0 := by have := (List.getElem?_eq_some_iff.mp hi).1; simp at this; omega
          subst hi0
          cases hi
          cases hx
          exact Or.inr (Or.inl ⟨rfl, _, rfl, er_A.zero n, trivial⟩)
      have hm : er_ext (er_r ν sa ws) (er_r ν sa (ws ++ [(q, .inl (τ 1, n, .inl (fun _ => 0)))])) := er_r.more ⟨_, List.map_append⟩
      exact hgo _ _ _ _ _ _ hk H1 locs lsA _ _ (hL.more hm) ⟨⟨q, by have := er_push_r (ν := ν) (ws := ws) (k := 0) hE.2.1 (nw := [(q, .inl (τ 1, n, .inl (fun _ => 0)))]) rfl; rw [hP.2.2.1]; exact this, rfl⟩, hU.more hm⟩ hW1 hS1 (er_pre hw)
    · rw [if_neg hc] at h; exact absurd h Bool.false_ne_true
theorem es_anewarray (B : eb_B p s m args c bytes nL own D τ sa ro A) (hgo : ∀ pc ls st hp ce sl, go pc ls st hp ce sl = true → ew_G p l e R s m args below meth c Q ν D τ sa ro A ws0 nL pc ls st hp ce sl) {i : Nat} {C : String} (hli : Jvm.Cond.classLink own i C ∈ eg_T) (hC : C = "WarmNight$Carriage" ∨ C = "WarmNight$Even") (hty : (ec_tys τ)[a]? = some (τ a, .object C)) (hlim : lim.1 ≤ R.cells ∧ lim.2 ≤ R.slots) (hd : decode bytes pc = .ok (.anewarray i, 3)) (h : ex_step cls vt lim ret go cal nat K pc (.anewarray i) a b z ls st hp ce sl = true) : ew_G p l e R s m args below meth c Q ν D τ sa ro A ws0 nL pc ls st hp ce sl := by
  intro H locs lsA stA ws hL hT hP hS hw
  obtain ⟨hx, hb, hml, hown, hts, hE⟩ := id B
  match st, h, hT with
  | [], h, _ => exact absurd h Bool.false_ne_true
  | x :: r, h, hT =>
    have h : ex_ix x (fun n => if Nat.ble n 4096 && Nat.ble (ce + 1) lim.1 && Nat.ble (sl + n) lim.2 then ex_rep n (.inr (.inr (.inl none))) (fun xs => ex_n hp.1 (fun h => ex_n (ce + 1) (fun ce => ex_n (sl + n) (fun sl => ex_hpush hp (2, a, 0, 0, xs) (fun hp' => ex_n (pc + 3) (fun pc => go pc ls (.inr (.inr (.inl (some h))) :: r) hp' ce sl)))))) else false) = true := h
    obtain ⟨vx, s2, rfl, hxv, hU⟩ := hT.cons
    obtain ⟨xi, n, rfl, hxi, h⟩ := ex_ix_ok h hxv
    by_cases hc : (Nat.ble n 4096 && Nat.ble (ce + 1) lim.1 && Nat.ble (sl + n) lim.2) = true
    · rw [if_pos hc, ex_rep_eq, ex_n_eq, ex_n_eq, ex_n_eq] at h
      simp only [Bool.and_eq_true] at hc
      have c0 := Nat.le_of_ble_eq_true hc.1.1
      have c1 := Nat.le_of_ble_eq_true hc.1.2
      have c2 := Nat.le_of_ble_eq_true hc.2
      obtain ⟨hp', j1, j2, hk⟩ := ex_hpush_ok h
      rw [ex_n_eq] at hk
      obtain ⟨-, hcl⟩ := ex_ix_in hxi (Nat.lt_succ_self n)
      have hn0 : ¬ xi < 0 := fun q => by
        rw [Int32.lt_iff_toInt_lt, hxi, Int32.toInt_zero] at q
        omega
      have hov' : va_AO C s := by
        rcases hC with rfl | rfl
        · exact hE.2.2.2.2.2.2.1.2.1
        · exact hE.2.2.2.2.2.2.1.2.2.1
      refine va_newq (C := C) (N' := n) hx hb hown (hts _ hli) hov' hE.1 hP.1 hP.2.1 hS hE.2.2.2.2.2.1.1 hn0 hcl (by omega) (by omega) (by omega) hd (fun q cA H1 hK1 hP1 hD1 hS1 => ?_)
      have hcA : cA = τ a := by
        obtain ⟨-, -, -, -, -, e1⟩ := (hK1.2 5 (cA, .object C) rfl).2
        obtain ⟨-, -, -, -, -, e2⟩ := (hE.1.2 a (τ a, .object C) hty).2
        exact Option.some.inj (e1.symm.trans e2)
      subst hcA
      have hW1 : er_W ν D τ sa ro A hp' (ws ++ [(q, .inl (τ a, n, .inr (.inr (.inr (.inr (fun _ => none))))))]) H1 := by
        refine hP.push (cs := [(2, a, 0, 0, List.replicate n (.inr (.inr (.inl none))))]) rfl j1 (fun q c' hq => ?_) (fun i c' x hi hx => ?_) hP1 hD1
        · rcases j2 q c' hq with ⟨e1, e2⟩ | e
          · exact Or.inl ⟨0, by omega, by rw [e2]; rfl⟩
          · exact Or.inr e
        · have hi0 : i = 0 := by have := (List.getElem?_eq_some_iff.mp hi).1; simp at this; omega
          subst hi0
          cases hi
          cases hx
          refine Or.inr (Or.inr (Or.inl ⟨rfl, ⟨_, hty, rfl⟩, fun _ => none, by show _ = Sum.inl (τ a, (List.replicate n _).length, _); rw [List.length_replicate], fun j v hv => ?_⟩))
          have hv : (List.replicate n ((.inr (.inr (.inl none))) : ex_V))[j]? = some v := hv
          rw [List.getElem?_replicate] at hv
          split at hv
          · cases hv; rfl
          · cases hv
      have hm : er_ext (er_r ν sa ws) (er_r ν sa (ws ++ [(q, .inl (τ a, n, .inr (.inr (.inr (.inr (fun _ => none))))))])) := er_r.more ⟨_, List.map_append⟩
      exact hgo _ _ _ _ _ _ hk H1 locs lsA _ _ (hL.more hm) ⟨⟨q, by have := er_push_r (ν := ν) (ws := ws) (k := 0) hE.2.1 (nw := [(q, .inl (τ a, n, .inr (.inr (.inr (.inr (fun _ => none))))))]) rfl; rw [hP.2.2.1]; exact this, rfl⟩, hU.more hm⟩ hW1 hS1 (er_pre hw)
    · rw [if_neg hc] at h; exact absurd h Bool.false_ne_true
theorem es_multianewarray (B : eb_B p s m args c bytes nL own D τ sa ro A) (hgo : ∀ pc ls st hp ce sl, go pc ls st hp ce sl = true → ew_G p l e R s m args below meth c Q ν D τ sa ro A ws0 nL pc ls st hp ce sl) {i : Nat} (hmn : em_mna) (hli : Jvm.Cond.classLink own i "[[I" ∈ eg_T) (har : Jvm.Cond.arrayClass .int ∈ eg_T) (hlim : lim.1 ≤ R.cells ∧ lim.2 ≤ R.slots) (hd : decode bytes pc = .ok (.multianewarray i 2, 4)) (h : ex_step cls vt lim ret go cal nat K pc (.multianewarray i 2) a b z ls st hp ce sl = true) : ew_G p l e R s m args below meth c Q ν D τ sa ro A ws0 nL pc ls st hp ce sl := by
  intro H locs lsA stA ws hL hT hP hS hw
  obtain ⟨hx, hb, hml, hown, hts, hE⟩ := id B
  match st, h, hT with
  | [], h, _ => exact absurd h Bool.false_ne_true
  | [_], h, _ => exact absurd h Bool.false_ne_true
  | y :: x :: r, h, hT =>
    have h : (if Nat.beq 2 2 then ex_ix x (fun n => ex_ix y (fun k => if Nat.ble n 4096 && Nat.ble k 4096 && Nat.ble (ce + (1 + n)) lim.1 && Nat.ble (sl + (n + n * k)) lim.2 then ex_n (ex_pz k) (fun p => ex_rep n ((0, 0, k, p, []) : ex_C) (fun rows => ex_n hp.1 (fun h => ex_refs n (h + 1) (fun rs => ex_n (ce + 1 + n) (fun ce => ex_n (sl + n + n * k) (fun sl => ex_hpushs ((2, 2, 0, 0, rs) :: rows) hp (fun hp' => ex_n (pc + 4) (fun pc => go pc ls (.inr (.inr (.inl (some h))) :: r) hp' ce sl)))))))) else false)) else false) = true := h
    obtain ⟨vy, s1, rfl, hy, hU1⟩ := hT.cons
    obtain ⟨vx, s2, rfl, hxv, hU⟩ := hU1.cons
    rw [if_pos (show Nat.beq 2 2 = true from rfl)] at h
    obtain ⟨xi, n, rfl, hxi, h⟩ := ex_ix_ok h hxv
    obtain ⟨yi, k, rfl, hyi, h⟩ := ex_ix_ok h hy
    by_cases hc : (Nat.ble n 4096 && Nat.ble k 4096 && Nat.ble (ce + (1 + n)) lim.1 && Nat.ble (sl + (n + n * k)) lim.2) = true
    · rw [if_pos hc, ex_n_eq, ex_rep_eq, ex_n_eq, ex_refs_eq, ex_n_eq, ex_n_eq] at h
      simp only [Bool.and_eq_true] at hc
      have c0 := Nat.le_of_ble_eq_true hc.1.1.1
      have c3 := Nat.le_of_ble_eq_true hc.1.1.2
      have c1 := Nat.le_of_ble_eq_true hc.1.2
      have c2 := Nat.le_of_ble_eq_true hc.2
      obtain ⟨hp', j1, j2, hk⟩ := ex_hpushs_ok _ _ _ h
      rw [ex_n_eq] at hk
      refine hmn p l e R s m args below meth c H locs ce sl Q bytes pc lsA s2 D A ws τ own i xi yi n k hx hb hown (hts _ hli) hE.2.2.2.2.2.2.1.1 (hts _ har) hE.1 hP.1 hP.2.1 hS hE.2.2.2.2.2.1.1 hxi hyi c0 c3 (by omega) (by omega) hd (fun q H1 f hf hP1 hD1 hS1 => ?_)
      generalize hnw : (((q, .inl (τ 2, n, .inr (.inr (.inr (.inr f))))) : Nat × va_E) :: (List.range n).map (fun i => (q + 1 + i, .inl (τ 0, k, .inl (fun _ => 0))))) = nw at hP1 hD1
      have hlen : nw.length = n + 1 := by rw [← hnw, List.length_cons, List.length_map, List.length_range]
      have hat0 : nw[0]? = some (q, .inl (τ 2, n, .inr (.inr (.inr (.inr f))))) := by rw [← hnw]; rfl
      have hats : ∀ j, j < n → nw[j + 1]? = some (q + 1 + j, .inl (τ 0, k, .inl (fun _ => 0))) := fun j hj => by
        rw [← hnw, List.getElem?_cons_succ, List.getElem?_map, List.getElem?_range hj]
        rfl
      have hr0 : (er_r ν sa (ws ++ nw)).1[hp.1]? = some q := by
        have := er_push_r (ν := ν) (ws := ws) hE.2.1 hat0
        rw [hP.2.2.1]
        exact this
      have hrs : ∀ j, j < n → (er_r ν sa (ws ++ nw)).1[hp.1 + 1 + j]? = some (q + 1 + j) := fun j hj => by
        have := er_push_r (ν := ν) (ws := ws) hE.2.1 (hats j hj)
        rw [hP.2.2.1, show 5 + ws.length + 1 + j = 5 + ws.length + (j + 1) by omega]
        exact this
      have hW1 : er_W ν D τ sa ro A hp' (ws ++ nw) H1 := by
        refine hP.push (cs := (2, 2, 0, 0, (List.range' (hp.1 + 1) n).map (fun i => .inr (.inr (.inl (some i))))) :: List.replicate n ((0, 0, k, ex_pz k, []) : ex_C)) (by rw [hlen, List.length_cons, List.length_replicate]) j1 j2 (fun i c' x hi hx => ?_) hP1 hD1
        cases i with
        | zero =>
          cases hi
          rw [hat0] at hx
          cases hx
          refine Or.inr (Or.inr (Or.inl ⟨rfl, ⟨_, rfl, rfl⟩, f, by show _ = Sum.inl (τ 2, ((List.range' (hp.1 + 1) n).map _).length, _); rw [List.length_map, List.length_range'], fun j v hv => ?_⟩))
          have hv : ((List.range' (hp.1 + 1) n).map (fun i => ((.inr (.inr (.inl (some i)))) : ex_V)))[j]? = some v := hv
          rw [List.getElem?_map] at hv
          by_cases hj : j < n
          · rw [List.getElem?_range' hj] at hv
            cases hv
            refine ⟨q + 1 + j, ?_, by rw [hf j hj]; rfl⟩
            have := hrs j hj
            rw [Nat.one_mul]
            exact this
          · rw [List.getElem?_eq_none (by rw [List.length_range']; omega)] at hv
            cases hv
        | succ i =>
          have hi : (List.replicate n ((0, 0, k, ex_pz k, []) : ex_C))[i]? = some c' := hi
          rw [List.getElem?_replicate] at hi
          by_cases hin : i < n
          · rw [if_pos hin] at hi
            cases hi
            rw [hats i hin] at hx
            cases hx
            exact Or.inl ⟨rfl, _, rfl, er_A.zero k, trivial⟩
          · rw [if_neg hin] at hi; cases hi
      have hm : er_ext (er_r ν sa ws) (er_r ν sa (ws ++ nw)) := er_r.more ⟨_, List.map_append⟩
      exact hgo _ _ _ _ _ _ hk H1 locs lsA _ _ (hL.more hm) ⟨⟨q, hr0, rfl⟩, hU.more hm⟩ hW1 hS1 (er_pre hw)
    · rw [if_neg hc] at h; exact absurd h Bool.false_ne_true
theorem es_arraycopy (B : eb_B p s m args c bytes nL own D τ sa ro A) (hgo : ∀ pc ls st hp ce sl, go pc ls st hp ce sl = true → ew_G p l e R s m args below meth c Q ν D τ sa ro A ws0 nL pc ls st hp ce sl) {i : Nat} (hz : z = 1) (hli : Jvm.Cond.methodLink own i arraycopyName ∈ eg_T) (hna : Jvm.Cond.native arraycopyName ∈ eg_T) (hst : Jvm.Cond.static arraycopyName ∈ eg_T) (hin0 : Jvm.Cond.initialized "java/lang/System" ∈ eg_T) (hroom : nat = true → 1 ≤ R.frames ∧ 8 + (nativeFrameWords "java/lang/System" "arraycopy" 5 + 11) ≤ R.locals) (hd : decode bytes pc = .ok (.invokestatic i, 3)) (h : ex_step cls vt lim ret go cal nat K pc (.invokestatic i) a b z ls st hp ce sl = true) : ew_G p l e R s m args below meth c Q ν D τ sa ro A ws0 nL pc ls st hp ce sl := by
  intro H locs lsA stA ws hL hT hP hS hw
  obtain ⟨hx, hb, hml, hown, hts, hE⟩ := id B
  subst hz
  match st, h, hT with
  | [], h, _ => exact absurd h Bool.false_ne_true
  | [_], h, _ => exact absurd h Bool.false_ne_true
  | [_, _], h, _ => exact absurd h Bool.false_ne_true
  | [_, _, _], h, _ => exact absurd h Bool.false_ne_true
  | [_, _, _, _], h, _ => exact absurd h Bool.false_ne_true
  | n :: dp :: d :: sp :: s' :: r, h, hT =>
    have h : (if nat && Nat.ble (ex_cats r) 8 then ex_ix n (fun n => ex_ix dp (fun dp => ex_ix sp (fun sp => ex_ref d (fun d => ex_ref s' (fun s => if Nat.ble 5 d then ex_hget hp s (fun u => match u with | (t1, _, n1, p1, _) => ex_hget hp d (fun o => match o with | (t, ty, n2, p2, fs) => if Nat.beq t 0 && Nat.beq t1 0 && Nat.ble (sp + n) n1 && Nat.ble (dp + n) n2 then ex_cpy n p1 p2 sp dp (fun p => ex_hset hp d (0, ty, n2, p, []) (fun hp => ex_n (pc + 3) (fun pc => go pc ls (r) hp ce sl))) else false)) else false))))) else false) = true := h
    obtain ⟨vn, s0, rfl, hn, hU5⟩ := hT.cons
    obtain ⟨vdp, s1, rfl, hdp, hU4⟩ := hU5.cons
    obtain ⟨vd, s2, rfl, hdv, hU3⟩ := hU4.cons
    obtain ⟨vsp, s3, rfl, hsp, hU2⟩ := hU3.cons
    obtain ⟨vs, s4, rfl, hsv, hU⟩ := hU2.cons
    by_cases hc0 : (nat && Nat.ble (ex_cats r) 8) = true
    · rw [if_pos hc0] at h
      rw [Bool.and_eq_true] at hc0
      obtain ⟨r1, r2⟩ := hroom hc0.1
      have hcat := Nat.le_of_ble_eq_true hc0.2
      obtain ⟨ni, n', rfl, hni, h⟩ := ex_ix_ok h hn
      obtain ⟨dpi, dp', rfl, hdpi, h⟩ := ex_ix_ok h hdp
      obtain ⟨spi, sp', rfl, hspi, h⟩ := ex_ix_ok h hsp
      obtain ⟨d1, qd, -, ed, rfl, h⟩ := ex_ref_ok h hdv
      obtain ⟨q1, qs, -, es, rfl, h⟩ := ex_ref_ok h hsv
      by_cases h5 : Nat.ble 5 d1 = true
      · rw [if_pos h5] at h
        obtain ⟨⟨t1, y1, n1, p1, fs1⟩, hc1, h⟩ := ex_hget_ok h
        obtain ⟨⟨t, ty, n2, p2, fs⟩, hc2, h⟩ := ex_hget_ok h
        replace h : (if Nat.beq t 0 && Nat.beq t1 0 && Nat.ble (sp' + n') n1 && Nat.ble (dp' + n') n2 then ex_cpy n' p1 p2 sp' dp' (fun p => ex_hset hp d1 (0, ty, n2, p, []) (fun hp => ex_n (pc + 3) (fun pc => go pc ls (r) hp ce sl))) else false) = true := h
        by_cases hc : (Nat.beq t 0 && Nat.beq t1 0 && Nat.ble (sp' + n') n1 && Nat.ble (dp' + n') n2) = true
        · rw [if_pos hc] at h
          have h9 := h
          simp only [Bool.and_eq_true] at hc
          obtain rfl := Nat.eq_of_beq_eq_true hc.1.1.1
          obtain rfl := Nat.eq_of_beq_eq_true hc.1.1.2
          have b1 := Nat.le_of_ble_eq_true hc.1.2
          have b2 := Nat.le_of_ble_eq_true hc.2
          rcases hP.at hE ed hc2 with ⟨hz, -⟩ | ⟨h6, e, g1, g2⟩
          · have := Nat.le_of_ble_eq_true h5; omega
          · rcases g2 with ⟨-, g, rfl, g2, -⟩ | ⟨hz, -⟩ | ⟨hz, -⟩ | ⟨hz, -⟩
            · have hsum : (s4.map fun v => v.category).sum ≤ 8 := by rw [hU.cats]; exact hcat
              have hmls : c.maxLocals = lsA.size := by
                obtain ⟨-, lv, hv, -⟩ := hL
                rw [hv.1]; exact hml
              have goon : ∀ (f : Nat → Int32), er_A n1 p1 f → ∀ (H1 : Heap) (locs1 : List Loc), va_P D ec_cl (ws.set (d1 - 5) (qd, .inl (τ 0, n2, .inl (va_cpy f g sp' dp' n')))) H1 → va_D A (ws.set (d1 - 5) (qd, .inl (τ 0, n2, .inl (va_cpy f g sp' dp' n')))) → va_S A s.heap H1 locs1 → W p l e R s m args below meth c H1 locs1 ce sl Q (F0 m (pc + 3) lsA s4) := by
                intro f hf H1 locs1 hP1 hD1 hS1
                obtain ⟨B', k1, k2⟩ := ex_cpy_ok _ _ _ _ _ _ h9 hf g2 b1
                obtain ⟨hp', j1, j2, hk⟩ := ex_hset_ok k2
                rw [ex_n_eq] at hk
                obtain ⟨w1, w2⟩ := hP.set (c := (0, ty, n2, B', [])) h6 g1 j1 j2 (Or.inl ⟨rfl, _, rfl, k1, trivial⟩) hP1 hD1
                refine hgo _ _ _ _ _ _ hk H1 locs1 lsA _ _ (by rw [w2]; exact hL) (by rw [w2]; exact hU) w1 hS1 ?_
                rw [er_set_fst g1]
                exact hw
              rcases hP.at hE es hc1 with ⟨-, -, f, f1, f2⟩ | ⟨k6, e', f1, f2⟩
              · exact em_copyt hx hb hmls hown (hts _ hli) (hts _ hna) (hts _ hst) (hts _ hin0) hE.1 hP.1 hP.2.1 hS f1 (d1 - 5) 0 g1 rfl hspi hdpi hni b1 b2 r1 (by omega) hd (goon f f2)
              · rcases f2 with ⟨-, f, rfl, f2, -⟩ | ⟨hz, -⟩ | ⟨hz, -⟩ | ⟨hz, -⟩
                · obtain ⟨-, l1⟩ := ex_ix_in hspi (Nat.lt_succ_self sp')
                  obtain ⟨-, l2⟩ := ex_ix_in hdpi (Nat.lt_succ_self dp')
                  obtain ⟨-, l3⟩ := ex_ix_in hni (Nat.lt_succ_self n')
                  have low : ∀ {z : Int32} {k : Nat}, z.toInt = (k : Int) → ¬ z < 0 := fun hz q => by
                    rw [Int32.lt_iff_toInt_lt, hz, Int32.toInt_zero] at q
                    omega
                  refine va_copyi (ty := .int) hx hb hmls hown (hts _ hli) (hts _ hna) (hts _ hst) (hts _ hin0) hE.1 hP.1 hP.2.1 hS (q1 - 5) (d1 - 5) 0 0 f1 g1 rfl rfl rfl (low hspi) (low hdpi) (low hni) (by rw [l1, l3]; exact b1) (by rw [l2, l3]; exact b2) (fun _ _ => rfl) r1 (by omega) hd (fun H1 locs1 hP1 hD1 hS1 => ?_)
                  rw [l1, l2, l3] at hP1 hD1
                  exact goon f f2 H1 locs1 hP1 hD1 hS1
                · cases hz
                · cases hz
                · cases hz
            · cases hz
            · cases hz
            · cases hz
        · rw [if_neg hc] at h; exact absurd h Bool.false_ne_true
      · rw [if_neg h5] at h; exact absurd h Bool.false_ne_true
    · rw [if_neg hc0] at h; exact absurd h Bool.false_ne_true
end ES
