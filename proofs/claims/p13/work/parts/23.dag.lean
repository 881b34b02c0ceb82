/-! Places joined in a frame, each leading to later ones; contracts out of them; contracts split by an argument, by a field of the heap. -/
/-- a place, and where the places that it leads to stand behind it -/
abbrev ex_Y : Type := ex_S × List Nat
noncomputable def ex_pick (l : List ex_Y) (is : List Nat) : List ex_S :=
  List.rec (motive := fun _ => List ex_S) [] (fun i _ ih => match l[i]? with | some y => y.1 :: ih | none => ih) is
theorem ex_pick_mem {l : List ex_Y} {S : ex_S} : ∀ (is : List Nat), S ∈ ex_pick l is → ∃ y ∈ l, y.1 = S := by
  intro is
  induction is with
  | nil => intro h; cases h
  | cons i is ih =>
    intro h
    replace h : S ∈ (match l[i]? with | some y => y.1 :: ex_pick l is | none => ex_pick l is) := h
    cases hl : l[i]? with
    | none => rw [hl] at h; exact ih h
    | some y =>
      rw [hl] at h
      rcases List.mem_cons.mp h with rfl | h
      · exact ⟨y, List.mem_of_getElem? hl, rfl⟩
      · exact ih h
noncomputable def ex_links (run : List ex_S → ex_S → Bool) (aft : List ex_Y) (l : List ex_Y) : Bool :=
  List.rec (motive := fun _ => Bool) true (fun x rest ih => run (ex_pick (rest ++ aft) x.2) x.1 && ih) l
theorem ex_links_ok {run : List ex_S → ex_S → Bool} {G : ex_S → Prop} (hrun : ∀ Ss S, run Ss S = true → (∀ S' ∈ Ss, G S') → G S) {aft : List ex_Y} (ha : ∀ y ∈ aft, G y.1) : ∀ l : List ex_Y, ex_links run aft l = true → ∀ y ∈ l ++ aft, G y.1 := by
  intro l
  induction l with
  | nil => intro _ y hy; exact ha y hy
  | cons x l ih =>
    intro h
    replace h : (run (ex_pick (l ++ aft) x.2) x.1 && ex_links run aft l) = true := h
    rw [Bool.and_eq_true] at h
    have hl := ih h.2
    intro y hy
    rw [List.cons_append] at hy
    rcases List.mem_cons.mp hy with rfl | hy
    · refine hrun _ _ h.1 (fun S' hS => ?_)
      obtain ⟨y', g1, rfl⟩ := ex_pick_mem _ hS
      exact hl y' g1
    · exact hl y hy
/-- the statics as they are -/
def ex_stat (hp : ex_H) : ex_H := match hp with
  | (n, (_ :: _ :: _ :: _ :: r) :: t) => (n, (ec_stat ++ r) :: t)
  | hp => hp
theorem er_W.stat {ν : Nat → Int32} {D : va_G} {τ : Nat → ClassId} {sa : List Nat} {ro : List ex_C} {A : Nat → Prop} {hp : ex_H} {ws : va_W} {H : Heap} (h : er_W ν D τ sa ro A hp ws H) (hr : er_ro ro) : er_W ν D τ sa ro A (ex_stat hp) ws H := by
  unfold ex_stat
  split
  · rename_i n a0 a1 a2 a3 r t
    obtain ⟨h1, h2, h3, h4, h5⟩ := h
    have same : ∀ q : Nat, 4 ≤ q → ex_at (n, (ec_stat ++ r) :: t) q = ex_at (n, (a0 :: a1 :: a2 :: a3 :: r) :: t) q := by
      intro q hq
      unfold ex_at
      by_cases hl : q < 16
      · have hk : q / 16 = 0 := Nat.div_eq_of_lt hl
        have hm : q % 16 = (q - 4) + 4 := by rw [Nat.mod_eq_of_lt hl]; omega
        rw [hk, hm]
        rfl
      · obtain ⟨k, hk⟩ : ∃ k, q / 16 = k + 1 := ⟨q / 16 - 1, by omega⟩
        rw [hk]
        rfl
    refine ⟨h1, h2, h3, fun q c hq hc => ?_, fun q c hq hc => h5 q c hq (by rw [← same q (by omega)]; exact hc)⟩
    match q, hq, hc with
    | 0, _, hc => exact Or.inr (hr 0 c hc)
    | 1, _, hc => exact Or.inr (hr 1 c hc)
    | 2, _, hc => exact Or.inr (hr 2 c hc)
    | 3, _, hc => exact Or.inr (hr 3 c hc)
    | 4, hq, hc => exact h4 4 c hq (by rw [← same 4 (Nat.le_refl _)]; exact hc)
    | q + 5, hq, _ => omega
  · exact h
/-- a method's frame from a place to other places -/
noncomputable def ex_runS (L : List (Nat × List ex_E)) (dd : Nat) (tb : List (List ex_J)) (ret : Option FieldType) (K : Option ex_V → ex_H → Bool) (Ss : List ex_S) (S : ex_S) : Bool := match S with
  | (pc, ls, st, hp, ce, sl) => ex_run et_cls et_vt eu_ms (ex_memL L) (nat_lit 1000000) dd (ex_cutM Ss) tb (0, 0) ret [] pc ls st (ex_stat hp) ce sl K
section ED
variable {l : Launch} {D : va_G} {τ : Nat → ClassId} {sa : List Nat} {A : Nat → Prop}
theorem ex_runS_ok (hmn : em_mna) {L : List (Nat × List ex_E)} (hL : em_L l D τ sa A em_inf L) {own mname : String} {bytes : ByteArray} {nL dd : Nat} {ret : Option FieldType} {K : Option ex_V → ex_H → Bool} {tb : List (List ex_J)} (hT : ∀ ch ∈ tb, ∀ x ∈ ch, ek_J em_inf et_cls et_vt own mname bytes x) (Ss : List ex_S) (S : ex_S) (h : ex_runS L dd tb ret K Ss S = true) (hS : ∀ S' ∈ Ss, em_G l D τ sa A own mname bytes nL dd (0, 0) ret K S') : em_G l D τ sa A own mname bytes nL dd (0, 0) ret K S := by
  obtain ⟨pc, ls, st, hp, ce, sl⟩ := S
  intro ν ro p e R s m args below meth c Q ws0 B hm hf hlo hlim hret
  have hro : er_ro ro := (id B).2.2.2.2.2.2.2.2.2.2.1.2
  intro H locs lsA stA ws hL' hT' hP' hS' hw'
  refine er_frame eo_glob hmn eo_ok (em_memL l D τ sa A em_inf hL ν ro) (nat_lit 1000000) dd (ex_cutM Ss) tb (0, 0) ret [] _ _ _ _ _ _ K h p e R s m args below meth c Q ws0 bytes nL own mname B hm hT (fun _ hx => absurd hx List.not_mem_nil) hf hlo hlim hret ?_ H locs lsA stA ws hL' hT' (hP'.stat hro) hS' hw'
  intro pc ls st hp ce sl hc
  obtain ⟨S', g1, g2⟩ := ex_cutM_ok Ss hc
  exact (hS S' g1 ν ro p e R s m args below meth c Q ws0 B hm hf hlo hlim hret).le g2 (fun _ h => (nomatch h)) (fun _ h => (nomatch h)) (fun _ _ => rfl)
/-- a contract: the entry's run, and the places' links -/
theorem em_ofD (hmn : em_mna) {L : List (Nat × List ex_E)} (hL : em_L l D τ sa A em_inf L) {mi : Nat} {tb : List (List ex_J)} {nl : Nat} {ret : Option FieldType} (hat : ex_at2 eu_ms mi = some (tb, nl, ret, 0, 0)) {as : List ex_V} {p p' : ex_H} {v : Option ex_V} {dd : Nat} {Y : List ex_Y} {is : List Nat}
    (h : ex_locs as nl (fun q => ex_runS L dd tb ret (ex_K v p') (ex_pick Y is) (0, q, [], p, 0, 0)) = true) (hY : ∀ (own mname : String) (bytes : ByteArray), (∀ ch ∈ tb, ∀ x ∈ ch, ek_J em_inf et_cls et_vt own mname bytes x) → ∀ y ∈ Y, em_G l D τ sa A own mname bytes nl dd (0, 0) ret (ex_K v p') y.1) : em_E l D τ sa A em_inf mi (as, p, v, p', dd) := by
  obtain ⟨y, bytes, i1, i2, i3, i4⟩ := eo_ok mi tb nl ret 0 0 hat
  obtain ⟨q, k1, k2, k3⟩ := ex_locs_ok _ _ _ h
  refine ⟨y, bytes, nl, ret, i1, i3, fun ν ro avs ws ha => ?_⟩
  obtain ⟨f1, f2⟩ := k3 ha
  have hG := ex_runS_ok (nL := nl) hmn hL i4 _ _ k1 (fun S' hS => by
    obtain ⟨y', g1, rfl⟩ := ex_pick_mem _ hS
    exact hY y.cls y.name bytes i4 y' g1)
  refine em_weak (er_metG (ν := ν) (ro := ro) i2 k2 hG avs ws f1 f2) ?_
  rintro a st o t ⟨⟨ov, hp', ws', rv, j1, j2, j3, j4, j5⟩, j6⟩
  obtain ⟨m1, m2⟩ := ex_K_ok j2 (ν' := ν) (ro' := ro) (fun _ _ => rfl) j3 j4
  exact ⟨⟨ws', rv, j1, m1, m2, j5⟩, j6⟩
/-- an int between bounds, as a picture -/
def ex_iv2 (lo hi : Int) : ex_V := bif ex_eq lo hi then .inl lo else .inr (.inr (.inr (.inl (lo, hi))))
theorem ex_iv2_ok {ρ : ex_R} {lo hi : Int} {x : Int32} (h1 : lo ≤ x.toInt) (h2 : x.toInt ≤ hi) : er_V ρ (ex_iv2 lo hi) (.int x) := by
  unfold ex_iv2
  cases hb : ex_eq lo hi with
  | true =>
    have e := (ex_eq_iff _ _).mp hb
    exact ⟨x, rfl, by omega⟩
  | false => exact ⟨x, rfl, h1, h2⟩
theorem er_St.set {ρ : ex_R} : ∀ {st : List ex_V} {vs : List Value} {i : Nat} {lo hi : Int}, er_St ρ st vs → st[i]? = some (.inr (.inr (.inr (.inl (lo, hi))))) → ∃ x : Int32, lo ≤ x.toInt ∧ x.toInt ≤ hi ∧ ∀ a : ex_V, er_V ρ a (.int x) → er_St ρ (st.set i a) vs := by
  intro st
  induction st with
  | nil => intro vs i lo hi _ h; cases h
  | cons b st ih =>
    intro vs i lo hi hs h
    obtain ⟨v, vs, rfl, g1, g2⟩ := hs.cons
    cases i with
    | zero =>
      cases h
      obtain ⟨x, rfl, h1, h2⟩ := g1
      exact ⟨x, h1, h2, fun a ha => ⟨ha, g2⟩⟩
    | succ i =>
      obtain ⟨x, h1, h2, h3⟩ := ih g2 (by simpa using h)
      exact ⟨x, h1, h2, fun a ha => ⟨g1, h3 a ha⟩⟩
theorem em_E.split {mi : Nat} {as : List ex_V} {p p' : ex_H} {v : Option ex_V} {dd : Nat} (i : Nat) {lo hi : Int} (d : List (Int × Int × Bool)) (hi' : as[i]? = some (.inr (.inr (.inr (.inl (lo, hi)))))) (hc : ex_cov hi d lo = true) (h : ∀ q ∈ d, em_E l D τ sa A em_inf mi (as.set i (ex_iv2 q.1 q.2.1), p, v, p', dd)) : em_E l D τ sa A em_inf mi (as, p, v, p', dd) := by
  match d, hc, h with
  | [], hc, _ => exact absurd hc Bool.false_ne_true
  | q0 :: d, hc, h =>
    obtain ⟨y, bytes, nl, ret, i1, i2, i3⟩ := h q0 List.mem_cons_self
    refine ⟨y, bytes, nl, ret, i1, i2, fun ν ro avs ws ha => ?_⟩
    obtain ⟨x, h1, h2, h3⟩ := er_St.set (i := i) ha hi'
    obtain ⟨q, g1, g2, g3, -, -⟩ := ex_cov_ok _ _ hc x.toInt h1 h2
    obtain ⟨y', bytes', nl', ret', j1, j2, j3⟩ := h q g1
    rw [i1] at j1
    cases j1
    exact j3 ν ro avs ws (h3 _ (ex_iv2_ok g2 g3))
/-- an answer may be told more widely -/
theorem em_E.wide {mi : Nat} {as : List ex_V} {p p' q' : ex_H} {v w : Option ex_V} {dd : Nat} (hK : ex_K w q' v p' = true) (h : em_E l D τ sa A em_inf mi (as, p, v, p', dd)) : em_E l D τ sa A em_inf mi (as, p, w, q', dd) := by
  obtain ⟨y, bytes, nl, ret, i1, i2, i3⟩ := h
  refine ⟨y, bytes, nl, ret, i1, i2, fun ν ro avs ws ha => em_weak (i3 ν ro avs ws ha) ?_⟩
  rintro a st o t ⟨⟨ws', rv, k1, k2, k3, k4⟩, k5⟩
  obtain ⟨m1, m2⟩ := ex_K_ok hK (ν' := ν) (ro' := ro) (fun _ _ => rfl) k2 k3
  exact ⟨⟨ws', rv, k1, m1, m2, k4⟩, k5⟩
end ED
/-- a heap with one cell changed -/
def ex_hput (hp : ex_H) (q : Nat) (c : ex_C) : ex_H := (hp.1, hp.2.set (q / 16) (((hp.2[q / 16]?).getD []).set (q % 16) c))
theorem ex_hput_at {hp : ex_H} {q : Nat} {c0 c : ex_C} (h : ex_at hp q = some c0) (j : Nat) : ex_at (ex_hput hp q c) j = if j = q then some c else ex_at hp j := by
  unfold ex_at at h
  cases hch : hp.2[q / 16]? with
  | none => rw [hch] at h; cases h
  | some ch =>
    rw [hch] at h
    replace h : ch[q % 16]? = some c0 := h
    have hl1 : q / 16 < hp.2.length := (List.getElem?_eq_some_iff.mp hch).1
    have hl2 : q % 16 < ch.length := (List.getElem?_eq_some_iff.mp h).1
    unfold ex_at ex_hput
    simp only [hch, Option.getD_some]
    by_cases e : j = q
    · subst e
      rw [if_pos rfl, List.getElem?_set, if_pos rfl, if_pos hl1]
      show (ch.set (j % 16) c)[j % 16]? = some c
      rw [List.getElem?_set, if_pos rfl, if_pos hl2]
    · rw [if_neg e, List.getElem?_set]
      by_cases e1 : q / 16 = j / 16
      · rw [if_pos e1, if_pos hl1, ← e1, hch]
        show (ch.set (q % 16) c)[j % 16]? = ch[j % 16]?
        rw [List.getElem?_set, if_neg (by omega)]
      · rw [if_neg e1]
theorem er_W.put {ν : Nat → Int32} {D : va_G} {τ : Nat → ClassId} {sa : List Nat} {ro : List ex_C} {A : Nat → Prop} {hp : ex_H} {ws : va_W} {H : Heap} (h : er_W ν D τ sa ro A hp ws H) {q : Nat} {c0 c : ex_C} (h5 : 5 ≤ q) (hat : ex_at hp q = some c0) (hc : ∀ y : Nat × va_E, ws[q - 5]? = some y → er_C τ (er_r ν sa ws) c y.2) : er_W ν D τ sa ro A (ex_hput hp q c) ws H := by
  obtain ⟨h1, h2, h3, h4, h6⟩ := h
  refine ⟨h1, h2, h3, fun j x hj hx => ?_, fun j x hj hx => ?_⟩
  · rw [ex_hput_at hat j, if_neg (by omega)] at hx
    exact h4 j x hj hx
  · rw [ex_hput_at hat j] at hx
    by_cases e : j = q
    · subst e
      rw [if_pos rfl] at hx
      cases hx
      obtain ⟨y, g1, g2⟩ := h6 j _ hj hat
      exact ⟨y, g1, hc y g1⟩
    · rw [if_neg e] at hx
      exact h6 j x hj hx
/-- a field between bounds -/
theorem er_W.field {ν : Nat → Int32} {D : va_G} {τ : Nat → ClassId} {sa : List Nat} {ro : List ex_C} {A : Nat → Prop} {hp : ex_H} {ws : va_W} {H : Heap} (h : er_W ν D τ sa ro A hp ws H) {q j ci n pk : Nat} {fs : List ex_V} {lo hi : Int} (h5 : 5 ≤ q) (hat : ex_at hp q = some (3, ci, n, pk, fs)) (hj : fs[j]? = some (.inr (.inr (.inr (.inl (lo, hi)))))) {d : List (Int × Int × Bool)} (hc : ex_cov hi d lo = true) : ∃ r ∈ d, er_W ν D τ sa ro A (ex_hput hp q (3, ci, n, pk, fs.set j (ex_iv2 r.1 r.2.1))) ws H := by
  obtain ⟨y, g1, g2⟩ := h.2.2.2.2 q _ h5 hat
  rcases g2 with ⟨hz, -⟩ | ⟨hz, -⟩ | ⟨hz, -⟩ | ⟨-, vs, e1, e2, e3⟩
  · cases hz
  · cases hz
  · cases hz
  · obtain ⟨v, f1, x, rfl, f2, f3⟩ := e3 j _ hj
    obtain ⟨r, r1, r2, r3, -, -⟩ := ex_cov_ok _ _ hc x.toInt f2 f3
    refine ⟨r, r1, h.put h5 hat (fun y' hy => ?_)⟩
    rw [g1] at hy
    cases hy
    refine Or.inr (Or.inr (Or.inr ⟨rfl, vs, e1, by show vs.length = (fs.set j _).length; rw [List.length_set]; exact e2, fun i a ha => ?_⟩))
    replace ha : (fs.set j (ex_iv2 r.1 r.2.1))[i]? = some a := ha
    rw [List.getElem?_set] at ha
    by_cases ei : j = i
    · subst ei
      rw [if_pos rfl] at ha
      split at ha
      · cases ha
        exact ⟨_, f1, ex_iv2_ok r2 r3⟩
      · cases ha
    · rw [if_neg ei] at ha
      exact e3 i a ha
/-- an int of an array -/
theorem er_W.elem {ν : Nat → Int32} {D : va_G} {τ : Nat → ClassId} {sa : List Nat} {ro : List ex_C} {A : Nat → Prop} {hp : ex_H} {ws : va_W} {H : Heap} (h : er_W ν D τ sa ro A hp ws H) {q i ty n P : Nat} {fs : List ex_V} (h5 : 5 ≤ q) (hat : ex_at hp q = some (0, ty, n, P, fs)) (hi : i < n) {d : List (Int × Int × Bool)} (hc : ex_cov (Int.subNatNat (ex_pg P i / 4294967296) 2147483648) d (Int.subNatNat (ex_pg P i % 4294967296) 2147483648) = true) : ∃ r ∈ d, er_W ν D τ sa ro A (ex_hput hp q (0, ty, n, ex_ps P i (ex_word r.1 r.2.1), fs)) ws H := by
  obtain ⟨y, g1, g2⟩ := h.2.2.2.2 q _ h5 hat
  rcases g2 with ⟨-, f, e1, e2, e3⟩ | ⟨hz, -⟩ | ⟨hz, -⟩ | ⟨hz, -⟩
  · have hw := e2 i hi
    unfold er_w at hw
    replace hw : (((ex_pg P i) % 4294967296 : Nat) : Int) ≤ (f i).toInt + 2147483648 ∧ (f i).toInt + 2147483648 ≤ (((ex_pg P i) / 4294967296 : Nat) : Int) := hw
    obtain ⟨r, r1, r2, r3, r4, r5⟩ := ex_cov_ok _ _ hc (f i).toInt (by rw [Int.subNatNat_eq_coe]; omega) (by rw [Int.subNatNat_eq_coe]; omega)
    refine ⟨r, r1, h.put h5 hat (fun y' hy => ?_)⟩
    rw [g1] at hy
    cases hy
    exact Or.inl ⟨rfl, f, e1, er_A.cut e2 r2 r3 r4 r5, e3⟩
  · cases hz
  · cases hz
  · cases hz
section EF
variable {l : Launch} {D : va_G} {τ : Nat → ClassId} {sa : List Nat} {A : Nat → Prop}
/-- a contract out of contracts for other heaps, one of which fits -/
theorem em_E.heaps {mi : Nat} {as : List ex_V} {p p' : ex_H} {v : Option ex_V} {dd : Nat} (ps : List ex_H) (hne : ps ≠ []) (hps : ∀ (ν : Nat → Int32) (ro : List ex_C) (ws : va_W) (H : Heap), er_W ν D τ sa ro A p ws H → ∃ r ∈ ps, er_W ν D τ sa ro A r ws H) (h : ∀ r ∈ ps, em_E l D τ sa A em_inf mi (as, r, v, p', dd)) : em_E l D τ sa A em_inf mi (as, p, v, p', dd) := by
  obtain ⟨r0, hr0⟩ : ∃ r0, r0 ∈ ps := List.exists_mem_of_ne_nil ps hne
  obtain ⟨y, bytes, nl, ret, i1, i2, i3⟩ := h r0 hr0
  refine ⟨y, bytes, nl, ret, i1, i2, fun ν ro avs ws ha => ?_⟩
  intro pr e hA hc hk s m args below hf happ hP hK
  obtain ⟨k1, k2, k3⟩ := hP
  obtain ⟨r, g1, g2⟩ := hps ν ro ws s.heap k3
  obtain ⟨y', bytes', nl', ret', j1, j2, j3⟩ := h r g1
  rw [i1] at j1
  cases j1
  exact j3 ν ro avs ws ha pr e hA hc hk s m args below hf happ ⟨k1, k2, g2⟩ hK
/-- a place out of places with other heaps -/
theorem em_G.heaps {own mname : String} {bytes : ByteArray} {nL d : Nat} {lim : Nat × Nat} {ret : Option FieldType} {K : Option ex_V → ex_H → Bool} {pc : Nat} {ls : List (Option ex_V)} {st : List ex_V} {p : ex_H} {ce sl : Nat} (ps : List ex_H) (hps : ∀ (ν : Nat → Int32) (ro : List ex_C) (ws : va_W) (H : Heap), er_W ν D τ sa ro A p ws H → ∃ r ∈ ps, er_W ν D τ sa ro A r ws H) (h : ∀ r ∈ ps, em_G l D τ sa A own mname bytes nL d lim ret K (pc, ls, st, r, ce, sl)) : em_G l D τ sa A own mname bytes nL d lim ret K (pc, ls, st, p, ce, sl) := by
  intro ν ro pr e R s m args below meth c Q ws0 B hm hf hlo hlim hret H locs lsA stA ws hL hT hP hS hw
  obtain ⟨r, g1, g2⟩ := hps ν ro ws H hP
  exact h r g1 ν ro pr e R s m args below meth c Q ws0 B hm hf hlo hlim hret H locs lsA stA ws hL hT g2 hS hw
end EF
section EL2
variable {l : Launch} {D : va_G} {τ : Nat → ClassId} {sa : List Nat} {A : Nat → Prop}
theorem er_L.part {ρ : ex_R} {nL : Nat} {la : List (Option ex_V)} {ls : Array Slot} (h : er_L ρ nL la ls) {i : Nat} {lo hi : Int} (hi' : la[i]? = some (some (.inr (.inr (.inr (.inl (lo, hi))))))) {d : List (Int × Int × Bool)} (hc : ex_cov hi d lo = true) : ∃ r ∈ d, er_L ρ nL (la.set i (some (ex_iv2 r.1 r.2.1))) ls := by
  obtain ⟨h1, lv, h2, h3⟩ := h
  obtain ⟨v, ⟨x, rfl, f1, f2⟩, g2⟩ := h3 i _ hi'
  obtain ⟨r, r1, r2, r3, -, -⟩ := ex_cov_ok _ _ hc x.toInt f1 f2
  refine ⟨r, r1, by rw [List.length_set]; exact h1, lv, h2, fun j a ha => ?_⟩
  rw [List.getElem?_set] at ha
  by_cases e : i = j
  · subst e
    rw [if_pos rfl] at ha
    split at ha
    · cases ha
      exact ⟨_, ex_iv2_ok r2 r3, g2⟩
    · cases ha
  · rw [if_neg e] at ha
    exact h3 j a ha
/-- a place out of places with a local's bounds split -/
theorem em_G.part {own mname : String} {bytes : ByteArray} {nL d : Nat} {lim : Nat × Nat} {ret : Option FieldType} {K : Option ex_V → ex_H → Bool} {pc : Nat} {ls : List (Option ex_V)} {st : List ex_V} {p : ex_H} {ce sl : Nat} (i : Nat) {lo hi : Int} (hi' : ls[i]? = some (some (.inr (.inr (.inr (.inl (lo, hi))))))) (dv : List (Int × Int × Bool)) (hc : ex_cov hi dv lo = true) (h : ∀ r ∈ dv, em_G l D τ sa A own mname bytes nL d lim ret K (pc, ls.set i (some (ex_iv2 r.1 r.2.1)), st, p, ce, sl)) : em_G l D τ sa A own mname bytes nL d lim ret K (pc, ls, st, p, ce, sl) := by
  intro ν ro pr e R s m args below meth c Q ws0 B hm hf hlo hlim hret H locs lsA stA ws hL hT hP hS hw
  obtain ⟨r, g1, g2⟩ := er_L.part hL hi' hc
  exact h r g1 ν ro pr e R s m args below meth c Q ws0 B hm hf hlo hlim hret H locs lsA stA ws g2 hT hP hS hw
end EL2
