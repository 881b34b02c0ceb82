/-! One instruction of the runner, and the machine: fields and arrays. Printed by wip/p1/gen9.py. -/
theorem er_W.at {ν : Nat → Int32} {D : va_G} {τ : Nat → ClassId} {sa : List Nat} {ro : List ex_C} {A : Nat → Prop} {s : State} {hp : ex_H} {ws : va_W} {H : Heap} (h : er_W ν D τ sa ro A hp ws H) (hE : er_E D τ sa ro A s) {n q : Nat} {c : ex_C} (hn : (er_r ν sa ws).1[n]? = some q) (hc : ex_at hp n = some c) (h9 : c.1 ≠ 9 := by intro h9; cases h9) :
    (n < 5 ∧ c.1 = 0 ∧ ∃ f : Nat → Int32, va_T .int q c.2.2.1 (fun j => .int (f j)) A s s.heap ∧ er_A c.2.2.1 c.2.2.2.1 f) ∨ (5 ≤ n ∧ ∃ e, ws[n - 5]? = some (q, e) ∧ er_C τ (er_r ν sa ws) c e) := by
  obtain ⟨h1, h2, h3, h4, h5⟩ := h
  obtain ⟨e1, e2, e3, e4, e5, e6, e7⟩ := hE
  by_cases hl : n < 5
  · left
    obtain ⟨g1, t, f, g2, g3, g4⟩ := e3 n c hl ((h4 n c hl hc).resolve_left h9)
    have := er_r.lo e2 hl hn
    rw [this] at g2
    cases g2
    exact ⟨hl, g1, f, g3, g4⟩
  · right
    obtain ⟨x, g1, g2⟩ := h5 n c (by omega) hc
    have := er_r.at e2 (by omega) hn g1
    subst this
    exact ⟨by omega, x.2, g1, g2⟩
theorem er_set_fst {ws : va_W} {k q : Nat} {e0 e : va_E} (hx : ws[k]? = some (q, e0)) : (ws.set k (q, e)).map Prod.fst = ws.map Prod.fst := by
  apply List.ext_getElem?
  intro j
  rw [List.getElem?_map, List.getElem?_map, List.getElem?_set]
  by_cases hj : k = j
  · subst hj
    rw [if_pos rfl, hx]
    have hl := (List.getElem?_eq_some_iff.mp hx).1
    rw [if_pos hl]
    rfl
  · rw [if_neg hj]
theorem er_W.set {ν : Nat → Int32} {D : va_G} {τ : Nat → ClassId} {sa : List Nat} {ro : List ex_C} {A : Nat → Prop} {hp hp' : ex_H} {ws : va_W} {H H1 : Heap} (h : er_W ν D τ sa ro A hp ws H) {n q : Nat} {e0 e : va_E} {c : ex_C} (hn : 5 ≤ n) (hx : ws[n - 5]? = some (q, e0)) (h1 : hp'.1 = hp.1) (h2 : ∀ j, ex_at hp' j = if j = n then some c else ex_at hp j)
    (hc : er_C τ (er_r ν sa ws) c e) (hP : va_P D ec_cl (ws.set (n - 5) (q, e)) H1) (hD : va_D A (ws.set (n - 5) (q, e))) : er_W ν D τ sa ro A hp' (ws.set (n - 5) (q, e)) H1 ∧ er_r ν sa (ws.set (n - 5) (q, e)) = er_r ν sa ws := by
  obtain ⟨g1, g2, g3, g4, g5⟩ := h
  have hr : er_r ν sa (ws.set (n - 5) (q, e)) = er_r ν sa ws := by unfold er_r; rw [er_set_fst hx]
  refine ⟨⟨hP, hD, by rw [h1, g3, List.length_set], fun j c' hj hc' => ?_, fun j c' hj hc' => ?_⟩, hr⟩
  · rw [h2 j, if_neg (by omega)] at hc'
    exact g4 j c' hj hc'
  · rw [h2 j] at hc'
    rw [hr]
    by_cases hjn : j = n
    · subst hjn
      rw [if_pos rfl] at hc'
      cases hc'
      refine ⟨(q, e), ?_, hc⟩
      rw [List.getElem?_set, if_pos rfl, if_pos (List.getElem?_eq_some_iff.mp hx).1]
    · rw [if_neg hjn] at hc'
      obtain ⟨x, f1, f2⟩ := g5 j c' hj hc'
      refine ⟨x, ?_, f2⟩
      rw [List.getElem?_set, if_neg (by omega)]
      exact f1
/-- a class's own words -/
def ek_cls (C : String) (T : u_T) (N : Nat) (ty : Nat → FieldType) : Prop := (∀ w ∈ u_ws C T N, w ∈ eg_T) ∧ (∀ k, k < N → parseFieldDescriptor (T k).2.2.1 = some (ty k)) ∧ (∀ a, a < N → ∀ b, b < N → a ≠ b → (T a).2.1 ≠ (T b).2.1)
/-- a link to a field: entry i of a class's pool is field b of class a -/
def ek_F (own : String) (i a b : Nat) (T : u_T) (ty : Nat → FieldType) : Prop := ∃ (C : String) (N : Nat), ec_cl[a]? = some (C, T, N) ∧ b < N ∧ Jvm.Cond.fieldLink own i (T b).1 (T b).2.1 (T b).2.2.1 ∈ eg_T ∧ ek_cls C T N ty
/-- the number of a type -/
def ek_tc (ty : FieldType) (z : Int) : Prop := match ty with
  | .int => z = 0
  | .boolean => z = 1
  | .long => z = 2
  | .object _ => z = 3
  | .array _ => z = 3
  | _ => False
theorem ex_fit_ok {ρ : ex_R} {z : Int} {a : ex_V} {v : Value} {ty : FieldType} (h : ex_fit z a = true) (hv : er_V ρ a v) (ht : ek_tc ty z) : narrow ty v = v ∧ fits ty v = true := by
  have href : z = 3 → v = .null ∨ ∃ q, v = .ref q := by
    intro hz
    subst hz
    match a, h, hv with
    | .inr (.inr (.inl none)), h, hv => exact Or.inl hv
    | .inr (.inr (.inl (some k))), h, hv => obtain ⟨q, -, e⟩ := hv; exact Or.inr ⟨q, e⟩
    | .inl z, h, hv => exact absurd h Bool.false_ne_true
    | .inr (.inl z), h, hv => exact absurd h Bool.false_ne_true
    | .inr (.inr (.inr (.inr z))), h, hv => exact absurd h Bool.false_ne_true
    | .inr (.inr (.inr (.inl z))), h, hv => exact absurd h Bool.false_ne_true
  cases ty with
  | int =>
    have ht : z = 0 := ht
    subst ht
    obtain ⟨x, -, -, rfl, -⟩ := ex_i_ok (k := fun _ _ => true) h hv
    exact ⟨rfl, rfl⟩
  | boolean =>
    have ht : z = 1 := ht
    subst ht
    rcases ex_may01_ok (a := a) h hv with rfl | rfl <;> exact ⟨by decide, by decide⟩
  | long =>
    have ht : z = 2 := ht
    subst ht
    obtain ⟨x, -, -, rfl, -⟩ := ex_l_ok (k := fun _ _ => true) h hv
    exact ⟨rfl, rfl⟩
  | object C => rcases href ht with rfl | ⟨q, rfl⟩ <;> exact ⟨rfl, rfl⟩
  | array t => rcases href ht with rfl | ⟨q, rfl⟩ <;> exact ⟨rfl, rfl⟩
  | byte => exact ht.elim
  | char => exact ht.elim
  | double => exact ht.elim
  | float => exact ht.elim
  | short => exact ht.elim

section ES
variable {p : Program} {l : Launch} {e : Env} {R : Room} {s : State} {m : MethodId} {args : Array Value} {below : List Frame} {meth : Method} {c : Code} {Q : State → Prop} {ν : Nat → Int32} {D : va_G} {τ : Nat → ClassId} {sa : List Nat} {ro : List ex_C} {A : Nat → Prop} {ws0 : va_W} {bytes : ByteArray} {nL : Nat} {own : String}
variable {cls : List (List ex_V)} {vt : List (List (Nat × Nat))} {lim : Nat × Nat} {ret : Option FieldType} {go : Nat → List (Option ex_V) → List ex_V → ex_H → Nat → Nat → Bool} {cal : Nat → List ex_V → ex_H → Nat → Nat → (Option ex_V → ex_H → Nat → Nat → Bool) → Bool} {nat : Bool} {K : Option ex_V → ex_H → Bool} {pc a b : Nat} {z : Int} {ls : List (Option ex_V)} {st : List ex_V} {hp : ex_H} {ce sl : Nat}

theorem es_getfield (B : eb_B p s m args c bytes nL own D τ sa ro A) (hgo : ∀ pc ls st hp ce sl, go pc ls st hp ce sl = true → ew_G p l e R s m args below meth c Q ν D τ sa ro A ws0 nL pc ls st hp ce sl) {i : Nat} {T : u_T} {ty : Nat → FieldType} (hl : ek_F own i a b T ty) (hd : decode bytes pc = .ok (.getfield i, 3)) (h : ex_step cls vt lim ret go cal nat K pc (.getfield i) a b z ls st hp ce sl = true) : ew_G p l e R s m args below meth c Q ν D τ sa ro A ws0 nL pc ls st hp ce sl := by
  intro H locs lsA stA ws hL hT hP hS hw
  obtain ⟨hx, hb, hml, hown, hts, hE⟩ := id B
  match st, h, hT with
  | [], h, _ => exact absurd h Bool.false_ne_true
  | x :: r, h, hT =>
    have h : ex_ref x (fun q => ex_hget hp q (fun o => match o with | (t, ci, n, p, fs) => if Nat.beq t 3 && Nat.beq ci a then ex_get fs b (fun w => ex_n (pc + 3) (fun pc => go pc ls (w :: r) hp ce sl)) else false)) = true := h
    obtain ⟨vx, s2, rfl, hxv, hU⟩ := hT.cons
    obtain ⟨n1, q1, -, e2, rfl, h⟩ := ex_ref_ok h hxv
    obtain ⟨⟨t, ci, n, p', fs⟩, hc1, h⟩ := ex_hget_ok h
    replace h : (if Nat.beq t 3 && Nat.beq ci a then ex_get fs b (fun w => ex_n (pc + 3) (fun pc => go pc ls (w :: r) hp ce sl)) else false) = true := h
    by_cases hc : (Nat.beq t 3 && Nat.beq ci a) = true
    · rw [if_pos hc] at h
      have h9 := h
      rw [Bool.and_eq_true] at hc
      obtain rfl := Nat.eq_of_beq_eq_true hc.1
      obtain rfl := Nat.eq_of_beq_eq_true hc.2
      obtain ⟨w, hw1, hk⟩ := ex_get_ok _ _ _ h9
      rw [ex_n_eq] at hk
      obtain ⟨C, N, k1, k2, k3, k4, k5, k6⟩ := hl
      rcases hP.at hE e2 hc1 with ⟨-, hz, -⟩ | ⟨h5, e, g1, g2⟩
      · cases hz
      · rcases g2 with ⟨hz, -⟩ | ⟨hz, -⟩ | ⟨hz, -⟩ | ⟨-, gs, rfl, g3, g4⟩
        · cases hz
        · cases hz
        · cases hz
        · obtain ⟨v, g5, g6⟩ := g4 b w hw1
          exact va_get hx hb hts k4 hown hE.1 hP.1 (n1 - 5) g1 k1 b k2 (hts _ k3) (fun _ q => q) g5 hd (hgo _ _ _ _ _ _ hk H locs lsA _ ws hL ⟨g6, hU⟩ hP hS hw)
    · rw [if_neg hc] at h; exact absurd h Bool.false_ne_true
theorem es_putfield (B : eb_B p s m args c bytes nL own D τ sa ro A) (hgo : ∀ pc ls st hp ce sl, go pc ls st hp ce sl = true → ew_G p l e R s m args below meth c Q ν D τ sa ro A ws0 nL pc ls st hp ce sl) {i : Nat} {T : u_T} {ty : Nat → FieldType} (hl : ek_F own i a b T ty) (htc : ek_tc (ty b) z) (hfin : (T b).2.2.2 = false ∨ ((T b).2.2.2 = true ∧ meth.name = "<init>" ∧ (T b).1 = own)) (hd : decode bytes pc = .ok (.putfield i, 3)) (h : ex_step cls vt lim ret go cal nat K pc (.putfield i) a b z ls st hp ce sl = true) : ew_G p l e R s m args below meth c Q ν D τ sa ro A ws0 nL pc ls st hp ce sl := by
  intro H locs lsA stA ws hL hT hP hS hw
  obtain ⟨hx, hb, hml, hown, hts, hE⟩ := id B
  match st, h, hT with
  | [], h, _ => exact absurd h Bool.false_ne_true
  | [_], h, _ => exact absurd h Bool.false_ne_true
  | y :: x :: r, h, hT =>
    have h : (if ex_fit z y then ex_ref x (fun q => ex_hget hp q (fun o => match o with | (t, ci, n, p, fs) => if Nat.beq t 3 && Nat.beq ci a then ex_set fs b y (fun fs => ex_hset hp q (3, ci, n, p, fs) (fun hp => ex_n (pc + 3) (fun pc => go pc ls (r) hp ce sl))) else false)) else false) = true := h
    obtain ⟨vy, s1, rfl, hy, hU1⟩ := hT.cons
    obtain ⟨vx, s2, rfl, hxv, hU⟩ := hU1.cons
    by_cases hft : ex_fit z y = true
    · rw [if_pos hft] at h
      obtain ⟨n1, q1, -, e2, rfl, h⟩ := ex_ref_ok h hxv
      obtain ⟨⟨t, ci, n, p', fs⟩, hc1, h⟩ := ex_hget_ok h
      replace h : (if Nat.beq t 3 && Nat.beq ci a then ex_set fs b y (fun fs => ex_hset hp n1 (3, ci, n, p', fs) (fun hp => ex_n (pc + 3) (fun pc => go pc ls (r) hp ce sl))) else false) = true := h
      by_cases hc : (Nat.beq t 3 && Nat.beq ci a) = true
      · rw [if_pos hc] at h
        have h9 := h
        rw [Bool.and_eq_true] at hc
        obtain rfl := Nat.eq_of_beq_eq_true hc.1
        obtain rfl := Nat.eq_of_beq_eq_true hc.2
        obtain ⟨hlt, h10⟩ := ex_set_ok _ _ _ _ h9
        obtain ⟨hp', j1, j2, hk⟩ := ex_hset_ok h10
        rw [ex_n_eq] at hk
        obtain ⟨C, N, k1, k2, k3, k4, k5, k6⟩ := hl
        rcases hP.at hE e2 hc1 with ⟨-, hz, -⟩ | ⟨h5, e, g1, g2⟩
        · cases hz
        · rcases g2 with ⟨hz, -⟩ | ⟨hz, -⟩ | ⟨hz, -⟩ | ⟨-, gs, rfl, g3, g4⟩
          · cases hz
          · cases hz
          · cases hz
          · obtain ⟨f1, f2⟩ := ex_fit_ok hft hy htc
            have hlt2 : b < gs.length := by rw [g3]; exact hlt
            have go2 : ∀ (H1 : Heap) (locs1 : List Loc), va_P D ec_cl (ws.set (n1 - 5) (q1, .inr (ci, gs.set b vy))) H1 → va_D A (ws.set (n1 - 5) (q1, .inr (ci, gs.set b vy))) → va_S A s.heap H1 locs1 → W p l e R s m args below meth c H1 locs1 ce sl Q (F0 m (pc + 3) lsA s2) := by
              intro H1 locs1 hP1 hD1 hS1
              obtain ⟨w1, w2⟩ := hP.set (c := (3, ci, n, p', fs.set b y)) h5 g1 j1 j2 (Or.inr (Or.inr (Or.inr ⟨rfl, gs.set b vy, rfl, by rw [List.length_set, List.length_set]; exact g3, fun j a' ha => by
                  have ha : (fs.set b y)[j]? = some a' := ha
                  rw [List.getElem?_set] at ha
                  rw [List.getElem?_set]
                  by_cases hj : b = j
                  · subst hj
                    rw [if_pos rfl, if_pos hlt] at ha
                    cases ha
                    rw [if_pos rfl, if_pos hlt2]
                    exact ⟨vy, rfl, hy⟩
                  · rw [if_neg hj] at ha
                    rw [if_neg hj]
                    exact g4 j a' ha⟩))) hP1 hD1
              refine hgo _ _ _ _ _ _ hk H1 locs1 lsA _ _ (by rw [w2]; exact hL) (by rw [w2]; exact hU) w1 hS1 ?_
              rw [er_set_fst g1]
              exact hw
            rcases hfin with hf | ⟨hf, hm, ho⟩
            · exact va_put hx hb hts k4 ty k5 k6 hown hE.1 hP.1 hP.2.1 hS (n1 - 5) g1 k1 b k2 (hts _ k3) (fun _ q => q) hf (k5 b k2) f1 f2 hlt2 hd go2
            · exact va_putF hx hb hts k4 ty k5 k6 hown hE.1 hP.1 hP.2.1 hS (n1 - 5) g1 k1 b k2 (hts _ k3) (fun _ q => q) hf hm ho (k5 b k2) f1 f2 hlt2 hd go2
      · rw [if_neg hc] at h; exact absurd h Bool.false_ne_true
    · rw [if_neg hft] at h; exact absurd h Bool.false_ne_true
theorem es_getstatic (B : eb_B p s m args c bytes nL own D τ sa ro A) (hgo : ∀ pc ls st hp ce sl, go pc ls st hp ce sl = true → ew_G p l e R s m args below meth c Q ν D τ sa ro A ws0 nL pc ls st hp ce sl) {i : Nat} {x : String × String} (hi : ec_st[a]? = some x) (hli : Jvm.Cond.fieldLink own i x.1 x.2 "[I" ∈ eg_T) (hd : decode bytes pc = .ok (.getstatic i, 3)) (h : ex_step cls vt lim ret go cal nat K pc (.getstatic i) a b z ls st hp ce sl = true) : ew_G p l e R s m args below meth c Q ν D τ sa ro A ws0 nL pc ls st hp ce sl := by
  intro H locs lsA stA ws hL hT hP hS hw
  obtain ⟨hx, hb, hml, hown, hts, hE⟩ := id B
  have h : ex_n (pc + 3) (fun pc => go pc ls (.inr (.inr (.inl (some a))) :: st) hp ce sl) = true := h
  rw [ex_n_eq] at h
  obtain ⟨t, h1, h2⟩ := hE.2.2.2.1 a x hi
  have h3 : (er_r ν sa ws).1[a]? = some t := by
    unfold er_r
    simp only
    rw [List.getElem?_append_left (List.getElem?_eq_some_iff.mp h1).1]
    exact h1
  exact va_gets hx hb h2 hS hown (hts _ hli) (fun _ q => q) hd (hgo _ _ _ _ _ _ h H locs lsA _ ws hL ⟨⟨t, h3, rfl⟩, hT⟩ hP hS hw)
theorem es_arraylength (B : eb_B p s m args c bytes nL own D τ sa ro A) (hgo : ∀ pc ls st hp ce sl, go pc ls st hp ce sl = true → ew_G p l e R s m args below meth c Q ν D τ sa ro A ws0 nL pc ls st hp ce sl) (hd : decode bytes pc = .ok (.arraylength, 1)) (h : ex_step cls vt lim ret go cal nat K pc (.arraylength) a b z ls st hp ce sl = true) : ew_G p l e R s m args below meth c Q ν D τ sa ro A ws0 nL pc ls st hp ce sl := by
  intro H locs lsA stA ws hL hT hP hS hw
  obtain ⟨hx, hb, hml, hown, hts, hE⟩ := id B
  match st, h, hT with
  | [], h, _ => exact absurd h Bool.false_ne_true
  | x :: r, h, hT =>
    have h : ex_ref x (fun q => bif Nat.ble 5 q then false else ex_hget hp q (fun o => match o with | (t, _, n, _, _) => if Nat.beq t 0 && Nat.ble n 1000000 then ex_n n (fun n => ex_n (pc + 1) (fun pc => go pc ls (.inl (Int.ofNat n) :: r) hp ce sl)) else false)) = true := h
    obtain ⟨vx, s2, rfl, hxv, hU⟩ := hT.cons
    obtain ⟨n1, q1, -, e2, rfl, h⟩ := ex_ref_ok h hxv
    cases hb5 : Nat.ble 5 n1 with
    | true => rw [hb5] at h; exact absurd h Bool.false_ne_true
    | false =>
      rw [hb5] at h
      obtain ⟨⟨t, ci, n, p', fs⟩, hc1, h⟩ := ex_hget_ok h
      replace h : (if Nat.beq t 0 && Nat.ble n 1000000 then ex_n n (fun n => ex_n (pc + 1) (fun pc => go pc ls (.inl (Int.ofNat n) :: r) hp ce sl)) else false) = true := h
      by_cases hc : (Nat.beq t 0 && Nat.ble n 1000000) = true
      · rw [if_pos hc, ex_n_eq, ex_n_eq] at h
        rw [Bool.and_eq_true] at hc
        obtain rfl := Nat.eq_of_beq_eq_true hc.1
        have hn := Nat.le_of_ble_eq_true hc.2
        rcases hP.at hE e2 hc1 with ⟨-, -, f, g1, g2⟩ | ⟨h5, -⟩
        · exact va_tlen hx hb g1 hS rfl hd (hgo _ _ _ _ _ _ h H locs lsA _ ws hL ⟨⟨_, rfl, nI_toInt (show n < 2 ^ 31 by omega)⟩, hU⟩ hP hS hw)
        · rw [Nat.ble_eq_true_of_le h5] at hb5; cases hb5
      · rw [if_neg hc] at h; exact absurd h Bool.false_ne_true
theorem es_iaload (B : eb_B p s m args c bytes nL own D τ sa ro A) (hgo : ∀ pc ls st hp ce sl, go pc ls st hp ce sl = true → ew_G p l e R s m args below meth c Q ν D τ sa ro A ws0 nL pc ls st hp ce sl) (hd : decode bytes pc = .ok (.iaload, 1)) (h : ex_step cls vt lim ret go cal nat K pc (.iaload) a b z ls st hp ce sl = true) : ew_G p l e R s m args below meth c Q ν D τ sa ro A ws0 nL pc ls st hp ce sl := by
  intro H locs lsA stA ws hL hT hP hS hw
  obtain ⟨hx, hb, hml, hown, hts, hE⟩ := id B
  match st, h, hT with
  | [], h, _ => exact absurd h Bool.false_ne_true
  | [_], h, _ => exact absurd h Bool.false_ne_true
  | y :: x :: r, h, hT =>
    have h : ex_ref x (fun q => ex_hget hp q (fun o => match o with | (t, _, n, p, _) => if Nat.beq t 0 then ex_ld n p y (fun w => ex_n (pc + 1) (fun pc => go pc ls (w :: r) hp ce sl)) else false)) = true := h
    obtain ⟨vy, s1, rfl, hy, hU1⟩ := hT.cons
    obtain ⟨vx, s2, rfl, hxv, hU⟩ := hU1.cons
    obtain ⟨n1, q1, -, e2, rfl, h⟩ := ex_ref_ok h hxv
    obtain ⟨⟨t, ci, n, p', fs⟩, hc1, h⟩ := ex_hget_ok h
    replace h : (if Nat.beq t 0 then ex_ld n p' y (fun w => ex_n (pc + 1) (fun pc => go pc ls (w :: r) hp ce sl)) else false) = true := h
    by_cases hc : Nat.beq t 0 = true
    · rw [if_pos hc] at h
      obtain rfl := Nat.eq_of_beq_eq_true hc
      obtain ⟨yi, i, rfl, hyi, hin, hall⟩ := ex_ld_ok (ρ := er_r ν sa ws) h hy
      obtain ⟨hin2, hcl⟩ := ex_ix_in hyi hin
      rcases hP.at hE e2 hc1 with ⟨-, hz, f, g1, g2⟩ | ⟨h5, e, g1, g2⟩
      · obtain ⟨w, g6, hk⟩ := hall f g2
        rw [ex_n_eq] at hk
        exact va_ti hx hb g1 hS hin2 (by rw [hcl]) hd (hgo _ _ _ _ _ _ hk H locs lsA _ ws hL ⟨g6, hU⟩ hP hS hw)
      · rcases g2 with ⟨-, f, rfl, g2, -⟩ | ⟨hz, -⟩ | ⟨hz, -⟩ | ⟨hz, -⟩
        · obtain ⟨w, g6, hk⟩ := hall f g2
          rw [ex_n_eq] at hk
          exact va_iald hx hb hE.1 hP.1 (n1 - 5) 0 g1 rfl hin2 hd (by rw [hcl]; exact hgo _ _ _ _ _ _ hk H locs lsA _ ws hL ⟨g6, hU⟩ hP hS hw)
        · cases hz
        · cases hz
        · cases hz
    · rw [if_neg hc] at h; exact absurd h Bool.false_ne_true
theorem es_baload (B : eb_B p s m args c bytes nL own D τ sa ro A) (hgo : ∀ pc ls st hp ce sl, go pc ls st hp ce sl = true → ew_G p l e R s m args below meth c Q ν D τ sa ro A ws0 nL pc ls st hp ce sl) (hd : decode bytes pc = .ok (.baload, 1)) (h : ex_step cls vt lim ret go cal nat K pc (.baload) a b z ls st hp ce sl = true) : ew_G p l e R s m args below meth c Q ν D τ sa ro A ws0 nL pc ls st hp ce sl := by
  intro H locs lsA stA ws hL hT hP hS hw
  obtain ⟨hx, hb, hml, hown, hts, hE⟩ := id B
  match st, h, hT with
  | [], h, _ => exact absurd h Bool.false_ne_true
  | [_], h, _ => exact absurd h Bool.false_ne_true
  | y :: x :: r, h, hT =>
    have h : ex_ref x (fun q => ex_hget hp q (fun o => match o with | (t, _, n, p, _) => if Nat.beq t 1 then ex_ld n p y (fun w => ex_n (pc + 1) (fun pc => go pc ls (w :: r) hp ce sl)) else false)) = true := h
    obtain ⟨vy, s1, rfl, hy, hU1⟩ := hT.cons
    obtain ⟨vx, s2, rfl, hxv, hU⟩ := hU1.cons
    obtain ⟨n1, q1, -, e2, rfl, h⟩ := ex_ref_ok h hxv
    obtain ⟨⟨t, ci, n, p', fs⟩, hc1, h⟩ := ex_hget_ok h
    replace h : (if Nat.beq t 1 then ex_ld n p' y (fun w => ex_n (pc + 1) (fun pc => go pc ls (w :: r) hp ce sl)) else false) = true := h
    by_cases hc : Nat.beq t 1 = true
    · rw [if_pos hc] at h
      obtain rfl := Nat.eq_of_beq_eq_true hc
      obtain ⟨yi, i, rfl, hyi, hin, hall⟩ := ex_ld_ok (ρ := er_r ν sa ws) h hy
      obtain ⟨hin2, hcl⟩ := ex_ix_in hyi hin
      rcases hP.at hE e2 hc1 with ⟨-, hz, f, g1, g2⟩ | ⟨h5, e, g1, g2⟩
      · cases hz
      · rcases g2 with ⟨hz, -⟩ | ⟨-, f, rfl, g2, -⟩ | ⟨hz, -⟩ | ⟨hz, -⟩
        · cases hz
        · obtain ⟨w, g6, hk⟩ := hall f g2
          rw [ex_n_eq] at hk
          exact va_zald hx hb hE.1 hP.1 (n1 - 5) 1 g1 rfl hin2 hd (by rw [hcl]; exact hgo _ _ _ _ _ _ hk H locs lsA _ ws hL ⟨g6, hU⟩ hP hS hw)
        · cases hz
        · cases hz
    · rw [if_neg hc] at h; exact absurd h Bool.false_ne_true
theorem es_aaload (B : eb_B p s m args c bytes nL own D τ sa ro A) (hgo : ∀ pc ls st hp ce sl, go pc ls st hp ce sl = true → ew_G p l e R s m args below meth c Q ν D τ sa ro A ws0 nL pc ls st hp ce sl) (hd : decode bytes pc = .ok (.aaload, 1)) (h : ex_step cls vt lim ret go cal nat K pc (.aaload) a b z ls st hp ce sl = true) : ew_G p l e R s m args below meth c Q ν D τ sa ro A ws0 nL pc ls st hp ce sl := by
  intro H locs lsA stA ws hL hT hP hS hw
  obtain ⟨hx, hb, hml, hown, hts, hE⟩ := id B
  match st, h, hT with
  | [], h, _ => exact absurd h Bool.false_ne_true
  | [_], h, _ => exact absurd h Bool.false_ne_true
  | y :: x :: r, h, hT =>
    have h : ex_iy y (fun i => ex_ref x (fun q => ex_hget hp q (fun o => match o with | (t, _, _, _, xs) => if Nat.beq t 2 then ex_get xs i (fun w => ex_n (pc + 1) (fun pc => go pc ls (w :: r) hp ce sl)) else false))) = true := h
    obtain ⟨vy, s1, rfl, hy, hU1⟩ := hT.cons
    obtain ⟨vx, s2, rfl, hxv, hU⟩ := hU1.cons
    obtain ⟨yi, i, rfl, hyi, h⟩ := ex_iy_ok h hy
    obtain ⟨n1, q1, -, e2, rfl, h⟩ := ex_ref_ok h hxv
    obtain ⟨⟨t, ci, n, p', fs⟩, hc1, h⟩ := ex_hget_ok h
    replace h : (if Nat.beq t 2 then ex_get fs i (fun w => ex_n (pc + 1) (fun pc => go pc ls (w :: r) hp ce sl)) else false) = true := h
    by_cases hc : Nat.beq t 2 = true
    · rw [if_pos hc] at h
      obtain rfl := Nat.eq_of_beq_eq_true hc
      obtain ⟨w, hw1, hk⟩ := ex_get_ok _ _ _ h
      rw [ex_n_eq] at hk
      have hin : i < fs.length := (List.getElem?_eq_some_iff.mp hw1).1
      obtain ⟨hin2, hcl⟩ := ex_ix_in hyi hin
      rcases hP.at hE e2 hc1 with ⟨-, hz, f, g1, g2⟩ | ⟨h5, e, g1, g2⟩
      · cases hz
      · rcases g2 with ⟨hz, -⟩ | ⟨hz, -⟩ | ⟨-, ⟨ty, t1, t2⟩, f, rfl, g2⟩ | ⟨hz, -⟩
        · cases hz
        · cases hz
        · exact W.aald (v := va_rf (f yi.toNatClampNeg)) (ty := ty) hx hb (hP.1 (n1 - 5) _ g1) ((hE.1.2 ci _ t1).1 fs.length (fun j => va_rf (f j))) t2 (fun q => by cases q) (by show ¬ (yi < 0 ∨ (arrV _ _ _).slots.size ≤ _); rw [arrV_size]; exact hin2) (by show (arrV _ _ _).slots[_]? = _; rw [arrV_read _ _ (by rw [hcl]; exact hin)]) rfl rfl hd (by rw [hcl]; exact hgo _ _ _ _ _ _ hk H locs lsA _ ws hL ⟨g2 i w hw1, hU⟩ hP hS hw)
        · cases hz
    · rw [if_neg hc] at h; exact absurd h Bool.false_ne_true
theorem es_iastore (B : eb_B p s m args c bytes nL own D τ sa ro A) (hgo : ∀ pc ls st hp ce sl, go pc ls st hp ce sl = true → ew_G p l e R s m args below meth c Q ν D τ sa ro A ws0 nL pc ls st hp ce sl) (hd : decode bytes pc = .ok (.iastore, 1)) (h : ex_step cls vt lim ret go cal nat K pc (.iastore) a b z ls st hp ce sl = true) : ew_G p l e R s m args below meth c Q ν D τ sa ro A ws0 nL pc ls st hp ce sl := by
  intro H locs lsA stA ws hL hT hP hS hw
  obtain ⟨hx, hb, hml, hown, hts, hE⟩ := id B
  match st, h, hT with
  | [], h, _ => exact absurd h Bool.false_ne_true
  | [_], h, _ => exact absurd h Bool.false_ne_true
  | [_, _], h, _ => exact absurd h Bool.false_ne_true
  | w :: y :: x :: r, h, hT =>
    have h : ex_i w (fun _ _ => ex_iy y (fun i => ex_ref x (fun q => if Nat.ble 5 q then ex_hget hp q (fun o => match o with | (t, ty, n, p, fs) => if Nat.beq t 0 && Nat.ble (i + 1) n then ex_pk w (fun w => ex_n (ex_ps p i w) (fun p => ex_hset hp q (0, ty, n, p, []) (fun hp => ex_n (pc + 1) (fun pc => go pc ls (r) hp ce sl)))) else false) else false))) = true := h
    obtain ⟨vw, s0, rfl, hwv, hU2⟩ := hT.cons
    obtain ⟨vy, s1, rfl, hy, hU1⟩ := hU2.cons
    obtain ⟨vx, s2, rfl, hxv, hU⟩ := hU1.cons
    obtain ⟨xw, -, -, ew, -, -, h⟩ := ex_i_ok h hwv
    obtain ⟨yi, i, rfl, hyi, h⟩ := ex_iy_ok h hy
    obtain ⟨n1, q1, -, e2, rfl, h⟩ := ex_ref_ok h hxv
    by_cases h5 : Nat.ble 5 n1 = true
    · rw [if_pos h5] at h
      obtain ⟨⟨t, ci, n, p', fs⟩, hc1, h⟩ := ex_hget_ok h
      replace h : (if Nat.beq t 0 && Nat.ble (i + 1) n then ex_pk w (fun w => ex_n (ex_ps p' i w) (fun p => ex_hset hp n1 (0, ci, n, p, []) (fun hp => ex_n (pc + 1) (fun pc => go pc ls (r) hp ce sl)))) else false) = true := h
      by_cases hc : (Nat.beq t 0 && Nat.ble (i + 1) n) = true
      · rw [if_pos hc] at h
        rw [Bool.and_eq_true] at hc
        obtain rfl := Nat.eq_of_beq_eq_true hc.1
        have hin : i < n := Nat.le_of_ble_eq_true hc.2
        obtain ⟨hin2, hcl⟩ := ex_ix_in hyi hin
        obtain ⟨x9, w9, rfl, hw9, hr9, h⟩ := ex_pk_ok h hwv
        rw [ex_n_eq] at h
        obtain ⟨hp', j1, j2, hk⟩ := ex_hset_ok h
        rw [ex_n_eq] at hk
        rcases hP.at hE e2 hc1 with ⟨hz, -⟩ | ⟨h6, e, g1, g2⟩
        · have := Nat.le_of_ble_eq_true h5; omega
        · rcases g2 with ⟨-, f, rfl, g2, -⟩ | ⟨hz, -⟩ | ⟨hz, -⟩ | ⟨hz, -⟩
          · refine va_iast hx hb hE.1 hP.1 hP.2.1 hS (n1 - 5) 0 g1 rfl hin2 hd (fun H1 locs1 hP1 hD1 hS1 => ?_)
            rw [hcl] at hP1 hD1
            obtain ⟨w1, w2⟩ := hP.set (c := (0, ci, n, ex_ps p' i w9, [])) h6 g1 j1 j2 (Or.inl ⟨rfl, upd f i x9, rfl, g2.set hw9 hr9, trivial⟩) hP1 hD1
            refine hgo _ _ _ _ _ _ hk H1 locs1 lsA _ _ (by rw [w2]; exact hL) (by rw [w2]; exact hU) w1 hS1 ?_
            rw [er_set_fst g1]
            exact hw
          · cases hz
          · cases hz
          · cases hz
      · rw [if_neg hc] at h; exact absurd h Bool.false_ne_true
    · rw [if_neg h5] at h; exact absurd h Bool.false_ne_true
theorem es_bastore (B : eb_B p s m args c bytes nL own D τ sa ro A) (hgo : ∀ pc ls st hp ce sl, go pc ls st hp ce sl = true → ew_G p l e R s m args below meth c Q ν D τ sa ro A ws0 nL pc ls st hp ce sl) (hd : decode bytes pc = .ok (.bastore, 1)) (h : ex_step cls vt lim ret go cal nat K pc (.bastore) a b z ls st hp ce sl = true) : ew_G p l e R s m args below meth c Q ν D τ sa ro A ws0 nL pc ls st hp ce sl := by
  intro H locs lsA stA ws hL hT hP hS hw
  obtain ⟨hx, hb, hml, hown, hts, hE⟩ := id B
  match st, h, hT with
  | [], h, _ => exact absurd h Bool.false_ne_true
  | [_], h, _ => exact absurd h Bool.false_ne_true
  | [_, _], h, _ => exact absurd h Bool.false_ne_true
  | w :: y :: x :: r, h, hT =>
    have h : (if ex_may01 w then ex_iy y (fun i => ex_ref x (fun q => if Nat.ble 5 q then ex_hget hp q (fun o => match o with | (t, ty, n, p, fs) => if Nat.beq t 1 && Nat.ble (i + 1) n then ex_pk w (fun w => ex_n (ex_ps p i w) (fun p => ex_hset hp q (1, ty, n, p, []) (fun hp => ex_n (pc + 1) (fun pc => go pc ls (r) hp ce sl)))) else false) else false)) else false) = true := h
    obtain ⟨vw, s0, rfl, hwv, hU2⟩ := hT.cons
    obtain ⟨vy, s1, rfl, hy, hU1⟩ := hU2.cons
    obtain ⟨vx, s2, rfl, hxv, hU⟩ := hU1.cons
    by_cases h01 : ex_may01 w = true
    · rw [if_pos h01] at h
      obtain ⟨yi, i, rfl, hyi, h⟩ := ex_iy_ok h hy
      obtain ⟨n1, q1, -, e2, rfl, h⟩ := ex_ref_ok h hxv
      by_cases h5 : Nat.ble 5 n1 = true
      · rw [if_pos h5] at h
        obtain ⟨⟨t, ci, n, p', fs⟩, hc1, h⟩ := ex_hget_ok h
        replace h : (if Nat.beq t 1 && Nat.ble (i + 1) n then ex_pk w (fun w => ex_n (ex_ps p' i w) (fun p => ex_hset hp n1 (1, ci, n, p, []) (fun hp => ex_n (pc + 1) (fun pc => go pc ls (r) hp ce sl)))) else false) = true := h
        by_cases hc : (Nat.beq t 1 && Nat.ble (i + 1) n) = true
        · rw [if_pos hc] at h
          rw [Bool.and_eq_true] at hc
          obtain rfl := Nat.eq_of_beq_eq_true hc.1
          have hin : i < n := Nat.le_of_ble_eq_true hc.2
          obtain ⟨hin2, hcl⟩ := ex_ix_in hyi hin
          have hvw := ex_may01_ok h01 hwv
          obtain ⟨x9, w9, rfl, hw9, hr9, h⟩ := ex_pk_ok h hwv
          rw [ex_n_eq] at h
          obtain ⟨hp', j1, j2, hk⟩ := ex_hset_ok h
          rw [ex_n_eq] at hk
          have hnar : vp_nar .boolean x9 = x9 := by
            rcases hvw with q | q <;> (cases q; decide)
          rcases hP.at hE e2 hc1 with ⟨hz, -⟩ | ⟨h6, e, g1, g2⟩
          · have := Nat.le_of_ble_eq_true h5; omega
          · rcases g2 with ⟨hz, -⟩ | ⟨-, f, rfl, g2, -⟩ | ⟨hz, -⟩ | ⟨hz, -⟩
            · cases hz
            · refine va_zast hx hb hE.1 hP.1 hP.2.1 hS (n1 - 5) 1 g1 rfl hin2 hd (fun H1 locs1 hP1 hD1 hS1 => ?_)
              rw [hcl, hnar] at hP1 hD1
              obtain ⟨w1, w2⟩ := hP.set (c := (1, ci, n, ex_ps p' i w9, [])) h6 g1 j1 j2 (Or.inr (Or.inl ⟨rfl, upd f i x9, rfl, g2.set hw9 hr9, trivial⟩)) hP1 hD1
              refine hgo _ _ _ _ _ _ hk H1 locs1 lsA _ _ (by rw [w2]; exact hL) (by rw [w2]; exact hU) w1 hS1 ?_
              rw [er_set_fst g1]
              exact hw
            · cases hz
            · cases hz
        · rw [if_neg hc] at h; exact absurd h Bool.false_ne_true
      · rw [if_neg h5] at h; exact absurd h Bool.false_ne_true
    · rw [if_neg h01] at h; exact absurd h Bool.false_ne_true
/-- what may stand in an array of references -/
def ek_ast (ty ci : Nat) : Bool := (if Nat.beq ty 3 then Nat.beq ci 0 else Nat.beq ty 4 && (Nat.beq ci 1 || Nat.beq ci 2 || Nat.beq ci 3 || Nat.beq ci 4 || Nat.beq ci 6 || Nat.beq ci 10))
theorem ek_ast_ok {ty ci : Nat} (h : ek_ast ty ci = true) : (ty = 3 ∧ ci = 0) ∨ (ty = 4 ∧ ci = 2) ∨ (ty = 4 ∧ ∃ r : vw_C, ec_cl[ci]? = some r ∧ (r.1, "WarmNight$Even") ∈ ec_cast) := by
  unfold ek_ast at h
  by_cases h3 : Nat.beq ty 3 = true
  · rw [if_pos h3] at h
    exact Or.inl ⟨Nat.eq_of_beq_eq_true h3, Nat.eq_of_beq_eq_true h⟩
  · rw [if_neg h3, Bool.and_eq_true] at h
    have ht := Nat.eq_of_beq_eq_true h.1
    simp only [Bool.or_eq_true, Nat.beq_eq] at h
    rcases h.2 with ((((q | q) | q) | q) | q) | q
    · exact Or.inr (Or.inr ⟨ht, _, by rw [q]; rfl, by simp [ec_cast]⟩)
    · exact Or.inr (Or.inl ⟨ht, q⟩)
    · exact Or.inr (Or.inr ⟨ht, _, by rw [q]; rfl, by simp [ec_cast]⟩)
    · exact Or.inr (Or.inr ⟨ht, _, by rw [q]; rfl, by simp [ec_cast]⟩)
    · exact Or.inr (Or.inr ⟨ht, _, by rw [q]; rfl, by simp [ec_cast]⟩)
    · exact Or.inr (Or.inr ⟨ht, _, by rw [q]; rfl, by simp [ec_cast]⟩)
theorem es_aastore (B : eb_B p s m args c bytes nL own D τ sa ro A) (hgo : ∀ pc ls st hp ce sl, go pc ls st hp ce sl = true → ew_G p l e R s m args below meth c Q ν D τ sa ro A ws0 nL pc ls st hp ce sl) (hd : decode bytes pc = .ok (.aastore, 1)) (h : ex_step cls vt lim ret go cal nat K pc (.aastore) a b z ls st hp ce sl = true) : ew_G p l e R s m args below meth c Q ν D τ sa ro A ws0 nL pc ls st hp ce sl := by
  intro H locs lsA stA ws hL hT hP hS hw
  obtain ⟨hx, hb, hml, hown, hts, hE⟩ := id B
  match st, h, hT with
  | [], h, _ => exact absurd h Bool.false_ne_true
  | [_], h, _ => exact absurd h Bool.false_ne_true
  | [_, _], h, _ => exact absurd h Bool.false_ne_true
  | w :: y :: x :: r, h, hT =>
    have h : ex_ref w (fun y1 => ex_hget hp y1 (fun c => match c with | (t2, ci, _) => if Nat.beq t2 3 then ex_ix y (fun i => ex_ref x (fun q => if Nat.ble 5 q then ex_hget hp q (fun o => match o with | (t, ty, n, p, xs) => if Nat.beq t 2 && (if Nat.beq ty 3 then Nat.beq ci 0 else Nat.beq ty 4 && (Nat.beq ci 1 || Nat.beq ci 2 || Nat.beq ci 3 || Nat.beq ci 4 || Nat.beq ci 6 || Nat.beq ci 10)) then ex_set xs i w (fun xs => ex_hset hp q (2, ty, n, p, xs) (fun hp => ex_n (pc + 1) (fun pc => go pc ls (r) hp ce sl))) else false) else false)) else false)) = true := h
    obtain ⟨vw, s0, rfl, hwv, hU2⟩ := hT.cons
    obtain ⟨vy, s1, rfl, hy, hU1⟩ := hU2.cons
    obtain ⟨vx, s2, rfl, hxv, hU⟩ := hU1.cons
    obtain ⟨m1, qm, em1, em2, rfl, h⟩ := ex_ref_ok h hwv
    obtain ⟨⟨t2, c2, rest2⟩, hcm, h⟩ := ex_hget_ok h
    replace h : (if Nat.beq t2 3 then ex_ix y (fun i => ex_ref x (fun q => if Nat.ble 5 q then ex_hget hp q (fun o => match o with | (t, ty, n, p, xs) => if Nat.beq t 2 && ek_ast ty c2 then ex_set xs i w (fun xs => ex_hset hp q (2, ty, n, p, xs) (fun hp => ex_n (pc + 1) (fun pc => go pc ls (r) hp ce sl))) else false) else false)) else false) = true := h
    by_cases ht2 : Nat.beq t2 3 = true
    · rw [if_pos ht2] at h
      obtain rfl := Nat.eq_of_beq_eq_true ht2
      obtain ⟨yi, i, rfl, hyi, h⟩ := ex_ix_ok h hy
      obtain ⟨n1, q1, -, e2, rfl, h⟩ := ex_ref_ok h hxv
      by_cases h5 : Nat.ble 5 n1 = true
      · rw [if_pos h5] at h
        obtain ⟨⟨t, ty, n, p', xs⟩, hc1, h⟩ := ex_hget_ok h
        replace h : (if Nat.beq t 2 && ek_ast ty c2 then ex_set xs i w (fun xs => ex_hset hp n1 (2, ty, n, p', xs) (fun hp => ex_n (pc + 1) (fun pc => go pc ls (r) hp ce sl))) else false) = true := h
        by_cases hc : (Nat.beq t 2 && ek_ast ty c2) = true
        · rw [if_pos hc] at h
          rw [Bool.and_eq_true] at hc
          obtain rfl := Nat.eq_of_beq_eq_true hc.1
          obtain ⟨hin, h⟩ := ex_set_ok _ _ _ _ h
          obtain ⟨hp', j1, j2, hk⟩ := ex_hset_ok h
          rw [ex_n_eq] at hk
          obtain ⟨hin2, hcl⟩ := ex_ix_in hyi hin
          rcases hP.at hE em2 hcm with ⟨-, hz, -⟩ | ⟨hm6, em, gm1, gm2⟩
          · cases hz
          · rcases gm2 with ⟨hz, -⟩ | ⟨hz, -⟩ | ⟨hz, -⟩ | ⟨-, gs, rfl, gm3, gm4⟩
            · cases hz
            · cases hz
            · cases hz
            · rcases hP.at hE e2 hc1 with ⟨hz, -⟩ | ⟨h6, e, g1, g2⟩
              · have := Nat.le_of_ble_eq_true h5; omega
              · rcases g2 with ⟨hz, -⟩ | ⟨hz, -⟩ | ⟨-, tt, f, rfl, g2⟩ | ⟨hz, -⟩
                · cases hz
                · cases hz
                · have go2 : ∀ (H1 : Heap) (locs1 : List Loc), va_P D ec_cl (ws.set (n1 - 5) (q1, .inl (τ ty, xs.length, .inr (.inr (.inr (.inr (va_up f yi.toNatClampNeg (some qm)))))))) H1 → va_D A (ws.set (n1 - 5) (q1, .inl (τ ty, xs.length, .inr (.inr (.inr (.inr (va_up f yi.toNatClampNeg (some qm)))))))) → va_S A s.heap H1 locs1 → W p l e R s m args below meth c H1 locs1 ce sl Q (F0 m (pc + 1) lsA s2) := by
                    intro H1 locs1 hP1 hD1 hS1
                    rw [hcl] at hP1 hD1
                    have hlen : (xs.set i w).length = xs.length := List.length_set
                    obtain ⟨w1, w2⟩ := hP.set (c := (2, ty, n, p', xs.set i w)) h6 g1 j1 j2 (Or.inr (Or.inr (Or.inl ⟨rfl, tt, va_up f i (some qm), by show _ = Sum.inl (τ ty, (xs.set i w).length, _); rw [hlen], fun j a' ha => by
                        have ha : (xs.set i w)[j]? = some a' := ha
                        rw [List.getElem?_set] at ha
                        by_cases hj : i = j
                        · subst hj
                          rw [if_pos rfl, if_pos hin] at ha
                          cases ha
                          rw [va_up_self]
                          exact hwv
                        · rw [if_neg hj] at ha
                          rw [va_up_ne f (some qm) (Ne.symm hj)]
                          exact g2 j a' ha⟩))) hP1 hD1
                    refine hgo _ _ _ _ _ _ hk H1 locs1 lsA _ _ (by rw [w2]; exact hL) (by rw [w2]; exact hU) w1 hS1 ?_
                    rw [er_set_fst g1]
                    exact hw
                  rcases ek_ast_ok hc.2 with ⟨rfl, rfl⟩ | ⟨rfl, rfl⟩ | ⟨rfl, rr, r1, r2⟩
                  · exact va_astq hx hb hE.1 hP.1 hP.2.1 hS (n1 - 5) 3 (m1 - 5) 0 (r := ("WarmNight$Carriage", ec_T0, 20)) g1 rfl gm1 rfl hin2 hd go2
                  · exact va_astq hx hb hE.1 hP.1 hP.2.1 hS (n1 - 5) 4 (m1 - 5) 2 (r := ("WarmNight$Even", ec_T2, 0)) g1 rfl gm1 rfl hin2 hd go2
                  · exact va_astqO hx hb hE.1 hP.1 hP.2.1 hS (n1 - 5) 4 (m1 - 5) c2 (r := rr) g1 rfl (hE.2.2.2.2.2.2.1.2.2.2 _ r2) gm1 r1 hin2 hd go2
                · cases hz
        · rw [if_neg hc] at h; exact absurd h Bool.false_ne_true
      · rw [if_neg h5] at h; exact absurd h Bool.false_ne_true
    · rw [if_neg ht2] at h; exact absurd h Bool.false_ne_true
theorem es_tableswitch (B : eb_B p s m args c bytes nL own D τ sa ro A) (hgo : ∀ pc ls st hp ce sl, go pc ls st hp ce sl = true → ew_G p l e R s m args below meth c Q ν D τ sa ro A ws0 nL pc ls st hp ce sl) {df lo hi : Int} {offs : Array Int} {len : Nat} (hsz : (offs.size : Int) = hi - lo + 1) (hd : decode bytes pc = .ok (.tableswitch df lo hi offs, len)) (h : ex_step cls vt lim ret go cal nat K pc (.tableswitch df lo hi offs) a b z ls st hp ce sl = true) : ew_G p l e R s m args below meth c Q ν D τ sa ro A ws0 nL pc ls st hp ce sl := by
  intro H locs lsA stA ws hL hT hP hS hw
  obtain ⟨hx, hb, hml, hown, hts, hE⟩ := id B
  match st, h, hT with
  | [], h, _ => exact absurd h Bool.false_ne_true
  | .inl x :: r, h, hT =>
    have h : (if ex_le lo x then (match offs[(x - lo).toNat]? with | some off => ex_tgt pc off (fun t => go t ls (r) hp ce sl) | none => ex_tgt pc df (fun t => go t ls (r) hp ce sl)) else ex_tgt pc df (fun t => go t ls (r) hp ce sl)) = true := h
    obtain ⟨vx, s2, rfl, hxv, hU⟩ := hT.cons
    obtain ⟨x', rfl, hxe⟩ := hxv
    by_cases hc : ex_le lo x = true
    · rw [if_pos hc] at h
      have hc2 := (ex_le_iff _ _).mp hc
      cases ho : offs[(x - lo).toNat]? with
      | some off =>
        rw [ho] at h
        obtain ⟨t, ht, hk⟩ := ex_tgt_ok h
        have hsz := (Array.getElem?_eq_some_iff.mp ho).1
        exact lv_tableIn hx hb hd (by omega) (by omega) (by rw [hxe]; exact ho) ht (hgo _ _ _ _ _ _ hk H locs lsA _ ws hL hU hP hS hw)
      | none =>
        rw [ho] at h
        obtain ⟨t, ht, hk⟩ := ex_tgt_ok h
        have hsz := Array.getElem?_eq_none_iff.mp ho
        exact lv_tableOut hx hb hd (by omega) ht (hgo _ _ _ _ _ _ hk H locs lsA _ ws hL hU hP hS hw)
    · rw [if_neg hc] at h
      obtain ⟨t, ht, hk⟩ := ex_tgt_ok h
      rw [ex_le_iff] at hc
      exact lv_tableOut hx hb hd (by omega) ht (hgo _ _ _ _ _ _ hk H locs lsA _ ws hL hU hP hS hw)
  | .inr (.inr (.inr (.inl (u, v)))) :: r, h, hT =>
    have h : (if ex_le (v + 1) lo || ex_le (lo + Int.ofNat offs.size) u then ex_tgt pc df (fun t => go t ls (r) hp ce sl) else false) = true := h
    obtain ⟨vx, s2, rfl, hxv, hU⟩ := hT.cons
    obtain ⟨x', rfl, h1, h2⟩ := hxv
    by_cases hc : (ex_le (v + 1) lo || ex_le (lo + Int.ofNat offs.size) u) = true
    · rw [if_pos hc] at h
      rw [Bool.or_eq_true, ex_le_iff, ex_le_iff] at hc
      obtain ⟨t, ht, hk⟩ := ex_tgt_ok h
      simp only at h1 h2
      exact lv_tableOut hx hb hd (by simp only [Int.ofNat_eq_natCast] at hc; omega) ht (hgo _ _ _ _ _ _ hk H locs lsA _ ws hL hU hP hS hw)
    · rw [if_neg hc] at h; exact absurd h Bool.false_ne_true
  | .inr (.inr (.inr (.inr (.inr (k0, u, v))))) :: r, h, hT =>
    have h : (if ex_le (v + 1) lo || ex_le (lo + Int.ofNat offs.size) u then ex_tgt pc df (fun t => go t ls (r) hp ce sl) else false) = true := h
    obtain ⟨vx, s2, rfl, hxv, hU⟩ := hT.cons
    obtain ⟨rfl, h1, h2⟩ := hxv
    by_cases hc : (ex_le (v + 1) lo || ex_le (lo + Int.ofNat offs.size) u) = true
    · rw [if_pos hc] at h
      rw [Bool.or_eq_true, ex_le_iff, ex_le_iff] at hc
      obtain ⟨t, ht, hk⟩ := ex_tgt_ok h
      simp only [er_r] at h1 h2
      exact lv_tableOut hx hb hd (by simp only [er_r]; simp only [Int.ofNat_eq_natCast] at hc; omega) ht (hgo _ _ _ _ _ _ hk H locs lsA _ ws hL hU hP hS hw)
    · rw [if_neg hc] at h; exact absurd h Bool.false_ne_true
  | .inr (.inl v) :: r, h, _ => exact absurd h Bool.false_ne_true
  | .inr (.inr (.inl v)) :: r, h, _ => exact absurd h Bool.false_ne_true
  | .inr (.inr (.inr (.inr (.inl v)))) :: r, h, _ => exact absurd h Bool.false_ne_true
end ES
