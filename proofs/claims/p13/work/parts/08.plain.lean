/-! One instruction of the runner, and the machine: constants, locals, stack, arithmetic, branches. Printed by wip/p1/gen8.py. -/
/-- a frame: its code, its own class, the words that hold, what stays -/
def eb_B (p : Program) (s : State) (m : MethodId) (args : Array Value) (c : Code) (bytes : ByteArray) (nL : Nat) (own : String) (D : va_G) (τ : Nat → ClassId) (sa : List Nat) (ro : List ex_C) (A : Nat → Prop) : Prop :=
  p.tables.exec = Jvm.exec ∧ c.code = bytes ∧ c.maxLocals = nL ∧ s.vm.findClass own = some m.cls ∧ (∀ w ∈ eg_T, w.before args s = true) ∧ er_E D τ sa ro A s
/-- from every state that the picture stands for the machine comes to Q -/
def ew_G (p : Program) (l : Launch) (e : Env) (R : Room) (s : State) (m : MethodId) (args : Array Value) (below : List Frame) (meth : Method) (c : Code) (Q : State → Prop) (ν : Nat → Int32) (D : va_G) (τ : Nat → ClassId) (sa : List Nat) (ro : List ex_C) (A : Nat → Prop) (ws0 : va_W) (nL pc : Nat) (ls : List (Option ex_V)) (st : List ex_V) (hp : ex_H) (ce sl : Nat) : Prop :=
  ∀ (H : Heap) (locs : List Loc) (lsA : Array Slot) (stA : List Value) (ws : va_W), er_L (er_r ν sa ws) nL ls lsA → er_St (er_r ν sa ws) st stA → er_W ν D τ sa ro A hp ws H → va_S A s.heap H locs → (∃ ex, ws.map Prod.fst = ws0.map Prod.fst ++ ex) →
    W p l e R s m args below meth c H locs ce sl Q (F0 m pc lsA stA)
theorem ex_of32 {z : Int} (h : ex_fit32 z = true) : (Int32.ofInt z).toInt = z := by
  obtain ⟨h1, h2⟩ := ex_fit32_ok h
  exact Int32.toInt_ofInt_of_le (by simpa using h1) (by simpa using h2)

section ES
variable {p : Program} {l : Launch} {e : Env} {R : Room} {s : State} {m : MethodId} {args : Array Value} {below : List Frame} {meth : Method} {c : Code} {Q : State → Prop} {ν : Nat → Int32} {D : va_G} {τ : Nat → ClassId} {sa : List Nat} {ro : List ex_C} {A : Nat → Prop} {ws0 : va_W} {bytes : ByteArray} {nL : Nat} {own : String}
variable {cls : List (List ex_V)} {vt : List (List (Nat × Nat))} {lim : Nat × Nat} {ret : Option FieldType} {go : Nat → List (Option ex_V) → List ex_V → ex_H → Nat → Nat → Bool} {cal : Nat → List ex_V → ex_H → Nat → Nat → (Option ex_V → ex_H → Nat → Nat → Bool) → Bool} {nat : Bool} {K : Option ex_V → ex_H → Bool} {pc a b : Nat} {z : Int} {ls : List (Option ex_V)} {st : List ex_V} {hp : ex_H} {ce sl : Nat}

theorem es_iadd (B : eb_B p s m args c bytes nL own D τ sa ro A) (hgo : ∀ pc ls st hp ce sl, go pc ls st hp ce sl = true → ew_G p l e R s m args below meth c Q ν D τ sa ro A ws0 nL pc ls st hp ce sl) (hd : decode bytes pc = .ok (.iadd, 1)) (h : ex_step cls vt lim ret go cal nat K pc (.iadd) a b z ls st hp ce sl = true) : ew_G p l e R s m args below meth c Q ν D τ sa ro A ws0 nL pc ls st hp ce sl := by
  intro H locs lsA stA ws hL hT hP hS hw
  obtain ⟨hx, hb, hml, hown, hts, hE⟩ := id B
  match st, h, hT with
  | [], h, _ => exact absurd h Bool.false_ne_true
  | [_], h, _ => exact absurd h Bool.false_ne_true
  | y :: x :: r, h, hT =>
    have h : ex_add x y (fun v => ex_n (pc + 1) (fun pc => go pc ls (v :: r) hp ce sl)) = true := h
    obtain ⟨vy, s1, rfl, hy, hU1⟩ := hT.cons
    obtain ⟨vx, s2, rfl, hxv, hU⟩ := hU1.cons
    obtain ⟨x', y', r', rfl, rfl, hr, hk⟩ := ex_add_ok h hxv hy
    rw [ex_n_eq] at hk
    exact lv_iadd hx hb hd (hgo _ _ _ _ _ _ hk H locs lsA _ ws hL ⟨hr, hU⟩ hP hS hw)
theorem es_isub (B : eb_B p s m args c bytes nL own D τ sa ro A) (hgo : ∀ pc ls st hp ce sl, go pc ls st hp ce sl = true → ew_G p l e R s m args below meth c Q ν D τ sa ro A ws0 nL pc ls st hp ce sl) (hd : decode bytes pc = .ok (.isub, 1)) (h : ex_step cls vt lim ret go cal nat K pc (.isub) a b z ls st hp ce sl = true) : ew_G p l e R s m args below meth c Q ν D τ sa ro A ws0 nL pc ls st hp ce sl := by
  intro H locs lsA stA ws hL hT hP hS hw
  obtain ⟨hx, hb, hml, hown, hts, hE⟩ := id B
  match st, h, hT with
  | [], h, _ => exact absurd h Bool.false_ne_true
  | [_], h, _ => exact absurd h Bool.false_ne_true
  | y :: x :: r, h, hT =>
    have h : ex_sub x y (fun v => ex_n (pc + 1) (fun pc => go pc ls (v :: r) hp ce sl)) = true := h
    obtain ⟨vy, s1, rfl, hy, hU1⟩ := hT.cons
    obtain ⟨vx, s2, rfl, hxv, hU⟩ := hU1.cons
    obtain ⟨x', y', r', rfl, rfl, hr, hk⟩ := ex_sub_ok h hxv hy
    rw [ex_n_eq] at hk
    exact lv_isub hx hb hd (hgo _ _ _ _ _ _ hk H locs lsA _ ws hL ⟨hr, hU⟩ hP hS hw)
theorem es_imul (B : eb_B p s m args c bytes nL own D τ sa ro A) (hgo : ∀ pc ls st hp ce sl, go pc ls st hp ce sl = true → ew_G p l e R s m args below meth c Q ν D τ sa ro A ws0 nL pc ls st hp ce sl) (hd : decode bytes pc = .ok (.imul, 1)) (h : ex_step cls vt lim ret go cal nat K pc (.imul) a b z ls st hp ce sl = true) : ew_G p l e R s m args below meth c Q ν D τ sa ro A ws0 nL pc ls st hp ce sl := by
  intro H locs lsA stA ws hL hT hP hS hw
  obtain ⟨hx, hb, hml, hown, hts, hE⟩ := id B
  match st, h, hT with
  | [], h, _ => exact absurd h Bool.false_ne_true
  | [_], h, _ => exact absurd h Bool.false_ne_true
  | y :: x :: r, h, hT =>
    have h : ex_mul x y (fun v => ex_n (pc + 1) (fun pc => go pc ls (v :: r) hp ce sl)) = true := h
    obtain ⟨vy, s1, rfl, hy, hU1⟩ := hT.cons
    obtain ⟨vx, s2, rfl, hxv, hU⟩ := hU1.cons
    obtain ⟨x', y', r', rfl, rfl, hr, hk⟩ := ex_mul_ok h hxv hy
    rw [ex_n_eq] at hk
    exact lv_imul hx hb hd (hgo _ _ _ _ _ _ hk H locs lsA _ ws hL ⟨hr, hU⟩ hP hS hw)
theorem es_iand (B : eb_B p s m args c bytes nL own D τ sa ro A) (hgo : ∀ pc ls st hp ce sl, go pc ls st hp ce sl = true → ew_G p l e R s m args below meth c Q ν D τ sa ro A ws0 nL pc ls st hp ce sl) (hd : decode bytes pc = .ok (.iand, 1)) (h : ex_step cls vt lim ret go cal nat K pc (.iand) a b z ls st hp ce sl = true) : ew_G p l e R s m args below meth c Q ν D τ sa ro A ws0 nL pc ls st hp ce sl := by
  intro H locs lsA stA ws hL hT hP hS hw
  obtain ⟨hx, hb, hml, hown, hts, hE⟩ := id B
  match st, h, hT with
  | [], h, _ => exact absurd h Bool.false_ne_true
  | [_], h, _ => exact absurd h Bool.false_ne_true
  | y :: x :: r, h, hT =>
    have h : ex_and x y (fun v => ex_n (pc + 1) (fun pc => go pc ls (v :: r) hp ce sl)) = true := h
    obtain ⟨vy, s1, rfl, hy, hU1⟩ := hT.cons
    obtain ⟨vx, s2, rfl, hxv, hU⟩ := hU1.cons
    obtain ⟨x', y', r', rfl, rfl, hr, hk⟩ := ex_and_ok h hxv hy
    rw [ex_n_eq] at hk
    exact lv_iand hx hb hd (hgo _ _ _ _ _ _ hk H locs lsA _ ws hL ⟨hr, hU⟩ hP hS hw)
theorem es_ior (B : eb_B p s m args c bytes nL own D τ sa ro A) (hgo : ∀ pc ls st hp ce sl, go pc ls st hp ce sl = true → ew_G p l e R s m args below meth c Q ν D τ sa ro A ws0 nL pc ls st hp ce sl) (hd : decode bytes pc = .ok (.ior, 1)) (h : ex_step cls vt lim ret go cal nat K pc (.ior) a b z ls st hp ce sl = true) : ew_G p l e R s m args below meth c Q ν D τ sa ro A ws0 nL pc ls st hp ce sl := by
  intro H locs lsA stA ws hL hT hP hS hw
  obtain ⟨hx, hb, hml, hown, hts, hE⟩ := id B
  match st, h, hT with
  | [], h, _ => exact absurd h Bool.false_ne_true
  | [_], h, _ => exact absurd h Bool.false_ne_true
  | y :: x :: r, h, hT =>
    have h : ex_bin (· ||| ·) x y (fun v => ex_n (pc + 1) (fun pc => go pc ls (v :: r) hp ce sl)) = true := h
    obtain ⟨vy, s1, rfl, hy, hU1⟩ := hT.cons
    obtain ⟨vx, s2, rfl, hxv, hU⟩ := hU1.cons
    obtain ⟨x', y', r', rfl, rfl, hr, hk⟩ := ex_bin_ok h hxv hy
    rw [ex_n_eq] at hk
    exact lv_ior hx hb hd (hgo _ _ _ _ _ _ hk H locs lsA _ ws hL ⟨hr, hU⟩ hP hS hw)
theorem es_ixor (B : eb_B p s m args c bytes nL own D τ sa ro A) (hgo : ∀ pc ls st hp ce sl, go pc ls st hp ce sl = true → ew_G p l e R s m args below meth c Q ν D τ sa ro A ws0 nL pc ls st hp ce sl) (hd : decode bytes pc = .ok (.ixor, 1)) (h : ex_step cls vt lim ret go cal nat K pc (.ixor) a b z ls st hp ce sl = true) : ew_G p l e R s m args below meth c Q ν D τ sa ro A ws0 nL pc ls st hp ce sl := by
  intro H locs lsA stA ws hL hT hP hS hw
  obtain ⟨hx, hb, hml, hown, hts, hE⟩ := id B
  match st, h, hT with
  | [], h, _ => exact absurd h Bool.false_ne_true
  | [_], h, _ => exact absurd h Bool.false_ne_true
  | y :: x :: r, h, hT =>
    have h : ex_xor x y (fun v => ex_n (pc + 1) (fun pc => go pc ls (v :: r) hp ce sl)) = true := h
    obtain ⟨vy, s1, rfl, hy, hU1⟩ := hT.cons
    obtain ⟨vx, s2, rfl, hxv, hU⟩ := hU1.cons
    obtain ⟨x', y', r', rfl, rfl, hr, hk⟩ := ex_xor_ok h hxv hy
    rw [ex_n_eq] at hk
    exact lv_ixor hx hb hd (hgo _ _ _ _ _ _ hk H locs lsA _ ws hL ⟨hr, hU⟩ hP hS hw)
theorem es_ishl (B : eb_B p s m args c bytes nL own D τ sa ro A) (hgo : ∀ pc ls st hp ce sl, go pc ls st hp ce sl = true → ew_G p l e R s m args below meth c Q ν D τ sa ro A ws0 nL pc ls st hp ce sl) (hd : decode bytes pc = .ok (.ishl, 1)) (h : ex_step cls vt lim ret go cal nat K pc (.ishl) a b z ls st hp ce sl = true) : ew_G p l e R s m args below meth c Q ν D τ sa ro A ws0 nL pc ls st hp ce sl := by
  intro H locs lsA stA ws hL hT hP hS hw
  obtain ⟨hx, hb, hml, hown, hts, hE⟩ := id B
  match st, h, hT with
  | [], h, _ => exact absurd h Bool.false_ne_true
  | [_], h, _ => exact absurd h Bool.false_ne_true
  | y :: x :: r, h, hT =>
    have h : ex_bin (fun x y => x <<< (y &&& 31)) x y (fun v => ex_n (pc + 1) (fun pc => go pc ls (v :: r) hp ce sl)) = true := h
    obtain ⟨vy, s1, rfl, hy, hU1⟩ := hT.cons
    obtain ⟨vx, s2, rfl, hxv, hU⟩ := hU1.cons
    obtain ⟨x', y', r', rfl, rfl, hr, hk⟩ := ex_bin_ok h hxv hy
    rw [ex_n_eq] at hk
    exact lv_ishl hx hb hd (hgo _ _ _ _ _ _ hk H locs lsA _ ws hL ⟨hr, hU⟩ hP hS hw)
theorem es_ishr (B : eb_B p s m args c bytes nL own D τ sa ro A) (hgo : ∀ pc ls st hp ce sl, go pc ls st hp ce sl = true → ew_G p l e R s m args below meth c Q ν D τ sa ro A ws0 nL pc ls st hp ce sl) (hd : decode bytes pc = .ok (.ishr, 1)) (h : ex_step cls vt lim ret go cal nat K pc (.ishr) a b z ls st hp ce sl = true) : ew_G p l e R s m args below meth c Q ν D τ sa ro A ws0 nL pc ls st hp ce sl := by
  intro H locs lsA stA ws hL hT hP hS hw
  obtain ⟨hx, hb, hml, hown, hts, hE⟩ := id B
  match st, h, hT with
  | [], h, _ => exact absurd h Bool.false_ne_true
  | [_], h, _ => exact absurd h Bool.false_ne_true
  | y :: x :: r, h, hT =>
    have h : ex_bin (fun x y => x >>> (y &&& 31)) x y (fun v => ex_n (pc + 1) (fun pc => go pc ls (v :: r) hp ce sl)) = true := h
    obtain ⟨vy, s1, rfl, hy, hU1⟩ := hT.cons
    obtain ⟨vx, s2, rfl, hxv, hU⟩ := hU1.cons
    obtain ⟨x', y', r', rfl, rfl, hr, hk⟩ := ex_bin_ok h hxv hy
    rw [ex_n_eq] at hk
    exact lv_ishr hx hb hd (hgo _ _ _ _ _ _ hk H locs lsA _ ws hL ⟨hr, hU⟩ hP hS hw)
theorem es_iushr (B : eb_B p s m args c bytes nL own D τ sa ro A) (hgo : ∀ pc ls st hp ce sl, go pc ls st hp ce sl = true → ew_G p l e R s m args below meth c Q ν D τ sa ro A ws0 nL pc ls st hp ce sl) (hd : decode bytes pc = .ok (.iushr, 1)) (h : ex_step cls vt lim ret go cal nat K pc (.iushr) a b z ls st hp ce sl = true) : ew_G p l e R s m args below meth c Q ν D τ sa ro A ws0 nL pc ls st hp ce sl := by
  intro H locs lsA stA ws hL hT hP hS hw
  obtain ⟨hx, hb, hml, hown, hts, hE⟩ := id B
  match st, h, hT with
  | [], h, _ => exact absurd h Bool.false_ne_true
  | [_], h, _ => exact absurd h Bool.false_ne_true
  | y :: x :: r, h, hT =>
    have h : ex_bin (fun x y => (x.toUInt32 >>> (y.toUInt32 &&& Int32.toUInt32 31)).toInt32) x y (fun v => ex_n (pc + 1) (fun pc => go pc ls (v :: r) hp ce sl)) = true := h
    obtain ⟨vy, s1, rfl, hy, hU1⟩ := hT.cons
    obtain ⟨vx, s2, rfl, hxv, hU⟩ := hU1.cons
    obtain ⟨x', y', r', rfl, rfl, hr, hk⟩ := ex_bin_ok h hxv hy
    rw [ex_n_eq] at hk
    exact lv_iushr hx hb hd rfl (hgo _ _ _ _ _ _ hk H locs lsA _ ws hL ⟨hr, hU⟩ hP hS hw)
theorem es_idiv (B : eb_B p s m args c bytes nL own D τ sa ro A) (hgo : ∀ pc ls st hp ce sl, go pc ls st hp ce sl = true → ew_G p l e R s m args below meth c Q ν D τ sa ro A ws0 nL pc ls st hp ce sl) (hd : decode bytes pc = .ok (.idiv, 1)) (h : ex_step cls vt lim ret go cal nat K pc (.idiv) a b z ls st hp ce sl = true) : ew_G p l e R s m args below meth c Q ν D τ sa ro A ws0 nL pc ls st hp ce sl := by
  intro H locs lsA stA ws hL hT hP hS hw
  obtain ⟨hx, hb, hml, hown, hts, hE⟩ := id B
  match st, h, hT with
  | [], h, _ => exact absurd h Bool.false_ne_true
  | [_], h, _ => exact absurd h Bool.false_ne_true
  | y :: x :: r, h, hT =>
    have h : ex_i y (fun lo hi => if ex_ne0 lo hi then ex_quo x y (fun v => ex_n (pc + 1) (fun pc => go pc ls (v :: r) hp ce sl)) else false) = true := h
    obtain ⟨vy, s1, rfl, hy, hU1⟩ := hT.cons
    obtain ⟨vx, s2, rfl, hxv, hU⟩ := hU1.cons
    obtain ⟨y0, lo, hi, hy0, l1, l2, h⟩ := ex_i_ok h hy
    by_cases hc : ex_ne0 lo hi = true
    · rw [if_pos hc] at h
      obtain ⟨x', y', r', rfl, rfl, hr, hk⟩ := ex_quo_ok h hxv hy
      rw [ex_n_eq] at hk
      cases hy0
      exact lv_idiv hx hb hd (fun q => ex_ne0_ok hc l1 l2 (by rw [q]; rfl)) (hgo _ _ _ _ _ _ hk H locs lsA _ ws hL ⟨hr, hU⟩ hP hS hw)
    · rw [if_neg hc] at h; exact absurd h Bool.false_ne_true
theorem es_irem (B : eb_B p s m args c bytes nL own D τ sa ro A) (hgo : ∀ pc ls st hp ce sl, go pc ls st hp ce sl = true → ew_G p l e R s m args below meth c Q ν D τ sa ro A ws0 nL pc ls st hp ce sl) (hd : decode bytes pc = .ok (.irem, 1)) (h : ex_step cls vt lim ret go cal nat K pc (.irem) a b z ls st hp ce sl = true) : ew_G p l e R s m args below meth c Q ν D τ sa ro A ws0 nL pc ls st hp ce sl := by
  intro H locs lsA stA ws hL hT hP hS hw
  obtain ⟨hx, hb, hml, hown, hts, hE⟩ := id B
  match st, h, hT with
  | [], h, _ => exact absurd h Bool.false_ne_true
  | [_], h, _ => exact absurd h Bool.false_ne_true
  | y :: x :: r, h, hT =>
    have h : ex_i y (fun lo hi => if ex_ne0 lo hi then ex_rst x y (fun v => ex_n (pc + 1) (fun pc => go pc ls (v :: r) hp ce sl)) else false) = true := h
    obtain ⟨vy, s1, rfl, hy, hU1⟩ := hT.cons
    obtain ⟨vx, s2, rfl, hxv, hU⟩ := hU1.cons
    obtain ⟨y0, lo, hi, hy0, l1, l2, h⟩ := ex_i_ok h hy
    by_cases hc : ex_ne0 lo hi = true
    · rw [if_pos hc] at h
      obtain ⟨x', y', r', rfl, rfl, hr, hk⟩ := ex_rst_ok h hxv hy
      rw [ex_n_eq] at hk
      cases hy0
      exact lv_irem hx hb hd (fun q => ex_ne0_ok hc l1 l2 (by rw [q]; rfl)) (hgo _ _ _ _ _ _ hk H locs lsA _ ws hL ⟨hr, hU⟩ hP hS hw)
    · rw [if_neg hc] at h; exact absurd h Bool.false_ne_true
theorem es_ineg (B : eb_B p s m args c bytes nL own D τ sa ro A) (hgo : ∀ pc ls st hp ce sl, go pc ls st hp ce sl = true → ew_G p l e R s m args below meth c Q ν D τ sa ro A ws0 nL pc ls st hp ce sl) (hd : decode bytes pc = .ok (.ineg, 1)) (h : ex_step cls vt lim ret go cal nat K pc (.ineg) a b z ls st hp ce sl = true) : ew_G p l e R s m args below meth c Q ν D τ sa ro A ws0 nL pc ls st hp ce sl := by
  intro H locs lsA stA ws hL hT hP hS hw
  obtain ⟨hx, hb, hml, hown, hts, hE⟩ := id B
  match st, h, hT with
  | [], h, _ => exact absurd h Bool.false_ne_true
  | x :: r, h, hT =>
    have h : ex_bin (fun x _ => -x) x x (fun v => ex_n (pc + 1) (fun pc => go pc ls (v :: r) hp ce sl)) = true := h
    obtain ⟨vx, s2, rfl, hxv, hU⟩ := hT.cons
    obtain ⟨x', y', r', rfl, e2, hr, hk⟩ := ex_bin_ok h hxv hxv
    rw [ex_n_eq] at hk
    exact lv_ineg hx hb hd (hgo _ _ _ _ _ _ hk H locs lsA _ ws hL ⟨hr, hU⟩ hP hS hw)
theorem es_ladd (B : eb_B p s m args c bytes nL own D τ sa ro A) (hgo : ∀ pc ls st hp ce sl, go pc ls st hp ce sl = true → ew_G p l e R s m args below meth c Q ν D τ sa ro A ws0 nL pc ls st hp ce sl) (hd : decode bytes pc = .ok (.ladd, 1)) (h : ex_step cls vt lim ret go cal nat K pc (.ladd) a b z ls st hp ce sl = true) : ew_G p l e R s m args below meth c Q ν D τ sa ro A ws0 nL pc ls st hp ce sl := by
  intro H locs lsA stA ws hL hT hP hS hw
  obtain ⟨hx, hb, hml, hown, hts, hE⟩ := id B
  match st, h, hT with
  | [], h, _ => exact absurd h Bool.false_ne_true
  | [_], h, _ => exact absurd h Bool.false_ne_true
  | y :: x :: r, h, hT =>
    have h : ex_binL (· + ·) x y (fun v => ex_n (pc + 1) (fun pc => go pc ls (v :: r) hp ce sl)) = true := h
    obtain ⟨vy, s1, rfl, hy, hU1⟩ := hT.cons
    obtain ⟨vx, s2, rfl, hxv, hU⟩ := hU1.cons
    obtain ⟨x', y', r', rfl, rfl, hr, hk⟩ := ex_binL_ok h hxv hy
    rw [ex_n_eq] at hk
    exact lv_ladd hx hb hd (hgo _ _ _ _ _ _ hk H locs lsA _ ws hL ⟨hr, hU⟩ hP hS hw)
theorem es_lsub (B : eb_B p s m args c bytes nL own D τ sa ro A) (hgo : ∀ pc ls st hp ce sl, go pc ls st hp ce sl = true → ew_G p l e R s m args below meth c Q ν D τ sa ro A ws0 nL pc ls st hp ce sl) (hd : decode bytes pc = .ok (.lsub, 1)) (h : ex_step cls vt lim ret go cal nat K pc (.lsub) a b z ls st hp ce sl = true) : ew_G p l e R s m args below meth c Q ν D τ sa ro A ws0 nL pc ls st hp ce sl := by
  intro H locs lsA stA ws hL hT hP hS hw
  obtain ⟨hx, hb, hml, hown, hts, hE⟩ := id B
  match st, h, hT with
  | [], h, _ => exact absurd h Bool.false_ne_true
  | [_], h, _ => exact absurd h Bool.false_ne_true
  | y :: x :: r, h, hT =>
    have h : ex_binL (· - ·) x y (fun v => ex_n (pc + 1) (fun pc => go pc ls (v :: r) hp ce sl)) = true := h
    obtain ⟨vy, s1, rfl, hy, hU1⟩ := hT.cons
    obtain ⟨vx, s2, rfl, hxv, hU⟩ := hU1.cons
    obtain ⟨x', y', r', rfl, rfl, hr, hk⟩ := ex_binL_ok h hxv hy
    rw [ex_n_eq] at hk
    exact lv_lsub hx hb hd (hgo _ _ _ _ _ _ hk H locs lsA _ ws hL ⟨hr, hU⟩ hP hS hw)
theorem es_lmul (B : eb_B p s m args c bytes nL own D τ sa ro A) (hgo : ∀ pc ls st hp ce sl, go pc ls st hp ce sl = true → ew_G p l e R s m args below meth c Q ν D τ sa ro A ws0 nL pc ls st hp ce sl) (hd : decode bytes pc = .ok (.lmul, 1)) (h : ex_step cls vt lim ret go cal nat K pc (.lmul) a b z ls st hp ce sl = true) : ew_G p l e R s m args below meth c Q ν D τ sa ro A ws0 nL pc ls st hp ce sl := by
  intro H locs lsA stA ws hL hT hP hS hw
  obtain ⟨hx, hb, hml, hown, hts, hE⟩ := id B
  match st, h, hT with
  | [], h, _ => exact absurd h Bool.false_ne_true
  | [_], h, _ => exact absurd h Bool.false_ne_true
  | y :: x :: r, h, hT =>
    have h : ex_binL (· * ·) x y (fun v => ex_n (pc + 1) (fun pc => go pc ls (v :: r) hp ce sl)) = true := h
    obtain ⟨vy, s1, rfl, hy, hU1⟩ := hT.cons
    obtain ⟨vx, s2, rfl, hxv, hU⟩ := hU1.cons
    obtain ⟨x', y', r', rfl, rfl, hr, hk⟩ := ex_binL_ok h hxv hy
    rw [ex_n_eq] at hk
    exact lv_lmul hx hb hd (hgo _ _ _ _ _ _ hk H locs lsA _ ws hL ⟨hr, hU⟩ hP hS hw)
theorem es_land (B : eb_B p s m args c bytes nL own D τ sa ro A) (hgo : ∀ pc ls st hp ce sl, go pc ls st hp ce sl = true → ew_G p l e R s m args below meth c Q ν D τ sa ro A ws0 nL pc ls st hp ce sl) (hd : decode bytes pc = .ok (.land, 1)) (h : ex_step cls vt lim ret go cal nat K pc (.land) a b z ls st hp ce sl = true) : ew_G p l e R s m args below meth c Q ν D τ sa ro A ws0 nL pc ls st hp ce sl := by
  intro H locs lsA stA ws hL hT hP hS hw
  obtain ⟨hx, hb, hml, hown, hts, hE⟩ := id B
  match st, h, hT with
  | [], h, _ => exact absurd h Bool.false_ne_true
  | [_], h, _ => exact absurd h Bool.false_ne_true
  | y :: x :: r, h, hT =>
    have h : ex_binL (· &&& ·) x y (fun v => ex_n (pc + 1) (fun pc => go pc ls (v :: r) hp ce sl)) = true := h
    obtain ⟨vy, s1, rfl, hy, hU1⟩ := hT.cons
    obtain ⟨vx, s2, rfl, hxv, hU⟩ := hU1.cons
    obtain ⟨x', y', r', rfl, rfl, hr, hk⟩ := ex_binL_ok h hxv hy
    rw [ex_n_eq] at hk
    exact lv_land hx hb hd (hgo _ _ _ _ _ _ hk H locs lsA _ ws hL ⟨hr, hU⟩ hP hS hw)
theorem es_lor (B : eb_B p s m args c bytes nL own D τ sa ro A) (hgo : ∀ pc ls st hp ce sl, go pc ls st hp ce sl = true → ew_G p l e R s m args below meth c Q ν D τ sa ro A ws0 nL pc ls st hp ce sl) (hd : decode bytes pc = .ok (.lor, 1)) (h : ex_step cls vt lim ret go cal nat K pc (.lor) a b z ls st hp ce sl = true) : ew_G p l e R s m args below meth c Q ν D τ sa ro A ws0 nL pc ls st hp ce sl := by
  intro H locs lsA stA ws hL hT hP hS hw
  obtain ⟨hx, hb, hml, hown, hts, hE⟩ := id B
  match st, h, hT with
  | [], h, _ => exact absurd h Bool.false_ne_true
  | [_], h, _ => exact absurd h Bool.false_ne_true
  | y :: x :: r, h, hT =>
    have h : ex_binL (· ||| ·) x y (fun v => ex_n (pc + 1) (fun pc => go pc ls (v :: r) hp ce sl)) = true := h
    obtain ⟨vy, s1, rfl, hy, hU1⟩ := hT.cons
    obtain ⟨vx, s2, rfl, hxv, hU⟩ := hU1.cons
    obtain ⟨x', y', r', rfl, rfl, hr, hk⟩ := ex_binL_ok h hxv hy
    rw [ex_n_eq] at hk
    exact lv_lor hx hb hd (hgo _ _ _ _ _ _ hk H locs lsA _ ws hL ⟨hr, hU⟩ hP hS hw)
theorem es_ldiv (B : eb_B p s m args c bytes nL own D τ sa ro A) (hgo : ∀ pc ls st hp ce sl, go pc ls st hp ce sl = true → ew_G p l e R s m args below meth c Q ν D τ sa ro A ws0 nL pc ls st hp ce sl) (hd : decode bytes pc = .ok (.ldiv, 1)) (h : ex_step cls vt lim ret go cal nat K pc (.ldiv) a b z ls st hp ce sl = true) : ew_G p l e R s m args below meth c Q ν D τ sa ro A ws0 nL pc ls st hp ce sl := by
  intro H locs lsA stA ws hL hT hP hS hw
  obtain ⟨hx, hb, hml, hown, hts, hE⟩ := id B
  match st, h, hT with
  | [], h, _ => exact absurd h Bool.false_ne_true
  | [_], h, _ => exact absurd h Bool.false_ne_true
  | y :: x :: r, h, hT =>
    have h : ex_l y (fun lo hi => if ex_ne0 lo hi then ex_binL (· / ·) x y (fun v => ex_n (pc + 1) (fun pc => go pc ls (v :: r) hp ce sl)) else false) = true := h
    obtain ⟨vy, s1, rfl, hy, hU1⟩ := hT.cons
    obtain ⟨vx, s2, rfl, hxv, hU⟩ := hU1.cons
    obtain ⟨y0, lo, hi, hy0, l1, l2, h⟩ := ex_l_ok h hy
    by_cases hc : ex_ne0 lo hi = true
    · rw [if_pos hc] at h
      obtain ⟨x', y', r', rfl, rfl, hr, hk⟩ := ex_binL_ok h hxv hy
      rw [ex_n_eq] at hk
      cases hy0
      exact lv_ldiv hx hb hd (fun q => ex_ne0_ok hc l1 l2 (by rw [q]; rfl)) (hgo _ _ _ _ _ _ hk H locs lsA _ ws hL ⟨hr, hU⟩ hP hS hw)
    · rw [if_neg hc] at h; exact absurd h Bool.false_ne_true
theorem es_lrem (B : eb_B p s m args c bytes nL own D τ sa ro A) (hgo : ∀ pc ls st hp ce sl, go pc ls st hp ce sl = true → ew_G p l e R s m args below meth c Q ν D τ sa ro A ws0 nL pc ls st hp ce sl) (hd : decode bytes pc = .ok (.lrem, 1)) (h : ex_step cls vt lim ret go cal nat K pc (.lrem) a b z ls st hp ce sl = true) : ew_G p l e R s m args below meth c Q ν D τ sa ro A ws0 nL pc ls st hp ce sl := by
  intro H locs lsA stA ws hL hT hP hS hw
  obtain ⟨hx, hb, hml, hown, hts, hE⟩ := id B
  match st, h, hT with
  | [], h, _ => exact absurd h Bool.false_ne_true
  | [_], h, _ => exact absurd h Bool.false_ne_true
  | y :: x :: r, h, hT =>
    have h : ex_l y (fun lo hi => if ex_ne0 lo hi then ex_binL (fun x y => x - x / y * y) x y (fun v => ex_n (pc + 1) (fun pc => go pc ls (v :: r) hp ce sl)) else false) = true := h
    obtain ⟨vy, s1, rfl, hy, hU1⟩ := hT.cons
    obtain ⟨vx, s2, rfl, hxv, hU⟩ := hU1.cons
    obtain ⟨y0, lo, hi, hy0, l1, l2, h⟩ := ex_l_ok h hy
    by_cases hc : ex_ne0 lo hi = true
    · rw [if_pos hc] at h
      obtain ⟨x', y', r', rfl, rfl, hr, hk⟩ := ex_binL_ok h hxv hy
      rw [ex_n_eq] at hk
      cases hy0
      exact lv_lrem hx hb hd (fun q => ex_ne0_ok hc l1 l2 (by rw [q]; rfl)) (hgo _ _ _ _ _ _ hk H locs lsA _ ws hL ⟨hr, hU⟩ hP hS hw)
    · rw [if_neg hc] at h; exact absurd h Bool.false_ne_true
theorem es_lushr (B : eb_B p s m args c bytes nL own D τ sa ro A) (hgo : ∀ pc ls st hp ce sl, go pc ls st hp ce sl = true → ew_G p l e R s m args below meth c Q ν D τ sa ro A ws0 nL pc ls st hp ce sl) (hd : decode bytes pc = .ok (.lushr, 1)) (h : ex_step cls vt lim ret go cal nat K pc (.lushr) a b z ls st hp ce sl = true) : ew_G p l e R s m args below meth c Q ν D τ sa ro A ws0 nL pc ls st hp ce sl := by
  intro H locs lsA stA ws hL hT hP hS hw
  obtain ⟨hx, hb, hml, hown, hts, hE⟩ := id B
  match st, h, hT with
  | [], h, _ => exact absurd h Bool.false_ne_true
  | [_], h, _ => exact absurd h Bool.false_ne_true
  | y :: x :: r, h, hT =>
    have h : ex_i y (fun _ _ => ex_l x (fun _ _ => ex_n (pc + 1) (fun pc => go pc ls (ex_topL :: r) hp ce sl))) = true := h
    obtain ⟨vy, s1, rfl, hy, hU1⟩ := hT.cons
    obtain ⟨vx, s2, rfl, hxv, hU⟩ := hU1.cons
    obtain ⟨y', -, -, rfl, -, -, h⟩ := ex_i_ok h hy
    obtain ⟨x', -, -, rfl, -, -, hk⟩ := ex_l_ok h hxv
    rw [ex_n_eq] at hk
    exact lv_lushr hx hb hd rfl (hgo _ _ _ _ _ _ hk H locs lsA _ ws hL ⟨er_topL _, hU⟩ hP hS hw)
theorem es_lshr (B : eb_B p s m args c bytes nL own D τ sa ro A) (hgo : ∀ pc ls st hp ce sl, go pc ls st hp ce sl = true → ew_G p l e R s m args below meth c Q ν D τ sa ro A ws0 nL pc ls st hp ce sl) (hd : decode bytes pc = .ok (.lshr, 1)) (h : ex_step cls vt lim ret go cal nat K pc (.lshr) a b z ls st hp ce sl = true) : ew_G p l e R s m args below meth c Q ν D τ sa ro A ws0 nL pc ls st hp ce sl := by
  intro H locs lsA stA ws hL hT hP hS hw
  obtain ⟨hx, hb, hml, hown, hts, hE⟩ := id B
  match st, h, hT with
  | [], h, _ => exact absurd h Bool.false_ne_true
  | [_], h, _ => exact absurd h Bool.false_ne_true
  | y :: x :: r, h, hT =>
    have h : ex_i y (fun _ _ => ex_l x (fun _ _ => ex_n (pc + 1) (fun pc => go pc ls (ex_topL :: r) hp ce sl))) = true := h
    obtain ⟨vy, s1, rfl, hy, hU1⟩ := hT.cons
    obtain ⟨vx, s2, rfl, hxv, hU⟩ := hU1.cons
    obtain ⟨y', -, -, rfl, -, -, h⟩ := ex_i_ok h hy
    obtain ⟨x', -, -, rfl, -, -, hk⟩ := ex_l_ok h hxv
    rw [ex_n_eq] at hk
    exact lv_lshr hx hb hd rfl (hgo _ _ _ _ _ _ hk H locs lsA _ ws hL ⟨er_topL _, hU⟩ hP hS hw)
theorem es_lshl (B : eb_B p s m args c bytes nL own D τ sa ro A) (hgo : ∀ pc ls st hp ce sl, go pc ls st hp ce sl = true → ew_G p l e R s m args below meth c Q ν D τ sa ro A ws0 nL pc ls st hp ce sl) (hd : decode bytes pc = .ok (.lshl, 1)) (h : ex_step cls vt lim ret go cal nat K pc (.lshl) a b z ls st hp ce sl = true) : ew_G p l e R s m args below meth c Q ν D τ sa ro A ws0 nL pc ls st hp ce sl := by
  intro H locs lsA stA ws hL hT hP hS hw
  obtain ⟨hx, hb, hml, hown, hts, hE⟩ := id B
  match st, h, hT with
  | [], h, _ => exact absurd h Bool.false_ne_true
  | [_], h, _ => exact absurd h Bool.false_ne_true
  | y :: x :: r, h, hT =>
    have h : ex_i y (fun _ _ => ex_l x (fun _ _ => ex_n (pc + 1) (fun pc => go pc ls (ex_topL :: r) hp ce sl))) = true := h
    obtain ⟨vy, s1, rfl, hy, hU1⟩ := hT.cons
    obtain ⟨vx, s2, rfl, hxv, hU⟩ := hU1.cons
    obtain ⟨y', -, -, rfl, -, -, h⟩ := ex_i_ok h hy
    obtain ⟨x', -, -, rfl, -, -, hk⟩ := ex_l_ok h hxv
    rw [ex_n_eq] at hk
    exact lv_lshl hx hb hd rfl (hgo _ _ _ _ _ _ hk H locs lsA _ ws hL ⟨er_topL _, hU⟩ hP hS hw)
theorem es_lcmp (B : eb_B p s m args c bytes nL own D τ sa ro A) (hgo : ∀ pc ls st hp ce sl, go pc ls st hp ce sl = true → ew_G p l e R s m args below meth c Q ν D τ sa ro A ws0 nL pc ls st hp ce sl) (hd : decode bytes pc = .ok (.lcmp, 1)) (h : ex_step cls vt lim ret go cal nat K pc (.lcmp) a b z ls st hp ce sl = true) : ew_G p l e R s m args below meth c Q ν D τ sa ro A ws0 nL pc ls st hp ce sl := by
  intro H locs lsA stA ws hL hT hP hS hw
  obtain ⟨hx, hb, hml, hown, hts, hE⟩ := id B
  match st, h, hT with
  | [], h, _ => exact absurd h Bool.false_ne_true
  | [_], h, _ => exact absurd h Bool.false_ne_true
  | y :: x :: r, h, hT =>
    have h : ex_l x (fun a b => ex_l y (fun c d => ex_n (pc + 1) (fun pc => go pc ls (ex_lc a b c d :: r) hp ce sl))) = true := h
    obtain ⟨vy, s1, rfl, hy, hU1⟩ := hT.cons
    obtain ⟨vx, s2, rfl, hxv, hU⟩ := hU1.cons
    obtain ⟨x', a1, b1, rfl, h1, h2, h⟩ := ex_l_ok h hxv
    obtain ⟨y', c1, d1, rfl, h3, h4, hk⟩ := ex_l_ok h hy
    rw [ex_n_eq] at hk
    exact W.lcmp hx hb hd (hgo _ _ _ _ _ _ hk H locs lsA _ ws hL ⟨ex_lc_ok h1 h2 h3 h4, hU⟩ hP hS hw)
theorem ex_wide (x : Int32) : x.toInt64.toInt = x.toInt := by
  first | exact Int32.toInt_toInt64 x | simp

theorem es_i2l (B : eb_B p s m args c bytes nL own D τ sa ro A) (hgo : ∀ pc ls st hp ce sl, go pc ls st hp ce sl = true → ew_G p l e R s m args below meth c Q ν D τ sa ro A ws0 nL pc ls st hp ce sl) (hd : decode bytes pc = .ok (.i2l, 1)) (h : ex_step cls vt lim ret go cal nat K pc (.i2l) a b z ls st hp ce sl = true) : ew_G p l e R s m args below meth c Q ν D τ sa ro A ws0 nL pc ls st hp ce sl := by
  intro H locs lsA stA ws hL hT hP hS hw
  obtain ⟨hx, hb, hml, hown, hts, hE⟩ := id B
  match st, h, hT with
  | [], h, _ => exact absurd h Bool.false_ne_true
  | .inl v :: r, h, hT =>
    have hk : ex_n (pc + 1) (fun pc => go pc ls (.inr (.inl v) :: r) hp ce sl) = true := h
    rw [ex_n_eq] at hk
    obtain ⟨vx, s2, rfl, hxv, hU⟩ := hT.cons
    obtain ⟨x', rfl, e1⟩ := hxv
    exact lv_i2l hx hb hd rfl (hgo _ _ _ _ _ _ hk H locs lsA _ ws hL ⟨⟨_, rfl, by rw [ex_wide]; exact e1⟩, hU⟩ hP hS hw)
  | .inr (.inr (.inr (.inr (.inr (k0, q))))) :: r, h, hT =>
    have hk : ex_n (pc + 1) (fun pc => go pc ls (.inr (.inr (.inr (.inr (.inl q)))) :: r) hp ce sl) = true := h
    rw [ex_n_eq] at hk
    obtain ⟨vx, s2, rfl, hxv, hU⟩ := hT.cons
    obtain ⟨rfl, e1, e2⟩ := hxv
    exact lv_i2l hx hb hd rfl (hgo _ _ _ _ _ _ hk H locs lsA _ ws hL ⟨⟨_, rfl, by rw [ex_wide]; exact e1, by rw [ex_wide]; exact e2⟩, hU⟩ hP hS hw)
  | .inr (.inr (.inr (.inl q))) :: r, h, hT =>
    have hk : ex_n (pc + 1) (fun pc => go pc ls (.inr (.inr (.inr (.inr (.inl q)))) :: r) hp ce sl) = true := h
    rw [ex_n_eq] at hk
    obtain ⟨vx, s2, rfl, hxv, hU⟩ := hT.cons
    obtain ⟨x', rfl, e1, e2⟩ := hxv
    exact lv_i2l hx hb hd rfl (hgo _ _ _ _ _ _ hk H locs lsA _ ws hL ⟨⟨_, rfl, by rw [ex_wide]; exact e1, by rw [ex_wide]; exact e2⟩, hU⟩ hP hS hw)
  | .inr (.inl v) :: r, h, _ => exact absurd h Bool.false_ne_true
  | .inr (.inr (.inl v)) :: r, h, _ => exact absurd h Bool.false_ne_true
  | .inr (.inr (.inr (.inr (.inl v)))) :: r, h, _ => exact absurd h Bool.false_ne_true
theorem es_l2i (B : eb_B p s m args c bytes nL own D τ sa ro A) (hgo : ∀ pc ls st hp ce sl, go pc ls st hp ce sl = true → ew_G p l e R s m args below meth c Q ν D τ sa ro A ws0 nL pc ls st hp ce sl) (hd : decode bytes pc = .ok (.l2i, 1)) (h : ex_step cls vt lim ret go cal nat K pc (.l2i) a b z ls st hp ce sl = true) : ew_G p l e R s m args below meth c Q ν D τ sa ro A ws0 nL pc ls st hp ce sl := by
  intro H locs lsA stA ws hL hT hP hS hw
  obtain ⟨hx, hb, hml, hown, hts, hE⟩ := id B
  match st, h, hT with
  | [], h, _ => exact absurd h Bool.false_ne_true
  | x :: r, h, hT =>
    have h : ex_l x (fun _ _ => ex_n (pc + 1) (fun pc => go pc ls (ex_top :: r) hp ce sl)) = true := h
    obtain ⟨vx, s2, rfl, hxv, hU⟩ := hT.cons
    obtain ⟨x', -, -, rfl, -, -, hk⟩ := ex_l_ok h hxv
    rw [ex_n_eq] at hk
    exact lv_l2i hx hb hd rfl (hgo _ _ _ _ _ _ hk H locs lsA _ ws hL ⟨er_top _, hU⟩ hP hS hw)
theorem es_iconst (B : eb_B p s m args c bytes nL own D τ sa ro A) (hgo : ∀ pc ls st hp ce sl, go pc ls st hp ce sl = true → ew_G p l e R s m args below meth c Q ν D τ sa ro A ws0 nL pc ls st hp ce sl) {i : Int} (hd : decode bytes pc = .ok (.iconst i, 1)) (h : ex_step cls vt lim ret go cal nat K pc (.iconst i) a b z ls st hp ce sl = true) : ew_G p l e R s m args below meth c Q ν D τ sa ro A ws0 nL pc ls st hp ce sl := by
  intro H locs lsA stA ws hL hT hP hS hw
  obtain ⟨hx, hb, hml, hown, hts, hE⟩ := id B
  have h : (if ex_fit32 i then ex_n (pc + 1) (fun pc => go pc ls (.inl i :: st) hp ce sl) else false) = true := h
  by_cases hc : ex_fit32 i = true
  · rw [if_pos hc, ex_n_eq] at h
    exact lv_iconst hx hb hd rfl (hgo _ _ _ _ _ _ h H locs lsA _ ws hL ⟨⟨_, rfl, ex_of32 hc⟩, hT⟩ hP hS hw)
  · rw [if_neg hc] at h; exact absurd h Bool.false_ne_true
theorem ex_of8 {i : Int} (h : (ex_le (-128) i && ex_le i 127) = true) : ((Int8.ofInt i).toInt32).toInt = i := by
  simp only [Bool.and_eq_true, ex_le_iff] at h
  rw [Int8.toInt_toInt32]
  exact Int8.toInt_ofInt_of_le (by simpa using h.1) (by have := h.2; simp; omega)
theorem ex_of16 {i : Int} (h : (ex_le (-32768) i && ex_le i 32767) = true) : ((Int16.ofInt i).toInt32).toInt = i := by
  simp only [Bool.and_eq_true, ex_le_iff] at h
  rw [Int16.toInt_toInt32]
  exact Int16.toInt_ofInt_of_le (by simpa using h.1) (by have := h.2; simp; omega)
theorem ex_of64 {i : Int} (h : (ex_le (-9223372036854775808) i && ex_le i 9223372036854775807) = true) : (Int64.ofInt i).toInt = i := by
  simp only [Bool.and_eq_true, ex_le_iff] at h
  exact Int64.toInt_ofInt_of_le (by simpa using h.1) (by have := h.2; simp; omega)

theorem es_bipush (B : eb_B p s m args c bytes nL own D τ sa ro A) (hgo : ∀ pc ls st hp ce sl, go pc ls st hp ce sl = true → ew_G p l e R s m args below meth c Q ν D τ sa ro A ws0 nL pc ls st hp ce sl) {i : Int} (hd : decode bytes pc = .ok (.bipush i, 2)) (h : ex_step cls vt lim ret go cal nat K pc (.bipush i) a b z ls st hp ce sl = true) : ew_G p l e R s m args below meth c Q ν D τ sa ro A ws0 nL pc ls st hp ce sl := by
  intro H locs lsA stA ws hL hT hP hS hw
  obtain ⟨hx, hb, hml, hown, hts, hE⟩ := id B
  have h : (if ex_le (-128) i && ex_le i 127 then ex_n (pc + 2) (fun pc => go pc ls (.inl i :: st) hp ce sl) else false) = true := h
  by_cases hc : (ex_le (-128) i && ex_le i 127) = true
  · rw [if_pos hc, ex_n_eq] at h
    exact lv_bipush hx hb hd rfl (hgo _ _ _ _ _ _ h H locs lsA _ ws hL ⟨⟨_, rfl, ex_of8 hc⟩, hT⟩ hP hS hw)
  · rw [if_neg hc] at h; exact absurd h Bool.false_ne_true
theorem es_sipush (B : eb_B p s m args c bytes nL own D τ sa ro A) (hgo : ∀ pc ls st hp ce sl, go pc ls st hp ce sl = true → ew_G p l e R s m args below meth c Q ν D τ sa ro A ws0 nL pc ls st hp ce sl) {i : Int} (hd : decode bytes pc = .ok (.sipush i, 3)) (h : ex_step cls vt lim ret go cal nat K pc (.sipush i) a b z ls st hp ce sl = true) : ew_G p l e R s m args below meth c Q ν D τ sa ro A ws0 nL pc ls st hp ce sl := by
  intro H locs lsA stA ws hL hT hP hS hw
  obtain ⟨hx, hb, hml, hown, hts, hE⟩ := id B
  have h : (if ex_le (-32768) i && ex_le i 32767 then ex_n (pc + 3) (fun pc => go pc ls (.inl i :: st) hp ce sl) else false) = true := h
  by_cases hc : (ex_le (-32768) i && ex_le i 32767) = true
  · rw [if_pos hc, ex_n_eq] at h
    exact lv_sipush hx hb hd rfl (hgo _ _ _ _ _ _ h H locs lsA _ ws hL ⟨⟨_, rfl, ex_of16 hc⟩, hT⟩ hP hS hw)
  · rw [if_neg hc] at h; exact absurd h Bool.false_ne_true
theorem ex_ofl (i : Fin 2) : (Int64.ofNat (i : Nat)).toInt = Int.ofNat i.val := by
  have hi := i.isLt
  have h2 : (i : Nat) = 0 ∨ (i : Nat) = 1 := by omega
  rcases h2 with q | q <;> rw [q] <;> rfl

theorem es_lconst (B : eb_B p s m args c bytes nL own D τ sa ro A) (hgo : ∀ pc ls st hp ce sl, go pc ls st hp ce sl = true → ew_G p l e R s m args below meth c Q ν D τ sa ro A ws0 nL pc ls st hp ce sl) {i : Fin 2} (hd : decode bytes pc = .ok (.lconst i, 1)) (h : ex_step cls vt lim ret go cal nat K pc (.lconst i) a b z ls st hp ce sl = true) : ew_G p l e R s m args below meth c Q ν D τ sa ro A ws0 nL pc ls st hp ce sl := by
  intro H locs lsA stA ws hL hT hP hS hw
  obtain ⟨hx, hb, hml, hown, hts, hE⟩ := id B
  have h : ex_n (pc + 1) (fun pc => go pc ls (.inr (.inl (Int.ofNat i.val)) :: st) hp ce sl) = true := h
  rw [ex_n_eq] at h
  exact lv_lconst hx hb hd rfl (hgo _ _ _ _ _ _ h H locs lsA _ ws hL ⟨⟨_, rfl, ex_ofl i⟩, hT⟩ hP hS hw)
theorem es_ldc (B : eb_B p s m args c bytes nL own D τ sa ro A) (hgo : ∀ pc ls st hp ce sl, go pc ls st hp ce sl = true → ew_G p l e R s m args below meth c Q ν D τ sa ro A ws0 nL pc ls st hp ce sl) {i : Nat} (hi : Jvm.Cond.constant own i (Int32.ofInt z) ∈ eg_T) (hd : decode bytes pc = .ok (.ldc i, 2)) (h : ex_step cls vt lim ret go cal nat K pc (.ldc i) a b z ls st hp ce sl = true) : ew_G p l e R s m args below meth c Q ν D τ sa ro A ws0 nL pc ls st hp ce sl := by
  intro H locs lsA stA ws hL hT hP hS hw
  obtain ⟨hx, hb, hml, hown, hts, hE⟩ := id B
  have h : (if ex_fit32 z then ex_n (pc + 2) (fun pc => go pc ls (.inl z :: st) hp ce sl) else false) = true := h
  by_cases hc : ex_fit32 z = true
  · rw [if_pos hc, ex_n_eq] at h
    exact lv_ldc hx hb hown (hts _ hi) hd (hgo _ _ _ _ _ _ h H locs lsA _ ws hL ⟨⟨_, rfl, ex_of32 hc⟩, hT⟩ hP hS hw)
  · rw [if_neg hc] at h; exact absurd h Bool.false_ne_true
theorem es_ldc_w (B : eb_B p s m args c bytes nL own D τ sa ro A) (hgo : ∀ pc ls st hp ce sl, go pc ls st hp ce sl = true → ew_G p l e R s m args below meth c Q ν D τ sa ro A ws0 nL pc ls st hp ce sl) {i : Nat} (hi : Jvm.Cond.constant own i (Int32.ofInt z) ∈ eg_T) (hd : decode bytes pc = .ok (.ldc_w i, 3)) (h : ex_step cls vt lim ret go cal nat K pc (.ldc_w i) a b z ls st hp ce sl = true) : ew_G p l e R s m args below meth c Q ν D τ sa ro A ws0 nL pc ls st hp ce sl := by
  intro H locs lsA stA ws hL hT hP hS hw
  obtain ⟨hx, hb, hml, hown, hts, hE⟩ := id B
  have h : (if ex_fit32 z then ex_n (pc + 3) (fun pc => go pc ls (.inl z :: st) hp ce sl) else false) = true := h
  by_cases hc : ex_fit32 z = true
  · rw [if_pos hc, ex_n_eq] at h
    exact lv_ldcw hx hb hown (hts _ hi) hd (hgo _ _ _ _ _ _ h H locs lsA _ ws hL ⟨⟨_, rfl, ex_of32 hc⟩, hT⟩ hP hS hw)
  · rw [if_neg hc] at h; exact absurd h Bool.false_ne_true
theorem es_ldc2_w (B : eb_B p s m args c bytes nL own D τ sa ro A) (hgo : ∀ pc ls st hp ce sl, go pc ls st hp ce sl = true → ew_G p l e R s m args below meth c Q ν D τ sa ro A ws0 nL pc ls st hp ce sl) {i : Nat} (hi : Jvm.Cond.constantLong own i (Int64.ofInt z) ∈ eg_T) (hd : decode bytes pc = .ok (.ldc2_w i, 3)) (h : ex_step cls vt lim ret go cal nat K pc (.ldc2_w i) a b z ls st hp ce sl = true) : ew_G p l e R s m args below meth c Q ν D τ sa ro A ws0 nL pc ls st hp ce sl := by
  intro H locs lsA stA ws hL hT hP hS hw
  obtain ⟨hx, hb, hml, hown, hts, hE⟩ := id B
  have h : (if ex_le (-9223372036854775808) z && ex_le z 9223372036854775807 then ex_n (pc + 3) (fun pc => go pc ls (.inr (.inl z) :: st) hp ce sl) else false) = true := h
  by_cases hc : (ex_le (-9223372036854775808) z && ex_le z 9223372036854775807) = true
  · rw [if_pos hc, ex_n_eq] at h
    exact lv_ldc2 hx hb hown (hts _ hi) hd (hgo _ _ _ _ _ _ h H locs lsA _ ws hL ⟨⟨_, rfl, ex_of64 hc⟩, hT⟩ hP hS hw)
  · rw [if_neg hc] at h; exact absurd h Bool.false_ne_true
theorem es_iload_n (B : eb_B p s m args c bytes nL own D τ sa ro A) (hgo : ∀ pc ls st hp ce sl, go pc ls st hp ce sl = true → ew_G p l e R s m args below meth c Q ν D τ sa ro A ws0 nL pc ls st hp ce sl) {i : Fin 4} (hd : decode bytes pc = .ok (.iload_n i, 1)) (h : ex_step cls vt lim ret go cal nat K pc (.iload_n i) a b z ls st hp ce sl = true) : ew_G p l e R s m args below meth c Q ν D τ sa ro A ws0 nL pc ls st hp ce sl := by
  intro H locs lsA stA ws hL hT hP hS hw
  obtain ⟨hx, hb, hml, hown, hts, hE⟩ := id B
  have h : ex_get ls i.val (fun o => match o with | some v => ex_i v (fun _ _ => ex_n (pc + 1) (fun pc => go pc ls (v :: st) hp ce sl)) | none => false) = true := h
  obtain ⟨o, h1, h⟩ := ex_get_ok _ _ _ h
  cases o with
  | none => exact absurd h Bool.false_ne_true
  | some v =>
    obtain ⟨w, hv, hl⟩ := hL.get h1
    obtain ⟨x', -, -, rfl, -, -, hk⟩ := ex_i_ok (a := v) h hv
    rw [ex_n_eq] at hk
    exact lv_iload_n hx hb hd rfl hl (hgo _ _ _ _ _ _ hk H locs lsA _ ws hL ⟨hv, hT⟩ hP hS hw)
theorem es_iload (B : eb_B p s m args c bytes nL own D τ sa ro A) (hgo : ∀ pc ls st hp ce sl, go pc ls st hp ce sl = true → ew_G p l e R s m args below meth c Q ν D τ sa ro A ws0 nL pc ls st hp ce sl) {i : Nat} (hd : decode bytes pc = .ok (.iload i, 2)) (h : ex_step cls vt lim ret go cal nat K pc (.iload i) a b z ls st hp ce sl = true) : ew_G p l e R s m args below meth c Q ν D τ sa ro A ws0 nL pc ls st hp ce sl := by
  intro H locs lsA stA ws hL hT hP hS hw
  obtain ⟨hx, hb, hml, hown, hts, hE⟩ := id B
  have h : ex_get ls i (fun o => match o with | some v => ex_i v (fun _ _ => ex_n (pc + 2) (fun pc => go pc ls (v :: st) hp ce sl)) | none => false) = true := h
  obtain ⟨o, h1, h⟩ := ex_get_ok _ _ _ h
  cases o with
  | none => exact absurd h Bool.false_ne_true
  | some v =>
    obtain ⟨w, hv, hl⟩ := hL.get h1
    obtain ⟨x', -, -, rfl, -, -, hk⟩ := ex_i_ok (a := v) h hv
    rw [ex_n_eq] at hk
    exact lv_iload hx hb hd hl (hgo _ _ _ _ _ _ hk H locs lsA _ ws hL ⟨hv, hT⟩ hP hS hw)
theorem es_lload_n (B : eb_B p s m args c bytes nL own D τ sa ro A) (hgo : ∀ pc ls st hp ce sl, go pc ls st hp ce sl = true → ew_G p l e R s m args below meth c Q ν D τ sa ro A ws0 nL pc ls st hp ce sl) {i : Fin 4} (hd : decode bytes pc = .ok (.lload_n i, 1)) (h : ex_step cls vt lim ret go cal nat K pc (.lload_n i) a b z ls st hp ce sl = true) : ew_G p l e R s m args below meth c Q ν D τ sa ro A ws0 nL pc ls st hp ce sl := by
  intro H locs lsA stA ws hL hT hP hS hw
  obtain ⟨hx, hb, hml, hown, hts, hE⟩ := id B
  have h : ex_get ls i.val (fun o => match o with | some v => ex_l v (fun _ _ => ex_n (pc + 1) (fun pc => go pc ls (v :: st) hp ce sl)) | none => false) = true := h
  obtain ⟨o, h1, h⟩ := ex_get_ok _ _ _ h
  cases o with
  | none => exact absurd h Bool.false_ne_true
  | some v =>
    obtain ⟨w, hv, hl⟩ := hL.get h1
    obtain ⟨x', -, -, rfl, -, -, hk⟩ := ex_l_ok (a := v) h hv
    rw [ex_n_eq] at hk
    exact lv_lload_n hx hb hd rfl hl (hgo _ _ _ _ _ _ hk H locs lsA _ ws hL ⟨hv, hT⟩ hP hS hw)
theorem es_lload (B : eb_B p s m args c bytes nL own D τ sa ro A) (hgo : ∀ pc ls st hp ce sl, go pc ls st hp ce sl = true → ew_G p l e R s m args below meth c Q ν D τ sa ro A ws0 nL pc ls st hp ce sl) {i : Nat} (hd : decode bytes pc = .ok (.lload i, 2)) (h : ex_step cls vt lim ret go cal nat K pc (.lload i) a b z ls st hp ce sl = true) : ew_G p l e R s m args below meth c Q ν D τ sa ro A ws0 nL pc ls st hp ce sl := by
  intro H locs lsA stA ws hL hT hP hS hw
  obtain ⟨hx, hb, hml, hown, hts, hE⟩ := id B
  have h : ex_get ls i (fun o => match o with | some v => ex_l v (fun _ _ => ex_n (pc + 2) (fun pc => go pc ls (v :: st) hp ce sl)) | none => false) = true := h
  obtain ⟨o, h1, h⟩ := ex_get_ok _ _ _ h
  cases o with
  | none => exact absurd h Bool.false_ne_true
  | some v =>
    obtain ⟨w, hv, hl⟩ := hL.get h1
    obtain ⟨x', -, -, rfl, -, -, hk⟩ := ex_l_ok (a := v) h hv
    rw [ex_n_eq] at hk
    exact lv_lload hx hb hd hl (hgo _ _ _ _ _ _ hk H locs lsA _ ws hL ⟨hv, hT⟩ hP hS hw)
theorem es_aload_n (B : eb_B p s m args c bytes nL own D τ sa ro A) (hgo : ∀ pc ls st hp ce sl, go pc ls st hp ce sl = true → ew_G p l e R s m args below meth c Q ν D τ sa ro A ws0 nL pc ls st hp ce sl) {i : Fin 4} (hd : decode bytes pc = .ok (.aload_n i, 1)) (h : ex_step cls vt lim ret go cal nat K pc (.aload_n i) a b z ls st hp ce sl = true) : ew_G p l e R s m args below meth c Q ν D τ sa ro A ws0 nL pc ls st hp ce sl := by
  intro H locs lsA stA ws hL hT hP hS hw
  obtain ⟨hx, hb, hml, hown, hts, hE⟩ := id B
  have h : ex_get ls i.val (fun o => match o with | some v => ex_ref v (fun _ => ex_n (pc + 1) (fun pc => go pc ls (v :: st) hp ce sl)) | none => false) = true := h
  obtain ⟨o, h1, h⟩ := ex_get_ok _ _ _ h
  cases o with
  | none => exact absurd h Bool.false_ne_true
  | some v =>
    obtain ⟨w, hv, hl⟩ := hL.get h1
    obtain ⟨n1, q1, e1, e2, rfl, hk⟩ := ex_ref_ok (a := v) h hv
    rw [ex_n_eq] at hk
    exact lv_aload_n hx hb hd rfl hl (hgo _ _ _ _ _ _ hk H locs lsA _ ws hL ⟨hv, hT⟩ hP hS hw)
theorem es_aload (B : eb_B p s m args c bytes nL own D τ sa ro A) (hgo : ∀ pc ls st hp ce sl, go pc ls st hp ce sl = true → ew_G p l e R s m args below meth c Q ν D τ sa ro A ws0 nL pc ls st hp ce sl) {i : Nat} (hd : decode bytes pc = .ok (.aload i, 2)) (h : ex_step cls vt lim ret go cal nat K pc (.aload i) a b z ls st hp ce sl = true) : ew_G p l e R s m args below meth c Q ν D τ sa ro A ws0 nL pc ls st hp ce sl := by
  intro H locs lsA stA ws hL hT hP hS hw
  obtain ⟨hx, hb, hml, hown, hts, hE⟩ := id B
  have h : ex_get ls i (fun o => match o with | some v => ex_ref v (fun _ => ex_n (pc + 2) (fun pc => go pc ls (v :: st) hp ce sl)) | none => false) = true := h
  obtain ⟨o, h1, h⟩ := ex_get_ok _ _ _ h
  cases o with
  | none => exact absurd h Bool.false_ne_true
  | some v =>
    obtain ⟨w, hv, hl⟩ := hL.get h1
    obtain ⟨n1, q1, e1, e2, rfl, hk⟩ := ex_ref_ok (a := v) h hv
    rw [ex_n_eq] at hk
    exact lv_aload hx hb hd hl (hgo _ _ _ _ _ _ hk H locs lsA _ ws hL ⟨hv, hT⟩ hP hS hw)
theorem es_istore_n (B : eb_B p s m args c bytes nL own D τ sa ro A) (hgo : ∀ pc ls st hp ce sl, go pc ls st hp ce sl = true → ew_G p l e R s m args below meth c Q ν D τ sa ro A ws0 nL pc ls st hp ce sl) {i : Fin 4} (hd : decode bytes pc = .ok (.istore_n i, 1)) (h : ex_step cls vt lim ret go cal nat K pc (.istore_n i) a b z ls st hp ce sl = true) : ew_G p l e R s m args below meth c Q ν D τ sa ro A ws0 nL pc ls st hp ce sl := by
  intro H locs lsA stA ws hL hT hP hS hw
  obtain ⟨hx, hb, hml, hown, hts, hE⟩ := id B
  match st, h, hT with
  | [], h, _ => exact absurd h Bool.false_ne_true
  | x :: r, h, hT =>
    have h : ex_i x (fun _ _ => ex_clear ls i.val (ex_set ls i.val (some x) (fun ls => ex_n (pc + 1) (fun pc => go pc ls (r) hp ce sl)))) = true := h
    obtain ⟨vx, s2, rfl, hxv, hU⟩ := hT.cons
    obtain ⟨x', -, -, rfl, -, -, h⟩ := ex_i_ok h hxv
    obtain ⟨h, hc⟩ := ex_clear_ok h
    obtain ⟨hlt, hk⟩ := ex_set_ok _ _ _ _ h
    rw [ex_n_eq] at hk
    obtain ⟨hlen, lv, hv, hall⟩ := hL
    exact lv_istore_n hx hb hd rfl hv (by rw [← hlen]; exact hlt) rfl (fun ls' hl => hgo _ _ _ _ _ _ hk H locs ls' _ ws (er_L.set1 hlen hall hc hxv hl) hU hP hS hw)
theorem es_istore (B : eb_B p s m args c bytes nL own D τ sa ro A) (hgo : ∀ pc ls st hp ce sl, go pc ls st hp ce sl = true → ew_G p l e R s m args below meth c Q ν D τ sa ro A ws0 nL pc ls st hp ce sl) {i : Nat} (hd : decode bytes pc = .ok (.istore i, 2)) (h : ex_step cls vt lim ret go cal nat K pc (.istore i) a b z ls st hp ce sl = true) : ew_G p l e R s m args below meth c Q ν D τ sa ro A ws0 nL pc ls st hp ce sl := by
  intro H locs lsA stA ws hL hT hP hS hw
  obtain ⟨hx, hb, hml, hown, hts, hE⟩ := id B
  match st, h, hT with
  | [], h, _ => exact absurd h Bool.false_ne_true
  | x :: r, h, hT =>
    have h : ex_i x (fun _ _ => ex_clear ls i (ex_set ls i (some x) (fun ls => ex_n (pc + 2) (fun pc => go pc ls (r) hp ce sl)))) = true := h
    obtain ⟨vx, s2, rfl, hxv, hU⟩ := hT.cons
    obtain ⟨x', -, -, rfl, -, -, h⟩ := ex_i_ok h hxv
    obtain ⟨h, hc⟩ := ex_clear_ok h
    obtain ⟨hlt, hk⟩ := ex_set_ok _ _ _ _ h
    rw [ex_n_eq] at hk
    obtain ⟨hlen, lv, hv, hall⟩ := hL
    exact lv_istore hx hb hd hv (by rw [← hlen]; exact hlt) rfl (fun ls' hl => hgo _ _ _ _ _ _ hk H locs ls' _ ws (er_L.set1 hlen hall hc hxv hl) hU hP hS hw)
theorem es_astore_n (B : eb_B p s m args c bytes nL own D τ sa ro A) (hgo : ∀ pc ls st hp ce sl, go pc ls st hp ce sl = true → ew_G p l e R s m args below meth c Q ν D τ sa ro A ws0 nL pc ls st hp ce sl) {i : Fin 4} (hd : decode bytes pc = .ok (.astore_n i, 1)) (h : ex_step cls vt lim ret go cal nat K pc (.astore_n i) a b z ls st hp ce sl = true) : ew_G p l e R s m args below meth c Q ν D τ sa ro A ws0 nL pc ls st hp ce sl := by
  intro H locs lsA stA ws hL hT hP hS hw
  obtain ⟨hx, hb, hml, hown, hts, hE⟩ := id B
  match st, h, hT with
  | [], h, _ => exact absurd h Bool.false_ne_true
  | x :: r, h, hT =>
    have h : ex_ref x (fun _ => ex_clear ls i.val (ex_set ls i.val (some x) (fun ls => ex_n (pc + 1) (fun pc => go pc ls (r) hp ce sl)))) = true := h
    obtain ⟨vx, s2, rfl, hxv, hU⟩ := hT.cons
    obtain ⟨n1, q1, e1, e2, rfl, h⟩ := ex_ref_ok h hxv
    obtain ⟨h, hc⟩ := ex_clear_ok h
    obtain ⟨hlt, hk⟩ := ex_set_ok _ _ _ _ h
    rw [ex_n_eq] at hk
    obtain ⟨hlen, lv, hv, hall⟩ := hL
    exact lv_astore_n hx hb hd rfl hv (by rw [← hlen]; exact hlt) rfl (fun ls' hl => hgo _ _ _ _ _ _ hk H locs ls' _ ws (er_L.set1 hlen hall hc hxv hl) hU hP hS hw)
theorem es_astore (B : eb_B p s m args c bytes nL own D τ sa ro A) (hgo : ∀ pc ls st hp ce sl, go pc ls st hp ce sl = true → ew_G p l e R s m args below meth c Q ν D τ sa ro A ws0 nL pc ls st hp ce sl) {i : Nat} (hd : decode bytes pc = .ok (.astore i, 2)) (h : ex_step cls vt lim ret go cal nat K pc (.astore i) a b z ls st hp ce sl = true) : ew_G p l e R s m args below meth c Q ν D τ sa ro A ws0 nL pc ls st hp ce sl := by
  intro H locs lsA stA ws hL hT hP hS hw
  obtain ⟨hx, hb, hml, hown, hts, hE⟩ := id B
  match st, h, hT with
  | [], h, _ => exact absurd h Bool.false_ne_true
  | x :: r, h, hT =>
    have h : ex_ref x (fun _ => ex_clear ls i (ex_set ls i (some x) (fun ls => ex_n (pc + 2) (fun pc => go pc ls (r) hp ce sl)))) = true := h
    obtain ⟨vx, s2, rfl, hxv, hU⟩ := hT.cons
    obtain ⟨n1, q1, e1, e2, rfl, h⟩ := ex_ref_ok h hxv
    obtain ⟨h, hc⟩ := ex_clear_ok h
    obtain ⟨hlt, hk⟩ := ex_set_ok _ _ _ _ h
    rw [ex_n_eq] at hk
    obtain ⟨hlen, lv, hv, hall⟩ := hL
    exact lv_astore hx hb hd hv (by rw [← hlen]; exact hlt) rfl (fun ls' hl => hgo _ _ _ _ _ _ hk H locs ls' _ ws (er_L.set1 hlen hall hc hxv hl) hU hP hS hw)
theorem es_lstore_n (B : eb_B p s m args c bytes nL own D τ sa ro A) (hgo : ∀ pc ls st hp ce sl, go pc ls st hp ce sl = true → ew_G p l e R s m args below meth c Q ν D τ sa ro A ws0 nL pc ls st hp ce sl) {i : Fin 4} (hd : decode bytes pc = .ok (.lstore_n i, 1)) (h : ex_step cls vt lim ret go cal nat K pc (.lstore_n i) a b z ls st hp ce sl = true) : ew_G p l e R s m args below meth c Q ν D τ sa ro A ws0 nL pc ls st hp ce sl := by
  intro H locs lsA stA ws hL hT hP hS hw
  obtain ⟨hx, hb, hml, hown, hts, hE⟩ := id B
  match st, h, hT with
  | [], h, _ => exact absurd h Bool.false_ne_true
  | x :: r, h, hT =>
    have h : ex_l x (fun _ _ => ex_clear ls i.val (ex_set ls i.val (some x) (fun ls => ex_set ls (i.val + 1) none (fun ls => ex_n (pc + 1) (fun pc => go pc ls (r) hp ce sl))))) = true := h
    obtain ⟨vx, s2, rfl, hxv, hU⟩ := hT.cons
    obtain ⟨x', -, -, rfl, -, -, h⟩ := ex_l_ok h hxv
    obtain ⟨h, hc⟩ := ex_clear_ok h
    obtain ⟨hlt, h⟩ := ex_set_ok _ _ _ _ h
    obtain ⟨hlt2, hk⟩ := ex_set_ok _ _ _ _ h
    rw [ex_n_eq] at hk
    rw [List.length_set] at hlt2
    obtain ⟨hlen, lv, hv, hall⟩ := hL
    exact lv_lstore_n hx hb hd rfl hv (by rw [← hlen]; exact hlt2) rfl (fun ls' hl => hgo _ _ _ _ _ _ hk H locs ls' _ ws (er_L.set2 hlen hall hc hxv hl) hU hP hS hw)
theorem es_lstore (B : eb_B p s m args c bytes nL own D τ sa ro A) (hgo : ∀ pc ls st hp ce sl, go pc ls st hp ce sl = true → ew_G p l e R s m args below meth c Q ν D τ sa ro A ws0 nL pc ls st hp ce sl) {i : Nat} (hd : decode bytes pc = .ok (.lstore i, 2)) (h : ex_step cls vt lim ret go cal nat K pc (.lstore i) a b z ls st hp ce sl = true) : ew_G p l e R s m args below meth c Q ν D τ sa ro A ws0 nL pc ls st hp ce sl := by
  intro H locs lsA stA ws hL hT hP hS hw
  obtain ⟨hx, hb, hml, hown, hts, hE⟩ := id B
  match st, h, hT with
  | [], h, _ => exact absurd h Bool.false_ne_true
  | x :: r, h, hT =>
    have h : ex_l x (fun _ _ => ex_clear ls i (ex_set ls i (some x) (fun ls => ex_set ls (i + 1) none (fun ls => ex_n (pc + 2) (fun pc => go pc ls (r) hp ce sl))))) = true := h
    obtain ⟨vx, s2, rfl, hxv, hU⟩ := hT.cons
    obtain ⟨x', -, -, rfl, -, -, h⟩ := ex_l_ok h hxv
    obtain ⟨h, hc⟩ := ex_clear_ok h
    obtain ⟨hlt, h⟩ := ex_set_ok _ _ _ _ h
    obtain ⟨hlt2, hk⟩ := ex_set_ok _ _ _ _ h
    rw [ex_n_eq] at hk
    rw [List.length_set] at hlt2
    obtain ⟨hlen, lv, hv, hall⟩ := hL
    exact lv_lstore hx hb hd hv (by rw [← hlen]; exact hlt2) rfl (fun ls' hl => hgo _ _ _ _ _ _ hk H locs ls' _ ws (er_L.set2 hlen hall hc hxv hl) hU hP hS hw)
theorem es_iinc (B : eb_B p s m args c bytes nL own D τ sa ro A) (hgo : ∀ pc ls st hp ce sl, go pc ls st hp ce sl = true → ew_G p l e R s m args below meth c Q ν D τ sa ro A ws0 nL pc ls st hp ce sl) {i : Nat} {n : Int} (hd : decode bytes pc = .ok (.iinc i n, 3)) (h : ex_step cls vt lim ret go cal nat K pc (.iinc i n) a b z ls st hp ce sl = true) : ew_G p l e R s m args below meth c Q ν D τ sa ro A ws0 nL pc ls st hp ce sl := by
  intro H locs lsA stA ws hL hT hP hS hw
  obtain ⟨hx, hb, hml, hown, hts, hE⟩ := id B
  have h : (if ex_fit32 n then ex_get ls i (fun o => match o with | some v => ex_add v (.inl n) (fun v => ex_clear ls i (ex_set ls i (some v) (fun ls => ex_n (pc + 3) (fun pc => go pc ls (st) hp ce sl)))) | none => false) else false) = true := h
  by_cases hf : ex_fit32 n = true
  · rw [if_pos hf] at h
    obtain ⟨o, h1, h⟩ := ex_get_ok _ _ _ h
    cases o with
    | none => exact absurd h Bool.false_ne_true
    | some v =>
      obtain ⟨hlen, lv, hv, hall⟩ := hL
      obtain ⟨w, g1, g2⟩ := hall i v h1
      have h : ex_add v (.inl n) (fun v => ex_clear ls i (ex_set ls i (some v) (fun ls => ex_n (pc + 3) (fun pc => go pc ls (st) hp ce sl)))) = true := h
      obtain ⟨x', y', r', rfl, e2, hr, h⟩ := ex_add_ok (vb := .int (Int32.ofInt n)) h g1 ⟨_, rfl, ex_of32 hf⟩
      cases e2
      obtain ⟨h, hc⟩ := ex_clear_ok h
      obtain ⟨hlt, hk⟩ := ex_set_ok _ _ _ _ h
      rw [ex_n_eq] at hk
      obtain ⟨k, hk2⟩ := List.getElem?_of_mem g2
      exact lv_iinc hx hb hd hv hk2 rfl (by rw [← hlen]; exact hlt) rfl (fun ls' hl => hgo _ _ _ _ _ _ hk H locs ls' _ ws (er_L.set1 hlen hall hc hr hl) hT hP hS hw)
  · rw [if_neg hf] at h; exact absurd h Bool.false_ne_true
theorem es_dup (B : eb_B p s m args c bytes nL own D τ sa ro A) (hgo : ∀ pc ls st hp ce sl, go pc ls st hp ce sl = true → ew_G p l e R s m args below meth c Q ν D τ sa ro A ws0 nL pc ls st hp ce sl) (hd : decode bytes pc = .ok (.dup, 1)) (h : ex_step cls vt lim ret go cal nat K pc (.dup) a b z ls st hp ce sl = true) : ew_G p l e R s m args below meth c Q ν D τ sa ro A ws0 nL pc ls st hp ce sl := by
  intro H locs lsA stA ws hL hT hP hS hw
  obtain ⟨hx, hb, hml, hown, hts, hE⟩ := id B
  match st, h, hT with
  | [], h, _ => exact absurd h Bool.false_ne_true
  | x :: r, h, hT =>
    have h : (if Nat.beq (ex_cat x) 1 then ex_n (pc + 1) (fun pc => go pc ls (x :: x :: r) hp ce sl) else false) = true := h
    obtain ⟨vx, s2, rfl, hxv, hU⟩ := hT.cons
    by_cases hc : Nat.beq (ex_cat x) 1 = true
    · rw [if_pos hc, ex_n_eq] at h
      exact lv_dup hx hb hd ((er_cat hxv).trans (Nat.eq_of_beq_eq_true hc)) (hgo _ _ _ _ _ _ h H locs lsA _ ws hL ⟨hxv, hxv, hU⟩ hP hS hw)
    · rw [if_neg hc] at h; exact absurd h Bool.false_ne_true
theorem es_pop (B : eb_B p s m args c bytes nL own D τ sa ro A) (hgo : ∀ pc ls st hp ce sl, go pc ls st hp ce sl = true → ew_G p l e R s m args below meth c Q ν D τ sa ro A ws0 nL pc ls st hp ce sl) (hd : decode bytes pc = .ok (.pop, 1)) (h : ex_step cls vt lim ret go cal nat K pc (.pop) a b z ls st hp ce sl = true) : ew_G p l e R s m args below meth c Q ν D τ sa ro A ws0 nL pc ls st hp ce sl := by
  intro H locs lsA stA ws hL hT hP hS hw
  obtain ⟨hx, hb, hml, hown, hts, hE⟩ := id B
  match st, h, hT with
  | [], h, _ => exact absurd h Bool.false_ne_true
  | x :: r, h, hT =>
    have h : (if Nat.beq (ex_cat x) 1 then ex_n (pc + 1) (fun pc => go pc ls (r) hp ce sl) else false) = true := h
    obtain ⟨vx, s2, rfl, hxv, hU⟩ := hT.cons
    by_cases hc : Nat.beq (ex_cat x) 1 = true
    · rw [if_pos hc, ex_n_eq] at h
      exact lv_pop hx hb hd ((er_cat hxv).trans (Nat.eq_of_beq_eq_true hc)) (hgo _ _ _ _ _ _ h H locs lsA _ ws hL hU hP hS hw)
    · rw [if_neg hc] at h; exact absurd h Bool.false_ne_true
theorem es_pop2 (B : eb_B p s m args c bytes nL own D τ sa ro A) (hgo : ∀ pc ls st hp ce sl, go pc ls st hp ce sl = true → ew_G p l e R s m args below meth c Q ν D τ sa ro A ws0 nL pc ls st hp ce sl) (hd : decode bytes pc = .ok (.pop2, 1)) (h : ex_step cls vt lim ret go cal nat K pc (.pop2) a b z ls st hp ce sl = true) : ew_G p l e R s m args below meth c Q ν D τ sa ro A ws0 nL pc ls st hp ce sl := by
  intro H locs lsA stA ws hL hT hP hS hw
  obtain ⟨hx, hb, hml, hown, hts, hE⟩ := id B
  match st, h, hT with
  | [], h, _ => exact absurd h Bool.false_ne_true
  | x :: r, h, hT =>
    have h : (if Nat.beq (ex_cat x) 2 then ex_n (pc + 1) (fun pc => go pc ls (r) hp ce sl) else false) = true := h
    obtain ⟨vx, s2, rfl, hxv, hU⟩ := hT.cons
    by_cases hc : Nat.beq (ex_cat x) 2 = true
    · rw [if_pos hc, ex_n_eq] at h
      exact lv_pop2_2 hx hb hd ((er_cat hxv).trans (Nat.eq_of_beq_eq_true hc)) (hgo _ _ _ _ _ _ h H locs lsA _ ws hL hU hP hS hw)
    · rw [if_neg hc] at h; exact absurd h Bool.false_ne_true
theorem es_dup_x1 (B : eb_B p s m args c bytes nL own D τ sa ro A) (hgo : ∀ pc ls st hp ce sl, go pc ls st hp ce sl = true → ew_G p l e R s m args below meth c Q ν D τ sa ro A ws0 nL pc ls st hp ce sl) (hd : decode bytes pc = .ok (.dup_x1, 1)) (h : ex_step cls vt lim ret go cal nat K pc (.dup_x1) a b z ls st hp ce sl = true) : ew_G p l e R s m args below meth c Q ν D τ sa ro A ws0 nL pc ls st hp ce sl := by
  intro H locs lsA stA ws hL hT hP hS hw
  obtain ⟨hx, hb, hml, hown, hts, hE⟩ := id B
  match st, h, hT with
  | [], h, _ => exact absurd h Bool.false_ne_true
  | [_], h, _ => exact absurd h Bool.false_ne_true
  | y :: x :: r, h, hT =>
    have h : (if Nat.beq (ex_cat y) 1 && Nat.beq (ex_cat x) 1 then ex_n (pc + 1) (fun pc => go pc ls (y :: x :: y :: r) hp ce sl) else false) = true := h
    obtain ⟨vy, s1, rfl, hy, hU1⟩ := hT.cons
    obtain ⟨vx, s2, rfl, hxv, hU⟩ := hU1.cons
    by_cases hc : (Nat.beq (ex_cat y) 1 && Nat.beq (ex_cat x) 1) = true
    · rw [if_pos hc, ex_n_eq] at h
      rw [Bool.and_eq_true] at hc
      exact lv_dup_x1 hx hb hd ((er_cat hy).trans (Nat.eq_of_beq_eq_true hc.1)) ((er_cat hxv).trans (Nat.eq_of_beq_eq_true hc.2)) (hgo _ _ _ _ _ _ h H locs lsA _ ws hL ⟨hy, hxv, hy, hU⟩ hP hS hw)
    · rw [if_neg hc] at h; exact absurd h Bool.false_ne_true
theorem es_dup2 (B : eb_B p s m args c bytes nL own D τ sa ro A) (hgo : ∀ pc ls st hp ce sl, go pc ls st hp ce sl = true → ew_G p l e R s m args below meth c Q ν D τ sa ro A ws0 nL pc ls st hp ce sl) (hd : decode bytes pc = .ok (.dup2, 1)) (h : ex_step cls vt lim ret go cal nat K pc (.dup2) a b z ls st hp ce sl = true) : ew_G p l e R s m args below meth c Q ν D τ sa ro A ws0 nL pc ls st hp ce sl := by
  intro H locs lsA stA ws hL hT hP hS hw
  obtain ⟨hx, hb, hml, hown, hts, hE⟩ := id B
  match st, h, hT with
  | [], h, _ => exact absurd h Bool.false_ne_true
  | [_], h, _ => exact absurd h Bool.false_ne_true
  | y :: x :: r, h, hT =>
    have h : (if Nat.beq (ex_cat y) 1 && Nat.beq (ex_cat x) 1 then ex_n (pc + 1) (fun pc => go pc ls (y :: x :: y :: x :: r) hp ce sl) else false) = true := h
    obtain ⟨vy, s1, rfl, hy, hU1⟩ := hT.cons
    obtain ⟨vx, s2, rfl, hxv, hU⟩ := hU1.cons
    by_cases hc : (Nat.beq (ex_cat y) 1 && Nat.beq (ex_cat x) 1) = true
    · rw [if_pos hc, ex_n_eq] at h
      rw [Bool.and_eq_true] at hc
      exact lv_dup2_11 hx hb hd ((er_cat hy).trans (Nat.eq_of_beq_eq_true hc.1)) ((er_cat hxv).trans (Nat.eq_of_beq_eq_true hc.2)) (hgo _ _ _ _ _ _ h H locs lsA _ ws hL ⟨hy, hxv, hy, hxv, hU⟩ hP hS hw)
    · rw [if_neg hc] at h; exact absurd h Bool.false_ne_true
theorem es_goto (B : eb_B p s m args c bytes nL own D τ sa ro A) (hgo : ∀ pc ls st hp ce sl, go pc ls st hp ce sl = true → ew_G p l e R s m args below meth c Q ν D τ sa ro A ws0 nL pc ls st hp ce sl) {off : Int} (hd : decode bytes pc = .ok (.goto off, 3)) (h : ex_step cls vt lim ret go cal nat K pc (.goto off) a b z ls st hp ce sl = true) : ew_G p l e R s m args below meth c Q ν D τ sa ro A ws0 nL pc ls st hp ce sl := by
  intro H locs lsA stA ws hL hT hP hS hw
  obtain ⟨hx, hb, hml, hown, hts, hE⟩ := id B
  have h : ex_tgt pc off (fun t => go t ls (st) hp ce sl) = true := h
  obtain ⟨t, ht, h⟩ := ex_tgt_ok h
  exact lv_goto hx hb hd ht (hgo _ _ _ _ _ _ h H locs lsA _ ws hL hT hP hS hw)
theorem ex_h_eq {x y : Int32} : ex_hold .eq x.toInt y.toInt ↔ x = y := Int32.toInt_inj
theorem ex_h_ne {x y : Int32} : ex_hold .ne x.toInt y.toInt ↔ ¬ x = y := not_congr Int32.toInt_inj
theorem ex_h_lt {x y : Int32} : ex_hold .lt x.toInt y.toInt ↔ x < y := Int32.lt_iff_toInt_lt.symm
theorem ex_h_ge {x y : Int32} : ex_hold .ge x.toInt y.toInt ↔ y ≤ x := Int32.le_iff_toInt_le.symm
theorem ex_h_gt {x y : Int32} : ex_hold .gt x.toInt y.toInt ↔ y < x := Int32.lt_iff_toInt_lt.symm
theorem ex_h_le {x y : Int32} : ex_hold .le x.toInt y.toInt ↔ x ≤ y := Int32.le_iff_toInt_le.symm

theorem es_icmp_eq (B : eb_B p s m args c bytes nL own D τ sa ro A) (hgo : ∀ pc ls st hp ce sl, go pc ls st hp ce sl = true → ew_G p l e R s m args below meth c Q ν D τ sa ro A ws0 nL pc ls st hp ce sl) {off : Int} (hof : ∃ t : Nat, (pc : Int) + off = (t : Int)) (hd : decode bytes pc = .ok (.if_icmp .eq off, 3)) (h : ex_step cls vt lim ret go cal nat K pc (.if_icmp .eq off) a b z ls st hp ce sl = true) : ew_G p l e R s m args below meth c Q ν D τ sa ro A ws0 nL pc ls st hp ce sl := by
  intro H locs lsA stA ws hL hT hP hS hw
  obtain ⟨hx, hb, hml, hown, hts, hE⟩ := id B
  match st, h, hT with
  | [], h, _ => exact absurd h Bool.false_ne_true
  | [_], h, _ => exact absurd h Bool.false_ne_true
  | y :: x :: r, h, hT =>
    have h : ex_br .eq x y (ex_tgt pc off (fun t => go t ls (r) hp ce sl)) (ex_n (pc + 3) (fun pc => go pc ls (r) hp ce sl)) = true := h
    obtain ⟨vy, s1, rfl, hy, hU1⟩ := hT.cons
    obtain ⟨vx, s2, rfl, hxv, hU⟩ := hU1.cons
    obtain ⟨x', y', rfl, rfl, kt, kf⟩ := ex_br_ok h hxv hy
    rw [ex_n_eq] at kf
    by_cases hq : ∃ t : Nat, (pc : Int) + off = (t : Int)
    · obtain ⟨t, ht⟩ := hq
      refine lv_icmp_eq hx hb hd ht (fun q => ?_) (fun q => hgo _ _ _ _ _ _ (kf (fun w => q (ex_h_eq.mp w))) H locs lsA _ ws hL hU hP hS hw)
      obtain ⟨t2, ht2, hk⟩ := ex_tgt_ok (kt (ex_h_eq.mpr q))
      obtain rfl : t2 = t := by omega
      exact hgo _ _ _ _ _ _ hk H locs lsA _ ws hL hU hP hS hw
    · exact absurd hof hq
theorem es_if_eq (B : eb_B p s m args c bytes nL own D τ sa ro A) (hgo : ∀ pc ls st hp ce sl, go pc ls st hp ce sl = true → ew_G p l e R s m args below meth c Q ν D τ sa ro A ws0 nL pc ls st hp ce sl) {off : Int} (hof : ∃ t : Nat, (pc : Int) + off = (t : Int)) (hd : decode bytes pc = .ok (.ifCond .eq off, 3)) (h : ex_step cls vt lim ret go cal nat K pc (.ifCond .eq off) a b z ls st hp ce sl = true) : ew_G p l e R s m args below meth c Q ν D τ sa ro A ws0 nL pc ls st hp ce sl := by
  intro H locs lsA stA ws hL hT hP hS hw
  obtain ⟨hx, hb, hml, hown, hts, hE⟩ := id B
  match st, h, hT with
  | [], h, _ => exact absurd h Bool.false_ne_true
  | x :: r, h, hT =>
    have h : ex_br .eq x (.inl 0) (ex_tgt pc off (fun t => go t ls (r) hp ce sl)) (ex_n (pc + 3) (fun pc => go pc ls (r) hp ce sl)) = true := h
    obtain ⟨vx, s2, rfl, hxv, hU⟩ := hT.cons
    obtain ⟨x', y', rfl, e2, kt, kf⟩ := ex_br_ok (b := .int 0) h hxv ⟨_, rfl, rfl⟩
    cases e2
    rw [ex_n_eq] at kf
    obtain ⟨t, ht⟩ := hof
    refine lv_if_eq hx hb hd ht (fun q => ?_) (fun q => hgo _ _ _ _ _ _ (kf (fun w => q (ex_h_eq.mp w))) H locs lsA _ ws hL hU hP hS hw)
    obtain ⟨t2, ht2, hk⟩ := ex_tgt_ok (kt (ex_h_eq.mpr q))
    obtain rfl : t2 = t := by omega
    exact hgo _ _ _ _ _ _ hk H locs lsA _ ws hL hU hP hS hw
theorem es_icmp_ne (B : eb_B p s m args c bytes nL own D τ sa ro A) (hgo : ∀ pc ls st hp ce sl, go pc ls st hp ce sl = true → ew_G p l e R s m args below meth c Q ν D τ sa ro A ws0 nL pc ls st hp ce sl) {off : Int} (hof : ∃ t : Nat, (pc : Int) + off = (t : Int)) (hd : decode bytes pc = .ok (.if_icmp .ne off, 3)) (h : ex_step cls vt lim ret go cal nat K pc (.if_icmp .ne off) a b z ls st hp ce sl = true) : ew_G p l e R s m args below meth c Q ν D τ sa ro A ws0 nL pc ls st hp ce sl := by
  intro H locs lsA stA ws hL hT hP hS hw
  obtain ⟨hx, hb, hml, hown, hts, hE⟩ := id B
  match st, h, hT with
  | [], h, _ => exact absurd h Bool.false_ne_true
  | [_], h, _ => exact absurd h Bool.false_ne_true
  | y :: x :: r, h, hT =>
    have h : ex_br .ne x y (ex_tgt pc off (fun t => go t ls (r) hp ce sl)) (ex_n (pc + 3) (fun pc => go pc ls (r) hp ce sl)) = true := h
    obtain ⟨vy, s1, rfl, hy, hU1⟩ := hT.cons
    obtain ⟨vx, s2, rfl, hxv, hU⟩ := hU1.cons
    obtain ⟨x', y', rfl, rfl, kt, kf⟩ := ex_br_ok h hxv hy
    rw [ex_n_eq] at kf
    by_cases hq : ∃ t : Nat, (pc : Int) + off = (t : Int)
    · obtain ⟨t, ht⟩ := hq
      refine lv_icmp_ne hx hb hd ht (fun q => ?_) (fun q => hgo _ _ _ _ _ _ (kf (fun w => (ex_h_ne.mp w) q)) H locs lsA _ ws hL hU hP hS hw)
      obtain ⟨t2, ht2, hk⟩ := ex_tgt_ok (kt (ex_h_ne.mpr q))
      obtain rfl : t2 = t := by omega
      exact hgo _ _ _ _ _ _ hk H locs lsA _ ws hL hU hP hS hw
    · exact absurd hof hq
theorem es_if_ne (B : eb_B p s m args c bytes nL own D τ sa ro A) (hgo : ∀ pc ls st hp ce sl, go pc ls st hp ce sl = true → ew_G p l e R s m args below meth c Q ν D τ sa ro A ws0 nL pc ls st hp ce sl) {off : Int} (hof : ∃ t : Nat, (pc : Int) + off = (t : Int)) (hd : decode bytes pc = .ok (.ifCond .ne off, 3)) (h : ex_step cls vt lim ret go cal nat K pc (.ifCond .ne off) a b z ls st hp ce sl = true) : ew_G p l e R s m args below meth c Q ν D τ sa ro A ws0 nL pc ls st hp ce sl := by
  intro H locs lsA stA ws hL hT hP hS hw
  obtain ⟨hx, hb, hml, hown, hts, hE⟩ := id B
  match st, h, hT with
  | [], h, _ => exact absurd h Bool.false_ne_true
  | x :: r, h, hT =>
    have h : ex_br .ne x (.inl 0) (ex_tgt pc off (fun t => go t ls (r) hp ce sl)) (ex_n (pc + 3) (fun pc => go pc ls (r) hp ce sl)) = true := h
    obtain ⟨vx, s2, rfl, hxv, hU⟩ := hT.cons
    obtain ⟨x', y', rfl, e2, kt, kf⟩ := ex_br_ok (b := .int 0) h hxv ⟨_, rfl, rfl⟩
    cases e2
    rw [ex_n_eq] at kf
    obtain ⟨t, ht⟩ := hof
    refine lv_if_ne hx hb hd ht (fun q => ?_) (fun q => hgo _ _ _ _ _ _ (kf (fun w => (ex_h_ne.mp w) q)) H locs lsA _ ws hL hU hP hS hw)
    obtain ⟨t2, ht2, hk⟩ := ex_tgt_ok (kt (ex_h_ne.mpr q))
    obtain rfl : t2 = t := by omega
    exact hgo _ _ _ _ _ _ hk H locs lsA _ ws hL hU hP hS hw
theorem es_icmp_lt (B : eb_B p s m args c bytes nL own D τ sa ro A) (hgo : ∀ pc ls st hp ce sl, go pc ls st hp ce sl = true → ew_G p l e R s m args below meth c Q ν D τ sa ro A ws0 nL pc ls st hp ce sl) {off : Int} (hof : ∃ t : Nat, (pc : Int) + off = (t : Int)) (hd : decode bytes pc = .ok (.if_icmp .lt off, 3)) (h : ex_step cls vt lim ret go cal nat K pc (.if_icmp .lt off) a b z ls st hp ce sl = true) : ew_G p l e R s m args below meth c Q ν D τ sa ro A ws0 nL pc ls st hp ce sl := by
  intro H locs lsA stA ws hL hT hP hS hw
  obtain ⟨hx, hb, hml, hown, hts, hE⟩ := id B
  match st, h, hT with
  | [], h, _ => exact absurd h Bool.false_ne_true
  | [_], h, _ => exact absurd h Bool.false_ne_true
  | y :: x :: r, h, hT =>
    have h : ex_br .lt x y (ex_tgt pc off (fun t => go t ls (r) hp ce sl)) (ex_n (pc + 3) (fun pc => go pc ls (r) hp ce sl)) = true := h
    obtain ⟨vy, s1, rfl, hy, hU1⟩ := hT.cons
    obtain ⟨vx, s2, rfl, hxv, hU⟩ := hU1.cons
    obtain ⟨x', y', rfl, rfl, kt, kf⟩ := ex_br_ok h hxv hy
    rw [ex_n_eq] at kf
    by_cases hq : ∃ t : Nat, (pc : Int) + off = (t : Int)
    · obtain ⟨t, ht⟩ := hq
      refine lv_icmp_lt hx hb hd ht (fun q => ?_) (fun q => hgo _ _ _ _ _ _ (kf (fun w => q (ex_h_lt.mp w))) H locs lsA _ ws hL hU hP hS hw)
      obtain ⟨t2, ht2, hk⟩ := ex_tgt_ok (kt (ex_h_lt.mpr q))
      obtain rfl : t2 = t := by omega
      exact hgo _ _ _ _ _ _ hk H locs lsA _ ws hL hU hP hS hw
    · exact absurd hof hq
theorem es_if_lt (B : eb_B p s m args c bytes nL own D τ sa ro A) (hgo : ∀ pc ls st hp ce sl, go pc ls st hp ce sl = true → ew_G p l e R s m args below meth c Q ν D τ sa ro A ws0 nL pc ls st hp ce sl) {off : Int} (hof : ∃ t : Nat, (pc : Int) + off = (t : Int)) (hd : decode bytes pc = .ok (.ifCond .lt off, 3)) (h : ex_step cls vt lim ret go cal nat K pc (.ifCond .lt off) a b z ls st hp ce sl = true) : ew_G p l e R s m args below meth c Q ν D τ sa ro A ws0 nL pc ls st hp ce sl := by
  intro H locs lsA stA ws hL hT hP hS hw
  obtain ⟨hx, hb, hml, hown, hts, hE⟩ := id B
  match st, h, hT with
  | [], h, _ => exact absurd h Bool.false_ne_true
  | x :: r, h, hT =>
    have h : ex_br .lt x (.inl 0) (ex_tgt pc off (fun t => go t ls (r) hp ce sl)) (ex_n (pc + 3) (fun pc => go pc ls (r) hp ce sl)) = true := h
    obtain ⟨vx, s2, rfl, hxv, hU⟩ := hT.cons
    obtain ⟨x', y', rfl, e2, kt, kf⟩ := ex_br_ok (b := .int 0) h hxv ⟨_, rfl, rfl⟩
    cases e2
    rw [ex_n_eq] at kf
    obtain ⟨t, ht⟩ := hof
    refine lv_if_lt hx hb hd ht (fun q => ?_) (fun q => hgo _ _ _ _ _ _ (kf (fun w => q (ex_h_lt.mp w))) H locs lsA _ ws hL hU hP hS hw)
    obtain ⟨t2, ht2, hk⟩ := ex_tgt_ok (kt (ex_h_lt.mpr q))
    obtain rfl : t2 = t := by omega
    exact hgo _ _ _ _ _ _ hk H locs lsA _ ws hL hU hP hS hw
theorem es_icmp_ge (B : eb_B p s m args c bytes nL own D τ sa ro A) (hgo : ∀ pc ls st hp ce sl, go pc ls st hp ce sl = true → ew_G p l e R s m args below meth c Q ν D τ sa ro A ws0 nL pc ls st hp ce sl) {off : Int} (hof : ∃ t : Nat, (pc : Int) + off = (t : Int)) (hd : decode bytes pc = .ok (.if_icmp .ge off, 3)) (h : ex_step cls vt lim ret go cal nat K pc (.if_icmp .ge off) a b z ls st hp ce sl = true) : ew_G p l e R s m args below meth c Q ν D τ sa ro A ws0 nL pc ls st hp ce sl := by
  intro H locs lsA stA ws hL hT hP hS hw
  obtain ⟨hx, hb, hml, hown, hts, hE⟩ := id B
  match st, h, hT with
  | [], h, _ => exact absurd h Bool.false_ne_true
  | [_], h, _ => exact absurd h Bool.false_ne_true
  | y :: x :: r, h, hT =>
    have h : ex_br .ge x y (ex_tgt pc off (fun t => go t ls (r) hp ce sl)) (ex_n (pc + 3) (fun pc => go pc ls (r) hp ce sl)) = true := h
    obtain ⟨vy, s1, rfl, hy, hU1⟩ := hT.cons
    obtain ⟨vx, s2, rfl, hxv, hU⟩ := hU1.cons
    obtain ⟨x', y', rfl, rfl, kt, kf⟩ := ex_br_ok h hxv hy
    rw [ex_n_eq] at kf
    by_cases hq : ∃ t : Nat, (pc : Int) + off = (t : Int)
    · obtain ⟨t, ht⟩ := hq
      refine lv_icmp_ge hx hb hd ht (fun q => ?_) (fun q => hgo _ _ _ _ _ _ (kf (fun w => q (ex_h_ge.mp w))) H locs lsA _ ws hL hU hP hS hw)
      obtain ⟨t2, ht2, hk⟩ := ex_tgt_ok (kt (ex_h_ge.mpr q))
      obtain rfl : t2 = t := by omega
      exact hgo _ _ _ _ _ _ hk H locs lsA _ ws hL hU hP hS hw
    · exact absurd hof hq
theorem es_if_ge (B : eb_B p s m args c bytes nL own D τ sa ro A) (hgo : ∀ pc ls st hp ce sl, go pc ls st hp ce sl = true → ew_G p l e R s m args below meth c Q ν D τ sa ro A ws0 nL pc ls st hp ce sl) {off : Int} (hof : ∃ t : Nat, (pc : Int) + off = (t : Int)) (hd : decode bytes pc = .ok (.ifCond .ge off, 3)) (h : ex_step cls vt lim ret go cal nat K pc (.ifCond .ge off) a b z ls st hp ce sl = true) : ew_G p l e R s m args below meth c Q ν D τ sa ro A ws0 nL pc ls st hp ce sl := by
  intro H locs lsA stA ws hL hT hP hS hw
  obtain ⟨hx, hb, hml, hown, hts, hE⟩ := id B
  match st, h, hT with
  | [], h, _ => exact absurd h Bool.false_ne_true
  | x :: r, h, hT =>
    have h : ex_br .ge x (.inl 0) (ex_tgt pc off (fun t => go t ls (r) hp ce sl)) (ex_n (pc + 3) (fun pc => go pc ls (r) hp ce sl)) = true := h
    obtain ⟨vx, s2, rfl, hxv, hU⟩ := hT.cons
    obtain ⟨x', y', rfl, e2, kt, kf⟩ := ex_br_ok (b := .int 0) h hxv ⟨_, rfl, rfl⟩
    cases e2
    rw [ex_n_eq] at kf
    obtain ⟨t, ht⟩ := hof
    refine lv_if_ge hx hb hd ht (fun q => ?_) (fun q => hgo _ _ _ _ _ _ (kf (fun w => q (ex_h_ge.mp w))) H locs lsA _ ws hL hU hP hS hw)
    obtain ⟨t2, ht2, hk⟩ := ex_tgt_ok (kt (ex_h_ge.mpr q))
    obtain rfl : t2 = t := by omega
    exact hgo _ _ _ _ _ _ hk H locs lsA _ ws hL hU hP hS hw
theorem es_icmp_gt (B : eb_B p s m args c bytes nL own D τ sa ro A) (hgo : ∀ pc ls st hp ce sl, go pc ls st hp ce sl = true → ew_G p l e R s m args below meth c Q ν D τ sa ro A ws0 nL pc ls st hp ce sl) {off : Int} (hof : ∃ t : Nat, (pc : Int) + off = (t : Int)) (hd : decode bytes pc = .ok (.if_icmp .gt off, 3)) (h : ex_step cls vt lim ret go cal nat K pc (.if_icmp .gt off) a b z ls st hp ce sl = true) : ew_G p l e R s m args below meth c Q ν D τ sa ro A ws0 nL pc ls st hp ce sl := by
  intro H locs lsA stA ws hL hT hP hS hw
  obtain ⟨hx, hb, hml, hown, hts, hE⟩ := id B
  match st, h, hT with
  | [], h, _ => exact absurd h Bool.false_ne_true
  | [_], h, _ => exact absurd h Bool.false_ne_true
  | y :: x :: r, h, hT =>
    have h : ex_br .gt x y (ex_tgt pc off (fun t => go t ls (r) hp ce sl)) (ex_n (pc + 3) (fun pc => go pc ls (r) hp ce sl)) = true := h
    obtain ⟨vy, s1, rfl, hy, hU1⟩ := hT.cons
    obtain ⟨vx, s2, rfl, hxv, hU⟩ := hU1.cons
    obtain ⟨x', y', rfl, rfl, kt, kf⟩ := ex_br_ok h hxv hy
    rw [ex_n_eq] at kf
    by_cases hq : ∃ t : Nat, (pc : Int) + off = (t : Int)
    · obtain ⟨t, ht⟩ := hq
      refine lv_icmp_gt hx hb hd ht (fun q => ?_) (fun q => hgo _ _ _ _ _ _ (kf (fun w => q (ex_h_gt.mp w))) H locs lsA _ ws hL hU hP hS hw)
      obtain ⟨t2, ht2, hk⟩ := ex_tgt_ok (kt (ex_h_gt.mpr q))
      obtain rfl : t2 = t := by omega
      exact hgo _ _ _ _ _ _ hk H locs lsA _ ws hL hU hP hS hw
    · exact absurd hof hq
theorem es_if_gt (B : eb_B p s m args c bytes nL own D τ sa ro A) (hgo : ∀ pc ls st hp ce sl, go pc ls st hp ce sl = true → ew_G p l e R s m args below meth c Q ν D τ sa ro A ws0 nL pc ls st hp ce sl) {off : Int} (hof : ∃ t : Nat, (pc : Int) + off = (t : Int)) (hd : decode bytes pc = .ok (.ifCond .gt off, 3)) (h : ex_step cls vt lim ret go cal nat K pc (.ifCond .gt off) a b z ls st hp ce sl = true) : ew_G p l e R s m args below meth c Q ν D τ sa ro A ws0 nL pc ls st hp ce sl := by
  intro H locs lsA stA ws hL hT hP hS hw
  obtain ⟨hx, hb, hml, hown, hts, hE⟩ := id B
  match st, h, hT with
  | [], h, _ => exact absurd h Bool.false_ne_true
  | x :: r, h, hT =>
    have h : ex_br .gt x (.inl 0) (ex_tgt pc off (fun t => go t ls (r) hp ce sl)) (ex_n (pc + 3) (fun pc => go pc ls (r) hp ce sl)) = true := h
    obtain ⟨vx, s2, rfl, hxv, hU⟩ := hT.cons
    obtain ⟨x', y', rfl, e2, kt, kf⟩ := ex_br_ok (b := .int 0) h hxv ⟨_, rfl, rfl⟩
    cases e2
    rw [ex_n_eq] at kf
    obtain ⟨t, ht⟩ := hof
    refine lv_if_gt hx hb hd ht (fun q => ?_) (fun q => hgo _ _ _ _ _ _ (kf (fun w => q (ex_h_gt.mp w))) H locs lsA _ ws hL hU hP hS hw)
    obtain ⟨t2, ht2, hk⟩ := ex_tgt_ok (kt (ex_h_gt.mpr q))
    obtain rfl : t2 = t := by omega
    exact hgo _ _ _ _ _ _ hk H locs lsA _ ws hL hU hP hS hw
theorem es_icmp_le (B : eb_B p s m args c bytes nL own D τ sa ro A) (hgo : ∀ pc ls st hp ce sl, go pc ls st hp ce sl = true → ew_G p l e R s m args below meth c Q ν D τ sa ro A ws0 nL pc ls st hp ce sl) {off : Int} (hof : ∃ t : Nat, (pc : Int) + off = (t : Int)) (hd : decode bytes pc = .ok (.if_icmp .le off, 3)) (h : ex_step cls vt lim ret go cal nat K pc (.if_icmp .le off) a b z ls st hp ce sl = true) : ew_G p l e R s m args below meth c Q ν D τ sa ro A ws0 nL pc ls st hp ce sl := by
  intro H locs lsA stA ws hL hT hP hS hw
  obtain ⟨hx, hb, hml, hown, hts, hE⟩ := id B
  match st, h, hT with
  | [], h, _ => exact absurd h Bool.false_ne_true
  | [_], h, _ => exact absurd h Bool.false_ne_true
  | y :: x :: r, h, hT =>
    have h : ex_br .le x y (ex_tgt pc off (fun t => go t ls (r) hp ce sl)) (ex_n (pc + 3) (fun pc => go pc ls (r) hp ce sl)) = true := h
    obtain ⟨vy, s1, rfl, hy, hU1⟩ := hT.cons
    obtain ⟨vx, s2, rfl, hxv, hU⟩ := hU1.cons
    obtain ⟨x', y', rfl, rfl, kt, kf⟩ := ex_br_ok h hxv hy
    rw [ex_n_eq] at kf
    by_cases hq : ∃ t : Nat, (pc : Int) + off = (t : Int)
    · obtain ⟨t, ht⟩ := hq
      refine lv_icmp_le hx hb hd ht (fun q => ?_) (fun q => hgo _ _ _ _ _ _ (kf (fun w => q (ex_h_le.mp w))) H locs lsA _ ws hL hU hP hS hw)
      obtain ⟨t2, ht2, hk⟩ := ex_tgt_ok (kt (ex_h_le.mpr q))
      obtain rfl : t2 = t := by omega
      exact hgo _ _ _ _ _ _ hk H locs lsA _ ws hL hU hP hS hw
    · exact absurd hof hq
theorem es_if_le (B : eb_B p s m args c bytes nL own D τ sa ro A) (hgo : ∀ pc ls st hp ce sl, go pc ls st hp ce sl = true → ew_G p l e R s m args below meth c Q ν D τ sa ro A ws0 nL pc ls st hp ce sl) {off : Int} (hof : ∃ t : Nat, (pc : Int) + off = (t : Int)) (hd : decode bytes pc = .ok (.ifCond .le off, 3)) (h : ex_step cls vt lim ret go cal nat K pc (.ifCond .le off) a b z ls st hp ce sl = true) : ew_G p l e R s m args below meth c Q ν D τ sa ro A ws0 nL pc ls st hp ce sl := by
  intro H locs lsA stA ws hL hT hP hS hw
  obtain ⟨hx, hb, hml, hown, hts, hE⟩ := id B
  match st, h, hT with
  | [], h, _ => exact absurd h Bool.false_ne_true
  | x :: r, h, hT =>
    have h : ex_br .le x (.inl 0) (ex_tgt pc off (fun t => go t ls (r) hp ce sl)) (ex_n (pc + 3) (fun pc => go pc ls (r) hp ce sl)) = true := h
    obtain ⟨vx, s2, rfl, hxv, hU⟩ := hT.cons
    obtain ⟨x', y', rfl, e2, kt, kf⟩ := ex_br_ok (b := .int 0) h hxv ⟨_, rfl, rfl⟩
    cases e2
    rw [ex_n_eq] at kf
    obtain ⟨t, ht⟩ := hof
    refine lv_if_le hx hb hd ht (fun q => ?_) (fun q => hgo _ _ _ _ _ _ (kf (fun w => q (ex_h_le.mp w))) H locs lsA _ ws hL hU hP hS hw)
    obtain ⟨t2, ht2, hk⟩ := ex_tgt_ok (kt (ex_h_le.mpr q))
    obtain rfl : t2 = t := by omega
    exact hgo _ _ _ _ _ _ hk H locs lsA _ ws hL hU hP hS hw
end ES
