/-! Calls and returns of the runner; every instruction; a whole frame; a method. Printed by wip/p1/gen12.py. -/
/-- what a call of the runner gives: the callee's contract -/
def em_cal (l : Launch) (R : Room) (ν : Nat → Int32) (D : va_G) (τ : Nat → ClassId) (sa : List Nat) (ro : List ex_C) (A : Nat → Prop) (inf : List (MethodName × ByteArray × Nat × Option FieldType)) (cal : Nat → List ex_V → ex_H → Nat → Nat → (Option ex_V → ex_H → Nat → Nat → Bool) → Bool) : Prop :=
  ∀ (mi : Nat) (as : List ex_V) (hp : ex_H) (ce sl : Nat) (k : Option ex_V → ex_H → Nat → Nat → Bool), cal mi as hp ce sl k = true →
    ∃ (y : MethodName) (bytes : ByteArray) (nl : Nat) (ret : Option FieldType) (mc sc d : Nat), inf[mi]? = some (y, bytes, nl, ret) ∧ (d + 1 ≤ R.frames ∧ 8 + (nl + 11) + 64 * d ≤ R.locals) ∧ (ce + mc ≤ R.cells ∧ sl + sc ≤ R.slots) ∧
      ∀ (avs : List Value) (ws : va_W), er_St (er_r ν sa ws) as avs → Met l y (em_ws y bytes nl ret) (em_rm d mc sc) (em_P ν D τ sa ro A avs hp ws) (em_Q ν D τ sa ro A ws (fun v hp => k v hp (ce + mc) (sl + sc))) mc sc A
/-- what the machine does at a return -/
def em_ret (p : Program) (l : Launch) (e : Env) (R : Room) (s : State) (m : MethodId) (args : Array Value) (below : List Frame) (meth : Method) (c : Code) (Q : State → Prop) (ν : Nat → Int32) (D : va_G) (τ : Nat → ClassId) (sa : List Nat) (ro : List ex_C) (A : Nat → Prop) (ws0 : va_W) (bytes : ByteArray) (lim : Nat × Nat) (ret : Option FieldType) (K : Option ex_V → ex_H → Bool) : Prop :=
  ∀ (ov : Option ex_V) (hp : ex_H) (ws : va_W) (H : Heap) (locs : List Loc) (ls : Array Slot) (pc : Nat) (rv : Option Value), K ov hp = true → em_r (er_r ν sa ws) ov rv → er_W ν D τ sa ro A hp ws H → va_S A s.heap H locs → (∃ ex, ws.map Prod.fst = ws0.map Prod.fst ++ ex) →
    ((rv = none ∧ ret = none ∧ decode bytes pc = .ok (.return_, 1)) ∨ (∃ x : Int32, rv = some (.int x) ∧ decode bytes pc = .ok (.ireturn, 1) ∧ (ret = some .int ∨ (ret = some .boolean ∧ (x = 0 ∨ x = 1)))) ∨ (∃ x : Int64, rv = some (.long x) ∧ decode bytes pc = .ok (.lreturn, 1) ∧ ret = some .long)) →
    W p l e R s m args below meth c H locs lim.1 lim.2 Q (F0 m pc ls rv.toList)

section ES
variable {p : Program} {l : Launch} {e : Env} {R : Room} {s : State} {m : MethodId} {args : Array Value} {below : List Frame} {meth : Method} {c : Code} {Q : State → Prop} {ν : Nat → Int32} {D : va_G} {τ : Nat → ClassId} {sa : List Nat} {ro : List ex_C} {A : Nat → Prop} {ws0 : va_W} {bytes : ByteArray} {nL : Nat} {own : String}
variable {cls : List (List ex_V)} {vt : List (List (Nat × Nat))} {lim : Nat × Nat} {ret : Option FieldType} {go : Nat → List (Option ex_V) → List ex_V → ex_H → Nat → Nat → Bool} {cal : Nat → List ex_V → ex_H → Nat → Nat → (Option ex_V → ex_H → Nat → Nat → Bool) → Bool} {nat : Bool} {K : Option ex_V → ex_H → Bool} {pc a b : Nat} {z : Int} {ls : List (Option ex_V)} {st : List ex_V} {hp : ex_H} {ce sl : Nat}

theorem es_invokestatic (B : eb_B p s m args c bytes nL own D τ sa ro A) (hgo : ∀ pc ls st hp ce sl, go pc ls st hp ce sl = true → ew_G p l e R s m args below meth c Q ν D τ sa ro A ws0 nL pc ls st hp ce sl) {inf : List (MethodName × ByteArray × Nat × Option FieldType)} {i : Nat} (hz : ¬ z = 1) (hcal : em_cal l R ν D τ sa ro A inf cal) {y : MethodName} {by' : ByteArray} {nl : Nat} {rt : Option FieldType} (hinf : inf[a]? = some (y, by', nl, rt)) (hcs : ec_callS own i y by' nl rt b) (hd : decode bytes pc = .ok (.invokestatic i, 3)) (h : ex_step cls vt lim ret go cal nat K pc (.invokestatic i) a b z ls st hp ce sl = true) : ew_G p l e R s m args below meth c Q ν D τ sa ro A ws0 nL pc ls st hp ce sl := by
  intro H locs lsA stA ws hL hT hP hS hw
  obtain ⟨hx, hb, hml, hown, hts, hE⟩ := id B
  have hz' : ¬ ex_eq z 1 = true := fun q => hz ((ex_eq_iff _ _).mp q)
  change (if ex_eq z 1 = true then _ else ex_take b st [] _) = true at h
  rw [if_neg hz'] at h
  obtain ⟨as0, r, hlen, rfl, h0⟩ := ex_take_ok _ _ _ _ h
  clear h
  have h := h0
  by_cases hc : Nat.ble (ex_cats r) 8 = true
  · rw [if_pos hc] at h
    have hcat := Nat.le_of_ble_eq_true hc
    obtain ⟨us, us2, rfl, hl, hU, hUr⟩ := hT.app
    obtain ⟨y2, b2, nl2, r2, mc, sc, d, e1, e2, e3, e4⟩ := hcal _ _ _ _ _ _ h
    rw [hinf] at e1
    cases e1
    have hM := e4 us.reverse ws (by rw [List.append_nil]; exact hU.rev)
    have hsum : (us2.map fun v => v.category).sum ≤ 8 := by rw [hUr.cats]; exact hcat
    have hsz : lsA.size = nL := by obtain ⟨-, lv, hv, -⟩ := hL; exact hv.1
    refine em_go (hcs p l e R s m args below meth c H locs ce sl mc sc bytes nL (em_rm d mc sc) _ _ A us.reverse us2 (F0 m pc lsA (us ++ us2)) ⟨hx, hb, hml, hown, hts⟩ hE.2.2.2.2.1 hM rfl rfl e2 ⟨em_blind, fun U hU' hW => ⟨rfl, hE.moved hW hS hU', by rw [hU']; exact hP⟩⟩ rfl (by rw [List.length_reverse, hl, hlen]) hsz (by rw [List.reverse_reverse]) (lv_room hsum) hd e3) hS (fun ov hp' ws' rv H1 locs1 hK hrv hW1 hpre hS1 => ?_)
    have hm : er_ext (er_r ν sa ws) (er_r ν sa ws') := er_r.more hpre
    have hw' : ∃ ex, ws'.map Prod.fst = ws0.map Prod.fst ++ ex := by
      obtain ⟨x1, e1⟩ := hw
      obtain ⟨x2, e2⟩ := hpre
      exact ⟨x1 ++ x2, by rw [e2, e1, List.append_assoc]⟩
    match ov, rv, hrv, hK with
    | none, none, _, hK =>
      replace hK : ex_n (pc + 3) (fun pc => go pc ls r hp' (ce + mc) (sl + sc)) = true := hK
      rw [ex_n_eq] at hK
      exact hgo _ _ _ _ _ _ hK H1 locs1 lsA _ ws' (hL.more hm) (hUr.more hm) hW1 hS1 hw'
    | some a', some v', hrv, hK =>
      replace hK : ex_n (pc + 3) (fun pc => go pc ls (a' :: r) hp' (ce + mc) (sl + sc)) = true := hK
      rw [ex_n_eq] at hK
      exact hgo _ _ _ _ _ _ hK H1 locs1 lsA _ ws' (hL.more hm) ⟨hrv, hUr.more hm⟩ hW1 hS1 hw'
    | none, some v', hrv, _ => exact hrv.elim
    | some a', none, hrv, _ => exact hrv.elim
  · rw [if_neg hc] at h; exact absurd h Bool.false_ne_true
theorem es_invokevirtual (B : eb_B p s m args c bytes nL own D τ sa ro A) (hgo : ∀ pc ls st hp ce sl, go pc ls st hp ce sl = true → ew_G p l e R s m args below meth c Q ν D τ sa ro A ws0 nL pc ls st hp ce sl) {inf : List (MethodName × ByteArray × Nat × Option FieldType)} {i : Nat} (hcal : em_cal l R ν D τ sa ro A inf cal) (hcs : ∀ vs, vt[a]? = some vs → ∀ q ∈ vs, ∃ (y : MethodName) (by' : ByteArray) (nl : Nat) (rt : Option FieldType) (r : vw_C), inf[q.2]? = some (y, by', nl, rt) ∧ ec_cl[q.1]? = some r ∧ ec_callV own i r.1 y by' nl rt b) (hd : decode bytes pc = .ok (.invokevirtual i, 3)) (h : ex_step cls vt lim ret go cal nat K pc (.invokevirtual i) a b z ls st hp ce sl = true) : ew_G p l e R s m args below meth c Q ν D τ sa ro A ws0 nL pc ls st hp ce sl := by
  intro H locs lsA stA ws hL hT hP hS hw
  obtain ⟨hx, hb, hml, hown, hts, hE⟩ := id B
  replace h : ex_take b st [] (fun as r => match r with
      | v :: r => if Nat.ble (ex_cats r) 8 then ex_ref v (fun q => ex_hget hp q (fun o => match o with | (t, ci, _) => if Nat.beq t 3 then ex_get vt a (fun vs => ex_vt vs ci (fun mi => cal mi (v :: as) hp ce sl (fun v hp ce sl => match v with | some v => ex_n (pc + 3) (fun pc => go pc ls (v :: r) hp ce sl) | none => ex_n (pc + 3) (fun pc => go pc ls r hp ce sl)))) else false)) else false
      | _ => false) = true := h
  obtain ⟨as0, r0, hlen, rfl, h0⟩ := ex_take_ok _ _ _ _ h
  clear h
  have h := h0
  clear h0
  match r0, h, hT with
  | [], h, _ => exact absurd h Bool.false_ne_true
  | v :: r, h, hT =>
    replace h : (if Nat.ble (ex_cats r) 8 then ex_ref v (fun q => ex_hget hp q (fun o => match o with | (t, ci, _) => if Nat.beq t 3 then ex_get vt a (fun vs => ex_vt vs ci (fun mi => cal mi (v :: (as0.reverse ++ [])) hp ce sl (fun v hp ce sl => match v with | some v => ex_n (pc + 3) (fun pc => go pc ls (v :: r) hp ce sl) | none => ex_n (pc + 3) (fun pc => go pc ls r hp ce sl)))) else false)) else false) = true := h
    by_cases hc : Nat.ble (ex_cats r) 8 = true
    · rw [if_pos hc] at h
      have hcat := Nat.le_of_ble_eq_true hc
      obtain ⟨us, us1, rfl, hl, hU, hU1⟩ := hT.app
      obtain ⟨vv, us2, rfl, hvv, hUr⟩ := hU1.cons
      obtain ⟨n1, q1, e0, en, rfl, h⟩ := ex_ref_ok h hvv
      obtain ⟨⟨t, ci, n, p', fs⟩, hc1, h⟩ := ex_hget_ok h
      replace h : (if Nat.beq t 3 then ex_get vt a (fun vs => ex_vt vs ci (fun mi => cal mi (v :: (as0.reverse ++ [])) hp ce sl (fun v hp ce sl => match v with | some v => ex_n (pc + 3) (fun pc => go pc ls (v :: r) hp ce sl) | none => ex_n (pc + 3) (fun pc => go pc ls r hp ce sl)))) else false) = true := h
      by_cases ht : Nat.beq t 3 = true
      · rw [if_pos ht] at h
        have h9 := h
        obtain rfl := Nat.eq_of_beq_eq_true ht
        obtain ⟨vs, hvs, h10⟩ := ex_get_ok _ _ _ h9
        obtain ⟨q, hq, hqc, h11⟩ := ex_vt_ok _ _ _ h10
        obtain ⟨y, by', nl, rt, rc, i1, i2, i3⟩ := hcs vs hvs q hq
        rw [hqc] at i2
        obtain ⟨y2, b2, nl2, r2, mc, sc, d, e1, e2, e3, e4⟩ := hcal _ _ _ _ _ _ h11
        rw [i1] at e1
        cases e1
        have hM := e4 (.ref q1 :: us.reverse) ws ⟨hvv, by rw [List.append_nil]; exact hU.rev⟩
        have hsum : (us2.map fun v => v.category).sum ≤ 8 := by rw [hUr.cats]; exact hcat
        have hsz : lsA.size = nL := by obtain ⟨-, lv, hv, -⟩ := hL; exact hv.1
        rcases hP.at hE en hc1 with ⟨-, hz, -⟩ | ⟨h5, ee, g1, g2⟩
        · cases hz
        · rcases g2 with ⟨hz, -⟩ | ⟨hz, -⟩ | ⟨hz, -⟩ | ⟨-, gs, rfl, g3, g4⟩
          · cases hz
          · cases hz
          · cases hz
          · refine em_go (i3 p l e R s m args below meth c H locs ce sl mc sc bytes nL (em_rm d mc sc) _ _ A q1 us.reverse us2 (F0 m pc lsA (us ++ .ref q1 :: us2)) ⟨hx, hb, hml, hown, hts⟩ hE.2.2.2.2.1 hM rfl rfl e2 ⟨em_blind, va_recv hE.1 hP.1 i2 g1, fun U hU' hW => ⟨rfl, hE.moved hW hS hU', by rw [hU']; exact hP⟩⟩ rfl (by rw [List.length_reverse, hl, hlen]) hsz (by rw [List.reverse_reverse]) (lv_room hsum) hd e3) hS (fun ov hp' ws' rv H1 locs1 hK hrv hW1 hpre hS1 => ?_)
            have hm : er_ext (er_r ν sa ws) (er_r ν sa ws') := er_r.more hpre
            have hw' : ∃ ex, ws'.map Prod.fst = ws0.map Prod.fst ++ ex := by
              obtain ⟨x1, e1⟩ := hw
              obtain ⟨x2, e2⟩ := hpre
              exact ⟨x1 ++ x2, by rw [e2, e1, List.append_assoc]⟩
            match ov, rv, hrv, hK with
            | none, none, _, hK =>
              replace hK : ex_n (pc + 3) (fun pc => go pc ls r hp' (ce + mc) (sl + sc)) = true := hK
              rw [ex_n_eq] at hK
              exact hgo _ _ _ _ _ _ hK H1 locs1 lsA _ ws' (hL.more hm) (hUr.more hm) hW1 hS1 hw'
            | some a', some v', hrv, hK =>
              replace hK : ex_n (pc + 3) (fun pc => go pc ls (a' :: r) hp' (ce + mc) (sl + sc)) = true := hK
              rw [ex_n_eq] at hK
              exact hgo _ _ _ _ _ _ hK H1 locs1 lsA _ ws' (hL.more hm) ⟨hrv, hUr.more hm⟩ hW1 hS1 hw'
            | none, some v', hrv, _ => exact hrv.elim
            | some a', none, hrv, _ => exact hrv.elim
      · rw [if_neg ht] at h; exact absurd h Bool.false_ne_true
    · rw [if_neg hc] at h; exact absurd h Bool.false_ne_true
theorem es_invokespecial (B : eb_B p s m args c bytes nL own D τ sa ro A) (hgo : ∀ pc ls st hp ce sl, go pc ls st hp ce sl = true → ew_G p l e R s m args below meth c Q ν D τ sa ro A ws0 nL pc ls st hp ce sl) {inf : List (MethodName × ByteArray × Nat × Option FieldType)} {i : Nat} (hz : ¬ z = 1) (hcal : em_cal l R ν D τ sa ro A inf cal) {y : MethodName} {by' : ByteArray} {nl : Nat} {rt : Option FieldType} (hinf : inf[a]? = some (y, by', nl, rt)) (hcs : ec_callI own i y by' nl rt b) (hd : decode bytes pc = .ok (.invokespecial i, 3)) (h : ex_step cls vt lim ret go cal nat K pc (.invokespecial i) a b z ls st hp ce sl = true) : ew_G p l e R s m args below meth c Q ν D τ sa ro A ws0 nL pc ls st hp ce sl := by
  intro H locs lsA stA ws hL hT hP hS hw
  obtain ⟨hx, hb, hml, hown, hts, hE⟩ := id B
  have hz' : ¬ ex_eq z 1 = true := fun q => hz ((ex_eq_iff _ _).mp q)
  change (if ex_eq z 1 = true then _ else ex_take b st [] _) = true at h
  rw [if_neg hz'] at h
  obtain ⟨as0, r0, hlen, rfl, h0⟩ := ex_take_ok _ _ _ _ h
  clear h
  have h := h0
  clear h0
  match r0, h, hT with
  | [], h, _ => exact absurd h Bool.false_ne_true
  | v :: r, h, hT =>
    replace h : (if Nat.ble (ex_cats r) 8 then ex_ref v (fun q => ex_hget hp q (fun o => match o with | (t, _) => if Nat.beq t 3 then cal a (v :: (as0.reverse ++ [])) hp ce sl (fun v hp ce sl => match v with | some v => ex_n (pc + 3) (fun pc => go pc ls (v :: r) hp ce sl) | none => ex_n (pc + 3) (fun pc => go pc ls r hp ce sl)) else false)) else false) = true := h
    by_cases hc : Nat.ble (ex_cats r) 8 = true
    · rw [if_pos hc] at h
      have hcat := Nat.le_of_ble_eq_true hc
      obtain ⟨us, us1, rfl, hl, hU, hU1⟩ := hT.app
      obtain ⟨vv, us2, rfl, hvv, hUr⟩ := hU1.cons
      obtain ⟨n1, q1, e0, en, rfl, h⟩ := ex_ref_ok h hvv
      obtain ⟨⟨t, ci, n, p', fs⟩, hc1, h⟩ := ex_hget_ok h
      replace h : (if Nat.beq t 3 then cal a (v :: (as0.reverse ++ [])) hp ce sl (fun v hp ce sl => match v with | some v => ex_n (pc + 3) (fun pc => go pc ls (v :: r) hp ce sl) | none => ex_n (pc + 3) (fun pc => go pc ls r hp ce sl)) else false) = true := h
      by_cases ht : Nat.beq t 3 = true
      · rw [if_pos ht] at h
        have h9 := h
        obtain rfl := Nat.eq_of_beq_eq_true ht
        obtain ⟨y2, b2, nl2, r2, mc, sc, d, e1, e2, e3, e4⟩ := hcal _ _ _ _ _ _ h9
        rw [hinf] at e1
        cases e1
        have hM := e4 (.ref q1 :: us.reverse) ws ⟨hvv, by rw [List.append_nil]; exact hU.rev⟩
        have hsum : (us2.map fun v => v.category).sum ≤ 8 := by rw [hUr.cats]; exact hcat
        have hsz : lsA.size = nL := by obtain ⟨-, lv, hv, -⟩ := hL; exact hv.1
        rcases hP.at hE en hc1 with ⟨-, hz, -⟩ | ⟨h5, ee, g1, g2⟩
        · cases hz
        · rcases g2 with ⟨hz, -⟩ | ⟨hz, -⟩ | ⟨hz, -⟩ | ⟨-, gs, rfl, g3, g4⟩
          · cases hz
          · cases hz
          · cases hz
          · obtain ⟨rc, i2, -⟩ := hP.1 (n1 - 5) _ g1
            refine em_go (hcs p l e R s m args below meth c H locs ce sl mc sc bytes nL (em_rm d mc sc) _ _ A q1 us.reverse us2 (F0 m pc lsA (us ++ .ref q1 :: us2)) rc.1 _ (hE.1.1 _ _ i2).2 ⟨hx, hb, hml, hown, hts⟩ hE.2.2.2.2.1 hM rfl rfl e2 ⟨em_blind, va_recv hE.1 hP.1 i2 g1, fun U hU' hW => ⟨rfl, hE.moved hW hS hU', by rw [hU']; exact hP⟩⟩ rfl (by rw [List.length_reverse, hl, hlen]) hsz (by rw [List.reverse_reverse]) (lv_room hsum) hd e3) hS (fun ov hp' ws' rv H1 locs1 hK hrv hW1 hpre hS1 => ?_)
            have hm : er_ext (er_r ν sa ws) (er_r ν sa ws') := er_r.more hpre
            have hw' : ∃ ex, ws'.map Prod.fst = ws0.map Prod.fst ++ ex := by
              obtain ⟨x1, e1⟩ := hw
              obtain ⟨x2, e2⟩ := hpre
              exact ⟨x1 ++ x2, by rw [e2, e1, List.append_assoc]⟩
            match ov, rv, hrv, hK with
            | none, none, _, hK =>
              replace hK : ex_n (pc + 3) (fun pc => go pc ls r hp' (ce + mc) (sl + sc)) = true := hK
              rw [ex_n_eq] at hK
              exact hgo _ _ _ _ _ _ hK H1 locs1 lsA _ ws' (hL.more hm) (hUr.more hm) hW1 hS1 hw'
            | some a', some v', hrv, hK =>
              replace hK : ex_n (pc + 3) (fun pc => go pc ls (a' :: r) hp' (ce + mc) (sl + sc)) = true := hK
              rw [ex_n_eq] at hK
              exact hgo _ _ _ _ _ _ hK H1 locs1 lsA _ ws' (hL.more hm) ⟨hrv, hUr.more hm⟩ hW1 hS1 hw'
            | none, some v', hrv, _ => exact hrv.elim
            | some a', none, hrv, _ => exact hrv.elim
      · rw [if_neg ht] at h; exact absurd h Bool.false_ne_true
    · rw [if_neg hc] at h; exact absurd h Bool.false_ne_true
theorem es_objInit (B : eb_B p s m args c bytes nL own D τ sa ro A) (hgo : ∀ pc ls st hp ce sl, go pc ls st hp ce sl = true → ew_G p l e R s m args below meth c Q ν D τ sa ro A ws0 nL pc ls st hp ce sl) {i : Nat} (hz : z = 1) (hli : Jvm.Cond.methodLink own i Lib.objectInit ∈ eg_T) (hin : Jvm.Cond.instanceMethod Lib.objectInit ∈ eg_T) (hco : Jvm.Cond.code Lib.objectInit ⟨#[0xb1]⟩ 1 none ∈ eg_T) (hroom : nat = true → 1 ≤ R.frames ∧ 20 ≤ R.locals) (hd : decode bytes pc = .ok (.invokespecial i, 3)) (h : ex_step cls vt lim ret go cal nat K pc (.invokespecial i) a b z ls st hp ce sl = true) : ew_G p l e R s m args below meth c Q ν D τ sa ro A ws0 nL pc ls st hp ce sl := by
  intro H locs lsA stA ws hL hT hP hS hw
  obtain ⟨hx, hb, hml, hown, hts, hE⟩ := id B
  subst hz
  match st, h, hT with
  | [], h, _ => exact absurd h Bool.false_ne_true
  | x :: r, h, hT =>
    have h : (if nat && Nat.ble (ex_cats r) 8 then ex_ref x (fun _ => ex_n (pc + 3) (fun pc => go pc ls (r) hp ce sl)) else false) = true := h
    obtain ⟨vx, s2, rfl, hxv, hU⟩ := hT.cons
    by_cases hc : (nat && Nat.ble (ex_cats r) 8) = true
    · rw [if_pos hc] at h
      rw [Bool.and_eq_true] at hc
      obtain ⟨r1, r2⟩ := hroom hc.1
      have hcat := Nat.le_of_ble_eq_true hc.2
      obtain ⟨n1, q1, -, e2, rfl, hk⟩ := ex_ref_ok h hxv
      rw [ex_n_eq] at hk
      have hsum : (s2.map fun v => v.category).sum ≤ 8 := by rw [hU.cats]; exact hcat
      have hsz : lsA.size = nL := by obtain ⟨-, lv, hv, -⟩ := hL; exact hv.1
      have hrm := lv_room (m := m) (pc := pc) (ls := lsA) (rest := .ref q1 :: s2) hsum
      exact W.objInit hx hb hown (hts _ hli) (hts _ hin) (hts _ hco) rfl (hsz.trans hml.symm) rfl hd r1 (by omega) (hgo _ _ _ _ _ _ hk H locs lsA _ ws hL hU hP hS hw)
    · rw [if_neg hc] at h; exact absurd h Bool.false_ne_true
theorem ex_if {c X : Bool} (h : (if c then X else false) = true) : c = true ∧ X = true := by
  cases c
  · exact absurd h Bool.false_ne_true
  · exact ⟨rfl, h⟩
theorem es_return (B : eb_B p s m args c bytes nL own D τ sa ro A) (hgo : ∀ pc ls st hp ce sl, go pc ls st hp ce sl = true → ew_G p l e R s m args below meth c Q ν D τ sa ro A ws0 nL pc ls st hp ce sl) (hret : em_ret p l e R s m args below meth c Q ν D τ sa ro A ws0 bytes lim ret K) (hd : decode bytes pc = .ok (.return_, 1)) (h : ex_step cls vt lim ret go cal nat K pc (.return_) a b z ls st hp ce sl = true) : ew_G p l e R s m args below meth c Q ν D τ sa ro A ws0 nL pc ls st hp ce sl := by
  intro H locs lsA stA ws hL hT hP hS hw
  obtain ⟨hx, hb, hml, hown, hts, hE⟩ := id B
  cases ret with
  | some t => exact absurd h Bool.false_ne_true
  | none =>
    match st, h, hT with
    | _ :: _, h, _ => exact absurd (ex_if (X := false) h).2 Bool.false_ne_true
    | [], h, hT =>
      obtain ⟨hc, hk⟩ := ex_if (c := Nat.beq ce lim.1 && Nat.beq sl lim.2) (X := K none hp) h
      rw [Bool.and_eq_true] at hc
      rw [Nat.eq_of_beq_eq_true hc.1, Nat.eq_of_beq_eq_true hc.2, hT.nil]
      exact hret none hp ws H locs lsA pc none hk trivial hP hS hw (Or.inl ⟨rfl, rfl, hd⟩)
theorem es_ireturn (B : eb_B p s m args c bytes nL own D τ sa ro A) (hgo : ∀ pc ls st hp ce sl, go pc ls st hp ce sl = true → ew_G p l e R s m args below meth c Q ν D τ sa ro A ws0 nL pc ls st hp ce sl) (hret : em_ret p l e R s m args below meth c Q ν D τ sa ro A ws0 bytes lim ret K) (hd : decode bytes pc = .ok (.ireturn, 1)) (h : ex_step cls vt lim ret go cal nat K pc (.ireturn) a b z ls st hp ce sl = true) : ew_G p l e R s m args below meth c Q ν D τ sa ro A ws0 nL pc ls st hp ce sl := by
  intro H locs lsA stA ws hL hT hP hS hw
  obtain ⟨hx, hb, hml, hown, hts, hE⟩ := id B
  match st, h, hT with
  | [], h, _ => exact absurd h Bool.false_ne_true
  | _ :: _ :: _, h, _ => exact absurd h Bool.false_ne_true
  | [v], h, hT =>
    obtain ⟨vx, s2, rfl, hxv, hU⟩ := hT.cons
    rw [hU.nil]
    cases ret with
    | none => exact absurd (ex_if (c := Nat.beq ce lim.1 && Nat.beq sl lim.2) (X := false) h).2 Bool.false_ne_true
    | some t =>
      cases t with
      | int =>
        obtain ⟨hc, h⟩ := ex_if (c := Nat.beq ce lim.1 && Nat.beq sl lim.2) (X := ex_i v (fun _ _ => K (some v) hp)) h
        rw [Bool.and_eq_true] at hc
        rw [Nat.eq_of_beq_eq_true hc.1, Nat.eq_of_beq_eq_true hc.2]
        obtain ⟨x', -, -, rfl, -, -, hk⟩ := ex_i_ok h hxv
        exact hret (some v) hp ws H locs lsA pc (some (.int x')) hk hxv hP hS hw (Or.inr (Or.inl ⟨x', rfl, hd, Or.inl rfl⟩))
      | boolean =>
        obtain ⟨hc, h⟩ := ex_if (c := Nat.beq ce lim.1 && Nat.beq sl lim.2) (X := if ex_may01 v then K (some v) hp else false) h
        rw [Bool.and_eq_true] at hc
        rw [Nat.eq_of_beq_eq_true hc.1, Nat.eq_of_beq_eq_true hc.2]
        obtain ⟨h01, hk⟩ := ex_if h
        rcases ex_may01_ok h01 hxv with rfl | rfl
        · exact hret (some v) hp ws H locs lsA pc (some (.int 0)) hk hxv hP hS hw (Or.inr (Or.inl ⟨0, rfl, hd, Or.inr ⟨rfl, Or.inl rfl⟩⟩))
        · exact hret (some v) hp ws H locs lsA pc (some (.int 1)) hk hxv hP hS hw (Or.inr (Or.inl ⟨1, rfl, hd, Or.inr ⟨rfl, Or.inr rfl⟩⟩))
      | long => exact absurd (ex_if (c := Nat.beq ce lim.1 && Nat.beq sl lim.2) (X := false) h).2 Bool.false_ne_true
      | byte => exact absurd (ex_if (c := Nat.beq ce lim.1 && Nat.beq sl lim.2) (X := false) h).2 Bool.false_ne_true
      | char => exact absurd (ex_if (c := Nat.beq ce lim.1 && Nat.beq sl lim.2) (X := false) h).2 Bool.false_ne_true
      | double => exact absurd (ex_if (c := Nat.beq ce lim.1 && Nat.beq sl lim.2) (X := false) h).2 Bool.false_ne_true
      | float => exact absurd (ex_if (c := Nat.beq ce lim.1 && Nat.beq sl lim.2) (X := false) h).2 Bool.false_ne_true
      | short => exact absurd (ex_if (c := Nat.beq ce lim.1 && Nat.beq sl lim.2) (X := false) h).2 Bool.false_ne_true
      | object C => exact absurd (ex_if (c := Nat.beq ce lim.1 && Nat.beq sl lim.2) (X := false) h).2 Bool.false_ne_true
      | array t => exact absurd (ex_if (c := Nat.beq ce lim.1 && Nat.beq sl lim.2) (X := false) h).2 Bool.false_ne_true
theorem es_lreturn (B : eb_B p s m args c bytes nL own D τ sa ro A) (hgo : ∀ pc ls st hp ce sl, go pc ls st hp ce sl = true → ew_G p l e R s m args below meth c Q ν D τ sa ro A ws0 nL pc ls st hp ce sl) (hret : em_ret p l e R s m args below meth c Q ν D τ sa ro A ws0 bytes lim ret K) (hd : decode bytes pc = .ok (.lreturn, 1)) (h : ex_step cls vt lim ret go cal nat K pc (.lreturn) a b z ls st hp ce sl = true) : ew_G p l e R s m args below meth c Q ν D τ sa ro A ws0 nL pc ls st hp ce sl := by
  intro H locs lsA stA ws hL hT hP hS hw
  obtain ⟨hx, hb, hml, hown, hts, hE⟩ := id B
  match st, h, hT with
  | [], h, _ => exact absurd h Bool.false_ne_true
  | _ :: _ :: _, h, _ => exact absurd h Bool.false_ne_true
  | [v], h, hT =>
    obtain ⟨vx, s2, rfl, hxv, hU⟩ := hT.cons
    rw [hU.nil]
    cases ret with
    | none => exact absurd (ex_if (c := Nat.beq ce lim.1 && Nat.beq sl lim.2) (X := false) h).2 Bool.false_ne_true
    | some t =>
      cases t with
      | int => exact absurd (ex_if (c := Nat.beq ce lim.1 && Nat.beq sl lim.2) (X := false) h).2 Bool.false_ne_true
      | boolean => exact absurd (ex_if (c := Nat.beq ce lim.1 && Nat.beq sl lim.2) (X := false) h).2 Bool.false_ne_true
      | long =>
        obtain ⟨hc, h⟩ := ex_if (c := Nat.beq ce lim.1 && Nat.beq sl lim.2) (X := ex_l v (fun _ _ => K (some v) hp)) h
        rw [Bool.and_eq_true] at hc
        rw [Nat.eq_of_beq_eq_true hc.1, Nat.eq_of_beq_eq_true hc.2]
        obtain ⟨x', -, -, rfl, -, -, hk⟩ := ex_l_ok h hxv
        exact hret (some v) hp ws H locs lsA pc (some (.long x')) hk hxv hP hS hw (Or.inr (Or.inr ⟨x', rfl, hd, rfl⟩))
      | byte => exact absurd (ex_if (c := Nat.beq ce lim.1 && Nat.beq sl lim.2) (X := false) h).2 Bool.false_ne_true
      | char => exact absurd (ex_if (c := Nat.beq ce lim.1 && Nat.beq sl lim.2) (X := false) h).2 Bool.false_ne_true
      | double => exact absurd (ex_if (c := Nat.beq ce lim.1 && Nat.beq sl lim.2) (X := false) h).2 Bool.false_ne_true
      | float => exact absurd (ex_if (c := Nat.beq ce lim.1 && Nat.beq sl lim.2) (X := false) h).2 Bool.false_ne_true
      | short => exact absurd (ex_if (c := Nat.beq ce lim.1 && Nat.beq sl lim.2) (X := false) h).2 Bool.false_ne_true
      | object C => exact absurd (ex_if (c := Nat.beq ce lim.1 && Nat.beq sl lim.2) (X := false) h).2 Bool.false_ne_true
      | array t => exact absurd (ex_if (c := Nat.beq ce lim.1 && Nat.beq sl lim.2) (X := false) h).2 Bool.false_ne_true
end ES
