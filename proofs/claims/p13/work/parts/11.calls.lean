/-! A method's contract out of a run; what goes on behind a call. -/
/-- a method's start -/
def em_P (ν : Nat → Int32) (D : va_G) (τ : Nat → ClassId) (sa : List Nat) (ro : List ex_C) (A : Nat → Prop) (avs : List Value) (hp : ex_H) (ws : va_W) : Array Value → State → Prop := fun v U => v = avs.toArray ∧ er_E D τ sa ro A U ∧ er_W ν D τ sa ro A hp ws U.heap
/-- its answer, if there is one -/
def em_r (ρ : ex_R) (ov : Option ex_V) (rv : Option Value) : Prop := match ov, rv with
  | none, none => True
  | some a, some v => er_V ρ a v
  | _, _ => False
/-- its end: what K took -/
def em_Q (ν : Nat → Int32) (D : va_G) (τ : Nat → ClassId) (sa : List Nat) (ro : List ex_C) (A : Nat → Prop) (ws : va_W) (K : Option ex_V → ex_H → Bool) : Array Value → State → Outcome → State → Prop := fun _ st oc t =>
  (∃ (ov : Option ex_V) (hp' : ex_H) (ws' : va_W) (rv : Option Value), oc = .returned rv ∧ K ov hp' = true ∧ em_r (er_r ν sa ws') ov rv ∧ er_W ν D τ sa ro A hp' ws' t.heap ∧ ∃ ex, ws'.map Prod.fst = ws.map Prod.fst ++ ex) ∧ va_F A st t
/-- its end, as one picture -/
def em_Q1 (ν : Nat → Int32) (D : va_G) (τ : Nat → ClassId) (sa : List Nat) (ro : List ex_C) (A : Nat → Prop) (ws : va_W) (ov : Option ex_V) (hp' : ex_H) : Array Value → State → Outcome → State → Prop := fun _ st oc t =>
  (∃ (ws' : va_W) (rv : Option Value), oc = .returned rv ∧ em_r (er_r ν sa ws') ov rv ∧ er_W ν D τ sa ro A hp' ws' t.heap ∧ ∃ ex, ws'.map Prod.fst = ws.map Prod.fst ++ ex) ∧ va_F A st t
theorem em_weak {l : Launch} {y : MethodName} {ws : List Cond} {rm : Room} {Pc : Array Value → State → Prop} {Qc Qc' : Array Value → State → Outcome → State → Prop} {mc ms : Nat} {free : Addr → Prop} (h : Met l y ws rm Pc Qc mc ms free) (hq : ∀ a st o t, Qc a st o t → Qc' a st o t) : Met l y ws rm Pc Qc' mc ms free := by
  intro p e ha hc hk s m args below hf happ hP hK
  obtain ⟨n, o, h1, h2, h3, h4⟩ := h p e ha hc hk s m args below hf happ hP hK
  exact ⟨n, o, h1, h2, h3, hq _ _ _ _ h4.1, h4.2⟩
def em_rm (d mc sc : Nat) : Room := { frames := d, cells := mc, slots := sc, locals := 64 * d }
theorem em_blind {ν : Nat → Int32} {D : va_G} {τ : Nat → ClassId} {sa : List Nat} {ro : List ex_C} {A : Nat → Prop} {avs : List Value} {hp : ex_H} {ws : va_W} : FrameBlind (em_P ν D τ sa ro A avs hp ws) := fun a U g mk h => ⟨h.1, h.2.1.blind, h.2.2⟩
/-- what goes on behind a call -/
theorem em_go {p : Program} {l : Launch} {e : Env} {R : Room} {s : State} {m : MethodId} {args : Array Value} {below : List Frame} {meth : Method} {c : Code} {H : Heap} {locs : List Loc} {cells slots mc ms pc : Nat} {Q : State → Prop} {ν : Nat → Int32} {D : va_G} {τ : Nat → ClassId} {sa : List Nat} {ro : List ex_C} {A : Nat → Prop} {ws : va_W} {K : Option ex_V → ex_H → Bool} {ls : Array Slot} {st0 rest : List Value} {a : Array Value}
    (hr : va_Run p l e R s m args below meth c H locs cells slots mc ms (F0 m pc ls st0) rest (em_Q ν D τ sa ro A ws K a) A) (hS : va_S A s.heap H locs)
    (kk : ∀ (ov : Option ex_V) (hp' : ex_H) (ws' : va_W) (rv : Option Value) (H1 : Heap) (locs1 : List Loc), K ov hp' = true → em_r (er_r ν sa ws') ov rv → er_W ν D τ sa ro A hp' ws' H1 → (∃ ex, ws'.map Prod.fst = ws.map Prod.fst ++ ex) → va_S A s.heap H1 locs1 → W p l e R s m args below meth c H1 locs1 (cells + mc) (slots + ms) Q (F0 m (pc + 3) ls (rv.toList ++ rest))) : W p l e R s m args below meth c H locs cells slots Q (F0 m pc ls st0) := by
  intro T hT X
  obtain ⟨v, st₀, t, T', L, h0, X', hL, e1, e2, ⟨⟨ov, hp', ws', rv, hv, hK, hrv, hW, hpre⟩, hz, hk⟩, st⟩ := hr T hT X
  cases hv
  rw [h0] at hz hk
  obtain ⟨t2, a1, b1⟩ := kk ov hp' ws' v T'.heap (locs ++ L) hK hrv (by rw [e1]; exact hW) hpre
    ⟨Nat.le_trans hS.1 (by rw [e1]; exact hz), fun q h1 h2 => by rw [e1, hk q (Nat.lt_of_lt_of_le h1 hS.1) h2]; exact hS.2.1 q h1 h2, fun q hq => by
      rcases List.mem_append.mp hq with h | h
      · exact hS.2.2 q h
      · exact hL q h⟩ T' rfl X'
  exact ⟨t2, st t2 a1, b1⟩
/-- the locals at a method's entry -/
theorem ex_locs_ok : ∀ (as : List ex_V) (n : Nat) (k : List (Option ex_V) → Bool), ex_locs as n k = true → ∃ q : List (Option ex_V), k q = true ∧ q.length = n ∧ ∀ {ρ : ex_R} {vs : List Value}, er_St ρ as vs → (lg_sl vs).length ≤ n ∧ ∀ (i off : Nat) (a : ex_V), q[i]? = some (some a) → ∃ v, er_V ρ a v ∧ (i + off, v) ∈ lv_args off vs := by
  intro as
  induction as with
  | nil =>
    intro n k h
    have h : ex_rep n none k = true := h
    rw [ex_rep_eq] at h
    refine ⟨_, h, List.length_replicate, fun {ρ vs} hv => ?_⟩
    rw [hv.nil]
    refine ⟨Nat.zero_le _, fun i off a ha => ?_⟩
    rw [List.getElem?_replicate] at ha
    split at ha <;> cases ha
  | cons v as ih =>
    intro n k h
    unfold ex_locs at h
    by_cases hc : Nat.beq (ex_cat v) 1 = true
    · rw [if_pos hc] at h
      have hc1 := Nat.eq_of_beq_eq_true hc
      split at h
      · exact absurd h Bool.false_ne_true
      · rename_i m
        obtain ⟨q, h1, h2, h3⟩ := ih m _ h
        refine ⟨some v :: q, h1, by rw [List.length_cons, h2], fun {ρ vs} hv => ?_⟩
        obtain ⟨w, us, rfl, g1, g2⟩ := hv.cons
        obtain ⟨f1, f2⟩ := h3 g2
        have hw : w.category = 1 := (er_cat g1).trans hc1
        refine ⟨?_, fun i off a ha => ?_⟩
        · have e : lg_sl (w :: us) = [.val w] ++ lg_sl us := by
            simp [lg_sl, hw]
          rw [e, List.length_append]
          simp only [List.length_cons, List.length_nil]
          omega
        · cases i with
          | zero => cases ha; exact ⟨w, g1, by rw [Nat.zero_add]; exact List.mem_cons_self⟩
          | succ i =>
            obtain ⟨v', e1, e2⟩ := f2 i (off + 1) a (by simpa using ha)
            refine ⟨v', e1, ?_⟩
            show _ ∈ (off, w) :: lv_args (if w.category = 2 then off + 2 else off + 1) us
            rw [if_neg (by omega), show i + 1 + off = i + (off + 1) by omega]
            exact List.mem_cons_of_mem _ e2
    · rw [if_neg hc] at h
      have hc2 : ex_cat v = 2 := by
        match v, hc with
        | .inl z, hc => exact absurd rfl hc
        | .inr (.inl z), hc => rfl
        | .inr (.inr (.inl z)), hc => exact absurd rfl hc
        | .inr (.inr (.inr (.inl z))), hc => exact absurd rfl hc
        | .inr (.inr (.inr (.inr (.inl z)))), hc => rfl
        | .inr (.inr (.inr (.inr (.inr z)))), hc => exact absurd rfl hc
      split at h
      · rename_i m
        obtain ⟨q, h1, h2, h3⟩ := ih m _ h
        refine ⟨some v :: none :: q, h1, by rw [List.length_cons, List.length_cons, h2], fun {ρ vs} hv => ?_⟩
        obtain ⟨w, us, rfl, g1, g2⟩ := hv.cons
        obtain ⟨f1, f2⟩ := h3 g2
        have hw : w.category = 2 := (er_cat g1).trans hc2
        refine ⟨?_, fun i off a ha => ?_⟩
        · have e : lg_sl (w :: us) = [.val w, .second] ++ lg_sl us := by
            simp [lg_sl, hw]
          rw [e, List.length_append]
          simp only [List.length_cons, List.length_nil]
          omega
        · match i, ha with
          | 0, ha => cases ha; exact ⟨w, g1, by rw [Nat.zero_add]; exact List.mem_cons_self⟩
          | 1, ha => cases ha
          | i + 2, ha =>
            obtain ⟨v', e1, e2⟩ := f2 i (off + 2) a (by simpa using ha)
            refine ⟨v', e1, ?_⟩
            show _ ∈ (off, w) :: lv_args (if w.category = 2 then off + 2 else off + 1) us
            rw [if_pos hw, show i + 2 + off = i + (off + 2) by omega]
            exact List.mem_cons_of_mem _ e2
      · exact absurd h Bool.false_ne_true
