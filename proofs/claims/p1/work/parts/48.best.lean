/-! The reference's search through all plans: row by row, from the last one back. Printed by wip/p1/gen35.py. -/
theorem ez_tail_ok {a : Nat} : ∀ n : Nat, ez_tail a n = true → ∀ i, i < n → ex_run et_cls et_vt eu_ms (ex_memL ez_L3) (nat_lit 1000000) (nat_lit 12) (ex_cutL [ez_bS (Int.ofNat (a + i + 1))]) eu_178 (0, 0) (some .boolean) [] (nat_lit 306) (ez_bls (some (.inl (Int.ofNat (a + i))))) [] ez_bB 0 0 (ex_K ez_fb.2.2.1 ez_fb.2.2.2.1) = true := by
  intro n
  induction n with
  | zero => intro _ i hi; omega
  | succ n ih =>
    intro h i hi
    replace h : (ex_n (Nat.add a n) (fun r => ex_n (Nat.succ r) (fun r' => ex_run et_cls et_vt eu_ms (ex_memL ez_L3) (nat_lit 1000000) (nat_lit 12) (ex_cutL [ez_bS (Int.ofNat r')]) eu_178 (0, 0) (some .boolean) [] (nat_lit 306) (ez_bls (some (.inl (Int.ofNat r)))) [] ez_bB 0 0 (ex_K ez_fb.2.2.1 ez_fb.2.2.2.1))) && ez_tail a n) = true := h
    rw [Bool.and_eq_true, ex_n_eq, ex_n_eq] at h
    by_cases e : i = n
    · subst e; exact h.1
    · exact ih h.2 i (by omega)
theorem ez_tail_at (r : Nat) (h1 : 1 ≤ r) (h2 : r ≤ 6560) : ex_run et_cls et_vt eu_ms (ex_memL ez_L3) (nat_lit 1000000) (nat_lit 12) (ex_cutL [ez_bS (Int.ofNat (r + 1))]) eu_178 (0, 0) (some .boolean) [] (nat_lit 306) (ez_bls (some (.inl (Int.ofNat r)))) [] ez_bB 0 0 (ex_K ez_fb.2.2.1 ez_fb.2.2.2.1) = true := by
  by_cases c0 : r < 411
  · have h := ez_tail_ok (a := 1) 410 ez_tail0 (r - 1) (by omega)
    rw [show 1 + (r - 1) = r by omega] at h
    exact h
  by_cases c1 : r < 821
  · have h := ez_tail_ok (a := 411) 410 ez_tail1 (r - 411) (by omega)
    rw [show 411 + (r - 411) = r by omega] at h
    exact h
  by_cases c2 : r < 1231
  · have h := ez_tail_ok (a := 821) 410 ez_tail2 (r - 821) (by omega)
    rw [show 821 + (r - 821) = r by omega] at h
    exact h
  by_cases c3 : r < 1641
  · have h := ez_tail_ok (a := 1231) 410 ez_tail3 (r - 1231) (by omega)
    rw [show 1231 + (r - 1231) = r by omega] at h
    exact h
  by_cases c4 : r < 2051
  · have h := ez_tail_ok (a := 1641) 410 ez_tail4 (r - 1641) (by omega)
    rw [show 1641 + (r - 1641) = r by omega] at h
    exact h
  by_cases c5 : r < 2461
  · have h := ez_tail_ok (a := 2051) 410 ez_tail5 (r - 2051) (by omega)
    rw [show 2051 + (r - 2051) = r by omega] at h
    exact h
  by_cases c6 : r < 2871
  · have h := ez_tail_ok (a := 2461) 410 ez_tail6 (r - 2461) (by omega)
    rw [show 2461 + (r - 2461) = r by omega] at h
    exact h
  by_cases c7 : r < 3281
  · have h := ez_tail_ok (a := 2871) 410 ez_tail7 (r - 2871) (by omega)
    rw [show 2871 + (r - 2871) = r by omega] at h
    exact h
  by_cases c8 : r < 3691
  · have h := ez_tail_ok (a := 3281) 410 ez_tail8 (r - 3281) (by omega)
    rw [show 3281 + (r - 3281) = r by omega] at h
    exact h
  by_cases c9 : r < 4101
  · have h := ez_tail_ok (a := 3691) 410 ez_tail9 (r - 3691) (by omega)
    rw [show 3691 + (r - 3691) = r by omega] at h
    exact h
  by_cases c10 : r < 4511
  · have h := ez_tail_ok (a := 4101) 410 ez_tail10 (r - 4101) (by omega)
    rw [show 4101 + (r - 4101) = r by omega] at h
    exact h
  by_cases c11 : r < 4921
  · have h := ez_tail_ok (a := 4511) 410 ez_tail11 (r - 4511) (by omega)
    rw [show 4511 + (r - 4511) = r by omega] at h
    exact h
  by_cases c12 : r < 5331
  · have h := ez_tail_ok (a := 4921) 410 ez_tail12 (r - 4921) (by omega)
    rw [show 4921 + (r - 4921) = r by omega] at h
    exact h
  by_cases c13 : r < 5741
  · have h := ez_tail_ok (a := 5331) 410 ez_tail13 (r - 5331) (by omega)
    rw [show 5331 + (r - 5331) = r by omega] at h
    exact h
  by_cases c14 : r < 6151
  · have h := ez_tail_ok (a := 5741) 410 ez_tail14 (r - 5741) (by omega)
    rw [show 5741 + (r - 5741) = r by omega] at h
    exact h
  have h := ez_tail_ok (a := 6151) 410 ez_tail15 (r - 6151) (by omega)
  rw [show 6151 + (r - 6151) = r by omega] at h
  exact h
theorem ez_bls_ne {o : Option ex_V} {i : Nat} (h : i ≠ 5) : (ez_bls o)[i]? = (ez_bls none)[i]? := by
  match i, h with
  | 0, _ => rfl
  | 1, _ => rfl
  | 2, _ => rfl
  | 3, _ => rfl
  | 4, _ => rfl
  | 5, h => exact absurd rfl h
  | i + 6, _ => rfl
theorem ez_bls_at (o : Option ex_V) : (ez_bls o)[5]? = some o := rfl
theorem ez_bls_len (o : Option ex_V) : (ez_bls o).length = 11 := rfl
theorem er_L.swap {ρ ρ' : ex_R} {nL : Nat} {la lb : List (Option ex_V)} {ls : Array Slot} (hL : er_L ρ nL la ls) (hlen : lb.length = la.length) (h : ∀ (i : Nat) (b : ex_V), lb[i]? = some (some b) → ∃ a, la[i]? = some (some a) ∧ ∀ v, er_V ρ a v → er_V ρ' b v) : er_L ρ' nL lb ls := by
  obtain ⟨g1, lv, g2, g3⟩ := hL
  refine ⟨by rw [hlen]; exact g1, lv, g2, fun i b hb => ?_⟩
  obtain ⟨a, e1, e2⟩ := h i b hb
  obtain ⟨v, e3, e4⟩ := g3 i a e1
  exact ⟨v, e2 v e3, e4⟩
theorem ez_isN_ok {ls : List (Option ex_V)} (h : ez_isN ls = true) : ∃ lo hi : Int, ls[5]? = some (some (.inr (.inr (.inr (.inr (.inr (0, lo, hi))))))) := by
  unfold ez_isN at h
  split at h
  · rename_i j lo hi _
    exact ⟨lo, hi, by rw [Nat.eq_of_beq_eq_true h]; rfl⟩
  · exact absurd h Bool.false_ne_true
theorem em_ret_conv {p : Program} {l : Launch} {e : Env} {R : Room} {s : State} {m : MethodId} {args : Array Value} {below : List Frame} {meth : Method} {c : Code} {Q : State → Prop} {ν ν' : Nat → Int32} {D : va_G} {τ : Nat → ClassId} {sa : List Nat} {ro : List ex_C} {A : Nat → Prop} {ws0 : va_W} {bytes : ByteArray} {lim : Nat × Nat} {ret : Option FieldType} {v : Option ex_V} {p' : ex_H} (hK : ex_K v p' v p' = true) (h : em_ret p l e R s m args below meth c Q ν D τ sa ro A ws0 bytes lim ret (ex_K v p')) : em_ret p l e R s m args below meth c Q ν' D τ sa ro A ws0 bytes lim ret (ex_K v p') := by
  intro ov hp ws H locs ls pc rv k1 k2 k3 k4 k5 k6
  obtain ⟨g1, g2⟩ := ex_K_ok (ν' := ν) (ro' := ro) k1 k2 k3
  exact h v p' ws H locs ls pc rv hK g1 g2 k4 k5 k6
section EB
variable {l : Launch} {D : va_G} {τ : Nat → ClassId} {sa : List Nat} {A : Nat → Prop} {y : MethodName} {bytes : ByteArray}
def ez_GB (l : Launch) (D : va_G) (τ : Nat → ClassId) (sa : List Nat) (A : Nat → Prop) (y : MethodName) (bytes : ByteArray) (S : ex_S) : Prop := em_G l D τ sa A y.cls y.name bytes 11 12 (0, 0) (some .boolean) (ex_K ez_fb.2.2.1 ez_fb.2.2.2.1) S
theorem ez_row (hmn : em_mna) (h3 : em_L l D τ sa A em_inf ez_L3) (hT : ∀ ch ∈ eu_178, ∀ x ∈ ch, ek_J em_inf et_cls et_vt y.cls y.name bytes x) {r : Nat} (h1 : 1 ≤ r) (h2 : r ≤ 6560) (hG : ez_GB l D τ sa A y bytes (ez_bT (Int.ofNat r))) : ez_GB l D τ sa A y bytes (ez_bS (Int.ofNat r)) := by
  intro ν ro p e R s m args below meth c Q ws0 B hm hf hlo hlim hret
  have hr : (Int32.ofInt (Int.ofNat r)).toInt = Int.ofNat r := Int32.toInt_ofInt_of_le (by simp <;> omega) (by simp <;> omega)
  have hle := ex_leO_ok _ _ ez_fb_le
  have hN := er_frame eo_glob hmn eo_ok (em_memL l D τ sa A em_inf h3 (fun _ => Int32.ofInt (Int.ofNat r)) ro) (nat_lit 1000000) (nat_lit 12) ez_bcut eu_178 (0, 0) (some .boolean) [] _ _ _ _ _ _ (ex_K ez_fb.2.2.1 ez_fb.2.2.2.1) ez_fb_row p e R s m args below meth c Q ws0 bytes 11 y.cls y.name B hm hT (fun _ hx => absurd hx List.not_mem_nil) hf hlo hlim (em_ret_conv ez_fb_K hret) (fun pc ls st hp ce sl hc => by
    cases hb : Nat.beq pc (nat_lit 306) with
    | false =>
      replace hc : (bif Nat.beq pc (nat_lit 306) then ex_leS none none pc ls st hp ce sl ez_bF && ez_isN ls else false) = true := hc
      rw [hb] at hc
      exact absurd hc Bool.false_ne_true
    | true =>
      replace hc : (bif Nat.beq pc (nat_lit 306) then ex_leS none none pc ls st hp ce sl ez_bF && ez_isN ls else false) = true := hc
      rw [hb] at hc
      replace hc : (ex_leS none none pc ls st hp ce sl ez_bF && ez_isN ls) = true := hc
      rw [Bool.and_eq_true] at hc
      obtain ⟨hc1, hc2⟩ := hc
      replace hc1 : (Nat.beq pc (nat_lit 306) && (ex_leO none none ls (ez_bls none) && (ex_leL none none st [] && (Nat.beq ce 0 && (Nat.beq sl 0 && ex_leH hp ez_bB))))) = true := hc1
      simp only [Bool.and_eq_true] at hc1
      obtain ⟨q1, q2, q3, q4, q5, q6⟩ := hc1
      obtain rfl := Nat.eq_of_beq_eq_true q1
      obtain rfl := Nat.eq_of_beq_eq_true q4
      obtain rfl := Nat.eq_of_beq_eq_true q5
      obtain ⟨lo, hi, h5⟩ := ez_isN_ok hc2
      obtain ⟨o1, o2⟩ := ex_leO_ok _ _ q2
      intro H locs lsA stA ws hL hT' hP hS hw
      refine hG ν ro p e R s m args below meth c Q ws0 B hm hf hlo hlim hret H locs lsA stA ws (hL.swap ((ez_bls_len _).trans ((ez_bls_len none).symm.trans o1)) (fun i b hb => ?_)) (ex_leL_st er_Z.none _ _ _ q3 hT') (hP.le q6) hS hw
      by_cases e : i = 5
      · subst e
        replace hb : some (some (Sum.inl (Int.ofNat r))) = some (some b) := hb
        cases hb
        refine ⟨_, h5, fun v hv => ?_⟩
        obtain ⟨e1, -, -⟩ := hv
        exact ⟨_, e1, hr⟩
      · rw [show (ez_bT (Int.ofNat r)).2.1 = ez_bls (some (.inl (Int.ofNat r))) from rfl, ez_bls_ne e] at hb
        obtain ⟨a, a1, a2⟩ := o2 i b hb
        exact ⟨a, a1, fun v hv => ex_leV_ok er_Z.none a2 hv⟩)
  intro H locs lsA stA ws hL hT' hP hS hw
  refine hN H locs lsA stA ws (hL.swap rfl (fun i b hb => ?_)) (ex_leL_st er_Z.none [] [] _ rfl hT') (hP.le ez_fb_hp) hS hw
  by_cases e : i = 5
  · subst e
    replace hb : some (some ez_bN) = some (some b) := hb
    cases hb
    refine ⟨_, rfl, fun v hv => ?_⟩
    obtain ⟨x, rfl, hx⟩ := hv
    have hx2 : Int32.ofInt (Int.ofNat r) = x := Int32.toInt_inj.mp (by rw [hr, hx])
    refine ⟨by show Value.int x = Value.int (Int32.ofInt (Int.ofNat r)); rw [hx2], ?_, ?_⟩
    · show (Int.ofNat 1) ≤ (Int32.ofInt (Int.ofNat r)).toInt
      rw [hr]; simp <;> omega
    · show (Int32.ofInt (Int.ofNat r)).toInt ≤ Int.ofNat 6560
      rw [hr]; simp <;> omega
  · rw [ez_bls_ne e] at hb
    obtain ⟨a, a1, a2⟩ := hle.2 i b hb
    refine ⟨a, ?_, fun v hv => ex_leV_ok er_Z.none a2 hv⟩
    rw [show (ez_bS (Int.ofNat r)).2.1 = ez_bls (some (.inl (Int.ofNat r))) from rfl, ez_bls_ne e]
    exact a1
theorem ez_rows (hmn : em_mna) (h3 : em_L l D τ sa A em_inf ez_L3) (hT : ∀ ch ∈ eu_178, ∀ x ∈ ch, ek_J em_inf et_cls et_vt y.cls y.name bytes x) : ∀ k : Nat, k ≤ 6560 → ez_GB l D τ sa A y bytes (ez_bS (Int.ofNat (6561 - k))) := by
  intro k
  induction k with
  | zero => intro _; exact er_link (Ss := []) (S := ez_bS (Int.ofNat 6561)) eo_glob hmn eo_ok h3 hT ez_fb_end (fun _ h => absurd h List.not_mem_nil)
  | succ k ih =>
    intro hk
    have g := ih (by omega)
    have e1 : 6561 - k = (6561 - (k + 1)) + 1 := by omega
    rw [e1] at g
    refine ez_row hmn h3 hT (by omega) (by omega) ?_
    exact er_link (Ss := [ez_bS (Int.ofNat (6561 - (k + 1) + 1))]) (S := ez_bT (Int.ofNat (6561 - (k + 1)))) eo_glob hmn eo_ok h3 hT (ez_tail_at _ (by omega) (by omega)) (fun S' h => by rcases List.mem_singleton.mp h with rfl; exact g)
theorem ez_fb_ok (hmn : em_mna) (h3 : em_L l D τ sa A em_inf ez_L3) : em_E l D τ sa A em_inf (nat_lit 178) ez_fb := by
  obtain ⟨y, bytes, i1, i2, i3, i4⟩ := eo_ok (nat_lit 178) eu_178 (nat_lit 11) (some .boolean) 0 0 rfl
  obtain ⟨q, k1, k2, k3⟩ := ex_locs_ok _ _ _ ez_fb_e
  refine ⟨y, bytes, 11, some .boolean, i1, i3, fun ν ro avs ws ha => ?_⟩
  obtain ⟨f1, f2⟩ := k3 ha
  have hG := er_link (Ss := [ez_bS (Int.ofNat (nat_lit 1))]) (S := (0, q, [], ez_fb.2.1, 0, 0)) (nL := 11) eo_glob hmn eo_ok h3 i4 k1 (fun S' h => by rcases List.mem_singleton.mp h with rfl; exact ez_rows hmn h3 i4 6560 (by decide))
  refine em_weak (er_metG (ν := ν) (ro := ro) i2 k2 hG avs ws f1 f2) ?_
  rintro a st o t ⟨⟨ov, hp', ws', rv, j1, j2, j3, j4, j5⟩, j6⟩
  obtain ⟨m1, m2⟩ := ex_K_ok (ν' := ν) (ro' := ro) j2 j3 j4
  exact ⟨⟨ws', rv, j1, m1, m2, j5⟩, j6⟩
end EB
