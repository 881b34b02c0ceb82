/-! From the law's entry to its loop. Printed by wip/p3/lawx.py. -/
def ezz_4 : ex_H := ex_hput ei_h0 46 (3, 9, 0, 0, [.inr (.inr (.inl (some (nat_lit 47)))), .inl 0, .inr (.inr (.inl (some (nat_lit 48)))), .inr (.inr (.inl (some (nat_lit 49)))), .inr (.inr (.inr (.inl ((Int.ofNat (nat_lit 0)), (Int.ofNat (nat_lit 50)))))), .inr (.inr (.inr (.inl ((Int.ofNat (nat_lit 0)), (Int.ofNat (nat_lit 300))))))])
def ezz_3 : ex_H := ex_hput ezz_4 345 (3, 12, 0, 0, [.inr (.inr (.inl (some (nat_lit 346)))), .inr (.inr (.inl (some (nat_lit 347)))), .inr (.inr (.inl (some (nat_lit 348)))), .inr (.inr (.inl (some (nat_lit 349)))), .inr (.inr (.inr (.inr (.inl ((Int.negSucc (nat_lit 9223372036854775807)), (Int.ofNat (nat_lit 9223372036854775807))))))), .inr (.inr (.inr (.inr (.inl ((Int.negSucc (nat_lit 9223372036854775807)), (Int.ofNat (nat_lit 9223372036854775807))))))), .inr (.inr (.inl (some (nat_lit 350)))), .inl 0, .inr (.inr (.inr (.inl ((Int.ofNat (nat_lit 0)), (Int.ofNat (nat_lit 301)))))), .inr (.inr (.inr (.inl ((Int.ofNat (nat_lit 0)), (Int.ofNat (nat_lit 300)))))), .inr (.inr (.inr (.inl ((Int.negSucc (nat_lit 2147483647)), (Int.ofNat (nat_lit 2147483647)))))), .inr (.inr (.inr (.inl ((Int.negSucc (nat_lit 2147483647)), (Int.ofNat (nat_lit 2147483647)))))), .inr (.inr (.inl (some (nat_lit 351)))), .inr (.inr (.inl (some (nat_lit 352)))), .inr (.inr (.inr (.inl ((Int.ofNat (nat_lit 0)), (Int.ofNat (nat_lit 300)))))), .inr (.inr (.inl (some (nat_lit 353)))), .inr (.inr (.inl (some (nat_lit 354)))), .inr (.inr (.inl (some (nat_lit 355)))), .inr (.inr (.inl (some (nat_lit 356)))), .inr (.inr (.inl (some (nat_lit 357)))), .inr (.inr (.inr (.inl ((Int.negSucc (nat_lit 2147483647)), (Int.ofNat (nat_lit 2147483647)))))), .inr (.inr (.inr (.inl ((Int.negSucc (nat_lit 2147483647)), (Int.ofNat (nat_lit 2147483647)))))), .inr (.inr (.inr (.inl ((Int.negSucc (nat_lit 2147483647)), (Int.ofNat (nat_lit 2147483647)))))), .inr (.inr (.inl (some (nat_lit 358)))), .inr (.inr (.inr (.inl ((Int.negSucc (nat_lit 2147483647)), (Int.ofNat (nat_lit 2147483647)))))), .inr (.inr (.inl (some (nat_lit 359)))), .inr (.inr (.inl (some (nat_lit 360)))), .inr (.inr (.inl (some (nat_lit 361)))), .inr (.inr (.inl (some (nat_lit 362)))), .inr (.inr (.inl (some (nat_lit 363)))), .inr (.inr (.inl (some (nat_lit 364)))), .inr (.inr (.inl (some (nat_lit 365)))), .inr (.inr (.inl (some (nat_lit 366))))])
def ezz_2 : ex_H := ex_hput ezz_3 45 (1, 1, 2, 170141183500083312998042844551658340352, [])
def ezz_1 : ex_H := ex_hput ezz_2 348 (1, 1, 2, 170141183500083312998042844551658340352, [])
def ezz_f : ex_H := ex_hput ezz_1 347 (0, 0, 460, (ei_c17[11]!).2.2.2.1, [])
/-- what the constructors leave, without names -/
def ezz_0 : ex_H := ex_hput ezz_f 349 (0, 0, 230, (ei_c17[13]!).2.2.2.1, [])
def ezz_e : ex_H := ((nat_lit 5), [[en_c0, en_c1, en_c2, en_c3, ((nat_lit 9), (nat_lit 0), (nat_lit 0), (nat_lit 0), [])]])
def ezz_ls : List (Option ex_V) := [some (.inr (.inr (.inl (some (nat_lit 4))))), none, none, none]
def ezz_l0 : List (Option ex_V) := [some (.inr (.inr (.inl (some 4)))), some (.inr (.inr (.inl (some 5)))), some (.inr (.inr (.inl (some 345)))), none]
def ezz_S : ex_S := ((nat_lit 16), ezz_l0, [], ezz_0, (nat_lit 362), (nat_lit 6690))
theorem ezz_run : el_run [] [ezz_S] ((nat_lit 0), ezz_ls, [], ezz_e, (nat_lit 0), (nat_lit 0)) = true := by decide +kernel
section EZZ
variable {ν : Nat → Int32} {D : va_G} {τ : Nat → ClassId} {sa : List Nat} {ro : List ex_C} {A : Nat → Prop} {ws : va_W} {H : Heap} {L P : Nat}
theorem ezz_r (h : er_W ν D τ sa ro A (ex_fix (el_h L P) ezz_0) ws H) : ∃ ν' : Nat → Int32, el_F ν' ∧ er_W ν' D τ sa ro A (el_h L P) ws H := by
  obtain ⟨ν0, -, -, -, -, a0⟩ := el_nmA (q := 349) (k := 2600) (t := 0) (ty := 0) (n := 230) (P := (ei_c17[13]!).2.2.2.1) (P' := (ei_c17[13]!).2.2.2.1) h (by decide) (Or.inl rfl) rfl (by decide +kernel) (by decide) (el_av (by decide +kernel))
  have af : er_W ν0 D τ sa ro A (ex_fix (el_h L P) ezz_f) ws H := a0
  obtain ⟨ν1, f1, a1, a2, a3, a4⟩ := el_nmA (q := 347) (k := 2000) (t := 0) (ty := 0) (n := 460) (P := (ei_c17[11]!).2.2.2.1) (P' := (ei_c17[11]!).2.2.2.1) af (by decide) (Or.inl rfl) rfl (by decide +kernel) (by decide) (el_av (by decide +kernel))
  have b0 : er_W ν1 D τ sa ro A (ex_fix (el_h L P) ezz_1) ws H := a4
  obtain ⟨ν2, f2, b1, b2, b3, b4⟩ := el_nmA (q := 348) (k := 1010) (t := 1) (ty := 1) (n := 2) (P := 170141183500083312998042844551658340352) (P' := (ei_c17[12]!).2.2.2.1) b0 (by decide) (Or.inr rfl) rfl (by decide +kernel) (by decide) (el_av (by decide +kernel))
  have c0 : er_W ν2 D τ sa ro A (ex_fix (el_h L P) ezz_2) ws H := b4
  obtain ⟨ν3, f3, c1, c2, c3, c4⟩ := el_nmA (q := 45) (k := 1000) (t := 1) (ty := 1) (n := 2) (P := 170141183500083312998042844551658340352) (P' := (ei_c2[13]!).2.2.2.1) c0 (by decide) (Or.inr rfl) rfl (by decide +kernel) (by decide) (el_av (by decide +kernel))
  have d0 : er_W ν3 D τ sa ro A (ex_fix (el_h L P) ezz_3) ws H := c4
  obtain ⟨ν4, d1, d2, d3⟩ := el_nmX (q := 345) (k := 2) (j0 := 7) (lo := 0) (hi := 300) d0 (by decide) rfl rfl (by decide) (by decide) (el_av (by decide +kernel))
  have e0 : er_W ν4 D τ sa ro A (ex_fix (el_h L P) ezz_4) ws H := d3
  replace d3 : (ν4 2).toInt = 0 := d2
  obtain ⟨ν5, e1, e2, e3⟩ := el_nmX (q := 46) (k := 1) (j0 := 1) (lo := 0) (hi := 300) e0 (by decide) rfl rfl (by decide) (by decide) (el_av (by decide +kernel))
  have g : ∀ i, i < 2 → ex_pg 170141183500083312998042844551658340352 i = 9223372039002259456 := by decide +kernel
  have z : ∀ i, i < 2 → (ν5 (1010 + i)).toInt = 0 := by
    intro i hi
    rw [e1 (1010 + i) (by omega), d1 (1010 + i) (by omega), c1 (1010 + i) (by omega), b3 i hi]
    have w := b2 i hi
    rw [g i hi] at w
    unfold er_w at w
    omega
  have zc : ∀ i, i < 2 → (ν5 (1000 + i)).toInt = 0 := by
    intro i hi
    rw [e1 (1000 + i) (by omega), d1 (1000 + i) (by omega), c3 i hi]
    have w := c2 i hi
    rw [g i hi] at w
    unfold er_w at w
    omega
  have z2 : (ν5 2).toInt = 0 := by rw [e1 2 (by decide)]; exact d3
  have z1 : (ν5 1).toInt = 0 := e2
  exact ⟨ν5, ⟨⟨fun hk => absurd (hk.symm.trans (z 0 (by decide))) (by decide), fun hk => absurd (hk.symm.trans (z 1 (by decide))) (by decide)⟩, Int32.toInt_inj.mp (by rw [z1, z2])⟩, e3⟩
theorem ezz_fh : er_five (en_ro L P) (el_h L P) := by
  intro q c hq hc
  match q, hq, hc with
  | 0, _, hc => cases hc; exact Or.inl rfl
  | 1, _, hc => cases hc; exact Or.inl rfl
  | 2, _, hc => cases hc; exact Or.inl rfl
  | 3, _, hc => cases hc; exact Or.inl rfl
  | 4, _, hc => cases hc; exact Or.inr rfl
  | q + 5, hq, _ => omega
theorem ezz_f0 : er_five (en_ro L P) ezz_0 := by
  intro q c hq hc
  match q, hq, hc with
  | 0, _, hc => cases hc; exact Or.inl rfl
  | 1, _, hc => cases hc; exact Or.inl rfl
  | 2, _, hc => cases hc; exact Or.inl rfl
  | 3, _, hc => cases hc; exact Or.inl rfl
  | 4, _, hc => cases hc; exact Or.inl rfl
  | q + 5, hq, _ => omega
end EZZ
theorem ezz_lsr {sa : List Nat} : ∀ (ν ν' : Nat → Int32) (ws : va_W) (nL : Nat) (A' : Array Slot), er_L (er_r ν sa ws) nL ezz_l0 A' → er_L (er_r ν' sa ws) nL ezz_l0 A' := by
  rintro ν ν' ws nL A' ⟨h1, lv, h2, h3⟩
  refine ⟨h1, lv, h2, fun j a ha => ?_⟩
  obtain ⟨v, g1, g2⟩ := h3 j a ha
  refine ⟨v, ?_, g2⟩
  match j, ha with
  | 0, ha => cases ha; exact g1
  | 1, ha => cases ha; exact g1
  | 2, ha => cases ha; exact g1
  | 3, ha => cases ha
  | j + 4, ha => cases ha
theorem ezz_enter {p : Program} {l : Launch} {e : Env} {s : State} {m : MethodId} {below : List Frame} {meth : Method} {c : Code} {b : Nat} {D : va_G} {τ : Nat → ClassId} {sa : List Nat} (hmn : em_mna) {L P : Nat} (BB : el_B p s m meth c b D τ sa (en_ro L P)) {f : Int → Int} (hR : ey_R L P f) (hL : (L : Int) ≤ 3072) : el_W p l e s m below meth c b D τ sa (en_ro L P) ezz_S := by
  intro H locs lsA stA ws hLs hT hP hS hw
  have h1 := hP.fix (hp := el_h L P) ezz_fh ezz_f0
  obtain ⟨ν', hC, h2⟩ := ezz_r h1
  have G : el_G p l e s m below meth c b D τ sa (en_ro L P) el_F (16, ezz_l0, [], (el_h L P), 362, 6690) := by
    refine el_plain hmn BB (eg_at eo_law 0 8 rfl rfl) (pc' := 17) (ls' := ezz_l0) (st' := [.inl 0]) (hp' := (el_h L P)) (fun _ _ => rfl) ?_
    refine el_plain hmn BB (eg_at eo_law 0 9 rfl rfl) (pc' := 18) (ls' := [some (.inr (.inr (.inl (some 4)))), some (.inr (.inr (.inl (some 5)))), some (.inr (.inr (.inl (some 345)))), some (.inl (0))]) (st' := []) (hp' := (el_h L P)) (fun _ _ => rfl) ?_
    exact el_loop hmn BB hR hL (fun i h0 h1 hX => el_op11 hmn BB hR h0 h1 hL hX) (fun i h0 h1 hX => el_op12 hmn BB hR h0 h1 hL hX) (fun i h0 h1 hX => el_op13 hmn BB hR h0 h1 hL hX) (fun i h0 h1 hX => el_op30 hmn BB hR h0 h1 hL hX) (fun i h0 h1 hX => el_op31 hmn BB hR h0 h1 hL hX) (L + 1) 0 (by omega) (by omega) (by omega)
  exact G ν' hC H locs lsA stA ws (ezz_lsr _ _ _ _ _ hLs) (el_str _ _ _ _ hT) h2 hS hw
theorem ezz_e_at (q : Nat) (h : 5 ≤ q) : ex_at ezz_e q = none := by
  unfold ex_at
  by_cases hl : q < 16
  · rw [Nat.div_eq_of_lt hl, Nat.mod_eq_of_lt hl]
    obtain ⟨j, rfl⟩ : ∃ j, q = j + 5 := ⟨q - 5, by omega⟩
    rfl
  · obtain ⟨k, hk⟩ : ∃ k, q / 16 = k + 1 := ⟨q / 16 - 1, by omega⟩
    rw [hk]
    rfl

/-- the law's frame, from the entry on -/
theorem whole_start0 (hmn : em_mna) {p : Program} {e : Env} {s : State} {m : MethodId} {below : List Frame} {meth : Method} {c : Code} (l : Launch) {b L : Nat} {xs : Nat → Int32} (hL : L ≤ 3072) (hn : meth.name = "law") (C0 : lw_At p s m meth c b L xs) : W p l e room_1 s m #[Value.ref b] below meth c s.heap [] 0 0 (lw_Z below #[Value.ref b] s) (entryFrame m ([Value.ref b] : List Value).toArray 4) := by
  obtain ⟨hx, hb, hr, hml, hown, hts, hX, hbl, hlk, hgv⟩ := C0
  obtain ⟨D, τ, sa, hs4, hs5, hE⟩ := en_E hts hX hbl hgv
  have hR := ey_R_mk xs L
  have hA : er_A L (ey_pack (fun i => (xs i).toInt) L) xs := (ey_R_one hR).mpr (fun j hj => rfl)
  have BB : el_B p s m meth c b D τ sa (en_ro L (ey_pack (fun i => (xs i).toInt) L)) := ⟨⟨hx, hb, hml, hown, fun w hw => hts w (List.mem_filter.mp hw).1, hE _ hA⟩, hn, hr, hlk⟩
  have key : el_W p l e s m below meth c b D τ sa (en_ro L (ey_pack (fun i => (xs i).toInt) L)) (nat_lit 0, ezz_ls, [], ezz_e, nat_lit 0, nat_lit 0) := el_run_ok hmn (L := []) (fun _ h => absurd h List.not_mem_nil) BB ezz_run (fun S' h => by rcases List.mem_singleton.mp h with rfl; exact ezz_enter hmn BB hR (by omega))
  rw [lg_entry_eq]
  refine key s.heap [] _ [] [] ⟨rfl, _, lv_entry [Value.ref b] (by show 1 ≤ 4; decide), fun i a hi => ?_⟩ trivial ⟨fun k q hk => (by cases hk), ⟨fun i j p q hi => (by cases hi), fun k q hk => (by cases hk)⟩, rfl, fun q c hq hc => ?_, fun q c hq hc => ?_⟩ va_S.rf ⟨[], rfl⟩
  · match i, hi with
    | 0, hi =>
      cases hi
      refine ⟨.ref b, ⟨b, ?_, rfl⟩, List.mem_cons_self⟩
      show (sa ++ [])[4]? = some b
      rw [List.append_nil]
      exact hs4
    | 1, hi => cases hi
    | 2, hi => cases hi
    | 3, hi => cases hi
    | i + 4, hi => cases hi
  · match q, hq, hc with
    | 0, _, hc => exact Or.inr hc
    | 1, _, hc => exact Or.inr hc
    | 2, _, hc => exact Or.inr hc
    | 3, _, hc => exact Or.inr hc
    | 4, _, hc => cases hc; exact Or.inl rfl
    | q + 5, hq, _ => omega
  · rw [ezz_e_at q hq] at hc
    cases hc
