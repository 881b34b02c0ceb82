/-! The compared method: lemmas. Printed by wip/p3/lawx.py. -/
def el_Fk (w : Nat) (k : Int) (ν : Nat → Int32) : Prop := el_F ν ∧ (ν (1010 + w)).toInt = k
def el_Fm (i : Nat) (k : Int) (ν : Nat → Int32) : Prop := el_C ν ∧ (ν (1000 + i)).toInt = 1 ∧ (ν (1000 + (1 - i))).toInt = k ∧ (ν (1010 + (1 - i))).toInt = k
section ELK
variable {ν : Nat → Int32} {D : va_G} {τ : Nat → ClassId} {sa : List Nat} {ro : List ex_C} {A : Nat → Prop} {ws : va_W} {H : Heap} {L P : Nat}
theorem el_uimage0A (hF : el_F ν) (hk : (ν 1011).toInt = 1) (h : er_W ν D τ sa ro A (el_h L P) ws H) : er_W ν D τ sa ro A (ex_fix (el_h L P) el_jh33) ws H := by
  have hk2 : (ν 1001).toInt = 1 := by
    rw [hF.2.2]
    exact hk
  have a : er_W ν D τ sa ro A (ex_hput (el_h L P) 45 (1, 1, 2, (el_jc49[13]!).2.2.2.1, [.inr (.inr (.inl (some 1000)))])) ws H := by
    refine el_tight (q := 45) (t := 1) (ty := 1) (n := 2) (k := 1000) (P := (ei_c2[13]!).2.2.2.1) (P' := (el_jc49[13]!).2.2.2.1) h (by decide) (Or.inr rfl) rfl (fun f hf hn => ?_)
    have e0 : ex_pg (ei_c2[13]!).2.2.2.1 0 = 9223372043297226752 := by decide +kernel
    have e1 : ex_pg (el_jc49[13]!).2.2.2.1 0 = 9223372043297226752 := by decide +kernel
    have e2 : ex_pg (el_jc49[13]!).2.2.2.1 1 = 9223372043297226753 := by decide +kernel
    have g0 := hf 0 (by decide)
    have g1 : f 1 = ν 1001 := hn 1 (by decide)
    rw [e0] at g0
    intro j hj
    match j, hj with
    | 0, _ => rw [e1]; exact g0
    | 1, _ =>
      rw [e2, g1]
      unfold er_w
      rw [hk2]
      decide
    | j + 2, hj => omega
  exact a
theorem el_v0A (hF : el_Fk 1 1 ν) (h : er_W ν D τ sa ro A (ex_fix (el_h L P) el_jh35) ws H) : ∃ ν' : Nat → Int32, el_Fm 0 1 ν' ∧ er_W ν' D τ sa ro A (el_h L P) ws H := by
  obtain ⟨ν', f, h1, h2, h3, h4⟩ := el_nmA (q := 45) (k := 1000) (t := 1) (ty := 1) (n := 2) (P := (el_jc51[13]!).2.2.2.1) (P' := (ei_c2[13]!).2.2.2.1) h (by decide) (Or.inr rfl) rfl (by decide +kernel) (by decide) (el_av (by decide +kernel))
  have k0 : (ν' 1000).toInt = 1 := by
    have w := h2 0 (by decide)
    have g : ex_pg (el_jc51[13]!).2.2.2.1 0 = 9223372043297226753 := by decide +kernel
    have e : ν' 1000 = f 0 := h3 0 (by decide)
    unfold er_w at w
    rw [g] at w
    rw [e]
    omega
  have k1 : (ν' 1001).toInt = 1 := by
    have w := h2 1 (by decide)
    have g : ex_pg (el_jc51[13]!).2.2.2.1 1 = 9223372043297226753 := by decide +kernel
    have e : ν' 1001 = f 1 := h3 1 (by decide)
    unfold er_w at w
    rw [g] at w
    rw [e]
    omega
  have hC : el_C ν' := hF.1.1.of (h1 _ (by omega)) (h1 _ (by omega)) (h1 _ (by omega)) (h1 _ (by omega)) (h1 _ (by omega)) (h1 _ (by omega))
  exact ⟨ν', ⟨hC, k0, k1, by rw [h1 _ (by omega)]; exact hF.2⟩, h4⟩
theorem el_w0A (hF : el_Fm 0 1 ν) (h : er_W ν D τ sa ro A (ex_fix (el_h L P) el_ih31) ws H) : ∃ ν' : Nat → Int32, el_F ν' ∧ er_W ν' D τ sa ro A (el_h L P) ws H := by
  obtain ⟨hC0, m1, m2, m3⟩ := hF
  replace m1 : (ν 1000).toInt = 1 := m1
  replace m2 : (ν 1001).toInt = 1 := m2
  obtain ⟨ν', hC, h1, k0, k1, h2⟩ := el_r31 h
  exact ⟨ν', ⟨hC, Int32.toInt_inj.mp (by rw [h1 1000 (by omega), k0]; exact m1), Int32.toInt_inj.mp (by rw [h1 1001 (by omega), k1]; exact m2)⟩, h2⟩
theorem el_uimage0B (hF : el_F ν) (hk : (ν 1011).toInt = 0) (h : er_W ν D τ sa ro A (el_h L P) ws H) : er_W ν D τ sa ro A (ex_fix (el_h L P) el_jh34) ws H := by
  have hk2 : (ν 1001).toInt = 0 := by
    rw [hF.2.2]
    exact hk
  have a : er_W ν D τ sa ro A (ex_hput (el_h L P) 45 (1, 1, 2, (el_jc50[13]!).2.2.2.1, [.inr (.inr (.inl (some 1000)))])) ws H := by
    refine el_tight (q := 45) (t := 1) (ty := 1) (n := 2) (k := 1000) (P := (ei_c2[13]!).2.2.2.1) (P' := (el_jc50[13]!).2.2.2.1) h (by decide) (Or.inr rfl) rfl (fun f hf hn => ?_)
    have e0 : ex_pg (ei_c2[13]!).2.2.2.1 0 = 9223372043297226752 := by decide +kernel
    have e1 : ex_pg (el_jc50[13]!).2.2.2.1 0 = 9223372043297226752 := by decide +kernel
    have e2 : ex_pg (el_jc50[13]!).2.2.2.1 1 = 9223372039002259456 := by decide +kernel
    have g0 := hf 0 (by decide)
    have g1 : f 1 = ν 1001 := hn 1 (by decide)
    rw [e0] at g0
    intro j hj
    match j, hj with
    | 0, _ => rw [e1]; exact g0
    | 1, _ =>
      rw [e2, g1]
      unfold er_w
      rw [hk2]
      decide
    | j + 2, hj => omega
  exact a
theorem el_v0B (hF : el_Fk 1 0 ν) (h : er_W ν D τ sa ro A (ex_fix (el_h L P) el_jh36) ws H) : ∃ ν' : Nat → Int32, el_Fm 0 0 ν' ∧ er_W ν' D τ sa ro A (el_h L P) ws H := by
  obtain ⟨ν', f, h1, h2, h3, h4⟩ := el_nmA (q := 45) (k := 1000) (t := 1) (ty := 1) (n := 2) (P := (el_jc52[13]!).2.2.2.1) (P' := (ei_c2[13]!).2.2.2.1) h (by decide) (Or.inr rfl) rfl (by decide +kernel) (by decide) (el_av (by decide +kernel))
  have k0 : (ν' 1000).toInt = 1 := by
    have w := h2 0 (by decide)
    have g : ex_pg (el_jc52[13]!).2.2.2.1 0 = 9223372043297226753 := by decide +kernel
    have e : ν' 1000 = f 0 := h3 0 (by decide)
    unfold er_w at w
    rw [g] at w
    rw [e]
    omega
  have k1 : (ν' 1001).toInt = 0 := by
    have w := h2 1 (by decide)
    have g : ex_pg (el_jc52[13]!).2.2.2.1 1 = 9223372039002259456 := by decide +kernel
    have e : ν' 1001 = f 1 := h3 1 (by decide)
    unfold er_w at w
    rw [g] at w
    rw [e]
    omega
  have hC : el_C ν' := hF.1.1.of (h1 _ (by omega)) (h1 _ (by omega)) (h1 _ (by omega)) (h1 _ (by omega)) (h1 _ (by omega)) (h1 _ (by omega))
  exact ⟨ν', ⟨hC, k0, k1, by rw [h1 _ (by omega)]; exact hF.2⟩, h4⟩
theorem el_w0B (hF : el_Fm 0 0 ν) (h : er_W ν D τ sa ro A (ex_fix (el_h L P) el_ih33) ws H) : ∃ ν' : Nat → Int32, el_F ν' ∧ er_W ν' D τ sa ro A (el_h L P) ws H := by
  obtain ⟨hC0, m1, m2, m3⟩ := hF
  replace m1 : (ν 1000).toInt = 1 := m1
  replace m2 : (ν 1001).toInt = 0 := m2
  obtain ⟨ν', hC, h1, k0, k1, h2⟩ := el_r33 h
  exact ⟨ν', ⟨hC, Int32.toInt_inj.mp (by rw [h1 1000 (by omega), k0]; exact m1), Int32.toInt_inj.mp (by rw [h1 1001 (by omega), k1]; exact m2)⟩, h2⟩
theorem el_uimage1A (hF : el_F ν) (hk : (ν 1010).toInt = 1) (h : er_W ν D τ sa ro A (el_h L P) ws H) : er_W ν D τ sa ro A (ex_fix (el_h L P) el_jh31) ws H := by
  have hk2 : (ν 1000).toInt = 1 := by
    rw [hF.2.1]
    exact hk
  have a : er_W ν D τ sa ro A (ex_hput (el_h L P) 45 (1, 1, 2, (el_jc47[13]!).2.2.2.1, [.inr (.inr (.inl (some 1000)))])) ws H := by
    refine el_tight (q := 45) (t := 1) (ty := 1) (n := 2) (k := 1000) (P := (ei_c2[13]!).2.2.2.1) (P' := (el_jc47[13]!).2.2.2.1) h (by decide) (Or.inr rfl) rfl (fun f hf hn => ?_)
    have e0 : ex_pg (ei_c2[13]!).2.2.2.1 1 = 9223372043297226752 := by decide +kernel
    have e1 : ex_pg (el_jc47[13]!).2.2.2.1 1 = 9223372043297226752 := by decide +kernel
    have e2 : ex_pg (el_jc47[13]!).2.2.2.1 0 = 9223372043297226753 := by decide +kernel
    have g0 := hf 1 (by decide)
    have g1 : f 0 = ν 1000 := hn 0 (by decide)
    rw [e0] at g0
    intro j hj
    match j, hj with
    | 1, _ => rw [e1]; exact g0
    | 0, _ =>
      rw [e2, g1]
      unfold er_w
      rw [hk2]
      decide
    | j + 2, hj => omega
  exact a
theorem el_v1A (hF : el_Fk 0 1 ν) (h : er_W ν D τ sa ro A (ex_fix (el_h L P) el_jh35) ws H) : ∃ ν' : Nat → Int32, el_Fm 1 1 ν' ∧ er_W ν' D τ sa ro A (el_h L P) ws H := by
  obtain ⟨ν', f, h1, h2, h3, h4⟩ := el_nmA (q := 45) (k := 1000) (t := 1) (ty := 1) (n := 2) (P := (el_jc51[13]!).2.2.2.1) (P' := (ei_c2[13]!).2.2.2.1) h (by decide) (Or.inr rfl) rfl (by decide +kernel) (by decide) (el_av (by decide +kernel))
  have k0 : (ν' 1000).toInt = 1 := by
    have w := h2 0 (by decide)
    have g : ex_pg (el_jc51[13]!).2.2.2.1 0 = 9223372043297226753 := by decide +kernel
    have e : ν' 1000 = f 0 := h3 0 (by decide)
    unfold er_w at w
    rw [g] at w
    rw [e]
    omega
  have k1 : (ν' 1001).toInt = 1 := by
    have w := h2 1 (by decide)
    have g : ex_pg (el_jc51[13]!).2.2.2.1 1 = 9223372043297226753 := by decide +kernel
    have e : ν' 1001 = f 1 := h3 1 (by decide)
    unfold er_w at w
    rw [g] at w
    rw [e]
    omega
  have hC : el_C ν' := hF.1.1.of (h1 _ (by omega)) (h1 _ (by omega)) (h1 _ (by omega)) (h1 _ (by omega)) (h1 _ (by omega)) (h1 _ (by omega))
  exact ⟨ν', ⟨hC, k1, k0, by rw [h1 _ (by omega)]; exact hF.2⟩, h4⟩
theorem el_w1A (hF : el_Fm 1 1 ν) (h : er_W ν D τ sa ro A (ex_fix (el_h L P) el_ih31) ws H) : ∃ ν' : Nat → Int32, el_F ν' ∧ er_W ν' D τ sa ro A (el_h L P) ws H := by
  obtain ⟨hC0, m1, m2, m3⟩ := hF
  replace m1 : (ν 1001).toInt = 1 := m1
  replace m2 : (ν 1000).toInt = 1 := m2
  obtain ⟨ν', hC, h1, k0, k1, h2⟩ := el_r31 h
  exact ⟨ν', ⟨hC, Int32.toInt_inj.mp (by rw [h1 1000 (by omega), k0]; exact m2), Int32.toInt_inj.mp (by rw [h1 1001 (by omega), k1]; exact m1)⟩, h2⟩
theorem el_uimage1B (hF : el_F ν) (hk : (ν 1010).toInt = 0) (h : er_W ν D τ sa ro A (el_h L P) ws H) : er_W ν D τ sa ro A (ex_fix (el_h L P) el_jh32) ws H := by
  have hk2 : (ν 1000).toInt = 0 := by
    rw [hF.2.1]
    exact hk
  have a : er_W ν D τ sa ro A (ex_hput (el_h L P) 45 (1, 1, 2, (el_jc48[13]!).2.2.2.1, [.inr (.inr (.inl (some 1000)))])) ws H := by
    refine el_tight (q := 45) (t := 1) (ty := 1) (n := 2) (k := 1000) (P := (ei_c2[13]!).2.2.2.1) (P' := (el_jc48[13]!).2.2.2.1) h (by decide) (Or.inr rfl) rfl (fun f hf hn => ?_)
    have e0 : ex_pg (ei_c2[13]!).2.2.2.1 1 = 9223372043297226752 := by decide +kernel
    have e1 : ex_pg (el_jc48[13]!).2.2.2.1 1 = 9223372043297226752 := by decide +kernel
    have e2 : ex_pg (el_jc48[13]!).2.2.2.1 0 = 9223372039002259456 := by decide +kernel
    have g0 := hf 1 (by decide)
    have g1 : f 0 = ν 1000 := hn 0 (by decide)
    rw [e0] at g0
    intro j hj
    match j, hj with
    | 1, _ => rw [e1]; exact g0
    | 0, _ =>
      rw [e2, g1]
      unfold er_w
      rw [hk2]
      decide
    | j + 2, hj => omega
  exact a
theorem el_v1B (hF : el_Fk 0 0 ν) (h : er_W ν D τ sa ro A (ex_fix (el_h L P) el_jh37) ws H) : ∃ ν' : Nat → Int32, el_Fm 1 0 ν' ∧ er_W ν' D τ sa ro A (el_h L P) ws H := by
  obtain ⟨ν', f, h1, h2, h3, h4⟩ := el_nmA (q := 45) (k := 1000) (t := 1) (ty := 1) (n := 2) (P := (el_jc53[13]!).2.2.2.1) (P' := (ei_c2[13]!).2.2.2.1) h (by decide) (Or.inr rfl) rfl (by decide +kernel) (by decide) (el_av (by decide +kernel))
  have k0 : (ν' 1000).toInt = 0 := by
    have w := h2 0 (by decide)
    have g : ex_pg (el_jc53[13]!).2.2.2.1 0 = 9223372039002259456 := by decide +kernel
    have e : ν' 1000 = f 0 := h3 0 (by decide)
    unfold er_w at w
    rw [g] at w
    rw [e]
    omega
  have k1 : (ν' 1001).toInt = 1 := by
    have w := h2 1 (by decide)
    have g : ex_pg (el_jc53[13]!).2.2.2.1 1 = 9223372043297226753 := by decide +kernel
    have e : ν' 1001 = f 1 := h3 1 (by decide)
    unfold er_w at w
    rw [g] at w
    rw [e]
    omega
  have hC : el_C ν' := hF.1.1.of (h1 _ (by omega)) (h1 _ (by omega)) (h1 _ (by omega)) (h1 _ (by omega)) (h1 _ (by omega)) (h1 _ (by omega))
  exact ⟨ν', ⟨hC, k1, k0, by rw [h1 _ (by omega)]; exact hF.2⟩, h4⟩
theorem el_w1B (hF : el_Fm 1 0 ν) (h : er_W ν D τ sa ro A (ex_fix (el_h L P) el_ih37) ws H) : ∃ ν' : Nat → Int32, el_F ν' ∧ er_W ν' D τ sa ro A (el_h L P) ws H := by
  obtain ⟨hC0, m1, m2, m3⟩ := hF
  replace m1 : (ν 1001).toInt = 1 := m1
  replace m2 : (ν 1000).toInt = 0 := m2
  obtain ⟨ν', hC, h1, k0, k1, h2⟩ := el_r37 h
  exact ⟨ν', ⟨hC, Int32.toInt_inj.mp (by rw [h1 1000 (by omega), k0]; exact m2), Int32.toInt_inj.mp (by rw [h1 1001 (by omega), k1]; exact m1)⟩, h2⟩
theorem el_ufrom0A (hF : el_F ν) (hk : (ν 1010).toInt = 1) (h : er_W ν D τ sa ro A (el_h L P) ws H) : er_W ν D τ sa ro A (ex_fix (el_h L P) el_jh31) ws H := by
  have hk2 : (ν 1000).toInt = 1 := by
    rw [hF.2.1]
    exact hk
  have a : er_W ν D τ sa ro A (ex_hput (el_h L P) 45 (1, 1, 2, (el_jc47[13]!).2.2.2.1, [.inr (.inr (.inl (some 1000)))])) ws H := by
    refine el_tight (q := 45) (t := 1) (ty := 1) (n := 2) (k := 1000) (P := (ei_c2[13]!).2.2.2.1) (P' := (el_jc47[13]!).2.2.2.1) h (by decide) (Or.inr rfl) rfl (fun f hf hn => ?_)
    have e0 : ex_pg (ei_c2[13]!).2.2.2.1 1 = 9223372043297226752 := by decide +kernel
    have e1 : ex_pg (el_jc47[13]!).2.2.2.1 1 = 9223372043297226752 := by decide +kernel
    have e2 : ex_pg (el_jc47[13]!).2.2.2.1 0 = 9223372043297226753 := by decide +kernel
    have g0 := hf 1 (by decide)
    have g1 : f 0 = ν 1000 := hn 0 (by decide)
    rw [e0] at g0
    intro j hj
    match j, hj with
    | 1, _ => rw [e1]; exact g0
    | 0, _ =>
      rw [e2, g1]
      unfold er_w
      rw [hk2]
      decide
    | j + 2, hj => omega
  exact a
theorem el_ufrom0B (hF : el_F ν) (hk : (ν 1010).toInt = 0) (h : er_W ν D τ sa ro A (el_h L P) ws H) : er_W ν D τ sa ro A (ex_fix (el_h L P) el_jh32) ws H := by
  have hk2 : (ν 1000).toInt = 0 := by
    rw [hF.2.1]
    exact hk
  have a : er_W ν D τ sa ro A (ex_hput (el_h L P) 45 (1, 1, 2, (el_jc48[13]!).2.2.2.1, [.inr (.inr (.inl (some 1000)))])) ws H := by
    refine el_tight (q := 45) (t := 1) (ty := 1) (n := 2) (k := 1000) (P := (ei_c2[13]!).2.2.2.1) (P' := (el_jc48[13]!).2.2.2.1) h (by decide) (Or.inr rfl) rfl (fun f hf hn => ?_)
    have e0 : ex_pg (ei_c2[13]!).2.2.2.1 1 = 9223372043297226752 := by decide +kernel
    have e1 : ex_pg (el_jc48[13]!).2.2.2.1 1 = 9223372043297226752 := by decide +kernel
    have e2 : ex_pg (el_jc48[13]!).2.2.2.1 0 = 9223372039002259456 := by decide +kernel
    have g0 := hf 1 (by decide)
    have g1 : f 0 = ν 1000 := hn 0 (by decide)
    rw [e0] at g0
    intro j hj
    match j, hj with
    | 1, _ => rw [e1]; exact g0
    | 0, _ =>
      rw [e2, g1]
      unfold er_w
      rw [hk2]
      decide
    | j + 2, hj => omega
  exact a
theorem el_ufrom1A (hF : el_F ν) (hk : (ν 1011).toInt = 1) (h : er_W ν D τ sa ro A (el_h L P) ws H) : er_W ν D τ sa ro A (ex_fix (el_h L P) el_jh33) ws H := by
  have hk2 : (ν 1001).toInt = 1 := by
    rw [hF.2.2]
    exact hk
  have a : er_W ν D τ sa ro A (ex_hput (el_h L P) 45 (1, 1, 2, (el_jc49[13]!).2.2.2.1, [.inr (.inr (.inl (some 1000)))])) ws H := by
    refine el_tight (q := 45) (t := 1) (ty := 1) (n := 2) (k := 1000) (P := (ei_c2[13]!).2.2.2.1) (P' := (el_jc49[13]!).2.2.2.1) h (by decide) (Or.inr rfl) rfl (fun f hf hn => ?_)
    have e0 : ex_pg (ei_c2[13]!).2.2.2.1 0 = 9223372043297226752 := by decide +kernel
    have e1 : ex_pg (el_jc49[13]!).2.2.2.1 0 = 9223372043297226752 := by decide +kernel
    have e2 : ex_pg (el_jc49[13]!).2.2.2.1 1 = 9223372043297226753 := by decide +kernel
    have g0 := hf 0 (by decide)
    have g1 : f 1 = ν 1001 := hn 1 (by decide)
    rw [e0] at g0
    intro j hj
    match j, hj with
    | 0, _ => rw [e1]; exact g0
    | 1, _ =>
      rw [e2, g1]
      unfold er_w
      rw [hk2]
      decide
    | j + 2, hj => omega
  exact a
theorem el_ufrom1B (hF : el_F ν) (hk : (ν 1011).toInt = 0) (h : er_W ν D τ sa ro A (el_h L P) ws H) : er_W ν D τ sa ro A (ex_fix (el_h L P) el_jh34) ws H := by
  have hk2 : (ν 1001).toInt = 0 := by
    rw [hF.2.2]
    exact hk
  have a : er_W ν D τ sa ro A (ex_hput (el_h L P) 45 (1, 1, 2, (el_jc50[13]!).2.2.2.1, [.inr (.inr (.inl (some 1000)))])) ws H := by
    refine el_tight (q := 45) (t := 1) (ty := 1) (n := 2) (k := 1000) (P := (ei_c2[13]!).2.2.2.1) (P' := (el_jc50[13]!).2.2.2.1) h (by decide) (Or.inr rfl) rfl (fun f hf hn => ?_)
    have e0 : ex_pg (ei_c2[13]!).2.2.2.1 0 = 9223372043297226752 := by decide +kernel
    have e1 : ex_pg (el_jc50[13]!).2.2.2.1 0 = 9223372043297226752 := by decide +kernel
    have e2 : ex_pg (el_jc50[13]!).2.2.2.1 1 = 9223372039002259456 := by decide +kernel
    have g0 := hf 0 (by decide)
    have g1 : f 1 = ν 1001 := hn 1 (by decide)
    rw [e0] at g0
    intro j hj
    match j, hj with
    | 0, _ => rw [e1]; exact g0
    | 1, _ =>
      rw [e2, g1]
      unfold er_w
      rw [hk2]
      decide
    | j + 2, hj => omega
  exact a
end ELK
