/-! The law's frame, by hand: other names for a heap's ints. Written by hand (wip/p3/law2.lean). -/
section ELN
variable {lo hi : Nat}
theorem el_av {L P : Nat} {X : ex_H} (h : ex_avH lo hi X = true) : ∀ (q : Nat) (c : ex_C), 5 ≤ q → ex_at (ex_fix (el_h L P) X) q = some c → ex_avC lo hi c = true := fun q c hq hc => ex_avH_ok h (by rw [← (ex_fix_ok (el_h L P) X).2.2 q hq]; exact hc)
end ELN
section ELX
variable {ν : Nat → Int32} {D : va_G} {τ : Nat → ClassId} {sa : List Nat} {ro : List ex_C} {A : Nat → Prop} {ws : va_W} {H : Heap} {L P : Nat} {hp : ex_H}
theorem el_exF {q ty n P' j0 k : Nat} {lo hi : Int} {xs : List ex_V} (h : er_W ν D τ sa ro A hp ws H) (hq : 5 ≤ q) (hc : ex_at hp q = some (3, ty, n, P', xs)) (hj : xs[j0]? = some (.inr (.inr (.inr (.inr (.inr (k, lo, hi))))))) : (lo ≤ (ν k).toInt ∧ (ν k).toInt ≤ hi) ∧ er_W ν D τ sa ro A (ex_hput hp q (3, ty, n, P', xs.set j0 (.inl (ν k).toInt))) ws H := by
  obtain ⟨x, e1, e2⟩ := h.2.2.2.2 q _ hq hc
  rcases e2 with ⟨g1, -⟩ | ⟨g1, -⟩ | ⟨g1, -⟩ | ⟨-, fs, g3, g4, g5⟩
  · cases g1
  · cases g1
  · cases g1
  obtain ⟨v, f1, f2⟩ := g5 j0 _ hj
  replace f2 : v = .int (ν k) ∧ lo ≤ (ν k).toInt ∧ (ν k).toInt ≤ hi := f2
  obtain ⟨rfl, f3, f4⟩ := f2
  refine ⟨⟨f3, f4⟩, el_put h hq hc (fun x' e3 e4 => ?_)⟩
  rw [e1] at e3
  cases e3
  refine Or.inr (Or.inr (Or.inr ⟨rfl, fs, g3, ?_, fun j a ha => ?_⟩))
  · show fs.length = (xs.set j0 _).length
    rw [List.length_set]; exact g4
  · replace ha : (xs.set j0 (.inl (ν k).toInt))[j]? = some a := ha
    by_cases e : j = j0
    · subst e
      have hlt : j < xs.length := (List.getElem?_eq_some_iff.mp hj).1
      rw [List.getElem?_set_self hlt] at ha
      cases ha
      exact ⟨_, f1, er_int _⟩
    · rw [List.getElem?_set_ne (fun h => e h.symm)] at ha
      exact g5 j a ha
theorem el_nmX {q ty n P' j0 k : Nat} {x0 lo hi : Int} {xs : List ex_V} (h : er_W ν D τ sa ro A hp ws H) (hq : 5 ≤ q) (hc : ex_at hp q = some (3, ty, n, P', xs)) (hj : xs[j0]? = some (.inl x0)) (l1 : lo ≤ x0) (l2 : x0 ≤ hi) (hav : ∀ (q : Nat) (c : ex_C), 5 ≤ q → ex_at hp q = some c → ex_avC k k c = true) : ∃ ν' : Nat → Int32, (∀ i, i ≠ k → ν' i = ν i) ∧ (ν' k).toInt = x0 ∧ er_W ν' D τ sa ro A (ex_hput hp q (3, ty, n, P', xs.set j0 (.inr (.inr (.inr (.inr (.inr (k, lo, hi)))))))) ws H := by
  obtain ⟨x, e1, e2⟩ := h.2.2.2.2 q _ hq hc
  rcases e2 with ⟨g1, -⟩ | ⟨g1, -⟩ | ⟨g1, -⟩ | ⟨-, fs, g3, g4, g5⟩
  · cases g1
  · cases g1
  · cases g1
  obtain ⟨v, f1, y, rfl, y1⟩ := g5 j0 _ hj
  refine ⟨fun i => if i = k then y else ν i, fun i hi => if_neg hi, ?_, ?_⟩
  · show (if k = k then y else ν k).toInt = x0
    rw [if_pos rfl]; exact y1
  have h' := h.ren (ν' := fun i => if i = k then y else ν i) (lo := k) (hi := k) (fun i hi => if_neg (by omega)) hav
  refine el_put h' hq hc (fun x' e3 e4 => ?_)
  rw [e1] at e3
  cases e3
  rcases e4 with ⟨g1, -⟩ | ⟨g1, -⟩ | ⟨g1, -⟩ | ⟨-, fs', k3, k4, k5⟩
  · cases g1
  · cases g1
  · cases g1
  refine Or.inr (Or.inr (Or.inr ⟨rfl, fs', k3, ?_, fun j a ha => ?_⟩))
  · show fs'.length = (xs.set j0 _).length
    rw [List.length_set]; exact k4
  · replace ha : (xs.set j0 (.inr (.inr (.inr (.inr (.inr (k, lo, hi)))))))[j]? = some a := ha
    by_cases e : j = j0
    · subst e
      have hlt : j < xs.length := (List.getElem?_eq_some_iff.mp hj).1
      rw [List.getElem?_set_self hlt] at ha
      cases ha
      have ef : fs' = fs := by
        have e9 := k3.symm.trans g3
        cases e9
        rfl
      refine ⟨.int y, by rw [ef]; exact f1, ?_⟩
      show Value.int y = .int (if k = k then y else ν k) ∧ lo ≤ (if k = k then y else ν k).toInt ∧ (if k = k then y else ν k).toInt ≤ hi
      rw [if_pos rfl, y1]
      exact ⟨rfl, l1, l2⟩
    · rw [List.getElem?_set_ne (fun h => e h.symm)] at ha
      exact k5 j a ha
end ELX
section ELR
variable {ν : Nat → Int32} {D : va_G} {τ : Nat → ClassId} {sa : List Nat} {ro : List ex_C} {A : Nat → Prop} {ws : va_W} {H : Heap} {L P : Nat}
theorem el_C.of {ν ν' : Nat → Int32} (h : el_C ν) (e1 : ν' 1010 = ν 1010) (e2 : ν' 1011 = ν 1011) (e3 : ν' 2000 = ν 2000) (e4 : ν' 2003 = ν 2003) (e5 : ν' 2230 = ν 2230) (e6 : ν' 2233 = ν 2233) : el_C ν' := by
  unfold el_C
  rw [e1, e2, e3, e4, e5, e6]
  exact h
theorem el_r1 (h : er_W ν D τ sa ro A (ex_fix (el_h L P) eih_c) ws H) : ∃ ν' : Nat → Int32, (∀ i, i ≠ 1 → ν' i = ν i) ∧ er_W ν' D τ sa ro A (el_h L P) ws H := by
  obtain ⟨ν', h1, h2⟩ := el_nmF (q := 46) (k := 1) (j0 := 1) (lo := 0) (hi := 300) h (by decide) rfl rfl (el_av (by decide +kernel))
  exact ⟨ν', h1, h2⟩
theorem el_r2 (h : er_W ν D τ sa ro A (ex_fix (el_h L P) eih_t) ws H) : ∃ ν' : Nat → Int32, (∀ i, i ≠ 2 → ν' i = ν i) ∧ er_W ν' D τ sa ro A (el_h L P) ws H := by
  obtain ⟨ν', h1, h2⟩ := el_nmF (q := 345) (k := 2) (j0 := 7) (lo := 0) (hi := 300) h (by decide) rfl rfl (el_av (by decide +kernel))
  exact ⟨ν', h1, h2⟩
theorem el_r3 (h : er_W ν D τ sa ro A (ex_fix (el_h L P) el_ih38) ws H) : ∃ ν' : Nat → Int32, (∀ i, i < 1000 ∨ 1002 ≤ i → ν' i = ν i) ∧ er_W ν' D τ sa ro A (el_h L P) ws H := by
  obtain ⟨ν', f, h1, h2, h3, h4⟩ := el_nmA (q := 45) (k := 1000) (t := 1) (ty := 1) (n := 2) (P := (el_ic54[13]!).2.2.2.1) (P' := (ei_c2[13]!).2.2.2.1) h (by decide) (Or.inr rfl) rfl (by decide +kernel) (by decide) (el_av (by decide +kernel))
  exact ⟨ν', h1, h4⟩
theorem el_r31 (h : er_W ν D τ sa ro A (ex_fix (el_h L P) el_ih31) ws H) : ∃ ν' : Nat → Int32, el_C ν' ∧ (∀ i, i < 1010 → ν' i = ν i) ∧ (ν' 1010).toInt = 1 ∧ (ν' 1011).toInt = 1 ∧ er_W ν' D τ sa ro A (el_h L P) ws H := by
  obtain ⟨ν1, f1, a1, a2, a3, a4⟩ := el_nmA (q := 348) (k := 1010) (t := 1) (ty := 1) (n := 2) (P := (el_ic47[12]!).2.2.2.1) (P' := (ei_c17[12]!).2.2.2.1) h (by decide) (Or.inr rfl) rfl (by decide +kernel) (by decide) (el_av (by decide +kernel))
  have b : er_W ν1 D τ sa ro A (ex_fix (el_h L P) (ex_hput el_ih31 348 (1, 1, 2, (ei_c17[12]!).2.2.2.1, [.inr (.inr (.inl (some 1010)))]))) ws H := a4
  obtain ⟨ν2, f2, b1, b2, b3, b4⟩ := el_nmA (q := 347) (k := 2000) (t := 0) (ty := 0) (n := 460) (P := (el_ic47[11]!).2.2.2.1) (P' := (ei_c17[11]!).2.2.2.1) b (by decide) (Or.inl rfl) rfl (by decide +kernel) (by decide) (el_av (by decide +kernel))
  have k0 : (ν2 1010).toInt = 1 := by
    have w := a2 0 (by decide)
    have g : ex_pg (el_ic47[12]!).2.2.2.1 0 = 9223372043297226753 := by decide +kernel
    have v : ν2 1010 = f1 0 := (b1 1010 (by omega)).trans (a3 0 (by decide))
    unfold er_w at w
    rw [g] at w
    rw [v]
    omega
  have k1 : (ν2 1011).toInt = 1 := by
    have w := a2 1 (by decide)
    have g : ex_pg (el_ic47[12]!).2.2.2.1 1 = 9223372043297226753 := by decide +kernel
    have v : ν2 1011 = f1 1 := (b1 1011 (by omega)).trans (a3 1 (by decide))
    unfold er_w at w
    rw [g] at w
    rw [v]
    omega
  refine ⟨ν2, ⟨fun hk => ?_, fun hk => ?_⟩, fun i hi => (b1 i (by omega)).trans (a1 i (by omega)), k0, k1, b4⟩
  · have w0 := b2 0 (by decide)
    have g0 : ex_pg (el_ic47[11]!).2.2.2.1 0 % 4294967296 = 2147483650 := by decide +kernel
    have v0 : ν2 2000 = f2 0 := b3 0 (by decide)
    have w3 := b2 3 (by decide)
    have g3 : ex_pg (el_ic47[11]!).2.2.2.1 3 % 4294967296 = 2147483649 := by decide +kernel
    have v3 : ν2 2003 = f2 3 := b3 3 (by decide)
    unfold er_w at w0 w3
    rw [g0] at w0
    rw [g3] at w3
    rw [v0, v3]
    constructor <;> omega
  · have w0 := b2 230 (by decide)
    have g0 : ex_pg (el_ic47[11]!).2.2.2.1 230 % 4294967296 = 2147483650 := by decide +kernel
    have v0 : ν2 2230 = f2 230 := b3 230 (by decide)
    have w3 := b2 233 (by decide)
    have g3 : ex_pg (el_ic47[11]!).2.2.2.1 233 % 4294967296 = 2147483649 := by decide +kernel
    have v3 : ν2 2233 = f2 233 := b3 233 (by decide)
    unfold er_w at w0 w3
    rw [g0] at w0
    rw [g3] at w3
    rw [v0, v3]
    constructor <;> omega
theorem el_r33 (h : er_W ν D τ sa ro A (ex_fix (el_h L P) el_ih33) ws H) : ∃ ν' : Nat → Int32, el_C ν' ∧ (∀ i, i < 1010 → ν' i = ν i) ∧ (ν' 1010).toInt = 1 ∧ (ν' 1011).toInt = 0 ∧ er_W ν' D τ sa ro A (el_h L P) ws H := by
  obtain ⟨ν1, f1, a1, a2, a3, a4⟩ := el_nmA (q := 348) (k := 1010) (t := 1) (ty := 1) (n := 2) (P := (el_ic49[12]!).2.2.2.1) (P' := (ei_c17[12]!).2.2.2.1) h (by decide) (Or.inr rfl) rfl (by decide +kernel) (by decide) (el_av (by decide +kernel))
  have b : er_W ν1 D τ sa ro A (ex_fix (el_h L P) (ex_hput el_ih33 348 (1, 1, 2, (ei_c17[12]!).2.2.2.1, [.inr (.inr (.inl (some 1010)))]))) ws H := a4
  obtain ⟨ν2, f2, b1, b2, b3, b4⟩ := el_nmA (q := 347) (k := 2000) (t := 0) (ty := 0) (n := 460) (P := (el_ic49[11]!).2.2.2.1) (P' := (ei_c17[11]!).2.2.2.1) b (by decide) (Or.inl rfl) rfl (by decide +kernel) (by decide) (el_av (by decide +kernel))
  have k0 : (ν2 1010).toInt = 1 := by
    have w := a2 0 (by decide)
    have g : ex_pg (el_ic49[12]!).2.2.2.1 0 = 9223372043297226753 := by decide +kernel
    have v : ν2 1010 = f1 0 := (b1 1010 (by omega)).trans (a3 0 (by decide))
    unfold er_w at w
    rw [g] at w
    rw [v]
    omega
  have k1 : (ν2 1011).toInt = 0 := by
    have w := a2 1 (by decide)
    have g : ex_pg (el_ic49[12]!).2.2.2.1 1 = 9223372039002259456 := by decide +kernel
    have v : ν2 1011 = f1 1 := (b1 1011 (by omega)).trans (a3 1 (by decide))
    unfold er_w at w
    rw [g] at w
    rw [v]
    omega
  refine ⟨ν2, ⟨fun hk => ?_, fun hk => ?_⟩, fun i hi => (b1 i (by omega)).trans (a1 i (by omega)), k0, k1, b4⟩
  · have w0 := b2 0 (by decide)
    have g0 : ex_pg (el_ic49[11]!).2.2.2.1 0 % 4294967296 = 2147483650 := by decide +kernel
    have v0 : ν2 2000 = f2 0 := b3 0 (by decide)
    have w3 := b2 3 (by decide)
    have g3 : ex_pg (el_ic49[11]!).2.2.2.1 3 % 4294967296 = 2147483649 := by decide +kernel
    have v3 : ν2 2003 = f2 3 := b3 3 (by decide)
    unfold er_w at w0 w3
    rw [g0] at w0
    rw [g3] at w3
    rw [v0, v3]
    constructor <;> omega
  · exfalso
    omega
theorem el_r37 (h : er_W ν D τ sa ro A (ex_fix (el_h L P) el_ih37) ws H) : ∃ ν' : Nat → Int32, el_C ν' ∧ (∀ i, i < 1010 → ν' i = ν i) ∧ (ν' 1010).toInt = 0 ∧ (ν' 1011).toInt = 1 ∧ er_W ν' D τ sa ro A (el_h L P) ws H := by
  obtain ⟨ν1, f1, a1, a2, a3, a4⟩ := el_nmA (q := 348) (k := 1010) (t := 1) (ty := 1) (n := 2) (P := (el_ic53[12]!).2.2.2.1) (P' := (ei_c17[12]!).2.2.2.1) h (by decide) (Or.inr rfl) rfl (by decide +kernel) (by decide) (el_av (by decide +kernel))
  have b : er_W ν1 D τ sa ro A (ex_fix (el_h L P) (ex_hput el_ih37 348 (1, 1, 2, (ei_c17[12]!).2.2.2.1, [.inr (.inr (.inl (some 1010)))]))) ws H := a4
  obtain ⟨ν2, f2, b1, b2, b3, b4⟩ := el_nmA (q := 347) (k := 2000) (t := 0) (ty := 0) (n := 460) (P := (el_ic53[11]!).2.2.2.1) (P' := (ei_c17[11]!).2.2.2.1) b (by decide) (Or.inl rfl) rfl (by decide +kernel) (by decide) (el_av (by decide +kernel))
  have k0 : (ν2 1010).toInt = 0 := by
    have w := a2 0 (by decide)
    have g : ex_pg (el_ic53[12]!).2.2.2.1 0 = 9223372039002259456 := by decide +kernel
    have v : ν2 1010 = f1 0 := (b1 1010 (by omega)).trans (a3 0 (by decide))
    unfold er_w at w
    rw [g] at w
    rw [v]
    omega
  have k1 : (ν2 1011).toInt = 1 := by
    have w := a2 1 (by decide)
    have g : ex_pg (el_ic53[12]!).2.2.2.1 1 = 9223372043297226753 := by decide +kernel
    have v : ν2 1011 = f1 1 := (b1 1011 (by omega)).trans (a3 1 (by decide))
    unfold er_w at w
    rw [g] at w
    rw [v]
    omega
  refine ⟨ν2, ⟨fun hk => ?_, fun hk => ?_⟩, fun i hi => (b1 i (by omega)).trans (a1 i (by omega)), k0, k1, b4⟩
  · exfalso
    omega
  · have w0 := b2 230 (by decide)
    have g0 : ex_pg (el_ic53[11]!).2.2.2.1 230 % 4294967296 = 2147483650 := by decide +kernel
    have v0 : ν2 2230 = f2 230 := b3 230 (by decide)
    have w3 := b2 233 (by decide)
    have g3 : ex_pg (el_ic53[11]!).2.2.2.1 233 % 4294967296 = 2147483649 := by decide +kernel
    have v3 : ν2 2233 = f2 233 := b3 233 (by decide)
    unfold er_w at w0 w3
    rw [g0] at w0
    rw [g3] at w3
    rw [v0, v3]
    constructor <;> omega
theorem el_t32 (hC : el_C ν) (hk : (ν 1011).toInt = 1) (h : er_W ν D τ sa ro A (el_h L P) ws H) : er_W ν D τ sa ro A (ex_fix (el_h L P) el_ih32) ws H := by
  have a : er_W ν D τ sa ro A (ex_hput (el_h L P) 348 (1, 1, 2, (el_ic48[12]!).2.2.2.1, [.inr (.inr (.inl (some 1010)))])) ws H := by
    refine el_tight (q := 348) (t := 1) (ty := 1) (n := 2) (k := 1010) (P := (ei_c17[12]!).2.2.2.1) (P' := (el_ic48[12]!).2.2.2.1) h (by decide) (Or.inr rfl) rfl (fun f hf hn => ?_)
    have e0 : ex_pg (ei_c17[12]!).2.2.2.1 0 = 9223372043297226752 := by decide +kernel
    have e1 : ex_pg (el_ic48[12]!).2.2.2.1 0 = 9223372043297226752 := by decide +kernel
    have e2 : ex_pg (el_ic48[12]!).2.2.2.1 1 = 9223372043297226753 := by decide +kernel
    have g0 := hf 0 (by decide)
    have g1 : f 1 = ν 1011 := hn 1 (by decide)
    rw [e0] at g0
    intro j hj
    match j, hj with
    | 0, _ => rw [e1]; exact g0
    | 1, _ =>
      rw [e2, g1]
      unfold er_w
      rw [hk]
      decide
    | j + 2, hj => omega
  refine el_tight (q := 347) (t := 0) (ty := 0) (n := 460) (k := 2000) (P := (ei_c17[11]!).2.2.2.1) (P' := (el_ic48[11]!).2.2.2.1) a (by decide) (Or.inl rfl) rfl (fun f hf hn => ?_)
  have key : ∀ j, j < 460 → j ≠ 230 → j ≠ 233 → ex_pg (el_ic48[11]!).2.2.2.1 j = ex_pg (ei_c17[11]!).2.2.2.1 j := by decide +kernel
  have e0 : ex_pg (el_ic48[11]!).2.2.2.1 230 = 9223372073361997826 := by decide +kernel
  have e3 : ex_pg (el_ic48[11]!).2.2.2.1 233 = 9223372142081474561 := by decide +kernel
  have d0 : ex_pg (ei_c17[11]!).2.2.2.1 230 = 9223372073361997824 := by decide +kernel
  have d3 : ex_pg (ei_c17[11]!).2.2.2.1 233 = 9223372142081474560 := by decide +kernel
  have g0 := hf 230 (by decide)
  have g3 := hf 233 (by decide)
  rw [d0] at g0
  rw [d3] at g3
  have n0 : f 230 = ν 2230 := hn 230 (by decide)
  have n3 : f 233 = ν 2233 := hn 233 (by decide)
  obtain ⟨c0, c3⟩ := hC.2 hk
  rw [← n0] at c0
  rw [← n3] at c3
  unfold er_w at g0 g3
  intro j hj
  by_cases q0 : j = 230
  · subst q0
    rw [e0]
    unfold er_w
    constructor <;> omega
  by_cases q3 : j = 233
  · subst q3
    rw [e3]
    unfold er_w
    constructor <;> omega
  rw [key j hj q0 q3]
  exact hf j hj
theorem el_t34 (hC : el_C ν) (hk : (ν 1011).toInt = 0) (h : er_W ν D τ sa ro A (el_h L P) ws H) : er_W ν D τ sa ro A (ex_fix (el_h L P) el_ih34) ws H := by
  have a : er_W ν D τ sa ro A (ex_hput (el_h L P) 348 (1, 1, 2, (el_ic50[12]!).2.2.2.1, [.inr (.inr (.inl (some 1010)))])) ws H := by
    refine el_tight (q := 348) (t := 1) (ty := 1) (n := 2) (k := 1010) (P := (ei_c17[12]!).2.2.2.1) (P' := (el_ic50[12]!).2.2.2.1) h (by decide) (Or.inr rfl) rfl (fun f hf hn => ?_)
    have e0 : ex_pg (ei_c17[12]!).2.2.2.1 0 = 9223372043297226752 := by decide +kernel
    have e1 : ex_pg (el_ic50[12]!).2.2.2.1 0 = 9223372043297226752 := by decide +kernel
    have e2 : ex_pg (el_ic50[12]!).2.2.2.1 1 = 9223372039002259456 := by decide +kernel
    have g0 := hf 0 (by decide)
    have g1 : f 1 = ν 1011 := hn 1 (by decide)
    rw [e0] at g0
    intro j hj
    match j, hj with
    | 0, _ => rw [e1]; exact g0
    | 1, _ =>
      rw [e2, g1]
      unfold er_w
      rw [hk]
      decide
    | j + 2, hj => omega
  exact a
theorem el_t35 (hC : el_C ν) (hk : (ν 1010).toInt = 1) (h : er_W ν D τ sa ro A (el_h L P) ws H) : er_W ν D τ sa ro A (ex_fix (el_h L P) el_ih35) ws H := by
  have a : er_W ν D τ sa ro A (ex_hput (el_h L P) 348 (1, 1, 2, (el_ic51[12]!).2.2.2.1, [.inr (.inr (.inl (some 1010)))])) ws H := by
    refine el_tight (q := 348) (t := 1) (ty := 1) (n := 2) (k := 1010) (P := (ei_c17[12]!).2.2.2.1) (P' := (el_ic51[12]!).2.2.2.1) h (by decide) (Or.inr rfl) rfl (fun f hf hn => ?_)
    have e0 : ex_pg (ei_c17[12]!).2.2.2.1 1 = 9223372043297226752 := by decide +kernel
    have e1 : ex_pg (el_ic51[12]!).2.2.2.1 1 = 9223372043297226752 := by decide +kernel
    have e2 : ex_pg (el_ic51[12]!).2.2.2.1 0 = 9223372043297226753 := by decide +kernel
    have g0 := hf 1 (by decide)
    have g1 : f 0 = ν 1010 := hn 0 (by decide)
    rw [e0] at g0
    intro j hj
    match j, hj with
    | 1, _ => rw [e1]; exact g0
    | 0, _ =>
      rw [e2, g1]
      unfold er_w
      rw [hk]
      decide
    | j + 2, hj => omega
  refine el_tight (q := 347) (t := 0) (ty := 0) (n := 460) (k := 2000) (P := (ei_c17[11]!).2.2.2.1) (P' := (el_ic51[11]!).2.2.2.1) a (by decide) (Or.inl rfl) rfl (fun f hf hn => ?_)
  have key : ∀ j, j < 460 → j ≠ 0 → j ≠ 3 → ex_pg (el_ic51[11]!).2.2.2.1 j = ex_pg (ei_c17[11]!).2.2.2.1 j := by decide +kernel
  have e0 : ex_pg (el_ic51[11]!).2.2.2.1 0 = 9223372073361997826 := by decide +kernel
  have e3 : ex_pg (el_ic51[11]!).2.2.2.1 3 = 9223372142081474561 := by decide +kernel
  have d0 : ex_pg (ei_c17[11]!).2.2.2.1 0 = 9223372073361997824 := by decide +kernel
  have d3 : ex_pg (ei_c17[11]!).2.2.2.1 3 = 9223372142081474560 := by decide +kernel
  have g0 := hf 0 (by decide)
  have g3 := hf 3 (by decide)
  rw [d0] at g0
  rw [d3] at g3
  have n0 : f 0 = ν 2000 := hn 0 (by decide)
  have n3 : f 3 = ν 2003 := hn 3 (by decide)
  obtain ⟨c0, c3⟩ := hC.1 hk
  rw [← n0] at c0
  rw [← n3] at c3
  unfold er_w at g0 g3
  intro j hj
  by_cases q0 : j = 0
  · subst q0
    rw [e0]
    unfold er_w
    constructor <;> omega
  by_cases q3 : j = 3
  · subst q3
    rw [e3]
    unfold er_w
    constructor <;> omega
  rw [key j hj q0 q3]
  exact hf j hj
theorem el_t36 (hC : el_C ν) (hk : (ν 1010).toInt = 0) (h : er_W ν D τ sa ro A (el_h L P) ws H) : er_W ν D τ sa ro A (ex_fix (el_h L P) el_ih36) ws H := by
  have a : er_W ν D τ sa ro A (ex_hput (el_h L P) 348 (1, 1, 2, (el_ic52[12]!).2.2.2.1, [.inr (.inr (.inl (some 1010)))])) ws H := by
    refine el_tight (q := 348) (t := 1) (ty := 1) (n := 2) (k := 1010) (P := (ei_c17[12]!).2.2.2.1) (P' := (el_ic52[12]!).2.2.2.1) h (by decide) (Or.inr rfl) rfl (fun f hf hn => ?_)
    have e0 : ex_pg (ei_c17[12]!).2.2.2.1 1 = 9223372043297226752 := by decide +kernel
    have e1 : ex_pg (el_ic52[12]!).2.2.2.1 1 = 9223372043297226752 := by decide +kernel
    have e2 : ex_pg (el_ic52[12]!).2.2.2.1 0 = 9223372039002259456 := by decide +kernel
    have g0 := hf 1 (by decide)
    have g1 : f 0 = ν 1010 := hn 0 (by decide)
    rw [e0] at g0
    intro j hj
    match j, hj with
    | 1, _ => rw [e1]; exact g0
    | 0, _ =>
      rw [e2, g1]
      unfold er_w
      rw [hk]
      decide
    | j + 2, hj => omega
  exact a
theorem el_two0 (h : er_W ν D τ sa ro A (el_h L P) ws H) : (ν 1010).toInt = 0 ∨ (ν 1010).toInt = 1 := by
  obtain ⟨x, e1, e2⟩ := h.2.2.2.2 348 (1, 1, 2, (ei_c17[12]!).2.2.2.1, [.inr (.inr (.inl (some 1010)))]) (by decide) rfl
  rcases e2 with ⟨g1, -⟩ | ⟨-, f, -, g3, g4⟩ | ⟨g1, -⟩ | ⟨g1, -⟩
  · cases g1
  · have e0 : ex_pg (ei_c17[12]!).2.2.2.1 0 = 9223372043297226752 := by decide +kernel
    have g0 := g3 0 (by decide)
    replace g4 : ∀ j, j < 2 → f j = ν (1010 + j) := g4
    have n0 : f 0 = ν 1010 := g4 0 (by decide)
    rw [e0, n0] at g0
    unfold er_w at g0
    omega
  · cases g1
  · cases g1
theorem el_two1 (h : er_W ν D τ sa ro A (el_h L P) ws H) : (ν 1011).toInt = 0 ∨ (ν 1011).toInt = 1 := by
  obtain ⟨x, e1, e2⟩ := h.2.2.2.2 348 (1, 1, 2, (ei_c17[12]!).2.2.2.1, [.inr (.inr (.inl (some 1010)))]) (by decide) rfl
  rcases e2 with ⟨g1, -⟩ | ⟨-, f, -, g3, g4⟩ | ⟨g1, -⟩ | ⟨g1, -⟩
  · cases g1
  · have e0 : ex_pg (ei_c17[12]!).2.2.2.1 1 = 9223372043297226752 := by decide +kernel
    have g0 := g3 1 (by decide)
    replace g4 : ∀ j, j < 2 → f j = ν (1010 + j) := g4
    have n0 : f 1 = ν 1011 := g4 1 (by decide)
    rw [e0, n0] at g0
    unfold er_w at g0
    omega
  · cases g1
  · cases g1
theorem el_F.lo {ν ν' : Nat → Int32} (h : el_F ν) (e : ∀ i, i < 2600 → ν' i = ν i) : el_F ν' := ⟨h.1.of (e _ (by decide)) (e _ (by decide)) (e _ (by decide)) (e _ (by decide)) (e _ (by decide)) (e _ (by decide)), by rw [e 1 (by decide), e 2 (by decide)]; exact h.2⟩
theorem el_q13 (hF : el_F ν) (h : er_W ν D τ sa ro A (ex_fix (el_h L P) eih_a) ws H) : ∃ ν' : Nat → Int32, el_F ν' ∧ er_W ν' D τ sa ro A (el_h L P) ws H := by
  obtain ⟨ν', f, h1, h2, h3, h4⟩ := el_nmA (q := 349) (k := 2600) (t := 0) (ty := 0) (n := 230) (P := (ei_c17[13]!).2.2.2.1) (P' := (ei_c17[13]!).2.2.2.1) h (by decide) (Or.inl rfl) rfl (by decide +kernel) (by decide) (el_av (by decide +kernel))
  exact ⟨ν', hF.lo (fun i hi => h1 i (by omega)), h4⟩
theorem el_q3 (hF : el_F ν) (h : er_W ν D τ sa ro A (ex_fix (el_h L P) el_ih38) ws H) : ∃ ν' : Nat → Int32, el_F ν' ∧ er_W ν' D τ sa ro A (el_h L P) ws H := by
  obtain ⟨ν', h1, h2⟩ := el_r3 h
  have hC : el_C ν' := hF.1.of (h1 _ (by omega)) (h1 _ (by omega)) (h1 _ (by omega)) (h1 _ (by omega)) (h1 _ (by omega)) (h1 _ (by omega))
  exact ⟨ν', ⟨hC, by rw [h1 1 (by omega), h1 2 (by omega)]; exact hF.2⟩, h2⟩
theorem el_q31 (hF : el_F ν) (h : er_W ν D τ sa ro A (ex_fix (el_h L P) el_ih31) ws H) : ∃ ν' : Nat → Int32, el_F ν' ∧ er_W ν' D τ sa ro A (el_h L P) ws H := by
  obtain ⟨ν', hC, h1, -, -, h2⟩ := el_r31 h
  exact ⟨ν', ⟨hC, by rw [h1 1 (by omega), h1 2 (by omega)]; exact hF.2⟩, h2⟩
theorem el_q33 (hF : el_F ν) (h : er_W ν D τ sa ro A (ex_fix (el_h L P) el_ih33) ws H) : ∃ ν' : Nat → Int32, el_F ν' ∧ er_W ν' D τ sa ro A (el_h L P) ws H := by
  obtain ⟨ν', hC, h1, -, -, h2⟩ := el_r33 h
  exact ⟨ν', ⟨hC, by rw [h1 1 (by omega), h1 2 (by omega)]; exact hF.2⟩, h2⟩
theorem el_q37 (hF : el_F ν) (h : er_W ν D τ sa ro A (ex_fix (el_h L P) el_ih37) ws H) : ∃ ν' : Nat → Int32, el_F ν' ∧ er_W ν' D τ sa ro A (el_h L P) ws H := by
  obtain ⟨ν', hC, h1, -, -, h2⟩ := el_r37 h
  exact ⟨ν', ⟨hC, by rw [h1 1 (by omega), h1 2 (by omega)]; exact hF.2⟩, h2⟩
end ELR
