/-! The law's frame, by hand: other names for a heap's ints. Written by hand (wip/p3/law2.lean). -/
def ex_avV (lo hi : Nat) (v : ex_V) : Bool := match v with
  | .inr (.inr (.inr (.inr (.inr q)))) => Nat.blt q.1 lo || Nat.blt hi q.1
  | _ => true
def ex_avN (lo hi n : Nat) (xs : List ex_V) : Bool := match xs with
  | .inr (.inr (.inl (some k))) :: _ => Nat.ble (k + n) lo || Nat.blt hi k
  | _ => true
/-- a cell's names lie outside some numbers -/
def ex_avC (lo hi : Nat) (c : ex_C) : Bool := bif Nat.ble 2 c.1 then c.2.2.2.2.all (ex_avV lo hi) else ex_avN lo hi c.2.2.1 c.2.2.2.2
def ex_avH (lo hi : Nat) (hp : ex_H) : Bool := hp.2.all (fun ch => ch.all (ex_avC lo hi))
theorem ex_avH_ok {lo hi : Nat} {hp : ex_H} (h : ex_avH lo hi hp = true) {q : Nat} {c : ex_C} (hc : ex_at hp q = some c) : ex_avC lo hi c = true := by
  unfold ex_at at hc
  cases hch : hp.2[q / 16]? with
  | none => rw [hch] at hc; cases hc
  | some ch =>
    rw [hch] at hc
    replace hc : ch[q % 16]? = some c := hc
    exact List.all_eq_true.mp (List.all_eq_true.mp h ch (List.mem_of_getElem? hch)) c (List.mem_of_getElem? hc)
theorem er_V.ren {ν ν' : Nat → Int32} {sa : List Nat} {ws : va_W} {lo hi : Nat} (hν : ∀ k, k < lo ∨ hi < k → ν' k = ν k) {a : ex_V} {v : Value} (ha : ex_avV lo hi a = true) (h : er_V (er_r ν sa ws) a v) : er_V (er_r ν' sa ws) a v := by
  match a, ha, h with
  | .inl z, _, h => exact h
  | .inr (.inl z), _, h => exact h
  | .inr (.inr (.inl none)), _, h => exact h
  | .inr (.inr (.inl (some k))), _, h => exact h
  | .inr (.inr (.inr (.inl q))), _, h => exact h
  | .inr (.inr (.inr (.inr (.inl q)))), _, h => exact h
  | .inr (.inr (.inr (.inr (.inr q)))), ha, h =>
    replace ha : (Nat.blt q.1 lo || Nat.blt hi q.1) = true := ha
    rw [Bool.or_eq_true, Nat.blt_eq, Nat.blt_eq] at ha
    have e : ν' q.1 = ν q.1 := hν _ ha
    replace h : v = .int (ν q.1) ∧ q.2.1 ≤ (ν q.1).toInt ∧ (ν q.1).toInt ≤ q.2.2 := h
    show v = .int (ν' q.1) ∧ q.2.1 ≤ (ν' q.1).toInt ∧ (ν' q.1).toInt ≤ q.2.2
    rw [e]; exact h
theorem er_nm.ren {ν ν' : Nat → Int32} {lo hi n : Nat} (hν : ∀ k, k < lo ∨ hi < k → ν' k = ν k) {xs : List ex_V} {f : Nat → Int32} (ha : ex_avN lo hi n xs = true) (h : er_nm ν n xs f) : er_nm ν' n xs f := by
  unfold ex_avN at ha
  split at ha
  · rename_i k r
    replace h : ∀ j, j < n → f j = ν (k + j) := h
    show ∀ j, j < n → f j = ν' (k + j)
    rw [Bool.or_eq_true, Nat.ble_eq, Nat.blt_eq] at ha
    intro j hj
    rw [h j hj, hν (k + j) (by omega)]
  · rename_i hne
    unfold er_nm
    split
    · rename_i k r
      exact absurd rfl (hne k r)
    · exact trivial
theorem er_C.ren {τ : Nat → ClassId} {ν ν' : Nat → Int32} {sa : List Nat} {ws : va_W} {lo hi : Nat} (hν : ∀ k, k < lo ∨ hi < k → ν' k = ν k) {c : ex_C} {e : va_E} (ha : ex_avC lo hi c = true) (h : er_C τ (er_r ν sa ws) c e) : er_C τ (er_r ν' sa ws) c e := by
  obtain ⟨t, ty, n, p, xs⟩ := c
  replace ha : (bif Nat.ble 2 t then xs.all (ex_avV lo hi) else ex_avN lo hi n xs) = true := ha
  rcases h with ⟨g1, f, g2, g3, g4⟩ | ⟨g1, f, g2, g3, g4⟩ | ⟨g1, g2, f, g3, g4⟩ | ⟨g1, fs, g3, g4, g5⟩
  · cases g1; exact Or.inl ⟨rfl, f, g2, g3, er_nm.ren hν ha g4⟩
  · cases g1; exact Or.inr (Or.inl ⟨rfl, f, g2, g3, er_nm.ren hν ha g4⟩)
  · cases g1
    exact Or.inr (Or.inr (Or.inl ⟨rfl, g2, f, g3, fun j a hj => (g4 j a hj).ren hν (List.all_eq_true.mp ha a (List.mem_of_getElem? hj))⟩))
  · cases g1
    refine Or.inr (Or.inr (Or.inr ⟨rfl, fs, g3, g4, fun j a hj => ?_⟩))
    obtain ⟨v, e1, e2⟩ := g5 j a hj
    exact ⟨v, e1, e2.ren hν (List.all_eq_true.mp ha a (List.mem_of_getElem? hj))⟩
section ELN
variable {ν ν' : Nat → Int32} {D : va_G} {τ : Nat → ClassId} {sa : List Nat} {ro : List ex_C} {A : Nat → Prop} {hp : ex_H} {ws : va_W} {H : Heap} {lo hi : Nat}
theorem er_W.ren (h : er_W ν D τ sa ro A hp ws H) (hν : ∀ k, k < lo ∨ hi < k → ν' k = ν k) (hav : ∀ (q : Nat) (c : ex_C), 5 ≤ q → ex_at hp q = some c → ex_avC lo hi c = true) : er_W ν' D τ sa ro A hp ws H := by
  obtain ⟨h1, h2, h3, h4, h5⟩ := h
  refine ⟨h1, h2, h3, h4, fun q c hq hc => ?_⟩
  obtain ⟨x, e1, e2⟩ := h5 q c hq hc
  exact ⟨x, e1, e2.ren hν (hav q c hq hc)⟩
theorem el_put (h : er_W ν D τ sa ro A hp ws H) {q : Nat} {c c' : ex_C} (hq : 5 ≤ q) (hc : ex_at hp q = some c) (hi : ∀ x, ws[q - 5]? = some x → er_C τ (er_r ν sa ws) c x.2 → er_C τ (er_r ν sa ws) c' x.2) : er_W ν D τ sa ro A (ex_hput hp q c') ws H := by
  obtain ⟨h1, h2, h3, h4, h5⟩ := h
  refine ⟨h1, h2, h3, fun j d hj hd => ?_, fun j d hj hd => ?_⟩
  · rw [ex_hput_at hc, if_neg (by omega)] at hd
    exact h4 j d hj hd
  · rw [ex_hput_at hc] at hd
    by_cases e : j = q
    · rw [if_pos e] at hd
      cases hd
      subst e
      obtain ⟨x, e1, e2⟩ := h5 j c hj hc
      exact ⟨x, e1, hi x e1 e2⟩
    · rw [if_neg e] at hd
      exact h5 j d hj hd
/-- an object's int gets a name -/
theorem el_nmF {q ty n P j0 k : Nat} {lo hi : Int} {xs : List ex_V} (h : er_W ν D τ sa ro A hp ws H) (hq : 5 ≤ q) (hc : ex_at hp q = some (3, ty, n, P, xs)) (hj : xs[j0]? = some (.inr (.inr (.inr (.inl (lo, hi)))))) (hav : ∀ (q : Nat) (c : ex_C), 5 ≤ q → ex_at hp q = some c → ex_avC k k c = true) : ∃ ν' : Nat → Int32, (∀ i, i ≠ k → ν' i = ν i) ∧ er_W ν' D τ sa ro A (ex_hput hp q (3, ty, n, P, xs.set j0 (.inr (.inr (.inr (.inr (.inr (k, lo, hi)))))))) ws H := by
  obtain ⟨x, e1, e2⟩ := h.2.2.2.2 q _ hq hc
  rcases e2 with ⟨g1, -⟩ | ⟨g1, -⟩ | ⟨g1, -⟩ | ⟨-, fs, g3, g4, g5⟩
  · cases g1
  · cases g1
  · cases g1
  obtain ⟨v, f1, y, rfl, y1, y2⟩ := g5 j0 _ hj
  refine ⟨fun i => if i = k then y else ν i, fun i hi => if_neg hi, ?_⟩
  have h' := h.ren (ν' := fun i => if i = k then y else ν i) (lo := k) (hi := k) (fun i hi => if_neg (by omega)) hav
  refine el_put h' hq hc (fun x' e3 e4 => ?_)
  rw [e1] at e3
  cases e3
  rcases e4 with ⟨g1, -⟩ | ⟨g1, -⟩ | ⟨g1, -⟩ | ⟨-, fs', k3, k4, k5⟩
  · cases g1
  · cases g1
  · cases g1
  refine Or.inr (Or.inr (Or.inr ⟨rfl, fs', k3, ?_, fun j a ha => ?_⟩))
  · show fs'.length = (xs.set j0 _).length
    rw [List.length_set]; exact k4
  · replace ha : (xs.set j0 (.inr (.inr (.inr (.inr (.inr (k, lo, hi)))))))[j]? = some a := ha
    by_cases e : j = j0
    · subst e
      have hlt : j < xs.length := (List.getElem?_eq_some_iff.mp hj).1
      rw [List.getElem?_set_self hlt] at ha
      cases ha
      have ef : fs' = fs := by
        have e9 := k3.symm.trans g3
        cases e9
        rfl
      refine ⟨.int y, by rw [ef]; exact f1, ?_⟩
      show Value.int y = .int (if k = k then y else ν k) ∧ lo ≤ (if k = k then y else ν k).toInt ∧ (if k = k then y else ν k).toInt ≤ hi
      rw [if_pos rfl]
      exact ⟨rfl, y1, y2⟩
    · rw [List.getElem?_set_ne (fun h => e h.symm)] at ha
      exact k5 j a ha
/-- an array's ints get names -/
theorem el_nmA {q t ty n P P' k : Nat} (h : er_W ν D τ sa ro A hp ws H) (hq : 5 ≤ q) (ht : t = 0 ∨ t = 1) (hc : ex_at hp q = some (t, ty, n, P, [])) (hle : ex_leA n P P' = true) (hn : 0 < n) (hav : ∀ (q : Nat) (c : ex_C), 5 ≤ q → ex_at hp q = some c → ex_avC k (k + n - 1) c = true) : ∃ (ν' : Nat → Int32) (f : Nat → Int32), (∀ i, i < k ∨ k + n ≤ i → ν' i = ν i) ∧ er_A n P f ∧ (∀ j, j < n → ν' (k + j) = f j) ∧ er_W ν' D τ sa ro A (ex_hput hp q (t, ty, n, P', [.inr (.inr (.inl (some k)))])) ws H := by
  obtain ⟨x, e1, e2⟩ := h.2.2.2.2 q _ hq hc
  have key : ∃ f : Nat → Int32, x.2 = .inl (τ t, n, .inl f) ∧ er_A n P f := by
    rcases e2 with ⟨g1, f, g2, g3, -⟩ | ⟨g1, f, g2, g3, -⟩ | ⟨g1, -⟩ | ⟨g1, -⟩
    · replace g1 : t = 0 := g1
      subst g1; exact ⟨f, g2, g3⟩
    · replace g1 : t = 1 := g1
      subst g1; exact ⟨f, g2, g3⟩
    · replace g1 : t = 2 := g1
      omega
    · replace g1 : t = 3 := g1
      omega
  obtain ⟨f, g2, g3⟩ := key
  refine ⟨fun i => if k ≤ i ∧ i < k + n then f (i - k) else ν i, f, fun i hi => if_neg (by omega), g3, fun j hj => ?_, ?_⟩
  · show (if k ≤ k + j ∧ k + j < k + n then f (k + j - k) else ν (k + j)) = f j
    rw [if_pos (by omega), Nat.add_sub_cancel_left]
  have h' := h.ren (ν' := fun i => if k ≤ i ∧ i < k + n then f (i - k) else ν i) (lo := k) (hi := k + n - 1) (fun i hi => if_neg (by omega)) hav
  refine el_put h' hq hc (fun x' e3 e4 => ?_)
  rw [e1] at e3
  cases e3
  have hnm : er_nm (fun i => if k ≤ i ∧ i < k + n then f (i - k) else ν i) n [.inr (.inr (.inl (some k)))] f := by
    show ∀ j, j < n → f j = (if k ≤ k + j ∧ k + j < k + n then f (k + j - k) else ν (k + j))
    intro j hj
    rw [if_pos (by omega), Nat.add_sub_cancel_left]
  rcases ht with rfl | rfl
  · exact Or.inl ⟨rfl, f, g2, ex_leA_ok hle g3, hnm⟩
  · exact Or.inr (Or.inl ⟨rfl, f, g2, ex_leA_ok hle g3, hnm⟩)
/-- an array with names between closer bounds -/
theorem el_tight {q t ty n P P' k : Nat} (h : er_W ν D τ sa ro A hp ws H) (hq : 5 ≤ q) (ht : t = 0 ∨ t = 1) (hc : ex_at hp q = some (t, ty, n, P, [.inr (.inr (.inl (some k)))])) (hA : ∀ f : Nat → Int32, er_A n P f → (∀ j, j < n → f j = ν (k + j)) → er_A n P' f) : er_W ν D τ sa ro A (ex_hput hp q (t, ty, n, P', [.inr (.inr (.inl (some k)))])) ws H := by
  refine el_put h hq hc (fun x e1 e2 => ?_)
  rcases e2 with ⟨g1, f, g2, g3, g4⟩ | ⟨g1, f, g2, g3, g4⟩ | ⟨g1, -⟩ | ⟨g1, -⟩
  · replace g1 : t = 0 := g1
    subst g1; exact Or.inl ⟨rfl, f, g2, hA f g3 g4, g4⟩
  · replace g1 : t = 1 := g1
    subst g1; exact Or.inr (Or.inl ⟨rfl, f, g2, hA f g3 g4, g4⟩)
  · replace g1 : t = 2 := g1
    omega
  · replace g1 : t = 3 := g1
    omega
theorem el_av {L P : Nat} {X : ex_H} (h : ex_avH lo hi X = true) : ∀ (q : Nat) (c : ex_C), 5 ≤ q → ex_at (ex_fix (el_h L P) X) q = some c → ex_avC lo hi c = true := fun q c hq hc => ex_avH_ok h (by rw [← (ex_fix_ok (el_h L P) X).2.2 q hq]; exact hc)
end ELN
section ELR
variable {ν : Nat → Int32} {D : va_G} {τ : Nat → ClassId} {sa : List Nat} {ro : List ex_C} {A : Nat → Prop} {ws : va_W} {H : Heap} {L P : Nat}
theorem el_C.of {ν ν' : Nat → Int32} (h : el_C ν) (e1 : ν' 1010 = ν 1010) (e2 : ν' 1011 = ν 1011) (e3 : ν' 2000 = ν 2000) (e4 : ν' 2003 = ν 2003) (e5 : ν' 2230 = ν 2230) (e6 : ν' 2233 = ν 2233) : el_C ν' := by
  unfold el_C
  rw [e1, e2, e3, e4, e5, e6]
  exact h
theorem el_r1 (hC : el_C ν) (h : er_W ν D τ sa ro A (ex_fix (el_h L P) eih_c) ws H) : ∃ ν' : Nat → Int32, el_C ν' ∧ er_W ν' D τ sa ro A (el_h L P) ws H := by
  obtain ⟨ν', h1, h2⟩ := el_nmF (q := 46) (k := 1) (j0 := 1) (lo := 0) (hi := 300) h (by decide) rfl rfl (el_av (by decide +kernel))
  exact ⟨ν', hC.of (h1 _ (by decide)) (h1 _ (by decide)) (h1 _ (by decide)) (h1 _ (by decide)) (h1 _ (by decide)) (h1 _ (by decide)), h2⟩
theorem el_r2 (hC : el_C ν) (h : er_W ν D τ sa ro A (ex_fix (el_h L P) eih_t) ws H) : ∃ ν' : Nat → Int32, el_C ν' ∧ er_W ν' D τ sa ro A (el_h L P) ws H := by
  obtain ⟨ν', h1, h2⟩ := el_nmF (q := 345) (k := 2) (j0 := 7) (lo := 0) (hi := 300) h (by decide) rfl rfl (el_av (by decide +kernel))
  exact ⟨ν', hC.of (h1 _ (by decide)) (h1 _ (by decide)) (h1 _ (by decide)) (h1 _ (by decide)) (h1 _ (by decide)) (h1 _ (by decide)), h2⟩
theorem el_r3 (hC : el_C ν) (h : er_W ν D τ sa ro A (ex_fix (el_h L P) el_ih38) ws H) : ∃ ν' : Nat → Int32, el_C ν' ∧ er_W ν' D τ sa ro A (el_h L P) ws H := by
  obtain ⟨ν', f, h1, h2, h3, h4⟩ := el_nmA (q := 45) (k := 1000) (t := 1) (ty := 1) (n := 2) (P := (el_ic54[13]!).2.2.2.1) (P' := (ei_c2[13]!).2.2.2.1) h (by decide) (Or.inr rfl) rfl (by decide +kernel) (by decide) (el_av (by decide +kernel))
  exact ⟨ν', hC.of (h1 _ (by omega)) (h1 _ (by omega)) (h1 _ (by omega)) (h1 _ (by omega)) (h1 _ (by omega)) (h1 _ (by omega)), h4⟩
theorem el_r31 (h : er_W ν D τ sa ro A (ex_fix (el_h L P) el_ih31) ws H) : ∃ ν' : Nat → Int32, el_C ν' ∧ er_W ν' D τ sa ro A (el_h L P) ws H := by
  obtain ⟨ν1, f1, a1, a2, a3, a4⟩ := el_nmA (q := 348) (k := 1010) (t := 1) (ty := 1) (n := 2) (P := (el_ic47[12]!).2.2.2.1) (P' := (ei_c17[12]!).2.2.2.1) h (by decide) (Or.inr rfl) rfl (by decide +kernel) (by decide) (el_av (by decide +kernel))
  have b : er_W ν1 D τ sa ro A (ex_fix (el_h L P) (ex_hput el_ih31 348 (1, 1, 2, (ei_c17[12]!).2.2.2.1, [.inr (.inr (.inl (some 1010)))]))) ws H := a4
  obtain ⟨ν2, f2, b1, b2, b3, b4⟩ := el_nmA (q := 347) (k := 2000) (t := 0) (ty := 0) (n := 460) (P := (el_ic47[11]!).2.2.2.1) (P' := (ei_c17[11]!).2.2.2.1) b (by decide) (Or.inl rfl) rfl (by decide +kernel) (by decide) (el_av (by decide +kernel))
  refine ⟨ν2, ⟨fun hk => ?_, fun hk => ?_⟩, b4⟩
  · have w0 := b2 0 (by decide)
    have g0 : ex_pg (el_ic47[11]!).2.2.2.1 0 % 4294967296 = 2147483650 := by decide +kernel
    have v0 : ν2 2000 = f2 0 := b3 0 (by decide)
    have w3 := b2 3 (by decide)
    have g3 : ex_pg (el_ic47[11]!).2.2.2.1 3 % 4294967296 = 2147483649 := by decide +kernel
    have v3 : ν2 2003 = f2 3 := b3 3 (by decide)
    unfold er_w at w0 w3
    rw [g0] at w0
    rw [g3] at w3
    rw [v0, v3]
    constructor <;> omega
  · have w0 := b2 230 (by decide)
    have g0 : ex_pg (el_ic47[11]!).2.2.2.1 230 % 4294967296 = 2147483650 := by decide +kernel
    have v0 : ν2 2230 = f2 230 := b3 230 (by decide)
    have w3 := b2 233 (by decide)
    have g3 : ex_pg (el_ic47[11]!).2.2.2.1 233 % 4294967296 = 2147483649 := by decide +kernel
    have v3 : ν2 2233 = f2 233 := b3 233 (by decide)
    unfold er_w at w0 w3
    rw [g0] at w0
    rw [g3] at w3
    rw [v0, v3]
    constructor <;> omega
theorem el_r33 (h : er_W ν D τ sa ro A (ex_fix (el_h L P) el_ih33) ws H) : ∃ ν' : Nat → Int32, el_C ν' ∧ er_W ν' D τ sa ro A (el_h L P) ws H := by
  obtain ⟨ν1, f1, a1, a2, a3, a4⟩ := el_nmA (q := 348) (k := 1010) (t := 1) (ty := 1) (n := 2) (P := (el_ic49[12]!).2.2.2.1) (P' := (ei_c17[12]!).2.2.2.1) h (by decide) (Or.inr rfl) rfl (by decide +kernel) (by decide) (el_av (by decide +kernel))
  have b : er_W ν1 D τ sa ro A (ex_fix (el_h L P) (ex_hput el_ih33 348 (1, 1, 2, (ei_c17[12]!).2.2.2.1, [.inr (.inr (.inl (some 1010)))]))) ws H := a4
  obtain ⟨ν2, f2, b1, b2, b3, b4⟩ := el_nmA (q := 347) (k := 2000) (t := 0) (ty := 0) (n := 460) (P := (el_ic49[11]!).2.2.2.1) (P' := (ei_c17[11]!).2.2.2.1) b (by decide) (Or.inl rfl) rfl (by decide +kernel) (by decide) (el_av (by decide +kernel))
  refine ⟨ν2, ⟨fun hk => ?_, fun hk => ?_⟩, b4⟩
  · have w0 := b2 0 (by decide)
    have g0 : ex_pg (el_ic49[11]!).2.2.2.1 0 % 4294967296 = 2147483650 := by decide +kernel
    have v0 : ν2 2000 = f2 0 := b3 0 (by decide)
    have w3 := b2 3 (by decide)
    have g3 : ex_pg (el_ic49[11]!).2.2.2.1 3 % 4294967296 = 2147483649 := by decide +kernel
    have v3 : ν2 2003 = f2 3 := b3 3 (by decide)
    unfold er_w at w0 w3
    rw [g0] at w0
    rw [g3] at w3
    rw [v0, v3]
    constructor <;> omega
  · exfalso
    have w := a2 1 (by decide)
    have g : ex_pg (el_ic49[12]!).2.2.2.1 1 / 4294967296 = 2147483648 := by decide +kernel
    have v : ν2 1011 = f1 1 := (b1 1011 (by omega)).trans (a3 1 (by decide))
    unfold er_w at w
    rw [g] at w
    rw [v] at hk
    omega
theorem el_r37 (h : er_W ν D τ sa ro A (ex_fix (el_h L P) el_ih37) ws H) : ∃ ν' : Nat → Int32, el_C ν' ∧ er_W ν' D τ sa ro A (el_h L P) ws H := by
  obtain ⟨ν1, f1, a1, a2, a3, a4⟩ := el_nmA (q := 348) (k := 1010) (t := 1) (ty := 1) (n := 2) (P := (el_ic53[12]!).2.2.2.1) (P' := (ei_c17[12]!).2.2.2.1) h (by decide) (Or.inr rfl) rfl (by decide +kernel) (by decide) (el_av (by decide +kernel))
  have b : er_W ν1 D τ sa ro A (ex_fix (el_h L P) (ex_hput el_ih37 348 (1, 1, 2, (ei_c17[12]!).2.2.2.1, [.inr (.inr (.inl (some 1010)))]))) ws H := a4
  obtain ⟨ν2, f2, b1, b2, b3, b4⟩ := el_nmA (q := 347) (k := 2000) (t := 0) (ty := 0) (n := 460) (P := (el_ic53[11]!).2.2.2.1) (P' := (ei_c17[11]!).2.2.2.1) b (by decide) (Or.inl rfl) rfl (by decide +kernel) (by decide) (el_av (by decide +kernel))
  refine ⟨ν2, ⟨fun hk => ?_, fun hk => ?_⟩, b4⟩
  · exfalso
    have w := a2 0 (by decide)
    have g : ex_pg (el_ic53[12]!).2.2.2.1 0 / 4294967296 = 2147483648 := by decide +kernel
    have v : ν2 1010 = f1 0 := (b1 1010 (by omega)).trans (a3 0 (by decide))
    unfold er_w at w
    rw [g] at w
    rw [v] at hk
    omega
  · have w0 := b2 230 (by decide)
    have g0 : ex_pg (el_ic53[11]!).2.2.2.1 230 % 4294967296 = 2147483650 := by decide +kernel
    have v0 : ν2 2230 = f2 230 := b3 230 (by decide)
    have w3 := b2 233 (by decide)
    have g3 : ex_pg (el_ic53[11]!).2.2.2.1 233 % 4294967296 = 2147483649 := by decide +kernel
    have v3 : ν2 2233 = f2 233 := b3 233 (by decide)
    unfold er_w at w0 w3
    rw [g0] at w0
    rw [g3] at w3
    rw [v0, v3]
    constructor <;> omega
theorem el_t32 (hC : el_C ν) (hk : (ν 1011).toInt = 1) (h : er_W ν D τ sa ro A (el_h L P) ws H) : er_W ν D τ sa ro A (ex_fix (el_h L P) el_ih32) ws H := by
  have a : er_W ν D τ sa ro A (ex_hput (el_h L P) 348 (1, 1, 2, (el_ic48[12]!).2.2.2.1, [.inr (.inr (.inl (some 1010)))])) ws H := by
    refine el_tight (q := 348) (t := 1) (ty := 1) (n := 2) (k := 1010) (P := (ei_c17[12]!).2.2.2.1) (P' := (el_ic48[12]!).2.2.2.1) h (by decide) (Or.inr rfl) rfl (fun f hf hn => ?_)
    have e0 : ex_pg (ei_c17[12]!).2.2.2.1 0 = 9223372043297226752 := by decide +kernel
    have e1 : ex_pg (el_ic48[12]!).2.2.2.1 0 = 9223372043297226752 := by decide +kernel
    have e2 : ex_pg (el_ic48[12]!).2.2.2.1 1 = 9223372043297226753 := by decide +kernel
    have g0 := hf 0 (by decide)
    have g1 : f 1 = ν 1011 := hn 1 (by decide)
    rw [e0] at g0
    intro j hj
    match j, hj with
    | 0, _ => rw [e1]; exact g0
    | 1, _ =>
      rw [e2, g1]
      unfold er_w
      rw [hk]
      decide
    | j + 2, hj => omega
  refine el_tight (q := 347) (t := 0) (ty := 0) (n := 460) (k := 2000) (P := (ei_c17[11]!).2.2.2.1) (P' := (el_ic48[11]!).2.2.2.1) a (by decide) (Or.inl rfl) rfl (fun f hf hn => ?_)
  have key : ∀ j, j < 460 → j ≠ 230 → j ≠ 233 → ex_pg (el_ic48[11]!).2.2.2.1 j = ex_pg (ei_c17[11]!).2.2.2.1 j := by decide +kernel
  have e0 : ex_pg (el_ic48[11]!).2.2.2.1 230 = 9223372073361997826 := by decide +kernel
  have e3 : ex_pg (el_ic48[11]!).2.2.2.1 233 = 9223372142081474561 := by decide +kernel
  have d0 : ex_pg (ei_c17[11]!).2.2.2.1 230 = 9223372073361997824 := by decide +kernel
  have d3 : ex_pg (ei_c17[11]!).2.2.2.1 233 = 9223372142081474560 := by decide +kernel
  have g0 := hf 230 (by decide)
  have g3 := hf 233 (by decide)
  rw [d0] at g0
  rw [d3] at g3
  have n0 : f 230 = ν 2230 := hn 230 (by decide)
  have n3 : f 233 = ν 2233 := hn 233 (by decide)
  obtain ⟨c0, c3⟩ := hC.2 hk
  rw [← n0] at c0
  rw [← n3] at c3
  unfold er_w at g0 g3
  intro j hj
  by_cases q0 : j = 230
  · subst q0
    rw [e0]
    unfold er_w
    constructor <;> omega
  by_cases q3 : j = 233
  · subst q3
    rw [e3]
    unfold er_w
    constructor <;> omega
  rw [key j hj q0 q3]
  exact hf j hj
theorem el_t34 (hC : el_C ν) (hk : (ν 1011).toInt = 0) (h : er_W ν D τ sa ro A (el_h L P) ws H) : er_W ν D τ sa ro A (ex_fix (el_h L P) el_ih34) ws H := by
  have a : er_W ν D τ sa ro A (ex_hput (el_h L P) 348 (1, 1, 2, (el_ic50[12]!).2.2.2.1, [.inr (.inr (.inl (some 1010)))])) ws H := by
    refine el_tight (q := 348) (t := 1) (ty := 1) (n := 2) (k := 1010) (P := (ei_c17[12]!).2.2.2.1) (P' := (el_ic50[12]!).2.2.2.1) h (by decide) (Or.inr rfl) rfl (fun f hf hn => ?_)
    have e0 : ex_pg (ei_c17[12]!).2.2.2.1 0 = 9223372043297226752 := by decide +kernel
    have e1 : ex_pg (el_ic50[12]!).2.2.2.1 0 = 9223372043297226752 := by decide +kernel
    have e2 : ex_pg (el_ic50[12]!).2.2.2.1 1 = 9223372039002259456 := by decide +kernel
    have g0 := hf 0 (by decide)
    have g1 : f 1 = ν 1011 := hn 1 (by decide)
    rw [e0] at g0
    intro j hj
    match j, hj with
    | 0, _ => rw [e1]; exact g0
    | 1, _ =>
      rw [e2, g1]
      unfold er_w
      rw [hk]
      decide
    | j + 2, hj => omega
  exact a
theorem el_t35 (hC : el_C ν) (hk : (ν 1010).toInt = 1) (h : er_W ν D τ sa ro A (el_h L P) ws H) : er_W ν D τ sa ro A (ex_fix (el_h L P) el_ih35) ws H := by
  have a : er_W ν D τ sa ro A (ex_hput (el_h L P) 348 (1, 1, 2, (el_ic51[12]!).2.2.2.1, [.inr (.inr (.inl (some 1010)))])) ws H := by
    refine el_tight (q := 348) (t := 1) (ty := 1) (n := 2) (k := 1010) (P := (ei_c17[12]!).2.2.2.1) (P' := (el_ic51[12]!).2.2.2.1) h (by decide) (Or.inr rfl) rfl (fun f hf hn => ?_)
    have e0 : ex_pg (ei_c17[12]!).2.2.2.1 1 = 9223372043297226752 := by decide +kernel
    have e1 : ex_pg (el_ic51[12]!).2.2.2.1 1 = 9223372043297226752 := by decide +kernel
    have e2 : ex_pg (el_ic51[12]!).2.2.2.1 0 = 9223372043297226753 := by decide +kernel
    have g0 := hf 1 (by decide)
    have g1 : f 0 = ν 1010 := hn 0 (by decide)
    rw [e0] at g0
    intro j hj
    match j, hj with
    | 1, _ => rw [e1]; exact g0
    | 0, _ =>
      rw [e2, g1]
      unfold er_w
      rw [hk]
      decide
    | j + 2, hj => omega
  refine el_tight (q := 347) (t := 0) (ty := 0) (n := 460) (k := 2000) (P := (ei_c17[11]!).2.2.2.1) (P' := (el_ic51[11]!).2.2.2.1) a (by decide) (Or.inl rfl) rfl (fun f hf hn => ?_)
  have key : ∀ j, j < 460 → j ≠ 0 → j ≠ 3 → ex_pg (el_ic51[11]!).2.2.2.1 j = ex_pg (ei_c17[11]!).2.2.2.1 j := by decide +kernel
  have e0 : ex_pg (el_ic51[11]!).2.2.2.1 0 = 9223372073361997826 := by decide +kernel
  have e3 : ex_pg (el_ic51[11]!).2.2.2.1 3 = 9223372142081474561 := by decide +kernel
  have d0 : ex_pg (ei_c17[11]!).2.2.2.1 0 = 9223372073361997824 := by decide +kernel
  have d3 : ex_pg (ei_c17[11]!).2.2.2.1 3 = 9223372142081474560 := by decide +kernel
  have g0 := hf 0 (by decide)
  have g3 := hf 3 (by decide)
  rw [d0] at g0
  rw [d3] at g3
  have n0 : f 0 = ν 2000 := hn 0 (by decide)
  have n3 : f 3 = ν 2003 := hn 3 (by decide)
  obtain ⟨c0, c3⟩ := hC.1 hk
  rw [← n0] at c0
  rw [← n3] at c3
  unfold er_w at g0 g3
  intro j hj
  by_cases q0 : j = 0
  · subst q0
    rw [e0]
    unfold er_w
    constructor <;> omega
  by_cases q3 : j = 3
  · subst q3
    rw [e3]
    unfold er_w
    constructor <;> omega
  rw [key j hj q0 q3]
  exact hf j hj
theorem el_t36 (hC : el_C ν) (hk : (ν 1010).toInt = 0) (h : er_W ν D τ sa ro A (el_h L P) ws H) : er_W ν D τ sa ro A (ex_fix (el_h L P) el_ih36) ws H := by
  have a : er_W ν D τ sa ro A (ex_hput (el_h L P) 348 (1, 1, 2, (el_ic52[12]!).2.2.2.1, [.inr (.inr (.inl (some 1010)))])) ws H := by
    refine el_tight (q := 348) (t := 1) (ty := 1) (n := 2) (k := 1010) (P := (ei_c17[12]!).2.2.2.1) (P' := (el_ic52[12]!).2.2.2.1) h (by decide) (Or.inr rfl) rfl (fun f hf hn => ?_)
    have e0 : ex_pg (ei_c17[12]!).2.2.2.1 1 = 9223372043297226752 := by decide +kernel
    have e1 : ex_pg (el_ic52[12]!).2.2.2.1 1 = 9223372043297226752 := by decide +kernel
    have e2 : ex_pg (el_ic52[12]!).2.2.2.1 0 = 9223372039002259456 := by decide +kernel
    have g0 := hf 1 (by decide)
    have g1 : f 0 = ν 1010 := hn 0 (by decide)
    rw [e0] at g0
    intro j hj
    match j, hj with
    | 1, _ => rw [e1]; exact g0
    | 0, _ =>
      rw [e2, g1]
      unfold er_w
      rw [hk]
      decide
    | j + 2, hj => omega
  exact a
theorem el_two0 (h : er_W ν D τ sa ro A (el_h L P) ws H) : (ν 1010).toInt = 0 ∨ (ν 1010).toInt = 1 := by
  obtain ⟨x, e1, e2⟩ := h.2.2.2.2 348 (1, 1, 2, (ei_c17[12]!).2.2.2.1, [.inr (.inr (.inl (some 1010)))]) (by decide) rfl
  rcases e2 with ⟨g1, -⟩ | ⟨-, f, -, g3, g4⟩ | ⟨g1, -⟩ | ⟨g1, -⟩
  · cases g1
  · have e0 : ex_pg (ei_c17[12]!).2.2.2.1 0 = 9223372043297226752 := by decide +kernel
    have g0 := g3 0 (by decide)
    replace g4 : ∀ j, j < 2 → f j = ν (1010 + j) := g4
    have n0 : f 0 = ν 1010 := g4 0 (by decide)
    rw [e0, n0] at g0
    unfold er_w at g0
    omega
  · cases g1
  · cases g1
theorem el_two1 (h : er_W ν D τ sa ro A (el_h L P) ws H) : (ν 1011).toInt = 0 ∨ (ν 1011).toInt = 1 := by
  obtain ⟨x, e1, e2⟩ := h.2.2.2.2 348 (1, 1, 2, (ei_c17[12]!).2.2.2.1, [.inr (.inr (.inl (some 1010)))]) (by decide) rfl
  rcases e2 with ⟨g1, -⟩ | ⟨-, f, -, g3, g4⟩ | ⟨g1, -⟩ | ⟨g1, -⟩
  · cases g1
  · have e0 : ex_pg (ei_c17[12]!).2.2.2.1 1 = 9223372043297226752 := by decide +kernel
    have g0 := g3 1 (by decide)
    replace g4 : ∀ j, j < 2 → f j = ν (1010 + j) := g4
    have n0 : f 1 = ν 1011 := g4 1 (by decide)
    rw [e0, n0] at g0
    unfold er_w at g0
    omega
  · cases g1
  · cases g1
end ELR
