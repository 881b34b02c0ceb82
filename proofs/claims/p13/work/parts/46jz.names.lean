/-! By hand: other names for a heap's ints. Written by hand (wip/p3/names.lean). -/
def ex_avV (lo hi : Nat) (v : ex_V) : Bool := match v with
  | .inr (.inr (.inr (.inr (.inr q)))) => Nat.blt q.1 lo || Nat.blt hi q.1
  | _ => true
def ex_avN (lo hi n : Nat) (xs : List ex_V) : Bool := match xs with
  | .inr (.inr (.inl (some k))) :: _ => Nat.ble (k + n) lo || Nat.blt hi k
  | _ => true
/-- a cell's names lie outside some numbers -/
def ex_avC (lo hi : Nat) (c : ex_C) : Bool := bif Nat.ble 2 c.1 then c.2.2.2.2.all (ex_avV lo hi) else ex_avN lo hi c.2.2.1 c.2.2.2.2
def ex_avH (lo hi : Nat) (hp : ex_H) : Bool := hp.2.all (fun ch => ch.all (ex_avC lo hi))
theorem ex_avH_ok {lo hi : Nat} {hp : ex_H} (h : ex_avH lo hi hp = true) {q : Nat} {c : ex_C} (hc : ex_at hp q = some c) : ex_avC lo hi c = true := by
  unfold ex_at at hc
  cases hch : hp.2[q / 16]? with
  | none => rw [hch] at hc; cases hc
  | some ch =>
    rw [hch] at hc
    replace hc : ch[q % 16]? = some c := hc
    exact List.all_eq_true.mp (List.all_eq_true.mp h ch (List.mem_of_getElem? hch)) c (List.mem_of_getElem? hc)
theorem er_V.ren {ν ν' : Nat → Int32} {sa : List Nat} {ws : va_W} {lo hi : Nat} (hν : ∀ k, k < lo ∨ hi < k → ν' k = ν k) {a : ex_V} {v : Value} (ha : ex_avV lo hi a = true) (h : er_V (er_r ν sa ws) a v) : er_V (er_r ν' sa ws) a v := by
  match a, ha, h with
  | .inl z, _, h => exact h
  | .inr (.inl z), _, h => exact h
  | .inr (.inr (.inl none)), _, h => exact h
  | .inr (.inr (.inl (some k))), _, h => exact h
  | .inr (.inr (.inr (.inl q))), _, h => exact h
  | .inr (.inr (.inr (.inr (.inl q)))), _, h => exact h
  | .inr (.inr (.inr (.inr (.inr q)))), ha, h =>
    replace ha : (Nat.blt q.1 lo || Nat.blt hi q.1) = true := ha
    rw [Bool.or_eq_true, Nat.blt_eq, Nat.blt_eq] at ha
    have e : ν' q.1 = ν q.1 := hν _ ha
    replace h : v = .int (ν q.1) ∧ q.2.1 ≤ (ν q.1).toInt ∧ (ν q.1).toInt ≤ q.2.2 := h
    show v = .int (ν' q.1) ∧ q.2.1 ≤ (ν' q.1).toInt ∧ (ν' q.1).toInt ≤ q.2.2
    rw [e]; exact h
theorem er_nm.ren {ν ν' : Nat → Int32} {lo hi n : Nat} (hν : ∀ k, k < lo ∨ hi < k → ν' k = ν k) {xs : List ex_V} {f : Nat → Int32} (ha : ex_avN lo hi n xs = true) (h : er_nm ν n xs f) : er_nm ν' n xs f := by
  unfold ex_avN at ha
  split at ha
  · rename_i k r
    replace h : ∀ j, j < n → f j = ν (k + j) := h
    show ∀ j, j < n → f j = ν' (k + j)
    rw [Bool.or_eq_true, Nat.ble_eq, Nat.blt_eq] at ha
    intro j hj
    rw [h j hj, hν (k + j) (by omega)]
  · rename_i hne
    unfold er_nm
    split
    · rename_i k r
      exact absurd rfl (hne k r)
    · exact trivial
theorem er_C.ren {τ : Nat → ClassId} {ν ν' : Nat → Int32} {sa : List Nat} {ws : va_W} {lo hi : Nat} (hν : ∀ k, k < lo ∨ hi < k → ν' k = ν k) {c : ex_C} {e : va_E} (ha : ex_avC lo hi c = true) (h : er_C τ (er_r ν sa ws) c e) : er_C τ (er_r ν' sa ws) c e := by
  obtain ⟨t, ty, n, p, xs⟩ := c
  replace ha : (bif Nat.ble 2 t then xs.all (ex_avV lo hi) else ex_avN lo hi n xs) = true := ha
  rcases h with ⟨g1, f, g2, g3, g4⟩ | ⟨g1, f, g2, g3, g4⟩ | ⟨g1, g2, f, g3, g4⟩ | ⟨g1, fs, g3, g4, g5⟩
  · cases g1; exact Or.inl ⟨rfl, f, g2, g3, er_nm.ren hν ha g4⟩
  · cases g1; exact Or.inr (Or.inl ⟨rfl, f, g2, g3, er_nm.ren hν ha g4⟩)
  · cases g1
    exact Or.inr (Or.inr (Or.inl ⟨rfl, g2, f, g3, fun j a hj => (g4 j a hj).ren hν (List.all_eq_true.mp ha a (List.mem_of_getElem? hj))⟩))
  · cases g1
    refine Or.inr (Or.inr (Or.inr ⟨rfl, fs, g3, g4, fun j a hj => ?_⟩))
    obtain ⟨v, e1, e2⟩ := g5 j a hj
    exact ⟨v, e1, e2.ren hν (List.all_eq_true.mp ha a (List.mem_of_getElem? hj))⟩
section ELN
variable {ν ν' : Nat → Int32} {D : va_G} {τ : Nat → ClassId} {sa : List Nat} {ro : List ex_C} {A : Nat → Prop} {hp : ex_H} {ws : va_W} {H : Heap} {lo hi : Nat}
theorem er_W.ren (h : er_W ν D τ sa ro A hp ws H) (hν : ∀ k, k < lo ∨ hi < k → ν' k = ν k) (hav : ∀ (q : Nat) (c : ex_C), 5 ≤ q → ex_at hp q = some c → ex_avC lo hi c = true) : er_W ν' D τ sa ro A hp ws H := by
  obtain ⟨h1, h2, h3, h4, h5⟩ := h
  refine ⟨h1, h2, h3, h4, fun q c hq hc => ?_⟩
  obtain ⟨x, e1, e2⟩ := h5 q c hq hc
  exact ⟨x, e1, e2.ren hν (hav q c hq hc)⟩
theorem el_put (h : er_W ν D τ sa ro A hp ws H) {q : Nat} {c c' : ex_C} (hq : 5 ≤ q) (hc : ex_at hp q = some c) (hi : ∀ x, ws[q - 5]? = some x → er_C τ (er_r ν sa ws) c x.2 → er_C τ (er_r ν sa ws) c' x.2) : er_W ν D τ sa ro A (ex_hput hp q c') ws H := by
  obtain ⟨h1, h2, h3, h4, h5⟩ := h
  refine ⟨h1, h2, h3, fun j d hj hd => ?_, fun j d hj hd => ?_⟩
  · rw [ex_hput_at hc, if_neg (by omega)] at hd
    exact h4 j d hj hd
  · rw [ex_hput_at hc] at hd
    by_cases e : j = q
    · rw [if_pos e] at hd
      cases hd
      subst e
      obtain ⟨x, e1, e2⟩ := h5 j c hj hc
      exact ⟨x, e1, hi x e1 e2⟩
    · rw [if_neg e] at hd
      exact h5 j d hj hd
/-- an object's int gets a name -/
theorem el_nmF {q ty n P j0 k : Nat} {lo hi : Int} {xs : List ex_V} (h : er_W ν D τ sa ro A hp ws H) (hq : 5 ≤ q) (hc : ex_at hp q = some (3, ty, n, P, xs)) (hj : xs[j0]? = some (.inr (.inr (.inr (.inl (lo, hi)))))) (hav : ∀ (q : Nat) (c : ex_C), 5 ≤ q → ex_at hp q = some c → ex_avC k k c = true) : ∃ ν' : Nat → Int32, (∀ i, i ≠ k → ν' i = ν i) ∧ er_W ν' D τ sa ro A (ex_hput hp q (3, ty, n, P, xs.set j0 (.inr (.inr (.inr (.inr (.inr (k, lo, hi)))))))) ws H := by
  obtain ⟨x, e1, e2⟩ := h.2.2.2.2 q _ hq hc
  rcases e2 with ⟨g1, -⟩ | ⟨g1, -⟩ | ⟨g1, -⟩ | ⟨-, fs, g3, g4, g5⟩
  · cases g1
  · cases g1
  · cases g1
  obtain ⟨v, f1, y, rfl, y1, y2⟩ := g5 j0 _ hj
  refine ⟨fun i => if i = k then y else ν i, fun i hi => if_neg hi, ?_⟩
  have h' := h.ren (ν' := fun i => if i = k then y else ν i) (lo := k) (hi := k) (fun i hi => if_neg (by omega)) hav
  refine el_put h' hq hc (fun x' e3 e4 => ?_)
  rw [e1] at e3
  cases e3
  rcases e4 with ⟨g1, -⟩ | ⟨g1, -⟩ | ⟨g1, -⟩ | ⟨-, fs', k3, k4, k5⟩
  · cases g1
  · cases g1
  · cases g1
  refine Or.inr (Or.inr (Or.inr ⟨rfl, fs', k3, ?_, fun j a ha => ?_⟩))
  · show fs'.length = (xs.set j0 _).length
    rw [List.length_set]; exact k4
  · replace ha : (xs.set j0 (.inr (.inr (.inr (.inr (.inr (k, lo, hi)))))))[j]? = some a := ha
    by_cases e : j = j0
    · subst e
      have hlt : j < xs.length := (List.getElem?_eq_some_iff.mp hj).1
      rw [List.getElem?_set_self hlt] at ha
      cases ha
      have ef : fs' = fs := by
        have e9 := k3.symm.trans g3
        cases e9
        rfl
      refine ⟨.int y, by rw [ef]; exact f1, ?_⟩
      show Value.int y = .int (if k = k then y else ν k) ∧ lo ≤ (if k = k then y else ν k).toInt ∧ (if k = k then y else ν k).toInt ≤ hi
      rw [if_pos rfl]
      exact ⟨rfl, y1, y2⟩
    · rw [List.getElem?_set_ne (fun h => e h.symm)] at ha
      exact k5 j a ha
/-- an array's ints get names -/
theorem el_nmA {q t ty n P P' k : Nat} (h : er_W ν D τ sa ro A hp ws H) (hq : 5 ≤ q) (ht : t = 0 ∨ t = 1) (hc : ex_at hp q = some (t, ty, n, P, [])) (hle : ex_leA n P P' = true) (hn : 0 < n) (hav : ∀ (q : Nat) (c : ex_C), 5 ≤ q → ex_at hp q = some c → ex_avC k (k + n - 1) c = true) : ∃ (ν' : Nat → Int32) (f : Nat → Int32), (∀ i, i < k ∨ k + n ≤ i → ν' i = ν i) ∧ er_A n P f ∧ (∀ j, j < n → ν' (k + j) = f j) ∧ er_W ν' D τ sa ro A (ex_hput hp q (t, ty, n, P', [.inr (.inr (.inl (some k)))])) ws H := by
  obtain ⟨x, e1, e2⟩ := h.2.2.2.2 q _ hq hc
  have key : ∃ f : Nat → Int32, x.2 = .inl (τ t, n, .inl f) ∧ er_A n P f := by
    rcases e2 with ⟨g1, f, g2, g3, -⟩ | ⟨g1, f, g2, g3, -⟩ | ⟨g1, -⟩ | ⟨g1, -⟩
    · replace g1 : t = 0 := g1
      subst g1; exact ⟨f, g2, g3⟩
    · replace g1 : t = 1 := g1
      subst g1; exact ⟨f, g2, g3⟩
    · replace g1 : t = 2 := g1
      omega
    · replace g1 : t = 3 := g1
      omega
  obtain ⟨f, g2, g3⟩ := key
  refine ⟨fun i => if k ≤ i ∧ i < k + n then f (i - k) else ν i, f, fun i hi => if_neg (by omega), g3, fun j hj => ?_, ?_⟩
  · show (if k ≤ k + j ∧ k + j < k + n then f (k + j - k) else ν (k + j)) = f j
    rw [if_pos (by omega), Nat.add_sub_cancel_left]
  have h' := h.ren (ν' := fun i => if k ≤ i ∧ i < k + n then f (i - k) else ν i) (lo := k) (hi := k + n - 1) (fun i hi => if_neg (by omega)) hav
  refine el_put h' hq hc (fun x' e3 e4 => ?_)
  rw [e1] at e3
  cases e3
  have hnm : er_nm (fun i => if k ≤ i ∧ i < k + n then f (i - k) else ν i) n [.inr (.inr (.inl (some k)))] f := by
    show ∀ j, j < n → f j = (if k ≤ k + j ∧ k + j < k + n then f (k + j - k) else ν (k + j))
    intro j hj
    rw [if_pos (by omega), Nat.add_sub_cancel_left]
  rcases ht with rfl | rfl
  · exact Or.inl ⟨rfl, f, g2, ex_leA_ok hle g3, hnm⟩
  · exact Or.inr (Or.inl ⟨rfl, f, g2, ex_leA_ok hle g3, hnm⟩)
/-- an array with names between closer bounds -/
theorem el_tight {q t ty n P P' k : Nat} (h : er_W ν D τ sa ro A hp ws H) (hq : 5 ≤ q) (ht : t = 0 ∨ t = 1) (hc : ex_at hp q = some (t, ty, n, P, [.inr (.inr (.inl (some k)))])) (hA : ∀ f : Nat → Int32, er_A n P f → (∀ j, j < n → f j = ν (k + j)) → er_A n P' f) : er_W ν D τ sa ro A (ex_hput hp q (t, ty, n, P', [.inr (.inr (.inl (some k)))])) ws H := by
  refine el_put h hq hc (fun x e1 e2 => ?_)
  rcases e2 with ⟨g1, f, g2, g3, g4⟩ | ⟨g1, f, g2, g3, g4⟩ | ⟨g1, -⟩ | ⟨g1, -⟩
  · replace g1 : t = 0 := g1
    subst g1; exact Or.inl ⟨rfl, f, g2, hA f g3 g4, g4⟩
  · replace g1 : t = 1 := g1
    subst g1; exact Or.inr (Or.inl ⟨rfl, f, g2, hA f g3 g4, g4⟩)
  · replace g1 : t = 2 := g1
    omega
  · replace g1 : t = 3 := g1
    omega
end ELN
