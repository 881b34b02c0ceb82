/-! The law's ways that change names, and the compared one. Printed by wip/p3/lawx.py. -/
theorem el_split {p : Program} {l : Launch} {e : Env} {s : State} {m : MethodId} {below : List Frame} {meth : Method} {c : Code} {b : Nat} {D : va_G} {τ : Nat → ClassId} {sa : List Nat} {ro : List ex_C} {Φ ΦA ΦB : (Nat → Int32) → Prop} {pc : Nat} {ls : List (Option ex_V)} {st : List ex_V} {hp hpA hpB : ex_H} (hW : ∀ (ν : Nat → Int32) (ws : va_W) (H : Heap), Φ ν → er_W ν D τ sa ro (fun q => s.heap.size ≤ q) hp ws H → (ΦA ν ∧ er_W ν D τ sa ro (fun q => s.heap.size ≤ q) hpA ws H) ∨ (ΦB ν ∧ er_W ν D τ sa ro (fun q => s.heap.size ≤ q) hpB ws H)) (hA : el_G p l e s m below meth c b D τ sa ro ΦA (pc, ls, st, hpA, 362, 6690)) (hB : el_G p l e s m below meth c b D τ sa ro ΦB (pc, ls, st, hpB, 362, 6690)) : el_G p l e s m below meth c b D τ sa ro Φ (pc, ls, st, hp, 362, 6690) := by
  intro ν hν H locs lsA stA ws hL hT hP hS hw
  rcases hW ν ws H hν hP with ⟨g0, g⟩ | ⟨g0, g⟩
  · exact hA ν g0 H locs lsA stA ws hL hT g hS hw
  · exact hB ν g0 H locs lsA stA ws hL hT g hS hw
theorem el_heap {p : Program} {l : Launch} {e : Env} {s : State} {m : MethodId} {below : List Frame} {meth : Method} {c : Code} {b : Nat} {D : va_G} {τ : Nat → ClassId} {sa : List Nat} {ro : List ex_C} {Φ : (Nat → Int32) → Prop} {pc : Nat} {ls : List (Option ex_V)} {st : List ex_V} {hp hp' : ex_H} (hW : ∀ (ν : Nat → Int32) (ws : va_W) (H : Heap), Φ ν → er_W ν D τ sa ro (fun q => s.heap.size ≤ q) hp ws H → er_W ν D τ sa ro (fun q => s.heap.size ≤ q) hp' ws H) (h : el_G p l e s m below meth c b D τ sa ro Φ (pc, ls, st, hp', 362, 6690)) : el_G p l e s m below meth c b D τ sa ro Φ (pc, ls, st, hp, 362, 6690) := by
  intro ν hν H locs lsA stA ws hL hT hP hS hw
  exact h ν hν H locs lsA stA ws hL hT (hW ν ws H hν hP) hS hw
theorem el_mono {p : Program} {l : Launch} {e : Env} {s : State} {m : MethodId} {below : List Frame} {meth : Method} {c : Code} {b : Nat} {D : va_G} {τ : Nat → ClassId} {sa : List Nat} {ro : List ex_C} {Φ Φ' : (Nat → Int32) → Prop} {S : ex_S} (hW : ∀ ν : Nat → Int32, Φ ν → Φ' ν) (h : el_G p l e s m below meth c b D τ sa ro Φ' S) : el_G p l e s m below meth c b D τ sa ro Φ S := fun ν hν => h ν (hW ν hν)
theorem el_lsr {sa : List Nat} {i : Int} : ∀ (ν ν' : Nat → Int32) (ws : va_W) (nL : Nat) (A' : Array Slot), er_L (er_r ν sa ws) nL [some (.inr (.inr (.inl (some 4)))), some (.inr (.inr (.inl (some 5)))), some (.inr (.inr (.inl (some 345)))), some (.inl (i))] A' → er_L (er_r ν' sa ws) nL [some (.inr (.inr (.inl (some 4)))), some (.inr (.inr (.inl (some 5)))), some (.inr (.inr (.inl (some 345)))), some (.inl (i))] A' := by
  rintro ν ν' ws nL A' ⟨h1, lv, h2, h3⟩
  refine ⟨h1, lv, h2, fun j a ha => ?_⟩
  obtain ⟨v, g1, g2⟩ := h3 j a ha
  refine ⟨v, ?_, g2⟩
  match j, ha with
  | 0, ha => cases ha; exact g1
  | 1, ha => cases ha; exact g1
  | 2, ha => cases ha; exact g1
  | 3, ha => cases ha; exact g1
  | j + 4, ha => cases ha
theorem el_str {sa : List Nat} : ∀ (ν ν' : Nat → Int32) (ws : va_W) (A' : List Value), er_St (er_r ν sa ws) [] A' → er_St (er_r ν' sa ws) [] A' := by
  intro ν ν' ws A' h
  rw [h.nil]
  exact trivial
theorem el_str1 {sa : List Nat} {x : Int} : ∀ (ν ν' : Nat → Int32) (ws : va_W) (A' : List Value), er_St (er_r ν sa ws) [.inl x] A' → er_St (er_r ν' sa ws) [.inl x] A' := by
  intro ν ν' ws A' h
  obtain ⟨v, vs, rfl, g, h'⟩ := h.cons
  exact ⟨g, el_str ν ν' ws vs h'⟩
theorem ey_lL {as bs : List ex_V} (h : ex_leL none none as bs = true) : ex_leL none none (ex_topL :: as) (ex_topL :: bs) = true := by
  show (ex_leV none none ex_topL ex_topL && ex_leL none none as bs) = true
  rw [h]
  rfl
theorem el_op11 {p : Program} {l : Launch} {e : Env} {s : State} {m : MethodId} {below : List Frame} {meth : Method} {c : Code} {b : Nat} {D : va_G} {τ : Nat → ClassId} {sa : List Nat} {ro : List ex_C} (hmn : em_mna) (BB : el_B p s m meth c b D τ sa ro) {L P : Nat} {f : Int → Int} (hR : ey_R L P f) {i : Int} (h0 : 0 ≤ i) (h1 : i + 6 ≤ (L : Int)) (hL : (L : Int) ≤ 3072) (hX : el_G p l e s m below meth c b D τ sa ro el_F (1414, [some (.inr (.inr (.inl (some 4)))), some (.inr (.inr (.inl (some 5)))), some (.inr (.inr (.inl (some 345)))), some (.inl (i))], [], (el_h L P), 362, 6690)) : el_G p l e s m below meth c b D τ sa ro el_F (665, [some (.inr (.inr (.inl (some 4)))), some (.inr (.inr (.inl (some 5)))), some (.inr (.inr (.inl (some 345)))), some (.inl (i))], [], (el_h L P), 362, 6690) := by
  refine el_plain hmn BB (eg_at eo_law 20 19 rfl rfl) (pc' := 666) (ls' := [some (.inr (.inr (.inl (some 4)))), some (.inr (.inr (.inl (some 5)))), some (.inr (.inr (.inl (some 345)))), some (.inl (i))]) (st' := [.inr (.inr (.inl (some 5)))]) (hp' := (el_h L P)) (fun _ _ => rfl) ?_
  refine el_plain hmn BB (eg_at eo_law 20 20 rfl rfl) (pc' := 667) (ls' := [some (.inr (.inr (.inl (some 4)))), some (.inr (.inr (.inl (some 5)))), some (.inr (.inr (.inl (some 345)))), some (.inl (i))]) (st' := [.inr (.inr (.inl (some 4))), .inr (.inr (.inl (some 5)))]) (hp' := (el_h L P)) (fun _ _ => rfl) ?_
  refine el_plain hmn BB (eg_at eo_law 20 21 rfl rfl) (pc' := 668) (ls' := [some (.inr (.inr (.inl (some 4)))), some (.inr (.inr (.inl (some 5)))), some (.inr (.inr (.inl (some 345)))), some (.inl (i))]) (st' := [.inl (i), .inr (.inr (.inl (some 4))), .inr (.inr (.inl (some 5)))]) (hp' := (el_h L P)) (fun _ _ => rfl) ?_
  refine el_plain hmn BB (eg_at eo_law 20 22 rfl rfl) (pc' := 669) (ls' := [some (.inr (.inr (.inl (some 4)))), some (.inr (.inr (.inl (some 5)))), some (.inr (.inr (.inl (some 345)))), some (.inl (i))]) (st' := [.inl (1), .inl (i), .inr (.inr (.inl (some 4))), .inr (.inr (.inl (some 5)))]) (hp' := (el_h L P)) (fun _ _ => rfl) ?_
  refine el_iadd hmn BB (eg_at eo_law 20 23 rfl rfl) (pc' := 670) rfl (by omega) (by omega) ?_
  refine el_iaload hmn BB (eg_at eo_law 20 24 rfl rfl) (pc' := 671) (n := L) rfl (fun _ => rfl) hR (by omega) (by omega) ?_
  refine el_plain hmn BB (eg_at eo_law 20 25 rfl rfl) (pc' := 672) (ls' := [some (.inr (.inr (.inl (some 4)))), some (.inr (.inr (.inl (some 5)))), some (.inr (.inr (.inl (some 345)))), some (.inl (i))]) (st' := [.inr (.inl (f (i + 1))), .inr (.inr (.inl (some 5)))]) (hp' := (el_h L P)) (fun _ _ => rfl) ?_
  refine el_plain hmn BB (eg_at eo_law 21 0 rfl rfl) (pc' := 674) (ls' := [some (.inr (.inr (.inl (some 4)))), some (.inr (.inr (.inl (some 5)))), some (.inr (.inr (.inl (some 345)))), some (.inl (i))]) (st' := [.inl (32), .inr (.inl (f (i + 1))), .inr (.inr (.inl (some 5)))]) (hp' := (el_h L P)) (fun _ _ => rfl) ?_
  refine el_plain hmn BB (eg_at eo_law 21 1 rfl rfl) (pc' := 675) (ls' := [some (.inr (.inr (.inl (some 4)))), some (.inr (.inr (.inl (some 5)))), some (.inr (.inr (.inl (some 345)))), some (.inl (i))]) (st' := [ex_topL, .inr (.inr (.inl (some 5)))]) (hp' := (el_h L P)) (fun _ _ => rfl) ?_
  refine el_plain hmn BB (eg_at eo_law 21 2 rfl rfl) (pc' := 676) (ls' := [some (.inr (.inr (.inl (some 4)))), some (.inr (.inr (.inl (some 5)))), some (.inr (.inr (.inl (some 345)))), some (.inl (i))]) (st' := [.inr (.inr (.inl (some 4))), ex_topL, .inr (.inr (.inl (some 5)))]) (hp' := (el_h L P)) (fun _ _ => rfl) ?_
  refine el_plain hmn BB (eg_at eo_law 21 3 rfl rfl) (pc' := 677) (ls' := [some (.inr (.inr (.inl (some 4)))), some (.inr (.inr (.inl (some 5)))), some (.inr (.inr (.inl (some 345)))), some (.inl (i))]) (st' := [.inl (i), .inr (.inr (.inl (some 4))), ex_topL, .inr (.inr (.inl (some 5)))]) (hp' := (el_h L P)) (fun _ _ => rfl) ?_
  refine el_plain hmn BB (eg_at eo_law 21 4 rfl rfl) (pc' := 678) (ls' := [some (.inr (.inr (.inl (some 4)))), some (.inr (.inr (.inl (some 5)))), some (.inr (.inr (.inl (some 345)))), some (.inl (i))]) (st' := [.inl (2), .inl (i), .inr (.inr (.inl (some 4))), ex_topL, .inr (.inr (.inl (some 5)))]) (hp' := (el_h L P)) (fun _ _ => rfl) ?_
  refine el_iadd hmn BB (eg_at eo_law 21 5 rfl rfl) (pc' := 679) rfl (by omega) (by omega) ?_
  refine el_iaload hmn BB (eg_at eo_law 21 6 rfl rfl) (pc' := 680) (n := L) rfl (fun _ => rfl) hR (by omega) (by omega) ?_
  refine el_plain hmn BB (eg_at eo_law 21 7 rfl rfl) (pc' := 681) (ls' := [some (.inr (.inr (.inl (some 4)))), some (.inr (.inr (.inl (some 5)))), some (.inr (.inr (.inl (some 345)))), some (.inl (i))]) (st' := [.inr (.inl (f (i + 2))), ex_topL, .inr (.inr (.inl (some 5)))]) (hp' := (el_h L P)) (fun _ _ => rfl) ?_
  refine el_plain hmn BB (eg_at eo_law 21 8 rfl rfl) (pc' := 684) (ls' := [some (.inr (.inr (.inl (some 4)))), some (.inr (.inr (.inl (some 5)))), some (.inr (.inr (.inl (some 345)))), some (.inl (i))]) (st' := [.inr (.inl (4294967295)), .inr (.inl (f (i + 2))), ex_topL, .inr (.inr (.inl (some 5)))]) (hp' := (el_h L P)) (fun _ _ => rfl) ?_
  refine el_landw hmn BB (eg_at eo_law 21 9 rfl rfl) (pc' := 685) rfl (fun w1 => ?_)
  refine el_plain hmn BB (eg_at eo_law 21 10 rfl rfl) (pc' := 686) (ls' := [some (.inr (.inr (.inl (some 4)))), some (.inr (.inr (.inl (some 5)))), some (.inr (.inr (.inl (some 345)))), some (.inl (i))]) (st' := [ex_topL, .inr (.inr (.inl (some 5)))]) (hp' := (el_h L P)) (fun _ _ => rfl) ?_
  refine el_someL (fun z2 => ?_)
  refine el_plain hmn BB (eg_at eo_law 21 11 rfl rfl) (pc' := 687) (ls' := [some (.inr (.inr (.inl (some 4)))), some (.inr (.inr (.inl (some 5)))), some (.inr (.inr (.inl (some 345)))), some (.inl (i))]) (st' := [.inr (.inr (.inl (some 4))), .inr (.inl (z2)), .inr (.inr (.inl (some 5)))]) (hp' := (el_h L P)) (fun _ _ => rfl) ?_
  refine el_plain hmn BB (eg_at eo_law 21 12 rfl rfl) (pc' := 688) (ls' := [some (.inr (.inr (.inl (some 4)))), some (.inr (.inr (.inl (some 5)))), some (.inr (.inr (.inl (some 345)))), some (.inl (i))]) (st' := [.inl (i), .inr (.inr (.inl (some 4))), .inr (.inl (z2)), .inr (.inr (.inl (some 5)))]) (hp' := (el_h L P)) (fun _ _ => rfl) ?_
  refine el_plain hmn BB (eg_at eo_law 21 13 rfl rfl) (pc' := 689) (ls' := [some (.inr (.inr (.inl (some 4)))), some (.inr (.inr (.inl (some 5)))), some (.inr (.inr (.inl (some 345)))), some (.inl (i))]) (st' := [.inl (3), .inl (i), .inr (.inr (.inl (some 4))), .inr (.inl (z2)), .inr (.inr (.inl (some 5)))]) (hp' := (el_h L P)) (fun _ _ => rfl) ?_
  refine el_iadd hmn BB (eg_at eo_law 21 14 rfl rfl) (pc' := 690) rfl (by omega) (by omega) ?_
  refine el_iaload hmn BB (eg_at eo_law 21 15 rfl rfl) (pc' := 691) (n := L) rfl (fun _ => rfl) hR (by omega) (by omega) ?_
  refine el_len1 (fun x x0 x1 => ?_)
  refine el_call hmn BB (eg_at eo_law 21 16 rfl rfl) (pc' := 694) (r := []) (em_X.fixS (hp := el_h L P) (eq_ctypeX hmn (x := x) (z := z2) (m := f (i + 3)) ⟨x0, x1⟩ ⟨((hR.at (z := i + 3) (by omega) (by omega)).1), ((hR.at (z := i + 3) (by omega) (by omega)).2)⟩) (et_lc5 _) (fun v X' h => by rw [h.2]; exact et_lc5 _)) (by decide) (fun _ _ => rfl) (fun v hp' hP => ?_)
  obtain ⟨X', ⟨rfl, rfl⟩, rfl⟩ := hP
  show el_G p l e s m below meth c b D τ sa ro (fun ν => el_F ν ∧ (ν 1).toInt = x) (694, [some (.inr (.inr (.inl (some 4)))), some (.inr (.inr (.inl (some 5)))), some (.inr (.inr (.inl (some 345)))), some (.inl (i))], [.inl (et_an x (f (i + 3)))], (ex_fix (el_h L P) (et_lc (et_nx x (f (i + 3))))), 362, 6690)
  refine el_ren (hp := (el_h L P)) (Φ' := (el_Fm x (et_nx x (f (i + 3))))) el_lsr el_str1 (fun ν ws H hC h => el_b1 (et_nx_le ⟨x0, x1⟩) hC h) ?_
  refine el_plain hmn BB (eg_at eo_law 21 17 rfl rfl) (pc' := 695) (ls' := [some (.inr (.inr (.inl (some 4)))), some (.inr (.inr (.inl (some 5)))), some (.inr (.inr (.inl (some 345)))), some (.inl (i))]) (st' := [.inr (.inr (.inl (some 345))), .inl (et_an x (f (i + 3)))]) (hp' := (el_h L P)) (fun _ _ => rfl) ?_
  refine el_plain hmn BB (eg_at eo_law 21 18 rfl rfl) (pc' := 696) (ls' := [some (.inr (.inr (.inl (some 4)))), some (.inr (.inr (.inl (some 5)))), some (.inr (.inr (.inl (some 345)))), some (.inl (i))]) (st' := [.inr (.inr (.inl (some 4))), .inr (.inr (.inl (some 345))), .inl (et_an x (f (i + 3)))]) (hp' := (el_h L P)) (fun _ _ => rfl) ?_
  refine el_plain hmn BB (eg_at eo_law 21 19 rfl rfl) (pc' := 697) (ls' := [some (.inr (.inr (.inl (some 4)))), some (.inr (.inr (.inl (some 5)))), some (.inr (.inr (.inl (some 345)))), some (.inl (i))]) (st' := [.inl (i), .inr (.inr (.inl (some 4))), .inr (.inr (.inl (some 345))), .inl (et_an x (f (i + 3)))]) (hp' := (el_h L P)) (fun _ _ => rfl) ?_
  refine el_plain hmn BB (eg_at eo_law 21 20 rfl rfl) (pc' := 698) (ls' := [some (.inr (.inr (.inl (some 4)))), some (.inr (.inr (.inl (some 5)))), some (.inr (.inr (.inl (some 345)))), some (.inl (i))]) (st' := [.inl (1), .inl (i), .inr (.inr (.inl (some 4))), .inr (.inr (.inl (some 345))), .inl (et_an x (f (i + 3)))]) (hp' := (el_h L P)) (fun _ _ => rfl) ?_
  refine el_iadd hmn BB (eg_at eo_law 21 21 rfl rfl) (pc' := 699) rfl (by omega) (by omega) ?_
  refine el_iaload hmn BB (eg_at eo_law 21 22 rfl rfl) (pc' := 700) (n := L) rfl (fun _ => rfl) hR (by omega) (by omega) ?_
  refine el_plain hmn BB (eg_at eo_law 21 23 rfl rfl) (pc' := 701) (ls' := [some (.inr (.inr (.inl (some 4)))), some (.inr (.inr (.inl (some 5)))), some (.inr (.inr (.inl (some 345)))), some (.inl (i))]) (st' := [.inr (.inl (f (i + 1))), .inr (.inr (.inl (some 345))), .inl (et_an x (f (i + 3)))]) (hp' := (el_h L P)) (fun _ _ => rfl) ?_
  refine el_plain hmn BB (eg_at eo_law 21 24 rfl rfl) (pc' := 703) (ls' := [some (.inr (.inr (.inl (some 4)))), some (.inr (.inr (.inl (some 5)))), some (.inr (.inr (.inl (some 345)))), some (.inl (i))]) (st' := [.inl (32), .inr (.inl (f (i + 1))), .inr (.inr (.inl (some 345))), .inl (et_an x (f (i + 3)))]) (hp' := (el_h L P)) (fun _ _ => rfl) ?_
  refine el_plain hmn BB (eg_at eo_law 21 25 rfl rfl) (pc' := 704) (ls' := [some (.inr (.inr (.inl (some 4)))), some (.inr (.inr (.inl (some 5)))), some (.inr (.inr (.inl (some 345)))), some (.inl (i))]) (st' := [ex_topL, .inr (.inr (.inl (some 345))), .inl (et_an x (f (i + 3)))]) (hp' := (el_h L P)) (fun _ _ => rfl) ?_
  refine el_plain hmn BB (eg_at eo_law 22 0 rfl rfl) (pc' := 705) (ls' := [some (.inr (.inr (.inl (some 4)))), some (.inr (.inr (.inl (some 5)))), some (.inr (.inr (.inl (some 345)))), some (.inl (i))]) (st' := [.inr (.inr (.inl (some 4))), ex_topL, .inr (.inr (.inl (some 345))), .inl (et_an x (f (i + 3)))]) (hp' := (el_h L P)) (fun _ _ => rfl) ?_
  refine el_plain hmn BB (eg_at eo_law 22 1 rfl rfl) (pc' := 706) (ls' := [some (.inr (.inr (.inl (some 4)))), some (.inr (.inr (.inl (some 5)))), some (.inr (.inr (.inl (some 345)))), some (.inl (i))]) (st' := [.inl (i), .inr (.inr (.inl (some 4))), ex_topL, .inr (.inr (.inl (some 345))), .inl (et_an x (f (i + 3)))]) (hp' := (el_h L P)) (fun _ _ => rfl) ?_
  refine el_plain hmn BB (eg_at eo_law 22 2 rfl rfl) (pc' := 707) (ls' := [some (.inr (.inr (.inl (some 4)))), some (.inr (.inr (.inl (some 5)))), some (.inr (.inr (.inl (some 345)))), some (.inl (i))]) (st' := [.inl (2), .inl (i), .inr (.inr (.inl (some 4))), ex_topL, .inr (.inr (.inl (some 345))), .inl (et_an x (f (i + 3)))]) (hp' := (el_h L P)) (fun _ _ => rfl) ?_
  refine el_iadd hmn BB (eg_at eo_law 22 3 rfl rfl) (pc' := 708) rfl (by omega) (by omega) ?_
  refine el_iaload hmn BB (eg_at eo_law 22 4 rfl rfl) (pc' := 709) (n := L) rfl (fun _ => rfl) hR (by omega) (by omega) ?_
  refine el_plain hmn BB (eg_at eo_law 22 5 rfl rfl) (pc' := 710) (ls' := [some (.inr (.inr (.inl (some 4)))), some (.inr (.inr (.inl (some 5)))), some (.inr (.inr (.inl (some 345)))), some (.inl (i))]) (st' := [.inr (.inl (f (i + 2))), ex_topL, .inr (.inr (.inl (some 345))), .inl (et_an x (f (i + 3)))]) (hp' := (el_h L P)) (fun _ _ => rfl) ?_
  refine el_plain hmn BB (eg_at eo_law 22 6 rfl rfl) (pc' := 713) (ls' := [some (.inr (.inr (.inl (some 4)))), some (.inr (.inr (.inl (some 5)))), some (.inr (.inr (.inl (some 345)))), some (.inl (i))]) (st' := [.inr (.inl (4294967295)), .inr (.inl (f (i + 2))), ex_topL, .inr (.inr (.inl (some 345))), .inl (et_an x (f (i + 3)))]) (hp' := (el_h L P)) (fun _ _ => rfl) ?_
  refine el_landw hmn BB (eg_at eo_law 22 7 rfl rfl) (pc' := 714) rfl (fun w3 => ?_)
  refine el_plain hmn BB (eg_at eo_law 22 8 rfl rfl) (pc' := 715) (ls' := [some (.inr (.inr (.inl (some 4)))), some (.inr (.inr (.inl (some 5)))), some (.inr (.inr (.inl (some 345)))), some (.inl (i))]) (st' := [ex_topL, .inr (.inr (.inl (some 345))), .inl (et_an x (f (i + 3)))]) (hp' := (el_h L P)) (fun _ _ => rfl) ?_
  refine el_someL (fun z4 => ?_)
  refine el_plain hmn BB (eg_at eo_law 22 9 rfl rfl) (pc' := 716) (ls' := [some (.inr (.inr (.inl (some 4)))), some (.inr (.inr (.inl (some 5)))), some (.inr (.inr (.inl (some 345)))), some (.inl (i))]) (st' := [.inr (.inr (.inl (some 4))), .inr (.inl (z4)), .inr (.inr (.inl (some 345))), .inl (et_an x (f (i + 3)))]) (hp' := (el_h L P)) (fun _ _ => rfl) ?_
  refine el_plain hmn BB (eg_at eo_law 22 10 rfl rfl) (pc' := 717) (ls' := [some (.inr (.inr (.inl (some 4)))), some (.inr (.inr (.inl (some 5)))), some (.inr (.inr (.inl (some 345)))), some (.inl (i))]) (st' := [.inl (i), .inr (.inr (.inl (some 4))), .inr (.inl (z4)), .inr (.inr (.inl (some 345))), .inl (et_an x (f (i + 3)))]) (hp' := (el_h L P)) (fun _ _ => rfl) ?_
  refine el_plain hmn BB (eg_at eo_law 22 11 rfl rfl) (pc' := 718) (ls' := [some (.inr (.inr (.inl (some 4)))), some (.inr (.inr (.inl (some 5)))), some (.inr (.inr (.inl (some 345)))), some (.inl (i))]) (st' := [.inl (3), .inl (i), .inr (.inr (.inl (some 4))), .inr (.inl (z4)), .inr (.inr (.inl (some 345))), .inl (et_an x (f (i + 3)))]) (hp' := (el_h L P)) (fun _ _ => rfl) ?_
  refine el_iadd hmn BB (eg_at eo_law 22 12 rfl rfl) (pc' := 719) rfl (by omega) (by omega) ?_
  refine el_iaload hmn BB (eg_at eo_law 22 13 rfl rfl) (pc' := 720) (n := L) rfl (fun _ => rfl) hR (by omega) (by omega) ?_
  refine el_heap (hp' := (ex_fix (el_h L P) (et_lr (x)))) (fun ν ws H hC h => el_exR2 hC.2.2 h) ?_
  refine el_call hmn BB (eg_at eo_law 22 14 rfl rfl) (pc' := 723) (r := [.inl (et_an x (f (i + 3)))]) (em_X.fixS (hp := el_h L P) (eq_typeX hmn (x := x) (z := z4) (m := f (i + 3)) ⟨x0, x1⟩ ⟨((hR.at (z := i + 3) (by omega) (by omega)).1), ((hR.at (z := i + 3) (by omega) (by omega)).2)⟩) (et_lr5 _) (fun v X' h => by rw [h.2]; exact et_lr5 _)) (by decide) (fun _ _ => rfl) (fun v hp' hP => ?_)
  obtain ⟨X', ⟨rfl, rfl⟩, rfl⟩ := hP
  show el_G p l e s m below meth c b D τ sa ro (el_Fm x (et_nx x (f (i + 3)))) (723, [some (.inr (.inr (.inl (some 4)))), some (.inr (.inr (.inl (some 5)))), some (.inr (.inr (.inl (some 345)))), some (.inl (i))], [.inl (et_an x (f (i + 3))), .inl (et_an x (f (i + 3)))], (ex_fix (el_h L P) (et_lr (et_nx x (f (i + 3))))), 362, 6690)
  refine el_if_icmp hmn BB (eg_at eo_law 22 15 rfl rfl) (pc' := 726) rfl (fun _ => rfl) (fun _ => ?_) (fun hne => (hne rfl).elim)
  refine el_ren (hp := (el_h L P)) (Φ' := el_F) el_lsr el_str (fun ν ws H hC h => el_b2 (et_nx_le ⟨x0, x1⟩) hC h) ?_
  exact hX
theorem el_op12 {p : Program} {l : Launch} {e : Env} {s : State} {m : MethodId} {below : List Frame} {meth : Method} {c : Code} {b : Nat} {D : va_G} {τ : Nat → ClassId} {sa : List Nat} {ro : List ex_C} (hmn : em_mna) (BB : el_B p s m meth c b D τ sa ro) {L P : Nat} {f : Int → Int} (hR : ey_R L P f) {i : Int} (h0 : 0 ≤ i) (h1 : i + 6 ≤ (L : Int)) (hL : (L : Int) ≤ 3072) (hX : el_G p l e s m below meth c b D τ sa ro el_F (1414, [some (.inr (.inr (.inl (some 4)))), some (.inr (.inr (.inl (some 5)))), some (.inr (.inr (.inl (some 345)))), some (.inl (i))], [], (el_h L P), 362, 6690)) : el_G p l e s m below meth c b D τ sa ro el_F (728, [some (.inr (.inr (.inl (some 4)))), some (.inr (.inr (.inl (some 5)))), some (.inr (.inr (.inl (some 345)))), some (.inl (i))], [], (el_h L P), 362, 6690) := by
  refine el_plain hmn BB (eg_at eo_law 22 18 rfl rfl) (pc' := 729) (ls' := [some (.inr (.inr (.inl (some 4)))), some (.inr (.inr (.inl (some 5)))), some (.inr (.inr (.inl (some 345)))), some (.inl (i))]) (st' := [.inr (.inr (.inl (some 5)))]) (hp' := (el_h L P)) (fun _ _ => rfl) ?_
  refine el_len1 (fun x x0 x1 => ?_)
  refine el_call hmn BB (eg_at eo_law 22 19 rfl rfl) (pc' := 732) (r := []) (em_X.fixS (hp := el_h L P) (eq_cclearX hmn (x := x)) (et_lc5 _) (fun v X' h => by rw [h.2]; exact et_lc5 _)) (by decide) (fun _ _ => rfl) (fun v hp' hP => ?_)
  obtain ⟨X', ⟨rfl, rfl⟩, rfl⟩ := hP
  show el_G p l e s m below meth c b D τ sa ro (fun ν => el_F ν ∧ (ν 1).toInt = x) (732, [some (.inr (.inr (.inl (some 4)))), some (.inr (.inr (.inl (some 5)))), some (.inr (.inr (.inl (some 345)))), some (.inl (i))], [.inl (x)], (ex_fix (el_h L P) (et_lc (0))), 362, 6690)
  refine el_plain hmn BB (eg_at eo_law 22 20 rfl rfl) (pc' := 733) (ls' := [some (.inr (.inr (.inl (some 4)))), some (.inr (.inr (.inl (some 5)))), some (.inr (.inr (.inl (some 345)))), some (.inl (i))]) (st' := []) (hp' := (ex_fix (el_h L P) (et_lc (0)))) (fun _ _ => rfl) ?_
  refine el_ren (hp := (el_h L P)) (Φ' := (el_Fm x (0))) el_lsr el_str (fun ν ws H hC h => el_b1 (by decide) hC h) ?_
  refine el_plain hmn BB (eg_at eo_law 22 21 rfl rfl) (pc' := 734) (ls' := [some (.inr (.inr (.inl (some 4)))), some (.inr (.inr (.inl (some 5)))), some (.inr (.inr (.inl (some 345)))), some (.inl (i))]) (st' := [.inr (.inr (.inl (some 345)))]) (hp' := (el_h L P)) (fun _ _ => rfl) ?_
  refine el_heap (hp' := (ex_fix (el_h L P) (et_lr (x)))) (fun ν ws H hC h => el_exR2 hC.2.2 h) ?_
  refine el_call hmn BB (eg_at eo_law 22 22 rfl rfl) (pc' := 737) (r := []) (em_X.fixS (hp := el_h L P) (eq_clearX hmn (x := x)) (et_lr5 _) (fun v X' h => by rw [h.2]; exact et_lr5 _)) (by decide) (fun _ _ => rfl) (fun v hp' hP => ?_)
  obtain ⟨X', ⟨rfl, rfl⟩, rfl⟩ := hP
  show el_G p l e s m below meth c b D τ sa ro (el_Fm x (0)) (737, [some (.inr (.inr (.inl (some 4)))), some (.inr (.inr (.inl (some 5)))), some (.inr (.inr (.inl (some 345)))), some (.inl (i))], [.inl (x)], (ex_fix (el_h L P) (et_lr (0))), 362, 6690)
  refine el_plain hmn BB (eg_at eo_law 23 0 rfl rfl) (pc' := 738) (ls' := [some (.inr (.inr (.inl (some 4)))), some (.inr (.inr (.inl (some 5)))), some (.inr (.inr (.inl (some 345)))), some (.inl (i))]) (st' := []) (hp' := (ex_fix (el_h L P) (et_lr (0)))) (fun _ _ => rfl) ?_
  refine el_ren (hp := (el_h L P)) (Φ' := el_F) el_lsr el_str (fun ν ws H hC h => el_b2 (by decide) hC h) ?_
  refine el_plain hmn BB (eg_at eo_law 23 1 rfl rfl) (pc' := 1414) (ls' := [some (.inr (.inr (.inl (some 4)))), some (.inr (.inr (.inl (some 5)))), some (.inr (.inr (.inl (some 345)))), some (.inl (i))]) (st' := []) (hp' := (el_h L P)) (fun _ _ => rfl) ?_
  exact hX
theorem el_op13 {p : Program} {l : Launch} {e : Env} {s : State} {m : MethodId} {below : List Frame} {meth : Method} {c : Code} {b : Nat} {D : va_G} {τ : Nat → ClassId} {sa : List Nat} {ro : List ex_C} (hmn : em_mna) (BB : el_B p s m meth c b D τ sa ro) {L P : Nat} {f : Int → Int} (hR : ey_R L P f) {i : Int} (h0 : 0 ≤ i) (h1 : i + 6 ≤ (L : Int)) (hL : (L : Int) ≤ 3072) (hX : el_G p l e s m below meth c b D τ sa ro el_F (1414, [some (.inr (.inr (.inl (some 4)))), some (.inr (.inr (.inl (some 5)))), some (.inr (.inr (.inl (some 345)))), some (.inl (i))], [], (el_h L P), 362, 6690)) : el_G p l e s m below meth c b D τ sa ro el_F (741, [some (.inr (.inr (.inl (some 4)))), some (.inr (.inr (.inl (some 5)))), some (.inr (.inr (.inl (some 345)))), some (.inl (i))], [], (el_h L P), 362, 6690) := by
  refine el_plain hmn BB (eg_at eo_law 23 2 rfl rfl) (pc' := 742) (ls' := [some (.inr (.inr (.inl (some 4)))), some (.inr (.inr (.inl (some 5)))), some (.inr (.inr (.inl (some 345)))), some (.inl (i))]) (st' := [.inr (.inr (.inl (some 5)))]) (hp' := (el_h L P)) (fun _ _ => rfl) ?_
  refine el_call hmn BB (eg_at eo_law 23 3 rfl rfl) (pc' := 745) (r := []) (em_X.ofE (kc_carriage_k hmn) (as := [.inr (.inr (.inl (some 5)))]) (ey_lr ey_l0) el_h_le) (by decide) (fun _ _ => rfl) (fun v hp' hP => ?_)
  obtain ⟨rfl, rfl⟩ := hP
  show el_G p l e s m below meth c b D τ sa ro el_F (745, [some (.inr (.inr (.inl (some 4)))), some (.inr (.inr (.inl (some 5)))), some (.inr (.inr (.inl (some 345)))), some (.inl (i))], [_], (el_h L P), 362, 6690)
  refine el_plain hmn BB (eg_at eo_law 23 4 rfl rfl) (pc' := 746) (ls' := [some (.inr (.inr (.inl (some 4)))), some (.inr (.inr (.inl (some 5)))), some (.inr (.inr (.inl (some 345)))), some (.inl (i))]) (st' := []) (hp' := (el_h L P)) (fun _ _ => rfl) ?_
  refine el_plain hmn BB (eg_at eo_law 23 5 rfl rfl) (pc' := 747) (ls' := [some (.inr (.inr (.inl (some 4)))), some (.inr (.inr (.inl (some 5)))), some (.inr (.inr (.inl (some 345)))), some (.inl (i))]) (st' := [.inr (.inr (.inl (some 345)))]) (hp' := (el_h L P)) (fun _ _ => rfl) ?_
  refine el_call hmn BB (eg_at eo_law 23 6 rfl rfl) (pc' := 750) (r := []) (em_X.ofE (kr_carriage_k hmn) (as := [.inr (.inr (.inl (some 345)))]) (ey_lr ey_l0) el_h_le) (by decide) (fun _ _ => rfl) (fun v hp' hP => ?_)
  obtain ⟨rfl, rfl⟩ := hP
  show el_G p l e s m below meth c b D τ sa ro el_F (750, [some (.inr (.inr (.inl (some 4)))), some (.inr (.inr (.inl (some 5)))), some (.inr (.inr (.inl (some 345)))), some (.inl (i))], [_], (ex_fix (el_h L P) eih_a), 362, 6690)
  refine el_plain hmn BB (eg_at eo_law 23 7 rfl rfl) (pc' := 751) (ls' := [some (.inr (.inr (.inl (some 4)))), some (.inr (.inr (.inl (some 5)))), some (.inr (.inr (.inl (some 345)))), some (.inl (i))]) (st' := []) (hp' := (ex_fix (el_h L P) eih_a)) (fun _ _ => rfl) ?_
  refine el_ren (hp := (el_h L P)) (Φ' := el_F) el_lsr el_str (fun ν ws H hC h => el_q13 hC h) ?_
  refine el_plain hmn BB (eg_at eo_law 23 8 rfl rfl) (pc' := 1414) (ls' := [some (.inr (.inr (.inl (some 4)))), some (.inr (.inr (.inl (some 5)))), some (.inr (.inr (.inl (some 345)))), some (.inl (i))]) (st' := []) (hp' := (el_h L P)) (fun _ _ => rfl) ?_
  exact hX
theorem el_op30 {p : Program} {l : Launch} {e : Env} {s : State} {m : MethodId} {below : List Frame} {meth : Method} {c : Code} {b : Nat} {D : va_G} {τ : Nat → ClassId} {sa : List Nat} {ro : List ex_C} (hmn : em_mna) (BB : el_B p s m meth c b D τ sa ro) {L P : Nat} {f : Int → Int} (hR : ey_R L P f) {i : Int} (h0 : 0 ≤ i) (h1 : i + 6 ≤ (L : Int)) (hL : (L : Int) ≤ 3072) (hX : el_G p l e s m below meth c b D τ sa ro el_F (1414, [some (.inr (.inr (.inl (some 4)))), some (.inr (.inr (.inl (some 5)))), some (.inr (.inr (.inl (some 345)))), some (.inl (i))], [], (el_h L P), 362, 6690)) : el_G p l e s m below meth c b D τ sa ro el_F (1332, [some (.inr (.inr (.inl (some 4)))), some (.inr (.inr (.inl (some 5)))), some (.inr (.inr (.inl (some 345)))), some (.inl (i))], [], (el_h L P), 362, 6690) := by
  refine el_plain hmn BB (eg_at eo_law 41 14 rfl rfl) (pc' := 1333) (ls' := [some (.inr (.inr (.inl (some 4)))), some (.inr (.inr (.inl (some 5)))), some (.inr (.inr (.inl (some 345)))), some (.inl (i))]) (st' := [.inr (.inr (.inl (some 5)))]) (hp' := (el_h L P)) (fun _ _ => rfl) ?_
  refine el_plain hmn BB (eg_at eo_law 41 15 rfl rfl) (pc' := 1334) (ls' := [some (.inr (.inr (.inl (some 4)))), some (.inr (.inr (.inl (some 5)))), some (.inr (.inr (.inl (some 345)))), some (.inl (i))]) (st' := [.inr (.inr (.inl (some 4))), .inr (.inr (.inl (some 5)))]) (hp' := (el_h L P)) (fun _ _ => rfl) ?_
  refine el_plain hmn BB (eg_at eo_law 41 16 rfl rfl) (pc' := 1335) (ls' := [some (.inr (.inr (.inl (some 4)))), some (.inr (.inr (.inl (some 5)))), some (.inr (.inr (.inl (some 345)))), some (.inl (i))]) (st' := [.inl (i), .inr (.inr (.inl (some 4))), .inr (.inr (.inl (some 5)))]) (hp' := (el_h L P)) (fun _ _ => rfl) ?_
  refine el_plain hmn BB (eg_at eo_law 41 17 rfl rfl) (pc' := 1336) (ls' := [some (.inr (.inr (.inl (some 4)))), some (.inr (.inr (.inl (some 5)))), some (.inr (.inr (.inl (some 345)))), some (.inl (i))]) (st' := [.inl (1), .inl (i), .inr (.inr (.inl (some 4))), .inr (.inr (.inl (some 5)))]) (hp' := (el_h L P)) (fun _ _ => rfl) ?_
  refine el_iadd hmn BB (eg_at eo_law 41 18 rfl rfl) (pc' := 1337) rfl (by omega) (by omega) ?_
  refine el_iaload hmn BB (eg_at eo_law 41 19 rfl rfl) (pc' := 1338) (n := L) rfl (fun _ => rfl) hR (by omega) (by omega) ?_
  refine el_call hmn BB (eg_at eo_law 41 20 rfl rfl) (pc' := 1341) (r := []) (em_X.ofE (kc_image_k hmn) (as := [.inr (.inr (.inl (some 5))), .inl (f (i + 1))]) (ey_lr (ey_li ((hR.at (z := i + 1) (by omega) (by omega)).1) ((hR.at (z := i + 1) (by omega) (by omega)).2) ey_l0)) el_h_le) (by decide) (fun _ _ => rfl) (fun v hp' hP => ?_)
  obtain ⟨rfl, rfl⟩ := hP
  show el_G p l e s m below meth c b D τ sa ro el_F (1341, [some (.inr (.inr (.inl (some 4)))), some (.inr (.inr (.inl (some 5)))), some (.inr (.inr (.inl (some 345)))), some (.inl (i))], [_], (ex_fix (el_h L P) el_ih38), 362, 6690)
  refine el_plain hmn BB (eg_at eo_law 41 21 rfl rfl) (pc' := 1342) (ls' := [some (.inr (.inr (.inl (some 4)))), some (.inr (.inr (.inl (some 5)))), some (.inr (.inr (.inl (some 345)))), some (.inl (i))]) (st' := []) (hp' := (ex_fix (el_h L P) el_ih38)) (fun _ _ => rfl) ?_
  refine el_ren (hp := (el_h L P)) (Φ' := el_F) el_lsr el_str (fun ν ws H hC h => el_q3 hC h) ?_
  refine el_plain hmn BB (eg_at eo_law 41 22 rfl rfl) (pc' := 1343) (ls' := [some (.inr (.inr (.inl (some 4)))), some (.inr (.inr (.inl (some 5)))), some (.inr (.inr (.inl (some 345)))), some (.inl (i))]) (st' := [.inr (.inr (.inl (some 345)))]) (hp' := (el_h L P)) (fun _ _ => rfl) ?_
  refine el_plain hmn BB (eg_at eo_law 41 23 rfl rfl) (pc' := 1344) (ls' := [some (.inr (.inr (.inl (some 4)))), some (.inr (.inr (.inl (some 5)))), some (.inr (.inr (.inl (some 345)))), some (.inl (i))]) (st' := [.inr (.inr (.inl (some 4))), .inr (.inr (.inl (some 345)))]) (hp' := (el_h L P)) (fun _ _ => rfl) ?_
  refine el_plain hmn BB (eg_at eo_law 42 0 rfl rfl) (pc' := 1345) (ls' := [some (.inr (.inr (.inl (some 4)))), some (.inr (.inr (.inl (some 5)))), some (.inr (.inr (.inl (some 345)))), some (.inl (i))]) (st' := [.inl (i), .inr (.inr (.inl (some 4))), .inr (.inr (.inl (some 345)))]) (hp' := (el_h L P)) (fun _ _ => rfl) ?_
  refine el_plain hmn BB (eg_at eo_law 42 1 rfl rfl) (pc' := 1346) (ls' := [some (.inr (.inr (.inl (some 4)))), some (.inr (.inr (.inl (some 5)))), some (.inr (.inr (.inl (some 345)))), some (.inl (i))]) (st' := [.inl (1), .inl (i), .inr (.inr (.inl (some 4))), .inr (.inr (.inl (some 345)))]) (hp' := (el_h L P)) (fun _ _ => rfl) ?_
  refine el_iadd hmn BB (eg_at eo_law 42 2 rfl rfl) (pc' := 1347) rfl (by omega) (by omega) ?_
  refine el_iaload hmn BB (eg_at eo_law 42 3 rfl rfl) (pc' := 1348) (n := L) rfl (fun _ => rfl) hR (by omega) (by omega) ?_
  have bx := hR.at (z := i + 1) (by omega) (by omega)
  by_cases xlo : f (i + 1) < 0
  · refine el_call hmn BB (eg_at eo_law 42 4 rfl rfl) (pc' := 1351) (r := []) (em_X.ofE (kr_image_lo_k hmn) (as := [.inr (.inr (.inl (some 345))), .inl (f (i + 1))]) (ey_lr (ey_li (show (-2147483648 : Int) ≤ f (i + 1) by omega) (show f (i + 1) ≤ -1 by omega) ey_l0)) el_h_le) (by decide) (fun _ _ => rfl) (fun v hp' hP => ?_)
    obtain ⟨rfl, rfl⟩ := hP
    show el_G p l e s m below meth c b D τ sa ro el_F (1351, [some (.inr (.inr (.inl (some 4)))), some (.inr (.inr (.inl (some 5)))), some (.inr (.inr (.inl (some 345)))), some (.inl (i))], [_], (el_h L P), 362, 6690)
    refine el_plain hmn BB (eg_at eo_law 42 5 rfl rfl) (pc' := 1352) (ls' := [some (.inr (.inr (.inl (some 4)))), some (.inr (.inr (.inl (some 5)))), some (.inr (.inr (.inl (some 345)))), some (.inl (i))]) (st' := []) (hp' := (el_h L P)) (fun _ _ => rfl) ?_
    refine el_plain hmn BB (eg_at eo_law 42 6 rfl rfl) (pc' := 1414) (ls' := [some (.inr (.inr (.inl (some 4)))), some (.inr (.inr (.inl (some 5)))), some (.inr (.inr (.inl (some 345)))), some (.inl (i))]) (st' := []) (hp' := (el_h L P)) (fun _ _ => rfl) ?_
    exact hX
  by_cases xhi : 2 ≤ f (i + 1)
  · refine el_call hmn BB (eg_at eo_law 42 4 rfl rfl) (pc' := 1351) (r := []) (em_X.ofE (kr_image_hi_k hmn) (as := [.inr (.inr (.inl (some 345))), .inl (f (i + 1))]) (ey_lr (ey_li (show 2 ≤ f (i + 1) by omega) (show f (i + 1) ≤ (2147483647 : Int) by omega) ey_l0)) el_h_le) (by decide) (fun _ _ => rfl) (fun v hp' hP => ?_)
    obtain ⟨rfl, rfl⟩ := hP
    show el_G p l e s m below meth c b D τ sa ro el_F (1351, [some (.inr (.inr (.inl (some 4)))), some (.inr (.inr (.inl (some 5)))), some (.inr (.inr (.inl (some 345)))), some (.inl (i))], [_], (el_h L P), 362, 6690)
    refine el_plain hmn BB (eg_at eo_law 42 5 rfl rfl) (pc' := 1352) (ls' := [some (.inr (.inr (.inl (some 4)))), some (.inr (.inr (.inl (some 5)))), some (.inr (.inr (.inl (some 345)))), some (.inl (i))]) (st' := []) (hp' := (el_h L P)) (fun _ _ => rfl) ?_
    refine el_plain hmn BB (eg_at eo_law 42 6 rfl rfl) (pc' := 1414) (ls' := [some (.inr (.inr (.inl (some 4)))), some (.inr (.inr (.inl (some 5)))), some (.inr (.inr (.inl (some 345)))), some (.inl (i))]) (st' := []) (hp' := (el_h L P)) (fun _ _ => rfl) ?_
    exact hX
  by_cases x0 : f (i + 1) = 0
  · rw [x0]
    refine el_split (hpA := (ex_fix (el_h L P) el_ih32)) (hpB := (ex_fix (el_h L P) el_ih34)) (fun ν ws H hC h => (el_two1 h).symm.imp (fun hk => ⟨hC, el_t32 hC.C hk h⟩) (fun hk => ⟨hC, el_t34 hC.C hk h⟩)) ?_ ?_
    · refine el_call hmn BB (eg_at eo_law 42 4 rfl rfl) (pc' := 1351) (r := []) (em_X.ofE (kr_image0A_k hmn) (as := [.inr (.inr (.inl (some 345))), .inl 0]) rfl rfl) (by decide) (fun _ _ => rfl) (fun v hp' hP => ?_)
      obtain ⟨rfl, rfl⟩ := hP
      show el_G p l e s m below meth c b D τ sa ro el_F (1351, [some (.inr (.inr (.inl (some 4)))), some (.inr (.inr (.inl (some 5)))), some (.inr (.inr (.inl (some 345)))), some (.inl (i))], [_], (ex_fix (el_h L P) el_ih31), 362, 6690)
      refine el_plain hmn BB (eg_at eo_law 42 5 rfl rfl) (pc' := 1352) (ls' := [some (.inr (.inr (.inl (some 4)))), some (.inr (.inr (.inl (some 5)))), some (.inr (.inr (.inl (some 345)))), some (.inl (i))]) (st' := []) (hp' := (ex_fix (el_h L P) el_ih31)) (fun _ _ => rfl) ?_
      refine el_ren (hp := (el_h L P)) (Φ' := el_F) el_lsr el_str (fun ν ws H hC h => el_q31 hC h) ?_
      refine el_plain hmn BB (eg_at eo_law 42 6 rfl rfl) (pc' := 1414) (ls' := [some (.inr (.inr (.inl (some 4)))), some (.inr (.inr (.inl (some 5)))), some (.inr (.inr (.inl (some 345)))), some (.inl (i))]) (st' := []) (hp' := (el_h L P)) (fun _ _ => rfl) ?_
      exact hX
    · refine el_call hmn BB (eg_at eo_law 42 4 rfl rfl) (pc' := 1351) (r := []) (em_X.ofE (kr_image0B_k hmn) (as := [.inr (.inr (.inl (some 345))), .inl 0]) rfl rfl) (by decide) (fun _ _ => rfl) (fun v hp' hP => ?_)
      obtain ⟨rfl, rfl⟩ := hP
      show el_G p l e s m below meth c b D τ sa ro el_F (1351, [some (.inr (.inr (.inl (some 4)))), some (.inr (.inr (.inl (some 5)))), some (.inr (.inr (.inl (some 345)))), some (.inl (i))], [_], (ex_fix (el_h L P) el_ih33), 362, 6690)
      refine el_plain hmn BB (eg_at eo_law 42 5 rfl rfl) (pc' := 1352) (ls' := [some (.inr (.inr (.inl (some 4)))), some (.inr (.inr (.inl (some 5)))), some (.inr (.inr (.inl (some 345)))), some (.inl (i))]) (st' := []) (hp' := (ex_fix (el_h L P) el_ih33)) (fun _ _ => rfl) ?_
      refine el_ren (hp := (el_h L P)) (Φ' := el_F) el_lsr el_str (fun ν ws H hC h => el_q33 hC h) ?_
      refine el_plain hmn BB (eg_at eo_law 42 6 rfl rfl) (pc' := 1414) (ls' := [some (.inr (.inr (.inl (some 4)))), some (.inr (.inr (.inl (some 5)))), some (.inr (.inr (.inl (some 345)))), some (.inl (i))]) (st' := []) (hp' := (el_h L P)) (fun _ _ => rfl) ?_
      exact hX
  have x1 : f (i + 1) = 1 := by omega
  rw [x1]
  refine el_split (hpA := (ex_fix (el_h L P) el_ih35)) (hpB := (ex_fix (el_h L P) el_ih36)) (fun ν ws H hC h => (el_two0 h).symm.imp (fun hk => ⟨hC, el_t35 hC.C hk h⟩) (fun hk => ⟨hC, el_t36 hC.C hk h⟩)) ?_ ?_
  · refine el_call hmn BB (eg_at eo_law 42 4 rfl rfl) (pc' := 1351) (r := []) (em_X.ofE (kr_image1A_k hmn) (as := [.inr (.inr (.inl (some 345))), .inl 1]) rfl rfl) (by decide) (fun _ _ => rfl) (fun v hp' hP => ?_)
    obtain ⟨rfl, rfl⟩ := hP
    show el_G p l e s m below meth c b D τ sa ro el_F (1351, [some (.inr (.inr (.inl (some 4)))), some (.inr (.inr (.inl (some 5)))), some (.inr (.inr (.inl (some 345)))), some (.inl (i))], [_], (ex_fix (el_h L P) el_ih31), 362, 6690)
    refine el_plain hmn BB (eg_at eo_law 42 5 rfl rfl) (pc' := 1352) (ls' := [some (.inr (.inr (.inl (some 4)))), some (.inr (.inr (.inl (some 5)))), some (.inr (.inr (.inl (some 345)))), some (.inl (i))]) (st' := []) (hp' := (ex_fix (el_h L P) el_ih31)) (fun _ _ => rfl) ?_
    refine el_ren (hp := (el_h L P)) (Φ' := el_F) el_lsr el_str (fun ν ws H hC h => el_q31 hC h) ?_
    refine el_plain hmn BB (eg_at eo_law 42 6 rfl rfl) (pc' := 1414) (ls' := [some (.inr (.inr (.inl (some 4)))), some (.inr (.inr (.inl (some 5)))), some (.inr (.inr (.inl (some 345)))), some (.inl (i))]) (st' := []) (hp' := (el_h L P)) (fun _ _ => rfl) ?_
    exact hX
  · refine el_call hmn BB (eg_at eo_law 42 4 rfl rfl) (pc' := 1351) (r := []) (em_X.ofE (kr_image1B_k hmn) (as := [.inr (.inr (.inl (some 345))), .inl 1]) rfl rfl) (by decide) (fun _ _ => rfl) (fun v hp' hP => ?_)
    obtain ⟨rfl, rfl⟩ := hP
    show el_G p l e s m below meth c b D τ sa ro el_F (1351, [some (.inr (.inr (.inl (some 4)))), some (.inr (.inr (.inl (some 5)))), some (.inr (.inr (.inl (some 345)))), some (.inl (i))], [_], (ex_fix (el_h L P) el_ih37), 362, 6690)
    refine el_plain hmn BB (eg_at eo_law 42 5 rfl rfl) (pc' := 1352) (ls' := [some (.inr (.inr (.inl (some 4)))), some (.inr (.inr (.inl (some 5)))), some (.inr (.inr (.inl (some 345)))), some (.inl (i))]) (st' := []) (hp' := (ex_fix (el_h L P) el_ih37)) (fun _ _ => rfl) ?_
    refine el_ren (hp := (el_h L P)) (Φ' := el_F) el_lsr el_str (fun ν ws H hC h => el_q37 hC h) ?_
    refine el_plain hmn BB (eg_at eo_law 42 6 rfl rfl) (pc' := 1414) (ls' := [some (.inr (.inr (.inl (some 4)))), some (.inr (.inr (.inl (some 5)))), some (.inr (.inr (.inl (some 345)))), some (.inl (i))]) (st' := []) (hp' := (el_h L P)) (fun _ _ => rfl) ?_
    exact hX
theorem el_op31 {p : Program} {l : Launch} {e : Env} {s : State} {m : MethodId} {below : List Frame} {meth : Method} {c : Code} {b : Nat} {D : va_G} {τ : Nat → ClassId} {sa : List Nat} {ro : List ex_C} (hmn : em_mna) (BB : el_B p s m meth c b D τ sa ro) {L P : Nat} {f : Int → Int} (hR : ey_R L P f) {i : Int} (h0 : 0 ≤ i) (h1 : i + 6 ≤ (L : Int)) (hL : (L : Int) ≤ 3072) (hX : el_G p l e s m below meth c b D τ sa ro el_F (1414, [some (.inr (.inr (.inl (some 4)))), some (.inr (.inr (.inl (some 5)))), some (.inr (.inr (.inl (some 345)))), some (.inl (i))], [], (el_h L P), 362, 6690)) : el_G p l e s m below meth c b D τ sa ro el_F (1355, [some (.inr (.inr (.inl (some 4)))), some (.inr (.inr (.inl (some 5)))), some (.inr (.inr (.inl (some 345)))), some (.inl (i))], [], (el_h L P), 362, 6690) := by
  refine el_plain hmn BB (eg_at eo_law 42 7 rfl rfl) (pc' := 1356) (ls' := [some (.inr (.inr (.inl (some 4)))), some (.inr (.inr (.inl (some 5)))), some (.inr (.inr (.inl (some 345)))), some (.inl (i))]) (st' := [.inr (.inr (.inl (some 5)))]) (hp' := (el_h L P)) (fun _ _ => rfl) ?_
  refine el_plain hmn BB (eg_at eo_law 42 8 rfl rfl) (pc' := 1357) (ls' := [some (.inr (.inr (.inl (some 4)))), some (.inr (.inr (.inl (some 5)))), some (.inr (.inr (.inl (some 345)))), some (.inl (i))]) (st' := [.inr (.inr (.inl (some 4))), .inr (.inr (.inl (some 5)))]) (hp' := (el_h L P)) (fun _ _ => rfl) ?_
  refine el_plain hmn BB (eg_at eo_law 42 9 rfl rfl) (pc' := 1358) (ls' := [some (.inr (.inr (.inl (some 4)))), some (.inr (.inr (.inl (some 5)))), some (.inr (.inr (.inl (some 345)))), some (.inl (i))]) (st' := [.inl (i), .inr (.inr (.inl (some 4))), .inr (.inr (.inl (some 5)))]) (hp' := (el_h L P)) (fun _ _ => rfl) ?_
  refine el_plain hmn BB (eg_at eo_law 42 10 rfl rfl) (pc' := 1359) (ls' := [some (.inr (.inr (.inl (some 4)))), some (.inr (.inr (.inl (some 5)))), some (.inr (.inr (.inl (some 345)))), some (.inl (i))]) (st' := [.inl (1), .inl (i), .inr (.inr (.inl (some 4))), .inr (.inr (.inl (some 5)))]) (hp' := (el_h L P)) (fun _ _ => rfl) ?_
  refine el_iadd hmn BB (eg_at eo_law 42 11 rfl rfl) (pc' := 1360) rfl (by omega) (by omega) ?_
  refine el_iaload hmn BB (eg_at eo_law 42 12 rfl rfl) (pc' := 1361) (n := L) rfl (fun _ => rfl) hR (by omega) (by omega) ?_
  refine el_call hmn BB (eg_at eo_law 42 13 rfl rfl) (pc' := 1364) (r := []) (em_X.ofE (kc_from_k hmn) (as := [.inr (.inr (.inl (some 5))), .inl (f (i + 1))]) (ey_lr (ey_li ((hR.at (z := i + 1) (by omega) (by omega)).1) ((hR.at (z := i + 1) (by omega) (by omega)).2) ey_l0)) el_h_le) (by decide) (fun _ _ => rfl) (fun v hp' hP => ?_)
  obtain ⟨rfl, rfl⟩ := hP
  show el_G p l e s m below meth c b D τ sa ro el_F (1364, [some (.inr (.inr (.inl (some 4)))), some (.inr (.inr (.inl (some 5)))), some (.inr (.inr (.inl (some 345)))), some (.inl (i))], [_], (el_h L P), 362, 6690)
  refine el_plain hmn BB (eg_at eo_law 42 14 rfl rfl) (pc' := 1365) (ls' := [some (.inr (.inr (.inl (some 4)))), some (.inr (.inr (.inl (some 5)))), some (.inr (.inr (.inl (some 345)))), some (.inl (i))]) (st' := []) (hp' := (el_h L P)) (fun _ _ => rfl) ?_
  refine el_plain hmn BB (eg_at eo_law 42 15 rfl rfl) (pc' := 1366) (ls' := [some (.inr (.inr (.inl (some 4)))), some (.inr (.inr (.inl (some 5)))), some (.inr (.inr (.inl (some 345)))), some (.inl (i))]) (st' := [.inr (.inr (.inl (some 345)))]) (hp' := (el_h L P)) (fun _ _ => rfl) ?_
  refine el_plain hmn BB (eg_at eo_law 42 16 rfl rfl) (pc' := 1367) (ls' := [some (.inr (.inr (.inl (some 4)))), some (.inr (.inr (.inl (some 5)))), some (.inr (.inr (.inl (some 345)))), some (.inl (i))]) (st' := [.inr (.inr (.inl (some 4))), .inr (.inr (.inl (some 345)))]) (hp' := (el_h L P)) (fun _ _ => rfl) ?_
  refine el_plain hmn BB (eg_at eo_law 42 17 rfl rfl) (pc' := 1368) (ls' := [some (.inr (.inr (.inl (some 4)))), some (.inr (.inr (.inl (some 5)))), some (.inr (.inr (.inl (some 345)))), some (.inl (i))]) (st' := [.inl (i), .inr (.inr (.inl (some 4))), .inr (.inr (.inl (some 345)))]) (hp' := (el_h L P)) (fun _ _ => rfl) ?_
  refine el_plain hmn BB (eg_at eo_law 42 18 rfl rfl) (pc' := 1369) (ls' := [some (.inr (.inr (.inl (some 4)))), some (.inr (.inr (.inl (some 5)))), some (.inr (.inr (.inl (some 345)))), some (.inl (i))]) (st' := [.inl (1), .inl (i), .inr (.inr (.inl (some 4))), .inr (.inr (.inl (some 345)))]) (hp' := (el_h L P)) (fun _ _ => rfl) ?_
  refine el_iadd hmn BB (eg_at eo_law 42 19 rfl rfl) (pc' := 1370) rfl (by omega) (by omega) ?_
  refine el_iaload hmn BB (eg_at eo_law 42 20 rfl rfl) (pc' := 1371) (n := L) rfl (fun _ => rfl) hR (by omega) (by omega) ?_
  have bx := hR.at (z := i + 1) (by omega) (by omega)
  by_cases xlo : f (i + 1) < 0
  · refine el_call hmn BB (eg_at eo_law 42 21 rfl rfl) (pc' := 1374) (r := []) (em_X.ofE (kr_from_lo_k hmn) (as := [.inr (.inr (.inl (some 345))), .inl (f (i + 1))]) (ey_lr (ey_li (show (-2147483648 : Int) ≤ f (i + 1) by omega) (show f (i + 1) ≤ -1 by omega) ey_l0)) el_h_le) (by decide) (fun _ _ => rfl) (fun v hp' hP => ?_)
    obtain ⟨rfl, rfl⟩ := hP
    show el_G p l e s m below meth c b D τ sa ro el_F (1374, [some (.inr (.inr (.inl (some 4)))), some (.inr (.inr (.inl (some 5)))), some (.inr (.inr (.inl (some 345)))), some (.inl (i))], [_], (el_h L P), 362, 6690)
    refine el_plain hmn BB (eg_at eo_law 42 22 rfl rfl) (pc' := 1375) (ls' := [some (.inr (.inr (.inl (some 4)))), some (.inr (.inr (.inl (some 5)))), some (.inr (.inr (.inl (some 345)))), some (.inl (i))]) (st' := []) (hp' := (el_h L P)) (fun _ _ => rfl) ?_
    refine el_plain hmn BB (eg_at eo_law 42 23 rfl rfl) (pc' := 1414) (ls' := [some (.inr (.inr (.inl (some 4)))), some (.inr (.inr (.inl (some 5)))), some (.inr (.inr (.inl (some 345)))), some (.inl (i))]) (st' := []) (hp' := (el_h L P)) (fun _ _ => rfl) ?_
    exact hX
  by_cases xhi : 2 ≤ f (i + 1)
  · refine el_call hmn BB (eg_at eo_law 42 21 rfl rfl) (pc' := 1374) (r := []) (em_X.ofE (kr_from_hi_k hmn) (as := [.inr (.inr (.inl (some 345))), .inl (f (i + 1))]) (ey_lr (ey_li (show 2 ≤ f (i + 1) by omega) (show f (i + 1) ≤ (2147483647 : Int) by omega) ey_l0)) el_h_le) (by decide) (fun _ _ => rfl) (fun v hp' hP => ?_)
    obtain ⟨rfl, rfl⟩ := hP
    show el_G p l e s m below meth c b D τ sa ro el_F (1374, [some (.inr (.inr (.inl (some 4)))), some (.inr (.inr (.inl (some 5)))), some (.inr (.inr (.inl (some 345)))), some (.inl (i))], [_], (el_h L P), 362, 6690)
    refine el_plain hmn BB (eg_at eo_law 42 22 rfl rfl) (pc' := 1375) (ls' := [some (.inr (.inr (.inl (some 4)))), some (.inr (.inr (.inl (some 5)))), some (.inr (.inr (.inl (some 345)))), some (.inl (i))]) (st' := []) (hp' := (el_h L P)) (fun _ _ => rfl) ?_
    refine el_plain hmn BB (eg_at eo_law 42 23 rfl rfl) (pc' := 1414) (ls' := [some (.inr (.inr (.inl (some 4)))), some (.inr (.inr (.inl (some 5)))), some (.inr (.inr (.inl (some 345)))), some (.inl (i))]) (st' := []) (hp' := (el_h L P)) (fun _ _ => rfl) ?_
    exact hX
  by_cases x0 : f (i + 1) = 0
  · rw [x0]
    refine el_split (hpA := (ex_fix (el_h L P) el_ih35)) (hpB := (ex_fix (el_h L P) el_ih36)) (fun ν ws H hC h => (el_two0 h).symm.imp (fun hk => ⟨hC, el_t35 hC.C hk h⟩) (fun hk => ⟨hC, el_t36 hC.C hk h⟩)) ?_ ?_
    · refine el_call hmn BB (eg_at eo_law 42 21 rfl rfl) (pc' := 1374) (r := []) (em_X.ofE (kr_from0A_k hmn) (as := [.inr (.inr (.inl (some 345))), .inl 0]) rfl rfl) (by decide) (fun _ _ => rfl) (fun v hp' hP => ?_)
      obtain ⟨rfl, rfl⟩ := hP
      show el_G p l e s m below meth c b D τ sa ro el_F (1374, [some (.inr (.inr (.inl (some 4)))), some (.inr (.inr (.inl (some 5)))), some (.inr (.inr (.inl (some 345)))), some (.inl (i))], [_], (el_h L P), 362, 6690)
      refine el_plain hmn BB (eg_at eo_law 42 22 rfl rfl) (pc' := 1375) (ls' := [some (.inr (.inr (.inl (some 4)))), some (.inr (.inr (.inl (some 5)))), some (.inr (.inr (.inl (some 345)))), some (.inl (i))]) (st' := []) (hp' := (el_h L P)) (fun _ _ => rfl) ?_
      refine el_plain hmn BB (eg_at eo_law 42 23 rfl rfl) (pc' := 1414) (ls' := [some (.inr (.inr (.inl (some 4)))), some (.inr (.inr (.inl (some 5)))), some (.inr (.inr (.inl (some 345)))), some (.inl (i))]) (st' := []) (hp' := (el_h L P)) (fun _ _ => rfl) ?_
      exact hX
    · refine el_call hmn BB (eg_at eo_law 42 21 rfl rfl) (pc' := 1374) (r := []) (em_X.ofE (kr_from0B_k hmn) (as := [.inr (.inr (.inl (some 345))), .inl 0]) rfl rfl) (by decide) (fun _ _ => rfl) (fun v hp' hP => ?_)
      obtain ⟨rfl, rfl⟩ := hP
      show el_G p l e s m below meth c b D τ sa ro el_F (1374, [some (.inr (.inr (.inl (some 4)))), some (.inr (.inr (.inl (some 5)))), some (.inr (.inr (.inl (some 345)))), some (.inl (i))], [_], (el_h L P), 362, 6690)
      refine el_plain hmn BB (eg_at eo_law 42 22 rfl rfl) (pc' := 1375) (ls' := [some (.inr (.inr (.inl (some 4)))), some (.inr (.inr (.inl (some 5)))), some (.inr (.inr (.inl (some 345)))), some (.inl (i))]) (st' := []) (hp' := (el_h L P)) (fun _ _ => rfl) ?_
      refine el_plain hmn BB (eg_at eo_law 42 23 rfl rfl) (pc' := 1414) (ls' := [some (.inr (.inr (.inl (some 4)))), some (.inr (.inr (.inl (some 5)))), some (.inr (.inr (.inl (some 345)))), some (.inl (i))]) (st' := []) (hp' := (el_h L P)) (fun _ _ => rfl) ?_
      exact hX
  have x1 : f (i + 1) = 1 := by omega
  rw [x1]
  refine el_split (hpA := (ex_fix (el_h L P) el_ih32)) (hpB := (ex_fix (el_h L P) el_ih34)) (fun ν ws H hC h => (el_two1 h).symm.imp (fun hk => ⟨hC, el_t32 hC.C hk h⟩) (fun hk => ⟨hC, el_t34 hC.C hk h⟩)) ?_ ?_
  · refine el_call hmn BB (eg_at eo_law 42 21 rfl rfl) (pc' := 1374) (r := []) (em_X.ofE (kr_from1A_k hmn) (as := [.inr (.inr (.inl (some 345))), .inl 1]) rfl rfl) (by decide) (fun _ _ => rfl) (fun v hp' hP => ?_)
    obtain ⟨rfl, rfl⟩ := hP
    show el_G p l e s m below meth c b D τ sa ro el_F (1374, [some (.inr (.inr (.inl (some 4)))), some (.inr (.inr (.inl (some 5)))), some (.inr (.inr (.inl (some 345)))), some (.inl (i))], [_], (el_h L P), 362, 6690)
    refine el_plain hmn BB (eg_at eo_law 42 22 rfl rfl) (pc' := 1375) (ls' := [some (.inr (.inr (.inl (some 4)))), some (.inr (.inr (.inl (some 5)))), some (.inr (.inr (.inl (some 345)))), some (.inl (i))]) (st' := []) (hp' := (el_h L P)) (fun _ _ => rfl) ?_
    refine el_plain hmn BB (eg_at eo_law 42 23 rfl rfl) (pc' := 1414) (ls' := [some (.inr (.inr (.inl (some 4)))), some (.inr (.inr (.inl (some 5)))), some (.inr (.inr (.inl (some 345)))), some (.inl (i))]) (st' := []) (hp' := (el_h L P)) (fun _ _ => rfl) ?_
    exact hX
  · refine el_call hmn BB (eg_at eo_law 42 21 rfl rfl) (pc' := 1374) (r := []) (em_X.ofE (kr_from1B_k hmn) (as := [.inr (.inr (.inl (some 345))), .inl 1]) rfl rfl) (by decide) (fun _ _ => rfl) (fun v hp' hP => ?_)
    obtain ⟨rfl, rfl⟩ := hP
    show el_G p l e s m below meth c b D τ sa ro el_F (1374, [some (.inr (.inr (.inl (some 4)))), some (.inr (.inr (.inl (some 5)))), some (.inr (.inr (.inl (some 345)))), some (.inl (i))], [_], (el_h L P), 362, 6690)
    refine el_plain hmn BB (eg_at eo_law 42 22 rfl rfl) (pc' := 1375) (ls' := [some (.inr (.inr (.inl (some 4)))), some (.inr (.inr (.inl (some 5)))), some (.inr (.inr (.inl (some 345)))), some (.inl (i))]) (st' := []) (hp' := (el_h L P)) (fun _ _ => rfl) ?_
    refine el_plain hmn BB (eg_at eo_law 42 23 rfl rfl) (pc' := 1414) (ls' := [some (.inr (.inr (.inl (some 4)))), some (.inr (.inr (.inl (some 5)))), some (.inr (.inr (.inl (some 345)))), some (.inl (i))]) (st' := []) (hp' := (el_h L P)) (fun _ _ => rfl) ?_
    exact hX
