/-! tellsItem, by hand. Printed by wip/p3/textgen2.py. -/
theorem eq_tellsItem {l : Launch} {D : va_G} {τ : Nat → ClassId} {sa : List Nat} {A : Nat → Prop} (hmn : em_mna) {i : Int} (hi : 0 ≤ i ∧ i < 300) : em_X l D τ sa A 156 [(.inr (.inr (.inl (some 345)))), .inl i] ei_h0 (fun w hp' => ∃ r : Int, w = some (.inl r) ∧ hp' = ei_h0 ∧ -2147483648 ≤ r ∧ r ≤ 2147483647) 3 := by
  refine em_X.of (tb := eu_156) (nl := 5) (ret := some .int) rfl (q := [some (.inr (.inr (.inl (some 345)))), some (.inl (i)), none, none, none]) (fun _ => rfl) (fun own mname bytes hT => ?_)
  refine ej_plain hmn (eg_at hT 0 0 rfl rfl) (pc' := 1) (ls' := [some (.inr (.inr (.inl (some 345)))), some (.inl (i)), none, none, none]) (st' := [.inr (.inr (.inl (some 345)))]) (fun _ _ => rfl) ?_
  refine ej_plain hmn (eg_at hT 0 1 rfl rfl) (pc' := 4) (ls' := [some (.inr (.inr (.inl (some 345)))), some (.inl (i)), none, none, none]) (st' := [.inr (.inr (.inl (some 352)))]) (fun _ _ => rfl) ?_
  refine ej_plain hmn (eg_at hT 0 2 rfl rfl) (pc' := 5) (ls' := [some (.inr (.inr (.inl (some 345)))), some (.inl (i)), none, none, none]) (st' := [.inl (5), .inr (.inr (.inl (some 352)))]) (fun _ _ => rfl) ?_
  refine ej_plain hmn (eg_at hT 0 3 rfl rfl) (pc' := 6) (ls' := [some (.inr (.inr (.inl (some 345)))), some (.inl (i)), none, none, none]) (st' := [.inl (i), .inl (5), .inr (.inr (.inl (some 352)))]) (fun _ _ => rfl) ?_
  refine ej_imul hmn (eg_at hT 0 4 rfl rfl) (pc' := 7) rfl (by omega) (by omega) ?_
  refine ej_ialoadW hmn (eg_at hT 0 5 rfl rfl) (pc' := 8) (n := 1500) (lo := (-2147483648)) (hi := (2147483647)) rfl (fun _ => rfl) (by omega) (by omega) (evw_352 _ (by omega)) (by decide) (fun gv1 gv1a gv1b => ?_)
  refine ej_plain hmn (eg_at hT 0 6 rfl rfl) (pc' := 9) (ls' := [some (.inr (.inr (.inl (some 345)))), some (.inl (i)), some (.inl (gv1)), none, none]) (st' := []) (fun _ _ => rfl) ?_
  refine ej_plain hmn (eg_at hT 0 7 rfl rfl) (pc' := 10) (ls' := [some (.inr (.inr (.inl (some 345)))), some (.inl (i)), some (.inl (gv1)), none, none]) (st' := [.inr (.inr (.inl (some 345)))]) (fun _ _ => rfl) ?_
  refine ej_plain hmn (eg_at hT 0 8 rfl rfl) (pc' := 13) (ls' := [some (.inr (.inr (.inl (some 345)))), some (.inl (i)), some (.inl (gv1)), none, none]) (st' := [.inr (.inr (.inl (some 352)))]) (fun _ _ => rfl) ?_
  refine ej_plain hmn (eg_at hT 0 9 rfl rfl) (pc' := 14) (ls' := [some (.inr (.inr (.inl (some 345)))), some (.inl (i)), some (.inl (gv1)), none, none]) (st' := [.inl (5), .inr (.inr (.inl (some 352)))]) (fun _ _ => rfl) ?_
  refine ej_plain hmn (eg_at hT 0 10 rfl rfl) (pc' := 15) (ls' := [some (.inr (.inr (.inl (some 345)))), some (.inl (i)), some (.inl (gv1)), none, none]) (st' := [.inl (i), .inl (5), .inr (.inr (.inl (some 352)))]) (fun _ _ => rfl) ?_
  refine ej_imul hmn (eg_at hT 0 11 rfl rfl) (pc' := 16) rfl (by omega) (by omega) ?_
  refine ej_plain hmn (eg_at hT 0 12 rfl rfl) (pc' := 17) (ls' := [some (.inr (.inr (.inl (some 345)))), some (.inl (i)), some (.inl (gv1)), none, none]) (st' := [.inl (1), .inl (5 * i), .inr (.inr (.inl (some 352)))]) (fun _ _ => rfl) ?_
  refine ej_iadd hmn (eg_at hT 0 13 rfl rfl) (pc' := 18) rfl (by omega) (by omega) ?_
  refine ej_ialoadW hmn (eg_at hT 0 14 rfl rfl) (pc' := 19) (n := 1500) (lo := (-2147483648)) (hi := (2147483647)) rfl (fun _ => rfl) (by omega) (by omega) (evw_352 _ (by omega)) (by decide) (fun gv2 gv2a gv2b => ?_)
  refine ej_plain hmn (eg_at hT 0 15 rfl rfl) (pc' := 20) (ls' := [some (.inr (.inr (.inl (some 345)))), some (.inl (i)), some (.inl (gv1)), some (.inl (gv2)), none]) (st' := []) (fun _ _ => rfl) ?_
  refine ej_plain hmn (eg_at hT 0 16 rfl rfl) (pc' := 21) (ls' := [some (.inr (.inr (.inl (some 345)))), some (.inl (i)), some (.inl (gv1)), some (.inl (gv2)), none]) (st' := [.inr (.inr (.inl (some 345)))]) (fun _ _ => rfl) ?_
  refine ej_plain hmn (eg_at hT 0 17 rfl rfl) (pc' := 24) (ls' := [some (.inr (.inr (.inl (some 345)))), some (.inl (i)), some (.inl (gv1)), some (.inl (gv2)), none]) (st' := [.inr (.inr (.inl (some 352)))]) (fun _ _ => rfl) ?_
  refine ej_plain hmn (eg_at hT 0 18 rfl rfl) (pc' := 25) (ls' := [some (.inr (.inr (.inl (some 345)))), some (.inl (i)), some (.inl (gv1)), some (.inl (gv2)), none]) (st' := [.inl (5), .inr (.inr (.inl (some 352)))]) (fun _ _ => rfl) ?_
  refine ej_plain hmn (eg_at hT 0 19 rfl rfl) (pc' := 26) (ls' := [some (.inr (.inr (.inl (some 345)))), some (.inl (i)), some (.inl (gv1)), some (.inl (gv2)), none]) (st' := [.inl (i), .inl (5), .inr (.inr (.inl (some 352)))]) (fun _ _ => rfl) ?_
  refine ej_imul hmn (eg_at hT 0 20 rfl rfl) (pc' := 27) rfl (by omega) (by omega) ?_
  refine ej_plain hmn (eg_at hT 0 21 rfl rfl) (pc' := 28) (ls' := [some (.inr (.inr (.inl (some 345)))), some (.inl (i)), some (.inl (gv1)), some (.inl (gv2)), none]) (st' := [.inl (2), .inl (5 * i), .inr (.inr (.inl (some 352)))]) (fun _ _ => rfl) ?_
  refine ej_iadd hmn (eg_at hT 0 22 rfl rfl) (pc' := 29) rfl (by omega) (by omega) ?_
  refine ej_ialoadW hmn (eg_at hT 0 23 rfl rfl) (pc' := 30) (n := 1500) (lo := (-2147483648)) (hi := (2147483647)) rfl (fun _ => rfl) (by omega) (by omega) (evw_352 _ (by omega)) (by decide) (fun gv3 gv3a gv3b => ?_)
  refine ej_plain hmn (eg_at hT 0 24 rfl rfl) (pc' := 32) (ls' := [some (.inr (.inr (.inl (some 345)))), some (.inl (i)), some (.inl (gv1)), some (.inl (gv2)), some (.inl (gv3))]) (st' := []) (fun _ _ => rfl) ?_
  refine ej_plain hmn (eg_at hT 1 0 rfl rfl) (pc' := 33) (ls' := [some (.inr (.inr (.inl (some 345)))), some (.inl (i)), some (.inl (gv1)), some (.inl (gv2)), some (.inl (gv3))]) (st' := [.inr (.inr (.inl (some 345)))]) (fun _ _ => rfl) ?_
  refine ej_plain hmn (eg_at hT 1 1 rfl rfl) (pc' := 36) (ls' := [some (.inr (.inr (.inl (some 345)))), some (.inl (i)), some (.inl (gv1)), some (.inl (gv2)), some (.inl (gv3))]) (st' := [.inr (.inr (.inl (some 351)))]) (fun _ _ => rfl) ?_
  refine ej_plain hmn (eg_at hT 1 2 rfl rfl) (pc' := 37) (ls' := [some (.inr (.inr (.inl (some 345)))), some (.inl (i)), some (.inl (gv1)), some (.inl (gv2)), some (.inl (gv3))]) (st' := [.inl (i), .inr (.inr (.inl (some 351)))]) (fun _ _ => rfl) ?_
  refine ej_ialoadW hmn (eg_at hT 1 3 rfl rfl) (pc' := 38) (n := 300) (lo := (-2147483648)) (hi := (2147483647)) rfl (fun _ => rfl) (by omega) (by omega) (evw_351 _ (by omega)) (by decide) (fun gv4 gv4a gv4b => ?_)
  by_cases gs5 : gv4 < 10 ∨ 18 < gv4
  · refine ej_tswd hmn (eg_at hT 1 4 rfl rfl) (t := 189) (fun _ => rfl) (hi := 18) rfl gs5 ?_
    refine ej_plain hmn (eg_at hT 5 20 rfl rfl) (pc' := 190) (ls' := [some (.inr (.inr (.inl (some 345)))), some (.inl (i)), some (.inl (gv1)), some (.inl (gv2)), some (.inl (gv3))]) (st' := [.inr (.inr (.inl (some 345)))]) (fun _ _ => rfl) ?_
    refine ej_plain hmn (eg_at hT 5 21 rfl rfl) (pc' := 191) (ls' := [some (.inr (.inr (.inl (some 345)))), some (.inl (i)), some (.inl (gv1)), some (.inl (gv2)), some (.inl (gv3))]) (st' := [.inl (gv1), .inr (.inr (.inl (some 345)))]) (fun _ _ => rfl) ?_
    refine ej_plain hmn (eg_at hT 5 22 rfl rfl) (pc' := 192) (ls' := [some (.inr (.inr (.inl (some 345)))), some (.inl (i)), some (.inl (gv1)), some (.inl (gv2)), some (.inl (gv3))]) (st' := [.inl (1), .inl (gv1), .inr (.inr (.inl (some 345)))]) (fun _ _ => rfl) ?_
    refine ej_call hmn (eg_at hT 6 0 rfl rfl) (pc' := 195) (r := []) (ey_invI (kr_open_k hmn) (as' := [.inr (.inr (.inl (some 345))), .inl (gv1), .inl (1)]) (ey_lr (ey_li (show (-2147483648 : Int) ≤ gv1 by omega) (show gv1 ≤ (2147483647 : Int) by omega) (ey_li (show (0 : Int) ≤ 1 by omega) (show 1 ≤ (1 : Int) by omega) ey_l0)))) (show 2 + 1 ≤ 3 by decide) (fun _ _ => rfl) (fun v hp' hP => ?_)
    obtain ⟨gr6, rfl, rfl, gr6l, gr6h⟩ := hP
    replace gr6l : (-200000 : Int) ≤ gr6 := gr6l
    replace gr6h : gr6 ≤ (1 : Int) := gr6h
    show em_G l D τ sa A own mname bytes 5 3 (0, 0) (some .int) _ (195, [some (.inr (.inr (.inl (some 345)))), some (.inl (i)), some (.inl (gv1)), some (.inl (gv2)), some (.inl (gv3))], [.inl (gr6)], ei_h0, 0, 0)
    exact ej_ireturn hmn (eg_at hT 6 1 rfl rfl) (@decide_eq_true _ (Classical.propDecidable _) ⟨_, rfl, rfl, by omega, by omega⟩)
  · have hz : gv4 = 10 ∨ gv4 = 11 ∨ gv4 = 12 ∨ gv4 = 13 ∨ gv4 = 14 ∨ gv4 = 15 ∨ gv4 = 16 ∨ gv4 = 17 ∨ gv4 = 18 := by omega
    rcases hz with hz | hz | hz | hz | hz | hz | hz | hz | hz
    · subst hz
      refine ej_plain hmn (eg_at hT 1 4 rfl rfl) (pc' := 88) (ls' := [some (.inr (.inr (.inl (some 345)))), some (.inl (i)), some (.inl (gv1)), some (.inl (gv2)), some (.inl (gv3))]) (st' := []) (fun _ _ => rfl) ?_
      refine ej_plain hmn (eg_at hT 2 0 rfl rfl) (pc' := 89) (ls' := [some (.inr (.inr (.inl (some 345)))), some (.inl (i)), some (.inl (gv1)), some (.inl (gv2)), some (.inl (gv3))]) (st' := [.inr (.inr (.inl (some 345)))]) (fun _ _ => rfl) ?_
      refine ej_plain hmn (eg_at hT 2 1 rfl rfl) (pc' := 90) (ls' := [some (.inr (.inr (.inl (some 345)))), some (.inl (i)), some (.inl (gv1)), some (.inl (gv2)), some (.inl (gv3))]) (st' := [.inl (gv1), .inr (.inr (.inl (some 345)))]) (fun _ _ => rfl) ?_
      refine ej_plain hmn (eg_at hT 2 2 rfl rfl) (pc' := 91) (ls' := [some (.inr (.inr (.inl (some 345)))), some (.inl (i)), some (.inl (gv1)), some (.inl (gv2)), some (.inl (gv3))]) (st' := [.inl (gv2), .inl (gv1), .inr (.inr (.inl (some 345)))]) (fun _ _ => rfl) ?_
      refine ej_call hmn (eg_at hT 2 3 rfl rfl) (pc' := 94) (r := []) (ey_invI (kr_put_k hmn) (as' := [.inr (.inr (.inl (some 345))), .inl (gv1), .inl (gv2)]) (ey_lr (ey_li (show (-2147483648 : Int) ≤ gv1 by omega) (show gv1 ≤ (2147483647 : Int) by omega) (ey_li (show (-2147483648 : Int) ≤ gv2 by omega) (show gv2 ≤ (2147483647 : Int) by omega) ey_l0)))) (show 1 + 1 ≤ 3 by decide) (fun _ _ => rfl) (fun v hp' hP => ?_)
      obtain ⟨gr7, rfl, rfl, gr7l, gr7h⟩ := hP
      replace gr7l : (-100000 : Int) ≤ gr7 := gr7l
      replace gr7h : gr7 ≤ (200 : Int) := gr7h
      show em_G l D τ sa A own mname bytes 5 3 (0, 0) (some .int) _ (94, [some (.inr (.inr (.inl (some 345)))), some (.inl (i)), some (.inl (gv1)), some (.inl (gv2)), some (.inl (gv3))], [.inl (gr7)], ei_h0, 0, 0)
      exact ej_ireturn hmn (eg_at hT 2 4 rfl rfl) (@decide_eq_true _ (Classical.propDecidable _) ⟨_, rfl, rfl, by omega, by omega⟩)
    · subst hz
      refine ej_plain hmn (eg_at hT 1 4 rfl rfl) (pc' := 95) (ls' := [some (.inr (.inr (.inl (some 345)))), some (.inl (i)), some (.inl (gv1)), some (.inl (gv2)), some (.inl (gv3))]) (st' := []) (fun _ _ => rfl) ?_
      refine ej_plain hmn (eg_at hT 2 5 rfl rfl) (pc' := 96) (ls' := [some (.inr (.inr (.inl (some 345)))), some (.inl (i)), some (.inl (gv1)), some (.inl (gv2)), some (.inl (gv3))]) (st' := [.inr (.inr (.inl (some 345)))]) (fun _ _ => rfl) ?_
      refine ej_plain hmn (eg_at hT 3 0 rfl rfl) (pc' := 97) (ls' := [some (.inr (.inr (.inl (some 345)))), some (.inl (i)), some (.inl (gv1)), some (.inl (gv2)), some (.inl (gv3))]) (st' := [.inl (gv1), .inr (.inr (.inl (some 345)))]) (fun _ _ => rfl) ?_
      refine ej_plain hmn (eg_at hT 3 1 rfl rfl) (pc' := 98) (ls' := [some (.inr (.inr (.inl (some 345)))), some (.inl (i)), some (.inl (gv1)), some (.inl (gv2)), some (.inl (gv3))]) (st' := [.inl (gv2), .inl (gv1), .inr (.inr (.inl (some 345)))]) (fun _ _ => rfl) ?_
      refine ej_plain hmn (eg_at hT 3 2 rfl rfl) (pc' := 100) (ls' := [some (.inr (.inr (.inl (some 345)))), some (.inl (i)), some (.inl (gv1)), some (.inl (gv2)), some (.inl (gv3))]) (st' := [.inl (gv3), .inl (gv2), .inl (gv1), .inr (.inr (.inl (some 345)))]) (fun _ _ => rfl) ?_
      refine ej_plain hmn (eg_at hT 3 3 rfl rfl) (pc' := 101) (ls' := [some (.inr (.inr (.inl (some 345)))), some (.inl (i)), some (.inl (gv1)), some (.inl (gv2)), some (.inl (gv3))]) (st' := [.inr (.inr (.inl (some 345))), .inl (gv3), .inl (gv2), .inl (gv1), .inr (.inr (.inl (some 345)))]) (fun _ _ => rfl) ?_
      refine ej_plain hmn (eg_at hT 3 4 rfl rfl) (pc' := 104) (ls' := [some (.inr (.inr (.inl (some 345)))), some (.inl (i)), some (.inl (gv1)), some (.inl (gv2)), some (.inl (gv3))]) (st' := [.inr (.inr (.inl (some 352))), .inl (gv3), .inl (gv2), .inl (gv1), .inr (.inr (.inl (some 345)))]) (fun _ _ => rfl) ?_
      refine ej_plain hmn (eg_at hT 3 5 rfl rfl) (pc' := 105) (ls' := [some (.inr (.inr (.inl (some 345)))), some (.inl (i)), some (.inl (gv1)), some (.inl (gv2)), some (.inl (gv3))]) (st' := [.inl (5), .inr (.inr (.inl (some 352))), .inl (gv3), .inl (gv2), .inl (gv1), .inr (.inr (.inl (some 345)))]) (fun _ _ => rfl) ?_
      refine ej_plain hmn (eg_at hT 3 6 rfl rfl) (pc' := 106) (ls' := [some (.inr (.inr (.inl (some 345)))), some (.inl (i)), some (.inl (gv1)), some (.inl (gv2)), some (.inl (gv3))]) (st' := [.inl (i), .inl (5), .inr (.inr (.inl (some 352))), .inl (gv3), .inl (gv2), .inl (gv1), .inr (.inr (.inl (some 345)))]) (fun _ _ => rfl) ?_
      refine ej_imul hmn (eg_at hT 3 7 rfl rfl) (pc' := 107) rfl (by omega) (by omega) ?_
      refine ej_plain hmn (eg_at hT 3 8 rfl rfl) (pc' := 108) (ls' := [some (.inr (.inr (.inl (some 345)))), some (.inl (i)), some (.inl (gv1)), some (.inl (gv2)), some (.inl (gv3))]) (st' := [.inl (3), .inl (5 * i), .inr (.inr (.inl (some 352))), .inl (gv3), .inl (gv2), .inl (gv1), .inr (.inr (.inl (some 345)))]) (fun _ _ => rfl) ?_
      refine ej_iadd hmn (eg_at hT 3 9 rfl rfl) (pc' := 109) rfl (by omega) (by omega) ?_
      refine ej_ialoadW hmn (eg_at hT 3 10 rfl rfl) (pc' := 110) (n := 1500) (lo := (-2147483648)) (hi := (2147483647)) rfl (fun _ => rfl) (by omega) (by omega) (evw_352 _ (by omega)) (by decide) (fun gv8 gv8a gv8b => ?_)
      refine ej_call hmn (eg_at hT 3 11 rfl rfl) (pc' := 113) (r := []) (ey_invI (kr_cell_k hmn) (as' := [.inr (.inr (.inl (some 345))), .inl (gv1), .inl (gv2), .inl (gv3), .inl (gv8)]) (ey_lr (ey_li (show (-2147483648 : Int) ≤ gv1 by omega) (show gv1 ≤ (2147483647 : Int) by omega) (ey_li (show (-2147483648 : Int) ≤ gv2 by omega) (show gv2 ≤ (2147483647 : Int) by omega) (ey_li (show (-2147483648 : Int) ≤ gv3 by omega) (show gv3 ≤ (2147483647 : Int) by omega) (ey_li (show (-2147483648 : Int) ≤ gv8 by omega) (show gv8 ≤ (2147483647 : Int) by omega) ey_l0)))))) (show 2 + 1 ≤ 3 by decide) (fun _ _ => rfl) (fun v hp' hP => ?_)
      obtain ⟨gr9, rfl, rfl, gr9l, gr9h⟩ := hP
      replace gr9l : (-100000 : Int) ≤ gr9 := gr9l
      replace gr9h : gr9 ≤ (1 : Int) := gr9h
      show em_G l D τ sa A own mname bytes 5 3 (0, 0) (some .int) _ (113, [some (.inr (.inr (.inl (some 345)))), some (.inl (i)), some (.inl (gv1)), some (.inl (gv2)), some (.inl (gv3))], [.inl (gr9)], ei_h0, 0, 0)
      exact ej_ireturn hmn (eg_at hT 3 12 rfl rfl) (@decide_eq_true _ (Classical.propDecidable _) ⟨_, rfl, rfl, by omega, by omega⟩)
    · subst hz
      refine ej_plain hmn (eg_at hT 1 4 rfl rfl) (pc' := 114) (ls' := [some (.inr (.inr (.inl (some 345)))), some (.inl (i)), some (.inl (gv1)), some (.inl (gv2)), some (.inl (gv3))]) (st' := []) (fun _ _ => rfl) ?_
      refine ej_plain hmn (eg_at hT 3 13 rfl rfl) (pc' := 115) (ls' := [some (.inr (.inr (.inl (some 345)))), some (.inl (i)), some (.inl (gv1)), some (.inl (gv2)), some (.inl (gv3))]) (st' := [.inr (.inr (.inl (some 345)))]) (fun _ _ => rfl) ?_
      refine ej_plain hmn (eg_at hT 3 14 rfl rfl) (pc' := 116) (ls' := [some (.inr (.inr (.inl (some 345)))), some (.inl (i)), some (.inl (gv1)), some (.inl (gv2)), some (.inl (gv3))]) (st' := [.inl (gv1), .inr (.inr (.inl (some 345)))]) (fun _ _ => rfl) ?_
      refine ej_plain hmn (eg_at hT 3 15 rfl rfl) (pc' := 117) (ls' := [some (.inr (.inr (.inl (some 345)))), some (.inl (i)), some (.inl (gv1)), some (.inl (gv2)), some (.inl (gv3))]) (st' := [.inl (gv2), .inl (gv1), .inr (.inr (.inl (some 345)))]) (fun _ _ => rfl) ?_
      refine ej_call hmn (eg_at hT 3 16 rfl rfl) (pc' := 120) (r := []) (ey_invI (kr_pass_k hmn) (as' := [.inr (.inr (.inl (some 345))), .inl (gv1), .inl (gv2)]) (ey_lr (ey_li (show (-2147483648 : Int) ≤ gv1 by omega) (show gv1 ≤ (2147483647 : Int) by omega) (ey_li (show (-2147483648 : Int) ≤ gv2 by omega) (show gv2 ≤ (2147483647 : Int) by omega) ey_l0)))) (show 1 + 1 ≤ 3 by decide) (fun _ _ => rfl) (fun v hp' hP => ?_)
      obtain ⟨gr10, rfl, rfl, gr10l, gr10h⟩ := hP
      replace gr10l : (-100000 : Int) ≤ gr10 := gr10l
      replace gr10h : gr10 ≤ (40 : Int) := gr10h
      show em_G l D τ sa A own mname bytes 5 3 (0, 0) (some .int) _ (120, [some (.inr (.inr (.inl (some 345)))), some (.inl (i)), some (.inl (gv1)), some (.inl (gv2)), some (.inl (gv3))], [.inl (gr10)], ei_h0, 0, 0)
      exact ej_ireturn hmn (eg_at hT 3 17 rfl rfl) (@decide_eq_true _ (Classical.propDecidable _) ⟨_, rfl, rfl, by omega, by omega⟩)
    · subst hz
      refine ej_plain hmn (eg_at hT 1 4 rfl rfl) (pc' := 121) (ls' := [some (.inr (.inr (.inl (some 345)))), some (.inl (i)), some (.inl (gv1)), some (.inl (gv2)), some (.inl (gv3))]) (st' := []) (fun _ _ => rfl) ?_
      refine ej_plain hmn (eg_at hT 3 18 rfl rfl) (pc' := 122) (ls' := [some (.inr (.inr (.inl (some 345)))), some (.inl (i)), some (.inl (gv1)), some (.inl (gv2)), some (.inl (gv3))]) (st' := [.inr (.inr (.inl (some 345)))]) (fun _ _ => rfl) ?_
      refine ej_plain hmn (eg_at hT 3 19 rfl rfl) (pc' := 123) (ls' := [some (.inr (.inr (.inl (some 345)))), some (.inl (i)), some (.inl (gv1)), some (.inl (gv2)), some (.inl (gv3))]) (st' := [.inl (gv1), .inr (.inr (.inl (some 345)))]) (fun _ _ => rfl) ?_
      refine ej_plain hmn (eg_at hT 3 20 rfl rfl) (pc' := 124) (ls' := [some (.inr (.inr (.inl (some 345)))), some (.inl (i)), some (.inl (gv1)), some (.inl (gv2)), some (.inl (gv3))]) (st' := [.inl (1), .inl (gv1), .inr (.inr (.inl (some 345)))]) (fun _ _ => rfl) ?_
      refine ej_call hmn (eg_at hT 3 21 rfl rfl) (pc' := 127) (r := []) (ey_invI (kr_hang_k hmn) (as' := [.inr (.inr (.inl (some 345))), .inl (gv1), .inl (1)]) (ey_lr (ey_li (show (-2147483648 : Int) ≤ gv1 by omega) (show gv1 ≤ (2147483647 : Int) by omega) (ey_li (show (0 : Int) ≤ 1 by omega) (show 1 ≤ (1 : Int) by omega) ey_l0)))) (show 1 + 1 ≤ 3 by decide) (fun _ _ => rfl) (fun v hp' hP => ?_)
      obtain ⟨gr11, rfl, rfl, gr11l, gr11h⟩ := hP
      replace gr11l : (-200000 : Int) ≤ gr11 := gr11l
      replace gr11h : gr11 ≤ (1 : Int) := gr11h
      show em_G l D τ sa A own mname bytes 5 3 (0, 0) (some .int) _ (127, [some (.inr (.inr (.inl (some 345)))), some (.inl (i)), some (.inl (gv1)), some (.inl (gv2)), some (.inl (gv3))], [.inl (gr11)], ei_h0, 0, 0)
      exact ej_ireturn hmn (eg_at hT 3 22 rfl rfl) (@decide_eq_true _ (Classical.propDecidable _) ⟨_, rfl, rfl, by omega, by omega⟩)
    · subst hz
      refine ej_plain hmn (eg_at hT 1 4 rfl rfl) (pc' := 128) (ls' := [some (.inr (.inr (.inl (some 345)))), some (.inl (i)), some (.inl (gv1)), some (.inl (gv2)), some (.inl (gv3))]) (st' := []) (fun _ _ => rfl) ?_
      refine ej_plain hmn (eg_at hT 4 0 rfl rfl) (pc' := 129) (ls' := [some (.inr (.inr (.inl (some 345)))), some (.inl (i)), some (.inl (gv1)), some (.inl (gv2)), some (.inl (gv3))]) (st' := [.inr (.inr (.inl (some 345)))]) (fun _ _ => rfl) ?_
      refine ej_plain hmn (eg_at hT 4 1 rfl rfl) (pc' := 130) (ls' := [some (.inr (.inr (.inl (some 345)))), some (.inl (i)), some (.inl (gv1)), some (.inl (gv2)), some (.inl (gv3))]) (st' := [.inl (gv1), .inr (.inr (.inl (some 345)))]) (fun _ _ => rfl) ?_
      refine ej_plain hmn (eg_at hT 4 2 rfl rfl) (pc' := 131) (ls' := [some (.inr (.inr (.inl (some 345)))), some (.inl (i)), some (.inl (gv1)), some (.inl (gv2)), some (.inl (gv3))]) (st' := [.inl (gv2), .inl (gv1), .inr (.inr (.inl (some 345)))]) (fun _ _ => rfl) ?_
      refine ej_plain hmn (eg_at hT 4 3 rfl rfl) (pc' := 133) (ls' := [some (.inr (.inr (.inl (some 345)))), some (.inl (i)), some (.inl (gv1)), some (.inl (gv2)), some (.inl (gv3))]) (st' := [.inl (gv3), .inl (gv2), .inl (gv1), .inr (.inr (.inl (some 345)))]) (fun _ _ => rfl) ?_
      refine ej_call hmn (eg_at hT 4 4 rfl rfl) (pc' := 136) (r := []) (ey_invI (kr_cold_k hmn) (as' := [.inr (.inr (.inl (some 345))), .inl (gv1), .inl (gv2), .inl (gv3)]) (ey_lr (ey_li (show (-2147483648 : Int) ≤ gv1 by omega) (show gv1 ≤ (2147483647 : Int) by omega) (ey_li (show (-2147483648 : Int) ≤ gv2 by omega) (show gv2 ≤ (2147483647 : Int) by omega) (ey_li (show (-2147483648 : Int) ≤ gv3 by omega) (show gv3 ≤ (2147483647 : Int) by omega) ey_l0))))) (show 2 + 1 ≤ 3 by decide) (fun _ _ => rfl) (fun v hp' hP => ?_)
      obtain ⟨gr12, rfl, rfl, gr12l, gr12h⟩ := hP
      replace gr12l : (-100000 : Int) ≤ gr12 := gr12l
      replace gr12h : gr12 ≤ (24 : Int) := gr12h
      show em_G l D τ sa A own mname bytes 5 3 (0, 0) (some .int) _ (136, [some (.inr (.inr (.inl (some 345)))), some (.inl (i)), some (.inl (gv1)), some (.inl (gv2)), some (.inl (gv3))], [.inl (gr12)], ei_h0, 0, 0)
      exact ej_ireturn hmn (eg_at hT 4 5 rfl rfl) (@decide_eq_true _ (Classical.propDecidable _) ⟨_, rfl, rfl, by omega, by omega⟩)
    · subst hz
      refine ej_plain hmn (eg_at hT 1 4 rfl rfl) (pc' := 137) (ls' := [some (.inr (.inr (.inl (some 345)))), some (.inl (i)), some (.inl (gv1)), some (.inl (gv2)), some (.inl (gv3))]) (st' := []) (fun _ _ => rfl) ?_
      refine ej_plain hmn (eg_at hT 4 6 rfl rfl) (pc' := 138) (ls' := [some (.inr (.inr (.inl (some 345)))), some (.inl (i)), some (.inl (gv1)), some (.inl (gv2)), some (.inl (gv3))]) (st' := [.inr (.inr (.inl (some 345)))]) (fun _ _ => rfl) ?_
      refine ej_plain hmn (eg_at hT 4 7 rfl rfl) (pc' := 139) (ls' := [some (.inr (.inr (.inl (some 345)))), some (.inl (i)), some (.inl (gv1)), some (.inl (gv2)), some (.inl (gv3))]) (st' := [.inl (gv1), .inr (.inr (.inl (some 345)))]) (fun _ _ => rfl) ?_
      refine ej_plain hmn (eg_at hT 4 8 rfl rfl) (pc' := 140) (ls' := [some (.inr (.inr (.inl (some 345)))), some (.inl (i)), some (.inl (gv1)), some (.inl (gv2)), some (.inl (gv3))]) (st' := [.inl (gv2), .inl (gv1), .inr (.inr (.inl (some 345)))]) (fun _ _ => rfl) ?_
      refine ej_call hmn (eg_at hT 4 9 rfl rfl) (pc' := 143) (r := []) (ey_invI (kr_help_k hmn) (as' := [.inr (.inr (.inl (some 345))), .inl (gv1), .inl (gv2)]) (ey_lr (ey_li (show (-2147483648 : Int) ≤ gv1 by omega) (show gv1 ≤ (2147483647 : Int) by omega) (ey_li (show (-2147483648 : Int) ≤ gv2 by omega) (show gv2 ≤ (2147483647 : Int) by omega) ey_l0)))) (show 2 + 1 ≤ 3 by decide) (fun _ _ => rfl) (fun v hp' hP => ?_)
      obtain ⟨gr13, rfl, rfl, gr13l, gr13h⟩ := hP
      replace gr13l : (-100000 : Int) ≤ gr13 := gr13l
      replace gr13h : gr13 ≤ (9 : Int) := gr13h
      show em_G l D τ sa A own mname bytes 5 3 (0, 0) (some .int) _ (143, [some (.inr (.inr (.inl (some 345)))), some (.inl (i)), some (.inl (gv1)), some (.inl (gv2)), some (.inl (gv3))], [.inl (gr13)], ei_h0, 0, 0)
      exact ej_ireturn hmn (eg_at hT 4 10 rfl rfl) (@decide_eq_true _ (Classical.propDecidable _) ⟨_, rfl, rfl, by omega, by omega⟩)
    · subst hz
      refine ej_plain hmn (eg_at hT 1 4 rfl rfl) (pc' := 144) (ls' := [some (.inr (.inr (.inl (some 345)))), some (.inl (i)), some (.inl (gv1)), some (.inl (gv2)), some (.inl (gv3))]) (st' := []) (fun _ _ => rfl) ?_
      refine ej_plain hmn (eg_at hT 4 11 rfl rfl) (pc' := 145) (ls' := [some (.inr (.inr (.inl (some 345)))), some (.inl (i)), some (.inl (gv1)), some (.inl (gv2)), some (.inl (gv3))]) (st' := [.inr (.inr (.inl (some 345)))]) (fun _ _ => rfl) ?_
      refine ej_plain hmn (eg_at hT 4 12 rfl rfl) (pc' := 146) (ls' := [some (.inr (.inr (.inl (some 345)))), some (.inl (i)), some (.inl (gv1)), some (.inl (gv2)), some (.inl (gv3))]) (st' := [.inl (gv1), .inr (.inr (.inl (some 345)))]) (fun _ _ => rfl) ?_
      refine ej_plain hmn (eg_at hT 4 13 rfl rfl) (pc' := 147) (ls' := [some (.inr (.inr (.inl (some 345)))), some (.inl (i)), some (.inl (gv1)), some (.inl (gv2)), some (.inl (gv3))]) (st' := [.inl (gv2), .inl (gv1), .inr (.inr (.inl (some 345)))]) (fun _ _ => rfl) ?_
      refine ej_plain hmn (eg_at hT 4 14 rfl rfl) (pc' := 149) (ls' := [some (.inr (.inr (.inl (some 345)))), some (.inl (i)), some (.inl (gv1)), some (.inl (gv2)), some (.inl (gv3))]) (st' := [.inl (gv3), .inl (gv2), .inl (gv1), .inr (.inr (.inl (some 345)))]) (fun _ _ => rfl) ?_
      refine ej_plain hmn (eg_at hT 4 15 rfl rfl) (pc' := 150) (ls' := [some (.inr (.inr (.inl (some 345)))), some (.inl (i)), some (.inl (gv1)), some (.inl (gv2)), some (.inl (gv3))]) (st' := [.inr (.inr (.inl (some 345))), .inl (gv3), .inl (gv2), .inl (gv1), .inr (.inr (.inl (some 345)))]) (fun _ _ => rfl) ?_
      refine ej_plain hmn (eg_at hT 4 16 rfl rfl) (pc' := 153) (ls' := [some (.inr (.inr (.inl (some 345)))), some (.inl (i)), some (.inl (gv1)), some (.inl (gv2)), some (.inl (gv3))]) (st' := [.inr (.inr (.inl (some 352))), .inl (gv3), .inl (gv2), .inl (gv1), .inr (.inr (.inl (some 345)))]) (fun _ _ => rfl) ?_
      refine ej_plain hmn (eg_at hT 4 17 rfl rfl) (pc' := 154) (ls' := [some (.inr (.inr (.inl (some 345)))), some (.inl (i)), some (.inl (gv1)), some (.inl (gv2)), some (.inl (gv3))]) (st' := [.inl (5), .inr (.inr (.inl (some 352))), .inl (gv3), .inl (gv2), .inl (gv1), .inr (.inr (.inl (some 345)))]) (fun _ _ => rfl) ?_
      refine ej_plain hmn (eg_at hT 4 18 rfl rfl) (pc' := 155) (ls' := [some (.inr (.inr (.inl (some 345)))), some (.inl (i)), some (.inl (gv1)), some (.inl (gv2)), some (.inl (gv3))]) (st' := [.inl (i), .inl (5), .inr (.inr (.inl (some 352))), .inl (gv3), .inl (gv2), .inl (gv1), .inr (.inr (.inl (some 345)))]) (fun _ _ => rfl) ?_
      refine ej_imul hmn (eg_at hT 4 19 rfl rfl) (pc' := 156) rfl (by omega) (by omega) ?_
      refine ej_plain hmn (eg_at hT 4 20 rfl rfl) (pc' := 157) (ls' := [some (.inr (.inr (.inl (some 345)))), some (.inl (i)), some (.inl (gv1)), some (.inl (gv2)), some (.inl (gv3))]) (st' := [.inl (3), .inl (5 * i), .inr (.inr (.inl (some 352))), .inl (gv3), .inl (gv2), .inl (gv1), .inr (.inr (.inl (some 345)))]) (fun _ _ => rfl) ?_
      refine ej_iadd hmn (eg_at hT 4 21 rfl rfl) (pc' := 158) rfl (by omega) (by omega) ?_
      refine ej_ialoadW hmn (eg_at hT 4 22 rfl rfl) (pc' := 159) (n := 1500) (lo := (-2147483648)) (hi := (2147483647)) rfl (fun _ => rfl) (by omega) (by omega) (evw_352 _ (by omega)) (by decide) (fun gv14 gv14a gv14b => ?_)
      refine ej_plain hmn (eg_at hT 4 23 rfl rfl) (pc' := 160) (ls' := [some (.inr (.inr (.inl (some 345)))), some (.inl (i)), some (.inl (gv1)), some (.inl (gv2)), some (.inl (gv3))]) (st' := [.inr (.inr (.inl (some 345))), .inl (gv14), .inl (gv3), .inl (gv2), .inl (gv1), .inr (.inr (.inl (some 345)))]) (fun _ _ => rfl) ?_
      refine ej_plain hmn (eg_at hT 5 0 rfl rfl) (pc' := 163) (ls' := [some (.inr (.inr (.inl (some 345)))), some (.inl (i)), some (.inl (gv1)), some (.inl (gv2)), some (.inl (gv3))]) (st' := [.inr (.inr (.inl (some 352))), .inl (gv14), .inl (gv3), .inl (gv2), .inl (gv1), .inr (.inr (.inl (some 345)))]) (fun _ _ => rfl) ?_
      refine ej_plain hmn (eg_at hT 5 1 rfl rfl) (pc' := 164) (ls' := [some (.inr (.inr (.inl (some 345)))), some (.inl (i)), some (.inl (gv1)), some (.inl (gv2)), some (.inl (gv3))]) (st' := [.inl (5), .inr (.inr (.inl (some 352))), .inl (gv14), .inl (gv3), .inl (gv2), .inl (gv1), .inr (.inr (.inl (some 345)))]) (fun _ _ => rfl) ?_
      refine ej_plain hmn (eg_at hT 5 2 rfl rfl) (pc' := 165) (ls' := [some (.inr (.inr (.inl (some 345)))), some (.inl (i)), some (.inl (gv1)), some (.inl (gv2)), some (.inl (gv3))]) (st' := [.inl (i), .inl (5), .inr (.inr (.inl (some 352))), .inl (gv14), .inl (gv3), .inl (gv2), .inl (gv1), .inr (.inr (.inl (some 345)))]) (fun _ _ => rfl) ?_
      refine ej_imul hmn (eg_at hT 5 3 rfl rfl) (pc' := 166) rfl (by omega) (by omega) ?_
      refine ej_plain hmn (eg_at hT 5 4 rfl rfl) (pc' := 167) (ls' := [some (.inr (.inr (.inl (some 345)))), some (.inl (i)), some (.inl (gv1)), some (.inl (gv2)), some (.inl (gv3))]) (st' := [.inl (4), .inl (5 * i), .inr (.inr (.inl (some 352))), .inl (gv14), .inl (gv3), .inl (gv2), .inl (gv1), .inr (.inr (.inl (some 345)))]) (fun _ _ => rfl) ?_
      refine ej_iadd hmn (eg_at hT 5 5 rfl rfl) (pc' := 168) rfl (by omega) (by omega) ?_
      refine ej_ialoadW hmn (eg_at hT 5 6 rfl rfl) (pc' := 169) (n := 1500) (lo := (-2147483648)) (hi := (2147483647)) rfl (fun _ => rfl) (by omega) (by omega) (evw_352 _ (by omega)) (by decide) (fun gv15 gv15a gv15b => ?_)
      refine ej_call hmn (eg_at hT 5 7 rfl rfl) (pc' := 172) (r := []) (ey_invI (kr_man_k hmn) (as' := [.inr (.inr (.inl (some 345))), .inl (gv1), .inl (gv2), .inl (gv3), .inl (gv14), .inl (gv15)]) (ey_lr (ey_li (show (-2147483648 : Int) ≤ gv1 by omega) (show gv1 ≤ (2147483647 : Int) by omega) (ey_li (show (-2147483648 : Int) ≤ gv2 by omega) (show gv2 ≤ (2147483647 : Int) by omega) (ey_li (show (-2147483648 : Int) ≤ gv3 by omega) (show gv3 ≤ (2147483647 : Int) by omega) (ey_li (show (-2147483648 : Int) ≤ gv14 by omega) (show gv14 ≤ (2147483647 : Int) by omega) (ey_li (show (-2147483648 : Int) ≤ gv15 by omega) (show gv15 ≤ (2147483647 : Int) by omega) ey_l0))))))) (show 2 + 1 ≤ 3 by decide) (fun _ _ => rfl) (fun v hp' hP => ?_)
      obtain ⟨gr16, rfl, rfl, gr16l, gr16h⟩ := hP
      replace gr16l : (-300000 : Int) ≤ gr16 := gr16l
      replace gr16h : gr16 ≤ (7 : Int) := gr16h
      show em_G l D τ sa A own mname bytes 5 3 (0, 0) (some .int) _ (172, [some (.inr (.inr (.inl (some 345)))), some (.inl (i)), some (.inl (gv1)), some (.inl (gv2)), some (.inl (gv3))], [.inl (gr16)], ei_h0, 0, 0)
      exact ej_ireturn hmn (eg_at hT 5 8 rfl rfl) (@decide_eq_true _ (Classical.propDecidable _) ⟨_, rfl, rfl, by omega, by omega⟩)
    · subst hz
      refine ej_plain hmn (eg_at hT 1 4 rfl rfl) (pc' := 173) (ls' := [some (.inr (.inr (.inl (some 345)))), some (.inl (i)), some (.inl (gv1)), some (.inl (gv2)), some (.inl (gv3))]) (st' := []) (fun _ _ => rfl) ?_
      refine ej_plain hmn (eg_at hT 5 9 rfl rfl) (pc' := 174) (ls' := [some (.inr (.inr (.inl (some 345)))), some (.inl (i)), some (.inl (gv1)), some (.inl (gv2)), some (.inl (gv3))]) (st' := [.inr (.inr (.inl (some 345)))]) (fun _ _ => rfl) ?_
      refine ej_plain hmn (eg_at hT 5 10 rfl rfl) (pc' := 175) (ls' := [some (.inr (.inr (.inl (some 345)))), some (.inl (i)), some (.inl (gv1)), some (.inl (gv2)), some (.inl (gv3))]) (st' := [.inl (gv1), .inr (.inr (.inl (some 345)))]) (fun _ _ => rfl) ?_
      refine ej_plain hmn (eg_at hT 5 11 rfl rfl) (pc' := 176) (ls' := [some (.inr (.inr (.inl (some 345)))), some (.inl (i)), some (.inl (gv1)), some (.inl (gv2)), some (.inl (gv3))]) (st' := [.inl (1), .inl (gv1), .inr (.inr (.inl (some 345)))]) (fun _ _ => rfl) ?_
      refine ej_call hmn (eg_at hT 5 12 rfl rfl) (pc' := 179) (r := []) (ey_invI (kr_coat_k hmn) (as' := [.inr (.inr (.inl (some 345))), .inl (gv1), .inl (1)]) (ey_lr (ey_li (show (-2147483648 : Int) ≤ gv1 by omega) (show gv1 ≤ (2147483647 : Int) by omega) (ey_li (show (0 : Int) ≤ 1 by omega) (show 1 ≤ (1 : Int) by omega) ey_l0)))) (show 2 + 1 ≤ 3 by decide) (fun _ _ => rfl) (fun v hp' hP => ?_)
      obtain ⟨gr17, rfl, rfl, gr17l, gr17h⟩ := hP
      replace gr17l : (-200000 : Int) ≤ gr17 := gr17l
      replace gr17h : gr17 ≤ (1 : Int) := gr17h
      show em_G l D τ sa A own mname bytes 5 3 (0, 0) (some .int) _ (179, [some (.inr (.inr (.inl (some 345)))), some (.inl (i)), some (.inl (gv1)), some (.inl (gv2)), some (.inl (gv3))], [.inl (gr17)], ei_h0, 0, 0)
      exact ej_ireturn hmn (eg_at hT 5 13 rfl rfl) (@decide_eq_true _ (Classical.propDecidable _) ⟨_, rfl, rfl, by omega, by omega⟩)
    · subst hz
      refine ej_plain hmn (eg_at hT 1 4 rfl rfl) (pc' := 180) (ls' := [some (.inr (.inr (.inl (some 345)))), some (.inl (i)), some (.inl (gv1)), some (.inl (gv2)), some (.inl (gv3))]) (st' := []) (fun _ _ => rfl) ?_
      refine ej_plain hmn (eg_at hT 5 14 rfl rfl) (pc' := 181) (ls' := [some (.inr (.inr (.inl (some 345)))), some (.inl (i)), some (.inl (gv1)), some (.inl (gv2)), some (.inl (gv3))]) (st' := [.inr (.inr (.inl (some 345)))]) (fun _ _ => rfl) ?_
      refine ej_plain hmn (eg_at hT 5 15 rfl rfl) (pc' := 182) (ls' := [some (.inr (.inr (.inl (some 345)))), some (.inl (i)), some (.inl (gv1)), some (.inl (gv2)), some (.inl (gv3))]) (st' := [.inl (gv1), .inr (.inr (.inl (some 345)))]) (fun _ _ => rfl) ?_
      refine ej_plain hmn (eg_at hT 5 16 rfl rfl) (pc' := 183) (ls' := [some (.inr (.inr (.inl (some 345)))), some (.inl (i)), some (.inl (gv1)), some (.inl (gv2)), some (.inl (gv3))]) (st' := [.inl (gv2), .inl (gv1), .inr (.inr (.inl (some 345)))]) (fun _ _ => rfl) ?_
      refine ej_plain hmn (eg_at hT 5 17 rfl rfl) (pc' := 185) (ls' := [some (.inr (.inr (.inl (some 345)))), some (.inl (i)), some (.inl (gv1)), some (.inl (gv2)), some (.inl (gv3))]) (st' := [.inl (gv3), .inl (gv2), .inl (gv1), .inr (.inr (.inl (some 345)))]) (fun _ _ => rfl) ?_
      refine ej_call hmn (eg_at hT 5 18 rfl rfl) (pc' := 188) (r := []) (ey_invI (kr_broken_k hmn) (as' := [.inr (.inr (.inl (some 345))), .inl (gv1), .inl (gv2), .inl (gv3)]) (ey_lr (ey_li (show (-2147483648 : Int) ≤ gv1 by omega) (show gv1 ≤ (2147483647 : Int) by omega) (ey_li (show (-2147483648 : Int) ≤ gv2 by omega) (show gv2 ≤ (2147483647 : Int) by omega) (ey_li (show (-2147483648 : Int) ≤ gv3 by omega) (show gv3 ≤ (2147483647 : Int) by omega) ey_l0))))) (show 2 + 1 ≤ 3 by decide) (fun _ _ => rfl) (fun v hp' hP => ?_)
      obtain ⟨gr18, rfl, rfl, gr18l, gr18h⟩ := hP
      replace gr18l : (-300000 : Int) ≤ gr18 := gr18l
      replace gr18h : gr18 ≤ (3 : Int) := gr18h
      show em_G l D τ sa A own mname bytes 5 3 (0, 0) (some .int) _ (188, [some (.inr (.inr (.inl (some 345)))), some (.inl (i)), some (.inl (gv1)), some (.inl (gv2)), some (.inl (gv3))], [.inl (gr18)], ei_h0, 0, 0)
      exact ej_ireturn hmn (eg_at hT 5 19 rfl rfl) (@decide_eq_true _ (Classical.propDecidable _) ⟨_, rfl, rfl, by omega, by omega⟩)
theorem ec_tellsItem_k {l : Launch} {D : va_G} {τ : Nat → ClassId} {sa : List Nat} {A : Nat → Prop} (hmn : em_mna) : em_E l D τ sa A em_inf 156 ([(.inr (.inr (.inl (some 345)))), .inr (.inr (.inr (.inl (0, 299))))], ei_h0, some (.inr (.inr (.inr (.inl (-2147483648, 2147483647))))), ei_h0, 3) := by
  refine ⟨_, _, _, _, rfl, Nat.le_of_ble_eq_true rfl, fun ν ro avs ws hs => ?_⟩
  obtain ⟨v0, vs0, rfl, g0, hs0⟩ := hs.cons
  obtain ⟨v1, vs1, rfl, ⟨x1, rfl, c1, c2⟩, hs1⟩ := hs0.cons
  replace c1 : (0 : Int) ≤ x1.toInt := c1
  replace c2 : x1.toInt ≤ 299 := c2
  obtain ⟨y', bytes', nl', ret', j1, j2, j3⟩ := ey_toE (eq_tellsItem (l := l) (D := D) (τ := τ) (sa := sa) (A := A) hmn (i := x1.toInt) (by omega))
  cases j1
  exact j3 ν ro (v0 :: .int x1 :: vs1) ws ⟨g0, er_int x1, hs1⟩
