/-! tellItem of the class, carriage of the reference, by hand over INV. Printed by wip/p3/carrgen.py. -/
theorem ev_bk (i : Nat) : ey_wr (ei_c17[10]!).2.2.2.1 i (((ex_pg (ei_c17[10]!).2.2.2.1 i % 4294967296 : Nat) : Int) - 2147483648) (((ex_pg (ei_c17[10]!).2.2.2.1 i / 4294967296 : Nat) : Int) - 2147483648) := ⟨by omega, by omega⟩
theorem ev_bkl : ∀ i, i < 230 → ex_pg (ei_c17[10]!).2.2.2.1 i % 4294967296 ≤ ex_pg (ei_c17[10]!).2.2.2.1 i / 4294967296 := by decide +kernel
theorem et_row2 {qr : Nat} (h1 : 50 ≤ qr) (h2 : qr ≤ 99) : (∀ k : ex_C → Bool, ex_hget ei_h0 qr k = k (0, 0, 5, (ei_c3[2]!).2.2.2.1, [])) ∧ ex_at ei_h0 qr = some (0, 0, 5, (ei_c3[2]!).2.2.2.1, []) := by
  have e : ex_at ei_h0 qr = some (0, 0, 5, (ei_c3[2]!).2.2.2.1, []) := by
    have := et_row0 (qr - 50) (by omega)
    rw [show 50 + (qr - 50) = qr by omega] at this
    exact this
  exact ⟨ex_hget_eq e, e⟩
theorem eq_tellItem {l : Launch} {D : va_G} {τ : Nat → ClassId} {sa : List Nat} {A : Nat → Prop} (hmn : em_mna) {i : Int} (hi : 0 ≤ i ∧ i < 50) : em_X l D τ sa A 81 [(.inr (.inr (.inl (some 46)))), .inl i, .inr (.inr (.inl (some 25)))] ei_h0 (fun w hp' => ∃ r : Int, w = some (.inl r) ∧ hp' = ei_h0 ∧ -2147483648 ≤ r ∧ r ≤ 2147483647) 4 := by
  refine em_X.of (tb := eu_81) (nl := 4) (ret := some .int) rfl (q := [some (.inr (.inr (.inl (some 46)))), some (.inl (i)), some (.inr (.inr (.inl (some 25)))), none]) (fun _ => rfl) (fun own mname bytes hT => ?_)
  refine ej_plain hmn (eg_at hT 0 0 rfl rfl) (pc' := 1) (ls' := [some (.inr (.inr (.inl (some 46)))), some (.inl (i)), some (.inr (.inr (.inl (some 25)))), none]) (st' := [.inl (i)]) (fun _ _ => rfl) ?_
  refine ej_plain hmn (eg_at hT 0 1 rfl rfl) (pc' := 2) (ls' := [some (.inr (.inr (.inl (some 46)))), some (.inl (i)), some (.inr (.inr (.inl (some 25)))), none]) (st' := [.inl (0), .inl (i)]) (fun _ _ => rfl) ?_
  refine ej_plain hmn (eg_at hT 0 2 rfl rfl) (pc' := 4) (ls' := [some (.inr (.inr (.inl (some 46)))), some (.inl (i)), some (.inr (.inr (.inl (some 25)))), none]) (st' := [.inl (49), .inl (0), .inl (i)]) (fun _ _ => rfl) ?_
  refine ej_call hmn (eg_at hT 0 3 rfl rfl) (pc' := 7) (r := []) (eq_within hmn (v := i) (lo := 0) (hi := 49)) (by omega) (fun _ _ => rfl) (fun v hp' hP => ?_)
  obtain ⟨r1, rfl, rfl, r1a, r1b⟩ := hP
  show em_G l D τ sa A own mname bytes 4 4 (0, 0) (some .int) _ (7, [some (.inr (.inr (.inl (some 46)))), some (.inl (i)), some (.inr (.inr (.inl (some 25)))), none], [.inl (r1)], ei_h0, 0, 0)
  refine ej_ifCond hmn (eg_at hT 0 4 rfl rfl) (pc' := 10) rfl (fun _ => rfl) (fun (gc1 : r1 ≠ 0) => ?_) (fun (gc1 : ¬ (r1 ≠ 0)) => ?_)
  · refine ej_plain hmn (eg_at hT 0 7 rfl rfl) (pc' := 14) (ls' := [some (.inr (.inr (.inl (some 46)))), some (.inl (i)), some (.inr (.inr (.inl (some 25)))), none]) (st' := [.inr (.inr (.inl (some 46)))]) (fun _ _ => rfl) ?_
    refine ej_plain hmn (eg_at hT 0 8 rfl rfl) (pc' := 17) (ls' := [some (.inr (.inr (.inl (some 46)))), some (.inl (i)), some (.inr (.inr (.inl (some 25)))), none]) (st' := [.inr (.inr (.inl (some 49)))]) (fun _ _ => rfl) ?_
    refine ej_plain hmn (eg_at hT 0 9 rfl rfl) (pc' := 18) (ls' := [some (.inr (.inr (.inl (some 46)))), some (.inl (i)), some (.inr (.inr (.inl (some 25)))), none]) (st' := [.inl (i), .inr (.inr (.inl (some 49)))]) (fun _ _ => rfl) ?_
    refine ej_aaloadR hmn (eg_at hT 0 10 rfl rfl) (pc' := 19) (lo := 50) (hi := 99) rfl (fun _ => rfl) (by omega) (fun i hi => ⟨50 + i, et_rows i (by omega), by omega, by omega⟩) (fun qr qr1 qr2 => ?_)
    refine ej_plain hmn (eg_at hT 0 11 rfl rfl) (pc' := 20) (ls' := [some (.inr (.inr (.inl (some 46)))), some (.inl (i)), some (.inr (.inr (.inl (some 25)))), some (.inr (.inr (.inl (some qr))))]) (st' := []) (fun _ _ => rfl) ?_
    refine ej_plain hmn (eg_at hT 0 12 rfl rfl) (pc' := 21) (ls' := [some (.inr (.inr (.inl (some 46)))), some (.inl (i)), some (.inr (.inr (.inl (some 25)))), some (.inr (.inr (.inl (some qr))))]) (st' := [.inr (.inr (.inl (some 46)))]) (fun _ _ => rfl) ?_
    refine ej_plain hmn (eg_at hT 0 13 rfl rfl) (pc' := 24) (ls' := [some (.inr (.inr (.inl (some 46)))), some (.inl (i)), some (.inr (.inr (.inl (some 25)))), some (.inr (.inr (.inl (some qr))))]) (st' := [.inr (.inr (.inl (some 48)))]) (fun _ _ => rfl) ?_
    refine ej_plain hmn (eg_at hT 0 14 rfl rfl) (pc' := 25) (ls' := [some (.inr (.inr (.inl (some 46)))), some (.inl (i)), some (.inr (.inr (.inl (some 25)))), some (.inr (.inr (.inl (some qr))))]) (st' := [.inl (i), .inr (.inr (.inl (some 48)))]) (fun _ _ => rfl) ?_
    refine ej_ialoadW hmn (eg_at hT 0 15 rfl rfl) (pc' := 26) (n := 50) (lo := (0)) (hi := (9)) rfl (fun _ => rfl) (by omega) (by omega) (evw_48 _ (by omega)) (by decide) (fun gv2 gv2a gv2b => ?_)
    by_cases gs3 : gv2 < 0 ∨ 9 < gv2
    · refine ej_tswd hmn (eg_at hT 0 16 rfl rfl) (t := 205) (fun _ => rfl) (hi := 9) rfl gs3 ?_
      refine ej_plain hmn (eg_at hT 6 9 rfl rfl) (pc' := 207) (ls' := [some (.inr (.inr (.inl (some 46)))), some (.inl (i)), some (.inr (.inr (.inl (some 25)))), some (.inr (.inr (.inl (some qr))))]) (st' := [.inl (-100000)]) (fun _ _ => rfl) ?_
      exact ej_ireturn hmn (eg_at hT 6 10 rfl rfl) (@decide_eq_true _ (Classical.propDecidable _) ⟨_, rfl, rfl, by omega, by omega⟩)
    · have hz : gv2 = 0 ∨ gv2 = 1 ∨ gv2 = 2 ∨ gv2 = 3 ∨ gv2 = 4 ∨ gv2 = 5 ∨ gv2 = 6 ∨ gv2 = 7 ∨ gv2 = 8 ∨ gv2 = 9 := by omega
      rcases hz with hz | hz | hz | hz | hz | hz | hz | hz | hz | hz
      · subst hz
        refine ej_plain hmn (eg_at hT 0 16 rfl rfl) (pc' := 80) (ls' := [some (.inr (.inr (.inl (some 46)))), some (.inl (i)), some (.inr (.inr (.inl (some 25)))), some (.inr (.inr (.inl (some qr))))]) (st' := []) (fun _ _ => rfl) ?_
        refine ej_plain hmn (eg_at hT 2 0 rfl rfl) (pc' := 81) (ls' := [some (.inr (.inr (.inl (some 46)))), some (.inl (i)), some (.inr (.inr (.inl (some 25)))), some (.inr (.inr (.inl (some qr))))]) (st' := [.inr (.inr (.inl (some 25)))]) (fun _ _ => rfl) ?_
        refine ej_plain hmn (eg_at hT 2 1 rfl rfl) (pc' := 82) (ls' := [some (.inr (.inr (.inl (some 46)))), some (.inl (i)), some (.inr (.inr (.inl (some 25)))), some (.inr (.inr (.inl (some qr))))]) (st' := [.inr (.inr (.inl (some qr))), .inr (.inr (.inl (some 25)))]) (fun _ _ => rfl) ?_
        refine ej_plain hmn (eg_at hT 2 2 rfl rfl) (pc' := 83) (ls' := [some (.inr (.inr (.inl (some 46)))), some (.inl (i)), some (.inr (.inr (.inl (some 25)))), some (.inr (.inr (.inl (some qr))))]) (st' := [.inl (0), .inr (.inr (.inl (some qr))), .inr (.inr (.inl (some 25)))]) (fun _ _ => rfl) ?_
        refine ej_ialoadW hmn (eg_at hT 2 3 rfl rfl) (pc' := 84) (n := 5) (lo := (-2147483648)) (hi := (2147483647)) rfl (et_row2 qr1 qr2).1 (by omega) (by omega) (evw_row _ (by omega)) (by decide) (fun gv4 gv4a gv4b => ?_)
        refine ej_plain hmn (eg_at hT 2 4 rfl rfl) (pc' := 85) (ls' := [some (.inr (.inr (.inl (some 46)))), some (.inl (i)), some (.inr (.inr (.inl (some 25)))), some (.inr (.inr (.inl (some qr))))]) (st' := [.inr (.inr (.inl (some qr))), .inl (gv4), .inr (.inr (.inl (some 25)))]) (fun _ _ => rfl) ?_
        refine ej_plain hmn (eg_at hT 2 5 rfl rfl) (pc' := 86) (ls' := [some (.inr (.inr (.inl (some 46)))), some (.inl (i)), some (.inr (.inr (.inl (some 25)))), some (.inr (.inr (.inl (some qr))))]) (st' := [.inl (1), .inr (.inr (.inl (some qr))), .inl (gv4), .inr (.inr (.inl (some 25)))]) (fun _ _ => rfl) ?_
        refine ej_ialoadW hmn (eg_at hT 2 6 rfl rfl) (pc' := 87) (n := 5) (lo := (-2147483648)) (hi := (2147483647)) rfl (et_row2 qr1 qr2).1 (by omega) (by omega) (evw_row _ (by omega)) (by decide) (fun gv5 gv5a gv5b => ?_)
        refine ej_call hmn (eg_at hT 2 7 rfl rfl) (pc' := 90) (r := []) (ey_invI (kd_tellNumber_k hmn) (as' := [.inr (.inr (.inl (some 25))), .inl (gv4), .inl (gv5)]) (ey_lr (ey_li (show (-2147483648 : Int) ≤ gv4 by omega) (show gv4 ≤ (2147483647 : Int) by omega) (ey_li (show (-2147483648 : Int) ≤ gv5 by omega) (show gv5 ≤ (2147483647 : Int) by omega) ey_l0)))) (show 1 + 1 ≤ 4 by decide) (fun _ _ => rfl) (fun v hp' hP => ?_)
        obtain ⟨gr6, rfl, rfl, gr6l, gr6h⟩ := hP
        replace gr6l : (-100000 : Int) ≤ gr6 := gr6l
        replace gr6h : gr6 ≤ (200 : Int) := gr6h
        show em_G l D τ sa A own mname bytes 4 4 (0, 0) (some .int) _ (90, [some (.inr (.inr (.inl (some 46)))), some (.inl (i)), some (.inr (.inr (.inl (some 25)))), some (.inr (.inr (.inl (some qr))))], [.inl (gr6)], ei_h0, 0, 0)
        exact ej_ireturn hmn (eg_at hT 2 8 rfl rfl) (@decide_eq_true _ (Classical.propDecidable _) ⟨_, rfl, rfl, by omega, by omega⟩)
      · subst hz
        refine ej_plain hmn (eg_at hT 0 16 rfl rfl) (pc' := 91) (ls' := [some (.inr (.inr (.inl (some 46)))), some (.inl (i)), some (.inr (.inr (.inl (some 25)))), some (.inr (.inr (.inl (some qr))))]) (st' := []) (fun _ _ => rfl) ?_
        refine ej_plain hmn (eg_at hT 2 9 rfl rfl) (pc' := 92) (ls' := [some (.inr (.inr (.inl (some 46)))), some (.inl (i)), some (.inr (.inr (.inl (some 25)))), some (.inr (.inr (.inl (some qr))))]) (st' := [.inr (.inr (.inl (some 25)))]) (fun _ _ => rfl) ?_
        refine ej_plain hmn (eg_at hT 2 10 rfl rfl) (pc' := 93) (ls' := [some (.inr (.inr (.inl (some 46)))), some (.inl (i)), some (.inr (.inr (.inl (some 25)))), some (.inr (.inr (.inl (some qr))))]) (st' := [.inr (.inr (.inl (some qr))), .inr (.inr (.inl (some 25)))]) (fun _ _ => rfl) ?_
        refine ej_plain hmn (eg_at hT 2 11 rfl rfl) (pc' := 94) (ls' := [some (.inr (.inr (.inl (some 46)))), some (.inl (i)), some (.inr (.inr (.inl (some 25)))), some (.inr (.inr (.inl (some qr))))]) (st' := [.inl (0), .inr (.inr (.inl (some qr))), .inr (.inr (.inl (some 25)))]) (fun _ _ => rfl) ?_
        refine ej_ialoadW hmn (eg_at hT 2 12 rfl rfl) (pc' := 95) (n := 5) (lo := (-2147483648)) (hi := (2147483647)) rfl (et_row2 qr1 qr2).1 (by omega) (by omega) (evw_row _ (by omega)) (by decide) (fun gv7 gv7a gv7b => ?_)
        refine ej_plain hmn (eg_at hT 2 13 rfl rfl) (pc' := 96) (ls' := [some (.inr (.inr (.inl (some 46)))), some (.inl (i)), some (.inr (.inr (.inl (some 25)))), some (.inr (.inr (.inl (some qr))))]) (st' := [.inr (.inr (.inl (some qr))), .inl (gv7), .inr (.inr (.inl (some 25)))]) (fun _ _ => rfl) ?_
        refine ej_plain hmn (eg_at hT 3 0 rfl rfl) (pc' := 97) (ls' := [some (.inr (.inr (.inl (some 46)))), some (.inl (i)), some (.inr (.inr (.inl (some 25)))), some (.inr (.inr (.inl (some qr))))]) (st' := [.inl (1), .inr (.inr (.inl (some qr))), .inl (gv7), .inr (.inr (.inl (some 25)))]) (fun _ _ => rfl) ?_
        refine ej_ialoadW hmn (eg_at hT 3 1 rfl rfl) (pc' := 98) (n := 5) (lo := (-2147483648)) (hi := (2147483647)) rfl (et_row2 qr1 qr2).1 (by omega) (by omega) (evw_row _ (by omega)) (by decide) (fun gv8 gv8a gv8b => ?_)
        refine ej_plain hmn (eg_at hT 3 2 rfl rfl) (pc' := 99) (ls' := [some (.inr (.inr (.inl (some 46)))), some (.inl (i)), some (.inr (.inr (.inl (some 25)))), some (.inr (.inr (.inl (some qr))))]) (st' := [.inr (.inr (.inl (some qr))), .inl (gv8), .inl (gv7), .inr (.inr (.inl (some 25)))]) (fun _ _ => rfl) ?_
        refine ej_plain hmn (eg_at hT 3 3 rfl rfl) (pc' := 100) (ls' := [some (.inr (.inr (.inl (some 46)))), some (.inl (i)), some (.inr (.inr (.inl (some 25)))), some (.inr (.inr (.inl (some qr))))]) (st' := [.inl (2), .inr (.inr (.inl (some qr))), .inl (gv8), .inl (gv7), .inr (.inr (.inl (some 25)))]) (fun _ _ => rfl) ?_
        refine ej_ialoadW hmn (eg_at hT 3 4 rfl rfl) (pc' := 101) (n := 5) (lo := (-2147483648)) (hi := (2147483647)) rfl (et_row2 qr1 qr2).1 (by omega) (by omega) (evw_row _ (by omega)) (by decide) (fun gv9 gv9a gv9b => ?_)
        refine ej_plain hmn (eg_at hT 3 5 rfl rfl) (pc' := 102) (ls' := [some (.inr (.inr (.inl (some 46)))), some (.inl (i)), some (.inr (.inr (.inl (some 25)))), some (.inr (.inr (.inl (some qr))))]) (st' := [.inr (.inr (.inl (some qr))), .inl (gv9), .inl (gv8), .inl (gv7), .inr (.inr (.inl (some 25)))]) (fun _ _ => rfl) ?_
        refine ej_plain hmn (eg_at hT 3 6 rfl rfl) (pc' := 103) (ls' := [some (.inr (.inr (.inl (some 46)))), some (.inl (i)), some (.inr (.inr (.inl (some 25)))), some (.inr (.inr (.inl (some qr))))]) (st' := [.inl (3), .inr (.inr (.inl (some qr))), .inl (gv9), .inl (gv8), .inl (gv7), .inr (.inr (.inl (some 25)))]) (fun _ _ => rfl) ?_
        refine ej_ialoadW hmn (eg_at hT 3 7 rfl rfl) (pc' := 104) (n := 5) (lo := (-2147483648)) (hi := (2147483647)) rfl (et_row2 qr1 qr2).1 (by omega) (by omega) (evw_row _ (by omega)) (by decide) (fun gv10 gv10a gv10b => ?_)
        refine ej_call hmn (eg_at hT 3 8 rfl rfl) (pc' := 107) (r := []) (ey_invI (kd_tellCell_k hmn) (as' := [.inr (.inr (.inl (some 25))), .inl (gv7), .inl (gv8), .inl (gv9), .inl (gv10)]) (ey_lr (ey_li (show (-2147483648 : Int) ≤ gv7 by omega) (show gv7 ≤ (2147483647 : Int) by omega) (ey_li (show (-2147483648 : Int) ≤ gv8 by omega) (show gv8 ≤ (2147483647 : Int) by omega) (ey_li (show (-2147483648 : Int) ≤ gv9 by omega) (show gv9 ≤ (2147483647 : Int) by omega) (ey_li (show (-2147483648 : Int) ≤ gv10 by omega) (show gv10 ≤ (2147483647 : Int) by omega) ey_l0)))))) (show 1 + 1 ≤ 4 by decide) (fun _ _ => rfl) (fun v hp' hP => ?_)
        obtain ⟨gr11, rfl, rfl, gr11l, gr11h⟩ := hP
        replace gr11l : (-100000 : Int) ≤ gr11 := gr11l
        replace gr11h : gr11 ≤ (1 : Int) := gr11h
        show em_G l D τ sa A own mname bytes 4 4 (0, 0) (some .int) _ (107, [some (.inr (.inr (.inl (some 46)))), some (.inl (i)), some (.inr (.inr (.inl (some 25)))), some (.inr (.inr (.inl (some qr))))], [.inl (gr11)], ei_h0, 0, 0)
        exact ej_ireturn hmn (eg_at hT 3 9 rfl rfl) (@decide_eq_true _ (Classical.propDecidable _) ⟨_, rfl, rfl, by omega, by omega⟩)
      · subst hz
        refine ej_plain hmn (eg_at hT 0 16 rfl rfl) (pc' := 108) (ls' := [some (.inr (.inr (.inl (some 46)))), some (.inl (i)), some (.inr (.inr (.inl (some 25)))), some (.inr (.inr (.inl (some qr))))]) (st' := []) (fun _ _ => rfl) ?_
        refine ej_plain hmn (eg_at hT 3 10 rfl rfl) (pc' := 109) (ls' := [some (.inr (.inr (.inl (some 46)))), some (.inl (i)), some (.inr (.inr (.inl (some 25)))), some (.inr (.inr (.inl (some qr))))]) (st' := [.inr (.inr (.inl (some 25)))]) (fun _ _ => rfl) ?_
        refine ej_plain hmn (eg_at hT 3 11 rfl rfl) (pc' := 110) (ls' := [some (.inr (.inr (.inl (some 46)))), some (.inl (i)), some (.inr (.inr (.inl (some 25)))), some (.inr (.inr (.inl (some qr))))]) (st' := [.inr (.inr (.inl (some qr))), .inr (.inr (.inl (some 25)))]) (fun _ _ => rfl) ?_
        refine ej_plain hmn (eg_at hT 3 12 rfl rfl) (pc' := 111) (ls' := [some (.inr (.inr (.inl (some 46)))), some (.inl (i)), some (.inr (.inr (.inl (some 25)))), some (.inr (.inr (.inl (some qr))))]) (st' := [.inl (0), .inr (.inr (.inl (some qr))), .inr (.inr (.inl (some 25)))]) (fun _ _ => rfl) ?_
        refine ej_ialoadW hmn (eg_at hT 3 13 rfl rfl) (pc' := 112) (n := 5) (lo := (-2147483648)) (hi := (2147483647)) rfl (et_row2 qr1 qr2).1 (by omega) (by omega) (evw_row _ (by omega)) (by decide) (fun gv12 gv12a gv12b => ?_)
        refine ej_plain hmn (eg_at hT 3 14 rfl rfl) (pc' := 113) (ls' := [some (.inr (.inr (.inl (some 46)))), some (.inl (i)), some (.inr (.inr (.inl (some 25)))), some (.inr (.inr (.inl (some qr))))]) (st' := [.inr (.inr (.inl (some qr))), .inl (gv12), .inr (.inr (.inl (some 25)))]) (fun _ _ => rfl) ?_
        refine ej_plain hmn (eg_at hT 3 15 rfl rfl) (pc' := 114) (ls' := [some (.inr (.inr (.inl (some 46)))), some (.inl (i)), some (.inr (.inr (.inl (some 25)))), some (.inr (.inr (.inl (some qr))))]) (st' := [.inl (1), .inr (.inr (.inl (some qr))), .inl (gv12), .inr (.inr (.inl (some 25)))]) (fun _ _ => rfl) ?_
        refine ej_ialoadW hmn (eg_at hT 3 16 rfl rfl) (pc' := 115) (n := 5) (lo := (-2147483648)) (hi := (2147483647)) rfl (et_row2 qr1 qr2).1 (by omega) (by omega) (evw_row _ (by omega)) (by decide) (fun gv13 gv13a gv13b => ?_)
        refine ej_call hmn (eg_at hT 3 17 rfl rfl) (pc' := 118) (r := []) (ey_invI (kd_tellPass_k hmn) (as' := [.inr (.inr (.inl (some 25))), .inl (gv12), .inl (gv13)]) (ey_lr (ey_li (show (-2147483648 : Int) ≤ gv12 by omega) (show gv12 ≤ (2147483647 : Int) by omega) (ey_li (show (-2147483648 : Int) ≤ gv13 by omega) (show gv13 ≤ (2147483647 : Int) by omega) ey_l0)))) (show 1 + 1 ≤ 4 by decide) (fun _ _ => rfl) (fun v hp' hP => ?_)
        obtain ⟨gr14, rfl, rfl, gr14l, gr14h⟩ := hP
        replace gr14l : (-100000 : Int) ≤ gr14 := gr14l
        replace gr14h : gr14 ≤ (40 : Int) := gr14h
        show em_G l D τ sa A own mname bytes 4 4 (0, 0) (some .int) _ (118, [some (.inr (.inr (.inl (some 46)))), some (.inl (i)), some (.inr (.inr (.inl (some 25)))), some (.inr (.inr (.inl (some qr))))], [.inl (gr14)], ei_h0, 0, 0)
        exact ej_ireturn hmn (eg_at hT 3 18 rfl rfl) (@decide_eq_true _ (Classical.propDecidable _) ⟨_, rfl, rfl, by omega, by omega⟩)
      · subst hz
        refine ej_plain hmn (eg_at hT 0 16 rfl rfl) (pc' := 119) (ls' := [some (.inr (.inr (.inl (some 46)))), some (.inl (i)), some (.inr (.inr (.inl (some 25)))), some (.inr (.inr (.inl (some qr))))]) (st' := []) (fun _ _ => rfl) ?_
        refine ej_plain hmn (eg_at hT 3 19 rfl rfl) (pc' := 120) (ls' := [some (.inr (.inr (.inl (some 46)))), some (.inl (i)), some (.inr (.inr (.inl (some 25)))), some (.inr (.inr (.inl (some qr))))]) (st' := [.inr (.inr (.inl (some 25)))]) (fun _ _ => rfl) ?_
        refine ej_plain hmn (eg_at hT 3 20 rfl rfl) (pc' := 121) (ls' := [some (.inr (.inr (.inl (some 46)))), some (.inl (i)), some (.inr (.inr (.inl (some 25)))), some (.inr (.inr (.inl (some qr))))]) (st' := [.inr (.inr (.inl (some qr))), .inr (.inr (.inl (some 25)))]) (fun _ _ => rfl) ?_
        refine ej_plain hmn (eg_at hT 3 21 rfl rfl) (pc' := 122) (ls' := [some (.inr (.inr (.inl (some 46)))), some (.inl (i)), some (.inr (.inr (.inl (some 25)))), some (.inr (.inr (.inl (some qr))))]) (st' := [.inl (0), .inr (.inr (.inl (some qr))), .inr (.inr (.inl (some 25)))]) (fun _ _ => rfl) ?_
        refine ej_ialoadW hmn (eg_at hT 3 22 rfl rfl) (pc' := 123) (n := 5) (lo := (-2147483648)) (hi := (2147483647)) rfl (et_row2 qr1 qr2).1 (by omega) (by omega) (evw_row _ (by omega)) (by decide) (fun gv15 gv15a gv15b => ?_)
        refine ej_plain hmn (eg_at hT 3 23 rfl rfl) (pc' := 124) (ls' := [some (.inr (.inr (.inl (some 46)))), some (.inl (i)), some (.inr (.inr (.inl (some 25)))), some (.inr (.inr (.inl (some qr))))]) (st' := [.inl (1), .inl (gv15), .inr (.inr (.inl (some 25)))]) (fun _ _ => rfl) ?_
        refine ej_call hmn (eg_at hT 3 24 rfl rfl) (pc' := 127) (r := []) (ey_invI (kd_tellHung_k hmn) (as' := [.inr (.inr (.inl (some 25))), .inl (gv15), .inl (1)]) (ey_lr (ey_li (show (-2147483648 : Int) ≤ gv15 by omega) (show gv15 ≤ (2147483647 : Int) by omega) (rfl)))) (show 1 + 1 ≤ 4 by decide) (fun _ _ => rfl) (fun v hp' hP => ?_)
        obtain ⟨gr16, rfl, rfl, gr16l, gr16h⟩ := hP
        replace gr16l : (-200000 : Int) ≤ gr16 := gr16l
        replace gr16h : gr16 ≤ (1 : Int) := gr16h
        show em_G l D τ sa A own mname bytes 4 4 (0, 0) (some .int) _ (127, [some (.inr (.inr (.inl (some 46)))), some (.inl (i)), some (.inr (.inr (.inl (some 25)))), some (.inr (.inr (.inl (some qr))))], [.inl (gr16)], ei_h0, 0, 0)
        exact ej_ireturn hmn (eg_at hT 3 25 rfl rfl) (@decide_eq_true _ (Classical.propDecidable _) ⟨_, rfl, rfl, by omega, by omega⟩)
      · subst hz
        refine ej_plain hmn (eg_at hT 0 16 rfl rfl) (pc' := 128) (ls' := [some (.inr (.inr (.inl (some 46)))), some (.inl (i)), some (.inr (.inr (.inl (some 25)))), some (.inr (.inr (.inl (some qr))))]) (st' := []) (fun _ _ => rfl) ?_
        refine ej_plain hmn (eg_at hT 4 0 rfl rfl) (pc' := 129) (ls' := [some (.inr (.inr (.inl (some 46)))), some (.inl (i)), some (.inr (.inr (.inl (some 25)))), some (.inr (.inr (.inl (some qr))))]) (st' := [.inr (.inr (.inl (some 25)))]) (fun _ _ => rfl) ?_
        refine ej_plain hmn (eg_at hT 4 1 rfl rfl) (pc' := 130) (ls' := [some (.inr (.inr (.inl (some 46)))), some (.inl (i)), some (.inr (.inr (.inl (some 25)))), some (.inr (.inr (.inl (some qr))))]) (st' := [.inr (.inr (.inl (some qr))), .inr (.inr (.inl (some 25)))]) (fun _ _ => rfl) ?_
        refine ej_plain hmn (eg_at hT 4 2 rfl rfl) (pc' := 131) (ls' := [some (.inr (.inr (.inl (some 46)))), some (.inl (i)), some (.inr (.inr (.inl (some 25)))), some (.inr (.inr (.inl (some qr))))]) (st' := [.inl (0), .inr (.inr (.inl (some qr))), .inr (.inr (.inl (some 25)))]) (fun _ _ => rfl) ?_
        refine ej_ialoadW hmn (eg_at hT 4 3 rfl rfl) (pc' := 132) (n := 5) (lo := (-2147483648)) (hi := (2147483647)) rfl (et_row2 qr1 qr2).1 (by omega) (by omega) (evw_row _ (by omega)) (by decide) (fun gv17 gv17a gv17b => ?_)
        refine ej_plain hmn (eg_at hT 4 4 rfl rfl) (pc' := 133) (ls' := [some (.inr (.inr (.inl (some 46)))), some (.inl (i)), some (.inr (.inr (.inl (some 25)))), some (.inr (.inr (.inl (some qr))))]) (st' := [.inr (.inr (.inl (some qr))), .inl (gv17), .inr (.inr (.inl (some 25)))]) (fun _ _ => rfl) ?_
        refine ej_plain hmn (eg_at hT 4 5 rfl rfl) (pc' := 134) (ls' := [some (.inr (.inr (.inl (some 46)))), some (.inl (i)), some (.inr (.inr (.inl (some 25)))), some (.inr (.inr (.inl (some qr))))]) (st' := [.inl (1), .inr (.inr (.inl (some qr))), .inl (gv17), .inr (.inr (.inl (some 25)))]) (fun _ _ => rfl) ?_
        refine ej_ialoadW hmn (eg_at hT 4 6 rfl rfl) (pc' := 135) (n := 5) (lo := (-2147483648)) (hi := (2147483647)) rfl (et_row2 qr1 qr2).1 (by omega) (by omega) (evw_row _ (by omega)) (by decide) (fun gv18 gv18a gv18b => ?_)
        refine ej_plain hmn (eg_at hT 4 7 rfl rfl) (pc' := 136) (ls' := [some (.inr (.inr (.inl (some 46)))), some (.inl (i)), some (.inr (.inr (.inl (some 25)))), some (.inr (.inr (.inl (some qr))))]) (st' := [.inr (.inr (.inl (some qr))), .inl (gv18), .inl (gv17), .inr (.inr (.inl (some 25)))]) (fun _ _ => rfl) ?_
        refine ej_plain hmn (eg_at hT 4 8 rfl rfl) (pc' := 137) (ls' := [some (.inr (.inr (.inl (some 46)))), some (.inl (i)), some (.inr (.inr (.inl (some 25)))), some (.inr (.inr (.inl (some qr))))]) (st' := [.inl (2), .inr (.inr (.inl (some qr))), .inl (gv18), .inl (gv17), .inr (.inr (.inl (some 25)))]) (fun _ _ => rfl) ?_
        refine ej_ialoadW hmn (eg_at hT 4 9 rfl rfl) (pc' := 138) (n := 5) (lo := (-2147483648)) (hi := (2147483647)) rfl (et_row2 qr1 qr2).1 (by omega) (by omega) (evw_row _ (by omega)) (by decide) (fun gv19 gv19a gv19b => ?_)
        refine ej_call hmn (eg_at hT 4 10 rfl rfl) (pc' := 141) (r := []) (ey_invI (kd_tellCold_k hmn) (as' := [.inr (.inr (.inl (some 25))), .inl (gv17), .inl (gv18), .inl (gv19)]) (ey_lr (ey_li (show (-2147483648 : Int) ≤ gv17 by omega) (show gv17 ≤ (2147483647 : Int) by omega) (ey_li (show (-2147483648 : Int) ≤ gv18 by omega) (show gv18 ≤ (2147483647 : Int) by omega) (ey_li (show (-2147483648 : Int) ≤ gv19 by omega) (show gv19 ≤ (2147483647 : Int) by omega) ey_l0))))) (show 1 + 1 ≤ 4 by decide) (fun _ _ => rfl) (fun v hp' hP => ?_)
        obtain ⟨gr20, rfl, rfl, gr20l, gr20h⟩ := hP
        replace gr20l : (-100000 : Int) ≤ gr20 := gr20l
        replace gr20h : gr20 ≤ (24 : Int) := gr20h
        show em_G l D τ sa A own mname bytes 4 4 (0, 0) (some .int) _ (141, [some (.inr (.inr (.inl (some 46)))), some (.inl (i)), some (.inr (.inr (.inl (some 25)))), some (.inr (.inr (.inl (some qr))))], [.inl (gr20)], ei_h0, 0, 0)
        exact ej_ireturn hmn (eg_at hT 4 11 rfl rfl) (@decide_eq_true _ (Classical.propDecidable _) ⟨_, rfl, rfl, by omega, by omega⟩)
      · subst hz
        refine ej_plain hmn (eg_at hT 0 16 rfl rfl) (pc' := 142) (ls' := [some (.inr (.inr (.inl (some 46)))), some (.inl (i)), some (.inr (.inr (.inl (some 25)))), some (.inr (.inr (.inl (some qr))))]) (st' := []) (fun _ _ => rfl) ?_
        refine ej_plain hmn (eg_at hT 4 12 rfl rfl) (pc' := 143) (ls' := [some (.inr (.inr (.inl (some 46)))), some (.inl (i)), some (.inr (.inr (.inl (some 25)))), some (.inr (.inr (.inl (some qr))))]) (st' := [.inr (.inr (.inl (some 25)))]) (fun _ _ => rfl) ?_
        refine ej_plain hmn (eg_at hT 4 13 rfl rfl) (pc' := 144) (ls' := [some (.inr (.inr (.inl (some 46)))), some (.inl (i)), some (.inr (.inr (.inl (some 25)))), some (.inr (.inr (.inl (some qr))))]) (st' := [.inr (.inr (.inl (some qr))), .inr (.inr (.inl (some 25)))]) (fun _ _ => rfl) ?_
        refine ej_plain hmn (eg_at hT 4 14 rfl rfl) (pc' := 145) (ls' := [some (.inr (.inr (.inl (some 46)))), some (.inl (i)), some (.inr (.inr (.inl (some 25)))), some (.inr (.inr (.inl (some qr))))]) (st' := [.inl (0), .inr (.inr (.inl (some qr))), .inr (.inr (.inl (some 25)))]) (fun _ _ => rfl) ?_
        refine ej_ialoadW hmn (eg_at hT 4 15 rfl rfl) (pc' := 146) (n := 5) (lo := (-2147483648)) (hi := (2147483647)) rfl (et_row2 qr1 qr2).1 (by omega) (by omega) (evw_row _ (by omega)) (by decide) (fun gv21 gv21a gv21b => ?_)
        refine ej_plain hmn (eg_at hT 4 16 rfl rfl) (pc' := 147) (ls' := [some (.inr (.inr (.inl (some 46)))), some (.inl (i)), some (.inr (.inr (.inl (some 25)))), some (.inr (.inr (.inl (some qr))))]) (st' := [.inr (.inr (.inl (some qr))), .inl (gv21), .inr (.inr (.inl (some 25)))]) (fun _ _ => rfl) ?_
        refine ej_plain hmn (eg_at hT 4 17 rfl rfl) (pc' := 148) (ls' := [some (.inr (.inr (.inl (some 46)))), some (.inl (i)), some (.inr (.inr (.inl (some 25)))), some (.inr (.inr (.inl (some qr))))]) (st' := [.inl (1), .inr (.inr (.inl (some qr))), .inl (gv21), .inr (.inr (.inl (some 25)))]) (fun _ _ => rfl) ?_
        refine ej_ialoadW hmn (eg_at hT 4 18 rfl rfl) (pc' := 149) (n := 5) (lo := (-2147483648)) (hi := (2147483647)) rfl (et_row2 qr1 qr2).1 (by omega) (by omega) (evw_row _ (by omega)) (by decide) (fun gv22 gv22a gv22b => ?_)
        refine ej_call hmn (eg_at hT 4 19 rfl rfl) (pc' := 152) (r := []) (ey_invI (kd_tellHelp_k hmn) (as' := [.inr (.inr (.inl (some 25))), .inl (gv21), .inl (gv22)]) (ey_lr (ey_li (show (-2147483648 : Int) ≤ gv21 by omega) (show gv21 ≤ (2147483647 : Int) by omega) (ey_li (show (-2147483648 : Int) ≤ gv22 by omega) (show gv22 ≤ (2147483647 : Int) by omega) ey_l0)))) (show 1 + 1 ≤ 4 by decide) (fun _ _ => rfl) (fun v hp' hP => ?_)
        obtain ⟨gr23, rfl, rfl, gr23l, gr23h⟩ := hP
        replace gr23l : (-100000 : Int) ≤ gr23 := gr23l
        replace gr23h : gr23 ≤ (9 : Int) := gr23h
        show em_G l D τ sa A own mname bytes 4 4 (0, 0) (some .int) _ (152, [some (.inr (.inr (.inl (some 46)))), some (.inl (i)), some (.inr (.inr (.inl (some 25)))), some (.inr (.inr (.inl (some qr))))], [.inl (gr23)], ei_h0, 0, 0)
        exact ej_ireturn hmn (eg_at hT 4 20 rfl rfl) (@decide_eq_true _ (Classical.propDecidable _) ⟨_, rfl, rfl, by omega, by omega⟩)
      · subst hz
        refine ej_plain hmn (eg_at hT 0 16 rfl rfl) (pc' := 153) (ls' := [some (.inr (.inr (.inl (some 46)))), some (.inl (i)), some (.inr (.inr (.inl (some 25)))), some (.inr (.inr (.inl (some qr))))]) (st' := []) (fun _ _ => rfl) ?_
        refine ej_plain hmn (eg_at hT 4 21 rfl rfl) (pc' := 154) (ls' := [some (.inr (.inr (.inl (some 46)))), some (.inl (i)), some (.inr (.inr (.inl (some 25)))), some (.inr (.inr (.inl (some qr))))]) (st' := [.inr (.inr (.inl (some 25)))]) (fun _ _ => rfl) ?_
        refine ej_plain hmn (eg_at hT 4 22 rfl rfl) (pc' := 155) (ls' := [some (.inr (.inr (.inl (some 46)))), some (.inl (i)), some (.inr (.inr (.inl (some 25)))), some (.inr (.inr (.inl (some qr))))]) (st' := [.inr (.inr (.inl (some qr))), .inr (.inr (.inl (some 25)))]) (fun _ _ => rfl) ?_
        refine ej_plain hmn (eg_at hT 4 23 rfl rfl) (pc' := 156) (ls' := [some (.inr (.inr (.inl (some 46)))), some (.inl (i)), some (.inr (.inr (.inl (some 25)))), some (.inr (.inr (.inl (some qr))))]) (st' := [.inl (0), .inr (.inr (.inl (some qr))), .inr (.inr (.inl (some 25)))]) (fun _ _ => rfl) ?_
        refine ej_ialoadW hmn (eg_at hT 4 24 rfl rfl) (pc' := 157) (n := 5) (lo := (-2147483648)) (hi := (2147483647)) rfl (et_row2 qr1 qr2).1 (by omega) (by omega) (evw_row _ (by omega)) (by decide) (fun gv24 gv24a gv24b => ?_)
        refine ej_plain hmn (eg_at hT 4 25 rfl rfl) (pc' := 158) (ls' := [some (.inr (.inr (.inl (some 46)))), some (.inl (i)), some (.inr (.inr (.inl (some 25)))), some (.inr (.inr (.inl (some qr))))]) (st' := [.inr (.inr (.inl (some qr))), .inl (gv24), .inr (.inr (.inl (some 25)))]) (fun _ _ => rfl) ?_
        refine ej_plain hmn (eg_at hT 4 26 rfl rfl) (pc' := 159) (ls' := [some (.inr (.inr (.inl (some 46)))), some (.inl (i)), some (.inr (.inr (.inl (some 25)))), some (.inr (.inr (.inl (some qr))))]) (st' := [.inl (1), .inr (.inr (.inl (some qr))), .inl (gv24), .inr (.inr (.inl (some 25)))]) (fun _ _ => rfl) ?_
        refine ej_ialoadW hmn (eg_at hT 4 27 rfl rfl) (pc' := 160) (n := 5) (lo := (-2147483648)) (hi := (2147483647)) rfl (et_row2 qr1 qr2).1 (by omega) (by omega) (evw_row _ (by omega)) (by decide) (fun gv25 gv25a gv25b => ?_)
        refine ej_plain hmn (eg_at hT 5 0 rfl rfl) (pc' := 161) (ls' := [some (.inr (.inr (.inl (some 46)))), some (.inl (i)), some (.inr (.inr (.inl (some 25)))), some (.inr (.inr (.inl (some qr))))]) (st' := [.inr (.inr (.inl (some qr))), .inl (gv25), .inl (gv24), .inr (.inr (.inl (some 25)))]) (fun _ _ => rfl) ?_
        refine ej_plain hmn (eg_at hT 5 1 rfl rfl) (pc' := 162) (ls' := [some (.inr (.inr (.inl (some 46)))), some (.inl (i)), some (.inr (.inr (.inl (some 25)))), some (.inr (.inr (.inl (some qr))))]) (st' := [.inl (2), .inr (.inr (.inl (some qr))), .inl (gv25), .inl (gv24), .inr (.inr (.inl (some 25)))]) (fun _ _ => rfl) ?_
        refine ej_ialoadW hmn (eg_at hT 5 2 rfl rfl) (pc' := 163) (n := 5) (lo := (-2147483648)) (hi := (2147483647)) rfl (et_row2 qr1 qr2).1 (by omega) (by omega) (evw_row _ (by omega)) (by decide) (fun gv26 gv26a gv26b => ?_)
        refine ej_plain hmn (eg_at hT 5 3 rfl rfl) (pc' := 164) (ls' := [some (.inr (.inr (.inl (some 46)))), some (.inl (i)), some (.inr (.inr (.inl (some 25)))), some (.inr (.inr (.inl (some qr))))]) (st' := [.inr (.inr (.inl (some qr))), .inl (gv26), .inl (gv25), .inl (gv24), .inr (.inr (.inl (some 25)))]) (fun _ _ => rfl) ?_
        refine ej_plain hmn (eg_at hT 5 4 rfl rfl) (pc' := 165) (ls' := [some (.inr (.inr (.inl (some 46)))), some (.inl (i)), some (.inr (.inr (.inl (some 25)))), some (.inr (.inr (.inl (some qr))))]) (st' := [.inl (3), .inr (.inr (.inl (some qr))), .inl (gv26), .inl (gv25), .inl (gv24), .inr (.inr (.inl (some 25)))]) (fun _ _ => rfl) ?_
        refine ej_ialoadW hmn (eg_at hT 5 5 rfl rfl) (pc' := 166) (n := 5) (lo := (-2147483648)) (hi := (2147483647)) rfl (et_row2 qr1 qr2).1 (by omega) (by omega) (evw_row _ (by omega)) (by decide) (fun gv27 gv27a gv27b => ?_)
        refine ej_plain hmn (eg_at hT 5 6 rfl rfl) (pc' := 167) (ls' := [some (.inr (.inr (.inl (some 46)))), some (.inl (i)), some (.inr (.inr (.inl (some 25)))), some (.inr (.inr (.inl (some qr))))]) (st' := [.inr (.inr (.inl (some qr))), .inl (gv27), .inl (gv26), .inl (gv25), .inl (gv24), .inr (.inr (.inl (some 25)))]) (fun _ _ => rfl) ?_
        refine ej_plain hmn (eg_at hT 5 7 rfl rfl) (pc' := 168) (ls' := [some (.inr (.inr (.inl (some 46)))), some (.inl (i)), some (.inr (.inr (.inl (some 25)))), some (.inr (.inr (.inl (some qr))))]) (st' := [.inl (4), .inr (.inr (.inl (some qr))), .inl (gv27), .inl (gv26), .inl (gv25), .inl (gv24), .inr (.inr (.inl (some 25)))]) (fun _ _ => rfl) ?_
        refine ej_ialoadW hmn (eg_at hT 5 8 rfl rfl) (pc' := 169) (n := 5) (lo := (-2147483648)) (hi := (2147483647)) rfl (et_row2 qr1 qr2).1 (by omega) (by omega) (evw_row _ (by omega)) (by decide) (fun gv28 gv28a gv28b => ?_)
        refine ej_call hmn (eg_at hT 5 9 rfl rfl) (pc' := 172) (r := []) (ey_invI (kd_addMan_k hmn) (as' := [.inr (.inr (.inl (some 25))), .inl (gv24), .inl (gv25), .inl (gv26), .inl (gv27), .inl (gv28)]) (ey_lr (ey_li (show (-2147483648 : Int) ≤ gv24 by omega) (show gv24 ≤ (2147483647 : Int) by omega) (ey_li (show (-2147483648 : Int) ≤ gv25 by omega) (show gv25 ≤ (2147483647 : Int) by omega) (ey_li (show (-2147483648 : Int) ≤ gv26 by omega) (show gv26 ≤ (2147483647 : Int) by omega) (ey_li (show (-2147483648 : Int) ≤ gv27 by omega) (show gv27 ≤ (2147483647 : Int) by omega) (ey_li (show (-2147483648 : Int) ≤ gv28 by omega) (show gv28 ≤ (2147483647 : Int) by omega) ey_l0))))))) (show 1 + 1 ≤ 4 by decide) (fun _ _ => rfl) (fun v hp' hP => ?_)
        obtain ⟨gr29, rfl, rfl, gr29l, gr29h⟩ := hP
        replace gr29l : (-300000 : Int) ≤ gr29 := gr29l
        replace gr29h : gr29 ≤ (7 : Int) := gr29h
        show em_G l D τ sa A own mname bytes 4 4 (0, 0) (some .int) _ (172, [some (.inr (.inr (.inl (some 46)))), some (.inl (i)), some (.inr (.inr (.inl (some 25)))), some (.inr (.inr (.inl (some qr))))], [.inl (gr29)], ei_h0, 0, 0)
        exact ej_ireturn hmn (eg_at hT 5 10 rfl rfl) (@decide_eq_true _ (Classical.propDecidable _) ⟨_, rfl, rfl, by omega, by omega⟩)
      · subst hz
        refine ej_plain hmn (eg_at hT 0 16 rfl rfl) (pc' := 173) (ls' := [some (.inr (.inr (.inl (some 46)))), some (.inl (i)), some (.inr (.inr (.inl (some 25)))), some (.inr (.inr (.inl (some qr))))]) (st' := []) (fun _ _ => rfl) ?_
        refine ej_plain hmn (eg_at hT 5 11 rfl rfl) (pc' := 174) (ls' := [some (.inr (.inr (.inl (some 46)))), some (.inl (i)), some (.inr (.inr (.inl (some 25)))), some (.inr (.inr (.inl (some qr))))]) (st' := [.inr (.inr (.inl (some 25)))]) (fun _ _ => rfl) ?_
        refine ej_plain hmn (eg_at hT 5 12 rfl rfl) (pc' := 175) (ls' := [some (.inr (.inr (.inl (some 46)))), some (.inl (i)), some (.inr (.inr (.inl (some 25)))), some (.inr (.inr (.inl (some qr))))]) (st' := [.inr (.inr (.inl (some qr))), .inr (.inr (.inl (some 25)))]) (fun _ _ => rfl) ?_
        refine ej_plain hmn (eg_at hT 5 13 rfl rfl) (pc' := 176) (ls' := [some (.inr (.inr (.inl (some 46)))), some (.inl (i)), some (.inr (.inr (.inl (some 25)))), some (.inr (.inr (.inl (some qr))))]) (st' := [.inl (0), .inr (.inr (.inl (some qr))), .inr (.inr (.inl (some 25)))]) (fun _ _ => rfl) ?_
        refine ej_ialoadW hmn (eg_at hT 5 14 rfl rfl) (pc' := 177) (n := 5) (lo := (-2147483648)) (hi := (2147483647)) rfl (et_row2 qr1 qr2).1 (by omega) (by omega) (evw_row _ (by omega)) (by decide) (fun gv30 gv30a gv30b => ?_)
        refine ej_plain hmn (eg_at hT 5 15 rfl rfl) (pc' := 178) (ls' := [some (.inr (.inr (.inl (some 46)))), some (.inl (i)), some (.inr (.inr (.inl (some 25)))), some (.inr (.inr (.inl (some qr))))]) (st' := [.inl (1), .inl (gv30), .inr (.inr (.inl (some 25)))]) (fun _ _ => rfl) ?_
        refine ej_call hmn (eg_at hT 5 16 rfl rfl) (pc' := 181) (r := []) (ey_invI (kd_tellCoat_k hmn) (as' := [.inr (.inr (.inl (some 25))), .inl (gv30), .inl (1)]) (ey_lr (ey_li (show (-2147483648 : Int) ≤ gv30 by omega) (show gv30 ≤ (2147483647 : Int) by omega) (rfl)))) (show 2 + 1 ≤ 4 by decide) (fun _ _ => rfl) (fun v hp' hP => ?_)
        obtain ⟨gr31, rfl, rfl, gr31l, gr31h⟩ := hP
        replace gr31l : (-200000 : Int) ≤ gr31 := gr31l
        replace gr31h : gr31 ≤ (1 : Int) := gr31h
        show em_G l D τ sa A own mname bytes 4 4 (0, 0) (some .int) _ (181, [some (.inr (.inr (.inl (some 46)))), some (.inl (i)), some (.inr (.inr (.inl (some 25)))), some (.inr (.inr (.inl (some qr))))], [.inl (gr31)], ei_h0, 0, 0)
        exact ej_ireturn hmn (eg_at hT 5 17 rfl rfl) (@decide_eq_true _ (Classical.propDecidable _) ⟨_, rfl, rfl, by omega, by omega⟩)
      · subst hz
        refine ej_plain hmn (eg_at hT 0 16 rfl rfl) (pc' := 182) (ls' := [some (.inr (.inr (.inl (some 46)))), some (.inl (i)), some (.inr (.inr (.inl (some 25)))), some (.inr (.inr (.inl (some qr))))]) (st' := []) (fun _ _ => rfl) ?_
        refine ej_plain hmn (eg_at hT 5 18 rfl rfl) (pc' := 183) (ls' := [some (.inr (.inr (.inl (some 46)))), some (.inl (i)), some (.inr (.inr (.inl (some 25)))), some (.inr (.inr (.inl (some qr))))]) (st' := [.inr (.inr (.inl (some 25)))]) (fun _ _ => rfl) ?_
        refine ej_plain hmn (eg_at hT 5 19 rfl rfl) (pc' := 184) (ls' := [some (.inr (.inr (.inl (some 46)))), some (.inl (i)), some (.inr (.inr (.inl (some 25)))), some (.inr (.inr (.inl (some qr))))]) (st' := [.inr (.inr (.inl (some qr))), .inr (.inr (.inl (some 25)))]) (fun _ _ => rfl) ?_
        refine ej_plain hmn (eg_at hT 5 20 rfl rfl) (pc' := 185) (ls' := [some (.inr (.inr (.inl (some 46)))), some (.inl (i)), some (.inr (.inr (.inl (some 25)))), some (.inr (.inr (.inl (some qr))))]) (st' := [.inl (0), .inr (.inr (.inl (some qr))), .inr (.inr (.inl (some 25)))]) (fun _ _ => rfl) ?_
        refine ej_ialoadW hmn (eg_at hT 5 21 rfl rfl) (pc' := 186) (n := 5) (lo := (-2147483648)) (hi := (2147483647)) rfl (et_row2 qr1 qr2).1 (by omega) (by omega) (evw_row _ (by omega)) (by decide) (fun gv32 gv32a gv32b => ?_)
        refine ej_plain hmn (eg_at hT 5 22 rfl rfl) (pc' := 187) (ls' := [some (.inr (.inr (.inl (some 46)))), some (.inl (i)), some (.inr (.inr (.inl (some 25)))), some (.inr (.inr (.inl (some qr))))]) (st' := [.inr (.inr (.inl (some qr))), .inl (gv32), .inr (.inr (.inl (some 25)))]) (fun _ _ => rfl) ?_
        refine ej_plain hmn (eg_at hT 5 23 rfl rfl) (pc' := 188) (ls' := [some (.inr (.inr (.inl (some 46)))), some (.inl (i)), some (.inr (.inr (.inl (some 25)))), some (.inr (.inr (.inl (some qr))))]) (st' := [.inl (1), .inr (.inr (.inl (some qr))), .inl (gv32), .inr (.inr (.inl (some 25)))]) (fun _ _ => rfl) ?_
        refine ej_ialoadW hmn (eg_at hT 5 24 rfl rfl) (pc' := 189) (n := 5) (lo := (-2147483648)) (hi := (2147483647)) rfl (et_row2 qr1 qr2).1 (by omega) (by omega) (evw_row _ (by omega)) (by decide) (fun gv33 gv33a gv33b => ?_)
        refine ej_plain hmn (eg_at hT 5 25 rfl rfl) (pc' := 190) (ls' := [some (.inr (.inr (.inl (some 46)))), some (.inl (i)), some (.inr (.inr (.inl (some 25)))), some (.inr (.inr (.inl (some qr))))]) (st' := [.inr (.inr (.inl (some qr))), .inl (gv33), .inl (gv32), .inr (.inr (.inl (some 25)))]) (fun _ _ => rfl) ?_
        refine ej_plain hmn (eg_at hT 5 26 rfl rfl) (pc' := 191) (ls' := [some (.inr (.inr (.inl (some 46)))), some (.inl (i)), some (.inr (.inr (.inl (some 25)))), some (.inr (.inr (.inl (some qr))))]) (st' := [.inl (2), .inr (.inr (.inl (some qr))), .inl (gv33), .inl (gv32), .inr (.inr (.inl (some 25)))]) (fun _ _ => rfl) ?_
        refine ej_ialoadW hmn (eg_at hT 5 27 rfl rfl) (pc' := 192) (n := 5) (lo := (-2147483648)) (hi := (2147483647)) rfl (et_row2 qr1 qr2).1 (by omega) (by omega) (evw_row _ (by omega)) (by decide) (fun gv34 gv34a gv34b => ?_)
        refine ej_call hmn (eg_at hT 6 0 rfl rfl) (pc' := 195) (r := []) (ey_invI (kd_addBreak_k hmn) (as' := [.inr (.inr (.inl (some 25))), .inl (gv32), .inl (gv33), .inl (gv34)]) (ey_lr (ey_li (show (-2147483648 : Int) ≤ gv32 by omega) (show gv32 ≤ (2147483647 : Int) by omega) (ey_li (show (-2147483648 : Int) ≤ gv33 by omega) (show gv33 ≤ (2147483647 : Int) by omega) (ey_li (show (-2147483648 : Int) ≤ gv34 by omega) (show gv34 ≤ (2147483647 : Int) by omega) ey_l0))))) (show 1 + 1 ≤ 4 by decide) (fun _ _ => rfl) (fun v hp' hP => ?_)
        obtain ⟨gr35, rfl, rfl, gr35l, gr35h⟩ := hP
        replace gr35l : (-300000 : Int) ≤ gr35 := gr35l
        replace gr35h : gr35 ≤ (3 : Int) := gr35h
        show em_G l D τ sa A own mname bytes 4 4 (0, 0) (some .int) _ (195, [some (.inr (.inr (.inl (some 46)))), some (.inl (i)), some (.inr (.inr (.inl (some 25)))), some (.inr (.inr (.inl (some qr))))], [.inl (gr35)], ei_h0, 0, 0)
        exact ej_ireturn hmn (eg_at hT 6 1 rfl rfl) (@decide_eq_true _ (Classical.propDecidable _) ⟨_, rfl, rfl, by omega, by omega⟩)
      · subst hz
        refine ej_plain hmn (eg_at hT 0 16 rfl rfl) (pc' := 196) (ls' := [some (.inr (.inr (.inl (some 46)))), some (.inl (i)), some (.inr (.inr (.inl (some 25)))), some (.inr (.inr (.inl (some qr))))]) (st' := []) (fun _ _ => rfl) ?_
        refine ej_plain hmn (eg_at hT 6 2 rfl rfl) (pc' := 197) (ls' := [some (.inr (.inr (.inl (some 46)))), some (.inl (i)), some (.inr (.inr (.inl (some 25)))), some (.inr (.inr (.inl (some qr))))]) (st' := [.inr (.inr (.inl (some 25)))]) (fun _ _ => rfl) ?_
        refine ej_plain hmn (eg_at hT 6 3 rfl rfl) (pc' := 198) (ls' := [some (.inr (.inr (.inl (some 46)))), some (.inl (i)), some (.inr (.inr (.inl (some 25)))), some (.inr (.inr (.inl (some qr))))]) (st' := [.inr (.inr (.inl (some qr))), .inr (.inr (.inl (some 25)))]) (fun _ _ => rfl) ?_
        refine ej_plain hmn (eg_at hT 6 4 rfl rfl) (pc' := 199) (ls' := [some (.inr (.inr (.inl (some 46)))), some (.inl (i)), some (.inr (.inr (.inl (some 25)))), some (.inr (.inr (.inl (some qr))))]) (st' := [.inl (0), .inr (.inr (.inl (some qr))), .inr (.inr (.inl (some 25)))]) (fun _ _ => rfl) ?_
        refine ej_ialoadW hmn (eg_at hT 6 5 rfl rfl) (pc' := 200) (n := 5) (lo := (-2147483648)) (hi := (2147483647)) rfl (et_row2 qr1 qr2).1 (by omega) (by omega) (evw_row _ (by omega)) (by decide) (fun gv36 gv36a gv36b => ?_)
        refine ej_plain hmn (eg_at hT 6 6 rfl rfl) (pc' := 201) (ls' := [some (.inr (.inr (.inl (some 46)))), some (.inl (i)), some (.inr (.inr (.inl (some 25)))), some (.inr (.inr (.inl (some qr))))]) (st' := [.inl (1), .inl (gv36), .inr (.inr (.inl (some 25)))]) (fun _ _ => rfl) ?_
        refine ej_call hmn (eg_at hT 6 7 rfl rfl) (pc' := 204) (r := []) (ey_invI (kd_tellOpened_k hmn) (as' := [.inr (.inr (.inl (some 25))), .inl (gv36), .inl (1)]) (ey_lr (ey_li (show (-2147483648 : Int) ≤ gv36 by omega) (show gv36 ≤ (2147483647 : Int) by omega) (rfl)))) (show 1 + 1 ≤ 4 by decide) (fun _ _ => rfl) (fun v hp' hP => ?_)
        obtain ⟨gr37, rfl, rfl, gr37l, gr37h⟩ := hP
        replace gr37l : (-200000 : Int) ≤ gr37 := gr37l
        replace gr37h : gr37 ≤ (1 : Int) := gr37h
        show em_G l D τ sa A own mname bytes 4 4 (0, 0) (some .int) _ (204, [some (.inr (.inr (.inl (some 46)))), some (.inl (i)), some (.inr (.inr (.inl (some 25)))), some (.inr (.inr (.inl (some qr))))], [.inl (gr37)], ei_h0, 0, 0)
        exact ej_ireturn hmn (eg_at hT 6 8 rfl rfl) (@decide_eq_true _ (Classical.propDecidable _) ⟨_, rfl, rfl, by omega, by omega⟩)
  · refine ej_plain hmn (eg_at hT 0 5 rfl rfl) (pc' := 12) (ls' := [some (.inr (.inr (.inl (some 46)))), some (.inl (i)), some (.inr (.inr (.inl (some 25)))), none]) (st' := [.inl (-100000)]) (fun _ _ => rfl) ?_
    exact ej_ireturn hmn (eg_at hT 0 6 rfl rfl) (@decide_eq_true _ (Classical.propDecidable _) ⟨_, rfl, rfl, by omega, by omega⟩)
theorem ec_tellItem_k {l : Launch} {D : va_G} {τ : Nat → ClassId} {sa : List Nat} {A : Nat → Prop} (hmn : em_mna) : em_E l D τ sa A em_inf 81 ([(.inr (.inr (.inl (some 46)))), .inr (.inr (.inr (.inl (0, 49)))), .inr (.inr (.inl (some 25)))], ei_h0, some (.inr (.inr (.inr (.inl (-2147483648, 2147483647))))), ei_h0, 4) := by
  refine ⟨_, _, _, _, rfl, Nat.le_of_ble_eq_true rfl, fun ν ro avs ws hs => ?_⟩
  obtain ⟨v0, vs0, rfl, g0, hs0⟩ := hs.cons
  obtain ⟨v1, vs1, rfl, ⟨x1, rfl, c1, c2⟩, hs1⟩ := hs0.cons
  replace c1 : (0 : Int) ≤ x1.toInt := c1
  replace c2 : x1.toInt ≤ 49 := c2
  obtain ⟨y', bytes', nl', ret', j1, j2, j3⟩ := ey_toE (eq_tellItem (l := l) (D := D) (τ := τ) (sa := sa) (A := A) hmn (i := x1.toInt) (by omega))
  cases j1
  exact j3 ν ro (v0 :: .int x1 :: vs1) ws ⟨g0, er_int x1, hs1⟩
/-- INV with the book laid aside between the book's bounds, without names -/
def ei_hT : ex_H := ex_hput ei_h0 349 (0, 0, 230, (ei_c17[10]!).2.2.2.1, [])
/-- INV without the names of what is laid aside -/
def eih_a : ex_H := ex_hput ei_h0 349 (0, 0, 230, (ei_c17[13]!).2.2.2.1, [])
theorem et_leT : ex_leH ei_hT ei_hT = true := by decide +kernel
theorem et_leTA : ex_leH ei_hT eih_a = true := by decide +kernel
theorem et_fixT : ex_fix ei_hT ei_hT = ei_hT := rfl
theorem er_St.ren {ν ν' : Nat → Int32} {sa : List Nat} {ws : va_W} {lo hi : Nat} (hν : ∀ k, k < lo ∨ hi < k → ν' k = ν k) : ∀ {as : List ex_V} {vs : List Value}, as.all (ex_avV lo hi) = true → er_St (er_r ν sa ws) as vs → er_St (er_r ν' sa ws) as vs := by
  intro as
  induction as with
  | nil =>
    intro vs _ h
    rw [h.nil]
    exact trivial
  | cons a as ih =>
    intro vs ha h
    obtain ⟨v, vs', rfl, g1, g2⟩ := h.cons
    rw [List.all_cons, Bool.and_eq_true] at ha
    exact ⟨er_V.ren hν ha.1 g1, ih ha.2 g2⟩
/-- what is laid aside isn't touched by a call from INV to INV: its name says so -/
theorem em_aside {l : Launch} {D : va_G} {τ : Nat → ClassId} {sa : List Nat} {A : Nat → Prop} {mi dd : Nat} {as : List ex_V} {v : Option ex_V} (h : em_E l D τ sa A em_inf mi (as, ei_h0, v, ei_h0, dd)) (has : as.all (ex_avV 2600 2829) = true) (hv : ∀ a, v = some a → ex_avV 2600 2829 a = true) : em_E l D τ sa A em_inf mi (as, ei_hT, v, ei_hT, dd) := by
  obtain ⟨y, bytes, nl, ret, i1, i2, i3⟩ := h
  refine ⟨y, bytes, nl, ret, i1, i2, fun ν ro avs ws hs => ?_⟩
  intro p' e hA hc hk s' m args below hf happ hP hK
  obtain ⟨k1, k2, k3⟩ := hP
  replace k3 : er_W ν D τ sa ro A ei_hT ws s'.heap := k3
  obtain ⟨ν', f, n1, n2, n3, n4⟩ := el_nmA (q := 349) (k := 2600) (t := 0) (ty := 0) (n := 230) (P := (ei_c17[10]!).2.2.2.1) (P' := (ei_c17[13]!).2.2.2.1) k3 (by decide) (Or.inl rfl) rfl (by decide +kernel) (by decide) (fun q c hq hc => ex_avH_ok (by decide +kernel) hc)
  have n5 : er_W ν' D τ sa ro A ei_h0 ws s'.heap := n4
  have hν : ∀ k, k < 2600 ∨ 2829 < k → ν' k = ν k := fun k hk => n1 k (by omega)
  have hν2 : ∀ k, k < 2600 ∨ 2829 < k → ν k = ν' k := fun k hk => (hν k hk).symm
  obtain ⟨n, o, h1, h2, h3, h4, h5⟩ := i3 ν' ro avs ws (er_St.ren hν has hs) p' e hA hc hk s' m args below hf happ ⟨k1, k2, n5⟩ hK
  refine ⟨n, o, h1, h2, h3, ?_, h5⟩
  obtain ⟨⟨ws', rv, j1, j2, j3, j4⟩, j5⟩ := h4
  refine ⟨⟨ws', rv, j1, ?_, ?_, j4⟩, j5⟩
  · cases v with
    | none =>
      cases rv with
      | none => exact trivial
      | some w => exact False.elim j2
    | some a =>
      cases rv with
      | none => exact False.elim j2
      | some w => exact er_V.ren hν2 (hv a rfl) j2
  · have t1 := el_tight (q := 349) (t := 0) (ty := 0) (n := 230) (k := 2600) (P := (ei_c17[13]!).2.2.2.1) (P' := (ei_c17[10]!).2.2.2.1) j3 (by decide) (Or.inl rfl) rfl (fun f' hf' hn j hj => by rw [hn j hj, n3 j hj]; exact n2 j hj)
    have t2 := el_put (c' := (0, 0, 230, (ei_c17[10]!).2.2.2.1, [])) t1 (by decide : 5 ≤ 349) (c := (0, 0, 230, (ei_c17[10]!).2.2.2.1, [.inr (.inr (.inl (some 2600)))])) rfl (fun x e1 e2 => by
      rcases e2 with ⟨-, f', g2, g3, -⟩ | ⟨g1, -⟩ | ⟨g1, -⟩ | ⟨g1, -⟩
      · exact Or.inl ⟨rfl, f', g2, g3, trivial⟩
      · cases g1
      · cases g1
      · cases g1)
    have t3 : er_W ν' D τ sa ro A ei_hT ws' _ := t2
    exact t3.ren hν2 (fun q c hq hc => ex_avH_ok (by decide +kernel) hc)
theorem ey_invIT {l : Launch} {D : va_G} {τ : Nat → ClassId} {sa : List Nat} {A : Nat → Prop} {mi dd : Nat} {as : List ex_V} {lo hi : Int} (h : em_E l D τ sa A em_inf mi (as, ei_hT, some (.inr (.inr (.inr (.inl (lo, hi))))), ei_hT, dd)) {as' : List ex_V} (hl : ex_leL none none as' as = true) : em_X l D τ sa A mi as' ei_hT (fun w hp' => ∃ r : Int, w = some (.inl r) ∧ hp' = ei_hT ∧ lo ≤ r ∧ r ≤ hi) dd := by
  obtain ⟨y, bytes, nl, ret, i1, i2, i3⟩ := em_X.ofE h hl et_leT
  refine ⟨y, bytes, nl, ret, i1, i2, fun ν ro avs ws hs => em_weak (i3 ν ro avs ws hs) ?_⟩
  rintro a st o t ⟨⟨ov, hp', ws', rv, j1, j2, j3, j4, j5⟩, j6⟩
  obtain ⟨rfl, rfl⟩ := @of_decide_eq_true _ (Classical.propDecidable _) j2
  match rv, j3 with
  | some v, ⟨x, e1, e2, e3⟩ =>
    subst e1
    exact ⟨⟨some (.inl x.toInt), ei_hT, ws', some (.int x), j1, @decide_eq_true _ (Classical.propDecidable _) ⟨x.toInt, rfl, rfl, e2, e3⟩, ⟨x, rfl, rfl⟩, j4, j5⟩, j6⟩
  | none, j3 => exact j3.elim
theorem ey_invNT {l : Launch} {D : va_G} {τ : Nat → ClassId} {sa : List Nat} {A : Nat → Prop} {mi dd : Nat} {as : List ex_V} (h : em_E l D τ sa A em_inf mi (as, ei_hT, none, ei_hT, dd)) {as' : List ex_V} (hl : ex_leL none none as' as = true) : em_X l D τ sa A mi as' ei_hT (fun w hp' => w = none ∧ hp' = ei_hT) dd := em_X.weak (em_X.ofE h hl et_leT) (fun v hp' h => h)
theorem ect_tellsItem_k {l : Launch} {D : va_G} {τ : Nat → ClassId} {sa : List Nat} {A : Nat → Prop} (hmn : em_mna) : em_E l D τ sa A em_inf 156 ([(.inr (.inr (.inl (some 345)))), .inr (.inr (.inr (.inl (0, 299))))], ei_hT, some (.inr (.inr (.inr (.inl (-2147483648, 2147483647))))), ei_hT, 3) := em_aside (ec_tellsItem_k hmn) (by decide +kernel) (fun a h => by cases h; rfl)
theorem krt_begins_k {l : Launch} {D : va_G} {τ : Nat → ClassId} {sa : List Nat} {A : Nat → Prop} (hmn : em_mna) : em_E l D τ sa A em_inf 128 ([(.inr (.inr (.inl (some 345))))], ei_hT, none, ei_hT, 0) := em_aside (kr_begins_k hmn) (by decide +kernel) (fun a h => nomatch h)
theorem eq_ca_R {l : Launch} {D : va_G} {τ : Nat → ClassId} {sa : List Nat} {A : Nat → Prop} (hmn : em_mna) {own mname : String} {bytes : ByteArray} (hT : ∀ ch ∈ eu_157, ∀ x ∈ ch, ek_J em_inf et_cls et_vt own mname bytes x) {d : Nat} (hd : 4 ≤ d) {K : Option ex_V → ex_H → Bool} (hK : ∀ r : Int, -2147483648 ≤ r → r ≤ 2147483647 → K (some (.inl r)) ei_hT = true) {i : Int} (hi : 0 ≤ i ∧ i ≤ 300) : ∀ (j : Nat) (k : Int), 230 - k < j → (0 ≤ k ∧ k ≤ 230) → em_G l D τ sa A own mname bytes 3 d (0, 0) (some .int) K (68, [some (.inr (.inr (.inl (some 345)))), some (.inl (i)), some (.inl (k))], [], ei_hT, 0, 0) := by
  intro j
  induction j with
  | zero => intro k hj hk; exfalso; omega
  | succ j ih =>
    intro k hj hk
    refine ej_plain hmn (eg_at hT 2 2 rfl rfl) (pc' := 69) (ls' := [some (.inr (.inr (.inl (some 345)))), some (.inl (i)), some (.inl (k))]) (st' := [.inl (k)]) (fun _ _ => rfl) ?_
    refine ej_plain hmn (eg_at hT 2 3 rfl rfl) (pc' := 72) (ls' := [some (.inr (.inr (.inl (some 345)))), some (.inl (i)), some (.inl (k))]) (st' := [.inl (230), .inl (k)]) (fun _ _ => rfl) ?_
    refine ej_if_icmp hmn (eg_at hT 2 4 rfl rfl) (pc' := 75) rfl (fun _ => rfl) (fun (rc1 : 230 ≤ k) => ?_) (fun (rc1 : ¬ (230 ≤ k)) => ?_)
    · refine ej_plain hmn (eg_at hT 2 15 rfl rfl) (pc' := 96) (ls' := [some (.inr (.inr (.inl (some 345)))), some (.inl (i)), some (.inl (k))]) (st' := [.inl (-1000)]) (fun _ _ => rfl) ?_
      refine ej_plain hmn (eg_at hT 3 0 rfl rfl) (pc' := 97) (ls' := [some (.inr (.inr (.inl (some 345)))), some (.inl (i)), some (.inl (k))]) (st' := [.inl (i), .inl (-1000)]) (fun _ _ => rfl) ?_
      refine ej_isub hmn (eg_at hT 3 1 rfl rfl) (pc' := 98) rfl (by omega) (by omega) ?_
      exact ej_ireturn hmn (eg_at hT 3 2 rfl rfl) (hK _ (by omega) (by omega))
    · refine ej_plain hmn (eg_at hT 2 5 rfl rfl) (pc' := 76) (ls' := [some (.inr (.inr (.inl (some 345)))), some (.inl (i)), some (.inl (k))]) (st' := [.inr (.inr (.inl (some 345)))]) (fun _ _ => rfl) ?_
      refine ej_plain hmn (eg_at hT 2 6 rfl rfl) (pc' := 79) (ls' := [some (.inr (.inr (.inl (some 345)))), some (.inl (i)), some (.inl (k))]) (st' := [.inr (.inr (.inl (some 346)))]) (fun _ _ => rfl) ?_
      refine ej_plain hmn (eg_at hT 2 7 rfl rfl) (pc' := 80) (ls' := [some (.inr (.inr (.inl (some 345)))), some (.inl (i)), some (.inl (k))]) (st' := [.inl (k), .inr (.inr (.inl (some 346)))]) (fun _ _ => rfl) ?_
      refine ej_plain hmn (eg_at hT 2 8 rfl rfl) (pc' := 81) (ls' := [some (.inr (.inr (.inl (some 345)))), some (.inl (i)), some (.inl (k))]) (st' := [.inr (.inr (.inl (some 345))), .inl (k), .inr (.inr (.inl (some 346)))]) (fun _ _ => rfl) ?_
      refine ej_plain hmn (eg_at hT 2 9 rfl rfl) (pc' := 84) (ls' := [some (.inr (.inr (.inl (some 345)))), some (.inl (i)), some (.inl (k))]) (st' := [.inr (.inr (.inl (some 349))), .inl (k), .inr (.inr (.inl (some 346)))]) (fun _ _ => rfl) ?_
      refine ej_plain hmn (eg_at hT 2 10 rfl rfl) (pc' := 85) (ls' := [some (.inr (.inr (.inl (some 345)))), some (.inl (i)), some (.inl (k))]) (st' := [.inl (k), .inr (.inr (.inl (some 349))), .inl (k), .inr (.inr (.inl (some 346)))]) (fun _ _ => rfl) ?_
      refine ej_ialoadW hmn (eg_at hT 2 11 rfl rfl) (pc' := 86) (n := 230) (lo := (((ex_pg (ei_c17[10]!).2.2.2.1 k.toNat % 4294967296 : Nat) : Int) - 2147483648)) (hi := (((ex_pg (ei_c17[10]!).2.2.2.1 k.toNat / 4294967296 : Nat) : Int) - 2147483648)) rfl (fun _ => rfl) (by omega) (by omega) (ev_bk _) (by have := ev_bkl k.toNat (by omega); omega) (fun rv2 rv2a rv2b => ?_)
      refine ej_iastoreW hmn (eg_at hT 2 12 rfl rfl) (pc' := 87) (n := 230) (lo := (((ex_pg (ei_c17[10]!).2.2.2.1 k.toNat % 4294967296 : Nat) : Int) - 2147483648)) (hi := (((ex_pg (ei_c17[10]!).2.2.2.1 k.toNat / 4294967296 : Nat) : Int) - 2147483648)) rfl rfl (fun _ => rfl) rfl (by omega) (by omega) (ev_bk _) (by omega) (by omega) ?_
      refine ej_iinc hmn (eg_at hT 2 13 rfl rfl) (pc' := 90) rfl (w := 1) rfl (fun _ => rfl) (lsf := fun V => [some (.inr (.inr (.inl (some 345)))), some (.inl (i)), some V]) (fun _ _ => rfl) (by decide) (by decide) (by omega) (by omega) ?_
      refine ej_plain hmn (eg_at hT 2 14 rfl rfl) (pc' := 68) (ls' := [some (.inr (.inr (.inl (some 345)))), some (.inl (i)), some (.inl (k + 1))]) (st' := []) (fun _ _ => rfl) ?_
      exact ih _ (by omega) (by omega)
theorem eq_ca_I {l : Launch} {D : va_G} {τ : Nat → ClassId} {sa : List Nat} {A : Nat → Prop} (hmn : em_mna) {own mname : String} {bytes : ByteArray} (hT : ∀ ch ∈ eu_157, ∀ x ∈ ch, ek_J em_inf et_cls et_vt own mname bytes x) {d : Nat} (hd : 4 ≤ d) {K : Option ex_V → ex_H → Bool} (hK : ∀ r : Int, -2147483648 ≤ r → r ≤ 2147483647 → K (some (.inl r)) ei_hT = true) : ∀ (j : Nat) (i : Int), 301 - i < j → (0 ≤ i ∧ i ≤ 300) → em_G l D τ sa A own mname bytes 3 d (0, 0) (some .int) K (48, [some (.inr (.inr (.inl (some 345)))), some (.inl (i)), none], [], ei_hT, 0, 0) := by
  intro j
  induction j with
  | zero => intro i hj hi; exfalso; omega
  | succ j ih =>
    intro i hj hi
    refine ej_plain hmn (eg_at hT 1 9 rfl rfl) (pc' := 49) (ls' := [some (.inr (.inr (.inl (some 345)))), some (.inl (i)), none]) (st' := [.inl (i)]) (fun _ _ => rfl) ?_
    refine ej_plain hmn (eg_at hT 1 10 rfl rfl) (pc' := 50) (ls' := [some (.inr (.inr (.inl (some 345)))), some (.inl (i)), none]) (st' := [.inr (.inr (.inl (some 345))), .inl (i)]) (fun _ _ => rfl) ?_
    refine ej_plain hmn (eg_at hT 1 11 rfl rfl) (pc' := 53) (ls' := [some (.inr (.inr (.inl (some 345)))), some (.inl (i)), none]) (st' := [.inr (.inr (.inr (.inl (0, 300)))), .inl (i)]) (fun _ _ => rfl) ?_
    refine ej_some (fun iv1 iv1a iv1b => ?_)
    refine ej_if_icmp hmn (eg_at hT 1 12 rfl rfl) (pc' := 56) rfl (fun _ => rfl) (fun (ic2 : iv1 ≤ i) => ?_) (fun (ic2 : ¬ (iv1 ≤ i)) => ?_)
    · refine ej_plain hmn (eg_at hT 3 5 rfl rfl) (pc' := 106) (ls' := [some (.inr (.inr (.inl (some 345)))), some (.inl (i)), none]) (st' := [.inr (.inr (.inl (some 345)))]) (fun _ _ => rfl) ?_
      refine ej_plain hmn (eg_at hT 3 6 rfl rfl) (pc' := 109) (ls' := [some (.inr (.inr (.inl (some 345)))), some (.inl (i)), none]) (st' := [.inr (.inr (.inr (.inl (0, 300))))]) (fun _ _ => rfl) ?_
      refine ej_some (fun iv3 iv3a iv3b => ?_)
      exact ej_ireturn hmn (eg_at hT 3 7 rfl rfl) (hK _ (by omega) (by omega))
    · refine ej_plain hmn (eg_at hT 1 13 rfl rfl) (pc' := 57) (ls' := [some (.inr (.inr (.inl (some 345)))), some (.inl (i)), none]) (st' := [.inr (.inr (.inl (some 345)))]) (fun _ _ => rfl) ?_
      refine ej_plain hmn (eg_at hT 1 14 rfl rfl) (pc' := 58) (ls' := [some (.inr (.inr (.inl (some 345)))), some (.inl (i)), none]) (st' := [.inl (i), .inr (.inr (.inl (some 345)))]) (fun _ _ => rfl) ?_
      refine ej_call hmn (eg_at hT 1 15 rfl rfl) (pc' := 61) (r := []) (ey_invIT (ect_tellsItem_k hmn) (as' := [.inr (.inr (.inl (some 345))), .inl (i)]) (ey_lr (ey_li (show (0 : Int) ≤ i by omega) (show i ≤ (299 : Int) by omega) ey_l0))) (show 3 + 1 ≤ d by omega) (fun _ _ => rfl) (fun v hp' hP => ?_)
      obtain ⟨ir4, rfl, rfl, ir4l, ir4h⟩ := hP
      replace ir4l : (-2147483648 : Int) ≤ ir4 := ir4l
      replace ir4h : ir4 ≤ (2147483647 : Int) := ir4h
      show em_G l D τ sa A own mname bytes 3 d (0, 0) (some .int) K (61, [some (.inr (.inr (.inl (some 345)))), some (.inl (i)), none], [.inl (ir4)], ei_hT, 0, 0)
      refine ej_plain hmn (eg_at hT 1 16 rfl rfl) (pc' := 63) (ls' := [some (.inr (.inr (.inl (some 345)))), some (.inl (i)), none]) (st' := [.inl (-100000), .inl (ir4)]) (fun _ _ => rfl) ?_
      refine ej_if_icmp hmn (eg_at hT 1 17 rfl rfl) (pc' := 66) rfl (fun _ => rfl) (fun (ic5 : -100000 < ir4) => ?_) (fun (ic5 : ¬ (-100000 < ir4)) => ?_)
      · refine ej_iinc hmn (eg_at hT 3 3 rfl rfl) (pc' := 102) rfl (w := 1) rfl (fun _ => rfl) (lsf := fun V => [some (.inr (.inr (.inl (some 345)))), some V, none]) (fun _ _ => rfl) (by decide) (by decide) (by omega) (by omega) ?_
        refine ej_plain hmn (eg_at hT 3 4 rfl rfl) (pc' := 48) (ls' := [some (.inr (.inr (.inl (some 345)))), some (.inl (i + 1)), none]) (st' := []) (fun _ _ => rfl) ?_
        exact ih _ (by omega) (by omega)
      · refine ej_plain hmn (eg_at hT 2 0 rfl rfl) (pc' := 67) (ls' := [some (.inr (.inr (.inl (some 345)))), some (.inl (i)), none]) (st' := [.inl (0)]) (fun _ _ => rfl) ?_
        refine ej_plain hmn (eg_at hT 2 1 rfl rfl) (pc' := 68) (ls' := [some (.inr (.inr (.inl (some 345)))), some (.inl (i)), some (.inl (0))]) (st' := []) (fun _ _ => rfl) ?_
        exact eq_ca_R hmn hT hd hK (by omega) 231 0 (by decide) (by decide)
theorem eq_ca_K {l : Launch} {D : va_G} {τ : Nat → ClassId} {sa : List Nat} {A : Nat → Prop} (hmn : em_mna) {own mname : String} {bytes : ByteArray} (hT : ∀ ch ∈ eu_157, ∀ x ∈ ch, ek_J em_inf et_cls et_vt own mname bytes x) {d : Nat} (hd : 4 ≤ d) {K : Option ex_V → ex_H → Bool} (hK : ∀ r : Int, -2147483648 ≤ r → r ≤ 2147483647 → K (some (.inl r)) ei_hT = true) : ∀ (j : Nat) (k : Int), 230 - k < j → (0 ≤ k ∧ k ≤ 230) → em_G l D τ sa A own mname bytes 3 d (0, 0) (some .int) K (17, [some (.inr (.inr (.inl (some 345)))), some (.inl (k)), none], [], ei_hT, 0, 0) := by
  intro j
  induction j with
  | zero => intro k hj hk; exfalso; omega
  | succ j ih =>
    intro k hj hk
    refine ej_plain hmn (eg_at hT 0 10 rfl rfl) (pc' := 18) (ls' := [some (.inr (.inr (.inl (some 345)))), some (.inl (k)), none]) (st' := [.inl (k)]) (fun _ _ => rfl) ?_
    refine ej_plain hmn (eg_at hT 0 11 rfl rfl) (pc' := 21) (ls' := [some (.inr (.inr (.inl (some 345)))), some (.inl (k)), none]) (st' := [.inl (230), .inl (k)]) (fun _ _ => rfl) ?_
    refine ej_if_icmp hmn (eg_at hT 0 12 rfl rfl) (pc' := 24) rfl (fun _ => rfl) (fun (kc1 : 230 ≤ k) => ?_) (fun (kc1 : ¬ (230 ≤ k)) => ?_)
    · refine ej_plain hmn (eg_at hT 1 5 rfl rfl) (pc' := 43) (ls' := [some (.inr (.inr (.inl (some 345)))), some (.inl (k)), none]) (st' := [.inr (.inr (.inl (some 345)))]) (fun _ _ => rfl) ?_
      refine ej_call hmn (eg_at hT 1 6 rfl rfl) (pc' := 46) (r := []) (ey_invNT (krt_begins_k hmn) (as' := [.inr (.inr (.inl (some 345)))]) (ey_lr ey_l0)) (show 0 + 1 ≤ d by omega) (fun _ _ => rfl) (fun v hp' hP => ?_)
      obtain ⟨rfl, rfl⟩ := hP
      show em_G l D τ sa A own mname bytes 3 d (0, 0) (some .int) K (46, [some (.inr (.inr (.inl (some 345)))), some (.inl (k)), none], [], ei_hT, 0, 0)
      refine ej_plain hmn (eg_at hT 1 7 rfl rfl) (pc' := 47) (ls' := [some (.inr (.inr (.inl (some 345)))), some (.inl (k)), none]) (st' := [.inl (0)]) (fun _ _ => rfl) ?_
      refine ej_plain hmn (eg_at hT 1 8 rfl rfl) (pc' := 48) (ls' := [some (.inr (.inr (.inl (some 345)))), some (.inl (0)), none]) (st' := []) (fun _ _ => rfl) ?_
      exact eq_ca_I hmn hT hd hK 302 0 (by decide) (by decide)
    · refine ej_plain hmn (eg_at hT 0 13 rfl rfl) (pc' := 25) (ls' := [some (.inr (.inr (.inl (some 345)))), some (.inl (k)), none]) (st' := [.inr (.inr (.inl (some 345)))]) (fun _ _ => rfl) ?_
      refine ej_plain hmn (eg_at hT 0 14 rfl rfl) (pc' := 28) (ls' := [some (.inr (.inr (.inl (some 345)))), some (.inl (k)), none]) (st' := [.inr (.inr (.inl (some 349)))]) (fun _ _ => rfl) ?_
      refine ej_plain hmn (eg_at hT 0 15 rfl rfl) (pc' := 29) (ls' := [some (.inr (.inr (.inl (some 345)))), some (.inl (k)), none]) (st' := [.inl (k), .inr (.inr (.inl (some 349)))]) (fun _ _ => rfl) ?_
      refine ej_plain hmn (eg_at hT 0 16 rfl rfl) (pc' := 30) (ls' := [some (.inr (.inr (.inl (some 345)))), some (.inl (k)), none]) (st' := [.inr (.inr (.inl (some 345))), .inl (k), .inr (.inr (.inl (some 349)))]) (fun _ _ => rfl) ?_
      refine ej_plain hmn (eg_at hT 0 17 rfl rfl) (pc' := 33) (ls' := [some (.inr (.inr (.inl (some 345)))), some (.inl (k)), none]) (st' := [.inr (.inr (.inl (some 346))), .inl (k), .inr (.inr (.inl (some 349)))]) (fun _ _ => rfl) ?_
      refine ej_plain hmn (eg_at hT 1 0 rfl rfl) (pc' := 34) (ls' := [some (.inr (.inr (.inl (some 345)))), some (.inl (k)), none]) (st' := [.inl (k), .inr (.inr (.inl (some 346))), .inl (k), .inr (.inr (.inl (some 349)))]) (fun _ _ => rfl) ?_
      refine ej_ialoadW hmn (eg_at hT 1 1 rfl rfl) (pc' := 35) (n := 230) (lo := (((ex_pg (ei_c17[10]!).2.2.2.1 k.toNat % 4294967296 : Nat) : Int) - 2147483648)) (hi := (((ex_pg (ei_c17[10]!).2.2.2.1 k.toNat / 4294967296 : Nat) : Int) - 2147483648)) rfl (fun _ => rfl) (by omega) (by omega) (ev_bk _) (by have := ev_bkl k.toNat (by omega); omega) (fun kv2 kv2a kv2b => ?_)
      refine ej_iastoreW hmn (eg_at hT 1 2 rfl rfl) (pc' := 36) (n := 230) (lo := (((ex_pg (ei_c17[10]!).2.2.2.1 k.toNat % 4294967296 : Nat) : Int) - 2147483648)) (hi := (((ex_pg (ei_c17[10]!).2.2.2.1 k.toNat / 4294967296 : Nat) : Int) - 2147483648)) rfl rfl (fun _ => rfl) rfl (by omega) (by omega) (ev_bk _) (by omega) (by omega) ?_
      refine ej_iinc hmn (eg_at hT 1 3 rfl rfl) (pc' := 39) rfl (w := 1) rfl (fun _ => rfl) (lsf := fun V => [some (.inr (.inr (.inl (some 345)))), some V, none]) (fun _ _ => rfl) (by decide) (by decide) (by omega) (by omega) ?_
      refine ej_plain hmn (eg_at hT 1 4 rfl rfl) (pc' := 17) (ls' := [some (.inr (.inr (.inl (some 345)))), some (.inl (k + 1)), none]) (st' := []) (fun _ _ => rfl) ?_
      exact ih _ (by omega) (by omega)
