/-! Each entry of the classes' pools that the program uses, by its numbers. Printed by wip/p1/gen16.py. -/
def ec_on (k : Nat) : String := (["WarmNight$Carriage", "WarmNight$Early", "WarmNight$Even", "WarmNight$Half", "WarmNight$Late", "WarmNight$Night", "WarmNight$Planned", "WarmNight$Search", "WarmNight$Sharing", "WarmNight$Text", "WarmNight$Turn", "WarmNight", "WarmNightModel", "java/lang/Integer", "java/lang/Math", "WarmNightLaw"] : List String).getD k ""
theorem ec_c0 : ek_cls "WarmNight$Carriage" ec_T0 20 ec_y0 := ⟨fun w hw => List.mem_filter.mpr ⟨(by decide +kernel : ∀ w ∈ u_ws "WarmNight$Carriage" ec_T0 20, w ∈ lw_tbl) w hw, (by decide +kernel : ∀ w ∈ u_ws "WarmNight$Carriage" ec_T0 20, goodWord w = true) w hw⟩, by decide +kernel, by decide +kernel⟩
theorem ec_c1 : ek_cls "WarmNight$Early" ec_T1 0 ec_y1 := ⟨fun w hw => List.mem_filter.mpr ⟨(by decide +kernel : ∀ w ∈ u_ws "WarmNight$Early" ec_T1 0, w ∈ lw_tbl) w hw, (by decide +kernel : ∀ w ∈ u_ws "WarmNight$Early" ec_T1 0, goodWord w = true) w hw⟩, by decide +kernel, by decide +kernel⟩
theorem ec_c2 : ek_cls "WarmNight$Even" ec_T2 0 ec_y2 := ⟨fun w hw => List.mem_filter.mpr ⟨(by decide +kernel : ∀ w ∈ u_ws "WarmNight$Even" ec_T2 0, w ∈ lw_tbl) w hw, (by decide +kernel : ∀ w ∈ u_ws "WarmNight$Even" ec_T2 0, goodWord w = true) w hw⟩, by decide +kernel, by decide +kernel⟩
theorem ec_c3 : ek_cls "WarmNight$Half" ec_T3 0 ec_y3 := ⟨fun w hw => List.mem_filter.mpr ⟨(by decide +kernel : ∀ w ∈ u_ws "WarmNight$Half" ec_T3 0, w ∈ lw_tbl) w hw, (by decide +kernel : ∀ w ∈ u_ws "WarmNight$Half" ec_T3 0, goodWord w = true) w hw⟩, by decide +kernel, by decide +kernel⟩
theorem ec_c4 : ek_cls "WarmNight$Late" ec_T4 0 ec_y4 := ⟨fun w hw => List.mem_filter.mpr ⟨(by decide +kernel : ∀ w ∈ u_ws "WarmNight$Late" ec_T4 0, w ∈ lw_tbl) w hw, (by decide +kernel : ∀ w ∈ u_ws "WarmNight$Late" ec_T4 0, goodWord w = true) w hw⟩, by decide +kernel, by decide +kernel⟩
theorem ec_c5 : ek_cls "WarmNight$Night" ec_T5 16 ec_y5 := ⟨fun w hw => List.mem_filter.mpr ⟨(by decide +kernel : ∀ w ∈ u_ws "WarmNight$Night" ec_T5 16, w ∈ lw_tbl) w hw, (by decide +kernel : ∀ w ∈ u_ws "WarmNight$Night" ec_T5 16, goodWord w = true) w hw⟩, by decide +kernel, by decide +kernel⟩
theorem ec_c6 : ek_cls "WarmNight$Planned" ec_T6 0 ec_y6 := ⟨fun w hw => List.mem_filter.mpr ⟨(by decide +kernel : ∀ w ∈ u_ws "WarmNight$Planned" ec_T6 0, w ∈ lw_tbl) w hw, (by decide +kernel : ∀ w ∈ u_ws "WarmNight$Planned" ec_T6 0, goodWord w = true) w hw⟩, by decide +kernel, by decide +kernel⟩
theorem ec_c7 : ek_cls "WarmNight$Search" ec_T7 7 ec_y7 := ⟨fun w hw => List.mem_filter.mpr ⟨(by decide +kernel : ∀ w ∈ u_ws "WarmNight$Search" ec_T7 7, w ∈ lw_tbl) w hw, (by decide +kernel : ∀ w ∈ u_ws "WarmNight$Search" ec_T7 7, goodWord w = true) w hw⟩, by decide +kernel, by decide +kernel⟩
theorem ec_c8 : ek_cls "WarmNight$Sharing" ec_T8 8 ec_y8 := ⟨fun w hw => List.mem_filter.mpr ⟨(by decide +kernel : ∀ w ∈ u_ws "WarmNight$Sharing" ec_T8 8, w ∈ lw_tbl) w hw, (by decide +kernel : ∀ w ∈ u_ws "WarmNight$Sharing" ec_T8 8, goodWord w = true) w hw⟩, by decide +kernel, by decide +kernel⟩
theorem ec_c9 : ek_cls "WarmNight$Text" ec_T9 6 ec_y9 := ⟨fun w hw => List.mem_filter.mpr ⟨(by decide +kernel : ∀ w ∈ u_ws "WarmNight$Text" ec_T9 6, w ∈ lw_tbl) w hw, (by decide +kernel : ∀ w ∈ u_ws "WarmNight$Text" ec_T9 6, goodWord w = true) w hw⟩, by decide +kernel, by decide +kernel⟩
theorem ec_c10 : ek_cls "WarmNight$Turn" ec_T10 0 ec_y10 := ⟨fun w hw => List.mem_filter.mpr ⟨(by decide +kernel : ∀ w ∈ u_ws "WarmNight$Turn" ec_T10 0, w ∈ lw_tbl) w hw, (by decide +kernel : ∀ w ∈ u_ws "WarmNight$Turn" ec_T10 0, goodWord w = true) w hw⟩, by decide +kernel, by decide +kernel⟩
theorem ec_c11 : ek_cls "WarmNight" ec_T11 11 ec_y11 := ⟨fun w hw => List.mem_filter.mpr ⟨(by decide +kernel : ∀ w ∈ u_ws "WarmNight" ec_T11 11, w ∈ lw_tbl) w hw, (by decide +kernel : ∀ w ∈ u_ws "WarmNight" ec_T11 11, goodWord w = true) w hw⟩, by decide +kernel, by decide +kernel⟩
theorem ec_c12 : ek_cls "WarmNightModel" ec_T12 33 ec_y12 := ⟨fun w hw => List.mem_filter.mpr ⟨(by decide +kernel : ∀ w ∈ u_ws "WarmNightModel" ec_T12 33, w ∈ lw_tbl) w hw, (by decide +kernel : ∀ w ∈ u_ws "WarmNightModel" ec_T12 33, goodWord w = true) w hw⟩, by decide +kernel, by decide +kernel⟩
theorem ec_d0 : ∀ fs, et_cls[0]? = some fs → fs.length = 20 ∧ ∀ (j : Nat) (v : ex_V), fs[j]? = some v → ∀ ρ : ex_R, er_V ρ v (defaultValue (ec_y0 j)) := by
  intro fs h
  cases h
  refine ⟨rfl, fun j v hv ρ => ?_⟩
  have hj : j < 20 := (List.getElem?_eq_some_iff.mp hv).1
  match j, hj, hv with
  | 0, _, hv => cases hv; exact rfl
  | 1, _, hv => cases hv; exact rfl
  | 2, _, hv => cases hv; exact rfl
  | 3, _, hv => cases hv; exact rfl
  | 4, _, hv => cases hv; exact rfl
  | 5, _, hv => cases hv; exact rfl
  | 6, _, hv => cases hv; exact rfl
  | 7, _, hv => cases hv; exact rfl
  | 8, _, hv => cases hv; exact rfl
  | 9, _, hv => cases hv; exact rfl
  | 10, _, hv => cases hv; exact rfl
  | 11, _, hv => cases hv; exact rfl
  | 12, _, hv => cases hv; exact rfl
  | 13, _, hv => cases hv; exact rfl
  | 14, _, hv => cases hv; exact ⟨0, rfl, rfl⟩
  | 15, _, hv => cases hv; exact ⟨0, rfl, rfl⟩
  | 16, _, hv => cases hv; exact ⟨0, rfl, rfl⟩
  | 17, _, hv => cases hv; exact ⟨0, rfl, rfl⟩
  | 18, _, hv => cases hv; exact ⟨0, rfl, rfl⟩
  | 19, _, hv => cases hv; exact ⟨0, rfl, rfl⟩
theorem ec_d1 : ∀ fs, et_cls[1]? = some fs → fs.length = 0 ∧ ∀ (j : Nat) (v : ex_V), fs[j]? = some v → ∀ ρ : ex_R, er_V ρ v (defaultValue (ec_y1 j)) := by
  intro fs h
  cases h
  exact ⟨rfl, fun j v hv => by simp at hv⟩
theorem ec_d2 : ∀ fs, et_cls[2]? = some fs → fs.length = 0 ∧ ∀ (j : Nat) (v : ex_V), fs[j]? = some v → ∀ ρ : ex_R, er_V ρ v (defaultValue (ec_y2 j)) := by
  intro fs h
  cases h
  exact ⟨rfl, fun j v hv => by simp at hv⟩
theorem ec_d3 : ∀ fs, et_cls[3]? = some fs → fs.length = 0 ∧ ∀ (j : Nat) (v : ex_V), fs[j]? = some v → ∀ ρ : ex_R, er_V ρ v (defaultValue (ec_y3 j)) := by
  intro fs h
  cases h
  exact ⟨rfl, fun j v hv => by simp at hv⟩
theorem ec_d4 : ∀ fs, et_cls[4]? = some fs → fs.length = 0 ∧ ∀ (j : Nat) (v : ex_V), fs[j]? = some v → ∀ ρ : ex_R, er_V ρ v (defaultValue (ec_y4 j)) := by
  intro fs h
  cases h
  exact ⟨rfl, fun j v hv => by simp at hv⟩
theorem ec_d5 : ∀ fs, et_cls[5]? = some fs → fs.length = 16 ∧ ∀ (j : Nat) (v : ex_V), fs[j]? = some v → ∀ ρ : ex_R, er_V ρ v (defaultValue (ec_y5 j)) := by
  intro fs h
  cases h
  refine ⟨rfl, fun j v hv ρ => ?_⟩
  have hj : j < 16 := (List.getElem?_eq_some_iff.mp hv).1
  match j, hj, hv with
  | 0, _, hv => cases hv; exact rfl
  | 1, _, hv => cases hv; exact rfl
  | 2, _, hv => cases hv; exact rfl
  | 3, _, hv => cases hv; exact rfl
  | 4, _, hv => cases hv; exact rfl
  | 5, _, hv => cases hv; exact rfl
  | 6, _, hv => cases hv; exact rfl
  | 7, _, hv => cases hv; exact rfl
  | 8, _, hv => cases hv; exact rfl
  | 9, _, hv => cases hv; exact rfl
  | 10, _, hv => cases hv; exact rfl
  | 11, _, hv => cases hv; exact rfl
  | 12, _, hv => cases hv; exact rfl
  | 13, _, hv => cases hv; exact rfl
  | 14, _, hv => cases hv; exact rfl
  | 15, _, hv => cases hv; exact ⟨0, rfl, rfl⟩
theorem ec_d6 : ∀ fs, et_cls[6]? = some fs → fs.length = 0 ∧ ∀ (j : Nat) (v : ex_V), fs[j]? = some v → ∀ ρ : ex_R, er_V ρ v (defaultValue (ec_y6 j)) := by
  intro fs h
  cases h
  exact ⟨rfl, fun j v hv => by simp at hv⟩
theorem ec_d7 : ∀ fs, et_cls[7]? = some fs → fs.length = 7 ∧ ∀ (j : Nat) (v : ex_V), fs[j]? = some v → ∀ ρ : ex_R, er_V ρ v (defaultValue (ec_y7 j)) := by
  intro fs h
  cases h
  refine ⟨rfl, fun j v hv ρ => ?_⟩
  have hj : j < 7 := (List.getElem?_eq_some_iff.mp hv).1
  match j, hj, hv with
  | 0, _, hv => cases hv; exact rfl
  | 1, _, hv => cases hv; exact rfl
  | 2, _, hv => cases hv; exact rfl
  | 3, _, hv => cases hv; exact rfl
  | 4, _, hv => cases hv; exact ⟨0, rfl, rfl⟩
  | 5, _, hv => cases hv; exact ⟨0, rfl, rfl⟩
  | 6, _, hv => cases hv; exact ⟨0, rfl, rfl⟩
theorem ec_d8 : ∀ fs, et_cls[8]? = some fs → fs.length = 8 ∧ ∀ (j : Nat) (v : ex_V), fs[j]? = some v → ∀ ρ : ex_R, er_V ρ v (defaultValue (ec_y8 j)) := by
  intro fs h
  cases h
  refine ⟨rfl, fun j v hv ρ => ?_⟩
  have hj : j < 8 := (List.getElem?_eq_some_iff.mp hv).1
  match j, hj, hv with
  | 0, _, hv => cases hv; exact rfl
  | 1, _, hv => cases hv; exact rfl
  | 2, _, hv => cases hv; exact rfl
  | 3, _, hv => cases hv; exact rfl
  | 4, _, hv => cases hv; exact rfl
  | 5, _, hv => cases hv; exact ⟨0, rfl, rfl⟩
  | 6, _, hv => cases hv; exact rfl
  | 7, _, hv => cases hv; exact rfl
theorem ec_d9 : ∀ fs, et_cls[9]? = some fs → fs.length = 6 ∧ ∀ (j : Nat) (v : ex_V), fs[j]? = some v → ∀ ρ : ex_R, er_V ρ v (defaultValue (ec_y9 j)) := by
  intro fs h
  cases h
  refine ⟨rfl, fun j v hv ρ => ?_⟩
  have hj : j < 6 := (List.getElem?_eq_some_iff.mp hv).1
  match j, hj, hv with
  | 0, _, hv => cases hv; exact rfl
  | 1, _, hv => cases hv; exact ⟨0, rfl, rfl⟩
  | 2, _, hv => cases hv; exact rfl
  | 3, _, hv => cases hv; exact rfl
  | 4, _, hv => cases hv; exact ⟨0, rfl, rfl⟩
  | 5, _, hv => cases hv; exact ⟨0, rfl, rfl⟩
theorem ec_d10 : ∀ fs, et_cls[10]? = some fs → fs.length = 0 ∧ ∀ (j : Nat) (v : ex_V), fs[j]? = some v → ∀ ρ : ex_R, er_V ρ v (defaultValue (ec_y10 j)) := by
  intro fs h
  cases h
  exact ⟨rfl, fun j v hv => by simp at hv⟩
theorem ec_d11 : ∀ fs, et_cls[11]? = some fs → fs.length = 11 ∧ ∀ (j : Nat) (v : ex_V), fs[j]? = some v → ∀ ρ : ex_R, er_V ρ v (defaultValue (ec_y11 j)) := by
  intro fs h
  cases h
  refine ⟨rfl, fun j v hv ρ => ?_⟩
  have hj : j < 11 := (List.getElem?_eq_some_iff.mp hv).1
  match j, hj, hv with
  | 0, _, hv => cases hv; exact rfl
  | 1, _, hv => cases hv; exact rfl
  | 2, _, hv => cases hv; exact rfl
  | 3, _, hv => cases hv; exact rfl
  | 4, _, hv => cases hv; exact rfl
  | 5, _, hv => cases hv; exact rfl
  | 6, _, hv => cases hv; exact rfl
  | 7, _, hv => cases hv; exact rfl
  | 8, _, hv => cases hv; exact rfl
  | 9, _, hv => cases hv; exact ⟨0, rfl, rfl⟩
  | 10, _, hv => cases hv; exact ⟨0, rfl, rfl⟩
theorem ec_d12 : ∀ fs, et_cls[12]? = some fs → fs.length = 33 ∧ ∀ (j : Nat) (v : ex_V), fs[j]? = some v → ∀ ρ : ex_R, er_V ρ v (defaultValue (ec_y12 j)) := by
  intro fs h
  cases h
  refine ⟨rfl, fun j v hv ρ => ?_⟩
  have hj : j < 33 := (List.getElem?_eq_some_iff.mp hv).1
  match j, hj, hv with
  | 0, _, hv => cases hv; exact rfl
  | 1, _, hv => cases hv; exact rfl
  | 2, _, hv => cases hv; exact rfl
  | 3, _, hv => cases hv; exact rfl
  | 4, _, hv => cases hv; exact ⟨0, rfl, rfl⟩
  | 5, _, hv => cases hv; exact ⟨0, rfl, rfl⟩
  | 6, _, hv => cases hv; exact rfl
  | 7, _, hv => cases hv; exact ⟨0, rfl, rfl⟩
  | 8, _, hv => cases hv; exact ⟨0, rfl, rfl⟩
  | 9, _, hv => cases hv; exact ⟨0, rfl, rfl⟩
  | 10, _, hv => cases hv; exact ⟨0, rfl, rfl⟩
  | 11, _, hv => cases hv; exact ⟨0, rfl, rfl⟩
  | 12, _, hv => cases hv; exact rfl
  | 13, _, hv => cases hv; exact rfl
  | 14, _, hv => cases hv; exact ⟨0, rfl, rfl⟩
  | 15, _, hv => cases hv; exact rfl
  | 16, _, hv => cases hv; exact rfl
  | 17, _, hv => cases hv; exact rfl
  | 18, _, hv => cases hv; exact rfl
  | 19, _, hv => cases hv; exact rfl
  | 20, _, hv => cases hv; exact ⟨0, rfl, rfl⟩
  | 21, _, hv => cases hv; exact ⟨0, rfl, rfl⟩
  | 22, _, hv => cases hv; exact ⟨0, rfl, rfl⟩
  | 23, _, hv => cases hv; exact rfl
  | 24, _, hv => cases hv; exact ⟨0, rfl, rfl⟩
  | 25, _, hv => cases hv; exact rfl
  | 26, _, hv => cases hv; exact rfl
  | 27, _, hv => cases hv; exact rfl
  | 28, _, hv => cases hv; exact rfl
  | 29, _, hv => cases hv; exact rfl
  | 30, _, hv => cases hv; exact rfl
  | 31, _, hv => cases hv; exact rfl
  | 32, _, hv => cases hv; exact rfl
def el_f : List (Nat × Nat × Nat × Nat) := [((nat_lit 0), (nat_lit 9), (nat_lit 0), (nat_lit 0)), ((nat_lit 0), (nat_lit 15), (nat_lit 0), (nat_lit 1)), ((nat_lit 0), (nat_lit 18), (nat_lit 0), (nat_lit 2)), ((nat_lit 0), (nat_lit 21), (nat_lit 0), (nat_lit 3)), ((nat_lit 0), (nat_lit 24), (nat_lit 0), (nat_lit 4)), ((nat_lit 0), (nat_lit 27), (nat_lit 0), (nat_lit 5)), ((nat_lit 0), (nat_lit 30), (nat_lit 0), (nat_lit 6)), ((nat_lit 0), (nat_lit 33), (nat_lit 0), (nat_lit 7)), ((nat_lit 0), (nat_lit 36), (nat_lit 0), (nat_lit 8)), ((nat_lit 0), (nat_lit 39), (nat_lit 0), (nat_lit 9)), ((nat_lit 0), (nat_lit 42), (nat_lit 0), (nat_lit 10)), ((nat_lit 0), (nat_lit 45), (nat_lit 0), (nat_lit 11)), ((nat_lit 0), (nat_lit 48), (nat_lit 0), (nat_lit 12)), ((nat_lit 0), (nat_lit 53), (nat_lit 0), (nat_lit 13)), ((nat_lit 0), (nat_lit 68), (nat_lit 0), (nat_lit 14)), ((nat_lit 0), (nat_lit 72), (nat_lit 0), (nat_lit 15)), ((nat_lit 0), (nat_lit 75), (nat_lit 0), (nat_lit 16)), ((nat_lit 0), (nat_lit 78), (nat_lit 0), (nat_lit 17)), ((nat_lit 0), (nat_lit 81), (nat_lit 0), (nat_lit 18)), ((nat_lit 2), (nat_lit 13), (nat_lit 0), (nat_lit 16)), ((nat_lit 3), (nat_lit 9), (nat_lit 0), (nat_lit 0)), ((nat_lit 5), (nat_lit 56), (nat_lit 5), (nat_lit 0)), ((nat_lit 5), (nat_lit 16), (nat_lit 5), (nat_lit 2)), ((nat_lit 5), (nat_lit 11), (nat_lit 5), (nat_lit 1)), ((nat_lit 5), (nat_lit 87), (nat_lit 0), (nat_lit 1)), ((nat_lit 5), (nat_lit 47), (nat_lit 5), (nat_lit 12)), ((nat_lit 5), (nat_lit 93), (nat_lit 0), (nat_lit 4)), ((nat_lit 5), (nat_lit 94), (nat_lit 0), (nat_lit 0)), ((nat_lit 5), (nat_lit 23), (nat_lit 5), (nat_lit 4)), ((nat_lit 5), (nat_lit 20), (nat_lit 5), (nat_lit 3)), ((nat_lit 5), (nat_lit 97), (nat_lit 0), (nat_lit 14)), ((nat_lit 5), (nat_lit 29), (nat_lit 5), (nat_lit 6)), ((nat_lit 5), (nat_lit 32), (nat_lit 5), (nat_lit 7)), ((nat_lit 5), (nat_lit 35), (nat_lit 5), (nat_lit 8)), ((nat_lit 5), (nat_lit 53), (nat_lit 5), (nat_lit 14)), ((nat_lit 5), (nat_lit 101), (nat_lit 0), (nat_lit 10)), ((nat_lit 5), (nat_lit 104), (nat_lit 0), (nat_lit 12)), ((nat_lit 5), (nat_lit 41), (nat_lit 5), (nat_lit 10)), ((nat_lit 5), (nat_lit 44), (nat_lit 5), (nat_lit 11)), ((nat_lit 5), (nat_lit 119), (nat_lit 0), (nat_lit 8)), ((nat_lit 5), (nat_lit 38), (nat_lit 5), (nat_lit 9)), ((nat_lit 5), (nat_lit 133), (nat_lit 0), (nat_lit 9)), ((nat_lit 5), (nat_lit 26), (nat_lit 5), (nat_lit 5)), ((nat_lit 5), (nat_lit 80), (nat_lit 5), (nat_lit 15)), ((nat_lit 5), (nat_lit 50), (nat_lit 5), (nat_lit 13)), ((nat_lit 5), (nat_lit 149), (nat_lit 0), (nat_lit 5)), ((nat_lit 5), (nat_lit 160), (nat_lit 0), (nat_lit 11)), ((nat_lit 6), (nat_lit 7), (nat_lit 0), (nat_lit 7)), ((nat_lit 7), (nat_lit 18), (nat_lit 7), (nat_lit 0)), ((nat_lit 7), (nat_lit 26), (nat_lit 0), (nat_lit 19)), ((nat_lit 7), (nat_lit 22), (nat_lit 7), (nat_lit 1)), ((nat_lit 7), (nat_lit 42), (nat_lit 0), (nat_lit 17)), ((nat_lit 7), (nat_lit 45), (nat_lit 0), (nat_lit 18)), ((nat_lit 7), (nat_lit 15), (nat_lit 7), (nat_lit 3)), ((nat_lit 7), (nat_lit 62), (nat_lit 5), (nat_lit 4)), ((nat_lit 7), (nat_lit 65), (nat_lit 5), (nat_lit 3)), ((nat_lit 7), (nat_lit 9), (nat_lit 7), (nat_lit 2)), ((nat_lit 7), (nat_lit 81), (nat_lit 5), (nat_lit 2)), ((nat_lit 7), (nat_lit 32), (nat_lit 7), (nat_lit 4)), ((nat_lit 7), (nat_lit 36), (nat_lit 7), (nat_lit 6)), ((nat_lit 7), (nat_lit 39), (nat_lit 7), (nat_lit 5)), ((nat_lit 8), (nat_lit 29), (nat_lit 8), (nat_lit 0)), ((nat_lit 8), (nat_lit 15), (nat_lit 8), (nat_lit 3)), ((nat_lit 8), (nat_lit 43), (nat_lit 0), (nat_lit 3)), ((nat_lit 8), (nat_lit 9), (nat_lit 8), (nat_lit 2)), ((nat_lit 8), (nat_lit 33), (nat_lit 8), (nat_lit 1)), ((nat_lit 8), (nat_lit 50), (nat_lit 5), (nat_lit 1)), ((nat_lit 8), (nat_lit 68), (nat_lit 0), (nat_lit 14)), ((nat_lit 8), (nat_lit 18), (nat_lit 8), (nat_lit 4)), ((nat_lit 8), (nat_lit 76), (nat_lit 5), (nat_lit 14)), ((nat_lit 8), (nat_lit 64), (nat_lit 8), (nat_lit 5)), ((nat_lit 8), (nat_lit 89), (nat_lit 0), (nat_lit 18)), ((nat_lit 8), (nat_lit 96), (nat_lit 5), (nat_lit 8)), ((nat_lit 8), (nat_lit 23), (nat_lit 8), (nat_lit 6)), ((nat_lit 8), (nat_lit 103), (nat_lit 5), (nat_lit 7)), ((nat_lit 8), (nat_lit 26), (nat_lit 8), (nat_lit 7)), ((nat_lit 9), (nat_lit 28), (nat_lit 9), (nat_lit 1)), ((nat_lit 9), (nat_lit 9), (nat_lit 9), (nat_lit 0)), ((nat_lit 9), (nat_lit 41), (nat_lit 9), (nat_lit 4)), ((nat_lit 9), (nat_lit 35), (nat_lit 9), (nat_lit 5)), ((nat_lit 9), (nat_lit 15), (nat_lit 9), (nat_lit 2)), ((nat_lit 9), (nat_lit 20), (nat_lit 9), (nat_lit 3)), ((nat_lit 11), (nat_lit 12), (nat_lit 11), (nat_lit 0)), ((nat_lit 11), (nat_lit 45), (nat_lit 11), (nat_lit 6)), ((nat_lit 11), (nat_lit 19), (nat_lit 11), (nat_lit 2)), ((nat_lit 11), (nat_lit 36), (nat_lit 11), (nat_lit 5)), ((nat_lit 11), (nat_lit 30), (nat_lit 11), (nat_lit 4)), ((nat_lit 11), (nat_lit 16), (nat_lit 11), (nat_lit 1)), ((nat_lit 11), (nat_lit 140), (nat_lit 9), (nat_lit 4)), ((nat_lit 11), (nat_lit 167), (nat_lit 5), (nat_lit 1)), ((nat_lit 11), (nat_lit 177), (nat_lit 0), (nat_lit 10)), ((nat_lit 11), (nat_lit 185), (nat_lit 5), (nat_lit 5)), ((nat_lit 11), (nat_lit 188), (nat_lit 5), (nat_lit 2)), ((nat_lit 11), (nat_lit 54), (nat_lit 11), (nat_lit 7)), ((nat_lit 11), (nat_lit 211), (nat_lit 7), (nat_lit 6)), ((nat_lit 11), (nat_lit 221), (nat_lit 0), (nat_lit 14)), ((nat_lit 11), (nat_lit 61), (nat_lit 11), (nat_lit 8)), ((nat_lit 11), (nat_lit 227), (nat_lit 8), (nat_lit 5)), ((nat_lit 11), (nat_lit 230), (nat_lit 8), (nat_lit 4)), ((nat_lit 11), (nat_lit 65), (nat_lit 11), (nat_lit 9)), ((nat_lit 11), (nat_lit 69), (nat_lit 11), (nat_lit 10)), ((nat_lit 11), (nat_lit 23), (nat_lit 11), (nat_lit 3)), ((nat_lit 11), (nat_lit 254), (nat_lit 0), (nat_lit 17)), ((nat_lit 11), (nat_lit 262), (nat_lit 0), (nat_lit 15)), ((nat_lit 11), (nat_lit 265), (nat_lit 9), (nat_lit 1)), ((nat_lit 11), (nat_lit 289), (nat_lit 0), (nat_lit 18)), ((nat_lit 12), (nat_lit 7), (nat_lit 12), (nat_lit 0)), ((nat_lit 12), (nat_lit 150), (nat_lit 12), (nat_lit 7)), ((nat_lit 12), (nat_lit 23), (nat_lit 12), (nat_lit 6)), ((nat_lit 12), (nat_lit 156), (nat_lit 12), (nat_lit 8)), ((nat_lit 12), (nat_lit 183), (nat_lit 12), (nat_lit 9)), ((nat_lit 12), (nat_lit 197), (nat_lit 12), (nat_lit 11)), ((nat_lit 12), (nat_lit 186), (nat_lit 12), (nat_lit 10)), ((nat_lit 12), (nat_lit 29), (nat_lit 12), (nat_lit 13)), ((nat_lit 12), (nat_lit 202), (nat_lit 12), (nat_lit 14)), ((nat_lit 12), (nat_lit 26), (nat_lit 12), (nat_lit 12)), ((nat_lit 12), (nat_lit 20), (nat_lit 12), (nat_lit 3)), ((nat_lit 12), (nat_lit 41), (nat_lit 12), (nat_lit 18)), ((nat_lit 12), (nat_lit 35), (nat_lit 12), (nat_lit 16)), ((nat_lit 12), (nat_lit 38), (nat_lit 12), (nat_lit 17)), ((nat_lit 12), (nat_lit 44), (nat_lit 12), (nat_lit 19)), ((nat_lit 12), (nat_lit 32), (nat_lit 12), (nat_lit 15)), ((nat_lit 12), (nat_lit 274), (nat_lit 12), (nat_lit 20)), ((nat_lit 12), (nat_lit 277), (nat_lit 12), (nat_lit 21)), ((nat_lit 12), (nat_lit 280), (nat_lit 12), (nat_lit 22)), ((nat_lit 12), (nat_lit 50), (nat_lit 12), (nat_lit 25)), ((nat_lit 12), (nat_lit 309), (nat_lit 12), (nat_lit 24)), ((nat_lit 12), (nat_lit 47), (nat_lit 12), (nat_lit 23)), ((nat_lit 12), (nat_lit 53), (nat_lit 12), (nat_lit 26)), ((nat_lit 12), (nat_lit 56), (nat_lit 12), (nat_lit 27)), ((nat_lit 12), (nat_lit 65), (nat_lit 12), (nat_lit 30)), ((nat_lit 12), (nat_lit 68), (nat_lit 12), (nat_lit 31)), ((nat_lit 12), (nat_lit 62), (nat_lit 12), (nat_lit 29)), ((nat_lit 12), (nat_lit 59), (nat_lit 12), (nat_lit 28)), ((nat_lit 12), (nat_lit 71), (nat_lit 12), (nat_lit 32)), ((nat_lit 12), (nat_lit 85), (nat_lit 12), (nat_lit 4)), ((nat_lit 12), (nat_lit 77), (nat_lit 12), (nat_lit 5)), ((nat_lit 12), (nat_lit 13), (nat_lit 12), (nat_lit 1)), ((nat_lit 12), (nat_lit 16), (nat_lit 12), (nat_lit 2))]
theorem el_f_0 : (fun e : Nat × Nat × Nat × Nat => ∃ (T : u_T) (ty : Nat → FieldType), ek_F (ec_on e.1) e.2.1 e.2.2.1 e.2.2.2 T ty) ((nat_lit 0), (nat_lit 9), (nat_lit 0), (nat_lit 0)) := ⟨ec_T0, ec_y0, "WarmNight$Carriage", 20, rfl, by decide, ew_875, ec_c0⟩
theorem el_f_1 : (fun e : Nat × Nat × Nat × Nat => ∃ (T : u_T) (ty : Nat → FieldType), ek_F (ec_on e.1) e.2.1 e.2.2.1 e.2.2.2 T ty) ((nat_lit 0), (nat_lit 15), (nat_lit 0), (nat_lit 1)) := ⟨ec_T0, ec_y0, "WarmNight$Carriage", 20, rfl, by decide, ew_876, ec_c0⟩
theorem el_f_2 : (fun e : Nat × Nat × Nat × Nat => ∃ (T : u_T) (ty : Nat → FieldType), ek_F (ec_on e.1) e.2.1 e.2.2.1 e.2.2.2 T ty) ((nat_lit 0), (nat_lit 18), (nat_lit 0), (nat_lit 2)) := ⟨ec_T0, ec_y0, "WarmNight$Carriage", 20, rfl, by decide, ew_877, ec_c0⟩
theorem el_f_3 : (fun e : Nat × Nat × Nat × Nat => ∃ (T : u_T) (ty : Nat → FieldType), ek_F (ec_on e.1) e.2.1 e.2.2.1 e.2.2.2 T ty) ((nat_lit 0), (nat_lit 21), (nat_lit 0), (nat_lit 3)) := ⟨ec_T0, ec_y0, "WarmNight$Carriage", 20, rfl, by decide, ew_878, ec_c0⟩
theorem el_f_4 : (fun e : Nat × Nat × Nat × Nat => ∃ (T : u_T) (ty : Nat → FieldType), ek_F (ec_on e.1) e.2.1 e.2.2.1 e.2.2.2 T ty) ((nat_lit 0), (nat_lit 24), (nat_lit 0), (nat_lit 4)) := ⟨ec_T0, ec_y0, "WarmNight$Carriage", 20, rfl, by decide, ew_879, ec_c0⟩
theorem el_f_5 : (fun e : Nat × Nat × Nat × Nat => ∃ (T : u_T) (ty : Nat → FieldType), ek_F (ec_on e.1) e.2.1 e.2.2.1 e.2.2.2 T ty) ((nat_lit 0), (nat_lit 27), (nat_lit 0), (nat_lit 5)) := ⟨ec_T0, ec_y0, "WarmNight$Carriage", 20, rfl, by decide, ew_880, ec_c0⟩
theorem el_f_6 : (fun e : Nat × Nat × Nat × Nat => ∃ (T : u_T) (ty : Nat → FieldType), ek_F (ec_on e.1) e.2.1 e.2.2.1 e.2.2.2 T ty) ((nat_lit 0), (nat_lit 30), (nat_lit 0), (nat_lit 6)) := ⟨ec_T0, ec_y0, "WarmNight$Carriage", 20, rfl, by decide, ew_881, ec_c0⟩
theorem el_f_7 : (fun e : Nat × Nat × Nat × Nat => ∃ (T : u_T) (ty : Nat → FieldType), ek_F (ec_on e.1) e.2.1 e.2.2.1 e.2.2.2 T ty) ((nat_lit 0), (nat_lit 33), (nat_lit 0), (nat_lit 7)) := ⟨ec_T0, ec_y0, "WarmNight$Carriage", 20, rfl, by decide, ew_882, ec_c0⟩
theorem el_f_8 : (fun e : Nat × Nat × Nat × Nat => ∃ (T : u_T) (ty : Nat → FieldType), ek_F (ec_on e.1) e.2.1 e.2.2.1 e.2.2.2 T ty) ((nat_lit 0), (nat_lit 36), (nat_lit 0), (nat_lit 8)) := ⟨ec_T0, ec_y0, "WarmNight$Carriage", 20, rfl, by decide, ew_883, ec_c0⟩
theorem el_f_9 : (fun e : Nat × Nat × Nat × Nat => ∃ (T : u_T) (ty : Nat → FieldType), ek_F (ec_on e.1) e.2.1 e.2.2.1 e.2.2.2 T ty) ((nat_lit 0), (nat_lit 39), (nat_lit 0), (nat_lit 9)) := ⟨ec_T0, ec_y0, "WarmNight$Carriage", 20, rfl, by decide, ew_884, ec_c0⟩
theorem el_f_10 : (fun e : Nat × Nat × Nat × Nat => ∃ (T : u_T) (ty : Nat → FieldType), ek_F (ec_on e.1) e.2.1 e.2.2.1 e.2.2.2 T ty) ((nat_lit 0), (nat_lit 42), (nat_lit 0), (nat_lit 10)) := ⟨ec_T0, ec_y0, "WarmNight$Carriage", 20, rfl, by decide, ew_885, ec_c0⟩
theorem el_f_11 : (fun e : Nat × Nat × Nat × Nat => ∃ (T : u_T) (ty : Nat → FieldType), ek_F (ec_on e.1) e.2.1 e.2.2.1 e.2.2.2 T ty) ((nat_lit 0), (nat_lit 45), (nat_lit 0), (nat_lit 11)) := ⟨ec_T0, ec_y0, "WarmNight$Carriage", 20, rfl, by decide, ew_886, ec_c0⟩
theorem el_f_12 : (fun e : Nat × Nat × Nat × Nat => ∃ (T : u_T) (ty : Nat → FieldType), ek_F (ec_on e.1) e.2.1 e.2.2.1 e.2.2.2 T ty) ((nat_lit 0), (nat_lit 48), (nat_lit 0), (nat_lit 12)) := ⟨ec_T0, ec_y0, "WarmNight$Carriage", 20, rfl, by decide, ew_887, ec_c0⟩
theorem el_f_13 : (fun e : Nat × Nat × Nat × Nat => ∃ (T : u_T) (ty : Nat → FieldType), ek_F (ec_on e.1) e.2.1 e.2.2.1 e.2.2.2 T ty) ((nat_lit 0), (nat_lit 53), (nat_lit 0), (nat_lit 13)) := ⟨ec_T0, ec_y0, "WarmNight$Carriage", 20, rfl, by decide, ew_889, ec_c0⟩
theorem el_f_14 : (fun e : Nat × Nat × Nat × Nat => ∃ (T : u_T) (ty : Nat → FieldType), ek_F (ec_on e.1) e.2.1 e.2.2.1 e.2.2.2 T ty) ((nat_lit 0), (nat_lit 68), (nat_lit 0), (nat_lit 14)) := ⟨ec_T0, ec_y0, "WarmNight$Carriage", 20, rfl, by decide, ew_892, ec_c0⟩
theorem el_f_15 : (fun e : Nat × Nat × Nat × Nat => ∃ (T : u_T) (ty : Nat → FieldType), ek_F (ec_on e.1) e.2.1 e.2.2.1 e.2.2.2 T ty) ((nat_lit 0), (nat_lit 72), (nat_lit 0), (nat_lit 15)) := ⟨ec_T0, ec_y0, "WarmNight$Carriage", 20, rfl, by decide, ew_893, ec_c0⟩
theorem el_f_16 : (fun e : Nat × Nat × Nat × Nat => ∃ (T : u_T) (ty : Nat → FieldType), ek_F (ec_on e.1) e.2.1 e.2.2.1 e.2.2.2 T ty) ((nat_lit 0), (nat_lit 75), (nat_lit 0), (nat_lit 16)) := ⟨ec_T0, ec_y0, "WarmNight$Carriage", 20, rfl, by decide, ew_894, ec_c0⟩
theorem el_f_17 : (fun e : Nat × Nat × Nat × Nat => ∃ (T : u_T) (ty : Nat → FieldType), ek_F (ec_on e.1) e.2.1 e.2.2.1 e.2.2.2 T ty) ((nat_lit 0), (nat_lit 78), (nat_lit 0), (nat_lit 17)) := ⟨ec_T0, ec_y0, "WarmNight$Carriage", 20, rfl, by decide, ew_895, ec_c0⟩
theorem el_f_18 : (fun e : Nat × Nat × Nat × Nat => ∃ (T : u_T) (ty : Nat → FieldType), ek_F (ec_on e.1) e.2.1 e.2.2.1 e.2.2.2 T ty) ((nat_lit 0), (nat_lit 81), (nat_lit 0), (nat_lit 18)) := ⟨ec_T0, ec_y0, "WarmNight$Carriage", 20, rfl, by decide, ew_896, ec_c0⟩
theorem el_f_19 : (fun e : Nat × Nat × Nat × Nat => ∃ (T : u_T) (ty : Nat → FieldType), ek_F (ec_on e.1) e.2.1 e.2.2.1 e.2.2.2 T ty) ((nat_lit 2), (nat_lit 13), (nat_lit 0), (nat_lit 16)) := ⟨ec_T0, ec_y0, "WarmNight$Carriage", 20, rfl, by decide, ew_904, ec_c0⟩
theorem el_f_20 : (fun e : Nat × Nat × Nat × Nat => ∃ (T : u_T) (ty : Nat → FieldType), ek_F (ec_on e.1) e.2.1 e.2.2.1 e.2.2.2 T ty) ((nat_lit 3), (nat_lit 9), (nat_lit 0), (nat_lit 0)) := ⟨ec_T0, ec_y0, "WarmNight$Carriage", 20, rfl, by decide, ew_905, ec_c0⟩
theorem el_f_21 : (fun e : Nat × Nat × Nat × Nat => ∃ (T : u_T) (ty : Nat → FieldType), ek_F (ec_on e.1) e.2.1 e.2.2.1 e.2.2.2 T ty) ((nat_lit 5), (nat_lit 56), (nat_lit 5), (nat_lit 0)) := ⟨ec_T5, ec_y5, "WarmNight$Night", 16, rfl, by decide, ew_922, ec_c5⟩
theorem el_f_22 : (fun e : Nat × Nat × Nat × Nat => ∃ (T : u_T) (ty : Nat → FieldType), ek_F (ec_on e.1) e.2.1 e.2.2.1 e.2.2.2 T ty) ((nat_lit 5), (nat_lit 16), (nat_lit 5), (nat_lit 2)) := ⟨ec_T5, ec_y5, "WarmNight$Night", 16, rfl, by decide, ew_909, ec_c5⟩
theorem el_f_23 : (fun e : Nat × Nat × Nat × Nat => ∃ (T : u_T) (ty : Nat → FieldType), ek_F (ec_on e.1) e.2.1 e.2.2.1 e.2.2.2 T ty) ((nat_lit 5), (nat_lit 11), (nat_lit 5), (nat_lit 1)) := ⟨ec_T5, ec_y5, "WarmNight$Night", 16, rfl, by decide, ew_908, ec_c5⟩
theorem el_f_24 : (fun e : Nat × Nat × Nat × Nat => ∃ (T : u_T) (ty : Nat → FieldType), ek_F (ec_on e.1) e.2.1 e.2.2.1 e.2.2.2 T ty) ((nat_lit 5), (nat_lit 87), (nat_lit 0), (nat_lit 1)) := ⟨ec_T0, ec_y0, "WarmNight$Carriage", 20, rfl, by decide, ew_924, ec_c0⟩
theorem el_f_25 : (fun e : Nat × Nat × Nat × Nat => ∃ (T : u_T) (ty : Nat → FieldType), ek_F (ec_on e.1) e.2.1 e.2.2.1 e.2.2.2 T ty) ((nat_lit 5), (nat_lit 47), (nat_lit 5), (nat_lit 12)) := ⟨ec_T5, ec_y5, "WarmNight$Night", 16, rfl, by decide, ew_919, ec_c5⟩
theorem el_f_26 : (fun e : Nat × Nat × Nat × Nat => ∃ (T : u_T) (ty : Nat → FieldType), ek_F (ec_on e.1) e.2.1 e.2.2.1 e.2.2.2 T ty) ((nat_lit 5), (nat_lit 93), (nat_lit 0), (nat_lit 4)) := ⟨ec_T0, ec_y0, "WarmNight$Carriage", 20, rfl, by decide, ew_925, ec_c0⟩
theorem el_f_27 : (fun e : Nat × Nat × Nat × Nat => ∃ (T : u_T) (ty : Nat → FieldType), ek_F (ec_on e.1) e.2.1 e.2.2.1 e.2.2.2 T ty) ((nat_lit 5), (nat_lit 94), (nat_lit 0), (nat_lit 0)) := ⟨ec_T0, ec_y0, "WarmNight$Carriage", 20, rfl, by decide, ew_926, ec_c0⟩
theorem el_f_28 : (fun e : Nat × Nat × Nat × Nat => ∃ (T : u_T) (ty : Nat → FieldType), ek_F (ec_on e.1) e.2.1 e.2.2.1 e.2.2.2 T ty) ((nat_lit 5), (nat_lit 23), (nat_lit 5), (nat_lit 4)) := ⟨ec_T5, ec_y5, "WarmNight$Night", 16, rfl, by decide, ew_911, ec_c5⟩
theorem el_f_29 : (fun e : Nat × Nat × Nat × Nat => ∃ (T : u_T) (ty : Nat → FieldType), ek_F (ec_on e.1) e.2.1 e.2.2.1 e.2.2.2 T ty) ((nat_lit 5), (nat_lit 20), (nat_lit 5), (nat_lit 3)) := ⟨ec_T5, ec_y5, "WarmNight$Night", 16, rfl, by decide, ew_910, ec_c5⟩
theorem el_f_30 : (fun e : Nat × Nat × Nat × Nat => ∃ (T : u_T) (ty : Nat → FieldType), ek_F (ec_on e.1) e.2.1 e.2.2.1 e.2.2.2 T ty) ((nat_lit 5), (nat_lit 97), (nat_lit 0), (nat_lit 14)) := ⟨ec_T0, ec_y0, "WarmNight$Carriage", 20, rfl, by decide, ew_927, ec_c0⟩
theorem el_f_31 : (fun e : Nat × Nat × Nat × Nat => ∃ (T : u_T) (ty : Nat → FieldType), ek_F (ec_on e.1) e.2.1 e.2.2.1 e.2.2.2 T ty) ((nat_lit 5), (nat_lit 29), (nat_lit 5), (nat_lit 6)) := ⟨ec_T5, ec_y5, "WarmNight$Night", 16, rfl, by decide, ew_913, ec_c5⟩
theorem el_f_32 : (fun e : Nat × Nat × Nat × Nat => ∃ (T : u_T) (ty : Nat → FieldType), ek_F (ec_on e.1) e.2.1 e.2.2.1 e.2.2.2 T ty) ((nat_lit 5), (nat_lit 32), (nat_lit 5), (nat_lit 7)) := ⟨ec_T5, ec_y5, "WarmNight$Night", 16, rfl, by decide, ew_914, ec_c5⟩
theorem el_f_33 : (fun e : Nat × Nat × Nat × Nat => ∃ (T : u_T) (ty : Nat → FieldType), ek_F (ec_on e.1) e.2.1 e.2.2.1 e.2.2.2 T ty) ((nat_lit 5), (nat_lit 35), (nat_lit 5), (nat_lit 8)) := ⟨ec_T5, ec_y5, "WarmNight$Night", 16, rfl, by decide, ew_915, ec_c5⟩
theorem el_f_34 : (fun e : Nat × Nat × Nat × Nat => ∃ (T : u_T) (ty : Nat → FieldType), ek_F (ec_on e.1) e.2.1 e.2.2.1 e.2.2.2 T ty) ((nat_lit 5), (nat_lit 53), (nat_lit 5), (nat_lit 14)) := ⟨ec_T5, ec_y5, "WarmNight$Night", 16, rfl, by decide, ew_921, ec_c5⟩
theorem el_f_35 : (fun e : Nat × Nat × Nat × Nat => ∃ (T : u_T) (ty : Nat → FieldType), ek_F (ec_on e.1) e.2.1 e.2.2.1 e.2.2.2 T ty) ((nat_lit 5), (nat_lit 101), (nat_lit 0), (nat_lit 10)) := ⟨ec_T0, ec_y0, "WarmNight$Carriage", 20, rfl, by decide, ew_929, ec_c0⟩
theorem el_f_36 : (fun e : Nat × Nat × Nat × Nat => ∃ (T : u_T) (ty : Nat → FieldType), ek_F (ec_on e.1) e.2.1 e.2.2.1 e.2.2.2 T ty) ((nat_lit 5), (nat_lit 104), (nat_lit 0), (nat_lit 12)) := ⟨ec_T0, ec_y0, "WarmNight$Carriage", 20, rfl, by decide, ew_930, ec_c0⟩
theorem el_f_37 : (fun e : Nat × Nat × Nat × Nat => ∃ (T : u_T) (ty : Nat → FieldType), ek_F (ec_on e.1) e.2.1 e.2.2.1 e.2.2.2 T ty) ((nat_lit 5), (nat_lit 41), (nat_lit 5), (nat_lit 10)) := ⟨ec_T5, ec_y5, "WarmNight$Night", 16, rfl, by decide, ew_917, ec_c5⟩
theorem el_f_38 : (fun e : Nat × Nat × Nat × Nat => ∃ (T : u_T) (ty : Nat → FieldType), ek_F (ec_on e.1) e.2.1 e.2.2.1 e.2.2.2 T ty) ((nat_lit 5), (nat_lit 44), (nat_lit 5), (nat_lit 11)) := ⟨ec_T5, ec_y5, "WarmNight$Night", 16, rfl, by decide, ew_918, ec_c5⟩
theorem el_f_39 : (fun e : Nat × Nat × Nat × Nat => ∃ (T : u_T) (ty : Nat → FieldType), ek_F (ec_on e.1) e.2.1 e.2.2.1 e.2.2.2 T ty) ((nat_lit 5), (nat_lit 119), (nat_lit 0), (nat_lit 8)) := ⟨ec_T0, ec_y0, "WarmNight$Carriage", 20, rfl, by decide, ew_931, ec_c0⟩
theorem el_f_40 : (fun e : Nat × Nat × Nat × Nat => ∃ (T : u_T) (ty : Nat → FieldType), ek_F (ec_on e.1) e.2.1 e.2.2.1 e.2.2.2 T ty) ((nat_lit 5), (nat_lit 38), (nat_lit 5), (nat_lit 9)) := ⟨ec_T5, ec_y5, "WarmNight$Night", 16, rfl, by decide, ew_916, ec_c5⟩
theorem el_f_41 : (fun e : Nat × Nat × Nat × Nat => ∃ (T : u_T) (ty : Nat → FieldType), ek_F (ec_on e.1) e.2.1 e.2.2.1 e.2.2.2 T ty) ((nat_lit 5), (nat_lit 133), (nat_lit 0), (nat_lit 9)) := ⟨ec_T0, ec_y0, "WarmNight$Carriage", 20, rfl, by decide, ew_932, ec_c0⟩
theorem el_f_42 : (fun e : Nat × Nat × Nat × Nat => ∃ (T : u_T) (ty : Nat → FieldType), ek_F (ec_on e.1) e.2.1 e.2.2.1 e.2.2.2 T ty) ((nat_lit 5), (nat_lit 26), (nat_lit 5), (nat_lit 5)) := ⟨ec_T5, ec_y5, "WarmNight$Night", 16, rfl, by decide, ew_912, ec_c5⟩
theorem el_f_43 : (fun e : Nat × Nat × Nat × Nat => ∃ (T : u_T) (ty : Nat → FieldType), ek_F (ec_on e.1) e.2.1 e.2.2.1 e.2.2.2 T ty) ((nat_lit 5), (nat_lit 80), (nat_lit 5), (nat_lit 15)) := ⟨ec_T5, ec_y5, "WarmNight$Night", 16, rfl, by decide, ew_923, ec_c5⟩
theorem el_f_44 : (fun e : Nat × Nat × Nat × Nat => ∃ (T : u_T) (ty : Nat → FieldType), ek_F (ec_on e.1) e.2.1 e.2.2.1 e.2.2.2 T ty) ((nat_lit 5), (nat_lit 50), (nat_lit 5), (nat_lit 13)) := ⟨ec_T5, ec_y5, "WarmNight$Night", 16, rfl, by decide, ew_920, ec_c5⟩
theorem el_f_45 : (fun e : Nat × Nat × Nat × Nat => ∃ (T : u_T) (ty : Nat → FieldType), ek_F (ec_on e.1) e.2.1 e.2.2.1 e.2.2.2 T ty) ((nat_lit 5), (nat_lit 149), (nat_lit 0), (nat_lit 5)) := ⟨ec_T0, ec_y0, "WarmNight$Carriage", 20, rfl, by decide, ew_934, ec_c0⟩
theorem el_f_46 : (fun e : Nat × Nat × Nat × Nat => ∃ (T : u_T) (ty : Nat → FieldType), ek_F (ec_on e.1) e.2.1 e.2.2.1 e.2.2.2 T ty) ((nat_lit 5), (nat_lit 160), (nat_lit 0), (nat_lit 11)) := ⟨ec_T0, ec_y0, "WarmNight$Carriage", 20, rfl, by decide, ew_935, ec_c0⟩
theorem el_f_47 : (fun e : Nat × Nat × Nat × Nat => ∃ (T : u_T) (ty : Nat → FieldType), ek_F (ec_on e.1) e.2.1 e.2.2.1 e.2.2.2 T ty) ((nat_lit 6), (nat_lit 7), (nat_lit 0), (nat_lit 7)) := ⟨ec_T0, ec_y0, "WarmNight$Carriage", 20, rfl, by decide, ew_937, ec_c0⟩
theorem el_f_48 : (fun e : Nat × Nat × Nat × Nat => ∃ (T : u_T) (ty : Nat → FieldType), ek_F (ec_on e.1) e.2.1 e.2.2.1 e.2.2.2 T ty) ((nat_lit 7), (nat_lit 18), (nat_lit 7), (nat_lit 0)) := ⟨ec_T7, ec_y7, "WarmNight$Search", 7, rfl, by decide, ew_941, ec_c7⟩
theorem el_f_49 : (fun e : Nat × Nat × Nat × Nat => ∃ (T : u_T) (ty : Nat → FieldType), ek_F (ec_on e.1) e.2.1 e.2.2.1 e.2.2.2 T ty) ((nat_lit 7), (nat_lit 26), (nat_lit 0), (nat_lit 19)) := ⟨ec_T0, ec_y0, "WarmNight$Carriage", 20, rfl, by decide, ew_943, ec_c0⟩
theorem el_f_50 : (fun e : Nat × Nat × Nat × Nat => ∃ (T : u_T) (ty : Nat → FieldType), ek_F (ec_on e.1) e.2.1 e.2.2.1 e.2.2.2 T ty) ((nat_lit 7), (nat_lit 22), (nat_lit 7), (nat_lit 1)) := ⟨ec_T7, ec_y7, "WarmNight$Search", 7, rfl, by decide, ew_942, ec_c7⟩
theorem el_f_51 : (fun e : Nat × Nat × Nat × Nat => ∃ (T : u_T) (ty : Nat → FieldType), ek_F (ec_on e.1) e.2.1 e.2.2.1 e.2.2.2 T ty) ((nat_lit 7), (nat_lit 42), (nat_lit 0), (nat_lit 17)) := ⟨ec_T0, ec_y0, "WarmNight$Carriage", 20, rfl, by decide, ew_947, ec_c0⟩
theorem el_f_52 : (fun e : Nat × Nat × Nat × Nat => ∃ (T : u_T) (ty : Nat → FieldType), ek_F (ec_on e.1) e.2.1 e.2.2.1 e.2.2.2 T ty) ((nat_lit 7), (nat_lit 45), (nat_lit 0), (nat_lit 18)) := ⟨ec_T0, ec_y0, "WarmNight$Carriage", 20, rfl, by decide, ew_948, ec_c0⟩
theorem el_f_53 : (fun e : Nat × Nat × Nat × Nat => ∃ (T : u_T) (ty : Nat → FieldType), ek_F (ec_on e.1) e.2.1 e.2.2.1 e.2.2.2 T ty) ((nat_lit 7), (nat_lit 15), (nat_lit 7), (nat_lit 3)) := ⟨ec_T7, ec_y7, "WarmNight$Search", 7, rfl, by decide, ew_940, ec_c7⟩
theorem el_f_54 : (fun e : Nat × Nat × Nat × Nat => ∃ (T : u_T) (ty : Nat → FieldType), ek_F (ec_on e.1) e.2.1 e.2.2.1 e.2.2.2 T ty) ((nat_lit 7), (nat_lit 62), (nat_lit 5), (nat_lit 4)) := ⟨ec_T5, ec_y5, "WarmNight$Night", 16, rfl, by decide, ew_949, ec_c5⟩
theorem el_f_55 : (fun e : Nat × Nat × Nat × Nat => ∃ (T : u_T) (ty : Nat → FieldType), ek_F (ec_on e.1) e.2.1 e.2.2.1 e.2.2.2 T ty) ((nat_lit 7), (nat_lit 65), (nat_lit 5), (nat_lit 3)) := ⟨ec_T5, ec_y5, "WarmNight$Night", 16, rfl, by decide, ew_950, ec_c5⟩
theorem el_f_56 : (fun e : Nat × Nat × Nat × Nat => ∃ (T : u_T) (ty : Nat → FieldType), ek_F (ec_on e.1) e.2.1 e.2.2.1 e.2.2.2 T ty) ((nat_lit 7), (nat_lit 9), (nat_lit 7), (nat_lit 2)) := ⟨ec_T7, ec_y7, "WarmNight$Search", 7, rfl, by decide, ew_939, ec_c7⟩
theorem el_f_57 : (fun e : Nat × Nat × Nat × Nat => ∃ (T : u_T) (ty : Nat → FieldType), ek_F (ec_on e.1) e.2.1 e.2.2.1 e.2.2.2 T ty) ((nat_lit 7), (nat_lit 81), (nat_lit 5), (nat_lit 2)) := ⟨ec_T5, ec_y5, "WarmNight$Night", 16, rfl, by decide, ew_952, ec_c5⟩
theorem el_f_58 : (fun e : Nat × Nat × Nat × Nat => ∃ (T : u_T) (ty : Nat → FieldType), ek_F (ec_on e.1) e.2.1 e.2.2.1 e.2.2.2 T ty) ((nat_lit 7), (nat_lit 32), (nat_lit 7), (nat_lit 4)) := ⟨ec_T7, ec_y7, "WarmNight$Search", 7, rfl, by decide, ew_944, ec_c7⟩
theorem el_f_59 : (fun e : Nat × Nat × Nat × Nat => ∃ (T : u_T) (ty : Nat → FieldType), ek_F (ec_on e.1) e.2.1 e.2.2.1 e.2.2.2 T ty) ((nat_lit 7), (nat_lit 36), (nat_lit 7), (nat_lit 6)) := ⟨ec_T7, ec_y7, "WarmNight$Search", 7, rfl, by decide, ew_945, ec_c7⟩
theorem el_f_60 : (fun e : Nat × Nat × Nat × Nat => ∃ (T : u_T) (ty : Nat → FieldType), ek_F (ec_on e.1) e.2.1 e.2.2.1 e.2.2.2 T ty) ((nat_lit 7), (nat_lit 39), (nat_lit 7), (nat_lit 5)) := ⟨ec_T7, ec_y7, "WarmNight$Search", 7, rfl, by decide, ew_946, ec_c7⟩
theorem el_f_61 : (fun e : Nat × Nat × Nat × Nat => ∃ (T : u_T) (ty : Nat → FieldType), ek_F (ec_on e.1) e.2.1 e.2.2.1 e.2.2.2 T ty) ((nat_lit 8), (nat_lit 29), (nat_lit 8), (nat_lit 0)) := ⟨ec_T8, ec_y8, "WarmNight$Sharing", 8, rfl, by decide, ew_960, ec_c8⟩
theorem el_f_62 : (fun e : Nat × Nat × Nat × Nat => ∃ (T : u_T) (ty : Nat → FieldType), ek_F (ec_on e.1) e.2.1 e.2.2.1 e.2.2.2 T ty) ((nat_lit 8), (nat_lit 15), (nat_lit 8), (nat_lit 3)) := ⟨ec_T8, ec_y8, "WarmNight$Sharing", 8, rfl, by decide, ew_955, ec_c8⟩
theorem el_f_63 : (fun e : Nat × Nat × Nat × Nat => ∃ (T : u_T) (ty : Nat → FieldType), ek_F (ec_on e.1) e.2.1 e.2.2.1 e.2.2.2 T ty) ((nat_lit 8), (nat_lit 43), (nat_lit 0), (nat_lit 3)) := ⟨ec_T0, ec_y0, "WarmNight$Carriage", 20, rfl, by decide, ew_962, ec_c0⟩
theorem el_f_64 : (fun e : Nat × Nat × Nat × Nat => ∃ (T : u_T) (ty : Nat → FieldType), ek_F (ec_on e.1) e.2.1 e.2.2.1 e.2.2.2 T ty) ((nat_lit 8), (nat_lit 9), (nat_lit 8), (nat_lit 2)) := ⟨ec_T8, ec_y8, "WarmNight$Sharing", 8, rfl, by decide, ew_954, ec_c8⟩
theorem el_f_65 : (fun e : Nat × Nat × Nat × Nat => ∃ (T : u_T) (ty : Nat → FieldType), ek_F (ec_on e.1) e.2.1 e.2.2.1 e.2.2.2 T ty) ((nat_lit 8), (nat_lit 33), (nat_lit 8), (nat_lit 1)) := ⟨ec_T8, ec_y8, "WarmNight$Sharing", 8, rfl, by decide, ew_961, ec_c8⟩
theorem el_f_66 : (fun e : Nat × Nat × Nat × Nat => ∃ (T : u_T) (ty : Nat → FieldType), ek_F (ec_on e.1) e.2.1 e.2.2.1 e.2.2.2 T ty) ((nat_lit 8), (nat_lit 50), (nat_lit 5), (nat_lit 1)) := ⟨ec_T5, ec_y5, "WarmNight$Night", 16, rfl, by decide, ew_964, ec_c5⟩
theorem el_f_67 : (fun e : Nat × Nat × Nat × Nat => ∃ (T : u_T) (ty : Nat → FieldType), ek_F (ec_on e.1) e.2.1 e.2.2.1 e.2.2.2 T ty) ((nat_lit 8), (nat_lit 68), (nat_lit 0), (nat_lit 14)) := ⟨ec_T0, ec_y0, "WarmNight$Carriage", 20, rfl, by decide, ew_966, ec_c0⟩
theorem el_f_68 : (fun e : Nat × Nat × Nat × Nat => ∃ (T : u_T) (ty : Nat → FieldType), ek_F (ec_on e.1) e.2.1 e.2.2.1 e.2.2.2 T ty) ((nat_lit 8), (nat_lit 18), (nat_lit 8), (nat_lit 4)) := ⟨ec_T8, ec_y8, "WarmNight$Sharing", 8, rfl, by decide, ew_956, ec_c8⟩
theorem el_f_69 : (fun e : Nat × Nat × Nat × Nat => ∃ (T : u_T) (ty : Nat → FieldType), ek_F (ec_on e.1) e.2.1 e.2.2.1 e.2.2.2 T ty) ((nat_lit 8), (nat_lit 76), (nat_lit 5), (nat_lit 14)) := ⟨ec_T5, ec_y5, "WarmNight$Night", 16, rfl, by decide, ew_968, ec_c5⟩
theorem el_f_70 : (fun e : Nat × Nat × Nat × Nat => ∃ (T : u_T) (ty : Nat → FieldType), ek_F (ec_on e.1) e.2.1 e.2.2.1 e.2.2.2 T ty) ((nat_lit 8), (nat_lit 64), (nat_lit 8), (nat_lit 5)) := ⟨ec_T8, ec_y8, "WarmNight$Sharing", 8, rfl, by decide, ew_965, ec_c8⟩
theorem el_f_71 : (fun e : Nat × Nat × Nat × Nat => ∃ (T : u_T) (ty : Nat → FieldType), ek_F (ec_on e.1) e.2.1 e.2.2.1 e.2.2.2 T ty) ((nat_lit 8), (nat_lit 89), (nat_lit 0), (nat_lit 18)) := ⟨ec_T0, ec_y0, "WarmNight$Carriage", 20, rfl, by decide, ew_969, ec_c0⟩
theorem el_f_72 : (fun e : Nat × Nat × Nat × Nat => ∃ (T : u_T) (ty : Nat → FieldType), ek_F (ec_on e.1) e.2.1 e.2.2.1 e.2.2.2 T ty) ((nat_lit 8), (nat_lit 96), (nat_lit 5), (nat_lit 8)) := ⟨ec_T5, ec_y5, "WarmNight$Night", 16, rfl, by decide, ew_970, ec_c5⟩
theorem el_f_73 : (fun e : Nat × Nat × Nat × Nat => ∃ (T : u_T) (ty : Nat → FieldType), ek_F (ec_on e.1) e.2.1 e.2.2.1 e.2.2.2 T ty) ((nat_lit 8), (nat_lit 23), (nat_lit 8), (nat_lit 6)) := ⟨ec_T8, ec_y8, "WarmNight$Sharing", 8, rfl, by decide, ew_958, ec_c8⟩
theorem el_f_74 : (fun e : Nat × Nat × Nat × Nat => ∃ (T : u_T) (ty : Nat → FieldType), ek_F (ec_on e.1) e.2.1 e.2.2.1 e.2.2.2 T ty) ((nat_lit 8), (nat_lit 103), (nat_lit 5), (nat_lit 7)) := ⟨ec_T5, ec_y5, "WarmNight$Night", 16, rfl, by decide, ew_972, ec_c5⟩
theorem el_f_75 : (fun e : Nat × Nat × Nat × Nat => ∃ (T : u_T) (ty : Nat → FieldType), ek_F (ec_on e.1) e.2.1 e.2.2.1 e.2.2.2 T ty) ((nat_lit 8), (nat_lit 26), (nat_lit 8), (nat_lit 7)) := ⟨ec_T8, ec_y8, "WarmNight$Sharing", 8, rfl, by decide, ew_959, ec_c8⟩
theorem el_f_76 : (fun e : Nat × Nat × Nat × Nat => ∃ (T : u_T) (ty : Nat → FieldType), ek_F (ec_on e.1) e.2.1 e.2.2.1 e.2.2.2 T ty) ((nat_lit 9), (nat_lit 28), (nat_lit 9), (nat_lit 1)) := ⟨ec_T9, ec_y9, "WarmNight$Text", 6, rfl, by decide, ew_979, ec_c9⟩
theorem el_f_77 : (fun e : Nat × Nat × Nat × Nat => ∃ (T : u_T) (ty : Nat → FieldType), ek_F (ec_on e.1) e.2.1 e.2.2.1 e.2.2.2 T ty) ((nat_lit 9), (nat_lit 9), (nat_lit 9), (nat_lit 0)) := ⟨ec_T9, ec_y9, "WarmNight$Text", 6, rfl, by decide, ew_974, ec_c9⟩
theorem el_f_78 : (fun e : Nat × Nat × Nat × Nat => ∃ (T : u_T) (ty : Nat → FieldType), ek_F (ec_on e.1) e.2.1 e.2.2.1 e.2.2.2 T ty) ((nat_lit 9), (nat_lit 41), (nat_lit 9), (nat_lit 4)) := ⟨ec_T9, ec_y9, "WarmNight$Text", 6, rfl, by decide, ew_983, ec_c9⟩
theorem el_f_79 : (fun e : Nat × Nat × Nat × Nat => ∃ (T : u_T) (ty : Nat → FieldType), ek_F (ec_on e.1) e.2.1 e.2.2.1 e.2.2.2 T ty) ((nat_lit 9), (nat_lit 35), (nat_lit 9), (nat_lit 5)) := ⟨ec_T9, ec_y9, "WarmNight$Text", 6, rfl, by decide, ew_982, ec_c9⟩
theorem el_f_80 : (fun e : Nat × Nat × Nat × Nat => ∃ (T : u_T) (ty : Nat → FieldType), ek_F (ec_on e.1) e.2.1 e.2.2.1 e.2.2.2 T ty) ((nat_lit 9), (nat_lit 15), (nat_lit 9), (nat_lit 2)) := ⟨ec_T9, ec_y9, "WarmNight$Text", 6, rfl, by decide, ew_975, ec_c9⟩
theorem el_f_81 : (fun e : Nat × Nat × Nat × Nat => ∃ (T : u_T) (ty : Nat → FieldType), ek_F (ec_on e.1) e.2.1 e.2.2.1 e.2.2.2 T ty) ((nat_lit 9), (nat_lit 20), (nat_lit 9), (nat_lit 3)) := ⟨ec_T9, ec_y9, "WarmNight$Text", 6, rfl, by decide, ew_977, ec_c9⟩
theorem el_f_82 : (fun e : Nat × Nat × Nat × Nat => ∃ (T : u_T) (ty : Nat → FieldType), ek_F (ec_on e.1) e.2.1 e.2.2.1 e.2.2.2 T ty) ((nat_lit 11), (nat_lit 12), (nat_lit 11), (nat_lit 0)) := ⟨ec_T11, ec_y11, "WarmNight", 11, rfl, by decide, ew_988, ec_c11⟩
theorem el_f_83 : (fun e : Nat × Nat × Nat × Nat => ∃ (T : u_T) (ty : Nat → FieldType), ek_F (ec_on e.1) e.2.1 e.2.2.1 e.2.2.2 T ty) ((nat_lit 11), (nat_lit 45), (nat_lit 11), (nat_lit 6)) := ⟨ec_T11, ec_y11, "WarmNight", 11, rfl, by decide, ew_999, ec_c11⟩
theorem el_f_84 : (fun e : Nat × Nat × Nat × Nat => ∃ (T : u_T) (ty : Nat → FieldType), ek_F (ec_on e.1) e.2.1 e.2.2.1 e.2.2.2 T ty) ((nat_lit 11), (nat_lit 19), (nat_lit 11), (nat_lit 2)) := ⟨ec_T11, ec_y11, "WarmNight", 11, rfl, by decide, ew_990, ec_c11⟩
theorem el_f_85 : (fun e : Nat × Nat × Nat × Nat => ∃ (T : u_T) (ty : Nat → FieldType), ek_F (ec_on e.1) e.2.1 e.2.2.1 e.2.2.2 T ty) ((nat_lit 11), (nat_lit 36), (nat_lit 11), (nat_lit 5)) := ⟨ec_T11, ec_y11, "WarmNight", 11, rfl, by decide, ew_996, ec_c11⟩
theorem el_f_86 : (fun e : Nat × Nat × Nat × Nat => ∃ (T : u_T) (ty : Nat → FieldType), ek_F (ec_on e.1) e.2.1 e.2.2.1 e.2.2.2 T ty) ((nat_lit 11), (nat_lit 30), (nat_lit 11), (nat_lit 4)) := ⟨ec_T11, ec_y11, "WarmNight", 11, rfl, by decide, ew_994, ec_c11⟩
theorem el_f_87 : (fun e : Nat × Nat × Nat × Nat => ∃ (T : u_T) (ty : Nat → FieldType), ek_F (ec_on e.1) e.2.1 e.2.2.1 e.2.2.2 T ty) ((nat_lit 11), (nat_lit 16), (nat_lit 11), (nat_lit 1)) := ⟨ec_T11, ec_y11, "WarmNight", 11, rfl, by decide, ew_989, ec_c11⟩
theorem el_f_88 : (fun e : Nat × Nat × Nat × Nat => ∃ (T : u_T) (ty : Nat → FieldType), ek_F (ec_on e.1) e.2.1 e.2.2.1 e.2.2.2 T ty) ((nat_lit 11), (nat_lit 140), (nat_lit 9), (nat_lit 4)) := ⟨ec_T9, ec_y9, "WarmNight$Text", 6, rfl, by decide, ew_1019, ec_c9⟩
theorem el_f_89 : (fun e : Nat × Nat × Nat × Nat => ∃ (T : u_T) (ty : Nat → FieldType), ek_F (ec_on e.1) e.2.1 e.2.2.1 e.2.2.2 T ty) ((nat_lit 11), (nat_lit 167), (nat_lit 5), (nat_lit 1)) := ⟨ec_T5, ec_y5, "WarmNight$Night", 16, rfl, by decide, ew_1021, ec_c5⟩
theorem el_f_90 : (fun e : Nat × Nat × Nat × Nat => ∃ (T : u_T) (ty : Nat → FieldType), ek_F (ec_on e.1) e.2.1 e.2.2.1 e.2.2.2 T ty) ((nat_lit 11), (nat_lit 177), (nat_lit 0), (nat_lit 10)) := ⟨ec_T0, ec_y0, "WarmNight$Carriage", 20, rfl, by decide, ew_1022, ec_c0⟩
theorem el_f_91 : (fun e : Nat × Nat × Nat × Nat => ∃ (T : u_T) (ty : Nat → FieldType), ek_F (ec_on e.1) e.2.1 e.2.2.1 e.2.2.2 T ty) ((nat_lit 11), (nat_lit 185), (nat_lit 5), (nat_lit 5)) := ⟨ec_T5, ec_y5, "WarmNight$Night", 16, rfl, by decide, ew_1023, ec_c5⟩
theorem el_f_92 : (fun e : Nat × Nat × Nat × Nat => ∃ (T : u_T) (ty : Nat → FieldType), ek_F (ec_on e.1) e.2.1 e.2.2.1 e.2.2.2 T ty) ((nat_lit 11), (nat_lit 188), (nat_lit 5), (nat_lit 2)) := ⟨ec_T5, ec_y5, "WarmNight$Night", 16, rfl, by decide, ew_1024, ec_c5⟩
theorem el_f_93 : (fun e : Nat × Nat × Nat × Nat => ∃ (T : u_T) (ty : Nat → FieldType), ek_F (ec_on e.1) e.2.1 e.2.2.1 e.2.2.2 T ty) ((nat_lit 11), (nat_lit 54), (nat_lit 11), (nat_lit 7)) := ⟨ec_T11, ec_y11, "WarmNight", 11, rfl, by decide, ew_1002, ec_c11⟩
theorem el_f_94 : (fun e : Nat × Nat × Nat × Nat => ∃ (T : u_T) (ty : Nat → FieldType), ek_F (ec_on e.1) e.2.1 e.2.2.1 e.2.2.2 T ty) ((nat_lit 11), (nat_lit 211), (nat_lit 7), (nat_lit 6)) := ⟨ec_T7, ec_y7, "WarmNight$Search", 7, rfl, by decide, ew_1026, ec_c7⟩
theorem el_f_95 : (fun e : Nat × Nat × Nat × Nat => ∃ (T : u_T) (ty : Nat → FieldType), ek_F (ec_on e.1) e.2.1 e.2.2.1 e.2.2.2 T ty) ((nat_lit 11), (nat_lit 221), (nat_lit 0), (nat_lit 14)) := ⟨ec_T0, ec_y0, "WarmNight$Carriage", 20, rfl, by decide, ew_1027, ec_c0⟩
theorem el_f_96 : (fun e : Nat × Nat × Nat × Nat => ∃ (T : u_T) (ty : Nat → FieldType), ek_F (ec_on e.1) e.2.1 e.2.2.1 e.2.2.2 T ty) ((nat_lit 11), (nat_lit 61), (nat_lit 11), (nat_lit 8)) := ⟨ec_T11, ec_y11, "WarmNight", 11, rfl, by decide, ew_1005, ec_c11⟩
theorem el_f_97 : (fun e : Nat × Nat × Nat × Nat => ∃ (T : u_T) (ty : Nat → FieldType), ek_F (ec_on e.1) e.2.1 e.2.2.1 e.2.2.2 T ty) ((nat_lit 11), (nat_lit 227), (nat_lit 8), (nat_lit 5)) := ⟨ec_T8, ec_y8, "WarmNight$Sharing", 8, rfl, by decide, ew_1028, ec_c8⟩
theorem el_f_98 : (fun e : Nat × Nat × Nat × Nat => ∃ (T : u_T) (ty : Nat → FieldType), ek_F (ec_on e.1) e.2.1 e.2.2.1 e.2.2.2 T ty) ((nat_lit 11), (nat_lit 230), (nat_lit 8), (nat_lit 4)) := ⟨ec_T8, ec_y8, "WarmNight$Sharing", 8, rfl, by decide, ew_1029, ec_c8⟩
theorem el_f_99 : (fun e : Nat × Nat × Nat × Nat => ∃ (T : u_T) (ty : Nat → FieldType), ek_F (ec_on e.1) e.2.1 e.2.2.1 e.2.2.2 T ty) ((nat_lit 11), (nat_lit 65), (nat_lit 11), (nat_lit 9)) := ⟨ec_T11, ec_y11, "WarmNight", 11, rfl, by decide, ew_1006, ec_c11⟩
theorem el_f_100 : (fun e : Nat × Nat × Nat × Nat => ∃ (T : u_T) (ty : Nat → FieldType), ek_F (ec_on e.1) e.2.1 e.2.2.1 e.2.2.2 T ty) ((nat_lit 11), (nat_lit 69), (nat_lit 11), (nat_lit 10)) := ⟨ec_T11, ec_y11, "WarmNight", 11, rfl, by decide, ew_1007, ec_c11⟩
theorem el_f_101 : (fun e : Nat × Nat × Nat × Nat => ∃ (T : u_T) (ty : Nat → FieldType), ek_F (ec_on e.1) e.2.1 e.2.2.1 e.2.2.2 T ty) ((nat_lit 11), (nat_lit 23), (nat_lit 11), (nat_lit 3)) := ⟨ec_T11, ec_y11, "WarmNight", 11, rfl, by decide, ew_991, ec_c11⟩
theorem el_f_102 : (fun e : Nat × Nat × Nat × Nat => ∃ (T : u_T) (ty : Nat → FieldType), ek_F (ec_on e.1) e.2.1 e.2.2.1 e.2.2.2 T ty) ((nat_lit 11), (nat_lit 254), (nat_lit 0), (nat_lit 17)) := ⟨ec_T0, ec_y0, "WarmNight$Carriage", 20, rfl, by decide, ew_1031, ec_c0⟩
theorem el_f_103 : (fun e : Nat × Nat × Nat × Nat => ∃ (T : u_T) (ty : Nat → FieldType), ek_F (ec_on e.1) e.2.1 e.2.2.1 e.2.2.2 T ty) ((nat_lit 11), (nat_lit 262), (nat_lit 0), (nat_lit 15)) := ⟨ec_T0, ec_y0, "WarmNight$Carriage", 20, rfl, by decide, ew_1032, ec_c0⟩
theorem el_f_104 : (fun e : Nat × Nat × Nat × Nat => ∃ (T : u_T) (ty : Nat → FieldType), ek_F (ec_on e.1) e.2.1 e.2.2.1 e.2.2.2 T ty) ((nat_lit 11), (nat_lit 265), (nat_lit 9), (nat_lit 1)) := ⟨ec_T9, ec_y9, "WarmNight$Text", 6, rfl, by decide, ew_1033, ec_c9⟩
theorem el_f_105 : (fun e : Nat × Nat × Nat × Nat => ∃ (T : u_T) (ty : Nat → FieldType), ek_F (ec_on e.1) e.2.1 e.2.2.1 e.2.2.2 T ty) ((nat_lit 11), (nat_lit 289), (nat_lit 0), (nat_lit 18)) := ⟨ec_T0, ec_y0, "WarmNight$Carriage", 20, rfl, by decide, ew_1036, ec_c0⟩
theorem el_f_106 : (fun e : Nat × Nat × Nat × Nat => ∃ (T : u_T) (ty : Nat → FieldType), ek_F (ec_on e.1) e.2.1 e.2.2.1 e.2.2.2 T ty) ((nat_lit 12), (nat_lit 7), (nat_lit 12), (nat_lit 0)) := ⟨ec_T12, ec_y12, "WarmNightModel", 33, rfl, by decide, ew_1038, ec_c12⟩
theorem el_f_107 : (fun e : Nat × Nat × Nat × Nat => ∃ (T : u_T) (ty : Nat → FieldType), ek_F (ec_on e.1) e.2.1 e.2.2.1 e.2.2.2 T ty) ((nat_lit 12), (nat_lit 150), (nat_lit 12), (nat_lit 7)) := ⟨ec_T12, ec_y12, "WarmNightModel", 33, rfl, by decide, ew_1079, ec_c12⟩
theorem el_f_108 : (fun e : Nat × Nat × Nat × Nat => ∃ (T : u_T) (ty : Nat → FieldType), ek_F (ec_on e.1) e.2.1 e.2.2.1 e.2.2.2 T ty) ((nat_lit 12), (nat_lit 23), (nat_lit 12), (nat_lit 6)) := ⟨ec_T12, ec_y12, "WarmNightModel", 33, rfl, by decide, ew_1042, ec_c12⟩
theorem el_f_109 : (fun e : Nat × Nat × Nat × Nat => ∃ (T : u_T) (ty : Nat → FieldType), ek_F (ec_on e.1) e.2.1 e.2.2.1 e.2.2.2 T ty) ((nat_lit 12), (nat_lit 156), (nat_lit 12), (nat_lit 8)) := ⟨ec_T12, ec_y12, "WarmNightModel", 33, rfl, by decide, ew_1081, ec_c12⟩
theorem el_f_110 : (fun e : Nat × Nat × Nat × Nat => ∃ (T : u_T) (ty : Nat → FieldType), ek_F (ec_on e.1) e.2.1 e.2.2.1 e.2.2.2 T ty) ((nat_lit 12), (nat_lit 183), (nat_lit 12), (nat_lit 9)) := ⟨ec_T12, ec_y12, "WarmNightModel", 33, rfl, by decide, ew_1092, ec_c12⟩
theorem el_f_111 : (fun e : Nat × Nat × Nat × Nat => ∃ (T : u_T) (ty : Nat → FieldType), ek_F (ec_on e.1) e.2.1 e.2.2.1 e.2.2.2 T ty) ((nat_lit 12), (nat_lit 197), (nat_lit 12), (nat_lit 11)) := ⟨ec_T12, ec_y12, "WarmNightModel", 33, rfl, by decide, ew_1096, ec_c12⟩
theorem el_f_112 : (fun e : Nat × Nat × Nat × Nat => ∃ (T : u_T) (ty : Nat → FieldType), ek_F (ec_on e.1) e.2.1 e.2.2.1 e.2.2.2 T ty) ((nat_lit 12), (nat_lit 186), (nat_lit 12), (nat_lit 10)) := ⟨ec_T12, ec_y12, "WarmNightModel", 33, rfl, by decide, ew_1093, ec_c12⟩
theorem el_f_113 : (fun e : Nat × Nat × Nat × Nat => ∃ (T : u_T) (ty : Nat → FieldType), ek_F (ec_on e.1) e.2.1 e.2.2.1 e.2.2.2 T ty) ((nat_lit 12), (nat_lit 29), (nat_lit 12), (nat_lit 13)) := ⟨ec_T12, ec_y12, "WarmNightModel", 33, rfl, by decide, ew_1044, ec_c12⟩
theorem el_f_114 : (fun e : Nat × Nat × Nat × Nat => ∃ (T : u_T) (ty : Nat → FieldType), ek_F (ec_on e.1) e.2.1 e.2.2.1 e.2.2.2 T ty) ((nat_lit 12), (nat_lit 202), (nat_lit 12), (nat_lit 14)) := ⟨ec_T12, ec_y12, "WarmNightModel", 33, rfl, by decide, ew_1098, ec_c12⟩
theorem el_f_115 : (fun e : Nat × Nat × Nat × Nat => ∃ (T : u_T) (ty : Nat → FieldType), ek_F (ec_on e.1) e.2.1 e.2.2.1 e.2.2.2 T ty) ((nat_lit 12), (nat_lit 26), (nat_lit 12), (nat_lit 12)) := ⟨ec_T12, ec_y12, "WarmNightModel", 33, rfl, by decide, ew_1043, ec_c12⟩
theorem el_f_116 : (fun e : Nat × Nat × Nat × Nat => ∃ (T : u_T) (ty : Nat → FieldType), ek_F (ec_on e.1) e.2.1 e.2.2.1 e.2.2.2 T ty) ((nat_lit 12), (nat_lit 20), (nat_lit 12), (nat_lit 3)) := ⟨ec_T12, ec_y12, "WarmNightModel", 33, rfl, by decide, ew_1041, ec_c12⟩
theorem el_f_117 : (fun e : Nat × Nat × Nat × Nat => ∃ (T : u_T) (ty : Nat → FieldType), ek_F (ec_on e.1) e.2.1 e.2.2.1 e.2.2.2 T ty) ((nat_lit 12), (nat_lit 41), (nat_lit 12), (nat_lit 18)) := ⟨ec_T12, ec_y12, "WarmNightModel", 33, rfl, by decide, ew_1048, ec_c12⟩
theorem el_f_118 : (fun e : Nat × Nat × Nat × Nat => ∃ (T : u_T) (ty : Nat → FieldType), ek_F (ec_on e.1) e.2.1 e.2.2.1 e.2.2.2 T ty) ((nat_lit 12), (nat_lit 35), (nat_lit 12), (nat_lit 16)) := ⟨ec_T12, ec_y12, "WarmNightModel", 33, rfl, by decide, ew_1046, ec_c12⟩
theorem el_f_119 : (fun e : Nat × Nat × Nat × Nat => ∃ (T : u_T) (ty : Nat → FieldType), ek_F (ec_on e.1) e.2.1 e.2.2.1 e.2.2.2 T ty) ((nat_lit 12), (nat_lit 38), (nat_lit 12), (nat_lit 17)) := ⟨ec_T12, ec_y12, "WarmNightModel", 33, rfl, by decide, ew_1047, ec_c12⟩
theorem el_f_120 : (fun e : Nat × Nat × Nat × Nat => ∃ (T : u_T) (ty : Nat → FieldType), ek_F (ec_on e.1) e.2.1 e.2.2.1 e.2.2.2 T ty) ((nat_lit 12), (nat_lit 44), (nat_lit 12), (nat_lit 19)) := ⟨ec_T12, ec_y12, "WarmNightModel", 33, rfl, by decide, ew_1049, ec_c12⟩
theorem el_f_121 : (fun e : Nat × Nat × Nat × Nat => ∃ (T : u_T) (ty : Nat → FieldType), ek_F (ec_on e.1) e.2.1 e.2.2.1 e.2.2.2 T ty) ((nat_lit 12), (nat_lit 32), (nat_lit 12), (nat_lit 15)) := ⟨ec_T12, ec_y12, "WarmNightModel", 33, rfl, by decide, ew_1045, ec_c12⟩
theorem el_f_122 : (fun e : Nat × Nat × Nat × Nat => ∃ (T : u_T) (ty : Nat → FieldType), ek_F (ec_on e.1) e.2.1 e.2.2.1 e.2.2.2 T ty) ((nat_lit 12), (nat_lit 274), (nat_lit 12), (nat_lit 20)) := ⟨ec_T12, ec_y12, "WarmNightModel", 33, rfl, by decide, ew_1100, ec_c12⟩
theorem el_f_123 : (fun e : Nat × Nat × Nat × Nat => ∃ (T : u_T) (ty : Nat → FieldType), ek_F (ec_on e.1) e.2.1 e.2.2.1 e.2.2.2 T ty) ((nat_lit 12), (nat_lit 277), (nat_lit 12), (nat_lit 21)) := ⟨ec_T12, ec_y12, "WarmNightModel", 33, rfl, by decide, ew_1101, ec_c12⟩
theorem el_f_124 : (fun e : Nat × Nat × Nat × Nat => ∃ (T : u_T) (ty : Nat → FieldType), ek_F (ec_on e.1) e.2.1 e.2.2.1 e.2.2.2 T ty) ((nat_lit 12), (nat_lit 280), (nat_lit 12), (nat_lit 22)) := ⟨ec_T12, ec_y12, "WarmNightModel", 33, rfl, by decide, ew_1102, ec_c12⟩
theorem el_f_125 : (fun e : Nat × Nat × Nat × Nat => ∃ (T : u_T) (ty : Nat → FieldType), ek_F (ec_on e.1) e.2.1 e.2.2.1 e.2.2.2 T ty) ((nat_lit 12), (nat_lit 50), (nat_lit 12), (nat_lit 25)) := ⟨ec_T12, ec_y12, "WarmNightModel", 33, rfl, by decide, ew_1051, ec_c12⟩
theorem el_f_126 : (fun e : Nat × Nat × Nat × Nat => ∃ (T : u_T) (ty : Nat → FieldType), ek_F (ec_on e.1) e.2.1 e.2.2.1 e.2.2.2 T ty) ((nat_lit 12), (nat_lit 309), (nat_lit 12), (nat_lit 24)) := ⟨ec_T12, ec_y12, "WarmNightModel", 33, rfl, by decide, ew_1105, ec_c12⟩
theorem el_f_127 : (fun e : Nat × Nat × Nat × Nat => ∃ (T : u_T) (ty : Nat → FieldType), ek_F (ec_on e.1) e.2.1 e.2.2.1 e.2.2.2 T ty) ((nat_lit 12), (nat_lit 47), (nat_lit 12), (nat_lit 23)) := ⟨ec_T12, ec_y12, "WarmNightModel", 33, rfl, by decide, ew_1050, ec_c12⟩
theorem el_f_128 : (fun e : Nat × Nat × Nat × Nat => ∃ (T : u_T) (ty : Nat → FieldType), ek_F (ec_on e.1) e.2.1 e.2.2.1 e.2.2.2 T ty) ((nat_lit 12), (nat_lit 53), (nat_lit 12), (nat_lit 26)) := ⟨ec_T12, ec_y12, "WarmNightModel", 33, rfl, by decide, ew_1052, ec_c12⟩
theorem el_f_129 : (fun e : Nat × Nat × Nat × Nat => ∃ (T : u_T) (ty : Nat → FieldType), ek_F (ec_on e.1) e.2.1 e.2.2.1 e.2.2.2 T ty) ((nat_lit 12), (nat_lit 56), (nat_lit 12), (nat_lit 27)) := ⟨ec_T12, ec_y12, "WarmNightModel", 33, rfl, by decide, ew_1053, ec_c12⟩
theorem el_f_130 : (fun e : Nat × Nat × Nat × Nat => ∃ (T : u_T) (ty : Nat → FieldType), ek_F (ec_on e.1) e.2.1 e.2.2.1 e.2.2.2 T ty) ((nat_lit 12), (nat_lit 65), (nat_lit 12), (nat_lit 30)) := ⟨ec_T12, ec_y12, "WarmNightModel", 33, rfl, by decide, ew_1056, ec_c12⟩
theorem el_f_131 : (fun e : Nat × Nat × Nat × Nat => ∃ (T : u_T) (ty : Nat → FieldType), ek_F (ec_on e.1) e.2.1 e.2.2.1 e.2.2.2 T ty) ((nat_lit 12), (nat_lit 68), (nat_lit 12), (nat_lit 31)) := ⟨ec_T12, ec_y12, "WarmNightModel", 33, rfl, by decide, ew_1057, ec_c12⟩
theorem el_f_132 : (fun e : Nat × Nat × Nat × Nat => ∃ (T : u_T) (ty : Nat → FieldType), ek_F (ec_on e.1) e.2.1 e.2.2.1 e.2.2.2 T ty) ((nat_lit 12), (nat_lit 62), (nat_lit 12), (nat_lit 29)) := ⟨ec_T12, ec_y12, "WarmNightModel", 33, rfl, by decide, ew_1055, ec_c12⟩
theorem el_f_133 : (fun e : Nat × Nat × Nat × Nat => ∃ (T : u_T) (ty : Nat → FieldType), ek_F (ec_on e.1) e.2.1 e.2.2.1 e.2.2.2 T ty) ((nat_lit 12), (nat_lit 59), (nat_lit 12), (nat_lit 28)) := ⟨ec_T12, ec_y12, "WarmNightModel", 33, rfl, by decide, ew_1054, ec_c12⟩
theorem el_f_134 : (fun e : Nat × Nat × Nat × Nat => ∃ (T : u_T) (ty : Nat → FieldType), ek_F (ec_on e.1) e.2.1 e.2.2.1 e.2.2.2 T ty) ((nat_lit 12), (nat_lit 71), (nat_lit 12), (nat_lit 32)) := ⟨ec_T12, ec_y12, "WarmNightModel", 33, rfl, by decide, ew_1058, ec_c12⟩
theorem el_f_135 : (fun e : Nat × Nat × Nat × Nat => ∃ (T : u_T) (ty : Nat → FieldType), ek_F (ec_on e.1) e.2.1 e.2.2.1 e.2.2.2 T ty) ((nat_lit 12), (nat_lit 85), (nat_lit 12), (nat_lit 4)) := ⟨ec_T12, ec_y12, "WarmNightModel", 33, rfl, by decide, ew_1060, ec_c12⟩
theorem el_f_136 : (fun e : Nat × Nat × Nat × Nat => ∃ (T : u_T) (ty : Nat → FieldType), ek_F (ec_on e.1) e.2.1 e.2.2.1 e.2.2.2 T ty) ((nat_lit 12), (nat_lit 77), (nat_lit 12), (nat_lit 5)) := ⟨ec_T12, ec_y12, "WarmNightModel", 33, rfl, by decide, ew_1059, ec_c12⟩
theorem el_f_137 : (fun e : Nat × Nat × Nat × Nat => ∃ (T : u_T) (ty : Nat → FieldType), ek_F (ec_on e.1) e.2.1 e.2.2.1 e.2.2.2 T ty) ((nat_lit 12), (nat_lit 13), (nat_lit 12), (nat_lit 1)) := ⟨ec_T12, ec_y12, "WarmNightModel", 33, rfl, by decide, ew_1039, ec_c12⟩
theorem el_f_138 : (fun e : Nat × Nat × Nat × Nat => ∃ (T : u_T) (ty : Nat → FieldType), ek_F (ec_on e.1) e.2.1 e.2.2.1 e.2.2.2 T ty) ((nat_lit 12), (nat_lit 16), (nat_lit 12), (nat_lit 2)) := ⟨ec_T12, ec_y12, "WarmNightModel", 33, rfl, by decide, ew_1040, ec_c12⟩
set_option maxRecDepth 100000 in
theorem el_f_ok : ∀ e ∈ el_f, (fun e : Nat × Nat × Nat × Nat => ∃ (T : u_T) (ty : Nat → FieldType), ek_F (ec_on e.1) e.2.1 e.2.2.1 e.2.2.2 T ty) e := List.forall_mem_cons.mpr ⟨el_f_0, List.forall_mem_cons.mpr ⟨el_f_1, List.forall_mem_cons.mpr ⟨el_f_2, List.forall_mem_cons.mpr ⟨el_f_3, List.forall_mem_cons.mpr ⟨el_f_4, List.forall_mem_cons.mpr ⟨el_f_5, List.forall_mem_cons.mpr ⟨el_f_6, List.forall_mem_cons.mpr ⟨el_f_7, List.forall_mem_cons.mpr ⟨el_f_8, List.forall_mem_cons.mpr ⟨el_f_9, List.forall_mem_cons.mpr ⟨el_f_10, List.forall_mem_cons.mpr ⟨el_f_11, List.forall_mem_cons.mpr ⟨el_f_12, List.forall_mem_cons.mpr ⟨el_f_13, List.forall_mem_cons.mpr ⟨el_f_14, List.forall_mem_cons.mpr ⟨el_f_15, List.forall_mem_cons.mpr ⟨el_f_16, List.forall_mem_cons.mpr ⟨el_f_17, List.forall_mem_cons.mpr ⟨el_f_18, List.forall_mem_cons.mpr ⟨el_f_19, List.forall_mem_cons.mpr ⟨el_f_20, List.forall_mem_cons.mpr ⟨el_f_21, List.forall_mem_cons.mpr ⟨el_f_22, List.forall_mem_cons.mpr ⟨el_f_23, List.forall_mem_cons.mpr ⟨el_f_24, List.forall_mem_cons.mpr ⟨el_f_25, List.forall_mem_cons.mpr ⟨el_f_26, List.forall_mem_cons.mpr ⟨el_f_27, List.forall_mem_cons.mpr ⟨el_f_28, List.forall_mem_cons.mpr ⟨el_f_29, List.forall_mem_cons.mpr ⟨el_f_30, List.forall_mem_cons.mpr ⟨el_f_31, List.forall_mem_cons.mpr ⟨el_f_32, List.forall_mem_cons.mpr ⟨el_f_33, List.forall_mem_cons.mpr ⟨el_f_34, List.forall_mem_cons.mpr ⟨el_f_35, List.forall_mem_cons.mpr ⟨el_f_36, List.forall_mem_cons.mpr ⟨el_f_37, List.forall_mem_cons.mpr ⟨el_f_38, List.forall_mem_cons.mpr ⟨el_f_39, List.forall_mem_cons.mpr ⟨el_f_40, List.forall_mem_cons.mpr ⟨el_f_41, List.forall_mem_cons.mpr ⟨el_f_42, List.forall_mem_cons.mpr ⟨el_f_43, List.forall_mem_cons.mpr ⟨el_f_44, List.forall_mem_cons.mpr ⟨el_f_45, List.forall_mem_cons.mpr ⟨el_f_46, List.forall_mem_cons.mpr ⟨el_f_47, List.forall_mem_cons.mpr ⟨el_f_48, List.forall_mem_cons.mpr ⟨el_f_49, List.forall_mem_cons.mpr ⟨el_f_50, List.forall_mem_cons.mpr ⟨el_f_51, List.forall_mem_cons.mpr ⟨el_f_52, List.forall_mem_cons.mpr ⟨el_f_53, List.forall_mem_cons.mpr ⟨el_f_54, List.forall_mem_cons.mpr ⟨el_f_55, List.forall_mem_cons.mpr ⟨el_f_56, List.forall_mem_cons.mpr ⟨el_f_57, List.forall_mem_cons.mpr ⟨el_f_58, List.forall_mem_cons.mpr ⟨el_f_59, List.forall_mem_cons.mpr ⟨el_f_60, List.forall_mem_cons.mpr ⟨el_f_61, List.forall_mem_cons.mpr ⟨el_f_62, List.forall_mem_cons.mpr ⟨el_f_63, List.forall_mem_cons.mpr ⟨el_f_64, List.forall_mem_cons.mpr ⟨el_f_65, List.forall_mem_cons.mpr ⟨el_f_66, List.forall_mem_cons.mpr ⟨el_f_67, List.forall_mem_cons.mpr ⟨el_f_68, List.forall_mem_cons.mpr ⟨el_f_69, List.forall_mem_cons.mpr ⟨el_f_70, List.forall_mem_cons.mpr ⟨el_f_71, List.forall_mem_cons.mpr ⟨el_f_72, List.forall_mem_cons.mpr ⟨el_f_73, List.forall_mem_cons.mpr ⟨el_f_74, List.forall_mem_cons.mpr ⟨el_f_75, List.forall_mem_cons.mpr ⟨el_f_76, List.forall_mem_cons.mpr ⟨el_f_77, List.forall_mem_cons.mpr ⟨el_f_78, List.forall_mem_cons.mpr ⟨el_f_79, List.forall_mem_cons.mpr ⟨el_f_80, List.forall_mem_cons.mpr ⟨el_f_81, List.forall_mem_cons.mpr ⟨el_f_82, List.forall_mem_cons.mpr ⟨el_f_83, List.forall_mem_cons.mpr ⟨el_f_84, List.forall_mem_cons.mpr ⟨el_f_85, List.forall_mem_cons.mpr ⟨el_f_86, List.forall_mem_cons.mpr ⟨el_f_87, List.forall_mem_cons.mpr ⟨el_f_88, List.forall_mem_cons.mpr ⟨el_f_89, List.forall_mem_cons.mpr ⟨el_f_90, List.forall_mem_cons.mpr ⟨el_f_91, List.forall_mem_cons.mpr ⟨el_f_92, List.forall_mem_cons.mpr ⟨el_f_93, List.forall_mem_cons.mpr ⟨el_f_94, List.forall_mem_cons.mpr ⟨el_f_95, List.forall_mem_cons.mpr ⟨el_f_96, List.forall_mem_cons.mpr ⟨el_f_97, List.forall_mem_cons.mpr ⟨el_f_98, List.forall_mem_cons.mpr ⟨el_f_99, List.forall_mem_cons.mpr ⟨el_f_100, List.forall_mem_cons.mpr ⟨el_f_101, List.forall_mem_cons.mpr ⟨el_f_102, List.forall_mem_cons.mpr ⟨el_f_103, List.forall_mem_cons.mpr ⟨el_f_104, List.forall_mem_cons.mpr ⟨el_f_105, List.forall_mem_cons.mpr ⟨el_f_106, List.forall_mem_cons.mpr ⟨el_f_107, List.forall_mem_cons.mpr ⟨el_f_108, List.forall_mem_cons.mpr ⟨el_f_109, List.forall_mem_cons.mpr ⟨el_f_110, List.forall_mem_cons.mpr ⟨el_f_111, List.forall_mem_cons.mpr ⟨el_f_112, List.forall_mem_cons.mpr ⟨el_f_113, List.forall_mem_cons.mpr ⟨el_f_114, List.forall_mem_cons.mpr ⟨el_f_115, List.forall_mem_cons.mpr ⟨el_f_116, List.forall_mem_cons.mpr ⟨el_f_117, List.forall_mem_cons.mpr ⟨el_f_118, List.forall_mem_cons.mpr ⟨el_f_119, List.forall_mem_cons.mpr ⟨el_f_120, List.forall_mem_cons.mpr ⟨el_f_121, List.forall_mem_cons.mpr ⟨el_f_122, List.forall_mem_cons.mpr ⟨el_f_123, List.forall_mem_cons.mpr ⟨el_f_124, List.forall_mem_cons.mpr ⟨el_f_125, List.forall_mem_cons.mpr ⟨el_f_126, List.forall_mem_cons.mpr ⟨el_f_127, List.forall_mem_cons.mpr ⟨el_f_128, List.forall_mem_cons.mpr ⟨el_f_129, List.forall_mem_cons.mpr ⟨el_f_130, List.forall_mem_cons.mpr ⟨el_f_131, List.forall_mem_cons.mpr ⟨el_f_132, List.forall_mem_cons.mpr ⟨el_f_133, List.forall_mem_cons.mpr ⟨el_f_134, List.forall_mem_cons.mpr ⟨el_f_135, List.forall_mem_cons.mpr ⟨el_f_136, List.forall_mem_cons.mpr ⟨el_f_137, List.forall_mem_cons.mpr ⟨el_f_138, fun _ h => absurd h List.not_mem_nil⟩⟩⟩⟩⟩⟩⟩⟩⟩⟩⟩⟩⟩⟩⟩⟩⟩⟩⟩⟩⟩⟩⟩⟩⟩⟩⟩⟩⟩⟩⟩⟩⟩⟩⟩⟩⟩⟩⟩⟩⟩⟩⟩⟩⟩⟩⟩⟩⟩⟩⟩⟩⟩⟩⟩⟩⟩⟩⟩⟩⟩⟩⟩⟩⟩⟩⟩⟩⟩⟩⟩⟩⟩⟩⟩⟩⟩⟩⟩⟩⟩⟩⟩⟩⟩⟩⟩⟩⟩⟩⟩⟩⟩⟩⟩⟩⟩⟩⟩⟩⟩⟩⟩⟩⟩⟩⟩⟩⟩⟩⟩⟩⟩⟩⟩⟩⟩⟩⟩⟩⟩⟩⟩⟩⟩⟩⟩⟩⟩⟩⟩⟩⟩⟩⟩⟩⟩⟩⟩
def el_p : List (Nat × Nat × Nat × Nat × Int × Nat) := [((nat_lit 0), (nat_lit 9), (nat_lit 0), (nat_lit 0), (Int.ofNat (nat_lit 3)), (nat_lit 1)), ((nat_lit 0), (nat_lit 15), (nat_lit 0), (nat_lit 1), (Int.ofNat (nat_lit 3)), (nat_lit 1)), ((nat_lit 0), (nat_lit 18), (nat_lit 0), (nat_lit 2), (Int.ofNat (nat_lit 3)), (nat_lit 1)), ((nat_lit 0), (nat_lit 21), (nat_lit 0), (nat_lit 3), (Int.ofNat (nat_lit 3)), (nat_lit 1)), ((nat_lit 0), (nat_lit 24), (nat_lit 0), (nat_lit 4), (Int.ofNat (nat_lit 3)), (nat_lit 1)), ((nat_lit 0), (nat_lit 27), (nat_lit 0), (nat_lit 5), (Int.ofNat (nat_lit 3)), (nat_lit 1)), ((nat_lit 0), (nat_lit 30), (nat_lit 0), (nat_lit 6), (Int.ofNat (nat_lit 3)), (nat_lit 1)), ((nat_lit 0), (nat_lit 33), (nat_lit 0), (nat_lit 7), (Int.ofNat (nat_lit 3)), (nat_lit 1)), ((nat_lit 0), (nat_lit 36), (nat_lit 0), (nat_lit 8), (Int.ofNat (nat_lit 3)), (nat_lit 1)), ((nat_lit 0), (nat_lit 39), (nat_lit 0), (nat_lit 9), (Int.ofNat (nat_lit 3)), (nat_lit 1)), ((nat_lit 0), (nat_lit 42), (nat_lit 0), (nat_lit 10), (Int.ofNat (nat_lit 3)), (nat_lit 1)), ((nat_lit 0), (nat_lit 45), (nat_lit 0), (nat_lit 11), (Int.ofNat (nat_lit 3)), (nat_lit 1)), ((nat_lit 0), (nat_lit 48), (nat_lit 0), (nat_lit 12), (Int.ofNat (nat_lit 3)), (nat_lit 1)), ((nat_lit 0), (nat_lit 53), (nat_lit 0), (nat_lit 13), (Int.ofNat (nat_lit 3)), (nat_lit 1)), ((nat_lit 0), (nat_lit 68), (nat_lit 0), (nat_lit 14), (Int.ofNat (nat_lit 0)), (nat_lit 0)), ((nat_lit 0), (nat_lit 72), (nat_lit 0), (nat_lit 15), (Int.ofNat (nat_lit 0)), (nat_lit 0)), ((nat_lit 0), (nat_lit 75), (nat_lit 0), (nat_lit 16), (Int.ofNat (nat_lit 0)), (nat_lit 0)), ((nat_lit 0), (nat_lit 78), (nat_lit 0), (nat_lit 17), (Int.ofNat (nat_lit 0)), (nat_lit 0)), ((nat_lit 0), (nat_lit 81), (nat_lit 0), (nat_lit 18), (Int.ofNat (nat_lit 0)), (nat_lit 0)), ((nat_lit 0), (nat_lit 84), (nat_lit 0), (nat_lit 19), (Int.ofNat (nat_lit 1)), (nat_lit 0)), ((nat_lit 5), (nat_lit 11), (nat_lit 5), (nat_lit 1), (Int.ofNat (nat_lit 3)), (nat_lit 1)), ((nat_lit 5), (nat_lit 16), (nat_lit 5), (nat_lit 2), (Int.ofNat (nat_lit 3)), (nat_lit 1)), ((nat_lit 5), (nat_lit 20), (nat_lit 5), (nat_lit 3), (Int.ofNat (nat_lit 3)), (nat_lit 1)), ((nat_lit 5), (nat_lit 23), (nat_lit 5), (nat_lit 4), (Int.ofNat (nat_lit 3)), (nat_lit 1)), ((nat_lit 5), (nat_lit 26), (nat_lit 5), (nat_lit 5), (Int.ofNat (nat_lit 3)), (nat_lit 1)), ((nat_lit 5), (nat_lit 29), (nat_lit 5), (nat_lit 6), (Int.ofNat (nat_lit 3)), (nat_lit 1)), ((nat_lit 5), (nat_lit 32), (nat_lit 5), (nat_lit 7), (Int.ofNat (nat_lit 3)), (nat_lit 1)), ((nat_lit 5), (nat_lit 35), (nat_lit 5), (nat_lit 8), (Int.ofNat (nat_lit 3)), (nat_lit 1)), ((nat_lit 5), (nat_lit 38), (nat_lit 5), (nat_lit 9), (Int.ofNat (nat_lit 3)), (nat_lit 1)), ((nat_lit 5), (nat_lit 41), (nat_lit 5), (nat_lit 10), (Int.ofNat (nat_lit 3)), (nat_lit 1)), ((nat_lit 5), (nat_lit 44), (nat_lit 5), (nat_lit 11), (Int.ofNat (nat_lit 3)), (nat_lit 1)), ((nat_lit 5), (nat_lit 47), (nat_lit 5), (nat_lit 12), (Int.ofNat (nat_lit 3)), (nat_lit 1)), ((nat_lit 5), (nat_lit 50), (nat_lit 5), (nat_lit 13), (Int.ofNat (nat_lit 3)), (nat_lit 1)), ((nat_lit 5), (nat_lit 53), (nat_lit 5), (nat_lit 14), (Int.ofNat (nat_lit 3)), (nat_lit 1)), ((nat_lit 5), (nat_lit 56), (nat_lit 5), (nat_lit 0), (Int.ofNat (nat_lit 3)), (nat_lit 1)), ((nat_lit 5), (nat_lit 80), (nat_lit 5), (nat_lit 15), (Int.ofNat (nat_lit 0)), (nat_lit 0)), ((nat_lit 7), (nat_lit 9), (nat_lit 7), (nat_lit 2), (Int.ofNat (nat_lit 3)), (nat_lit 1)), ((nat_lit 7), (nat_lit 15), (nat_lit 7), (nat_lit 3), (Int.ofNat (nat_lit 3)), (nat_lit 1)), ((nat_lit 7), (nat_lit 18), (nat_lit 7), (nat_lit 0), (Int.ofNat (nat_lit 3)), (nat_lit 1)), ((nat_lit 7), (nat_lit 22), (nat_lit 7), (nat_lit 1), (Int.ofNat (nat_lit 3)), (nat_lit 1)), ((nat_lit 7), (nat_lit 32), (nat_lit 7), (nat_lit 4), (Int.ofNat (nat_lit 0)), (nat_lit 0)), ((nat_lit 7), (nat_lit 36), (nat_lit 7), (nat_lit 6), (Int.ofNat (nat_lit 0)), (nat_lit 0)), ((nat_lit 7), (nat_lit 39), (nat_lit 7), (nat_lit 5), (Int.ofNat (nat_lit 0)), (nat_lit 0)), ((nat_lit 7), (nat_lit 26), (nat_lit 0), (nat_lit 19), (Int.ofNat (nat_lit 1)), (nat_lit 0)), ((nat_lit 8), (nat_lit 9), (nat_lit 8), (nat_lit 2), (Int.ofNat (nat_lit 3)), (nat_lit 1)), ((nat_lit 8), (nat_lit 15), (nat_lit 8), (nat_lit 3), (Int.ofNat (nat_lit 3)), (nat_lit 1)), ((nat_lit 8), (nat_lit 18), (nat_lit 8), (nat_lit 4), (Int.ofNat (nat_lit 3)), (nat_lit 1)), ((nat_lit 8), (nat_lit 23), (nat_lit 8), (nat_lit 6), (Int.ofNat (nat_lit 3)), (nat_lit 1)), ((nat_lit 8), (nat_lit 26), (nat_lit 8), (nat_lit 7), (Int.ofNat (nat_lit 3)), (nat_lit 1)), ((nat_lit 8), (nat_lit 29), (nat_lit 8), (nat_lit 0), (Int.ofNat (nat_lit 3)), (nat_lit 1)), ((nat_lit 8), (nat_lit 33), (nat_lit 8), (nat_lit 1), (Int.ofNat (nat_lit 3)), (nat_lit 1)), ((nat_lit 8), (nat_lit 64), (nat_lit 8), (nat_lit 5), (Int.ofNat (nat_lit 0)), (nat_lit 0)), ((nat_lit 9), (nat_lit 9), (nat_lit 9), (nat_lit 0), (Int.ofNat (nat_lit 3)), (nat_lit 1)), ((nat_lit 9), (nat_lit 15), (nat_lit 9), (nat_lit 2), (Int.ofNat (nat_lit 3)), (nat_lit 1)), ((nat_lit 9), (nat_lit 20), (nat_lit 9), (nat_lit 3), (Int.ofNat (nat_lit 3)), (nat_lit 1)), ((nat_lit 9), (nat_lit 28), (nat_lit 9), (nat_lit 1), (Int.ofNat (nat_lit 0)), (nat_lit 0)), ((nat_lit 9), (nat_lit 35), (nat_lit 9), (nat_lit 5), (Int.ofNat (nat_lit 0)), (nat_lit 0)), ((nat_lit 9), (nat_lit 41), (nat_lit 9), (nat_lit 4), (Int.ofNat (nat_lit 0)), (nat_lit 0)), ((nat_lit 11), (nat_lit 12), (nat_lit 11), (nat_lit 0), (Int.ofNat (nat_lit 3)), (nat_lit 1)), ((nat_lit 11), (nat_lit 16), (nat_lit 11), (nat_lit 1), (Int.ofNat (nat_lit 3)), (nat_lit 1)), ((nat_lit 11), (nat_lit 19), (nat_lit 11), (nat_lit 2), (Int.ofNat (nat_lit 3)), (nat_lit 1)), ((nat_lit 11), (nat_lit 23), (nat_lit 11), (nat_lit 3), (Int.ofNat (nat_lit 3)), (nat_lit 1)), ((nat_lit 11), (nat_lit 30), (nat_lit 11), (nat_lit 4), (Int.ofNat (nat_lit 3)), (nat_lit 1)), ((nat_lit 11), (nat_lit 36), (nat_lit 11), (nat_lit 5), (Int.ofNat (nat_lit 3)), (nat_lit 1)), ((nat_lit 11), (nat_lit 45), (nat_lit 11), (nat_lit 6), (Int.ofNat (nat_lit 3)), (nat_lit 1)), ((nat_lit 11), (nat_lit 54), (nat_lit 11), (nat_lit 7), (Int.ofNat (nat_lit 3)), (nat_lit 1)), ((nat_lit 11), (nat_lit 61), (nat_lit 11), (nat_lit 8), (Int.ofNat (nat_lit 3)), (nat_lit 1)), ((nat_lit 11), (nat_lit 65), (nat_lit 11), (nat_lit 9), (Int.ofNat (nat_lit 2)), (nat_lit 0)), ((nat_lit 11), (nat_lit 69), (nat_lit 11), (nat_lit 10), (Int.ofNat (nat_lit 2)), (nat_lit 0)), ((nat_lit 12), (nat_lit 7), (nat_lit 12), (nat_lit 0), (Int.ofNat (nat_lit 3)), (nat_lit 1)), ((nat_lit 12), (nat_lit 13), (nat_lit 12), (nat_lit 1), (Int.ofNat (nat_lit 3)), (nat_lit 1)), ((nat_lit 12), (nat_lit 16), (nat_lit 12), (nat_lit 2), (Int.ofNat (nat_lit 3)), (nat_lit 1)), ((nat_lit 12), (nat_lit 20), (nat_lit 12), (nat_lit 3), (Int.ofNat (nat_lit 3)), (nat_lit 1)), ((nat_lit 12), (nat_lit 23), (nat_lit 12), (nat_lit 6), (Int.ofNat (nat_lit 3)), (nat_lit 1)), ((nat_lit 12), (nat_lit 26), (nat_lit 12), (nat_lit 12), (Int.ofNat (nat_lit 3)), (nat_lit 1)), ((nat_lit 12), (nat_lit 29), (nat_lit 12), (nat_lit 13), (Int.ofNat (nat_lit 3)), (nat_lit 1)), ((nat_lit 12), (nat_lit 32), (nat_lit 12), (nat_lit 15), (Int.ofNat (nat_lit 3)), (nat_lit 1)), ((nat_lit 12), (nat_lit 35), (nat_lit 12), (nat_lit 16), (Int.ofNat (nat_lit 3)), (nat_lit 1)), ((nat_lit 12), (nat_lit 38), (nat_lit 12), (nat_lit 17), (Int.ofNat (nat_lit 3)), (nat_lit 1)), ((nat_lit 12), (nat_lit 41), (nat_lit 12), (nat_lit 18), (Int.ofNat (nat_lit 3)), (nat_lit 1)), ((nat_lit 12), (nat_lit 44), (nat_lit 12), (nat_lit 19), (Int.ofNat (nat_lit 3)), (nat_lit 1)), ((nat_lit 12), (nat_lit 47), (nat_lit 12), (nat_lit 23), (Int.ofNat (nat_lit 3)), (nat_lit 1)), ((nat_lit 12), (nat_lit 50), (nat_lit 12), (nat_lit 25), (Int.ofNat (nat_lit 3)), (nat_lit 1)), ((nat_lit 12), (nat_lit 53), (nat_lit 12), (nat_lit 26), (Int.ofNat (nat_lit 3)), (nat_lit 1)), ((nat_lit 12), (nat_lit 56), (nat_lit 12), (nat_lit 27), (Int.ofNat (nat_lit 3)), (nat_lit 1)), ((nat_lit 12), (nat_lit 59), (nat_lit 12), (nat_lit 28), (Int.ofNat (nat_lit 3)), (nat_lit 1)), ((nat_lit 12), (nat_lit 62), (nat_lit 12), (nat_lit 29), (Int.ofNat (nat_lit 3)), (nat_lit 1)), ((nat_lit 12), (nat_lit 65), (nat_lit 12), (nat_lit 30), (Int.ofNat (nat_lit 3)), (nat_lit 1)), ((nat_lit 12), (nat_lit 68), (nat_lit 12), (nat_lit 31), (Int.ofNat (nat_lit 3)), (nat_lit 1)), ((nat_lit 12), (nat_lit 71), (nat_lit 12), (nat_lit 32), (Int.ofNat (nat_lit 3)), (nat_lit 1)), ((nat_lit 12), (nat_lit 77), (nat_lit 12), (nat_lit 5), (Int.ofNat (nat_lit 2)), (nat_lit 0)), ((nat_lit 12), (nat_lit 85), (nat_lit 12), (nat_lit 4), (Int.ofNat (nat_lit 2)), (nat_lit 0)), ((nat_lit 12), (nat_lit 150), (nat_lit 12), (nat_lit 7), (Int.ofNat (nat_lit 0)), (nat_lit 0)), ((nat_lit 12), (nat_lit 156), (nat_lit 12), (nat_lit 8), (Int.ofNat (nat_lit 0)), (nat_lit 0)), ((nat_lit 12), (nat_lit 183), (nat_lit 12), (nat_lit 9), (Int.ofNat (nat_lit 0)), (nat_lit 0)), ((nat_lit 12), (nat_lit 186), (nat_lit 12), (nat_lit 10), (Int.ofNat (nat_lit 0)), (nat_lit 0)), ((nat_lit 12), (nat_lit 197), (nat_lit 12), (nat_lit 11), (Int.ofNat (nat_lit 0)), (nat_lit 0)), ((nat_lit 12), (nat_lit 202), (nat_lit 12), (nat_lit 14), (Int.ofNat (nat_lit 0)), (nat_lit 0)), ((nat_lit 12), (nat_lit 274), (nat_lit 12), (nat_lit 20), (Int.ofNat (nat_lit 0)), (nat_lit 0)), ((nat_lit 12), (nat_lit 277), (nat_lit 12), (nat_lit 21), (Int.ofNat (nat_lit 0)), (nat_lit 0)), ((nat_lit 12), (nat_lit 280), (nat_lit 12), (nat_lit 22), (Int.ofNat (nat_lit 0)), (nat_lit 0)), ((nat_lit 12), (nat_lit 309), (nat_lit 12), (nat_lit 24), (Int.ofNat (nat_lit 0)), (nat_lit 0))]
theorem el_p_0 : (fun e : Nat × Nat × Nat × Nat × Int × Nat => ∃ (T : u_T) (ty : Nat → FieldType), ek_F (ec_on e.1) e.2.1 e.2.2.1 e.2.2.2.1 T ty ∧ ek_tc (ty e.2.2.2.1) e.2.2.2.2.1 ∧ ((T e.2.2.2.1).2.2.2 = false ∨ ((T e.2.2.2.1).2.2.2 = true ∧ (T e.2.2.2.1).1 = ec_on e.1))) ((nat_lit 0), (nat_lit 9), (nat_lit 0), (nat_lit 0), (Int.ofNat (nat_lit 3)), (nat_lit 1)) := ⟨ec_T0, ec_y0, ⟨"WarmNight$Carriage", 20, rfl, by decide, ew_875, ec_c0⟩, rfl, Or.inr ⟨rfl, rfl⟩⟩
theorem el_p_1 : (fun e : Nat × Nat × Nat × Nat × Int × Nat => ∃ (T : u_T) (ty : Nat → FieldType), ek_F (ec_on e.1) e.2.1 e.2.2.1 e.2.2.2.1 T ty ∧ ek_tc (ty e.2.2.2.1) e.2.2.2.2.1 ∧ ((T e.2.2.2.1).2.2.2 = false ∨ ((T e.2.2.2.1).2.2.2 = true ∧ (T e.2.2.2.1).1 = ec_on e.1))) ((nat_lit 0), (nat_lit 15), (nat_lit 0), (nat_lit 1), (Int.ofNat (nat_lit 3)), (nat_lit 1)) := ⟨ec_T0, ec_y0, ⟨"WarmNight$Carriage", 20, rfl, by decide, ew_876, ec_c0⟩, rfl, Or.inr ⟨rfl, rfl⟩⟩
theorem el_p_2 : (fun e : Nat × Nat × Nat × Nat × Int × Nat => ∃ (T : u_T) (ty : Nat → FieldType), ek_F (ec_on e.1) e.2.1 e.2.2.1 e.2.2.2.1 T ty ∧ ek_tc (ty e.2.2.2.1) e.2.2.2.2.1 ∧ ((T e.2.2.2.1).2.2.2 = false ∨ ((T e.2.2.2.1).2.2.2 = true ∧ (T e.2.2.2.1).1 = ec_on e.1))) ((nat_lit 0), (nat_lit 18), (nat_lit 0), (nat_lit 2), (Int.ofNat (nat_lit 3)), (nat_lit 1)) := ⟨ec_T0, ec_y0, ⟨"WarmNight$Carriage", 20, rfl, by decide, ew_877, ec_c0⟩, rfl, Or.inr ⟨rfl, rfl⟩⟩
theorem el_p_3 : (fun e : Nat × Nat × Nat × Nat × Int × Nat => ∃ (T : u_T) (ty : Nat → FieldType), ek_F (ec_on e.1) e.2.1 e.2.2.1 e.2.2.2.1 T ty ∧ ek_tc (ty e.2.2.2.1) e.2.2.2.2.1 ∧ ((T e.2.2.2.1).2.2.2 = false ∨ ((T e.2.2.2.1).2.2.2 = true ∧ (T e.2.2.2.1).1 = ec_on e.1))) ((nat_lit 0), (nat_lit 21), (nat_lit 0), (nat_lit 3), (Int.ofNat (nat_lit 3)), (nat_lit 1)) := ⟨ec_T0, ec_y0, ⟨"WarmNight$Carriage", 20, rfl, by decide, ew_878, ec_c0⟩, rfl, Or.inr ⟨rfl, rfl⟩⟩
theorem el_p_4 : (fun e : Nat × Nat × Nat × Nat × Int × Nat => ∃ (T : u_T) (ty : Nat → FieldType), ek_F (ec_on e.1) e.2.1 e.2.2.1 e.2.2.2.1 T ty ∧ ek_tc (ty e.2.2.2.1) e.2.2.2.2.1 ∧ ((T e.2.2.2.1).2.2.2 = false ∨ ((T e.2.2.2.1).2.2.2 = true ∧ (T e.2.2.2.1).1 = ec_on e.1))) ((nat_lit 0), (nat_lit 24), (nat_lit 0), (nat_lit 4), (Int.ofNat (nat_lit 3)), (nat_lit 1)) := ⟨ec_T0, ec_y0, ⟨"WarmNight$Carriage", 20, rfl, by decide, ew_879, ec_c0⟩, rfl, Or.inr ⟨rfl, rfl⟩⟩
theorem el_p_5 : (fun e : Nat × Nat × Nat × Nat × Int × Nat => ∃ (T : u_T) (ty : Nat → FieldType), ek_F (ec_on e.1) e.2.1 e.2.2.1 e.2.2.2.1 T ty ∧ ek_tc (ty e.2.2.2.1) e.2.2.2.2.1 ∧ ((T e.2.2.2.1).2.2.2 = false ∨ ((T e.2.2.2.1).2.2.2 = true ∧ (T e.2.2.2.1).1 = ec_on e.1))) ((nat_lit 0), (nat_lit 27), (nat_lit 0), (nat_lit 5), (Int.ofNat (nat_lit 3)), (nat_lit 1)) := ⟨ec_T0, ec_y0, ⟨"WarmNight$Carriage", 20, rfl, by decide, ew_880, ec_c0⟩, rfl, Or.inr ⟨rfl, rfl⟩⟩
theorem el_p_6 : (fun e : Nat × Nat × Nat × Nat × Int × Nat => ∃ (T : u_T) (ty : Nat → FieldType), ek_F (ec_on e.1) e.2.1 e.2.2.1 e.2.2.2.1 T ty ∧ ek_tc (ty e.2.2.2.1) e.2.2.2.2.1 ∧ ((T e.2.2.2.1).2.2.2 = false ∨ ((T e.2.2.2.1).2.2.2 = true ∧ (T e.2.2.2.1).1 = ec_on e.1))) ((nat_lit 0), (nat_lit 30), (nat_lit 0), (nat_lit 6), (Int.ofNat (nat_lit 3)), (nat_lit 1)) := ⟨ec_T0, ec_y0, ⟨"WarmNight$Carriage", 20, rfl, by decide, ew_881, ec_c0⟩, rfl, Or.inr ⟨rfl, rfl⟩⟩
theorem el_p_7 : (fun e : Nat × Nat × Nat × Nat × Int × Nat => ∃ (T : u_T) (ty : Nat → FieldType), ek_F (ec_on e.1) e.2.1 e.2.2.1 e.2.2.2.1 T ty ∧ ek_tc (ty e.2.2.2.1) e.2.2.2.2.1 ∧ ((T e.2.2.2.1).2.2.2 = false ∨ ((T e.2.2.2.1).2.2.2 = true ∧ (T e.2.2.2.1).1 = ec_on e.1))) ((nat_lit 0), (nat_lit 33), (nat_lit 0), (nat_lit 7), (Int.ofNat (nat_lit 3)), (nat_lit 1)) := ⟨ec_T0, ec_y0, ⟨"WarmNight$Carriage", 20, rfl, by decide, ew_882, ec_c0⟩, rfl, Or.inr ⟨rfl, rfl⟩⟩
theorem el_p_8 : (fun e : Nat × Nat × Nat × Nat × Int × Nat => ∃ (T : u_T) (ty : Nat → FieldType), ek_F (ec_on e.1) e.2.1 e.2.2.1 e.2.2.2.1 T ty ∧ ek_tc (ty e.2.2.2.1) e.2.2.2.2.1 ∧ ((T e.2.2.2.1).2.2.2 = false ∨ ((T e.2.2.2.1).2.2.2 = true ∧ (T e.2.2.2.1).1 = ec_on e.1))) ((nat_lit 0), (nat_lit 36), (nat_lit 0), (nat_lit 8), (Int.ofNat (nat_lit 3)), (nat_lit 1)) := ⟨ec_T0, ec_y0, ⟨"WarmNight$Carriage", 20, rfl, by decide, ew_883, ec_c0⟩, rfl, Or.inr ⟨rfl, rfl⟩⟩
theorem el_p_9 : (fun e : Nat × Nat × Nat × Nat × Int × Nat => ∃ (T : u_T) (ty : Nat → FieldType), ek_F (ec_on e.1) e.2.1 e.2.2.1 e.2.2.2.1 T ty ∧ ek_tc (ty e.2.2.2.1) e.2.2.2.2.1 ∧ ((T e.2.2.2.1).2.2.2 = false ∨ ((T e.2.2.2.1).2.2.2 = true ∧ (T e.2.2.2.1).1 = ec_on e.1))) ((nat_lit 0), (nat_lit 39), (nat_lit 0), (nat_lit 9), (Int.ofNat (nat_lit 3)), (nat_lit 1)) := ⟨ec_T0, ec_y0, ⟨"WarmNight$Carriage", 20, rfl, by decide, ew_884, ec_c0⟩, rfl, Or.inr ⟨rfl, rfl⟩⟩
theorem el_p_10 : (fun e : Nat × Nat × Nat × Nat × Int × Nat => ∃ (T : u_T) (ty : Nat → FieldType), ek_F (ec_on e.1) e.2.1 e.2.2.1 e.2.2.2.1 T ty ∧ ek_tc (ty e.2.2.2.1) e.2.2.2.2.1 ∧ ((T e.2.2.2.1).2.2.2 = false ∨ ((T e.2.2.2.1).2.2.2 = true ∧ (T e.2.2.2.1).1 = ec_on e.1))) ((nat_lit 0), (nat_lit 42), (nat_lit 0), (nat_lit 10), (Int.ofNat (nat_lit 3)), (nat_lit 1)) := ⟨ec_T0, ec_y0, ⟨"WarmNight$Carriage", 20, rfl, by decide, ew_885, ec_c0⟩, rfl, Or.inr ⟨rfl, rfl⟩⟩
theorem el_p_11 : (fun e : Nat × Nat × Nat × Nat × Int × Nat => ∃ (T : u_T) (ty : Nat → FieldType), ek_F (ec_on e.1) e.2.1 e.2.2.1 e.2.2.2.1 T ty ∧ ek_tc (ty e.2.2.2.1) e.2.2.2.2.1 ∧ ((T e.2.2.2.1).2.2.2 = false ∨ ((T e.2.2.2.1).2.2.2 = true ∧ (T e.2.2.2.1).1 = ec_on e.1))) ((nat_lit 0), (nat_lit 45), (nat_lit 0), (nat_lit 11), (Int.ofNat (nat_lit 3)), (nat_lit 1)) := ⟨ec_T0, ec_y0, ⟨"WarmNight$Carriage", 20, rfl, by decide, ew_886, ec_c0⟩, rfl, Or.inr ⟨rfl, rfl⟩⟩
theorem el_p_12 : (fun e : Nat × Nat × Nat × Nat × Int × Nat => ∃ (T : u_T) (ty : Nat → FieldType), ek_F (ec_on e.1) e.2.1 e.2.2.1 e.2.2.2.1 T ty ∧ ek_tc (ty e.2.2.2.1) e.2.2.2.2.1 ∧ ((T e.2.2.2.1).2.2.2 = false ∨ ((T e.2.2.2.1).2.2.2 = true ∧ (T e.2.2.2.1).1 = ec_on e.1))) ((nat_lit 0), (nat_lit 48), (nat_lit 0), (nat_lit 12), (Int.ofNat (nat_lit 3)), (nat_lit 1)) := ⟨ec_T0, ec_y0, ⟨"WarmNight$Carriage", 20, rfl, by decide, ew_887, ec_c0⟩, rfl, Or.inr ⟨rfl, rfl⟩⟩
theorem el_p_13 : (fun e : Nat × Nat × Nat × Nat × Int × Nat => ∃ (T : u_T) (ty : Nat → FieldType), ek_F (ec_on e.1) e.2.1 e.2.2.1 e.2.2.2.1 T ty ∧ ek_tc (ty e.2.2.2.1) e.2.2.2.2.1 ∧ ((T e.2.2.2.1).2.2.2 = false ∨ ((T e.2.2.2.1).2.2.2 = true ∧ (T e.2.2.2.1).1 = ec_on e.1))) ((nat_lit 0), (nat_lit 53), (nat_lit 0), (nat_lit 13), (Int.ofNat (nat_lit 3)), (nat_lit 1)) := ⟨ec_T0, ec_y0, ⟨"WarmNight$Carriage", 20, rfl, by decide, ew_889, ec_c0⟩, rfl, Or.inr ⟨rfl, rfl⟩⟩
theorem el_p_14 : (fun e : Nat × Nat × Nat × Nat × Int × Nat => ∃ (T : u_T) (ty : Nat → FieldType), ek_F (ec_on e.1) e.2.1 e.2.2.1 e.2.2.2.1 T ty ∧ ek_tc (ty e.2.2.2.1) e.2.2.2.2.1 ∧ ((T e.2.2.2.1).2.2.2 = false ∨ ((T e.2.2.2.1).2.2.2 = true ∧ (T e.2.2.2.1).1 = ec_on e.1))) ((nat_lit 0), (nat_lit 68), (nat_lit 0), (nat_lit 14), (Int.ofNat (nat_lit 0)), (nat_lit 0)) := ⟨ec_T0, ec_y0, ⟨"WarmNight$Carriage", 20, rfl, by decide, ew_892, ec_c0⟩, rfl, Or.inl rfl⟩
theorem el_p_15 : (fun e : Nat × Nat × Nat × Nat × Int × Nat => ∃ (T : u_T) (ty : Nat → FieldType), ek_F (ec_on e.1) e.2.1 e.2.2.1 e.2.2.2.1 T ty ∧ ek_tc (ty e.2.2.2.1) e.2.2.2.2.1 ∧ ((T e.2.2.2.1).2.2.2 = false ∨ ((T e.2.2.2.1).2.2.2 = true ∧ (T e.2.2.2.1).1 = ec_on e.1))) ((nat_lit 0), (nat_lit 72), (nat_lit 0), (nat_lit 15), (Int.ofNat (nat_lit 0)), (nat_lit 0)) := ⟨ec_T0, ec_y0, ⟨"WarmNight$Carriage", 20, rfl, by decide, ew_893, ec_c0⟩, rfl, Or.inl rfl⟩
theorem el_p_16 : (fun e : Nat × Nat × Nat × Nat × Int × Nat => ∃ (T : u_T) (ty : Nat → FieldType), ek_F (ec_on e.1) e.2.1 e.2.2.1 e.2.2.2.1 T ty ∧ ek_tc (ty e.2.2.2.1) e.2.2.2.2.1 ∧ ((T e.2.2.2.1).2.2.2 = false ∨ ((T e.2.2.2.1).2.2.2 = true ∧ (T e.2.2.2.1).1 = ec_on e.1))) ((nat_lit 0), (nat_lit 75), (nat_lit 0), (nat_lit 16), (Int.ofNat (nat_lit 0)), (nat_lit 0)) := ⟨ec_T0, ec_y0, ⟨"WarmNight$Carriage", 20, rfl, by decide, ew_894, ec_c0⟩, rfl, Or.inl rfl⟩
theorem el_p_17 : (fun e : Nat × Nat × Nat × Nat × Int × Nat => ∃ (T : u_T) (ty : Nat → FieldType), ek_F (ec_on e.1) e.2.1 e.2.2.1 e.2.2.2.1 T ty ∧ ek_tc (ty e.2.2.2.1) e.2.2.2.2.1 ∧ ((T e.2.2.2.1).2.2.2 = false ∨ ((T e.2.2.2.1).2.2.2 = true ∧ (T e.2.2.2.1).1 = ec_on e.1))) ((nat_lit 0), (nat_lit 78), (nat_lit 0), (nat_lit 17), (Int.ofNat (nat_lit 0)), (nat_lit 0)) := ⟨ec_T0, ec_y0, ⟨"WarmNight$Carriage", 20, rfl, by decide, ew_895, ec_c0⟩, rfl, Or.inl rfl⟩
theorem el_p_18 : (fun e : Nat × Nat × Nat × Nat × Int × Nat => ∃ (T : u_T) (ty : Nat → FieldType), ek_F (ec_on e.1) e.2.1 e.2.2.1 e.2.2.2.1 T ty ∧ ek_tc (ty e.2.2.2.1) e.2.2.2.2.1 ∧ ((T e.2.2.2.1).2.2.2 = false ∨ ((T e.2.2.2.1).2.2.2 = true ∧ (T e.2.2.2.1).1 = ec_on e.1))) ((nat_lit 0), (nat_lit 81), (nat_lit 0), (nat_lit 18), (Int.ofNat (nat_lit 0)), (nat_lit 0)) := ⟨ec_T0, ec_y0, ⟨"WarmNight$Carriage", 20, rfl, by decide, ew_896, ec_c0⟩, rfl, Or.inl rfl⟩
theorem el_p_19 : (fun e : Nat × Nat × Nat × Nat × Int × Nat => ∃ (T : u_T) (ty : Nat → FieldType), ek_F (ec_on e.1) e.2.1 e.2.2.1 e.2.2.2.1 T ty ∧ ek_tc (ty e.2.2.2.1) e.2.2.2.2.1 ∧ ((T e.2.2.2.1).2.2.2 = false ∨ ((T e.2.2.2.1).2.2.2 = true ∧ (T e.2.2.2.1).1 = ec_on e.1))) ((nat_lit 0), (nat_lit 84), (nat_lit 0), (nat_lit 19), (Int.ofNat (nat_lit 1)), (nat_lit 0)) := ⟨ec_T0, ec_y0, ⟨"WarmNight$Carriage", 20, rfl, by decide, ew_897, ec_c0⟩, rfl, Or.inl rfl⟩
theorem el_p_20 : (fun e : Nat × Nat × Nat × Nat × Int × Nat => ∃ (T : u_T) (ty : Nat → FieldType), ek_F (ec_on e.1) e.2.1 e.2.2.1 e.2.2.2.1 T ty ∧ ek_tc (ty e.2.2.2.1) e.2.2.2.2.1 ∧ ((T e.2.2.2.1).2.2.2 = false ∨ ((T e.2.2.2.1).2.2.2 = true ∧ (T e.2.2.2.1).1 = ec_on e.1))) ((nat_lit 5), (nat_lit 11), (nat_lit 5), (nat_lit 1), (Int.ofNat (nat_lit 3)), (nat_lit 1)) := ⟨ec_T5, ec_y5, ⟨"WarmNight$Night", 16, rfl, by decide, ew_908, ec_c5⟩, rfl, Or.inr ⟨rfl, rfl⟩⟩
theorem el_p_21 : (fun e : Nat × Nat × Nat × Nat × Int × Nat => ∃ (T : u_T) (ty : Nat → FieldType), ek_F (ec_on e.1) e.2.1 e.2.2.1 e.2.2.2.1 T ty ∧ ek_tc (ty e.2.2.2.1) e.2.2.2.2.1 ∧ ((T e.2.2.2.1).2.2.2 = false ∨ ((T e.2.2.2.1).2.2.2 = true ∧ (T e.2.2.2.1).1 = ec_on e.1))) ((nat_lit 5), (nat_lit 16), (nat_lit 5), (nat_lit 2), (Int.ofNat (nat_lit 3)), (nat_lit 1)) := ⟨ec_T5, ec_y5, ⟨"WarmNight$Night", 16, rfl, by decide, ew_909, ec_c5⟩, rfl, Or.inr ⟨rfl, rfl⟩⟩
theorem el_p_22 : (fun e : Nat × Nat × Nat × Nat × Int × Nat => ∃ (T : u_T) (ty : Nat → FieldType), ek_F (ec_on e.1) e.2.1 e.2.2.1 e.2.2.2.1 T ty ∧ ek_tc (ty e.2.2.2.1) e.2.2.2.2.1 ∧ ((T e.2.2.2.1).2.2.2 = false ∨ ((T e.2.2.2.1).2.2.2 = true ∧ (T e.2.2.2.1).1 = ec_on e.1))) ((nat_lit 5), (nat_lit 20), (nat_lit 5), (nat_lit 3), (Int.ofNat (nat_lit 3)), (nat_lit 1)) := ⟨ec_T5, ec_y5, ⟨"WarmNight$Night", 16, rfl, by decide, ew_910, ec_c5⟩, rfl, Or.inr ⟨rfl, rfl⟩⟩
theorem el_p_23 : (fun e : Nat × Nat × Nat × Nat × Int × Nat => ∃ (T : u_T) (ty : Nat → FieldType), ek_F (ec_on e.1) e.2.1 e.2.2.1 e.2.2.2.1 T ty ∧ ek_tc (ty e.2.2.2.1) e.2.2.2.2.1 ∧ ((T e.2.2.2.1).2.2.2 = false ∨ ((T e.2.2.2.1).2.2.2 = true ∧ (T e.2.2.2.1).1 = ec_on e.1))) ((nat_lit 5), (nat_lit 23), (nat_lit 5), (nat_lit 4), (Int.ofNat (nat_lit 3)), (nat_lit 1)) := ⟨ec_T5, ec_y5, ⟨"WarmNight$Night", 16, rfl, by decide, ew_911, ec_c5⟩, rfl, Or.inr ⟨rfl, rfl⟩⟩
theorem el_p_24 : (fun e : Nat × Nat × Nat × Nat × Int × Nat => ∃ (T : u_T) (ty : Nat → FieldType), ek_F (ec_on e.1) e.2.1 e.2.2.1 e.2.2.2.1 T ty ∧ ek_tc (ty e.2.2.2.1) e.2.2.2.2.1 ∧ ((T e.2.2.2.1).2.2.2 = false ∨ ((T e.2.2.2.1).2.2.2 = true ∧ (T e.2.2.2.1).1 = ec_on e.1))) ((nat_lit 5), (nat_lit 26), (nat_lit 5), (nat_lit 5), (Int.ofNat (nat_lit 3)), (nat_lit 1)) := ⟨ec_T5, ec_y5, ⟨"WarmNight$Night", 16, rfl, by decide, ew_912, ec_c5⟩, rfl, Or.inr ⟨rfl, rfl⟩⟩
theorem el_p_25 : (fun e : Nat × Nat × Nat × Nat × Int × Nat => ∃ (T : u_T) (ty : Nat → FieldType), ek_F (ec_on e.1) e.2.1 e.2.2.1 e.2.2.2.1 T ty ∧ ek_tc (ty e.2.2.2.1) e.2.2.2.2.1 ∧ ((T e.2.2.2.1).2.2.2 = false ∨ ((T e.2.2.2.1).2.2.2 = true ∧ (T e.2.2.2.1).1 = ec_on e.1))) ((nat_lit 5), (nat_lit 29), (nat_lit 5), (nat_lit 6), (Int.ofNat (nat_lit 3)), (nat_lit 1)) := ⟨ec_T5, ec_y5, ⟨"WarmNight$Night", 16, rfl, by decide, ew_913, ec_c5⟩, rfl, Or.inr ⟨rfl, rfl⟩⟩
theorem el_p_26 : (fun e : Nat × Nat × Nat × Nat × Int × Nat => ∃ (T : u_T) (ty : Nat → FieldType), ek_F (ec_on e.1) e.2.1 e.2.2.1 e.2.2.2.1 T ty ∧ ek_tc (ty e.2.2.2.1) e.2.2.2.2.1 ∧ ((T e.2.2.2.1).2.2.2 = false ∨ ((T e.2.2.2.1).2.2.2 = true ∧ (T e.2.2.2.1).1 = ec_on e.1))) ((nat_lit 5), (nat_lit 32), (nat_lit 5), (nat_lit 7), (Int.ofNat (nat_lit 3)), (nat_lit 1)) := ⟨ec_T5, ec_y5, ⟨"WarmNight$Night", 16, rfl, by decide, ew_914, ec_c5⟩, rfl, Or.inr ⟨rfl, rfl⟩⟩
theorem el_p_27 : (fun e : Nat × Nat × Nat × Nat × Int × Nat => ∃ (T : u_T) (ty : Nat → FieldType), ek_F (ec_on e.1) e.2.1 e.2.2.1 e.2.2.2.1 T ty ∧ ek_tc (ty e.2.2.2.1) e.2.2.2.2.1 ∧ ((T e.2.2.2.1).2.2.2 = false ∨ ((T e.2.2.2.1).2.2.2 = true ∧ (T e.2.2.2.1).1 = ec_on e.1))) ((nat_lit 5), (nat_lit 35), (nat_lit 5), (nat_lit 8), (Int.ofNat (nat_lit 3)), (nat_lit 1)) := ⟨ec_T5, ec_y5, ⟨"WarmNight$Night", 16, rfl, by decide, ew_915, ec_c5⟩, rfl, Or.inr ⟨rfl, rfl⟩⟩
theorem el_p_28 : (fun e : Nat × Nat × Nat × Nat × Int × Nat => ∃ (T : u_T) (ty : Nat → FieldType), ek_F (ec_on e.1) e.2.1 e.2.2.1 e.2.2.2.1 T ty ∧ ek_tc (ty e.2.2.2.1) e.2.2.2.2.1 ∧ ((T e.2.2.2.1).2.2.2 = false ∨ ((T e.2.2.2.1).2.2.2 = true ∧ (T e.2.2.2.1).1 = ec_on e.1))) ((nat_lit 5), (nat_lit 38), (nat_lit 5), (nat_lit 9), (Int.ofNat (nat_lit 3)), (nat_lit 1)) := ⟨ec_T5, ec_y5, ⟨"WarmNight$Night", 16, rfl, by decide, ew_916, ec_c5⟩, rfl, Or.inr ⟨rfl, rfl⟩⟩
theorem el_p_29 : (fun e : Nat × Nat × Nat × Nat × Int × Nat => ∃ (T : u_T) (ty : Nat → FieldType), ek_F (ec_on e.1) e.2.1 e.2.2.1 e.2.2.2.1 T ty ∧ ek_tc (ty e.2.2.2.1) e.2.2.2.2.1 ∧ ((T e.2.2.2.1).2.2.2 = false ∨ ((T e.2.2.2.1).2.2.2 = true ∧ (T e.2.2.2.1).1 = ec_on e.1))) ((nat_lit 5), (nat_lit 41), (nat_lit 5), (nat_lit 10), (Int.ofNat (nat_lit 3)), (nat_lit 1)) := ⟨ec_T5, ec_y5, ⟨"WarmNight$Night", 16, rfl, by decide, ew_917, ec_c5⟩, rfl, Or.inr ⟨rfl, rfl⟩⟩
theorem el_p_30 : (fun e : Nat × Nat × Nat × Nat × Int × Nat => ∃ (T : u_T) (ty : Nat → FieldType), ek_F (ec_on e.1) e.2.1 e.2.2.1 e.2.2.2.1 T ty ∧ ek_tc (ty e.2.2.2.1) e.2.2.2.2.1 ∧ ((T e.2.2.2.1).2.2.2 = false ∨ ((T e.2.2.2.1).2.2.2 = true ∧ (T e.2.2.2.1).1 = ec_on e.1))) ((nat_lit 5), (nat_lit 44), (nat_lit 5), (nat_lit 11), (Int.ofNat (nat_lit 3)), (nat_lit 1)) := ⟨ec_T5, ec_y5, ⟨"WarmNight$Night", 16, rfl, by decide, ew_918, ec_c5⟩, rfl, Or.inr ⟨rfl, rfl⟩⟩
theorem el_p_31 : (fun e : Nat × Nat × Nat × Nat × Int × Nat => ∃ (T : u_T) (ty : Nat → FieldType), ek_F (ec_on e.1) e.2.1 e.2.2.1 e.2.2.2.1 T ty ∧ ek_tc (ty e.2.2.2.1) e.2.2.2.2.1 ∧ ((T e.2.2.2.1).2.2.2 = false ∨ ((T e.2.2.2.1).2.2.2 = true ∧ (T e.2.2.2.1).1 = ec_on e.1))) ((nat_lit 5), (nat_lit 47), (nat_lit 5), (nat_lit 12), (Int.ofNat (nat_lit 3)), (nat_lit 1)) := ⟨ec_T5, ec_y5, ⟨"WarmNight$Night", 16, rfl, by decide, ew_919, ec_c5⟩, rfl, Or.inr ⟨rfl, rfl⟩⟩
theorem el_p_32 : (fun e : Nat × Nat × Nat × Nat × Int × Nat => ∃ (T : u_T) (ty : Nat → FieldType), ek_F (ec_on e.1) e.2.1 e.2.2.1 e.2.2.2.1 T ty ∧ ek_tc (ty e.2.2.2.1) e.2.2.2.2.1 ∧ ((T e.2.2.2.1).2.2.2 = false ∨ ((T e.2.2.2.1).2.2.2 = true ∧ (T e.2.2.2.1).1 = ec_on e.1))) ((nat_lit 5), (nat_lit 50), (nat_lit 5), (nat_lit 13), (Int.ofNat (nat_lit 3)), (nat_lit 1)) := ⟨ec_T5, ec_y5, ⟨"WarmNight$Night", 16, rfl, by decide, ew_920, ec_c5⟩, rfl, Or.inr ⟨rfl, rfl⟩⟩
theorem el_p_33 : (fun e : Nat × Nat × Nat × Nat × Int × Nat => ∃ (T : u_T) (ty : Nat → FieldType), ek_F (ec_on e.1) e.2.1 e.2.2.1 e.2.2.2.1 T ty ∧ ek_tc (ty e.2.2.2.1) e.2.2.2.2.1 ∧ ((T e.2.2.2.1).2.2.2 = false ∨ ((T e.2.2.2.1).2.2.2 = true ∧ (T e.2.2.2.1).1 = ec_on e.1))) ((nat_lit 5), (nat_lit 53), (nat_lit 5), (nat_lit 14), (Int.ofNat (nat_lit 3)), (nat_lit 1)) := ⟨ec_T5, ec_y5, ⟨"WarmNight$Night", 16, rfl, by decide, ew_921, ec_c5⟩, rfl, Or.inr ⟨rfl, rfl⟩⟩
theorem el_p_34 : (fun e : Nat × Nat × Nat × Nat × Int × Nat => ∃ (T : u_T) (ty : Nat → FieldType), ek_F (ec_on e.1) e.2.1 e.2.2.1 e.2.2.2.1 T ty ∧ ek_tc (ty e.2.2.2.1) e.2.2.2.2.1 ∧ ((T e.2.2.2.1).2.2.2 = false ∨ ((T e.2.2.2.1).2.2.2 = true ∧ (T e.2.2.2.1).1 = ec_on e.1))) ((nat_lit 5), (nat_lit 56), (nat_lit 5), (nat_lit 0), (Int.ofNat (nat_lit 3)), (nat_lit 1)) := ⟨ec_T5, ec_y5, ⟨"WarmNight$Night", 16, rfl, by decide, ew_922, ec_c5⟩, rfl, Or.inr ⟨rfl, rfl⟩⟩
theorem el_p_35 : (fun e : Nat × Nat × Nat × Nat × Int × Nat => ∃ (T : u_T) (ty : Nat → FieldType), ek_F (ec_on e.1) e.2.1 e.2.2.1 e.2.2.2.1 T ty ∧ ek_tc (ty e.2.2.2.1) e.2.2.2.2.1 ∧ ((T e.2.2.2.1).2.2.2 = false ∨ ((T e.2.2.2.1).2.2.2 = true ∧ (T e.2.2.2.1).1 = ec_on e.1))) ((nat_lit 5), (nat_lit 80), (nat_lit 5), (nat_lit 15), (Int.ofNat (nat_lit 0)), (nat_lit 0)) := ⟨ec_T5, ec_y5, ⟨"WarmNight$Night", 16, rfl, by decide, ew_923, ec_c5⟩, rfl, Or.inl rfl⟩
theorem el_p_36 : (fun e : Nat × Nat × Nat × Nat × Int × Nat => ∃ (T : u_T) (ty : Nat → FieldType), ek_F (ec_on e.1) e.2.1 e.2.2.1 e.2.2.2.1 T ty ∧ ek_tc (ty e.2.2.2.1) e.2.2.2.2.1 ∧ ((T e.2.2.2.1).2.2.2 = false ∨ ((T e.2.2.2.1).2.2.2 = true ∧ (T e.2.2.2.1).1 = ec_on e.1))) ((nat_lit 7), (nat_lit 9), (nat_lit 7), (nat_lit 2), (Int.ofNat (nat_lit 3)), (nat_lit 1)) := ⟨ec_T7, ec_y7, ⟨"WarmNight$Search", 7, rfl, by decide, ew_939, ec_c7⟩, rfl, Or.inr ⟨rfl, rfl⟩⟩
theorem el_p_37 : (fun e : Nat × Nat × Nat × Nat × Int × Nat => ∃ (T : u_T) (ty : Nat → FieldType), ek_F (ec_on e.1) e.2.1 e.2.2.1 e.2.2.2.1 T ty ∧ ek_tc (ty e.2.2.2.1) e.2.2.2.2.1 ∧ ((T e.2.2.2.1).2.2.2 = false ∨ ((T e.2.2.2.1).2.2.2 = true ∧ (T e.2.2.2.1).1 = ec_on e.1))) ((nat_lit 7), (nat_lit 15), (nat_lit 7), (nat_lit 3), (Int.ofNat (nat_lit 3)), (nat_lit 1)) := ⟨ec_T7, ec_y7, ⟨"WarmNight$Search", 7, rfl, by decide, ew_940, ec_c7⟩, rfl, Or.inr ⟨rfl, rfl⟩⟩
theorem el_p_38 : (fun e : Nat × Nat × Nat × Nat × Int × Nat => ∃ (T : u_T) (ty : Nat → FieldType), ek_F (ec_on e.1) e.2.1 e.2.2.1 e.2.2.2.1 T ty ∧ ek_tc (ty e.2.2.2.1) e.2.2.2.2.1 ∧ ((T e.2.2.2.1).2.2.2 = false ∨ ((T e.2.2.2.1).2.2.2 = true ∧ (T e.2.2.2.1).1 = ec_on e.1))) ((nat_lit 7), (nat_lit 18), (nat_lit 7), (nat_lit 0), (Int.ofNat (nat_lit 3)), (nat_lit 1)) := ⟨ec_T7, ec_y7, ⟨"WarmNight$Search", 7, rfl, by decide, ew_941, ec_c7⟩, rfl, Or.inr ⟨rfl, rfl⟩⟩
theorem el_p_39 : (fun e : Nat × Nat × Nat × Nat × Int × Nat => ∃ (T : u_T) (ty : Nat → FieldType), ek_F (ec_on e.1) e.2.1 e.2.2.1 e.2.2.2.1 T ty ∧ ek_tc (ty e.2.2.2.1) e.2.2.2.2.1 ∧ ((T e.2.2.2.1).2.2.2 = false ∨ ((T e.2.2.2.1).2.2.2 = true ∧ (T e.2.2.2.1).1 = ec_on e.1))) ((nat_lit 7), (nat_lit 22), (nat_lit 7), (nat_lit 1), (Int.ofNat (nat_lit 3)), (nat_lit 1)) := ⟨ec_T7, ec_y7, ⟨"WarmNight$Search", 7, rfl, by decide, ew_942, ec_c7⟩, rfl, Or.inr ⟨rfl, rfl⟩⟩
theorem el_p_40 : (fun e : Nat × Nat × Nat × Nat × Int × Nat => ∃ (T : u_T) (ty : Nat → FieldType), ek_F (ec_on e.1) e.2.1 e.2.2.1 e.2.2.2.1 T ty ∧ ek_tc (ty e.2.2.2.1) e.2.2.2.2.1 ∧ ((T e.2.2.2.1).2.2.2 = false ∨ ((T e.2.2.2.1).2.2.2 = true ∧ (T e.2.2.2.1).1 = ec_on e.1))) ((nat_lit 7), (nat_lit 32), (nat_lit 7), (nat_lit 4), (Int.ofNat (nat_lit 0)), (nat_lit 0)) := ⟨ec_T7, ec_y7, ⟨"WarmNight$Search", 7, rfl, by decide, ew_944, ec_c7⟩, rfl, Or.inl rfl⟩
theorem el_p_41 : (fun e : Nat × Nat × Nat × Nat × Int × Nat => ∃ (T : u_T) (ty : Nat → FieldType), ek_F (ec_on e.1) e.2.1 e.2.2.1 e.2.2.2.1 T ty ∧ ek_tc (ty e.2.2.2.1) e.2.2.2.2.1 ∧ ((T e.2.2.2.1).2.2.2 = false ∨ ((T e.2.2.2.1).2.2.2 = true ∧ (T e.2.2.2.1).1 = ec_on e.1))) ((nat_lit 7), (nat_lit 36), (nat_lit 7), (nat_lit 6), (Int.ofNat (nat_lit 0)), (nat_lit 0)) := ⟨ec_T7, ec_y7, ⟨"WarmNight$Search", 7, rfl, by decide, ew_945, ec_c7⟩, rfl, Or.inl rfl⟩
theorem el_p_42 : (fun e : Nat × Nat × Nat × Nat × Int × Nat => ∃ (T : u_T) (ty : Nat → FieldType), ek_F (ec_on e.1) e.2.1 e.2.2.1 e.2.2.2.1 T ty ∧ ek_tc (ty e.2.2.2.1) e.2.2.2.2.1 ∧ ((T e.2.2.2.1).2.2.2 = false ∨ ((T e.2.2.2.1).2.2.2 = true ∧ (T e.2.2.2.1).1 = ec_on e.1))) ((nat_lit 7), (nat_lit 39), (nat_lit 7), (nat_lit 5), (Int.ofNat (nat_lit 0)), (nat_lit 0)) := ⟨ec_T7, ec_y7, ⟨"WarmNight$Search", 7, rfl, by decide, ew_946, ec_c7⟩, rfl, Or.inl rfl⟩
theorem el_p_43 : (fun e : Nat × Nat × Nat × Nat × Int × Nat => ∃ (T : u_T) (ty : Nat → FieldType), ek_F (ec_on e.1) e.2.1 e.2.2.1 e.2.2.2.1 T ty ∧ ek_tc (ty e.2.2.2.1) e.2.2.2.2.1 ∧ ((T e.2.2.2.1).2.2.2 = false ∨ ((T e.2.2.2.1).2.2.2 = true ∧ (T e.2.2.2.1).1 = ec_on e.1))) ((nat_lit 7), (nat_lit 26), (nat_lit 0), (nat_lit 19), (Int.ofNat (nat_lit 1)), (nat_lit 0)) := ⟨ec_T0, ec_y0, ⟨"WarmNight$Carriage", 20, rfl, by decide, ew_943, ec_c0⟩, rfl, Or.inl rfl⟩
theorem el_p_44 : (fun e : Nat × Nat × Nat × Nat × Int × Nat => ∃ (T : u_T) (ty : Nat → FieldType), ek_F (ec_on e.1) e.2.1 e.2.2.1 e.2.2.2.1 T ty ∧ ek_tc (ty e.2.2.2.1) e.2.2.2.2.1 ∧ ((T e.2.2.2.1).2.2.2 = false ∨ ((T e.2.2.2.1).2.2.2 = true ∧ (T e.2.2.2.1).1 = ec_on e.1))) ((nat_lit 8), (nat_lit 9), (nat_lit 8), (nat_lit 2), (Int.ofNat (nat_lit 3)), (nat_lit 1)) := ⟨ec_T8, ec_y8, ⟨"WarmNight$Sharing", 8, rfl, by decide, ew_954, ec_c8⟩, rfl, Or.inr ⟨rfl, rfl⟩⟩
theorem el_p_45 : (fun e : Nat × Nat × Nat × Nat × Int × Nat => ∃ (T : u_T) (ty : Nat → FieldType), ek_F (ec_on e.1) e.2.1 e.2.2.1 e.2.2.2.1 T ty ∧ ek_tc (ty e.2.2.2.1) e.2.2.2.2.1 ∧ ((T e.2.2.2.1).2.2.2 = false ∨ ((T e.2.2.2.1).2.2.2 = true ∧ (T e.2.2.2.1).1 = ec_on e.1))) ((nat_lit 8), (nat_lit 15), (nat_lit 8), (nat_lit 3), (Int.ofNat (nat_lit 3)), (nat_lit 1)) := ⟨ec_T8, ec_y8, ⟨"WarmNight$Sharing", 8, rfl, by decide, ew_955, ec_c8⟩, rfl, Or.inr ⟨rfl, rfl⟩⟩
theorem el_p_46 : (fun e : Nat × Nat × Nat × Nat × Int × Nat => ∃ (T : u_T) (ty : Nat → FieldType), ek_F (ec_on e.1) e.2.1 e.2.2.1 e.2.2.2.1 T ty ∧ ek_tc (ty e.2.2.2.1) e.2.2.2.2.1 ∧ ((T e.2.2.2.1).2.2.2 = false ∨ ((T e.2.2.2.1).2.2.2 = true ∧ (T e.2.2.2.1).1 = ec_on e.1))) ((nat_lit 8), (nat_lit 18), (nat_lit 8), (nat_lit 4), (Int.ofNat (nat_lit 3)), (nat_lit 1)) := ⟨ec_T8, ec_y8, ⟨"WarmNight$Sharing", 8, rfl, by decide, ew_956, ec_c8⟩, rfl, Or.inr ⟨rfl, rfl⟩⟩
theorem el_p_47 : (fun e : Nat × Nat × Nat × Nat × Int × Nat => ∃ (T : u_T) (ty : Nat → FieldType), ek_F (ec_on e.1) e.2.1 e.2.2.1 e.2.2.2.1 T ty ∧ ek_tc (ty e.2.2.2.1) e.2.2.2.2.1 ∧ ((T e.2.2.2.1).2.2.2 = false ∨ ((T e.2.2.2.1).2.2.2 = true ∧ (T e.2.2.2.1).1 = ec_on e.1))) ((nat_lit 8), (nat_lit 23), (nat_lit 8), (nat_lit 6), (Int.ofNat (nat_lit 3)), (nat_lit 1)) := ⟨ec_T8, ec_y8, ⟨"WarmNight$Sharing", 8, rfl, by decide, ew_958, ec_c8⟩, rfl, Or.inr ⟨rfl, rfl⟩⟩
theorem el_p_48 : (fun e : Nat × Nat × Nat × Nat × Int × Nat => ∃ (T : u_T) (ty : Nat → FieldType), ek_F (ec_on e.1) e.2.1 e.2.2.1 e.2.2.2.1 T ty ∧ ek_tc (ty e.2.2.2.1) e.2.2.2.2.1 ∧ ((T e.2.2.2.1).2.2.2 = false ∨ ((T e.2.2.2.1).2.2.2 = true ∧ (T e.2.2.2.1).1 = ec_on e.1))) ((nat_lit 8), (nat_lit 26), (nat_lit 8), (nat_lit 7), (Int.ofNat (nat_lit 3)), (nat_lit 1)) := ⟨ec_T8, ec_y8, ⟨"WarmNight$Sharing", 8, rfl, by decide, ew_959, ec_c8⟩, rfl, Or.inr ⟨rfl, rfl⟩⟩
theorem el_p_49 : (fun e : Nat × Nat × Nat × Nat × Int × Nat => ∃ (T : u_T) (ty : Nat → FieldType), ek_F (ec_on e.1) e.2.1 e.2.2.1 e.2.2.2.1 T ty ∧ ek_tc (ty e.2.2.2.1) e.2.2.2.2.1 ∧ ((T e.2.2.2.1).2.2.2 = false ∨ ((T e.2.2.2.1).2.2.2 = true ∧ (T e.2.2.2.1).1 = ec_on e.1))) ((nat_lit 8), (nat_lit 29), (nat_lit 8), (nat_lit 0), (Int.ofNat (nat_lit 3)), (nat_lit 1)) := ⟨ec_T8, ec_y8, ⟨"WarmNight$Sharing", 8, rfl, by decide, ew_960, ec_c8⟩, rfl, Or.inr ⟨rfl, rfl⟩⟩
theorem el_p_50 : (fun e : Nat × Nat × Nat × Nat × Int × Nat => ∃ (T : u_T) (ty : Nat → FieldType), ek_F (ec_on e.1) e.2.1 e.2.2.1 e.2.2.2.1 T ty ∧ ek_tc (ty e.2.2.2.1) e.2.2.2.2.1 ∧ ((T e.2.2.2.1).2.2.2 = false ∨ ((T e.2.2.2.1).2.2.2 = true ∧ (T e.2.2.2.1).1 = ec_on e.1))) ((nat_lit 8), (nat_lit 33), (nat_lit 8), (nat_lit 1), (Int.ofNat (nat_lit 3)), (nat_lit 1)) := ⟨ec_T8, ec_y8, ⟨"WarmNight$Sharing", 8, rfl, by decide, ew_961, ec_c8⟩, rfl, Or.inr ⟨rfl, rfl⟩⟩
theorem el_p_51 : (fun e : Nat × Nat × Nat × Nat × Int × Nat => ∃ (T : u_T) (ty : Nat → FieldType), ek_F (ec_on e.1) e.2.1 e.2.2.1 e.2.2.2.1 T ty ∧ ek_tc (ty e.2.2.2.1) e.2.2.2.2.1 ∧ ((T e.2.2.2.1).2.2.2 = false ∨ ((T e.2.2.2.1).2.2.2 = true ∧ (T e.2.2.2.1).1 = ec_on e.1))) ((nat_lit 8), (nat_lit 64), (nat_lit 8), (nat_lit 5), (Int.ofNat (nat_lit 0)), (nat_lit 0)) := ⟨ec_T8, ec_y8, ⟨"WarmNight$Sharing", 8, rfl, by decide, ew_965, ec_c8⟩, rfl, Or.inl rfl⟩
theorem el_p_52 : (fun e : Nat × Nat × Nat × Nat × Int × Nat => ∃ (T : u_T) (ty : Nat → FieldType), ek_F (ec_on e.1) e.2.1 e.2.2.1 e.2.2.2.1 T ty ∧ ek_tc (ty e.2.2.2.1) e.2.2.2.2.1 ∧ ((T e.2.2.2.1).2.2.2 = false ∨ ((T e.2.2.2.1).2.2.2 = true ∧ (T e.2.2.2.1).1 = ec_on e.1))) ((nat_lit 9), (nat_lit 9), (nat_lit 9), (nat_lit 0), (Int.ofNat (nat_lit 3)), (nat_lit 1)) := ⟨ec_T9, ec_y9, ⟨"WarmNight$Text", 6, rfl, by decide, ew_974, ec_c9⟩, rfl, Or.inr ⟨rfl, rfl⟩⟩
theorem el_p_53 : (fun e : Nat × Nat × Nat × Nat × Int × Nat => ∃ (T : u_T) (ty : Nat → FieldType), ek_F (ec_on e.1) e.2.1 e.2.2.1 e.2.2.2.1 T ty ∧ ek_tc (ty e.2.2.2.1) e.2.2.2.2.1 ∧ ((T e.2.2.2.1).2.2.2 = false ∨ ((T e.2.2.2.1).2.2.2 = true ∧ (T e.2.2.2.1).1 = ec_on e.1))) ((nat_lit 9), (nat_lit 15), (nat_lit 9), (nat_lit 2), (Int.ofNat (nat_lit 3)), (nat_lit 1)) := ⟨ec_T9, ec_y9, ⟨"WarmNight$Text", 6, rfl, by decide, ew_975, ec_c9⟩, rfl, Or.inr ⟨rfl, rfl⟩⟩
theorem el_p_54 : (fun e : Nat × Nat × Nat × Nat × Int × Nat => ∃ (T : u_T) (ty : Nat → FieldType), ek_F (ec_on e.1) e.2.1 e.2.2.1 e.2.2.2.1 T ty ∧ ek_tc (ty e.2.2.2.1) e.2.2.2.2.1 ∧ ((T e.2.2.2.1).2.2.2 = false ∨ ((T e.2.2.2.1).2.2.2 = true ∧ (T e.2.2.2.1).1 = ec_on e.1))) ((nat_lit 9), (nat_lit 20), (nat_lit 9), (nat_lit 3), (Int.ofNat (nat_lit 3)), (nat_lit 1)) := ⟨ec_T9, ec_y9, ⟨"WarmNight$Text", 6, rfl, by decide, ew_977, ec_c9⟩, rfl, Or.inr ⟨rfl, rfl⟩⟩
theorem el_p_55 : (fun e : Nat × Nat × Nat × Nat × Int × Nat => ∃ (T : u_T) (ty : Nat → FieldType), ek_F (ec_on e.1) e.2.1 e.2.2.1 e.2.2.2.1 T ty ∧ ek_tc (ty e.2.2.2.1) e.2.2.2.2.1 ∧ ((T e.2.2.2.1).2.2.2 = false ∨ ((T e.2.2.2.1).2.2.2 = true ∧ (T e.2.2.2.1).1 = ec_on e.1))) ((nat_lit 9), (nat_lit 28), (nat_lit 9), (nat_lit 1), (Int.ofNat (nat_lit 0)), (nat_lit 0)) := ⟨ec_T9, ec_y9, ⟨"WarmNight$Text", 6, rfl, by decide, ew_979, ec_c9⟩, rfl, Or.inl rfl⟩
theorem el_p_56 : (fun e : Nat × Nat × Nat × Nat × Int × Nat => ∃ (T : u_T) (ty : Nat → FieldType), ek_F (ec_on e.1) e.2.1 e.2.2.1 e.2.2.2.1 T ty ∧ ek_tc (ty e.2.2.2.1) e.2.2.2.2.1 ∧ ((T e.2.2.2.1).2.2.2 = false ∨ ((T e.2.2.2.1).2.2.2 = true ∧ (T e.2.2.2.1).1 = ec_on e.1))) ((nat_lit 9), (nat_lit 35), (nat_lit 9), (nat_lit 5), (Int.ofNat (nat_lit 0)), (nat_lit 0)) := ⟨ec_T9, ec_y9, ⟨"WarmNight$Text", 6, rfl, by decide, ew_982, ec_c9⟩, rfl, Or.inl rfl⟩
theorem el_p_57 : (fun e : Nat × Nat × Nat × Nat × Int × Nat => ∃ (T : u_T) (ty : Nat → FieldType), ek_F (ec_on e.1) e.2.1 e.2.2.1 e.2.2.2.1 T ty ∧ ek_tc (ty e.2.2.2.1) e.2.2.2.2.1 ∧ ((T e.2.2.2.1).2.2.2 = false ∨ ((T e.2.2.2.1).2.2.2 = true ∧ (T e.2.2.2.1).1 = ec_on e.1))) ((nat_lit 9), (nat_lit 41), (nat_lit 9), (nat_lit 4), (Int.ofNat (nat_lit 0)), (nat_lit 0)) := ⟨ec_T9, ec_y9, ⟨"WarmNight$Text", 6, rfl, by decide, ew_983, ec_c9⟩, rfl, Or.inl rfl⟩
theorem el_p_58 : (fun e : Nat × Nat × Nat × Nat × Int × Nat => ∃ (T : u_T) (ty : Nat → FieldType), ek_F (ec_on e.1) e.2.1 e.2.2.1 e.2.2.2.1 T ty ∧ ek_tc (ty e.2.2.2.1) e.2.2.2.2.1 ∧ ((T e.2.2.2.1).2.2.2 = false ∨ ((T e.2.2.2.1).2.2.2 = true ∧ (T e.2.2.2.1).1 = ec_on e.1))) ((nat_lit 11), (nat_lit 12), (nat_lit 11), (nat_lit 0), (Int.ofNat (nat_lit 3)), (nat_lit 1)) := ⟨ec_T11, ec_y11, ⟨"WarmNight", 11, rfl, by decide, ew_988, ec_c11⟩, rfl, Or.inr ⟨rfl, rfl⟩⟩
theorem el_p_59 : (fun e : Nat × Nat × Nat × Nat × Int × Nat => ∃ (T : u_T) (ty : Nat → FieldType), ek_F (ec_on e.1) e.2.1 e.2.2.1 e.2.2.2.1 T ty ∧ ek_tc (ty e.2.2.2.1) e.2.2.2.2.1 ∧ ((T e.2.2.2.1).2.2.2 = false ∨ ((T e.2.2.2.1).2.2.2 = true ∧ (T e.2.2.2.1).1 = ec_on e.1))) ((nat_lit 11), (nat_lit 16), (nat_lit 11), (nat_lit 1), (Int.ofNat (nat_lit 3)), (nat_lit 1)) := ⟨ec_T11, ec_y11, ⟨"WarmNight", 11, rfl, by decide, ew_989, ec_c11⟩, rfl, Or.inr ⟨rfl, rfl⟩⟩
theorem el_p_60 : (fun e : Nat × Nat × Nat × Nat × Int × Nat => ∃ (T : u_T) (ty : Nat → FieldType), ek_F (ec_on e.1) e.2.1 e.2.2.1 e.2.2.2.1 T ty ∧ ek_tc (ty e.2.2.2.1) e.2.2.2.2.1 ∧ ((T e.2.2.2.1).2.2.2 = false ∨ ((T e.2.2.2.1).2.2.2 = true ∧ (T e.2.2.2.1).1 = ec_on e.1))) ((nat_lit 11), (nat_lit 19), (nat_lit 11), (nat_lit 2), (Int.ofNat (nat_lit 3)), (nat_lit 1)) := ⟨ec_T11, ec_y11, ⟨"WarmNight", 11, rfl, by decide, ew_990, ec_c11⟩, rfl, Or.inr ⟨rfl, rfl⟩⟩
theorem el_p_61 : (fun e : Nat × Nat × Nat × Nat × Int × Nat => ∃ (T : u_T) (ty : Nat → FieldType), ek_F (ec_on e.1) e.2.1 e.2.2.1 e.2.2.2.1 T ty ∧ ek_tc (ty e.2.2.2.1) e.2.2.2.2.1 ∧ ((T e.2.2.2.1).2.2.2 = false ∨ ((T e.2.2.2.1).2.2.2 = true ∧ (T e.2.2.2.1).1 = ec_on e.1))) ((nat_lit 11), (nat_lit 23), (nat_lit 11), (nat_lit 3), (Int.ofNat (nat_lit 3)), (nat_lit 1)) := ⟨ec_T11, ec_y11, ⟨"WarmNight", 11, rfl, by decide, ew_991, ec_c11⟩, rfl, Or.inr ⟨rfl, rfl⟩⟩
theorem el_p_62 : (fun e : Nat × Nat × Nat × Nat × Int × Nat => ∃ (T : u_T) (ty : Nat → FieldType), ek_F (ec_on e.1) e.2.1 e.2.2.1 e.2.2.2.1 T ty ∧ ek_tc (ty e.2.2.2.1) e.2.2.2.2.1 ∧ ((T e.2.2.2.1).2.2.2 = false ∨ ((T e.2.2.2.1).2.2.2 = true ∧ (T e.2.2.2.1).1 = ec_on e.1))) ((nat_lit 11), (nat_lit 30), (nat_lit 11), (nat_lit 4), (Int.ofNat (nat_lit 3)), (nat_lit 1)) := ⟨ec_T11, ec_y11, ⟨"WarmNight", 11, rfl, by decide, ew_994, ec_c11⟩, rfl, Or.inr ⟨rfl, rfl⟩⟩
theorem el_p_63 : (fun e : Nat × Nat × Nat × Nat × Int × Nat => ∃ (T : u_T) (ty : Nat → FieldType), ek_F (ec_on e.1) e.2.1 e.2.2.1 e.2.2.2.1 T ty ∧ ek_tc (ty e.2.2.2.1) e.2.2.2.2.1 ∧ ((T e.2.2.2.1).2.2.2 = false ∨ ((T e.2.2.2.1).2.2.2 = true ∧ (T e.2.2.2.1).1 = ec_on e.1))) ((nat_lit 11), (nat_lit 36), (nat_lit 11), (nat_lit 5), (Int.ofNat (nat_lit 3)), (nat_lit 1)) := ⟨ec_T11, ec_y11, ⟨"WarmNight", 11, rfl, by decide, ew_996, ec_c11⟩, rfl, Or.inr ⟨rfl, rfl⟩⟩
theorem el_p_64 : (fun e : Nat × Nat × Nat × Nat × Int × Nat => ∃ (T : u_T) (ty : Nat → FieldType), ek_F (ec_on e.1) e.2.1 e.2.2.1 e.2.2.2.1 T ty ∧ ek_tc (ty e.2.2.2.1) e.2.2.2.2.1 ∧ ((T e.2.2.2.1).2.2.2 = false ∨ ((T e.2.2.2.1).2.2.2 = true ∧ (T e.2.2.2.1).1 = ec_on e.1))) ((nat_lit 11), (nat_lit 45), (nat_lit 11), (nat_lit 6), (Int.ofNat (nat_lit 3)), (nat_lit 1)) := ⟨ec_T11, ec_y11, ⟨"WarmNight", 11, rfl, by decide, ew_999, ec_c11⟩, rfl, Or.inr ⟨rfl, rfl⟩⟩
theorem el_p_65 : (fun e : Nat × Nat × Nat × Nat × Int × Nat => ∃ (T : u_T) (ty : Nat → FieldType), ek_F (ec_on e.1) e.2.1 e.2.2.1 e.2.2.2.1 T ty ∧ ek_tc (ty e.2.2.2.1) e.2.2.2.2.1 ∧ ((T e.2.2.2.1).2.2.2 = false ∨ ((T e.2.2.2.1).2.2.2 = true ∧ (T e.2.2.2.1).1 = ec_on e.1))) ((nat_lit 11), (nat_lit 54), (nat_lit 11), (nat_lit 7), (Int.ofNat (nat_lit 3)), (nat_lit 1)) := ⟨ec_T11, ec_y11, ⟨"WarmNight", 11, rfl, by decide, ew_1002, ec_c11⟩, rfl, Or.inr ⟨rfl, rfl⟩⟩
theorem el_p_66 : (fun e : Nat × Nat × Nat × Nat × Int × Nat => ∃ (T : u_T) (ty : Nat → FieldType), ek_F (ec_on e.1) e.2.1 e.2.2.1 e.2.2.2.1 T ty ∧ ek_tc (ty e.2.2.2.1) e.2.2.2.2.1 ∧ ((T e.2.2.2.1).2.2.2 = false ∨ ((T e.2.2.2.1).2.2.2 = true ∧ (T e.2.2.2.1).1 = ec_on e.1))) ((nat_lit 11), (nat_lit 61), (nat_lit 11), (nat_lit 8), (Int.ofNat (nat_lit 3)), (nat_lit 1)) := ⟨ec_T11, ec_y11, ⟨"WarmNight", 11, rfl, by decide, ew_1005, ec_c11⟩, rfl, Or.inr ⟨rfl, rfl⟩⟩
theorem el_p_67 : (fun e : Nat × Nat × Nat × Nat × Int × Nat => ∃ (T : u_T) (ty : Nat → FieldType), ek_F (ec_on e.1) e.2.1 e.2.2.1 e.2.2.2.1 T ty ∧ ek_tc (ty e.2.2.2.1) e.2.2.2.2.1 ∧ ((T e.2.2.2.1).2.2.2 = false ∨ ((T e.2.2.2.1).2.2.2 = true ∧ (T e.2.2.2.1).1 = ec_on e.1))) ((nat_lit 11), (nat_lit 65), (nat_lit 11), (nat_lit 9), (Int.ofNat (nat_lit 2)), (nat_lit 0)) := ⟨ec_T11, ec_y11, ⟨"WarmNight", 11, rfl, by decide, ew_1006, ec_c11⟩, rfl, Or.inl rfl⟩
theorem el_p_68 : (fun e : Nat × Nat × Nat × Nat × Int × Nat => ∃ (T : u_T) (ty : Nat → FieldType), ek_F (ec_on e.1) e.2.1 e.2.2.1 e.2.2.2.1 T ty ∧ ek_tc (ty e.2.2.2.1) e.2.2.2.2.1 ∧ ((T e.2.2.2.1).2.2.2 = false ∨ ((T e.2.2.2.1).2.2.2 = true ∧ (T e.2.2.2.1).1 = ec_on e.1))) ((nat_lit 11), (nat_lit 69), (nat_lit 11), (nat_lit 10), (Int.ofNat (nat_lit 2)), (nat_lit 0)) := ⟨ec_T11, ec_y11, ⟨"WarmNight", 11, rfl, by decide, ew_1007, ec_c11⟩, rfl, Or.inl rfl⟩
theorem el_p_69 : (fun e : Nat × Nat × Nat × Nat × Int × Nat => ∃ (T : u_T) (ty : Nat → FieldType), ek_F (ec_on e.1) e.2.1 e.2.2.1 e.2.2.2.1 T ty ∧ ek_tc (ty e.2.2.2.1) e.2.2.2.2.1 ∧ ((T e.2.2.2.1).2.2.2 = false ∨ ((T e.2.2.2.1).2.2.2 = true ∧ (T e.2.2.2.1).1 = ec_on e.1))) ((nat_lit 12), (nat_lit 7), (nat_lit 12), (nat_lit 0), (Int.ofNat (nat_lit 3)), (nat_lit 1)) := ⟨ec_T12, ec_y12, ⟨"WarmNightModel", 33, rfl, by decide, ew_1038, ec_c12⟩, rfl, Or.inr ⟨rfl, rfl⟩⟩
theorem el_p_70 : (fun e : Nat × Nat × Nat × Nat × Int × Nat => ∃ (T : u_T) (ty : Nat → FieldType), ek_F (ec_on e.1) e.2.1 e.2.2.1 e.2.2.2.1 T ty ∧ ek_tc (ty e.2.2.2.1) e.2.2.2.2.1 ∧ ((T e.2.2.2.1).2.2.2 = false ∨ ((T e.2.2.2.1).2.2.2 = true ∧ (T e.2.2.2.1).1 = ec_on e.1))) ((nat_lit 12), (nat_lit 13), (nat_lit 12), (nat_lit 1), (Int.ofNat (nat_lit 3)), (nat_lit 1)) := ⟨ec_T12, ec_y12, ⟨"WarmNightModel", 33, rfl, by decide, ew_1039, ec_c12⟩, rfl, Or.inr ⟨rfl, rfl⟩⟩
theorem el_p_71 : (fun e : Nat × Nat × Nat × Nat × Int × Nat => ∃ (T : u_T) (ty : Nat → FieldType), ek_F (ec_on e.1) e.2.1 e.2.2.1 e.2.2.2.1 T ty ∧ ek_tc (ty e.2.2.2.1) e.2.2.2.2.1 ∧ ((T e.2.2.2.1).2.2.2 = false ∨ ((T e.2.2.2.1).2.2.2 = true ∧ (T e.2.2.2.1).1 = ec_on e.1))) ((nat_lit 12), (nat_lit 16), (nat_lit 12), (nat_lit 2), (Int.ofNat (nat_lit 3)), (nat_lit 1)) := ⟨ec_T12, ec_y12, ⟨"WarmNightModel", 33, rfl, by decide, ew_1040, ec_c12⟩, rfl, Or.inr ⟨rfl, rfl⟩⟩
theorem el_p_72 : (fun e : Nat × Nat × Nat × Nat × Int × Nat => ∃ (T : u_T) (ty : Nat → FieldType), ek_F (ec_on e.1) e.2.1 e.2.2.1 e.2.2.2.1 T ty ∧ ek_tc (ty e.2.2.2.1) e.2.2.2.2.1 ∧ ((T e.2.2.2.1).2.2.2 = false ∨ ((T e.2.2.2.1).2.2.2 = true ∧ (T e.2.2.2.1).1 = ec_on e.1))) ((nat_lit 12), (nat_lit 20), (nat_lit 12), (nat_lit 3), (Int.ofNat (nat_lit 3)), (nat_lit 1)) := ⟨ec_T12, ec_y12, ⟨"WarmNightModel", 33, rfl, by decide, ew_1041, ec_c12⟩, rfl, Or.inr ⟨rfl, rfl⟩⟩
theorem el_p_73 : (fun e : Nat × Nat × Nat × Nat × Int × Nat => ∃ (T : u_T) (ty : Nat → FieldType), ek_F (ec_on e.1) e.2.1 e.2.2.1 e.2.2.2.1 T ty ∧ ek_tc (ty e.2.2.2.1) e.2.2.2.2.1 ∧ ((T e.2.2.2.1).2.2.2 = false ∨ ((T e.2.2.2.1).2.2.2 = true ∧ (T e.2.2.2.1).1 = ec_on e.1))) ((nat_lit 12), (nat_lit 23), (nat_lit 12), (nat_lit 6), (Int.ofNat (nat_lit 3)), (nat_lit 1)) := ⟨ec_T12, ec_y12, ⟨"WarmNightModel", 33, rfl, by decide, ew_1042, ec_c12⟩, rfl, Or.inr ⟨rfl, rfl⟩⟩
theorem el_p_74 : (fun e : Nat × Nat × Nat × Nat × Int × Nat => ∃ (T : u_T) (ty : Nat → FieldType), ek_F (ec_on e.1) e.2.1 e.2.2.1 e.2.2.2.1 T ty ∧ ek_tc (ty e.2.2.2.1) e.2.2.2.2.1 ∧ ((T e.2.2.2.1).2.2.2 = false ∨ ((T e.2.2.2.1).2.2.2 = true ∧ (T e.2.2.2.1).1 = ec_on e.1))) ((nat_lit 12), (nat_lit 26), (nat_lit 12), (nat_lit 12), (Int.ofNat (nat_lit 3)), (nat_lit 1)) := ⟨ec_T12, ec_y12, ⟨"WarmNightModel", 33, rfl, by decide, ew_1043, ec_c12⟩, rfl, Or.inr ⟨rfl, rfl⟩⟩
theorem el_p_75 : (fun e : Nat × Nat × Nat × Nat × Int × Nat => ∃ (T : u_T) (ty : Nat → FieldType), ek_F (ec_on e.1) e.2.1 e.2.2.1 e.2.2.2.1 T ty ∧ ek_tc (ty e.2.2.2.1) e.2.2.2.2.1 ∧ ((T e.2.2.2.1).2.2.2 = false ∨ ((T e.2.2.2.1).2.2.2 = true ∧ (T e.2.2.2.1).1 = ec_on e.1))) ((nat_lit 12), (nat_lit 29), (nat_lit 12), (nat_lit 13), (Int.ofNat (nat_lit 3)), (nat_lit 1)) := ⟨ec_T12, ec_y12, ⟨"WarmNightModel", 33, rfl, by decide, ew_1044, ec_c12⟩, rfl, Or.inr ⟨rfl, rfl⟩⟩
theorem el_p_76 : (fun e : Nat × Nat × Nat × Nat × Int × Nat => ∃ (T : u_T) (ty : Nat → FieldType), ek_F (ec_on e.1) e.2.1 e.2.2.1 e.2.2.2.1 T ty ∧ ek_tc (ty e.2.2.2.1) e.2.2.2.2.1 ∧ ((T e.2.2.2.1).2.2.2 = false ∨ ((T e.2.2.2.1).2.2.2 = true ∧ (T e.2.2.2.1).1 = ec_on e.1))) ((nat_lit 12), (nat_lit 32), (nat_lit 12), (nat_lit 15), (Int.ofNat (nat_lit 3)), (nat_lit 1)) := ⟨ec_T12, ec_y12, ⟨"WarmNightModel", 33, rfl, by decide, ew_1045, ec_c12⟩, rfl, Or.inr ⟨rfl, rfl⟩⟩
theorem el_p_77 : (fun e : Nat × Nat × Nat × Nat × Int × Nat => ∃ (T : u_T) (ty : Nat → FieldType), ek_F (ec_on e.1) e.2.1 e.2.2.1 e.2.2.2.1 T ty ∧ ek_tc (ty e.2.2.2.1) e.2.2.2.2.1 ∧ ((T e.2.2.2.1).2.2.2 = false ∨ ((T e.2.2.2.1).2.2.2 = true ∧ (T e.2.2.2.1).1 = ec_on e.1))) ((nat_lit 12), (nat_lit 35), (nat_lit 12), (nat_lit 16), (Int.ofNat (nat_lit 3)), (nat_lit 1)) := ⟨ec_T12, ec_y12, ⟨"WarmNightModel", 33, rfl, by decide, ew_1046, ec_c12⟩, rfl, Or.inr ⟨rfl, rfl⟩⟩
theorem el_p_78 : (fun e : Nat × Nat × Nat × Nat × Int × Nat => ∃ (T : u_T) (ty : Nat → FieldType), ek_F (ec_on e.1) e.2.1 e.2.2.1 e.2.2.2.1 T ty ∧ ek_tc (ty e.2.2.2.1) e.2.2.2.2.1 ∧ ((T e.2.2.2.1).2.2.2 = false ∨ ((T e.2.2.2.1).2.2.2 = true ∧ (T e.2.2.2.1).1 = ec_on e.1))) ((nat_lit 12), (nat_lit 38), (nat_lit 12), (nat_lit 17), (Int.ofNat (nat_lit 3)), (nat_lit 1)) := ⟨ec_T12, ec_y12, ⟨"WarmNightModel", 33, rfl, by decide, ew_1047, ec_c12⟩, rfl, Or.inr ⟨rfl, rfl⟩⟩
theorem el_p_79 : (fun e : Nat × Nat × Nat × Nat × Int × Nat => ∃ (T : u_T) (ty : Nat → FieldType), ek_F (ec_on e.1) e.2.1 e.2.2.1 e.2.2.2.1 T ty ∧ ek_tc (ty e.2.2.2.1) e.2.2.2.2.1 ∧ ((T e.2.2.2.1).2.2.2 = false ∨ ((T e.2.2.2.1).2.2.2 = true ∧ (T e.2.2.2.1).1 = ec_on e.1))) ((nat_lit 12), (nat_lit 41), (nat_lit 12), (nat_lit 18), (Int.ofNat (nat_lit 3)), (nat_lit 1)) := ⟨ec_T12, ec_y12, ⟨"WarmNightModel", 33, rfl, by decide, ew_1048, ec_c12⟩, rfl, Or.inr ⟨rfl, rfl⟩⟩
theorem el_p_80 : (fun e : Nat × Nat × Nat × Nat × Int × Nat => ∃ (T : u_T) (ty : Nat → FieldType), ek_F (ec_on e.1) e.2.1 e.2.2.1 e.2.2.2.1 T ty ∧ ek_tc (ty e.2.2.2.1) e.2.2.2.2.1 ∧ ((T e.2.2.2.1).2.2.2 = false ∨ ((T e.2.2.2.1).2.2.2 = true ∧ (T e.2.2.2.1).1 = ec_on e.1))) ((nat_lit 12), (nat_lit 44), (nat_lit 12), (nat_lit 19), (Int.ofNat (nat_lit 3)), (nat_lit 1)) := ⟨ec_T12, ec_y12, ⟨"WarmNightModel", 33, rfl, by decide, ew_1049, ec_c12⟩, rfl, Or.inr ⟨rfl, rfl⟩⟩
theorem el_p_81 : (fun e : Nat × Nat × Nat × Nat × Int × Nat => ∃ (T : u_T) (ty : Nat → FieldType), ek_F (ec_on e.1) e.2.1 e.2.2.1 e.2.2.2.1 T ty ∧ ek_tc (ty e.2.2.2.1) e.2.2.2.2.1 ∧ ((T e.2.2.2.1).2.2.2 = false ∨ ((T e.2.2.2.1).2.2.2 = true ∧ (T e.2.2.2.1).1 = ec_on e.1))) ((nat_lit 12), (nat_lit 47), (nat_lit 12), (nat_lit 23), (Int.ofNat (nat_lit 3)), (nat_lit 1)) := ⟨ec_T12, ec_y12, ⟨"WarmNightModel", 33, rfl, by decide, ew_1050, ec_c12⟩, rfl, Or.inr ⟨rfl, rfl⟩⟩
theorem el_p_82 : (fun e : Nat × Nat × Nat × Nat × Int × Nat => ∃ (T : u_T) (ty : Nat → FieldType), ek_F (ec_on e.1) e.2.1 e.2.2.1 e.2.2.2.1 T ty ∧ ek_tc (ty e.2.2.2.1) e.2.2.2.2.1 ∧ ((T e.2.2.2.1).2.2.2 = false ∨ ((T e.2.2.2.1).2.2.2 = true ∧ (T e.2.2.2.1).1 = ec_on e.1))) ((nat_lit 12), (nat_lit 50), (nat_lit 12), (nat_lit 25), (Int.ofNat (nat_lit 3)), (nat_lit 1)) := ⟨ec_T12, ec_y12, ⟨"WarmNightModel", 33, rfl, by decide, ew_1051, ec_c12⟩, rfl, Or.inr ⟨rfl, rfl⟩⟩
theorem el_p_83 : (fun e : Nat × Nat × Nat × Nat × Int × Nat => ∃ (T : u_T) (ty : Nat → FieldType), ek_F (ec_on e.1) e.2.1 e.2.2.1 e.2.2.2.1 T ty ∧ ek_tc (ty e.2.2.2.1) e.2.2.2.2.1 ∧ ((T e.2.2.2.1).2.2.2 = false ∨ ((T e.2.2.2.1).2.2.2 = true ∧ (T e.2.2.2.1).1 = ec_on e.1))) ((nat_lit 12), (nat_lit 53), (nat_lit 12), (nat_lit 26), (Int.ofNat (nat_lit 3)), (nat_lit 1)) := ⟨ec_T12, ec_y12, ⟨"WarmNightModel", 33, rfl, by decide, ew_1052, ec_c12⟩, rfl, Or.inr ⟨rfl, rfl⟩⟩
theorem el_p_84 : (fun e : Nat × Nat × Nat × Nat × Int × Nat => ∃ (T : u_T) (ty : Nat → FieldType), ek_F (ec_on e.1) e.2.1 e.2.2.1 e.2.2.2.1 T ty ∧ ek_tc (ty e.2.2.2.1) e.2.2.2.2.1 ∧ ((T e.2.2.2.1).2.2.2 = false ∨ ((T e.2.2.2.1).2.2.2 = true ∧ (T e.2.2.2.1).1 = ec_on e.1))) ((nat_lit 12), (nat_lit 56), (nat_lit 12), (nat_lit 27), (Int.ofNat (nat_lit 3)), (nat_lit 1)) := ⟨ec_T12, ec_y12, ⟨"WarmNightModel", 33, rfl, by decide, ew_1053, ec_c12⟩, rfl, Or.inr ⟨rfl, rfl⟩⟩
theorem el_p_85 : (fun e : Nat × Nat × Nat × Nat × Int × Nat => ∃ (T : u_T) (ty : Nat → FieldType), ek_F (ec_on e.1) e.2.1 e.2.2.1 e.2.2.2.1 T ty ∧ ek_tc (ty e.2.2.2.1) e.2.2.2.2.1 ∧ ((T e.2.2.2.1).2.2.2 = false ∨ ((T e.2.2.2.1).2.2.2 = true ∧ (T e.2.2.2.1).1 = ec_on e.1))) ((nat_lit 12), (nat_lit 59), (nat_lit 12), (nat_lit 28), (Int.ofNat (nat_lit 3)), (nat_lit 1)) := ⟨ec_T12, ec_y12, ⟨"WarmNightModel", 33, rfl, by decide, ew_1054, ec_c12⟩, rfl, Or.inr ⟨rfl, rfl⟩⟩
theorem el_p_86 : (fun e : Nat × Nat × Nat × Nat × Int × Nat => ∃ (T : u_T) (ty : Nat → FieldType), ek_F (ec_on e.1) e.2.1 e.2.2.1 e.2.2.2.1 T ty ∧ ek_tc (ty e.2.2.2.1) e.2.2.2.2.1 ∧ ((T e.2.2.2.1).2.2.2 = false ∨ ((T e.2.2.2.1).2.2.2 = true ∧ (T e.2.2.2.1).1 = ec_on e.1))) ((nat_lit 12), (nat_lit 62), (nat_lit 12), (nat_lit 29), (Int.ofNat (nat_lit 3)), (nat_lit 1)) := ⟨ec_T12, ec_y12, ⟨"WarmNightModel", 33, rfl, by decide, ew_1055, ec_c12⟩, rfl, Or.inr ⟨rfl, rfl⟩⟩
theorem el_p_87 : (fun e : Nat × Nat × Nat × Nat × Int × Nat => ∃ (T : u_T) (ty : Nat → FieldType), ek_F (ec_on e.1) e.2.1 e.2.2.1 e.2.2.2.1 T ty ∧ ek_tc (ty e.2.2.2.1) e.2.2.2.2.1 ∧ ((T e.2.2.2.1).2.2.2 = false ∨ ((T e.2.2.2.1).2.2.2 = true ∧ (T e.2.2.2.1).1 = ec_on e.1))) ((nat_lit 12), (nat_lit 65), (nat_lit 12), (nat_lit 30), (Int.ofNat (nat_lit 3)), (nat_lit 1)) := ⟨ec_T12, ec_y12, ⟨"WarmNightModel", 33, rfl, by decide, ew_1056, ec_c12⟩, rfl, Or.inr ⟨rfl, rfl⟩⟩
theorem el_p_88 : (fun e : Nat × Nat × Nat × Nat × Int × Nat => ∃ (T : u_T) (ty : Nat → FieldType), ek_F (ec_on e.1) e.2.1 e.2.2.1 e.2.2.2.1 T ty ∧ ek_tc (ty e.2.2.2.1) e.2.2.2.2.1 ∧ ((T e.2.2.2.1).2.2.2 = false ∨ ((T e.2.2.2.1).2.2.2 = true ∧ (T e.2.2.2.1).1 = ec_on e.1))) ((nat_lit 12), (nat_lit 68), (nat_lit 12), (nat_lit 31), (Int.ofNat (nat_lit 3)), (nat_lit 1)) := ⟨ec_T12, ec_y12, ⟨"WarmNightModel", 33, rfl, by decide, ew_1057, ec_c12⟩, rfl, Or.inr ⟨rfl, rfl⟩⟩
theorem el_p_89 : (fun e : Nat × Nat × Nat × Nat × Int × Nat => ∃ (T : u_T) (ty : Nat → FieldType), ek_F (ec_on e.1) e.2.1 e.2.2.1 e.2.2.2.1 T ty ∧ ek_tc (ty e.2.2.2.1) e.2.2.2.2.1 ∧ ((T e.2.2.2.1).2.2.2 = false ∨ ((T e.2.2.2.1).2.2.2 = true ∧ (T e.2.2.2.1).1 = ec_on e.1))) ((nat_lit 12), (nat_lit 71), (nat_lit 12), (nat_lit 32), (Int.ofNat (nat_lit 3)), (nat_lit 1)) := ⟨ec_T12, ec_y12, ⟨"WarmNightModel", 33, rfl, by decide, ew_1058, ec_c12⟩, rfl, Or.inr ⟨rfl, rfl⟩⟩
theorem el_p_90 : (fun e : Nat × Nat × Nat × Nat × Int × Nat => ∃ (T : u_T) (ty : Nat → FieldType), ek_F (ec_on e.1) e.2.1 e.2.2.1 e.2.2.2.1 T ty ∧ ek_tc (ty e.2.2.2.1) e.2.2.2.2.1 ∧ ((T e.2.2.2.1).2.2.2 = false ∨ ((T e.2.2.2.1).2.2.2 = true ∧ (T e.2.2.2.1).1 = ec_on e.1))) ((nat_lit 12), (nat_lit 77), (nat_lit 12), (nat_lit 5), (Int.ofNat (nat_lit 2)), (nat_lit 0)) := ⟨ec_T12, ec_y12, ⟨"WarmNightModel", 33, rfl, by decide, ew_1059, ec_c12⟩, rfl, Or.inl rfl⟩
theorem el_p_91 : (fun e : Nat × Nat × Nat × Nat × Int × Nat => ∃ (T : u_T) (ty : Nat → FieldType), ek_F (ec_on e.1) e.2.1 e.2.2.1 e.2.2.2.1 T ty ∧ ek_tc (ty e.2.2.2.1) e.2.2.2.2.1 ∧ ((T e.2.2.2.1).2.2.2 = false ∨ ((T e.2.2.2.1).2.2.2 = true ∧ (T e.2.2.2.1).1 = ec_on e.1))) ((nat_lit 12), (nat_lit 85), (nat_lit 12), (nat_lit 4), (Int.ofNat (nat_lit 2)), (nat_lit 0)) := ⟨ec_T12, ec_y12, ⟨"WarmNightModel", 33, rfl, by decide, ew_1060, ec_c12⟩, rfl, Or.inl rfl⟩
theorem el_p_92 : (fun e : Nat × Nat × Nat × Nat × Int × Nat => ∃ (T : u_T) (ty : Nat → FieldType), ek_F (ec_on e.1) e.2.1 e.2.2.1 e.2.2.2.1 T ty ∧ ek_tc (ty e.2.2.2.1) e.2.2.2.2.1 ∧ ((T e.2.2.2.1).2.2.2 = false ∨ ((T e.2.2.2.1).2.2.2 = true ∧ (T e.2.2.2.1).1 = ec_on e.1))) ((nat_lit 12), (nat_lit 150), (nat_lit 12), (nat_lit 7), (Int.ofNat (nat_lit 0)), (nat_lit 0)) := ⟨ec_T12, ec_y12, ⟨"WarmNightModel", 33, rfl, by decide, ew_1079, ec_c12⟩, rfl, Or.inl rfl⟩
theorem el_p_93 : (fun e : Nat × Nat × Nat × Nat × Int × Nat => ∃ (T : u_T) (ty : Nat → FieldType), ek_F (ec_on e.1) e.2.1 e.2.2.1 e.2.2.2.1 T ty ∧ ek_tc (ty e.2.2.2.1) e.2.2.2.2.1 ∧ ((T e.2.2.2.1).2.2.2 = false ∨ ((T e.2.2.2.1).2.2.2 = true ∧ (T e.2.2.2.1).1 = ec_on e.1))) ((nat_lit 12), (nat_lit 156), (nat_lit 12), (nat_lit 8), (Int.ofNat (nat_lit 0)), (nat_lit 0)) := ⟨ec_T12, ec_y12, ⟨"WarmNightModel", 33, rfl, by decide, ew_1081, ec_c12⟩, rfl, Or.inl rfl⟩
theorem el_p_94 : (fun e : Nat × Nat × Nat × Nat × Int × Nat => ∃ (T : u_T) (ty : Nat → FieldType), ek_F (ec_on e.1) e.2.1 e.2.2.1 e.2.2.2.1 T ty ∧ ek_tc (ty e.2.2.2.1) e.2.2.2.2.1 ∧ ((T e.2.2.2.1).2.2.2 = false ∨ ((T e.2.2.2.1).2.2.2 = true ∧ (T e.2.2.2.1).1 = ec_on e.1))) ((nat_lit 12), (nat_lit 183), (nat_lit 12), (nat_lit 9), (Int.ofNat (nat_lit 0)), (nat_lit 0)) := ⟨ec_T12, ec_y12, ⟨"WarmNightModel", 33, rfl, by decide, ew_1092, ec_c12⟩, rfl, Or.inl rfl⟩
theorem el_p_95 : (fun e : Nat × Nat × Nat × Nat × Int × Nat => ∃ (T : u_T) (ty : Nat → FieldType), ek_F (ec_on e.1) e.2.1 e.2.2.1 e.2.2.2.1 T ty ∧ ek_tc (ty e.2.2.2.1) e.2.2.2.2.1 ∧ ((T e.2.2.2.1).2.2.2 = false ∨ ((T e.2.2.2.1).2.2.2 = true ∧ (T e.2.2.2.1).1 = ec_on e.1))) ((nat_lit 12), (nat_lit 186), (nat_lit 12), (nat_lit 10), (Int.ofNat (nat_lit 0)), (nat_lit 0)) := ⟨ec_T12, ec_y12, ⟨"WarmNightModel", 33, rfl, by decide, ew_1093, ec_c12⟩, rfl, Or.inl rfl⟩
theorem el_p_96 : (fun e : Nat × Nat × Nat × Nat × Int × Nat => ∃ (T : u_T) (ty : Nat → FieldType), ek_F (ec_on e.1) e.2.1 e.2.2.1 e.2.2.2.1 T ty ∧ ek_tc (ty e.2.2.2.1) e.2.2.2.2.1 ∧ ((T e.2.2.2.1).2.2.2 = false ∨ ((T e.2.2.2.1).2.2.2 = true ∧ (T e.2.2.2.1).1 = ec_on e.1))) ((nat_lit 12), (nat_lit 197), (nat_lit 12), (nat_lit 11), (Int.ofNat (nat_lit 0)), (nat_lit 0)) := ⟨ec_T12, ec_y12, ⟨"WarmNightModel", 33, rfl, by decide, ew_1096, ec_c12⟩, rfl, Or.inl rfl⟩
theorem el_p_97 : (fun e : Nat × Nat × Nat × Nat × Int × Nat => ∃ (T : u_T) (ty : Nat → FieldType), ek_F (ec_on e.1) e.2.1 e.2.2.1 e.2.2.2.1 T ty ∧ ek_tc (ty e.2.2.2.1) e.2.2.2.2.1 ∧ ((T e.2.2.2.1).2.2.2 = false ∨ ((T e.2.2.2.1).2.2.2 = true ∧ (T e.2.2.2.1).1 = ec_on e.1))) ((nat_lit 12), (nat_lit 202), (nat_lit 12), (nat_lit 14), (Int.ofNat (nat_lit 0)), (nat_lit 0)) := ⟨ec_T12, ec_y12, ⟨"WarmNightModel", 33, rfl, by decide, ew_1098, ec_c12⟩, rfl, Or.inl rfl⟩
theorem el_p_98 : (fun e : Nat × Nat × Nat × Nat × Int × Nat => ∃ (T : u_T) (ty : Nat → FieldType), ek_F (ec_on e.1) e.2.1 e.2.2.1 e.2.2.2.1 T ty ∧ ek_tc (ty e.2.2.2.1) e.2.2.2.2.1 ∧ ((T e.2.2.2.1).2.2.2 = false ∨ ((T e.2.2.2.1).2.2.2 = true ∧ (T e.2.2.2.1).1 = ec_on e.1))) ((nat_lit 12), (nat_lit 274), (nat_lit 12), (nat_lit 20), (Int.ofNat (nat_lit 0)), (nat_lit 0)) := ⟨ec_T12, ec_y12, ⟨"WarmNightModel", 33, rfl, by decide, ew_1100, ec_c12⟩, rfl, Or.inl rfl⟩
theorem el_p_99 : (fun e : Nat × Nat × Nat × Nat × Int × Nat => ∃ (T : u_T) (ty : Nat → FieldType), ek_F (ec_on e.1) e.2.1 e.2.2.1 e.2.2.2.1 T ty ∧ ek_tc (ty e.2.2.2.1) e.2.2.2.2.1 ∧ ((T e.2.2.2.1).2.2.2 = false ∨ ((T e.2.2.2.1).2.2.2 = true ∧ (T e.2.2.2.1).1 = ec_on e.1))) ((nat_lit 12), (nat_lit 277), (nat_lit 12), (nat_lit 21), (Int.ofNat (nat_lit 0)), (nat_lit 0)) := ⟨ec_T12, ec_y12, ⟨"WarmNightModel", 33, rfl, by decide, ew_1101, ec_c12⟩, rfl, Or.inl rfl⟩
theorem el_p_100 : (fun e : Nat × Nat × Nat × Nat × Int × Nat => ∃ (T : u_T) (ty : Nat → FieldType), ek_F (ec_on e.1) e.2.1 e.2.2.1 e.2.2.2.1 T ty ∧ ek_tc (ty e.2.2.2.1) e.2.2.2.2.1 ∧ ((T e.2.2.2.1).2.2.2 = false ∨ ((T e.2.2.2.1).2.2.2 = true ∧ (T e.2.2.2.1).1 = ec_on e.1))) ((nat_lit 12), (nat_lit 280), (nat_lit 12), (nat_lit 22), (Int.ofNat (nat_lit 0)), (nat_lit 0)) := ⟨ec_T12, ec_y12, ⟨"WarmNightModel", 33, rfl, by decide, ew_1102, ec_c12⟩, rfl, Or.inl rfl⟩
theorem el_p_101 : (fun e : Nat × Nat × Nat × Nat × Int × Nat => ∃ (T : u_T) (ty : Nat → FieldType), ek_F (ec_on e.1) e.2.1 e.2.2.1 e.2.2.2.1 T ty ∧ ek_tc (ty e.2.2.2.1) e.2.2.2.2.1 ∧ ((T e.2.2.2.1).2.2.2 = false ∨ ((T e.2.2.2.1).2.2.2 = true ∧ (T e.2.2.2.1).1 = ec_on e.1))) ((nat_lit 12), (nat_lit 309), (nat_lit 12), (nat_lit 24), (Int.ofNat (nat_lit 0)), (nat_lit 0)) := ⟨ec_T12, ec_y12, ⟨"WarmNightModel", 33, rfl, by decide, ew_1105, ec_c12⟩, rfl, Or.inl rfl⟩
set_option maxRecDepth 100000 in
theorem el_p_ok : ∀ e ∈ el_p, (fun e : Nat × Nat × Nat × Nat × Int × Nat => ∃ (T : u_T) (ty : Nat → FieldType), ek_F (ec_on e.1) e.2.1 e.2.2.1 e.2.2.2.1 T ty ∧ ek_tc (ty e.2.2.2.1) e.2.2.2.2.1 ∧ ((T e.2.2.2.1).2.2.2 = false ∨ ((T e.2.2.2.1).2.2.2 = true ∧ (T e.2.2.2.1).1 = ec_on e.1))) e := List.forall_mem_cons.mpr ⟨el_p_0, List.forall_mem_cons.mpr ⟨el_p_1, List.forall_mem_cons.mpr ⟨el_p_2, List.forall_mem_cons.mpr ⟨el_p_3, List.forall_mem_cons.mpr ⟨el_p_4, List.forall_mem_cons.mpr ⟨el_p_5, List.forall_mem_cons.mpr ⟨el_p_6, List.forall_mem_cons.mpr ⟨el_p_7, List.forall_mem_cons.mpr ⟨el_p_8, List.forall_mem_cons.mpr ⟨el_p_9, List.forall_mem_cons.mpr ⟨el_p_10, List.forall_mem_cons.mpr ⟨el_p_11, List.forall_mem_cons.mpr ⟨el_p_12, List.forall_mem_cons.mpr ⟨el_p_13, List.forall_mem_cons.mpr ⟨el_p_14, List.forall_mem_cons.mpr ⟨el_p_15, List.forall_mem_cons.mpr ⟨el_p_16, List.forall_mem_cons.mpr ⟨el_p_17, List.forall_mem_cons.mpr ⟨el_p_18, List.forall_mem_cons.mpr ⟨el_p_19, List.forall_mem_cons.mpr ⟨el_p_20, List.forall_mem_cons.mpr ⟨el_p_21, List.forall_mem_cons.mpr ⟨el_p_22, List.forall_mem_cons.mpr ⟨el_p_23, List.forall_mem_cons.mpr ⟨el_p_24, List.forall_mem_cons.mpr ⟨el_p_25, List.forall_mem_cons.mpr ⟨el_p_26, List.forall_mem_cons.mpr ⟨el_p_27, List.forall_mem_cons.mpr ⟨el_p_28, List.forall_mem_cons.mpr ⟨el_p_29, List.forall_mem_cons.mpr ⟨el_p_30, List.forall_mem_cons.mpr ⟨el_p_31, List.forall_mem_cons.mpr ⟨el_p_32, List.forall_mem_cons.mpr ⟨el_p_33, List.forall_mem_cons.mpr ⟨el_p_34, List.forall_mem_cons.mpr ⟨el_p_35, List.forall_mem_cons.mpr ⟨el_p_36, List.forall_mem_cons.mpr ⟨el_p_37, List.forall_mem_cons.mpr ⟨el_p_38, List.forall_mem_cons.mpr ⟨el_p_39, List.forall_mem_cons.mpr ⟨el_p_40, List.forall_mem_cons.mpr ⟨el_p_41, List.forall_mem_cons.mpr ⟨el_p_42, List.forall_mem_cons.mpr ⟨el_p_43, List.forall_mem_cons.mpr ⟨el_p_44, List.forall_mem_cons.mpr ⟨el_p_45, List.forall_mem_cons.mpr ⟨el_p_46, List.forall_mem_cons.mpr ⟨el_p_47, List.forall_mem_cons.mpr ⟨el_p_48, List.forall_mem_cons.mpr ⟨el_p_49, List.forall_mem_cons.mpr ⟨el_p_50, List.forall_mem_cons.mpr ⟨el_p_51, List.forall_mem_cons.mpr ⟨el_p_52, List.forall_mem_cons.mpr ⟨el_p_53, List.forall_mem_cons.mpr ⟨el_p_54, List.forall_mem_cons.mpr ⟨el_p_55, List.forall_mem_cons.mpr ⟨el_p_56, List.forall_mem_cons.mpr ⟨el_p_57, List.forall_mem_cons.mpr ⟨el_p_58, List.forall_mem_cons.mpr ⟨el_p_59, List.forall_mem_cons.mpr ⟨el_p_60, List.forall_mem_cons.mpr ⟨el_p_61, List.forall_mem_cons.mpr ⟨el_p_62, List.forall_mem_cons.mpr ⟨el_p_63, List.forall_mem_cons.mpr ⟨el_p_64, List.forall_mem_cons.mpr ⟨el_p_65, List.forall_mem_cons.mpr ⟨el_p_66, List.forall_mem_cons.mpr ⟨el_p_67, List.forall_mem_cons.mpr ⟨el_p_68, List.forall_mem_cons.mpr ⟨el_p_69, List.forall_mem_cons.mpr ⟨el_p_70, List.forall_mem_cons.mpr ⟨el_p_71, List.forall_mem_cons.mpr ⟨el_p_72, List.forall_mem_cons.mpr ⟨el_p_73, List.forall_mem_cons.mpr ⟨el_p_74, List.forall_mem_cons.mpr ⟨el_p_75, List.forall_mem_cons.mpr ⟨el_p_76, List.forall_mem_cons.mpr ⟨el_p_77, List.forall_mem_cons.mpr ⟨el_p_78, List.forall_mem_cons.mpr ⟨el_p_79, List.forall_mem_cons.mpr ⟨el_p_80, List.forall_mem_cons.mpr ⟨el_p_81, List.forall_mem_cons.mpr ⟨el_p_82, List.forall_mem_cons.mpr ⟨el_p_83, List.forall_mem_cons.mpr ⟨el_p_84, List.forall_mem_cons.mpr ⟨el_p_85, List.forall_mem_cons.mpr ⟨el_p_86, List.forall_mem_cons.mpr ⟨el_p_87, List.forall_mem_cons.mpr ⟨el_p_88, List.forall_mem_cons.mpr ⟨el_p_89, List.forall_mem_cons.mpr ⟨el_p_90, List.forall_mem_cons.mpr ⟨el_p_91, List.forall_mem_cons.mpr ⟨el_p_92, List.forall_mem_cons.mpr ⟨el_p_93, List.forall_mem_cons.mpr ⟨el_p_94, List.forall_mem_cons.mpr ⟨el_p_95, List.forall_mem_cons.mpr ⟨el_p_96, List.forall_mem_cons.mpr ⟨el_p_97, List.forall_mem_cons.mpr ⟨el_p_98, List.forall_mem_cons.mpr ⟨el_p_99, List.forall_mem_cons.mpr ⟨el_p_100, List.forall_mem_cons.mpr ⟨el_p_101, fun _ h => absurd h List.not_mem_nil⟩⟩⟩⟩⟩⟩⟩⟩⟩⟩⟩⟩⟩⟩⟩⟩⟩⟩⟩⟩⟩⟩⟩⟩⟩⟩⟩⟩⟩⟩⟩⟩⟩⟩⟩⟩⟩⟩⟩⟩⟩⟩⟩⟩⟩⟩⟩⟩⟩⟩⟩⟩⟩⟩⟩⟩⟩⟩⟩⟩⟩⟩⟩⟩⟩⟩⟩⟩⟩⟩⟩⟩⟩⟩⟩⟩⟩⟩⟩⟩⟩⟩⟩⟩⟩⟩⟩⟩⟩⟩⟩⟩⟩⟩⟩⟩⟩⟩⟩⟩⟩⟩
def el_s : List (Nat × Nat × Nat) := [((nat_lit 0), (nat_lit 59), (nat_lit 2)), ((nat_lit 0), (nat_lit 92), (nat_lit 0)), ((nat_lit 0), (nat_lit 95), (nat_lit 1)), ((nat_lit 9), (nat_lit 52), (nat_lit 3))]
theorem el_s_0 : (fun e : Nat × Nat × Nat => ∃ x : String × String, ec_st[e.2.2]? = some x ∧ Jvm.Cond.fieldLink (ec_on e.1) e.2.1 x.1 x.2 "[I" ∈ eg_T) ((nat_lit 0), (nat_lit 59), (nat_lit 2)) := ⟨("WarmNight$Carriage", "AT_FIRST"), rfl, ew_890⟩
theorem el_s_1 : (fun e : Nat × Nat × Nat => ∃ x : String × String, ec_st[e.2.2]? = some x ∧ Jvm.Cond.fieldLink (ec_on e.1) e.2.1 x.1 x.2 "[I" ∈ eg_T) ((nat_lit 0), (nat_lit 92), (nat_lit 0)) := ⟨("WarmNight$Carriage", "LEAST"), rfl, ew_898⟩
theorem el_s_2 : (fun e : Nat × Nat × Nat => ∃ x : String × String, ec_st[e.2.2]? = some x ∧ Jvm.Cond.fieldLink (ec_on e.1) e.2.1 x.1 x.2 "[I" ∈ eg_T) ((nat_lit 0), (nat_lit 95), (nat_lit 1)) := ⟨("WarmNight$Carriage", "MOST"), rfl, ew_899⟩
theorem el_s_3 : (fun e : Nat × Nat × Nat => ∃ x : String × String, ec_st[e.2.2]? = some x ∧ Jvm.Cond.fieldLink (ec_on e.1) e.2.1 x.1 x.2 "[I" ∈ eg_T) ((nat_lit 9), (nat_lit 52), (nat_lit 3)) := ⟨("WarmNight$Text", "NUMBERS_OF"), rfl, ew_984⟩
set_option maxRecDepth 100000 in
theorem el_s_ok : ∀ e ∈ el_s, (fun e : Nat × Nat × Nat => ∃ x : String × String, ec_st[e.2.2]? = some x ∧ Jvm.Cond.fieldLink (ec_on e.1) e.2.1 x.1 x.2 "[I" ∈ eg_T) e := List.forall_mem_cons.mpr ⟨el_s_0, List.forall_mem_cons.mpr ⟨el_s_1, List.forall_mem_cons.mpr ⟨el_s_2, List.forall_mem_cons.mpr ⟨el_s_3, fun _ h => absurd h List.not_mem_nil⟩⟩⟩⟩
def el_c : List (Nat × Nat × Int) := [((nat_lit 0), (nat_lit 98), (Int.negSucc (nat_lit 99999))), ((nat_lit 0), (nat_lit 107), (Int.negSucc (nat_lit 199999))), ((nat_lit 0), (nat_lit 114), (Int.negSucc (nat_lit 299999))), ((nat_lit 5), (nat_lit 100), (Int.ofNat (nat_lit 1000000))), ((nat_lit 5), (nat_lit 166), (Int.negSucc (nat_lit 999999))), ((nat_lit 8), (nat_lit 46), (Int.ofNat (nat_lit 1000000))), ((nat_lit 8), (nat_lit 75), (Int.negSucc (nat_lit 999999))), ((nat_lit 9), (nat_lit 27), (Int.negSucc (nat_lit 99999))), ((nat_lit 9), (nat_lit 32), (Int.negSucc (nat_lit 299999))), ((nat_lit 11), (nat_lit 162), (Int.negSucc (nat_lit 99999))), ((nat_lit 11), (nat_lit 206), (Int.negSucc (nat_lit 199999))), ((nat_lit 12), (nat_lit 88), (Int.negSucc (nat_lit 199999))), ((nat_lit 12), (nat_lit 103), (Int.negSucc (nat_lit 99999))), ((nat_lit 12), (nat_lit 146), (Int.negSucc (nat_lit 299999))), ((nat_lit 12), (nat_lit 273), (Int.ofNat (nat_lit 1000000))), ((nat_lit 12), (nat_lit 308), (Int.negSucc (nat_lit 999999))), ((nat_lit 13), (nat_lit 265), (Int.ofNat (nat_lit 1431655765))), ((nat_lit 13), (nat_lit 266), (Int.ofNat (nat_lit 858993459))), ((nat_lit 13), (nat_lit 267), (Int.ofNat (nat_lit 252645135)))]
theorem el_c_0 : (fun e : Nat × Nat × Int => Jvm.Cond.constant (ec_on e.1) e.2.1 (Int32.ofInt e.2.2) ∈ eg_T) ((nat_lit 0), (nat_lit 98), (Int.negSucc (nat_lit 99999))) := ew_900
theorem el_c_1 : (fun e : Nat × Nat × Int => Jvm.Cond.constant (ec_on e.1) e.2.1 (Int32.ofInt e.2.2) ∈ eg_T) ((nat_lit 0), (nat_lit 107), (Int.negSucc (nat_lit 199999))) := ew_901
theorem el_c_2 : (fun e : Nat × Nat × Int => Jvm.Cond.constant (ec_on e.1) e.2.1 (Int32.ofInt e.2.2) ∈ eg_T) ((nat_lit 0), (nat_lit 114), (Int.negSucc (nat_lit 299999))) := ew_902
theorem el_c_3 : (fun e : Nat × Nat × Int => Jvm.Cond.constant (ec_on e.1) e.2.1 (Int32.ofInt e.2.2) ∈ eg_T) ((nat_lit 5), (nat_lit 100), (Int.ofNat (nat_lit 1000000))) := ew_928
theorem el_c_4 : (fun e : Nat × Nat × Int => Jvm.Cond.constant (ec_on e.1) e.2.1 (Int32.ofInt e.2.2) ∈ eg_T) ((nat_lit 5), (nat_lit 166), (Int.negSucc (nat_lit 999999))) := ew_936
theorem el_c_5 : (fun e : Nat × Nat × Int => Jvm.Cond.constant (ec_on e.1) e.2.1 (Int32.ofInt e.2.2) ∈ eg_T) ((nat_lit 8), (nat_lit 46), (Int.ofNat (nat_lit 1000000))) := ew_963
theorem el_c_6 : (fun e : Nat × Nat × Int => Jvm.Cond.constant (ec_on e.1) e.2.1 (Int32.ofInt e.2.2) ∈ eg_T) ((nat_lit 8), (nat_lit 75), (Int.negSucc (nat_lit 999999))) := ew_967
theorem el_c_7 : (fun e : Nat × Nat × Int => Jvm.Cond.constant (ec_on e.1) e.2.1 (Int32.ofInt e.2.2) ∈ eg_T) ((nat_lit 9), (nat_lit 27), (Int.negSucc (nat_lit 99999))) := ew_978
theorem el_c_8 : (fun e : Nat × Nat × Int => Jvm.Cond.constant (ec_on e.1) e.2.1 (Int32.ofInt e.2.2) ∈ eg_T) ((nat_lit 9), (nat_lit 32), (Int.negSucc (nat_lit 299999))) := ew_980
theorem el_c_9 : (fun e : Nat × Nat × Int => Jvm.Cond.constant (ec_on e.1) e.2.1 (Int32.ofInt e.2.2) ∈ eg_T) ((nat_lit 11), (nat_lit 162), (Int.negSucc (nat_lit 99999))) := ew_1020
theorem el_c_10 : (fun e : Nat × Nat × Int => Jvm.Cond.constant (ec_on e.1) e.2.1 (Int32.ofInt e.2.2) ∈ eg_T) ((nat_lit 11), (nat_lit 206), (Int.negSucc (nat_lit 199999))) := ew_1025
theorem el_c_11 : (fun e : Nat × Nat × Int => Jvm.Cond.constant (ec_on e.1) e.2.1 (Int32.ofInt e.2.2) ∈ eg_T) ((nat_lit 12), (nat_lit 88), (Int.negSucc (nat_lit 199999))) := ew_1061
theorem el_c_12 : (fun e : Nat × Nat × Int => Jvm.Cond.constant (ec_on e.1) e.2.1 (Int32.ofInt e.2.2) ∈ eg_T) ((nat_lit 12), (nat_lit 103), (Int.negSucc (nat_lit 99999))) := ew_1063
theorem el_c_13 : (fun e : Nat × Nat × Int => Jvm.Cond.constant (ec_on e.1) e.2.1 (Int32.ofInt e.2.2) ∈ eg_T) ((nat_lit 12), (nat_lit 146), (Int.negSucc (nat_lit 299999))) := ew_1078
theorem el_c_14 : (fun e : Nat × Nat × Int => Jvm.Cond.constant (ec_on e.1) e.2.1 (Int32.ofInt e.2.2) ∈ eg_T) ((nat_lit 12), (nat_lit 273), (Int.ofNat (nat_lit 1000000))) := ew_1099
theorem el_c_15 : (fun e : Nat × Nat × Int => Jvm.Cond.constant (ec_on e.1) e.2.1 (Int32.ofInt e.2.2) ∈ eg_T) ((nat_lit 12), (nat_lit 308), (Int.negSucc (nat_lit 999999))) := ew_1104
theorem el_c_16 : (fun e : Nat × Nat × Int => Jvm.Cond.constant (ec_on e.1) e.2.1 (Int32.ofInt e.2.2) ∈ eg_T) ((nat_lit 13), (nat_lit 265), (Int.ofNat (nat_lit 1431655765))) := ew_1110
theorem el_c_17 : (fun e : Nat × Nat × Int => Jvm.Cond.constant (ec_on e.1) e.2.1 (Int32.ofInt e.2.2) ∈ eg_T) ((nat_lit 13), (nat_lit 266), (Int.ofNat (nat_lit 858993459))) := ew_1111
theorem el_c_18 : (fun e : Nat × Nat × Int => Jvm.Cond.constant (ec_on e.1) e.2.1 (Int32.ofInt e.2.2) ∈ eg_T) ((nat_lit 13), (nat_lit 267), (Int.ofNat (nat_lit 252645135))) := ew_1112
set_option maxRecDepth 100000 in
theorem el_c_ok : ∀ e ∈ el_c, (fun e : Nat × Nat × Int => Jvm.Cond.constant (ec_on e.1) e.2.1 (Int32.ofInt e.2.2) ∈ eg_T) e := List.forall_mem_cons.mpr ⟨el_c_0, List.forall_mem_cons.mpr ⟨el_c_1, List.forall_mem_cons.mpr ⟨el_c_2, List.forall_mem_cons.mpr ⟨el_c_3, List.forall_mem_cons.mpr ⟨el_c_4, List.forall_mem_cons.mpr ⟨el_c_5, List.forall_mem_cons.mpr ⟨el_c_6, List.forall_mem_cons.mpr ⟨el_c_7, List.forall_mem_cons.mpr ⟨el_c_8, List.forall_mem_cons.mpr ⟨el_c_9, List.forall_mem_cons.mpr ⟨el_c_10, List.forall_mem_cons.mpr ⟨el_c_11, List.forall_mem_cons.mpr ⟨el_c_12, List.forall_mem_cons.mpr ⟨el_c_13, List.forall_mem_cons.mpr ⟨el_c_14, List.forall_mem_cons.mpr ⟨el_c_15, List.forall_mem_cons.mpr ⟨el_c_16, List.forall_mem_cons.mpr ⟨el_c_17, List.forall_mem_cons.mpr ⟨el_c_18, fun _ h => absurd h List.not_mem_nil⟩⟩⟩⟩⟩⟩⟩⟩⟩⟩⟩⟩⟩⟩⟩⟩⟩⟩⟩
def el_d : List (Nat × Nat × Int) := [((nat_lit 9), (nat_lit 33), (Int.ofNat (nat_lit 255))), ((nat_lit 11), (nat_lit 252), (Int.negSucc (nat_lit 99999))), ((nat_lit 11), (nat_lit 268), (Int.ofNat (nat_lit 547))), ((nat_lit 11), (nat_lit 287), (Int.ofNat (nat_lit 31))), ((nat_lit 12), (nat_lit 89), (Int.ofNat (nat_lit 2))), ((nat_lit 12), (nat_lit 104), (Int.ofNat (nat_lit 7))), ((nat_lit 12), (nat_lit 106), (Int.ofNat (nat_lit 23))), ((nat_lit 12), (nat_lit 108), (Int.negSucc (nat_lit 299))), ((nat_lit 12), (nat_lit 110), (Int.ofNat (nat_lit 300))), ((nat_lit 12), (nat_lit 119), (Int.ofNat (nat_lit 50))), ((nat_lit 12), (nat_lit 121), (Int.ofNat (nat_lit 8))), ((nat_lit 12), (nat_lit 123), (Int.ofNat (nat_lit 6))), ((nat_lit 12), (nat_lit 125), (Int.ofNat (nat_lit 40))), ((nat_lit 12), (nat_lit 134), (Int.ofNat (nat_lit 24))), ((nat_lit 12), (nat_lit 136), (Int.negSucc (nat_lit 399))), ((nat_lit 12), (nat_lit 138), (Int.ofNat (nat_lit 200))), ((nat_lit 12), (nat_lit 140), (Int.ofNat (nat_lit 9))), ((nat_lit 12), (nat_lit 142), (Int.ofNat (nat_lit 20))), ((nat_lit 12), (nat_lit 144), (Int.ofNat (nat_lit 100))), ((nat_lit 12), (nat_lit 154), (Int.ofNat (nat_lit 255))), ((nat_lit 12), (nat_lit 159), (Int.ofNat (nat_lit 17076))), ((nat_lit 12), (nat_lit 161), (Int.ofNat (nat_lit 103820))), ((nat_lit 12), (nat_lit 163), (Int.ofNat (nat_lit 525939))), ((nat_lit 12), (nat_lit 165), (Int.ofNat (nat_lit 263623))), ((nat_lit 12), (nat_lit 167), (Int.ofNat (nat_lit 114052))), ((nat_lit 12), (nat_lit 169), (Int.ofNat (nat_lit 267664))), ((nat_lit 12), (nat_lit 171), (Int.ofNat (nat_lit 13358))), ((nat_lit 12), (nat_lit 173), (Int.ofNat (nat_lit 113716))), ((nat_lit 12), (nat_lit 175), (Int.ofNat (nat_lit 2692139))), ((nat_lit 12), (nat_lit 177), (Int.ofNat (nat_lit 508078))), ((nat_lit 12), (nat_lit 189), (Int.ofNat (nat_lit 32))), ((nat_lit 12), (nat_lit 191), (Int.ofNat (nat_lit 97))), ((nat_lit 12), (nat_lit 200), (Int.ofNat (nat_lit 3))), ((nat_lit 12), (nat_lit 297), (Int.ofNat (nat_lit 5))), ((nat_lit 12), (nat_lit 345), (Int.ofNat (nat_lit 4))), ((nat_lit 12), (nat_lit 350), (Int.negSucc (nat_lit 99999))), ((nat_lit 12), (nat_lit 355), (Int.ofNat (nat_lit 31))), ((nat_lit 12), (nat_lit 357), (Int.ofNat (nat_lit 547))), ((nat_lit 15), (nat_lit 62), (Int.ofNat (nat_lit 4294967295)))]
theorem el_d_0 : (fun e : Nat × Nat × Int => Jvm.Cond.constantLong (ec_on e.1) e.2.1 (Int64.ofInt e.2.2) ∈ eg_T) ((nat_lit 9), (nat_lit 33), (Int.ofNat (nat_lit 255))) := ew_981
theorem el_d_1 : (fun e : Nat × Nat × Int => Jvm.Cond.constantLong (ec_on e.1) e.2.1 (Int64.ofInt e.2.2) ∈ eg_T) ((nat_lit 11), (nat_lit 252), (Int.negSucc (nat_lit 99999))) := ew_1030
theorem el_d_2 : (fun e : Nat × Nat × Int => Jvm.Cond.constantLong (ec_on e.1) e.2.1 (Int64.ofInt e.2.2) ∈ eg_T) ((nat_lit 11), (nat_lit 268), (Int.ofNat (nat_lit 547))) := ew_1034
theorem el_d_3 : (fun e : Nat × Nat × Int => Jvm.Cond.constantLong (ec_on e.1) e.2.1 (Int64.ofInt e.2.2) ∈ eg_T) ((nat_lit 11), (nat_lit 287), (Int.ofNat (nat_lit 31))) := ew_1035
theorem el_d_4 : (fun e : Nat × Nat × Int => Jvm.Cond.constantLong (ec_on e.1) e.2.1 (Int64.ofInt e.2.2) ∈ eg_T) ((nat_lit 12), (nat_lit 89), (Int.ofNat (nat_lit 2))) := ew_1062
theorem el_d_5 : (fun e : Nat × Nat × Int => Jvm.Cond.constantLong (ec_on e.1) e.2.1 (Int64.ofInt e.2.2) ∈ eg_T) ((nat_lit 12), (nat_lit 104), (Int.ofNat (nat_lit 7))) := ew_1064
theorem el_d_6 : (fun e : Nat × Nat × Int => Jvm.Cond.constantLong (ec_on e.1) e.2.1 (Int64.ofInt e.2.2) ∈ eg_T) ((nat_lit 12), (nat_lit 106), (Int.ofNat (nat_lit 23))) := ew_1065
theorem el_d_7 : (fun e : Nat × Nat × Int => Jvm.Cond.constantLong (ec_on e.1) e.2.1 (Int64.ofInt e.2.2) ∈ eg_T) ((nat_lit 12), (nat_lit 108), (Int.negSucc (nat_lit 299))) := ew_1066
theorem el_d_8 : (fun e : Nat × Nat × Int => Jvm.Cond.constantLong (ec_on e.1) e.2.1 (Int64.ofInt e.2.2) ∈ eg_T) ((nat_lit 12), (nat_lit 110), (Int.ofNat (nat_lit 300))) := ew_1067
theorem el_d_9 : (fun e : Nat × Nat × Int => Jvm.Cond.constantLong (ec_on e.1) e.2.1 (Int64.ofInt e.2.2) ∈ eg_T) ((nat_lit 12), (nat_lit 119), (Int.ofNat (nat_lit 50))) := ew_1068
theorem el_d_10 : (fun e : Nat × Nat × Int => Jvm.Cond.constantLong (ec_on e.1) e.2.1 (Int64.ofInt e.2.2) ∈ eg_T) ((nat_lit 12), (nat_lit 121), (Int.ofNat (nat_lit 8))) := ew_1069
theorem el_d_11 : (fun e : Nat × Nat × Int => Jvm.Cond.constantLong (ec_on e.1) e.2.1 (Int64.ofInt e.2.2) ∈ eg_T) ((nat_lit 12), (nat_lit 123), (Int.ofNat (nat_lit 6))) := ew_1070
theorem el_d_12 : (fun e : Nat × Nat × Int => Jvm.Cond.constantLong (ec_on e.1) e.2.1 (Int64.ofInt e.2.2) ∈ eg_T) ((nat_lit 12), (nat_lit 125), (Int.ofNat (nat_lit 40))) := ew_1071
theorem el_d_13 : (fun e : Nat × Nat × Int => Jvm.Cond.constantLong (ec_on e.1) e.2.1 (Int64.ofInt e.2.2) ∈ eg_T) ((nat_lit 12), (nat_lit 134), (Int.ofNat (nat_lit 24))) := ew_1072
theorem el_d_14 : (fun e : Nat × Nat × Int => Jvm.Cond.constantLong (ec_on e.1) e.2.1 (Int64.ofInt e.2.2) ∈ eg_T) ((nat_lit 12), (nat_lit 136), (Int.negSucc (nat_lit 399))) := ew_1073
theorem el_d_15 : (fun e : Nat × Nat × Int => Jvm.Cond.constantLong (ec_on e.1) e.2.1 (Int64.ofInt e.2.2) ∈ eg_T) ((nat_lit 12), (nat_lit 138), (Int.ofNat (nat_lit 200))) := ew_1074
theorem el_d_16 : (fun e : Nat × Nat × Int => Jvm.Cond.constantLong (ec_on e.1) e.2.1 (Int64.ofInt e.2.2) ∈ eg_T) ((nat_lit 12), (nat_lit 140), (Int.ofNat (nat_lit 9))) := ew_1075
theorem el_d_17 : (fun e : Nat × Nat × Int => Jvm.Cond.constantLong (ec_on e.1) e.2.1 (Int64.ofInt e.2.2) ∈ eg_T) ((nat_lit 12), (nat_lit 142), (Int.ofNat (nat_lit 20))) := ew_1076
theorem el_d_18 : (fun e : Nat × Nat × Int => Jvm.Cond.constantLong (ec_on e.1) e.2.1 (Int64.ofInt e.2.2) ∈ eg_T) ((nat_lit 12), (nat_lit 144), (Int.ofNat (nat_lit 100))) := ew_1077
theorem el_d_19 : (fun e : Nat × Nat × Int => Jvm.Cond.constantLong (ec_on e.1) e.2.1 (Int64.ofInt e.2.2) ∈ eg_T) ((nat_lit 12), (nat_lit 154), (Int.ofNat (nat_lit 255))) := ew_1080
theorem el_d_20 : (fun e : Nat × Nat × Int => Jvm.Cond.constantLong (ec_on e.1) e.2.1 (Int64.ofInt e.2.2) ∈ eg_T) ((nat_lit 12), (nat_lit 159), (Int.ofNat (nat_lit 17076))) := ew_1082
theorem el_d_21 : (fun e : Nat × Nat × Int => Jvm.Cond.constantLong (ec_on e.1) e.2.1 (Int64.ofInt e.2.2) ∈ eg_T) ((nat_lit 12), (nat_lit 161), (Int.ofNat (nat_lit 103820))) := ew_1083
theorem el_d_22 : (fun e : Nat × Nat × Int => Jvm.Cond.constantLong (ec_on e.1) e.2.1 (Int64.ofInt e.2.2) ∈ eg_T) ((nat_lit 12), (nat_lit 163), (Int.ofNat (nat_lit 525939))) := ew_1084
theorem el_d_23 : (fun e : Nat × Nat × Int => Jvm.Cond.constantLong (ec_on e.1) e.2.1 (Int64.ofInt e.2.2) ∈ eg_T) ((nat_lit 12), (nat_lit 165), (Int.ofNat (nat_lit 263623))) := ew_1085
theorem el_d_24 : (fun e : Nat × Nat × Int => Jvm.Cond.constantLong (ec_on e.1) e.2.1 (Int64.ofInt e.2.2) ∈ eg_T) ((nat_lit 12), (nat_lit 167), (Int.ofNat (nat_lit 114052))) := ew_1086
theorem el_d_25 : (fun e : Nat × Nat × Int => Jvm.Cond.constantLong (ec_on e.1) e.2.1 (Int64.ofInt e.2.2) ∈ eg_T) ((nat_lit 12), (nat_lit 169), (Int.ofNat (nat_lit 267664))) := ew_1087
theorem el_d_26 : (fun e : Nat × Nat × Int => Jvm.Cond.constantLong (ec_on e.1) e.2.1 (Int64.ofInt e.2.2) ∈ eg_T) ((nat_lit 12), (nat_lit 171), (Int.ofNat (nat_lit 13358))) := ew_1088
theorem el_d_27 : (fun e : Nat × Nat × Int => Jvm.Cond.constantLong (ec_on e.1) e.2.1 (Int64.ofInt e.2.2) ∈ eg_T) ((nat_lit 12), (nat_lit 173), (Int.ofNat (nat_lit 113716))) := ew_1089
theorem el_d_28 : (fun e : Nat × Nat × Int => Jvm.Cond.constantLong (ec_on e.1) e.2.1 (Int64.ofInt e.2.2) ∈ eg_T) ((nat_lit 12), (nat_lit 175), (Int.ofNat (nat_lit 2692139))) := ew_1090
theorem el_d_29 : (fun e : Nat × Nat × Int => Jvm.Cond.constantLong (ec_on e.1) e.2.1 (Int64.ofInt e.2.2) ∈ eg_T) ((nat_lit 12), (nat_lit 177), (Int.ofNat (nat_lit 508078))) := ew_1091
theorem el_d_30 : (fun e : Nat × Nat × Int => Jvm.Cond.constantLong (ec_on e.1) e.2.1 (Int64.ofInt e.2.2) ∈ eg_T) ((nat_lit 12), (nat_lit 189), (Int.ofNat (nat_lit 32))) := ew_1094
theorem el_d_31 : (fun e : Nat × Nat × Int => Jvm.Cond.constantLong (ec_on e.1) e.2.1 (Int64.ofInt e.2.2) ∈ eg_T) ((nat_lit 12), (nat_lit 191), (Int.ofNat (nat_lit 97))) := ew_1095
theorem el_d_32 : (fun e : Nat × Nat × Int => Jvm.Cond.constantLong (ec_on e.1) e.2.1 (Int64.ofInt e.2.2) ∈ eg_T) ((nat_lit 12), (nat_lit 200), (Int.ofNat (nat_lit 3))) := ew_1097
theorem el_d_33 : (fun e : Nat × Nat × Int => Jvm.Cond.constantLong (ec_on e.1) e.2.1 (Int64.ofInt e.2.2) ∈ eg_T) ((nat_lit 12), (nat_lit 297), (Int.ofNat (nat_lit 5))) := ew_1103
theorem el_d_34 : (fun e : Nat × Nat × Int => Jvm.Cond.constantLong (ec_on e.1) e.2.1 (Int64.ofInt e.2.2) ∈ eg_T) ((nat_lit 12), (nat_lit 345), (Int.ofNat (nat_lit 4))) := ew_1106
theorem el_d_35 : (fun e : Nat × Nat × Int => Jvm.Cond.constantLong (ec_on e.1) e.2.1 (Int64.ofInt e.2.2) ∈ eg_T) ((nat_lit 12), (nat_lit 350), (Int.negSucc (nat_lit 99999))) := ew_1107
theorem el_d_36 : (fun e : Nat × Nat × Int => Jvm.Cond.constantLong (ec_on e.1) e.2.1 (Int64.ofInt e.2.2) ∈ eg_T) ((nat_lit 12), (nat_lit 355), (Int.ofNat (nat_lit 31))) := ew_1108
theorem el_d_37 : (fun e : Nat × Nat × Int => Jvm.Cond.constantLong (ec_on e.1) e.2.1 (Int64.ofInt e.2.2) ∈ eg_T) ((nat_lit 12), (nat_lit 357), (Int.ofNat (nat_lit 547))) := ew_1109
theorem el_d_38 : (fun e : Nat × Nat × Int => Jvm.Cond.constantLong (ec_on e.1) e.2.1 (Int64.ofInt e.2.2) ∈ eg_T) ((nat_lit 15), (nat_lit 62), (Int.ofNat (nat_lit 4294967295))) := ew_1117
set_option maxRecDepth 100000 in
theorem el_d_ok : ∀ e ∈ el_d, (fun e : Nat × Nat × Int => Jvm.Cond.constantLong (ec_on e.1) e.2.1 (Int64.ofInt e.2.2) ∈ eg_T) e := List.forall_mem_cons.mpr ⟨el_d_0, List.forall_mem_cons.mpr ⟨el_d_1, List.forall_mem_cons.mpr ⟨el_d_2, List.forall_mem_cons.mpr ⟨el_d_3, List.forall_mem_cons.mpr ⟨el_d_4, List.forall_mem_cons.mpr ⟨el_d_5, List.forall_mem_cons.mpr ⟨el_d_6, List.forall_mem_cons.mpr ⟨el_d_7, List.forall_mem_cons.mpr ⟨el_d_8, List.forall_mem_cons.mpr ⟨el_d_9, List.forall_mem_cons.mpr ⟨el_d_10, List.forall_mem_cons.mpr ⟨el_d_11, List.forall_mem_cons.mpr ⟨el_d_12, List.forall_mem_cons.mpr ⟨el_d_13, List.forall_mem_cons.mpr ⟨el_d_14, List.forall_mem_cons.mpr ⟨el_d_15, List.forall_mem_cons.mpr ⟨el_d_16, List.forall_mem_cons.mpr ⟨el_d_17, List.forall_mem_cons.mpr ⟨el_d_18, List.forall_mem_cons.mpr ⟨el_d_19, List.forall_mem_cons.mpr ⟨el_d_20, List.forall_mem_cons.mpr ⟨el_d_21, List.forall_mem_cons.mpr ⟨el_d_22, List.forall_mem_cons.mpr ⟨el_d_23, List.forall_mem_cons.mpr ⟨el_d_24, List.forall_mem_cons.mpr ⟨el_d_25, List.forall_mem_cons.mpr ⟨el_d_26, List.forall_mem_cons.mpr ⟨el_d_27, List.forall_mem_cons.mpr ⟨el_d_28, List.forall_mem_cons.mpr ⟨el_d_29, List.forall_mem_cons.mpr ⟨el_d_30, List.forall_mem_cons.mpr ⟨el_d_31, List.forall_mem_cons.mpr ⟨el_d_32, List.forall_mem_cons.mpr ⟨el_d_33, List.forall_mem_cons.mpr ⟨el_d_34, List.forall_mem_cons.mpr ⟨el_d_35, List.forall_mem_cons.mpr ⟨el_d_36, List.forall_mem_cons.mpr ⟨el_d_37, List.forall_mem_cons.mpr ⟨el_d_38, fun _ h => absurd h List.not_mem_nil⟩⟩⟩⟩⟩⟩⟩⟩⟩⟩⟩⟩⟩⟩⟩⟩⟩⟩⟩⟩⟩⟩⟩⟩⟩⟩⟩⟩⟩⟩⟩⟩⟩⟩⟩⟩⟩⟩⟩
def el_n : List (Nat × Nat × Nat) := [((nat_lit 11), (nat_lit 9), (nat_lit 0)), ((nat_lit 11), (nat_lit 27), (nat_lit 9)), ((nat_lit 11), (nat_lit 40), (nat_lit 5)), ((nat_lit 11), (nat_lit 49), (nat_lit 7)), ((nat_lit 11), (nat_lit 58), (nat_lit 8)), ((nat_lit 11), (nat_lit 34), (nat_lit 2)), ((nat_lit 11), (nat_lit 73), (nat_lit 1)), ((nat_lit 11), (nat_lit 76), (nat_lit 4)), ((nat_lit 11), (nat_lit 79), (nat_lit 3)), ((nat_lit 11), (nat_lit 82), (nat_lit 10)), ((nat_lit 11), (nat_lit 85), (nat_lit 6)), ((nat_lit 15), (nat_lit 7), (nat_lit 11)), ((nat_lit 15), (nat_lit 10), (nat_lit 12))]
theorem el_n_0 : (fun e : Nat × Nat × Nat => ek_N (ec_on e.1) e.2.1 e.2.2 et_cls) ((nat_lit 11), (nat_lit 9), (nat_lit 0)) := ⟨"WarmNight$Carriage", ec_T0, 20, ec_y0, rfl, ew_986, ew_987, ew_2, ec_c0, ec_d0⟩
theorem el_n_1 : (fun e : Nat × Nat × Nat => ek_N (ec_on e.1) e.2.1 e.2.2 et_cls) ((nat_lit 11), (nat_lit 27), (nat_lit 9)) := ⟨"WarmNight$Text", ec_T9, 6, ec_y9, rfl, ew_992, ew_993, ew_206, ec_c9, ec_d9⟩
theorem el_n_2 : (fun e : Nat × Nat × Nat => ek_N (ec_on e.1) e.2.1 e.2.2 et_cls) ((nat_lit 11), (nat_lit 40), (nat_lit 5)) := ⟨"WarmNight$Night", ec_T5, 16, ec_y5, rfl, ew_997, ew_998, ew_76, ec_c5, ec_d5⟩
theorem el_n_3 : (fun e : Nat × Nat × Nat => ek_N (ec_on e.1) e.2.1 e.2.2 et_cls) ((nat_lit 11), (nat_lit 49), (nat_lit 7)) := ⟨"WarmNight$Search", ec_T7, 7, ec_y7, rfl, ew_1000, ew_1001, ew_159, ec_c7, ec_d7⟩
theorem el_n_4 : (fun e : Nat × Nat × Nat => ek_N (ec_on e.1) e.2.1 e.2.2 et_cls) ((nat_lit 11), (nat_lit 58), (nat_lit 8)) := ⟨"WarmNight$Sharing", ec_T8, 8, ec_y8, rfl, ew_1003, ew_1004, ew_173, ec_c8, ec_d8⟩
theorem el_n_5 : (fun e : Nat × Nat × Nat => ek_N (ec_on e.1) e.2.1 e.2.2 et_cls) ((nat_lit 11), (nat_lit 34), (nat_lit 2)) := ⟨"WarmNight$Even", ec_T2, 0, ec_y2, rfl, ew_995, ew_1008, ew_33, ec_c2, ec_d2⟩
theorem el_n_6 : (fun e : Nat × Nat × Nat => ek_N (ec_on e.1) e.2.1 e.2.2 et_cls) ((nat_lit 11), (nat_lit 73), (nat_lit 1)) := ⟨"WarmNight$Early", ec_T1, 0, ec_y1, rfl, ew_1009, ew_1010, ew_65, ec_c1, ec_d1⟩
theorem el_n_7 : (fun e : Nat × Nat × Nat => ek_N (ec_on e.1) e.2.1 e.2.2 et_cls) ((nat_lit 11), (nat_lit 76), (nat_lit 4)) := ⟨"WarmNight$Late", ec_T4, 0, ec_y4, rfl, ew_1011, ew_1012, ew_85, ec_c4, ec_d4⟩
theorem el_n_8 : (fun e : Nat × Nat × Nat => ek_N (ec_on e.1) e.2.1 e.2.2 et_cls) ((nat_lit 11), (nat_lit 79), (nat_lit 3)) := ⟨"WarmNight$Half", ec_T3, 0, ec_y3, rfl, ew_1013, ew_1014, ew_60, ec_c3, ec_d3⟩
theorem el_n_9 : (fun e : Nat × Nat × Nat => ek_N (ec_on e.1) e.2.1 e.2.2 et_cls) ((nat_lit 11), (nat_lit 82), (nat_lit 10)) := ⟨"WarmNight$Turn", ec_T10, 0, ec_y10, rfl, ew_1015, ew_1016, ew_129, ec_c10, ec_d10⟩
theorem el_n_10 : (fun e : Nat × Nat × Nat => ek_N (ec_on e.1) e.2.1 e.2.2 et_cls) ((nat_lit 11), (nat_lit 85), (nat_lit 6)) := ⟨"WarmNight$Planned", ec_T6, 0, ec_y6, rfl, ew_1017, ew_1018, ew_89, ec_c6, ec_d6⟩
theorem el_n_11 : (fun e : Nat × Nat × Nat => ek_N (ec_on e.1) e.2.1 e.2.2 et_cls) ((nat_lit 15), (nat_lit 7), (nat_lit 11)) := ⟨"WarmNight", ec_T11, 11, ec_y11, rfl, ew_1113, ew_1114, ew_6, ec_c11, ec_d11⟩
theorem el_n_12 : (fun e : Nat × Nat × Nat => ek_N (ec_on e.1) e.2.1 e.2.2 et_cls) ((nat_lit 15), (nat_lit 10), (nat_lit 12)) := ⟨"WarmNightModel", ec_T12, 33, ec_y12, rfl, ew_1115, ew_1116, ew_428, ec_c12, ec_d12⟩
set_option maxRecDepth 100000 in
theorem el_n_ok : ∀ e ∈ el_n, (fun e : Nat × Nat × Nat => ek_N (ec_on e.1) e.2.1 e.2.2 et_cls) e := List.forall_mem_cons.mpr ⟨el_n_0, List.forall_mem_cons.mpr ⟨el_n_1, List.forall_mem_cons.mpr ⟨el_n_2, List.forall_mem_cons.mpr ⟨el_n_3, List.forall_mem_cons.mpr ⟨el_n_4, List.forall_mem_cons.mpr ⟨el_n_5, List.forall_mem_cons.mpr ⟨el_n_6, List.forall_mem_cons.mpr ⟨el_n_7, List.forall_mem_cons.mpr ⟨el_n_8, List.forall_mem_cons.mpr ⟨el_n_9, List.forall_mem_cons.mpr ⟨el_n_10, List.forall_mem_cons.mpr ⟨el_n_11, List.forall_mem_cons.mpr ⟨el_n_12, fun _ h => absurd h List.not_mem_nil⟩⟩⟩⟩⟩⟩⟩⟩⟩⟩⟩⟩⟩
def el_a : List (Nat × Nat × Nat) := [((nat_lit 11), (nat_lit 9), (nat_lit 3)), ((nat_lit 11), (nat_lit 34), (nat_lit 4))]
theorem el_a_0 : (fun e : Nat × Nat × Nat => ∃ C : String, Jvm.Cond.classLink (ec_on e.1) e.2.1 C ∈ eg_T ∧ ((e.2.2 = 3 ∧ C = "WarmNight$Carriage") ∨ (e.2.2 = 4 ∧ C = "WarmNight$Even"))) ((nat_lit 11), (nat_lit 9), (nat_lit 3)) := ⟨"WarmNight$Carriage", ew_986, Or.inl ⟨rfl, rfl⟩⟩
theorem el_a_1 : (fun e : Nat × Nat × Nat => ∃ C : String, Jvm.Cond.classLink (ec_on e.1) e.2.1 C ∈ eg_T ∧ ((e.2.2 = 3 ∧ C = "WarmNight$Carriage") ∨ (e.2.2 = 4 ∧ C = "WarmNight$Even"))) ((nat_lit 11), (nat_lit 34), (nat_lit 4)) := ⟨"WarmNight$Even", ew_995, Or.inr ⟨rfl, rfl⟩⟩
set_option maxRecDepth 100000 in
theorem el_a_ok : ∀ e ∈ el_a, (fun e : Nat × Nat × Nat => ∃ C : String, Jvm.Cond.classLink (ec_on e.1) e.2.1 C ∈ eg_T ∧ ((e.2.2 = 3 ∧ C = "WarmNight$Carriage") ∨ (e.2.2 = 4 ∧ C = "WarmNight$Even"))) e := List.forall_mem_cons.mpr ⟨el_a_0, List.forall_mem_cons.mpr ⟨el_a_1, fun _ h => absurd h List.not_mem_nil⟩⟩
def el_m : List (Nat × Nat) := [((nat_lit 0), (nat_lit 51)), ((nat_lit 5), (nat_lit 9)), ((nat_lit 8), (nat_lit 21)), ((nat_lit 9), (nat_lit 18))]
theorem el_m_0 : (fun e : Nat × Nat => Jvm.Cond.classLink (ec_on e.1) e.2 "[[I" ∈ eg_T) ((nat_lit 0), (nat_lit 51)) := ew_888
theorem el_m_1 : (fun e : Nat × Nat => Jvm.Cond.classLink (ec_on e.1) e.2 "[[I" ∈ eg_T) ((nat_lit 5), (nat_lit 9)) := ew_907
theorem el_m_2 : (fun e : Nat × Nat => Jvm.Cond.classLink (ec_on e.1) e.2 "[[I" ∈ eg_T) ((nat_lit 8), (nat_lit 21)) := ew_957
theorem el_m_3 : (fun e : Nat × Nat => Jvm.Cond.classLink (ec_on e.1) e.2 "[[I" ∈ eg_T) ((nat_lit 9), (nat_lit 18)) := ew_976
set_option maxRecDepth 100000 in
theorem el_m_ok : ∀ e ∈ el_m, (fun e : Nat × Nat => Jvm.Cond.classLink (ec_on e.1) e.2 "[[I" ∈ eg_T) e := List.forall_mem_cons.mpr ⟨el_m_0, List.forall_mem_cons.mpr ⟨el_m_1, List.forall_mem_cons.mpr ⟨el_m_2, List.forall_mem_cons.mpr ⟨el_m_3, fun _ h => absurd h List.not_mem_nil⟩⟩⟩⟩
def el_y : List (Nat × Nat) := [((nat_lit 0), (nat_lit 62)), ((nat_lit 5), (nat_lit 143)), ((nat_lit 7), (nat_lit 75)), ((nat_lit 8), (nat_lit 97))]
theorem el_y_0 : (fun e : Nat × Nat => Jvm.Cond.methodLink (ec_on e.1) e.2 arraycopyName ∈ eg_T) ((nat_lit 0), (nat_lit 62)) := ew_891
theorem el_y_1 : (fun e : Nat × Nat => Jvm.Cond.methodLink (ec_on e.1) e.2 arraycopyName ∈ eg_T) ((nat_lit 5), (nat_lit 143)) := ew_933
theorem el_y_2 : (fun e : Nat × Nat => Jvm.Cond.methodLink (ec_on e.1) e.2 arraycopyName ∈ eg_T) ((nat_lit 7), (nat_lit 75)) := ew_951
theorem el_y_3 : (fun e : Nat × Nat => Jvm.Cond.methodLink (ec_on e.1) e.2 arraycopyName ∈ eg_T) ((nat_lit 8), (nat_lit 97)) := ew_971
set_option maxRecDepth 100000 in
theorem el_y_ok : ∀ e ∈ el_y, (fun e : Nat × Nat => Jvm.Cond.methodLink (ec_on e.1) e.2 arraycopyName ∈ eg_T) e := List.forall_mem_cons.mpr ⟨el_y_0, List.forall_mem_cons.mpr ⟨el_y_1, List.forall_mem_cons.mpr ⟨el_y_2, List.forall_mem_cons.mpr ⟨el_y_3, fun _ h => absurd h List.not_mem_nil⟩⟩⟩⟩
def el_S : List (Nat × Nat × Nat × Nat) := [((nat_lit 0), (nat_lit 88), (nat_lit 119), (nat_lit 3)), ((nat_lit 0), (nat_lit 103), (nat_lit 15), (nat_lit 2)), ((nat_lit 0), (nat_lit 108), (nat_lit 208), (nat_lit 2)), ((nat_lit 0), (nat_lit 126), (nat_lit 121), (nat_lit 2)), ((nat_lit 1), (nat_lit 17), (nat_lit 208), (nat_lit 2)), ((nat_lit 2), (nat_lit 7), (nat_lit 208), (nat_lit 2)), ((nat_lit 2), (nat_lit 19), (nat_lit 15), (nat_lit 2)), ((nat_lit 3), (nat_lit 19), (nat_lit 208), (nat_lit 2)), ((nat_lit 3), (nat_lit 25), (nat_lit 207), (nat_lit 2)), ((nat_lit 3), (nat_lit 32), (nat_lit 37), (nat_lit 2)), ((nat_lit 3), (nat_lit 37), (nat_lit 206), (nat_lit 1)), ((nat_lit 5), (nat_lit 107), (nat_lit 15), (nat_lit 2)), ((nat_lit 5), (nat_lit 155), (nat_lit 208), (nat_lit 2)), ((nat_lit 5), (nat_lit 167), (nat_lit 207), (nat_lit 2)), ((nat_lit 7), (nat_lit 58), (nat_lit 119), (nat_lit 3)), ((nat_lit 8), (nat_lit 55), (nat_lit 208), (nat_lit 2)), ((nat_lit 8), (nat_lit 104), (nat_lit 204), (nat_lit 1)), ((nat_lit 9), (nat_lit 23), (nat_lit 119), (nat_lit 3)), ((nat_lit 10), (nat_lit 13), (nat_lit 207), (nat_lit 2)), ((nat_lit 10), (nat_lit 19), (nat_lit 205), (nat_lit 2)), ((nat_lit 11), (nat_lit 151), (nat_lit 120), (nat_lit 2)), ((nat_lit 11), (nat_lit 181), (nat_lit 119), (nat_lit 3)), ((nat_lit 11), (nat_lit 257), (nat_lit 204), (nat_lit 1)), ((nat_lit 11), (nat_lit 273), (nat_lit 121), (nat_lit 2)), ((nat_lit 11), (nat_lit 296), (nat_lit 125), (nat_lit 2)), ((nat_lit 12), (nat_lit 81), (nat_lit 129), (nat_lit 2)), ((nat_lit 12), (nat_lit 91), (nat_lit 133), (nat_lit 1)), ((nat_lit 12), (nat_lit 95), (nat_lit 126), (nat_lit 3)), ((nat_lit 12), (nat_lit 112), (nat_lit 135), (nat_lit 1)), ((nat_lit 12), (nat_lit 116), (nat_lit 137), (nat_lit 1)), ((nat_lit 12), (nat_lit 131), (nat_lit 136), (nat_lit 1)), ((nat_lit 12), (nat_lit 193), (nat_lit 152), (nat_lit 1)), ((nat_lit 12), (nat_lit 208), (nat_lit 154), (nat_lit 1)), ((nat_lit 12), (nat_lit 299), (nat_lit 170), (nat_lit 2)), ((nat_lit 12), (nat_lit 332), (nat_lit 187), (nat_lit 1))]
theorem el_S_0 : (fun e : Nat × Nat × Nat × Nat => ∃ (y : MethodName) (by' : ByteArray) (nl : Nat) (rt : Option FieldType), em_inf[e.2.2.1]? = some (y, by', nl, rt) ∧ ec_callS (ec_on e.1) e.2.1 y by' nl rt e.2.2.2) ((nat_lit 0), (nat_lit 88), (nat_lit 119), (nat_lit 3)) := ⟨_, _, _, _, rfl, ef_1⟩
theorem el_S_1 : (fun e : Nat × Nat × Nat × Nat => ∃ (y : MethodName) (by' : ByteArray) (nl : Nat) (rt : Option FieldType), em_inf[e.2.2.1]? = some (y, by', nl, rt) ∧ ec_callS (ec_on e.1) e.2.1 y by' nl rt e.2.2.2) ((nat_lit 0), (nat_lit 103), (nat_lit 15), (nat_lit 2)) := ⟨_, _, _, _, rfl, ef_3⟩
theorem el_S_2 : (fun e : Nat × Nat × Nat × Nat => ∃ (y : MethodName) (by' : ByteArray) (nl : Nat) (rt : Option FieldType), em_inf[e.2.2.1]? = some (y, by', nl, rt) ∧ ec_callS (ec_on e.1) e.2.1 y by' nl rt e.2.2.2) ((nat_lit 0), (nat_lit 108), (nat_lit 208), (nat_lit 2)) := ⟨_, _, _, _, rfl, ef_4⟩
theorem el_S_3 : (fun e : Nat × Nat × Nat × Nat => ∃ (y : MethodName) (by' : ByteArray) (nl : Nat) (rt : Option FieldType), em_inf[e.2.2.1]? = some (y, by', nl, rt) ∧ ec_callS (ec_on e.1) e.2.1 y by' nl rt e.2.2.2) ((nat_lit 0), (nat_lit 126), (nat_lit 121), (nat_lit 2)) := ⟨_, _, _, _, rfl, ef_8⟩
theorem el_S_4 : (fun e : Nat × Nat × Nat × Nat => ∃ (y : MethodName) (by' : ByteArray) (nl : Nat) (rt : Option FieldType), em_inf[e.2.2.1]? = some (y, by', nl, rt) ∧ ec_callS (ec_on e.1) e.2.1 y by' nl rt e.2.2.2) ((nat_lit 1), (nat_lit 17), (nat_lit 208), (nat_lit 2)) := ⟨_, _, _, _, rfl, ef_12⟩
theorem el_S_5 : (fun e : Nat × Nat × Nat × Nat => ∃ (y : MethodName) (by' : ByteArray) (nl : Nat) (rt : Option FieldType), em_inf[e.2.2.1]? = some (y, by', nl, rt) ∧ ec_callS (ec_on e.1) e.2.1 y by' nl rt e.2.2.2) ((nat_lit 2), (nat_lit 7), (nat_lit 208), (nat_lit 2)) := ⟨_, _, _, _, rfl, ef_13⟩
theorem el_S_6 : (fun e : Nat × Nat × Nat × Nat => ∃ (y : MethodName) (by' : ByteArray) (nl : Nat) (rt : Option FieldType), em_inf[e.2.2.1]? = some (y, by', nl, rt) ∧ ec_callS (ec_on e.1) e.2.1 y by' nl rt e.2.2.2) ((nat_lit 2), (nat_lit 19), (nat_lit 15), (nat_lit 2)) := ⟨_, _, _, _, rfl, ef_14⟩
theorem el_S_7 : (fun e : Nat × Nat × Nat × Nat => ∃ (y : MethodName) (by' : ByteArray) (nl : Nat) (rt : Option FieldType), em_inf[e.2.2.1]? = some (y, by', nl, rt) ∧ ec_callS (ec_on e.1) e.2.1 y by' nl rt e.2.2.2) ((nat_lit 3), (nat_lit 19), (nat_lit 208), (nat_lit 2)) := ⟨_, _, _, _, rfl, ef_17⟩
theorem el_S_8 : (fun e : Nat × Nat × Nat × Nat => ∃ (y : MethodName) (by' : ByteArray) (nl : Nat) (rt : Option FieldType), em_inf[e.2.2.1]? = some (y, by', nl, rt) ∧ ec_callS (ec_on e.1) e.2.1 y by' nl rt e.2.2.2) ((nat_lit 3), (nat_lit 25), (nat_lit 207), (nat_lit 2)) := ⟨_, _, _, _, rfl, ef_18⟩
theorem el_S_9 : (fun e : Nat × Nat × Nat × Nat => ∃ (y : MethodName) (by' : ByteArray) (nl : Nat) (rt : Option FieldType), em_inf[e.2.2.1]? = some (y, by', nl, rt) ∧ ec_callS (ec_on e.1) e.2.1 y by' nl rt e.2.2.2) ((nat_lit 3), (nat_lit 32), (nat_lit 37), (nat_lit 2)) := ⟨_, _, _, _, rfl, ef_20⟩
theorem el_S_10 : (fun e : Nat × Nat × Nat × Nat => ∃ (y : MethodName) (by' : ByteArray) (nl : Nat) (rt : Option FieldType), em_inf[e.2.2.1]? = some (y, by', nl, rt) ∧ ec_callS (ec_on e.1) e.2.1 y by' nl rt e.2.2.2) ((nat_lit 3), (nat_lit 37), (nat_lit 206), (nat_lit 1)) := ⟨_, _, _, _, rfl, ef_21⟩
theorem el_S_11 : (fun e : Nat × Nat × Nat × Nat => ∃ (y : MethodName) (by' : ByteArray) (nl : Nat) (rt : Option FieldType), em_inf[e.2.2.1]? = some (y, by', nl, rt) ∧ ec_callS (ec_on e.1) e.2.1 y by' nl rt e.2.2.2) ((nat_lit 5), (nat_lit 107), (nat_lit 15), (nat_lit 2)) := ⟨_, _, _, _, rfl, ef_41⟩
theorem el_S_12 : (fun e : Nat × Nat × Nat × Nat => ∃ (y : MethodName) (by' : ByteArray) (nl : Nat) (rt : Option FieldType), em_inf[e.2.2.1]? = some (y, by', nl, rt) ∧ ec_callS (ec_on e.1) e.2.1 y by' nl rt e.2.2.2) ((nat_lit 5), (nat_lit 155), (nat_lit 208), (nat_lit 2)) := ⟨_, _, _, _, rfl, ef_55⟩
theorem el_S_13 : (fun e : Nat × Nat × Nat × Nat => ∃ (y : MethodName) (by' : ByteArray) (nl : Nat) (rt : Option FieldType), em_inf[e.2.2.1]? = some (y, by', nl, rt) ∧ ec_callS (ec_on e.1) e.2.1 y by' nl rt e.2.2.2) ((nat_lit 5), (nat_lit 167), (nat_lit 207), (nat_lit 2)) := ⟨_, _, _, _, rfl, ef_57⟩
theorem el_S_14 : (fun e : Nat × Nat × Nat × Nat => ∃ (y : MethodName) (by' : ByteArray) (nl : Nat) (rt : Option FieldType), em_inf[e.2.2.1]? = some (y, by', nl, rt) ∧ ec_callS (ec_on e.1) e.2.1 y by' nl rt e.2.2.2) ((nat_lit 7), (nat_lit 58), (nat_lit 119), (nat_lit 3)) := ⟨_, _, _, _, rfl, ef_62⟩
theorem el_S_15 : (fun e : Nat × Nat × Nat × Nat => ∃ (y : MethodName) (by' : ByteArray) (nl : Nat) (rt : Option FieldType), em_inf[e.2.2.1]? = some (y, by', nl, rt) ∧ ec_callS (ec_on e.1) e.2.1 y by' nl rt e.2.2.2) ((nat_lit 8), (nat_lit 55), (nat_lit 208), (nat_lit 2)) := ⟨_, _, _, _, rfl, ef_68⟩
theorem el_S_16 : (fun e : Nat × Nat × Nat × Nat => ∃ (y : MethodName) (by' : ByteArray) (nl : Nat) (rt : Option FieldType), em_inf[e.2.2.1]? = some (y, by', nl, rt) ∧ ec_callS (ec_on e.1) e.2.1 y by' nl rt e.2.2.2) ((nat_lit 8), (nat_lit 104), (nat_lit 204), (nat_lit 1)) := ⟨_, _, _, _, rfl, ef_75⟩
theorem el_S_17 : (fun e : Nat × Nat × Nat × Nat => ∃ (y : MethodName) (by' : ByteArray) (nl : Nat) (rt : Option FieldType), em_inf[e.2.2.1]? = some (y, by', nl, rt) ∧ ec_callS (ec_on e.1) e.2.1 y by' nl rt e.2.2.2) ((nat_lit 9), (nat_lit 23), (nat_lit 119), (nat_lit 3)) := ⟨_, _, _, _, rfl, ef_77⟩
theorem el_S_18 : (fun e : Nat × Nat × Nat × Nat => ∃ (y : MethodName) (by' : ByteArray) (nl : Nat) (rt : Option FieldType), em_inf[e.2.2.1]? = some (y, by', nl, rt) ∧ ec_callS (ec_on e.1) e.2.1 y by' nl rt e.2.2.2) ((nat_lit 10), (nat_lit 13), (nat_lit 207), (nat_lit 2)) := ⟨_, _, _, _, rfl, ef_97⟩
theorem el_S_19 : (fun e : Nat × Nat × Nat × Nat => ∃ (y : MethodName) (by' : ByteArray) (nl : Nat) (rt : Option FieldType), em_inf[e.2.2.1]? = some (y, by', nl, rt) ∧ ec_callS (ec_on e.1) e.2.1 y by' nl rt e.2.2.2) ((nat_lit 10), (nat_lit 19), (nat_lit 205), (nat_lit 2)) := ⟨_, _, _, _, rfl, ef_98⟩
theorem el_S_20 : (fun e : Nat × Nat × Nat × Nat => ∃ (y : MethodName) (by' : ByteArray) (nl : Nat) (rt : Option FieldType), em_inf[e.2.2.1]? = some (y, by', nl, rt) ∧ ec_callS (ec_on e.1) e.2.1 y by' nl rt e.2.2.2) ((nat_lit 11), (nat_lit 151), (nat_lit 120), (nat_lit 2)) := ⟨_, _, _, _, rfl, ef_127⟩
theorem el_S_21 : (fun e : Nat × Nat × Nat × Nat => ∃ (y : MethodName) (by' : ByteArray) (nl : Nat) (rt : Option FieldType), em_inf[e.2.2.1]? = some (y, by', nl, rt) ∧ ec_callS (ec_on e.1) e.2.1 y by' nl rt e.2.2.2) ((nat_lit 11), (nat_lit 181), (nat_lit 119), (nat_lit 3)) := ⟨_, _, _, _, rfl, ef_133⟩
theorem el_S_22 : (fun e : Nat × Nat × Nat × Nat => ∃ (y : MethodName) (by' : ByteArray) (nl : Nat) (rt : Option FieldType), em_inf[e.2.2.1]? = some (y, by', nl, rt) ∧ ec_callS (ec_on e.1) e.2.1 y by' nl rt e.2.2.2) ((nat_lit 11), (nat_lit 257), (nat_lit 204), (nat_lit 1)) := ⟨_, _, _, _, rfl, ef_149⟩
theorem el_S_23 : (fun e : Nat × Nat × Nat × Nat => ∃ (y : MethodName) (by' : ByteArray) (nl : Nat) (rt : Option FieldType), em_inf[e.2.2.1]? = some (y, by', nl, rt) ∧ ec_callS (ec_on e.1) e.2.1 y by' nl rt e.2.2.2) ((nat_lit 11), (nat_lit 273), (nat_lit 121), (nat_lit 2)) := ⟨_, _, _, _, rfl, ef_151⟩
theorem el_S_24 : (fun e : Nat × Nat × Nat × Nat => ∃ (y : MethodName) (by' : ByteArray) (nl : Nat) (rt : Option FieldType), em_inf[e.2.2.1]? = some (y, by', nl, rt) ∧ ec_callS (ec_on e.1) e.2.1 y by' nl rt e.2.2.2) ((nat_lit 11), (nat_lit 296), (nat_lit 125), (nat_lit 2)) := ⟨_, _, _, _, rfl, ef_156⟩
theorem el_S_25 : (fun e : Nat × Nat × Nat × Nat => ∃ (y : MethodName) (by' : ByteArray) (nl : Nat) (rt : Option FieldType), em_inf[e.2.2.1]? = some (y, by', nl, rt) ∧ ec_callS (ec_on e.1) e.2.1 y by' nl rt e.2.2.2) ((nat_lit 12), (nat_lit 81), (nat_lit 129), (nat_lit 2)) := ⟨_, _, _, _, rfl, ef_158⟩
theorem el_S_26 : (fun e : Nat × Nat × Nat × Nat => ∃ (y : MethodName) (by' : ByteArray) (nl : Nat) (rt : Option FieldType), em_inf[e.2.2.1]? = some (y, by', nl, rt) ∧ ec_callS (ec_on e.1) e.2.1 y by' nl rt e.2.2.2) ((nat_lit 12), (nat_lit 91), (nat_lit 133), (nat_lit 1)) := ⟨_, _, _, _, rfl, ef_159⟩
theorem el_S_27 : (fun e : Nat × Nat × Nat × Nat => ∃ (y : MethodName) (by' : ByteArray) (nl : Nat) (rt : Option FieldType), em_inf[e.2.2.1]? = some (y, by', nl, rt) ∧ ec_callS (ec_on e.1) e.2.1 y by' nl rt e.2.2.2) ((nat_lit 12), (nat_lit 95), (nat_lit 126), (nat_lit 3)) := ⟨_, _, _, _, rfl, ef_160⟩
theorem el_S_28 : (fun e : Nat × Nat × Nat × Nat => ∃ (y : MethodName) (by' : ByteArray) (nl : Nat) (rt : Option FieldType), em_inf[e.2.2.1]? = some (y, by', nl, rt) ∧ ec_callS (ec_on e.1) e.2.1 y by' nl rt e.2.2.2) ((nat_lit 12), (nat_lit 112), (nat_lit 135), (nat_lit 1)) := ⟨_, _, _, _, rfl, ef_162⟩
theorem el_S_29 : (fun e : Nat × Nat × Nat × Nat => ∃ (y : MethodName) (by' : ByteArray) (nl : Nat) (rt : Option FieldType), em_inf[e.2.2.1]? = some (y, by', nl, rt) ∧ ec_callS (ec_on e.1) e.2.1 y by' nl rt e.2.2.2) ((nat_lit 12), (nat_lit 116), (nat_lit 137), (nat_lit 1)) := ⟨_, _, _, _, rfl, ef_163⟩
theorem el_S_30 : (fun e : Nat × Nat × Nat × Nat => ∃ (y : MethodName) (by' : ByteArray) (nl : Nat) (rt : Option FieldType), em_inf[e.2.2.1]? = some (y, by', nl, rt) ∧ ec_callS (ec_on e.1) e.2.1 y by' nl rt e.2.2.2) ((nat_lit 12), (nat_lit 131), (nat_lit 136), (nat_lit 1)) := ⟨_, _, _, _, rfl, ef_165⟩
theorem el_S_31 : (fun e : Nat × Nat × Nat × Nat => ∃ (y : MethodName) (by' : ByteArray) (nl : Nat) (rt : Option FieldType), em_inf[e.2.2.1]? = some (y, by', nl, rt) ∧ ec_callS (ec_on e.1) e.2.1 y by' nl rt e.2.2.2) ((nat_lit 12), (nat_lit 193), (nat_lit 152), (nat_lit 1)) := ⟨_, _, _, _, rfl, ef_168⟩
theorem el_S_32 : (fun e : Nat × Nat × Nat × Nat => ∃ (y : MethodName) (by' : ByteArray) (nl : Nat) (rt : Option FieldType), em_inf[e.2.2.1]? = some (y, by', nl, rt) ∧ ec_callS (ec_on e.1) e.2.1 y by' nl rt e.2.2.2) ((nat_lit 12), (nat_lit 208), (nat_lit 154), (nat_lit 1)) := ⟨_, _, _, _, rfl, ef_170⟩
theorem el_S_33 : (fun e : Nat × Nat × Nat × Nat => ∃ (y : MethodName) (by' : ByteArray) (nl : Nat) (rt : Option FieldType), em_inf[e.2.2.1]? = some (y, by', nl, rt) ∧ ec_callS (ec_on e.1) e.2.1 y by' nl rt e.2.2.2) ((nat_lit 12), (nat_lit 299), (nat_lit 170), (nat_lit 2)) := ⟨_, _, _, _, rfl, ef_194⟩
theorem el_S_34 : (fun e : Nat × Nat × Nat × Nat => ∃ (y : MethodName) (by' : ByteArray) (nl : Nat) (rt : Option FieldType), em_inf[e.2.2.1]? = some (y, by', nl, rt) ∧ ec_callS (ec_on e.1) e.2.1 y by' nl rt e.2.2.2) ((nat_lit 12), (nat_lit 332), (nat_lit 187), (nat_lit 1)) := ⟨_, _, _, _, rfl, ef_203⟩
set_option maxRecDepth 100000 in
theorem el_S_ok : ∀ e ∈ el_S, (fun e : Nat × Nat × Nat × Nat => ∃ (y : MethodName) (by' : ByteArray) (nl : Nat) (rt : Option FieldType), em_inf[e.2.2.1]? = some (y, by', nl, rt) ∧ ec_callS (ec_on e.1) e.2.1 y by' nl rt e.2.2.2) e := List.forall_mem_cons.mpr ⟨el_S_0, List.forall_mem_cons.mpr ⟨el_S_1, List.forall_mem_cons.mpr ⟨el_S_2, List.forall_mem_cons.mpr ⟨el_S_3, List.forall_mem_cons.mpr ⟨el_S_4, List.forall_mem_cons.mpr ⟨el_S_5, List.forall_mem_cons.mpr ⟨el_S_6, List.forall_mem_cons.mpr ⟨el_S_7, List.forall_mem_cons.mpr ⟨el_S_8, List.forall_mem_cons.mpr ⟨el_S_9, List.forall_mem_cons.mpr ⟨el_S_10, List.forall_mem_cons.mpr ⟨el_S_11, List.forall_mem_cons.mpr ⟨el_S_12, List.forall_mem_cons.mpr ⟨el_S_13, List.forall_mem_cons.mpr ⟨el_S_14, List.forall_mem_cons.mpr ⟨el_S_15, List.forall_mem_cons.mpr ⟨el_S_16, List.forall_mem_cons.mpr ⟨el_S_17, List.forall_mem_cons.mpr ⟨el_S_18, List.forall_mem_cons.mpr ⟨el_S_19, List.forall_mem_cons.mpr ⟨el_S_20, List.forall_mem_cons.mpr ⟨el_S_21, List.forall_mem_cons.mpr ⟨el_S_22, List.forall_mem_cons.mpr ⟨el_S_23, List.forall_mem_cons.mpr ⟨el_S_24, List.forall_mem_cons.mpr ⟨el_S_25, List.forall_mem_cons.mpr ⟨el_S_26, List.forall_mem_cons.mpr ⟨el_S_27, List.forall_mem_cons.mpr ⟨el_S_28, List.forall_mem_cons.mpr ⟨el_S_29, List.forall_mem_cons.mpr ⟨el_S_30, List.forall_mem_cons.mpr ⟨el_S_31, List.forall_mem_cons.mpr ⟨el_S_32, List.forall_mem_cons.mpr ⟨el_S_33, List.forall_mem_cons.mpr ⟨el_S_34, fun _ h => absurd h List.not_mem_nil⟩⟩⟩⟩⟩⟩⟩⟩⟩⟩⟩⟩⟩⟩⟩⟩⟩⟩⟩⟩⟩⟩⟩⟩⟩⟩⟩⟩⟩⟩⟩⟩⟩⟩⟩
def el_V : List (Nat × Nat × Nat × Nat) := [((nat_lit 0), (nat_lit 56), (nat_lit 0), (nat_lit 0)), ((nat_lit 0), (nat_lit 99), (nat_lit 1), (nat_lit 3)), ((nat_lit 0), (nat_lit 115), (nat_lit 2), (nat_lit 1)), ((nat_lit 0), (nat_lit 119), (nat_lit 3), (nat_lit 0)), ((nat_lit 0), (nat_lit 123), (nat_lit 4), (nat_lit 0)), ((nat_lit 1), (nat_lit 7), (nat_lit 4), (nat_lit 0)), ((nat_lit 3), (nat_lit 15), (nat_lit 5), (nat_lit 1)), ((nat_lit 4), (nat_lit 7), (nat_lit 4), (nat_lit 0)), ((nat_lit 5), (nat_lit 60), (nat_lit 6), (nat_lit 3)), ((nat_lit 5), (nat_lit 64), (nat_lit 4), (nat_lit 0)), ((nat_lit 5), (nat_lit 70), (nat_lit 7), (nat_lit 4)), ((nat_lit 5), (nat_lit 76), (nat_lit 8), (nat_lit 2)), ((nat_lit 5), (nat_lit 84), (nat_lit 3), (nat_lit 0)), ((nat_lit 5), (nat_lit 89), (nat_lit 9), (nat_lit 2)), ((nat_lit 5), (nat_lit 111), (nat_lit 10), (nat_lit 2)), ((nat_lit 5), (nat_lit 115), (nat_lit 11), (nat_lit 2)), ((nat_lit 5), (nat_lit 122), (nat_lit 5), (nat_lit 1)), ((nat_lit 5), (nat_lit 126), (nat_lit 12), (nat_lit 3)), ((nat_lit 5), (nat_lit 129), (nat_lit 13), (nat_lit 1)), ((nat_lit 5), (nat_lit 136), (nat_lit 14), (nat_lit 2)), ((nat_lit 5), (nat_lit 139), (nat_lit 15), (nat_lit 1)), ((nat_lit 5), (nat_lit 152), (nat_lit 16), (nat_lit 2)), ((nat_lit 5), (nat_lit 163), (nat_lit 17), (nat_lit 0)), ((nat_lit 7), (nat_lit 48), (nat_lit 6), (nat_lit 3)), ((nat_lit 7), (nat_lit 54), (nat_lit 18), (nat_lit 2)), ((nat_lit 7), (nat_lit 68), (nat_lit 19), (nat_lit 3)), ((nat_lit 7), (nat_lit 71), (nat_lit 4), (nat_lit 0)), ((nat_lit 7), (nat_lit 84), (nat_lit 8), (nat_lit 2)), ((nat_lit 8), (nat_lit 37), (nat_lit 3), (nat_lit 0)), ((nat_lit 8), (nat_lit 47), (nat_lit 4), (nat_lit 0)), ((nat_lit 8), (nat_lit 61), (nat_lit 20), (nat_lit 0)), ((nat_lit 8), (nat_lit 71), (nat_lit 21), (nat_lit 1)), ((nat_lit 8), (nat_lit 79), (nat_lit 22), (nat_lit 2)), ((nat_lit 8), (nat_lit 83), (nat_lit 23), (nat_lit 2)), ((nat_lit 8), (nat_lit 86), (nat_lit 24), (nat_lit 0)), ((nat_lit 8), (nat_lit 92), (nat_lit 25), (nat_lit 4)), ((nat_lit 8), (nat_lit 109), (nat_lit 26), (nat_lit 2)), ((nat_lit 9), (nat_lit 38), (nat_lit 27), (nat_lit 0)), ((nat_lit 9), (nat_lit 44), (nat_lit 28), (nat_lit 1)), ((nat_lit 9), (nat_lit 48), (nat_lit 29), (nat_lit 0)), ((nat_lit 9), (nat_lit 55), (nat_lit 30), (nat_lit 2)), ((nat_lit 9), (nat_lit 59), (nat_lit 31), (nat_lit 1)), ((nat_lit 9), (nat_lit 63), (nat_lit 32), (nat_lit 2)), ((nat_lit 9), (nat_lit 74), (nat_lit 33), (nat_lit 1)), ((nat_lit 9), (nat_lit 77), (nat_lit 34), (nat_lit 2)), ((nat_lit 9), (nat_lit 83), (nat_lit 35), (nat_lit 4)), ((nat_lit 9), (nat_lit 87), (nat_lit 36), (nat_lit 2)), ((nat_lit 9), (nat_lit 90), (nat_lit 37), (nat_lit 2)), ((nat_lit 9), (nat_lit 94), (nat_lit 38), (nat_lit 3)), ((nat_lit 9), (nat_lit 98), (nat_lit 39), (nat_lit 2)), ((nat_lit 9), (nat_lit 101), (nat_lit 40), (nat_lit 5)), ((nat_lit 9), (nat_lit 105), (nat_lit 41), (nat_lit 2)), ((nat_lit 9), (nat_lit 108), (nat_lit 42), (nat_lit 3)), ((nat_lit 9), (nat_lit 111), (nat_lit 43), (nat_lit 2)), ((nat_lit 10), (nat_lit 7), (nat_lit 3), (nat_lit 0)), ((nat_lit 11), (nat_lit 88), (nat_lit 34), (nat_lit 2)), ((nat_lit 11), (nat_lit 92), (nat_lit 35), (nat_lit 4)), ((nat_lit 11), (nat_lit 96), (nat_lit 36), (nat_lit 2)), ((nat_lit 11), (nat_lit 99), (nat_lit 37), (nat_lit 2)), ((nat_lit 11), (nat_lit 103), (nat_lit 38), (nat_lit 3)), ((nat_lit 11), (nat_lit 107), (nat_lit 39), (nat_lit 2)), ((nat_lit 11), (nat_lit 110), (nat_lit 40), (nat_lit 5)), ((nat_lit 11), (nat_lit 114), (nat_lit 41), (nat_lit 2)), ((nat_lit 11), (nat_lit 117), (nat_lit 42), (nat_lit 3)), ((nat_lit 11), (nat_lit 120), (nat_lit 43), (nat_lit 2)), ((nat_lit 11), (nat_lit 123), (nat_lit 44), (nat_lit 2)), ((nat_lit 11), (nat_lit 126), (nat_lit 45), (nat_lit 2)), ((nat_lit 11), (nat_lit 130), (nat_lit 46), (nat_lit 0)), ((nat_lit 11), (nat_lit 134), (nat_lit 47), (nat_lit 0)), ((nat_lit 11), (nat_lit 137), (nat_lit 0), (nat_lit 0)), ((nat_lit 11), (nat_lit 144), (nat_lit 48), (nat_lit 2)), ((nat_lit 11), (nat_lit 148), (nat_lit 49), (nat_lit 1)), ((nat_lit 11), (nat_lit 155), (nat_lit 50), (nat_lit 1)), ((nat_lit 11), (nat_lit 159), (nat_lit 13), (nat_lit 1)), ((nat_lit 11), (nat_lit 163), (nat_lit 51), (nat_lit 2)), ((nat_lit 11), (nat_lit 171), (nat_lit 2), (nat_lit 1)), ((nat_lit 11), (nat_lit 174), (nat_lit 16), (nat_lit 2)), ((nat_lit 11), (nat_lit 191), (nat_lit 52), (nat_lit 0)), ((nat_lit 11), (nat_lit 194), (nat_lit 17), (nat_lit 0)), ((nat_lit 11), (nat_lit 197), (nat_lit 53), (nat_lit 0)), ((nat_lit 11), (nat_lit 200), (nat_lit 54), (nat_lit 0)), ((nat_lit 11), (nat_lit 203), (nat_lit 4), (nat_lit 0)), ((nat_lit 11), (nat_lit 207), (nat_lit 55), (nat_lit 1)), ((nat_lit 11), (nat_lit 214), (nat_lit 56), (nat_lit 1)), ((nat_lit 11), (nat_lit 218), (nat_lit 57), (nat_lit 0)), ((nat_lit 11), (nat_lit 224), (nat_lit 58), (nat_lit 0)), ((nat_lit 11), (nat_lit 233), (nat_lit 59), (nat_lit 2)), ((nat_lit 11), (nat_lit 237), (nat_lit 60), (nat_lit 1)), ((nat_lit 11), (nat_lit 240), (nat_lit 61), (nat_lit 0)), ((nat_lit 11), (nat_lit 243), (nat_lit 62), (nat_lit 1)), ((nat_lit 11), (nat_lit 246), (nat_lit 63), (nat_lit 2)), ((nat_lit 11), (nat_lit 249), (nat_lit 64), (nat_lit 3)), ((nat_lit 11), (nat_lit 270), (nat_lit 65), (nat_lit 1)), ((nat_lit 11), (nat_lit 277), (nat_lit 66), (nat_lit 1)), ((nat_lit 11), (nat_lit 281), (nat_lit 67), (nat_lit 1)), ((nat_lit 11), (nat_lit 284), (nat_lit 68), (nat_lit 1)), ((nat_lit 11), (nat_lit 292), (nat_lit 25), (nat_lit 4)), ((nat_lit 12), (nat_lit 74), (nat_lit 69), (nat_lit 0)), ((nat_lit 12), (nat_lit 99), (nat_lit 70), (nat_lit 2)), ((nat_lit 12), (nat_lit 127), (nat_lit 71), (nat_lit 2)), ((nat_lit 12), (nat_lit 147), (nat_lit 72), (nat_lit 1)), ((nat_lit 12), (nat_lit 179), (nat_lit 73), (nat_lit 2)), ((nat_lit 12), (nat_lit 205), (nat_lit 74), (nat_lit 0)), ((nat_lit 12), (nat_lit 211), (nat_lit 75), (nat_lit 2)), ((nat_lit 12), (nat_lit 214), (nat_lit 76), (nat_lit 4)), ((nat_lit 12), (nat_lit 218), (nat_lit 77), (nat_lit 2)), ((nat_lit 12), (nat_lit 221), (nat_lit 78), (nat_lit 2)), ((nat_lit 12), (nat_lit 224), (nat_lit 79), (nat_lit 3)), ((nat_lit 12), (nat_lit 228), (nat_lit 80), (nat_lit 2)), ((nat_lit 12), (nat_lit 231), (nat_lit 81), (nat_lit 5)), ((nat_lit 12), (nat_lit 235), (nat_lit 82), (nat_lit 2)), ((nat_lit 12), (nat_lit 238), (nat_lit 83), (nat_lit 3)), ((nat_lit 12), (nat_lit 241), (nat_lit 84), (nat_lit 2)), ((nat_lit 12), (nat_lit 244), (nat_lit 85), (nat_lit 0)), ((nat_lit 12), (nat_lit 248), (nat_lit 86), (nat_lit 1)), ((nat_lit 12), (nat_lit 251), (nat_lit 87), (nat_lit 1)), ((nat_lit 12), (nat_lit 254), (nat_lit 88), (nat_lit 0)), ((nat_lit 12), (nat_lit 258), (nat_lit 89), (nat_lit 0)), ((nat_lit 12), (nat_lit 261), (nat_lit 90), (nat_lit 3)), ((nat_lit 12), (nat_lit 264), (nat_lit 91), (nat_lit 2)), ((nat_lit 12), (nat_lit 267), (nat_lit 92), (nat_lit 3)), ((nat_lit 12), (nat_lit 270), (nat_lit 93), (nat_lit 2)), ((nat_lit 12), (nat_lit 283), (nat_lit 94), (nat_lit 4)), ((nat_lit 12), (nat_lit 287), (nat_lit 95), (nat_lit 2)), ((nat_lit 12), (nat_lit 291), (nat_lit 96), (nat_lit 0)), ((nat_lit 12), (nat_lit 294), (nat_lit 97), (nat_lit 2)), ((nat_lit 12), (nat_lit 302), (nat_lit 98), (nat_lit 1)), ((nat_lit 12), (nat_lit 305), (nat_lit 99), (nat_lit 2)), ((nat_lit 12), (nat_lit 312), (nat_lit 100), (nat_lit 0)), ((nat_lit 12), (nat_lit 315), (nat_lit 101), (nat_lit 4)), ((nat_lit 12), (nat_lit 319), (nat_lit 102), (nat_lit 2)), ((nat_lit 12), (nat_lit 322), (nat_lit 103), (nat_lit 3)), ((nat_lit 12), (nat_lit 326), (nat_lit 104), (nat_lit 2)), ((nat_lit 12), (nat_lit 329), (nat_lit 105), (nat_lit 0)), ((nat_lit 12), (nat_lit 335), (nat_lit 106), (nat_lit 0)), ((nat_lit 12), (nat_lit 338), (nat_lit 107), (nat_lit 2)), ((nat_lit 12), (nat_lit 341), (nat_lit 108), (nat_lit 2)), ((nat_lit 12), (nat_lit 347), (nat_lit 109), (nat_lit 3)), ((nat_lit 12), (nat_lit 352), (nat_lit 110), (nat_lit 1)), ((nat_lit 12), (nat_lit 359), (nat_lit 111), (nat_lit 3)), ((nat_lit 15), (nat_lit 13), (nat_lit 112), (nat_lit 2)), ((nat_lit 15), (nat_lit 17), (nat_lit 75), (nat_lit 2)), ((nat_lit 15), (nat_lit 18), (nat_lit 113), (nat_lit 4)), ((nat_lit 15), (nat_lit 22), (nat_lit 76), (nat_lit 4)), ((nat_lit 15), (nat_lit 23), (nat_lit 114), (nat_lit 2)), ((nat_lit 15), (nat_lit 26), (nat_lit 77), (nat_lit 2)), ((nat_lit 15), (nat_lit 27), (nat_lit 115), (nat_lit 2)), ((nat_lit 15), (nat_lit 31), (nat_lit 78), (nat_lit 2)), ((nat_lit 15), (nat_lit 32), (nat_lit 116), (nat_lit 3)), ((nat_lit 15), (nat_lit 36), (nat_lit 79), (nat_lit 3)), ((nat_lit 15), (nat_lit 37), (nat_lit 117), (nat_lit 2)), ((nat_lit 15), (nat_lit 40), (nat_lit 80), (nat_lit 2)), ((nat_lit 15), (nat_lit 41), (nat_lit 118), (nat_lit 5)), ((nat_lit 15), (nat_lit 45), (nat_lit 81), (nat_lit 5)), ((nat_lit 15), (nat_lit 46), (nat_lit 119), (nat_lit 2)), ((nat_lit 15), (nat_lit 49), (nat_lit 82), (nat_lit 2)), ((nat_lit 15), (nat_lit 50), (nat_lit 120), (nat_lit 3)), ((nat_lit 15), (nat_lit 53), (nat_lit 83), (nat_lit 3)), ((nat_lit 15), (nat_lit 54), (nat_lit 121), (nat_lit 2)), ((nat_lit 15), (nat_lit 57), (nat_lit 84), (nat_lit 2)), ((nat_lit 15), (nat_lit 58), (nat_lit 122), (nat_lit 2)), ((nat_lit 15), (nat_lit 61), (nat_lit 123), (nat_lit 2)), ((nat_lit 15), (nat_lit 64), (nat_lit 124), (nat_lit 2)), ((nat_lit 15), (nat_lit 68), (nat_lit 125), (nat_lit 2)), ((nat_lit 15), (nat_lit 69), (nat_lit 126), (nat_lit 0)), ((nat_lit 15), (nat_lit 73), (nat_lit 127), (nat_lit 0)), ((nat_lit 15), (nat_lit 74), (nat_lit 128), (nat_lit 0)), ((nat_lit 15), (nat_lit 77), (nat_lit 129), (nat_lit 0)), ((nat_lit 15), (nat_lit 78), (nat_lit 130), (nat_lit 4)), ((nat_lit 15), (nat_lit 81), (nat_lit 131), (nat_lit 4)), ((nat_lit 15), (nat_lit 82), (nat_lit 132), (nat_lit 4)), ((nat_lit 15), (nat_lit 85), (nat_lit 133), (nat_lit 4)), ((nat_lit 15), (nat_lit 86), (nat_lit 134), (nat_lit 4)), ((nat_lit 15), (nat_lit 89), (nat_lit 135), (nat_lit 4)), ((nat_lit 15), (nat_lit 90), (nat_lit 136), (nat_lit 2)), ((nat_lit 15), (nat_lit 93), (nat_lit 137), (nat_lit 2)), ((nat_lit 15), (nat_lit 94), (nat_lit 138), (nat_lit 3)), ((nat_lit 15), (nat_lit 97), (nat_lit 139), (nat_lit 3)), ((nat_lit 15), (nat_lit 98), (nat_lit 140), (nat_lit 2)), ((nat_lit 15), (nat_lit 101), (nat_lit 141), (nat_lit 2)), ((nat_lit 15), (nat_lit 102), (nat_lit 142), (nat_lit 1)), ((nat_lit 15), (nat_lit 106), (nat_lit 143), (nat_lit 1)), ((nat_lit 15), (nat_lit 107), (nat_lit 144), (nat_lit 0)), ((nat_lit 15), (nat_lit 110), (nat_lit 145), (nat_lit 0)), ((nat_lit 15), (nat_lit 111), (nat_lit 146), (nat_lit 3)), ((nat_lit 15), (nat_lit 114), (nat_lit 147), (nat_lit 3)), ((nat_lit 15), (nat_lit 115), (nat_lit 148), (nat_lit 3)), ((nat_lit 15), (nat_lit 118), (nat_lit 149), (nat_lit 3)), ((nat_lit 15), (nat_lit 119), (nat_lit 150), (nat_lit 2)), ((nat_lit 15), (nat_lit 122), (nat_lit 151), (nat_lit 2)), ((nat_lit 15), (nat_lit 123), (nat_lit 152), (nat_lit 2)), ((nat_lit 15), (nat_lit 126), (nat_lit 153), (nat_lit 2)), ((nat_lit 15), (nat_lit 127), (nat_lit 154), (nat_lit 1)), ((nat_lit 15), (nat_lit 130), (nat_lit 155), (nat_lit 1)), ((nat_lit 15), (nat_lit 131), (nat_lit 156), (nat_lit 3)), ((nat_lit 15), (nat_lit 134), (nat_lit 157), (nat_lit 3)), ((nat_lit 15), (nat_lit 135), (nat_lit 158), (nat_lit 2)), ((nat_lit 15), (nat_lit 138), (nat_lit 159), (nat_lit 2)), ((nat_lit 15), (nat_lit 139), (nat_lit 160), (nat_lit 1)), ((nat_lit 15), (nat_lit 143), (nat_lit 161), (nat_lit 1)), ((nat_lit 15), (nat_lit 144), (nat_lit 162), (nat_lit 1)), ((nat_lit 15), (nat_lit 147), (nat_lit 163), (nat_lit 1)), ((nat_lit 15), (nat_lit 148), (nat_lit 164), (nat_lit 1)), ((nat_lit 15), (nat_lit 151), (nat_lit 165), (nat_lit 1)), ((nat_lit 15), (nat_lit 152), (nat_lit 65), (nat_lit 1)), ((nat_lit 15), (nat_lit 155), (nat_lit 166), (nat_lit 1)), ((nat_lit 15), (nat_lit 156), (nat_lit 167), (nat_lit 0)), ((nat_lit 15), (nat_lit 160), (nat_lit 168), (nat_lit 0))]
theorem el_V_0 : (fun e : Nat × Nat × Nat × Nat => ∀ vs, et_vt[e.2.2.1]? = some vs → ∀ q ∈ vs, ∃ (y : MethodName) (by' : ByteArray) (nl : Nat) (rt : Option FieldType) (r : vw_C), em_inf[q.2]? = some (y, by', nl, rt) ∧ ec_cl[q.1]? = some r ∧ ec_callV (ec_on e.1) e.2.1 r.1 y by' nl rt e.2.2.2) ((nat_lit 0), (nat_lit 56), (nat_lit 0), (nat_lit 0)) := by
  intro vs h
  have h : some [(0, 1)] = some vs := h
  cases h
  intro q hq
  rcases List.mem_cons.mp hq with hq | hq
  · subst hq; exact ⟨_, _, _, _, _, rfl, rfl, ef_0⟩
  cases hq
theorem el_V_1 : (fun e : Nat × Nat × Nat × Nat => ∀ vs, et_vt[e.2.2.1]? = some vs → ∀ q ∈ vs, ∃ (y : MethodName) (by' : ByteArray) (nl : Nat) (rt : Option FieldType) (r : vw_C), em_inf[q.2]? = some (y, by', nl, rt) ∧ ec_cl[q.1]? = some r ∧ ec_callV (ec_on e.1) e.2.1 r.1 y by' nl rt e.2.2.2) ((nat_lit 0), (nat_lit 99), (nat_lit 1), (nat_lit 3)) := by
  intro vs h
  have h : some [(0, 14)] = some vs := h
  cases h
  intro q hq
  rcases List.mem_cons.mp hq with hq | hq
  · subst hq; exact ⟨_, _, _, _, _, rfl, rfl, ef_2⟩
  cases hq
theorem el_V_2 : (fun e : Nat × Nat × Nat × Nat => ∀ vs, et_vt[e.2.2.1]? = some vs → ∀ q ∈ vs, ∃ (y : MethodName) (by' : ByteArray) (nl : Nat) (rt : Option FieldType) (r : vw_C), em_inf[q.2]? = some (y, by', nl, rt) ∧ ec_cl[q.1]? = some r ∧ ec_callV (ec_on e.1) e.2.1 r.1 y by' nl rt e.2.2.2) ((nat_lit 0), (nat_lit 115), (nat_lit 2), (nat_lit 1)) := by
  intro vs h
  have h : some [(0, 21)] = some vs := h
  cases h
  intro q hq
  rcases List.mem_cons.mp hq with hq | hq
  · subst hq; exact ⟨_, _, _, _, _, rfl, rfl, ef_5⟩
  cases hq
theorem el_V_3 : (fun e : Nat × Nat × Nat × Nat => ∀ vs, et_vt[e.2.2.1]? = some vs → ∀ q ∈ vs, ∃ (y : MethodName) (by' : ByteArray) (nl : Nat) (rt : Option FieldType) (r : vw_C), em_inf[q.2]? = some (y, by', nl, rt) ∧ ec_cl[q.1]? = some r ∧ ec_callV (ec_on e.1) e.2.1 r.1 y by' nl rt e.2.2.2) ((nat_lit 0), (nat_lit 119), (nat_lit 3), (nat_lit 0)) := by
  intro vs h
  have h : some [(0, 16)] = some vs := h
  cases h
  intro q hq
  rcases List.mem_cons.mp hq with hq | hq
  · subst hq; exact ⟨_, _, _, _, _, rfl, rfl, ef_6⟩
  cases hq
theorem el_V_4 : (fun e : Nat × Nat × Nat × Nat => ∀ vs, et_vt[e.2.2.1]? = some vs → ∀ q ∈ vs, ∃ (y : MethodName) (by' : ByteArray) (nl : Nat) (rt : Option FieldType) (r : vw_C), em_inf[q.2]? = some (y, by', nl, rt) ∧ ec_cl[q.1]? = some r ∧ ec_callV (ec_on e.1) e.2.1 r.1 y by' nl rt e.2.2.2) ((nat_lit 0), (nat_lit 123), (nat_lit 4), (nat_lit 0)) := by
  intro vs h
  have h : some [(0, 17)] = some vs := h
  cases h
  intro q hq
  rcases List.mem_cons.mp hq with hq | hq
  · subst hq; exact ⟨_, _, _, _, _, rfl, rfl, ef_7⟩
  cases hq
theorem el_V_5 : (fun e : Nat × Nat × Nat × Nat => ∀ vs, et_vt[e.2.2.1]? = some vs → ∀ q ∈ vs, ∃ (y : MethodName) (by' : ByteArray) (nl : Nat) (rt : Option FieldType) (r : vw_C), em_inf[q.2]? = some (y, by', nl, rt) ∧ ec_cl[q.1]? = some r ∧ ec_callV (ec_on e.1) e.2.1 r.1 y by' nl rt e.2.2.2) ((nat_lit 1), (nat_lit 7), (nat_lit 4), (nat_lit 0)) := by
  intro vs h
  have h : some [(0, 17)] = some vs := h
  cases h
  intro q hq
  rcases List.mem_cons.mp hq with hq | hq
  · subst hq; exact ⟨_, _, _, _, _, rfl, rfl, ef_10⟩
  cases hq
theorem el_V_6 : (fun e : Nat × Nat × Nat × Nat => ∀ vs, et_vt[e.2.2.1]? = some vs → ∀ q ∈ vs, ∃ (y : MethodName) (by' : ByteArray) (nl : Nat) (rt : Option FieldType) (r : vw_C), em_inf[q.2]? = some (y, by', nl, rt) ∧ ec_cl[q.1]? = some r ∧ ec_callV (ec_on e.1) e.2.1 r.1 y by' nl rt e.2.2.2) ((nat_lit 3), (nat_lit 15), (nat_lit 5), (nat_lit 1)) := by
  intro vs h
  have h : some [(0, 18)] = some vs := h
  cases h
  intro q hq
  rcases List.mem_cons.mp hq with hq | hq
  · subst hq; exact ⟨_, _, _, _, _, rfl, rfl, ef_16⟩
  cases hq
theorem el_V_7 : (fun e : Nat × Nat × Nat × Nat => ∀ vs, et_vt[e.2.2.1]? = some vs → ∀ q ∈ vs, ∃ (y : MethodName) (by' : ByteArray) (nl : Nat) (rt : Option FieldType) (r : vw_C), em_inf[q.2]? = some (y, by', nl, rt) ∧ ec_cl[q.1]? = some r ∧ ec_callV (ec_on e.1) e.2.1 r.1 y by' nl rt e.2.2.2) ((nat_lit 4), (nat_lit 7), (nat_lit 4), (nat_lit 0)) := by
  intro vs h
  have h : some [(0, 17)] = some vs := h
  cases h
  intro q hq
  rcases List.mem_cons.mp hq with hq | hq
  · subst hq; exact ⟨_, _, _, _, _, rfl, rfl, ef_23⟩
  cases hq
theorem el_V_8 : (fun e : Nat × Nat × Nat × Nat => ∀ vs, et_vt[e.2.2.1]? = some vs → ∀ q ∈ vs, ∃ (y : MethodName) (by' : ByteArray) (nl : Nat) (rt : Option FieldType) (r : vw_C), em_inf[q.2]? = some (y, by', nl, rt) ∧ ec_cl[q.1]? = some r ∧ ec_callV (ec_on e.1) e.2.1 r.1 y by' nl rt e.2.2.2) ((nat_lit 5), (nat_lit 60), (nat_lit 6), (nat_lit 3)) := by
  intro vs h
  have h : some [(5, 42)] = some vs := h
  cases h
  intro q hq
  rcases List.mem_cons.mp hq with hq | hq
  · subst hq; exact ⟨_, _, _, _, _, rfl, rfl, ef_25⟩
  cases hq
theorem el_V_9 : (fun e : Nat × Nat × Nat × Nat => ∀ vs, et_vt[e.2.2.1]? = some vs → ∀ q ∈ vs, ∃ (y : MethodName) (by' : ByteArray) (nl : Nat) (rt : Option FieldType) (r : vw_C), em_inf[q.2]? = some (y, by', nl, rt) ∧ ec_cl[q.1]? = some r ∧ ec_callV (ec_on e.1) e.2.1 r.1 y by' nl rt e.2.2.2) ((nat_lit 5), (nat_lit 64), (nat_lit 4), (nat_lit 0)) := by
  intro vs h
  have h : some [(0, 17)] = some vs := h
  cases h
  intro q hq
  rcases List.mem_cons.mp hq with hq | hq
  · subst hq; exact ⟨_, _, _, _, _, rfl, rfl, ef_26⟩
  cases hq
theorem el_V_10 : (fun e : Nat × Nat × Nat × Nat => ∀ vs, et_vt[e.2.2.1]? = some vs → ∀ q ∈ vs, ∃ (y : MethodName) (by' : ByteArray) (nl : Nat) (rt : Option FieldType) (r : vw_C), em_inf[q.2]? = some (y, by', nl, rt) ∧ ec_cl[q.1]? = some r ∧ ec_callV (ec_on e.1) e.2.1 r.1 y by' nl rt e.2.2.2) ((nat_lit 5), (nat_lit 70), (nat_lit 7), (nat_lit 4)) := by
  intro vs h
  have h : some [(1, 29), (2, 31), (3, 31), (4, 39), (6, 53), (10, 31)] = some vs := h
  cases h
  intro q hq
  rcases List.mem_cons.mp hq with hq | hq
  · subst hq; exact ⟨_, _, _, _, _, rfl, rfl, ef_27⟩
  rcases List.mem_cons.mp hq with hq | hq
  · subst hq; exact ⟨_, _, _, _, _, rfl, rfl, ef_28⟩
  rcases List.mem_cons.mp hq with hq | hq
  · subst hq; exact ⟨_, _, _, _, _, rfl, rfl, ef_29⟩
  rcases List.mem_cons.mp hq with hq | hq
  · subst hq; exact ⟨_, _, _, _, _, rfl, rfl, ef_30⟩
  rcases List.mem_cons.mp hq with hq | hq
  · subst hq; exact ⟨_, _, _, _, _, rfl, rfl, ef_31⟩
  rcases List.mem_cons.mp hq with hq | hq
  · subst hq; exact ⟨_, _, _, _, _, rfl, rfl, ef_32⟩
  cases hq
theorem el_V_11 : (fun e : Nat × Nat × Nat × Nat => ∀ vs, et_vt[e.2.2.1]? = some vs → ∀ q ∈ vs, ∃ (y : MethodName) (by' : ByteArray) (nl : Nat) (rt : Option FieldType) (r : vw_C), em_inf[q.2]? = some (y, by', nl, rt) ∧ ec_cl[q.1]? = some r ∧ ec_callV (ec_on e.1) e.2.1 r.1 y by' nl rt e.2.2.2) ((nat_lit 5), (nat_lit 76), (nat_lit 8), (nat_lit 2)) := by
  intro vs h
  have h : some [(5, 44)] = some vs := h
  cases h
  intro q hq
  rcases List.mem_cons.mp hq with hq | hq
  · subst hq; exact ⟨_, _, _, _, _, rfl, rfl, ef_33⟩
  cases hq
theorem el_V_12 : (fun e : Nat × Nat × Nat × Nat => ∀ vs, et_vt[e.2.2.1]? = some vs → ∀ q ∈ vs, ∃ (y : MethodName) (by' : ByteArray) (nl : Nat) (rt : Option FieldType) (r : vw_C), em_inf[q.2]? = some (y, by', nl, rt) ∧ ec_cl[q.1]? = some r ∧ ec_callV (ec_on e.1) e.2.1 r.1 y by' nl rt e.2.2.2) ((nat_lit 5), (nat_lit 84), (nat_lit 3), (nat_lit 0)) := by
  intro vs h
  have h : some [(0, 16)] = some vs := h
  cases h
  intro q hq
  rcases List.mem_cons.mp hq with hq | hq
  · subst hq; exact ⟨_, _, _, _, _, rfl, rfl, ef_34⟩
  cases hq
theorem el_V_13 : (fun e : Nat × Nat × Nat × Nat => ∀ vs, et_vt[e.2.2.1]? = some vs → ∀ q ∈ vs, ∃ (y : MethodName) (by' : ByteArray) (nl : Nat) (rt : Option FieldType) (r : vw_C), em_inf[q.2]? = some (y, by', nl, rt) ∧ ec_cl[q.1]? = some r ∧ ec_callV (ec_on e.1) e.2.1 r.1 y by' nl rt e.2.2.2) ((nat_lit 5), (nat_lit 89), (nat_lit 9), (nat_lit 2)) := by
  intro vs h
  have h : some [(1, 33), (2, 33), (3, 36), (4, 33), (6, 33), (10, 33)] = some vs := h
  cases h
  intro q hq
  rcases List.mem_cons.mp hq with hq | hq
  · subst hq; exact ⟨_, _, _, _, _, rfl, rfl, ef_35⟩
  rcases List.mem_cons.mp hq with hq | hq
  · subst hq; exact ⟨_, _, _, _, _, rfl, rfl, ef_36⟩
  rcases List.mem_cons.mp hq with hq | hq
  · subst hq; exact ⟨_, _, _, _, _, rfl, rfl, ef_37⟩
  rcases List.mem_cons.mp hq with hq | hq
  · subst hq; exact ⟨_, _, _, _, _, rfl, rfl, ef_38⟩
  rcases List.mem_cons.mp hq with hq | hq
  · subst hq; exact ⟨_, _, _, _, _, rfl, rfl, ef_39⟩
  rcases List.mem_cons.mp hq with hq | hq
  · subst hq; exact ⟨_, _, _, _, _, rfl, rfl, ef_40⟩
  cases hq
theorem el_V_14 : (fun e : Nat × Nat × Nat × Nat => ∀ vs, et_vt[e.2.2.1]? = some vs → ∀ q ∈ vs, ∃ (y : MethodName) (by' : ByteArray) (nl : Nat) (rt : Option FieldType) (r : vw_C), em_inf[q.2]? = some (y, by', nl, rt) ∧ ec_cl[q.1]? = some r ∧ ec_callV (ec_on e.1) e.2.1 r.1 y by' nl rt e.2.2.2) ((nat_lit 5), (nat_lit 111), (nat_lit 10), (nat_lit 2)) := by
  intro vs h
  have h : some [(5, 43)] = some vs := h
  cases h
  intro q hq
  rcases List.mem_cons.mp hq with hq | hq
  · subst hq; exact ⟨_, _, _, _, _, rfl, rfl, ef_42⟩
  cases hq
theorem el_V_15 : (fun e : Nat × Nat × Nat × Nat => ∀ vs, et_vt[e.2.2.1]? = some vs → ∀ q ∈ vs, ∃ (y : MethodName) (by' : ByteArray) (nl : Nat) (rt : Option FieldType) (r : vw_C), em_inf[q.2]? = some (y, by', nl, rt) ∧ ec_cl[q.1]? = some r ∧ ec_callV (ec_on e.1) e.2.1 r.1 y by' nl rt e.2.2.2) ((nat_lit 5), (nat_lit 115), (nat_lit 11), (nat_lit 2)) := by
  intro vs h
  have h : some [(0, 24)] = some vs := h
  cases h
  intro q hq
  rcases List.mem_cons.mp hq with hq | hq
  · subst hq; exact ⟨_, _, _, _, _, rfl, rfl, ef_43⟩
  cases hq
theorem el_V_16 : (fun e : Nat × Nat × Nat × Nat => ∀ vs, et_vt[e.2.2.1]? = some vs → ∀ q ∈ vs, ∃ (y : MethodName) (by' : ByteArray) (nl : Nat) (rt : Option FieldType) (r : vw_C), em_inf[q.2]? = some (y, by', nl, rt) ∧ ec_cl[q.1]? = some r ∧ ec_callV (ec_on e.1) e.2.1 r.1 y by' nl rt e.2.2.2) ((nat_lit 5), (nat_lit 122), (nat_lit 5), (nat_lit 1)) := by
  intro vs h
  have h : some [(0, 18)] = some vs := h
  cases h
  intro q hq
  rcases List.mem_cons.mp hq with hq | hq
  · subst hq; exact ⟨_, _, _, _, _, rfl, rfl, ef_44⟩
  cases hq
theorem el_V_17 : (fun e : Nat × Nat × Nat × Nat => ∀ vs, et_vt[e.2.2.1]? = some vs → ∀ q ∈ vs, ∃ (y : MethodName) (by' : ByteArray) (nl : Nat) (rt : Option FieldType) (r : vw_C), em_inf[q.2]? = some (y, by', nl, rt) ∧ ec_cl[q.1]? = some r ∧ ec_callV (ec_on e.1) e.2.1 r.1 y by' nl rt e.2.2.2) ((nat_lit 5), (nat_lit 126), (nat_lit 12), (nat_lit 3)) := by
  intro vs h
  have h : some [(1, 32), (2, 32), (3, 35), (4, 32), (6, 32), (10, 83)] = some vs := h
  cases h
  intro q hq
  rcases List.mem_cons.mp hq with hq | hq
  · subst hq; exact ⟨_, _, _, _, _, rfl, rfl, ef_45⟩
  rcases List.mem_cons.mp hq with hq | hq
  · subst hq; exact ⟨_, _, _, _, _, rfl, rfl, ef_46⟩
  rcases List.mem_cons.mp hq with hq | hq
  · subst hq; exact ⟨_, _, _, _, _, rfl, rfl, ef_47⟩
  rcases List.mem_cons.mp hq with hq | hq
  · subst hq; exact ⟨_, _, _, _, _, rfl, rfl, ef_48⟩
  rcases List.mem_cons.mp hq with hq | hq
  · subst hq; exact ⟨_, _, _, _, _, rfl, rfl, ef_49⟩
  rcases List.mem_cons.mp hq with hq | hq
  · subst hq; exact ⟨_, _, _, _, _, rfl, rfl, ef_50⟩
  cases hq
theorem el_V_18 : (fun e : Nat × Nat × Nat × Nat => ∀ vs, et_vt[e.2.2.1]? = some vs → ∀ q ∈ vs, ∃ (y : MethodName) (by' : ByteArray) (nl : Nat) (rt : Option FieldType) (r : vw_C), em_inf[q.2]? = some (y, by', nl, rt) ∧ ec_cl[q.1]? = some r ∧ ec_callV (ec_on e.1) e.2.1 r.1 y by' nl rt e.2.2.2) ((nat_lit 5), (nat_lit 129), (nat_lit 13), (nat_lit 1)) := by
  intro vs h
  have h : some [(0, 19)] = some vs := h
  cases h
  intro q hq
  rcases List.mem_cons.mp hq with hq | hq
  · subst hq; exact ⟨_, _, _, _, _, rfl, rfl, ef_51⟩
  cases hq
theorem el_V_19 : (fun e : Nat × Nat × Nat × Nat => ∀ vs, et_vt[e.2.2.1]? = some vs → ∀ q ∈ vs, ∃ (y : MethodName) (by' : ByteArray) (nl : Nat) (rt : Option FieldType) (r : vw_C), em_inf[q.2]? = some (y, by', nl, rt) ∧ ec_cl[q.1]? = some r ∧ ec_callV (ec_on e.1) e.2.1 r.1 y by' nl rt e.2.2.2) ((nat_lit 5), (nat_lit 136), (nat_lit 14), (nat_lit 2)) := by
  intro vs h
  have h : some [(5, 45)] = some vs := h
  cases h
  intro q hq
  rcases List.mem_cons.mp hq with hq | hq
  · subst hq; exact ⟨_, _, _, _, _, rfl, rfl, ef_52⟩
  cases hq
theorem el_V_20 : (fun e : Nat × Nat × Nat × Nat => ∀ vs, et_vt[e.2.2.1]? = some vs → ∀ q ∈ vs, ∃ (y : MethodName) (by' : ByteArray) (nl : Nat) (rt : Option FieldType) (r : vw_C), em_inf[q.2]? = some (y, by', nl, rt) ∧ ec_cl[q.1]? = some r ∧ ec_callV (ec_on e.1) e.2.1 r.1 y by' nl rt e.2.2.2) ((nat_lit 5), (nat_lit 139), (nat_lit 15), (nat_lit 1)) := by
  intro vs h
  have h : some [(5, 46)] = some vs := h
  cases h
  intro q hq
  rcases List.mem_cons.mp hq with hq | hq
  · subst hq; exact ⟨_, _, _, _, _, rfl, rfl, ef_53⟩
  cases hq
theorem el_V_21 : (fun e : Nat × Nat × Nat × Nat => ∀ vs, et_vt[e.2.2.1]? = some vs → ∀ q ∈ vs, ∃ (y : MethodName) (by' : ByteArray) (nl : Nat) (rt : Option FieldType) (r : vw_C), em_inf[q.2]? = some (y, by', nl, rt) ∧ ec_cl[q.1]? = some r ∧ ec_callV (ec_on e.1) e.2.1 r.1 y by' nl rt e.2.2.2) ((nat_lit 5), (nat_lit 152), (nat_lit 16), (nat_lit 2)) := by
  intro vs h
  have h : some [(5, 47)] = some vs := h
  cases h
  intro q hq
  rcases List.mem_cons.mp hq with hq | hq
  · subst hq; exact ⟨_, _, _, _, _, rfl, rfl, ef_54⟩
  cases hq
theorem el_V_22 : (fun e : Nat × Nat × Nat × Nat => ∀ vs, et_vt[e.2.2.1]? = some vs → ∀ q ∈ vs, ∃ (y : MethodName) (by' : ByteArray) (nl : Nat) (rt : Option FieldType) (r : vw_C), em_inf[q.2]? = some (y, by', nl, rt) ∧ ec_cl[q.1]? = some r ∧ ec_callV (ec_on e.1) e.2.1 r.1 y by' nl rt e.2.2.2) ((nat_lit 5), (nat_lit 163), (nat_lit 17), (nat_lit 0)) := by
  intro vs h
  have h : some [(5, 49)] = some vs := h
  cases h
  intro q hq
  rcases List.mem_cons.mp hq with hq | hq
  · subst hq; exact ⟨_, _, _, _, _, rfl, rfl, ef_56⟩
  cases hq
theorem el_V_23 : (fun e : Nat × Nat × Nat × Nat => ∀ vs, et_vt[e.2.2.1]? = some vs → ∀ q ∈ vs, ∃ (y : MethodName) (by' : ByteArray) (nl : Nat) (rt : Option FieldType) (r : vw_C), em_inf[q.2]? = some (y, by', nl, rt) ∧ ec_cl[q.1]? = some r ∧ ec_callV (ec_on e.1) e.2.1 r.1 y by' nl rt e.2.2.2) ((nat_lit 7), (nat_lit 48), (nat_lit 6), (nat_lit 3)) := by
  intro vs h
  have h : some [(5, 42)] = some vs := h
  cases h
  intro q hq
  rcases List.mem_cons.mp hq with hq | hq
  · subst hq; exact ⟨_, _, _, _, _, rfl, rfl, ef_60⟩
  cases hq
theorem el_V_24 : (fun e : Nat × Nat × Nat × Nat => ∀ vs, et_vt[e.2.2.1]? = some vs → ∀ q ∈ vs, ∃ (y : MethodName) (by' : ByteArray) (nl : Nat) (rt : Option FieldType) (r : vw_C), em_inf[q.2]? = some (y, by', nl, rt) ∧ ec_cl[q.1]? = some r ∧ ec_callV (ec_on e.1) e.2.1 r.1 y by' nl rt e.2.2.2) ((nat_lit 7), (nat_lit 54), (nat_lit 18), (nat_lit 2)) := by
  intro vs h
  have h : some [(7, 57)] = some vs := h
  cases h
  intro q hq
  rcases List.mem_cons.mp hq with hq | hq
  · subst hq; exact ⟨_, _, _, _, _, rfl, rfl, ef_61⟩
  cases hq
theorem el_V_25 : (fun e : Nat × Nat × Nat × Nat => ∀ vs, et_vt[e.2.2.1]? = some vs → ∀ q ∈ vs, ∃ (y : MethodName) (by' : ByteArray) (nl : Nat) (rt : Option FieldType) (r : vw_C), em_inf[q.2]? = some (y, by', nl, rt) ∧ ec_cl[q.1]? = some r ∧ ec_callV (ec_on e.1) e.2.1 r.1 y by' nl rt e.2.2.2) ((nat_lit 7), (nat_lit 68), (nat_lit 19), (nat_lit 3)) := by
  intro vs h
  have h : some [(7, 58)] = some vs := h
  cases h
  intro q hq
  rcases List.mem_cons.mp hq with hq | hq
  · subst hq; exact ⟨_, _, _, _, _, rfl, rfl, ef_63⟩
  cases hq
theorem el_V_26 : (fun e : Nat × Nat × Nat × Nat => ∀ vs, et_vt[e.2.2.1]? = some vs → ∀ q ∈ vs, ∃ (y : MethodName) (by' : ByteArray) (nl : Nat) (rt : Option FieldType) (r : vw_C), em_inf[q.2]? = some (y, by', nl, rt) ∧ ec_cl[q.1]? = some r ∧ ec_callV (ec_on e.1) e.2.1 r.1 y by' nl rt e.2.2.2) ((nat_lit 7), (nat_lit 71), (nat_lit 4), (nat_lit 0)) := by
  intro vs h
  have h : some [(0, 17)] = some vs := h
  cases h
  intro q hq
  rcases List.mem_cons.mp hq with hq | hq
  · subst hq; exact ⟨_, _, _, _, _, rfl, rfl, ef_64⟩
  cases hq
theorem el_V_27 : (fun e : Nat × Nat × Nat × Nat => ∀ vs, et_vt[e.2.2.1]? = some vs → ∀ q ∈ vs, ∃ (y : MethodName) (by' : ByteArray) (nl : Nat) (rt : Option FieldType) (r : vw_C), em_inf[q.2]? = some (y, by', nl, rt) ∧ ec_cl[q.1]? = some r ∧ ec_callV (ec_on e.1) e.2.1 r.1 y by' nl rt e.2.2.2) ((nat_lit 7), (nat_lit 84), (nat_lit 8), (nat_lit 2)) := by
  intro vs h
  have h : some [(5, 44)] = some vs := h
  cases h
  intro q hq
  rcases List.mem_cons.mp hq with hq | hq
  · subst hq; exact ⟨_, _, _, _, _, rfl, rfl, ef_65⟩
  cases hq
theorem el_V_28 : (fun e : Nat × Nat × Nat × Nat => ∀ vs, et_vt[e.2.2.1]? = some vs → ∀ q ∈ vs, ∃ (y : MethodName) (by' : ByteArray) (nl : Nat) (rt : Option FieldType) (r : vw_C), em_inf[q.2]? = some (y, by', nl, rt) ∧ ec_cl[q.1]? = some r ∧ ec_callV (ec_on e.1) e.2.1 r.1 y by' nl rt e.2.2.2) ((nat_lit 8), (nat_lit 37), (nat_lit 3), (nat_lit 0)) := by
  intro vs h
  have h : some [(0, 16)] = some vs := h
  cases h
  intro q hq
  rcases List.mem_cons.mp hq with hq | hq
  · subst hq; exact ⟨_, _, _, _, _, rfl, rfl, ef_66⟩
  cases hq
theorem el_V_29 : (fun e : Nat × Nat × Nat × Nat => ∀ vs, et_vt[e.2.2.1]? = some vs → ∀ q ∈ vs, ∃ (y : MethodName) (by' : ByteArray) (nl : Nat) (rt : Option FieldType) (r : vw_C), em_inf[q.2]? = some (y, by', nl, rt) ∧ ec_cl[q.1]? = some r ∧ ec_callV (ec_on e.1) e.2.1 r.1 y by' nl rt e.2.2.2) ((nat_lit 8), (nat_lit 47), (nat_lit 4), (nat_lit 0)) := by
  intro vs h
  have h : some [(0, 17)] = some vs := h
  cases h
  intro q hq
  rcases List.mem_cons.mp hq with hq | hq
  · subst hq; exact ⟨_, _, _, _, _, rfl, rfl, ef_67⟩
  cases hq
theorem el_V_30 : (fun e : Nat × Nat × Nat × Nat => ∀ vs, et_vt[e.2.2.1]? = some vs → ∀ q ∈ vs, ∃ (y : MethodName) (by' : ByteArray) (nl : Nat) (rt : Option FieldType) (r : vw_C), em_inf[q.2]? = some (y, by', nl, rt) ∧ ec_cl[q.1]? = some r ∧ ec_callV (ec_on e.1) e.2.1 r.1 y by' nl rt e.2.2.2) ((nat_lit 8), (nat_lit 61), (nat_lit 20), (nat_lit 0)) := by
  intro vs h
  have h : some [(8, 61)] = some vs := h
  cases h
  intro q hq
  rcases List.mem_cons.mp hq with hq | hq
  · subst hq; exact ⟨_, _, _, _, _, rfl, rfl, ef_69⟩
  cases hq
theorem el_V_31 : (fun e : Nat × Nat × Nat × Nat => ∀ vs, et_vt[e.2.2.1]? = some vs → ∀ q ∈ vs, ∃ (y : MethodName) (by' : ByteArray) (nl : Nat) (rt : Option FieldType) (r : vw_C), em_inf[q.2]? = some (y, by', nl, rt) ∧ ec_cl[q.1]? = some r ∧ ec_callV (ec_on e.1) e.2.1 r.1 y by' nl rt e.2.2.2) ((nat_lit 8), (nat_lit 71), (nat_lit 21), (nat_lit 1)) := by
  intro vs h
  have h : some [(8, 62)] = some vs := h
  cases h
  intro q hq
  rcases List.mem_cons.mp hq with hq | hq
  · subst hq; exact ⟨_, _, _, _, _, rfl, rfl, ef_70⟩
  cases hq
theorem el_V_32 : (fun e : Nat × Nat × Nat × Nat => ∀ vs, et_vt[e.2.2.1]? = some vs → ∀ q ∈ vs, ∃ (y : MethodName) (by' : ByteArray) (nl : Nat) (rt : Option FieldType) (r : vw_C), em_inf[q.2]? = some (y, by', nl, rt) ∧ ec_cl[q.1]? = some r ∧ ec_callV (ec_on e.1) e.2.1 r.1 y by' nl rt e.2.2.2) ((nat_lit 8), (nat_lit 79), (nat_lit 22), (nat_lit 2)) := by
  intro vs h
  have h : some [(8, 63)] = some vs := h
  cases h
  intro q hq
  rcases List.mem_cons.mp hq with hq | hq
  · subst hq; exact ⟨_, _, _, _, _, rfl, rfl, ef_71⟩
  cases hq
theorem el_V_33 : (fun e : Nat × Nat × Nat × Nat => ∀ vs, et_vt[e.2.2.1]? = some vs → ∀ q ∈ vs, ∃ (y : MethodName) (by' : ByteArray) (nl : Nat) (rt : Option FieldType) (r : vw_C), em_inf[q.2]? = some (y, by', nl, rt) ∧ ec_cl[q.1]? = some r ∧ ec_callV (ec_on e.1) e.2.1 r.1 y by' nl rt e.2.2.2) ((nat_lit 8), (nat_lit 83), (nat_lit 23), (nat_lit 2)) := by
  intro vs h
  have h : some [(8, 64)] = some vs := h
  cases h
  intro q hq
  rcases List.mem_cons.mp hq with hq | hq
  · subst hq; exact ⟨_, _, _, _, _, rfl, rfl, ef_72⟩
  cases hq
theorem el_V_34 : (fun e : Nat × Nat × Nat × Nat => ∀ vs, et_vt[e.2.2.1]? = some vs → ∀ q ∈ vs, ∃ (y : MethodName) (by' : ByteArray) (nl : Nat) (rt : Option FieldType) (r : vw_C), em_inf[q.2]? = some (y, by', nl, rt) ∧ ec_cl[q.1]? = some r ∧ ec_callV (ec_on e.1) e.2.1 r.1 y by' nl rt e.2.2.2) ((nat_lit 8), (nat_lit 86), (nat_lit 24), (nat_lit 0)) := by
  intro vs h
  have h : some [(8, 66)] = some vs := h
  cases h
  intro q hq
  rcases List.mem_cons.mp hq with hq | hq
  · subst hq; exact ⟨_, _, _, _, _, rfl, rfl, ef_73⟩
  cases hq
theorem el_V_35 : (fun e : Nat × Nat × Nat × Nat => ∀ vs, et_vt[e.2.2.1]? = some vs → ∀ q ∈ vs, ∃ (y : MethodName) (by' : ByteArray) (nl : Nat) (rt : Option FieldType) (r : vw_C), em_inf[q.2]? = some (y, by', nl, rt) ∧ ec_cl[q.1]? = some r ∧ ec_callV (ec_on e.1) e.2.1 r.1 y by' nl rt e.2.2.2) ((nat_lit 8), (nat_lit 92), (nat_lit 25), (nat_lit 4)) := by
  intro vs h
  have h : some [(5, 41)] = some vs := h
  cases h
  intro q hq
  rcases List.mem_cons.mp hq with hq | hq
  · subst hq; exact ⟨_, _, _, _, _, rfl, rfl, ef_74⟩
  cases hq
theorem el_V_36 : (fun e : Nat × Nat × Nat × Nat => ∀ vs, et_vt[e.2.2.1]? = some vs → ∀ q ∈ vs, ∃ (y : MethodName) (by' : ByteArray) (nl : Nat) (rt : Option FieldType) (r : vw_C), em_inf[q.2]? = some (y, by', nl, rt) ∧ ec_cl[q.1]? = some r ∧ ec_callV (ec_on e.1) e.2.1 r.1 y by' nl rt e.2.2.2) ((nat_lit 8), (nat_lit 109), (nat_lit 26), (nat_lit 2)) := by
  intro vs h
  have h : some [(8, 69)] = some vs := h
  cases h
  intro q hq
  rcases List.mem_cons.mp hq with hq | hq
  · subst hq; exact ⟨_, _, _, _, _, rfl, rfl, ef_76⟩
  cases hq
theorem el_V_37 : (fun e : Nat × Nat × Nat × Nat => ∀ vs, et_vt[e.2.2.1]? = some vs → ∀ q ∈ vs, ∃ (y : MethodName) (by' : ByteArray) (nl : Nat) (rt : Option FieldType) (r : vw_C), em_inf[q.2]? = some (y, by', nl, rt) ∧ ec_cl[q.1]? = some r ∧ ec_callV (ec_on e.1) e.2.1 r.1 y by' nl rt e.2.2.2) ((nat_lit 9), (nat_lit 38), (nat_lit 27), (nat_lit 0)) := by
  intro vs h
  have h : some [(9, 78)] = some vs := h
  cases h
  intro q hq
  rcases List.mem_cons.mp hq with hq | hq
  · subst hq; exact ⟨_, _, _, _, _, rfl, rfl, ef_78⟩
  cases hq
theorem el_V_38 : (fun e : Nat × Nat × Nat × Nat => ∀ vs, et_vt[e.2.2.1]? = some vs → ∀ q ∈ vs, ∃ (y : MethodName) (by' : ByteArray) (nl : Nat) (rt : Option FieldType) (r : vw_C), em_inf[q.2]? = some (y, by', nl, rt) ∧ ec_cl[q.1]? = some r ∧ ec_callV (ec_on e.1) e.2.1 r.1 y by' nl rt e.2.2.2) ((nat_lit 9), (nat_lit 44), (nat_lit 28), (nat_lit 1)) := by
  intro vs h
  have h : some [(9, 74)] = some vs := h
  cases h
  intro q hq
  rcases List.mem_cons.mp hq with hq | hq
  · subst hq; exact ⟨_, _, _, _, _, rfl, rfl, ef_79⟩
  cases hq
theorem el_V_39 : (fun e : Nat × Nat × Nat × Nat => ∀ vs, et_vt[e.2.2.1]? = some vs → ∀ q ∈ vs, ∃ (y : MethodName) (by' : ByteArray) (nl : Nat) (rt : Option FieldType) (r : vw_C), em_inf[q.2]? = some (y, by', nl, rt) ∧ ec_cl[q.1]? = some r ∧ ec_callV (ec_on e.1) e.2.1 r.1 y by' nl rt e.2.2.2) ((nat_lit 9), (nat_lit 48), (nat_lit 29), (nat_lit 0)) := by
  intro vs h
  have h : some [(9, 75)] = some vs := h
  cases h
  intro q hq
  rcases List.mem_cons.mp hq with hq | hq
  · subst hq; exact ⟨_, _, _, _, _, rfl, rfl, ef_80⟩
  cases hq
theorem el_V_40 : (fun e : Nat × Nat × Nat × Nat => ∀ vs, et_vt[e.2.2.1]? = some vs → ∀ q ∈ vs, ∃ (y : MethodName) (by' : ByteArray) (nl : Nat) (rt : Option FieldType) (r : vw_C), em_inf[q.2]? = some (y, by', nl, rt) ∧ ec_cl[q.1]? = some r ∧ ec_callV (ec_on e.1) e.2.1 r.1 y by' nl rt e.2.2.2) ((nat_lit 9), (nat_lit 55), (nat_lit 30), (nat_lit 2)) := by
  intro vs h
  have h : some [(9, 77)] = some vs := h
  cases h
  intro q hq
  rcases List.mem_cons.mp hq with hq | hq
  · subst hq; exact ⟨_, _, _, _, _, rfl, rfl, ef_81⟩
  cases hq
theorem el_V_41 : (fun e : Nat × Nat × Nat × Nat => ∀ vs, et_vt[e.2.2.1]? = some vs → ∀ q ∈ vs, ∃ (y : MethodName) (by' : ByteArray) (nl : Nat) (rt : Option FieldType) (r : vw_C), em_inf[q.2]? = some (y, by', nl, rt) ∧ ec_cl[q.1]? = some r ∧ ec_callV (ec_on e.1) e.2.1 r.1 y by' nl rt e.2.2.2) ((nat_lit 9), (nat_lit 59), (nat_lit 31), (nat_lit 1)) := by
  intro vs h
  have h : some [(9, 80)] = some vs := h
  cases h
  intro q hq
  rcases List.mem_cons.mp hq with hq | hq
  · subst hq; exact ⟨_, _, _, _, _, rfl, rfl, ef_82⟩
  cases hq
theorem el_V_42 : (fun e : Nat × Nat × Nat × Nat => ∀ vs, et_vt[e.2.2.1]? = some vs → ∀ q ∈ vs, ∃ (y : MethodName) (by' : ByteArray) (nl : Nat) (rt : Option FieldType) (r : vw_C), em_inf[q.2]? = some (y, by', nl, rt) ∧ ec_cl[q.1]? = some r ∧ ec_callV (ec_on e.1) e.2.1 r.1 y by' nl rt e.2.2.2) ((nat_lit 9), (nat_lit 63), (nat_lit 32), (nat_lit 2)) := by
  intro vs h
  have h : some [(9, 76)] = some vs := h
  cases h
  intro q hq
  rcases List.mem_cons.mp hq with hq | hq
  · subst hq; exact ⟨_, _, _, _, _, rfl, rfl, ef_83⟩
  cases hq
theorem el_V_43 : (fun e : Nat × Nat × Nat × Nat => ∀ vs, et_vt[e.2.2.1]? = some vs → ∀ q ∈ vs, ∃ (y : MethodName) (by' : ByteArray) (nl : Nat) (rt : Option FieldType) (r : vw_C), em_inf[q.2]? = some (y, by', nl, rt) ∧ ec_cl[q.1]? = some r ∧ ec_callV (ec_on e.1) e.2.1 r.1 y by' nl rt e.2.2.2) ((nat_lit 9), (nat_lit 74), (nat_lit 33), (nat_lit 1)) := by
  intro vs h
  have h : some [(9, 79)] = some vs := h
  cases h
  intro q hq
  rcases List.mem_cons.mp hq with hq | hq
  · subst hq; exact ⟨_, _, _, _, _, rfl, rfl, ef_84⟩
  cases hq
theorem el_V_44 : (fun e : Nat × Nat × Nat × Nat => ∀ vs, et_vt[e.2.2.1]? = some vs → ∀ q ∈ vs, ∃ (y : MethodName) (by' : ByteArray) (nl : Nat) (rt : Option FieldType) (r : vw_C), em_inf[q.2]? = some (y, by', nl, rt) ∧ ec_cl[q.1]? = some r ∧ ec_callV (ec_on e.1) e.2.1 r.1 y by' nl rt e.2.2.2) ((nat_lit 9), (nat_lit 77), (nat_lit 34), (nat_lit 2)) := by
  intro vs h
  have h : some [(0, 3)] = some vs := h
  cases h
  intro q hq
  rcases List.mem_cons.mp hq with hq | hq
  · subst hq; exact ⟨_, _, _, _, _, rfl, rfl, ef_85⟩
  cases hq
theorem el_V_45 : (fun e : Nat × Nat × Nat × Nat => ∀ vs, et_vt[e.2.2.1]? = some vs → ∀ q ∈ vs, ∃ (y : MethodName) (by' : ByteArray) (nl : Nat) (rt : Option FieldType) (r : vw_C), em_inf[q.2]? = some (y, by', nl, rt) ∧ ec_cl[q.1]? = some r ∧ ec_callV (ec_on e.1) e.2.1 r.1 y by' nl rt e.2.2.2) ((nat_lit 9), (nat_lit 83), (nat_lit 35), (nat_lit 4)) := by
  intro vs h
  have h : some [(0, 4)] = some vs := h
  cases h
  intro q hq
  rcases List.mem_cons.mp hq with hq | hq
  · subst hq; exact ⟨_, _, _, _, _, rfl, rfl, ef_86⟩
  cases hq
theorem el_V_46 : (fun e : Nat × Nat × Nat × Nat => ∀ vs, et_vt[e.2.2.1]? = some vs → ∀ q ∈ vs, ∃ (y : MethodName) (by' : ByteArray) (nl : Nat) (rt : Option FieldType) (r : vw_C), em_inf[q.2]? = some (y, by', nl, rt) ∧ ec_cl[q.1]? = some r ∧ ec_callV (ec_on e.1) e.2.1 r.1 y by' nl rt e.2.2.2) ((nat_lit 9), (nat_lit 87), (nat_lit 36), (nat_lit 2)) := by
  intro vs h
  have h : some [(0, 5)] = some vs := h
  cases h
  intro q hq
  rcases List.mem_cons.mp hq with hq | hq
  · subst hq; exact ⟨_, _, _, _, _, rfl, rfl, ef_87⟩
  cases hq
theorem el_V_47 : (fun e : Nat × Nat × Nat × Nat => ∀ vs, et_vt[e.2.2.1]? = some vs → ∀ q ∈ vs, ∃ (y : MethodName) (by' : ByteArray) (nl : Nat) (rt : Option FieldType) (r : vw_C), em_inf[q.2]? = some (y, by', nl, rt) ∧ ec_cl[q.1]? = some r ∧ ec_callV (ec_on e.1) e.2.1 r.1 y by' nl rt e.2.2.2) ((nat_lit 9), (nat_lit 90), (nat_lit 37), (nat_lit 2)) := by
  intro vs h
  have h : some [(0, 6)] = some vs := h
  cases h
  intro q hq
  rcases List.mem_cons.mp hq with hq | hq
  · subst hq; exact ⟨_, _, _, _, _, rfl, rfl, ef_88⟩
  cases hq
theorem el_V_48 : (fun e : Nat × Nat × Nat × Nat => ∀ vs, et_vt[e.2.2.1]? = some vs → ∀ q ∈ vs, ∃ (y : MethodName) (by' : ByteArray) (nl : Nat) (rt : Option FieldType) (r : vw_C), em_inf[q.2]? = some (y, by', nl, rt) ∧ ec_cl[q.1]? = some r ∧ ec_callV (ec_on e.1) e.2.1 r.1 y by' nl rt e.2.2.2) ((nat_lit 9), (nat_lit 94), (nat_lit 38), (nat_lit 3)) := by
  intro vs h
  have h : some [(0, 7)] = some vs := h
  cases h
  intro q hq
  rcases List.mem_cons.mp hq with hq | hq
  · subst hq; exact ⟨_, _, _, _, _, rfl, rfl, ef_89⟩
  cases hq
theorem el_V_49 : (fun e : Nat × Nat × Nat × Nat => ∀ vs, et_vt[e.2.2.1]? = some vs → ∀ q ∈ vs, ∃ (y : MethodName) (by' : ByteArray) (nl : Nat) (rt : Option FieldType) (r : vw_C), em_inf[q.2]? = some (y, by', nl, rt) ∧ ec_cl[q.1]? = some r ∧ ec_callV (ec_on e.1) e.2.1 r.1 y by' nl rt e.2.2.2) ((nat_lit 9), (nat_lit 98), (nat_lit 39), (nat_lit 2)) := by
  intro vs h
  have h : some [(0, 8)] = some vs := h
  cases h
  intro q hq
  rcases List.mem_cons.mp hq with hq | hq
  · subst hq; exact ⟨_, _, _, _, _, rfl, rfl, ef_90⟩
  cases hq
theorem el_V_50 : (fun e : Nat × Nat × Nat × Nat => ∀ vs, et_vt[e.2.2.1]? = some vs → ∀ q ∈ vs, ∃ (y : MethodName) (by' : ByteArray) (nl : Nat) (rt : Option FieldType) (r : vw_C), em_inf[q.2]? = some (y, by', nl, rt) ∧ ec_cl[q.1]? = some r ∧ ec_callV (ec_on e.1) e.2.1 r.1 y by' nl rt e.2.2.2) ((nat_lit 9), (nat_lit 101), (nat_lit 40), (nat_lit 5)) := by
  intro vs h
  have h : some [(0, 9)] = some vs := h
  cases h
  intro q hq
  rcases List.mem_cons.mp hq with hq | hq
  · subst hq; exact ⟨_, _, _, _, _, rfl, rfl, ef_91⟩
  cases hq
theorem el_V_51 : (fun e : Nat × Nat × Nat × Nat => ∀ vs, et_vt[e.2.2.1]? = some vs → ∀ q ∈ vs, ∃ (y : MethodName) (by' : ByteArray) (nl : Nat) (rt : Option FieldType) (r : vw_C), em_inf[q.2]? = some (y, by', nl, rt) ∧ ec_cl[q.1]? = some r ∧ ec_callV (ec_on e.1) e.2.1 r.1 y by' nl rt e.2.2.2) ((nat_lit 9), (nat_lit 105), (nat_lit 41), (nat_lit 2)) := by
  intro vs h
  have h : some [(0, 10)] = some vs := h
  cases h
  intro q hq
  rcases List.mem_cons.mp hq with hq | hq
  · subst hq; exact ⟨_, _, _, _, _, rfl, rfl, ef_92⟩
  cases hq
theorem el_V_52 : (fun e : Nat × Nat × Nat × Nat => ∀ vs, et_vt[e.2.2.1]? = some vs → ∀ q ∈ vs, ∃ (y : MethodName) (by' : ByteArray) (nl : Nat) (rt : Option FieldType) (r : vw_C), em_inf[q.2]? = some (y, by', nl, rt) ∧ ec_cl[q.1]? = some r ∧ ec_callV (ec_on e.1) e.2.1 r.1 y by' nl rt e.2.2.2) ((nat_lit 9), (nat_lit 108), (nat_lit 42), (nat_lit 3)) := by
  intro vs h
  have h : some [(0, 11)] = some vs := h
  cases h
  intro q hq
  rcases List.mem_cons.mp hq with hq | hq
  · subst hq; exact ⟨_, _, _, _, _, rfl, rfl, ef_93⟩
  cases hq
theorem el_V_53 : (fun e : Nat × Nat × Nat × Nat => ∀ vs, et_vt[e.2.2.1]? = some vs → ∀ q ∈ vs, ∃ (y : MethodName) (by' : ByteArray) (nl : Nat) (rt : Option FieldType) (r : vw_C), em_inf[q.2]? = some (y, by', nl, rt) ∧ ec_cl[q.1]? = some r ∧ ec_callV (ec_on e.1) e.2.1 r.1 y by' nl rt e.2.2.2) ((nat_lit 9), (nat_lit 111), (nat_lit 43), (nat_lit 2)) := by
  intro vs h
  have h : some [(0, 12)] = some vs := h
  cases h
  intro q hq
  rcases List.mem_cons.mp hq with hq | hq
  · subst hq; exact ⟨_, _, _, _, _, rfl, rfl, ef_94⟩
  cases hq
theorem el_V_54 : (fun e : Nat × Nat × Nat × Nat => ∀ vs, et_vt[e.2.2.1]? = some vs → ∀ q ∈ vs, ∃ (y : MethodName) (by' : ByteArray) (nl : Nat) (rt : Option FieldType) (r : vw_C), em_inf[q.2]? = some (y, by', nl, rt) ∧ ec_cl[q.1]? = some r ∧ ec_callV (ec_on e.1) e.2.1 r.1 y by' nl rt e.2.2.2) ((nat_lit 10), (nat_lit 7), (nat_lit 3), (nat_lit 0)) := by
  intro vs h
  have h : some [(0, 16)] = some vs := h
  cases h
  intro q hq
  rcases List.mem_cons.mp hq with hq | hq
  · subst hq; exact ⟨_, _, _, _, _, rfl, rfl, ef_96⟩
  cases hq
theorem el_V_55 : (fun e : Nat × Nat × Nat × Nat => ∀ vs, et_vt[e.2.2.1]? = some vs → ∀ q ∈ vs, ∃ (y : MethodName) (by' : ByteArray) (nl : Nat) (rt : Option FieldType) (r : vw_C), em_inf[q.2]? = some (y, by', nl, rt) ∧ ec_cl[q.1]? = some r ∧ ec_callV (ec_on e.1) e.2.1 r.1 y by' nl rt e.2.2.2) ((nat_lit 11), (nat_lit 88), (nat_lit 34), (nat_lit 2)) := by
  intro vs h
  have h : some [(0, 3)] = some vs := h
  cases h
  intro q hq
  rcases List.mem_cons.mp hq with hq | hq
  · subst hq; exact ⟨_, _, _, _, _, rfl, rfl, ef_110⟩
  cases hq
theorem el_V_56 : (fun e : Nat × Nat × Nat × Nat => ∀ vs, et_vt[e.2.2.1]? = some vs → ∀ q ∈ vs, ∃ (y : MethodName) (by' : ByteArray) (nl : Nat) (rt : Option FieldType) (r : vw_C), em_inf[q.2]? = some (y, by', nl, rt) ∧ ec_cl[q.1]? = some r ∧ ec_callV (ec_on e.1) e.2.1 r.1 y by' nl rt e.2.2.2) ((nat_lit 11), (nat_lit 92), (nat_lit 35), (nat_lit 4)) := by
  intro vs h
  have h : some [(0, 4)] = some vs := h
  cases h
  intro q hq
  rcases List.mem_cons.mp hq with hq | hq
  · subst hq; exact ⟨_, _, _, _, _, rfl, rfl, ef_111⟩
  cases hq
theorem el_V_57 : (fun e : Nat × Nat × Nat × Nat => ∀ vs, et_vt[e.2.2.1]? = some vs → ∀ q ∈ vs, ∃ (y : MethodName) (by' : ByteArray) (nl : Nat) (rt : Option FieldType) (r : vw_C), em_inf[q.2]? = some (y, by', nl, rt) ∧ ec_cl[q.1]? = some r ∧ ec_callV (ec_on e.1) e.2.1 r.1 y by' nl rt e.2.2.2) ((nat_lit 11), (nat_lit 96), (nat_lit 36), (nat_lit 2)) := by
  intro vs h
  have h : some [(0, 5)] = some vs := h
  cases h
  intro q hq
  rcases List.mem_cons.mp hq with hq | hq
  · subst hq; exact ⟨_, _, _, _, _, rfl, rfl, ef_112⟩
  cases hq
theorem el_V_58 : (fun e : Nat × Nat × Nat × Nat => ∀ vs, et_vt[e.2.2.1]? = some vs → ∀ q ∈ vs, ∃ (y : MethodName) (by' : ByteArray) (nl : Nat) (rt : Option FieldType) (r : vw_C), em_inf[q.2]? = some (y, by', nl, rt) ∧ ec_cl[q.1]? = some r ∧ ec_callV (ec_on e.1) e.2.1 r.1 y by' nl rt e.2.2.2) ((nat_lit 11), (nat_lit 99), (nat_lit 37), (nat_lit 2)) := by
  intro vs h
  have h : some [(0, 6)] = some vs := h
  cases h
  intro q hq
  rcases List.mem_cons.mp hq with hq | hq
  · subst hq; exact ⟨_, _, _, _, _, rfl, rfl, ef_113⟩
  cases hq
theorem el_V_59 : (fun e : Nat × Nat × Nat × Nat => ∀ vs, et_vt[e.2.2.1]? = some vs → ∀ q ∈ vs, ∃ (y : MethodName) (by' : ByteArray) (nl : Nat) (rt : Option FieldType) (r : vw_C), em_inf[q.2]? = some (y, by', nl, rt) ∧ ec_cl[q.1]? = some r ∧ ec_callV (ec_on e.1) e.2.1 r.1 y by' nl rt e.2.2.2) ((nat_lit 11), (nat_lit 103), (nat_lit 38), (nat_lit 3)) := by
  intro vs h
  have h : some [(0, 7)] = some vs := h
  cases h
  intro q hq
  rcases List.mem_cons.mp hq with hq | hq
  · subst hq; exact ⟨_, _, _, _, _, rfl, rfl, ef_114⟩
  cases hq
theorem el_V_60 : (fun e : Nat × Nat × Nat × Nat => ∀ vs, et_vt[e.2.2.1]? = some vs → ∀ q ∈ vs, ∃ (y : MethodName) (by' : ByteArray) (nl : Nat) (rt : Option FieldType) (r : vw_C), em_inf[q.2]? = some (y, by', nl, rt) ∧ ec_cl[q.1]? = some r ∧ ec_callV (ec_on e.1) e.2.1 r.1 y by' nl rt e.2.2.2) ((nat_lit 11), (nat_lit 107), (nat_lit 39), (nat_lit 2)) := by
  intro vs h
  have h : some [(0, 8)] = some vs := h
  cases h
  intro q hq
  rcases List.mem_cons.mp hq with hq | hq
  · subst hq; exact ⟨_, _, _, _, _, rfl, rfl, ef_115⟩
  cases hq
theorem el_V_61 : (fun e : Nat × Nat × Nat × Nat => ∀ vs, et_vt[e.2.2.1]? = some vs → ∀ q ∈ vs, ∃ (y : MethodName) (by' : ByteArray) (nl : Nat) (rt : Option FieldType) (r : vw_C), em_inf[q.2]? = some (y, by', nl, rt) ∧ ec_cl[q.1]? = some r ∧ ec_callV (ec_on e.1) e.2.1 r.1 y by' nl rt e.2.2.2) ((nat_lit 11), (nat_lit 110), (nat_lit 40), (nat_lit 5)) := by
  intro vs h
  have h : some [(0, 9)] = some vs := h
  cases h
  intro q hq
  rcases List.mem_cons.mp hq with hq | hq
  · subst hq; exact ⟨_, _, _, _, _, rfl, rfl, ef_116⟩
  cases hq
theorem el_V_62 : (fun e : Nat × Nat × Nat × Nat => ∀ vs, et_vt[e.2.2.1]? = some vs → ∀ q ∈ vs, ∃ (y : MethodName) (by' : ByteArray) (nl : Nat) (rt : Option FieldType) (r : vw_C), em_inf[q.2]? = some (y, by', nl, rt) ∧ ec_cl[q.1]? = some r ∧ ec_callV (ec_on e.1) e.2.1 r.1 y by' nl rt e.2.2.2) ((nat_lit 11), (nat_lit 114), (nat_lit 41), (nat_lit 2)) := by
  intro vs h
  have h : some [(0, 10)] = some vs := h
  cases h
  intro q hq
  rcases List.mem_cons.mp hq with hq | hq
  · subst hq; exact ⟨_, _, _, _, _, rfl, rfl, ef_117⟩
  cases hq
theorem el_V_63 : (fun e : Nat × Nat × Nat × Nat => ∀ vs, et_vt[e.2.2.1]? = some vs → ∀ q ∈ vs, ∃ (y : MethodName) (by' : ByteArray) (nl : Nat) (rt : Option FieldType) (r : vw_C), em_inf[q.2]? = some (y, by', nl, rt) ∧ ec_cl[q.1]? = some r ∧ ec_callV (ec_on e.1) e.2.1 r.1 y by' nl rt e.2.2.2) ((nat_lit 11), (nat_lit 117), (nat_lit 42), (nat_lit 3)) := by
  intro vs h
  have h : some [(0, 11)] = some vs := h
  cases h
  intro q hq
  rcases List.mem_cons.mp hq with hq | hq
  · subst hq; exact ⟨_, _, _, _, _, rfl, rfl, ef_118⟩
  cases hq
theorem el_V_64 : (fun e : Nat × Nat × Nat × Nat => ∀ vs, et_vt[e.2.2.1]? = some vs → ∀ q ∈ vs, ∃ (y : MethodName) (by' : ByteArray) (nl : Nat) (rt : Option FieldType) (r : vw_C), em_inf[q.2]? = some (y, by', nl, rt) ∧ ec_cl[q.1]? = some r ∧ ec_callV (ec_on e.1) e.2.1 r.1 y by' nl rt e.2.2.2) ((nat_lit 11), (nat_lit 120), (nat_lit 43), (nat_lit 2)) := by
  intro vs h
  have h : some [(0, 12)] = some vs := h
  cases h
  intro q hq
  rcases List.mem_cons.mp hq with hq | hq
  · subst hq; exact ⟨_, _, _, _, _, rfl, rfl, ef_119⟩
  cases hq
theorem el_V_65 : (fun e : Nat × Nat × Nat × Nat => ∀ vs, et_vt[e.2.2.1]? = some vs → ∀ q ∈ vs, ∃ (y : MethodName) (by' : ByteArray) (nl : Nat) (rt : Option FieldType) (r : vw_C), em_inf[q.2]? = some (y, by', nl, rt) ∧ ec_cl[q.1]? = some r ∧ ec_callV (ec_on e.1) e.2.1 r.1 y by' nl rt e.2.2.2) ((nat_lit 11), (nat_lit 123), (nat_lit 44), (nat_lit 2)) := by
  intro vs h
  have h : some [(0, 13)] = some vs := h
  cases h
  intro q hq
  rcases List.mem_cons.mp hq with hq | hq
  · subst hq; exact ⟨_, _, _, _, _, rfl, rfl, ef_120⟩
  cases hq
theorem el_V_66 : (fun e : Nat × Nat × Nat × Nat => ∀ vs, et_vt[e.2.2.1]? = some vs → ∀ q ∈ vs, ∃ (y : MethodName) (by' : ByteArray) (nl : Nat) (rt : Option FieldType) (r : vw_C), em_inf[q.2]? = some (y, by', nl, rt) ∧ ec_cl[q.1]? = some r ∧ ec_callV (ec_on e.1) e.2.1 r.1 y by' nl rt e.2.2.2) ((nat_lit 11), (nat_lit 126), (nat_lit 45), (nat_lit 2)) := by
  intro vs h
  have h : some [(9, 71)] = some vs := h
  cases h
  intro q hq
  rcases List.mem_cons.mp hq with hq | hq
  · subst hq; exact ⟨_, _, _, _, _, rfl, rfl, ef_121⟩
  cases hq
theorem el_V_67 : (fun e : Nat × Nat × Nat × Nat => ∀ vs, et_vt[e.2.2.1]? = some vs → ∀ q ∈ vs, ∃ (y : MethodName) (by' : ByteArray) (nl : Nat) (rt : Option FieldType) (r : vw_C), em_inf[q.2]? = some (y, by', nl, rt) ∧ ec_cl[q.1]? = some r ∧ ec_callV (ec_on e.1) e.2.1 r.1 y by' nl rt e.2.2.2) ((nat_lit 11), (nat_lit 130), (nat_lit 46), (nat_lit 0)) := by
  intro vs h
  have h : some [(9, 72)] = some vs := h
  cases h
  intro q hq
  rcases List.mem_cons.mp hq with hq | hq
  · subst hq; exact ⟨_, _, _, _, _, rfl, rfl, ef_122⟩
  cases hq
theorem el_V_68 : (fun e : Nat × Nat × Nat × Nat => ∀ vs, et_vt[e.2.2.1]? = some vs → ∀ q ∈ vs, ∃ (y : MethodName) (by' : ByteArray) (nl : Nat) (rt : Option FieldType) (r : vw_C), em_inf[q.2]? = some (y, by', nl, rt) ∧ ec_cl[q.1]? = some r ∧ ec_callV (ec_on e.1) e.2.1 r.1 y by' nl rt e.2.2.2) ((nat_lit 11), (nat_lit 134), (nat_lit 47), (nat_lit 0)) := by
  intro vs h
  have h : some [(9, 73)] = some vs := h
  cases h
  intro q hq
  rcases List.mem_cons.mp hq with hq | hq
  · subst hq; exact ⟨_, _, _, _, _, rfl, rfl, ef_123⟩
  cases hq
theorem el_V_69 : (fun e : Nat × Nat × Nat × Nat => ∀ vs, et_vt[e.2.2.1]? = some vs → ∀ q ∈ vs, ∃ (y : MethodName) (by' : ByteArray) (nl : Nat) (rt : Option FieldType) (r : vw_C), em_inf[q.2]? = some (y, by', nl, rt) ∧ ec_cl[q.1]? = some r ∧ ec_callV (ec_on e.1) e.2.1 r.1 y by' nl rt e.2.2.2) ((nat_lit 11), (nat_lit 137), (nat_lit 0), (nat_lit 0)) := by
  intro vs h
  have h : some [(0, 1)] = some vs := h
  cases h
  intro q hq
  rcases List.mem_cons.mp hq with hq | hq
  · subst hq; exact ⟨_, _, _, _, _, rfl, rfl, ef_124⟩
  cases hq
theorem el_V_70 : (fun e : Nat × Nat × Nat × Nat => ∀ vs, et_vt[e.2.2.1]? = some vs → ∀ q ∈ vs, ∃ (y : MethodName) (by' : ByteArray) (nl : Nat) (rt : Option FieldType) (r : vw_C), em_inf[q.2]? = some (y, by', nl, rt) ∧ ec_cl[q.1]? = some r ∧ ec_callV (ec_on e.1) e.2.1 r.1 y by' nl rt e.2.2.2) ((nat_lit 11), (nat_lit 144), (nat_lit 48), (nat_lit 2)) := by
  intro vs h
  have h : some [(9, 81)] = some vs := h
  cases h
  intro q hq
  rcases List.mem_cons.mp hq with hq | hq
  · subst hq; exact ⟨_, _, _, _, _, rfl, rfl, ef_125⟩
  cases hq
theorem el_V_71 : (fun e : Nat × Nat × Nat × Nat => ∀ vs, et_vt[e.2.2.1]? = some vs → ∀ q ∈ vs, ∃ (y : MethodName) (by' : ByteArray) (nl : Nat) (rt : Option FieldType) (r : vw_C), em_inf[q.2]? = some (y, by', nl, rt) ∧ ec_cl[q.1]? = some r ∧ ec_callV (ec_on e.1) e.2.1 r.1 y by' nl rt e.2.2.2) ((nat_lit 11), (nat_lit 148), (nat_lit 49), (nat_lit 1)) := by
  intro vs h
  have h : some [(0, 2)] = some vs := h
  cases h
  intro q hq
  rcases List.mem_cons.mp hq with hq | hq
  · subst hq; exact ⟨_, _, _, _, _, rfl, rfl, ef_126⟩
  cases hq
theorem el_V_72 : (fun e : Nat × Nat × Nat × Nat => ∀ vs, et_vt[e.2.2.1]? = some vs → ∀ q ∈ vs, ∃ (y : MethodName) (by' : ByteArray) (nl : Nat) (rt : Option FieldType) (r : vw_C), em_inf[q.2]? = some (y, by', nl, rt) ∧ ec_cl[q.1]? = some r ∧ ec_callV (ec_on e.1) e.2.1 r.1 y by' nl rt e.2.2.2) ((nat_lit 11), (nat_lit 155), (nat_lit 50), (nat_lit 1)) := by
  intro vs h
  have h : some [(0, 20)] = some vs := h
  cases h
  intro q hq
  rcases List.mem_cons.mp hq with hq | hq
  · subst hq; exact ⟨_, _, _, _, _, rfl, rfl, ef_128⟩
  cases hq
theorem el_V_73 : (fun e : Nat × Nat × Nat × Nat => ∀ vs, et_vt[e.2.2.1]? = some vs → ∀ q ∈ vs, ∃ (y : MethodName) (by' : ByteArray) (nl : Nat) (rt : Option FieldType) (r : vw_C), em_inf[q.2]? = some (y, by', nl, rt) ∧ ec_cl[q.1]? = some r ∧ ec_callV (ec_on e.1) e.2.1 r.1 y by' nl rt e.2.2.2) ((nat_lit 11), (nat_lit 159), (nat_lit 13), (nat_lit 1)) := by
  intro vs h
  have h : some [(0, 19)] = some vs := h
  cases h
  intro q hq
  rcases List.mem_cons.mp hq with hq | hq
  · subst hq; exact ⟨_, _, _, _, _, rfl, rfl, ef_129⟩
  cases hq
theorem el_V_74 : (fun e : Nat × Nat × Nat × Nat => ∀ vs, et_vt[e.2.2.1]? = some vs → ∀ q ∈ vs, ∃ (y : MethodName) (by' : ByteArray) (nl : Nat) (rt : Option FieldType) (r : vw_C), em_inf[q.2]? = some (y, by', nl, rt) ∧ ec_cl[q.1]? = some r ∧ ec_callV (ec_on e.1) e.2.1 r.1 y by' nl rt e.2.2.2) ((nat_lit 11), (nat_lit 163), (nat_lit 51), (nat_lit 2)) := by
  intro vs h
  have h : some [(11, 122)] = some vs := h
  cases h
  intro q hq
  rcases List.mem_cons.mp hq with hq | hq
  · subst hq; exact ⟨_, _, _, _, _, rfl, rfl, ef_130⟩
  cases hq
theorem el_V_75 : (fun e : Nat × Nat × Nat × Nat => ∀ vs, et_vt[e.2.2.1]? = some vs → ∀ q ∈ vs, ∃ (y : MethodName) (by' : ByteArray) (nl : Nat) (rt : Option FieldType) (r : vw_C), em_inf[q.2]? = some (y, by', nl, rt) ∧ ec_cl[q.1]? = some r ∧ ec_callV (ec_on e.1) e.2.1 r.1 y by' nl rt e.2.2.2) ((nat_lit 11), (nat_lit 171), (nat_lit 2), (nat_lit 1)) := by
  intro vs h
  have h : some [(0, 21)] = some vs := h
  cases h
  intro q hq
  rcases List.mem_cons.mp hq with hq | hq
  · subst hq; exact ⟨_, _, _, _, _, rfl, rfl, ef_131⟩
  cases hq
theorem el_V_76 : (fun e : Nat × Nat × Nat × Nat => ∀ vs, et_vt[e.2.2.1]? = some vs → ∀ q ∈ vs, ∃ (y : MethodName) (by' : ByteArray) (nl : Nat) (rt : Option FieldType) (r : vw_C), em_inf[q.2]? = some (y, by', nl, rt) ∧ ec_cl[q.1]? = some r ∧ ec_callV (ec_on e.1) e.2.1 r.1 y by' nl rt e.2.2.2) ((nat_lit 11), (nat_lit 174), (nat_lit 16), (nat_lit 2)) := by
  intro vs h
  have h : some [(5, 47)] = some vs := h
  cases h
  intro q hq
  rcases List.mem_cons.mp hq with hq | hq
  · subst hq; exact ⟨_, _, _, _, _, rfl, rfl, ef_132⟩
  cases hq
theorem el_V_77 : (fun e : Nat × Nat × Nat × Nat => ∀ vs, et_vt[e.2.2.1]? = some vs → ∀ q ∈ vs, ∃ (y : MethodName) (by' : ByteArray) (nl : Nat) (rt : Option FieldType) (r : vw_C), em_inf[q.2]? = some (y, by', nl, rt) ∧ ec_cl[q.1]? = some r ∧ ec_callV (ec_on e.1) e.2.1 r.1 y by' nl rt e.2.2.2) ((nat_lit 11), (nat_lit 191), (nat_lit 52), (nat_lit 0)) := by
  intro vs h
  have h : some [(5, 48)] = some vs := h
  cases h
  intro q hq
  rcases List.mem_cons.mp hq with hq | hq
  · subst hq; exact ⟨_, _, _, _, _, rfl, rfl, ef_134⟩
  cases hq
theorem el_V_78 : (fun e : Nat × Nat × Nat × Nat => ∀ vs, et_vt[e.2.2.1]? = some vs → ∀ q ∈ vs, ∃ (y : MethodName) (by' : ByteArray) (nl : Nat) (rt : Option FieldType) (r : vw_C), em_inf[q.2]? = some (y, by', nl, rt) ∧ ec_cl[q.1]? = some r ∧ ec_callV (ec_on e.1) e.2.1 r.1 y by' nl rt e.2.2.2) ((nat_lit 11), (nat_lit 194), (nat_lit 17), (nat_lit 0)) := by
  intro vs h
  have h : some [(5, 49)] = some vs := h
  cases h
  intro q hq
  rcases List.mem_cons.mp hq with hq | hq
  · subst hq; exact ⟨_, _, _, _, _, rfl, rfl, ef_135⟩
  cases hq
theorem el_V_79 : (fun e : Nat × Nat × Nat × Nat => ∀ vs, et_vt[e.2.2.1]? = some vs → ∀ q ∈ vs, ∃ (y : MethodName) (by' : ByteArray) (nl : Nat) (rt : Option FieldType) (r : vw_C), em_inf[q.2]? = some (y, by', nl, rt) ∧ ec_cl[q.1]? = some r ∧ ec_callV (ec_on e.1) e.2.1 r.1 y by' nl rt e.2.2.2) ((nat_lit 11), (nat_lit 197), (nat_lit 53), (nat_lit 0)) := by
  intro vs h
  have h : some [(5, 50)] = some vs := h
  cases h
  intro q hq
  rcases List.mem_cons.mp hq with hq | hq
  · subst hq; exact ⟨_, _, _, _, _, rfl, rfl, ef_136⟩
  cases hq
theorem el_V_80 : (fun e : Nat × Nat × Nat × Nat => ∀ vs, et_vt[e.2.2.1]? = some vs → ∀ q ∈ vs, ∃ (y : MethodName) (by' : ByteArray) (nl : Nat) (rt : Option FieldType) (r : vw_C), em_inf[q.2]? = some (y, by', nl, rt) ∧ ec_cl[q.1]? = some r ∧ ec_callV (ec_on e.1) e.2.1 r.1 y by' nl rt e.2.2.2) ((nat_lit 11), (nat_lit 200), (nat_lit 54), (nat_lit 0)) := by
  intro vs h
  have h : some [(5, 51)] = some vs := h
  cases h
  intro q hq
  rcases List.mem_cons.mp hq with hq | hq
  · subst hq; exact ⟨_, _, _, _, _, rfl, rfl, ef_137⟩
  cases hq
theorem el_V_81 : (fun e : Nat × Nat × Nat × Nat => ∀ vs, et_vt[e.2.2.1]? = some vs → ∀ q ∈ vs, ∃ (y : MethodName) (by' : ByteArray) (nl : Nat) (rt : Option FieldType) (r : vw_C), em_inf[q.2]? = some (y, by', nl, rt) ∧ ec_cl[q.1]? = some r ∧ ec_callV (ec_on e.1) e.2.1 r.1 y by' nl rt e.2.2.2) ((nat_lit 11), (nat_lit 203), (nat_lit 4), (nat_lit 0)) := by
  intro vs h
  have h : some [(0, 17)] = some vs := h
  cases h
  intro q hq
  rcases List.mem_cons.mp hq with hq | hq
  · subst hq; exact ⟨_, _, _, _, _, rfl, rfl, ef_138⟩
  cases hq
theorem el_V_82 : (fun e : Nat × Nat × Nat × Nat => ∀ vs, et_vt[e.2.2.1]? = some vs → ∀ q ∈ vs, ∃ (y : MethodName) (by' : ByteArray) (nl : Nat) (rt : Option FieldType) (r : vw_C), em_inf[q.2]? = some (y, by', nl, rt) ∧ ec_cl[q.1]? = some r ∧ ec_callV (ec_on e.1) e.2.1 r.1 y by' nl rt e.2.2.2) ((nat_lit 11), (nat_lit 207), (nat_lit 55), (nat_lit 1)) := by
  intro vs h
  have h : some [(7, 55)] = some vs := h
  cases h
  intro q hq
  rcases List.mem_cons.mp hq with hq | hq
  · subst hq; exact ⟨_, _, _, _, _, rfl, rfl, ef_139⟩
  cases hq
theorem el_V_83 : (fun e : Nat × Nat × Nat × Nat => ∀ vs, et_vt[e.2.2.1]? = some vs → ∀ q ∈ vs, ∃ (y : MethodName) (by' : ByteArray) (nl : Nat) (rt : Option FieldType) (r : vw_C), em_inf[q.2]? = some (y, by', nl, rt) ∧ ec_cl[q.1]? = some r ∧ ec_callV (ec_on e.1) e.2.1 r.1 y by' nl rt e.2.2.2) ((nat_lit 11), (nat_lit 214), (nat_lit 56), (nat_lit 1)) := by
  intro vs h
  have h : some [(7, 56)] = some vs := h
  cases h
  intro q hq
  rcases List.mem_cons.mp hq with hq | hq
  · subst hq; exact ⟨_, _, _, _, _, rfl, rfl, ef_140⟩
  cases hq
theorem el_V_84 : (fun e : Nat × Nat × Nat × Nat => ∀ vs, et_vt[e.2.2.1]? = some vs → ∀ q ∈ vs, ∃ (y : MethodName) (by' : ByteArray) (nl : Nat) (rt : Option FieldType) (r : vw_C), em_inf[q.2]? = some (y, by', nl, rt) ∧ ec_cl[q.1]? = some r ∧ ec_callV (ec_on e.1) e.2.1 r.1 y by' nl rt e.2.2.2) ((nat_lit 11), (nat_lit 218), (nat_lit 57), (nat_lit 0)) := by
  intro vs h
  have h : some [(0, 22)] = some vs := h
  cases h
  intro q hq
  rcases List.mem_cons.mp hq with hq | hq
  · subst hq; exact ⟨_, _, _, _, _, rfl, rfl, ef_141⟩
  cases hq
theorem el_V_85 : (fun e : Nat × Nat × Nat × Nat => ∀ vs, et_vt[e.2.2.1]? = some vs → ∀ q ∈ vs, ∃ (y : MethodName) (by' : ByteArray) (nl : Nat) (rt : Option FieldType) (r : vw_C), em_inf[q.2]? = some (y, by', nl, rt) ∧ ec_cl[q.1]? = some r ∧ ec_callV (ec_on e.1) e.2.1 r.1 y by' nl rt e.2.2.2) ((nat_lit 11), (nat_lit 224), (nat_lit 58), (nat_lit 0)) := by
  intro vs h
  have h : some [(8, 60)] = some vs := h
  cases h
  intro q hq
  rcases List.mem_cons.mp hq with hq | hq
  · subst hq; exact ⟨_, _, _, _, _, rfl, rfl, ef_142⟩
  cases hq
theorem el_V_86 : (fun e : Nat × Nat × Nat × Nat => ∀ vs, et_vt[e.2.2.1]? = some vs → ∀ q ∈ vs, ∃ (y : MethodName) (by' : ByteArray) (nl : Nat) (rt : Option FieldType) (r : vw_C), em_inf[q.2]? = some (y, by', nl, rt) ∧ ec_cl[q.1]? = some r ∧ ec_callV (ec_on e.1) e.2.1 r.1 y by' nl rt e.2.2.2) ((nat_lit 11), (nat_lit 233), (nat_lit 59), (nat_lit 2)) := by
  intro vs h
  have h : some [(8, 65)] = some vs := h
  cases h
  intro q hq
  rcases List.mem_cons.mp hq with hq | hq
  · subst hq; exact ⟨_, _, _, _, _, rfl, rfl, ef_143⟩
  cases hq
theorem el_V_87 : (fun e : Nat × Nat × Nat × Nat => ∀ vs, et_vt[e.2.2.1]? = some vs → ∀ q ∈ vs, ∃ (y : MethodName) (by' : ByteArray) (nl : Nat) (rt : Option FieldType) (r : vw_C), em_inf[q.2]? = some (y, by', nl, rt) ∧ ec_cl[q.1]? = some r ∧ ec_callV (ec_on e.1) e.2.1 r.1 y by' nl rt e.2.2.2) ((nat_lit 11), (nat_lit 237), (nat_lit 60), (nat_lit 1)) := by
  intro vs h
  have h : some [(8, 67)] = some vs := h
  cases h
  intro q hq
  rcases List.mem_cons.mp hq with hq | hq
  · subst hq; exact ⟨_, _, _, _, _, rfl, rfl, ef_144⟩
  cases hq
theorem el_V_88 : (fun e : Nat × Nat × Nat × Nat => ∀ vs, et_vt[e.2.2.1]? = some vs → ∀ q ∈ vs, ∃ (y : MethodName) (by' : ByteArray) (nl : Nat) (rt : Option FieldType) (r : vw_C), em_inf[q.2]? = some (y, by', nl, rt) ∧ ec_cl[q.1]? = some r ∧ ec_callV (ec_on e.1) e.2.1 r.1 y by' nl rt e.2.2.2) ((nat_lit 11), (nat_lit 240), (nat_lit 61), (nat_lit 0)) := by
  intro vs h
  have h : some [(8, 68)] = some vs := h
  cases h
  intro q hq
  rcases List.mem_cons.mp hq with hq | hq
  · subst hq; exact ⟨_, _, _, _, _, rfl, rfl, ef_145⟩
  cases hq
theorem el_V_89 : (fun e : Nat × Nat × Nat × Nat => ∀ vs, et_vt[e.2.2.1]? = some vs → ∀ q ∈ vs, ∃ (y : MethodName) (by' : ByteArray) (nl : Nat) (rt : Option FieldType) (r : vw_C), em_inf[q.2]? = some (y, by', nl, rt) ∧ ec_cl[q.1]? = some r ∧ ec_callV (ec_on e.1) e.2.1 r.1 y by' nl rt e.2.2.2) ((nat_lit 11), (nat_lit 243), (nat_lit 62), (nat_lit 1)) := by
  intro vs h
  have h : some [(0, 23)] = some vs := h
  cases h
  intro q hq
  rcases List.mem_cons.mp hq with hq | hq
  · subst hq; exact ⟨_, _, _, _, _, rfl, rfl, ef_146⟩
  cases hq
theorem el_V_90 : (fun e : Nat × Nat × Nat × Nat => ∀ vs, et_vt[e.2.2.1]? = some vs → ∀ q ∈ vs, ∃ (y : MethodName) (by' : ByteArray) (nl : Nat) (rt : Option FieldType) (r : vw_C), em_inf[q.2]? = some (y, by', nl, rt) ∧ ec_cl[q.1]? = some r ∧ ec_callV (ec_on e.1) e.2.1 r.1 y by' nl rt e.2.2.2) ((nat_lit 11), (nat_lit 246), (nat_lit 63), (nat_lit 2)) := by
  intro vs h
  have h : some [(11, 124)] = some vs := h
  cases h
  intro q hq
  rcases List.mem_cons.mp hq with hq | hq
  · subst hq; exact ⟨_, _, _, _, _, rfl, rfl, ef_147⟩
  cases hq
theorem el_V_91 : (fun e : Nat × Nat × Nat × Nat => ∀ vs, et_vt[e.2.2.1]? = some vs → ∀ q ∈ vs, ∃ (y : MethodName) (by' : ByteArray) (nl : Nat) (rt : Option FieldType) (r : vw_C), em_inf[q.2]? = some (y, by', nl, rt) ∧ ec_cl[q.1]? = some r ∧ ec_callV (ec_on e.1) e.2.1 r.1 y by' nl rt e.2.2.2) ((nat_lit 11), (nat_lit 249), (nat_lit 64), (nat_lit 3)) := by
  intro vs h
  have h : some [(11, 123)] = some vs := h
  cases h
  intro q hq
  rcases List.mem_cons.mp hq with hq | hq
  · subst hq; exact ⟨_, _, _, _, _, rfl, rfl, ef_148⟩
  cases hq
theorem el_V_92 : (fun e : Nat × Nat × Nat × Nat => ∀ vs, et_vt[e.2.2.1]? = some vs → ∀ q ∈ vs, ∃ (y : MethodName) (by' : ByteArray) (nl : Nat) (rt : Option FieldType) (r : vw_C), em_inf[q.2]? = some (y, by', nl, rt) ∧ ec_cl[q.1]? = some r ∧ ec_callV (ec_on e.1) e.2.1 r.1 y by' nl rt e.2.2.2) ((nat_lit 11), (nat_lit 270), (nat_lit 65), (nat_lit 1)) := by
  intro vs h
  have h : some [(11, 117)] = some vs := h
  cases h
  intro q hq
  rcases List.mem_cons.mp hq with hq | hq
  · subst hq; exact ⟨_, _, _, _, _, rfl, rfl, ef_150⟩
  cases hq
theorem el_V_93 : (fun e : Nat × Nat × Nat × Nat => ∀ vs, et_vt[e.2.2.1]? = some vs → ∀ q ∈ vs, ∃ (y : MethodName) (by' : ByteArray) (nl : Nat) (rt : Option FieldType) (r : vw_C), em_inf[q.2]? = some (y, by', nl, rt) ∧ ec_cl[q.1]? = some r ∧ ec_callV (ec_on e.1) e.2.1 r.1 y by' nl rt e.2.2.2) ((nat_lit 11), (nat_lit 277), (nat_lit 66), (nat_lit 1)) := by
  intro vs h
  have h : some [(0, 25)] = some vs := h
  cases h
  intro q hq
  rcases List.mem_cons.mp hq with hq | hq
  · subst hq; exact ⟨_, _, _, _, _, rfl, rfl, ef_152⟩
  cases hq
theorem el_V_94 : (fun e : Nat × Nat × Nat × Nat => ∀ vs, et_vt[e.2.2.1]? = some vs → ∀ q ∈ vs, ∃ (y : MethodName) (by' : ByteArray) (nl : Nat) (rt : Option FieldType) (r : vw_C), em_inf[q.2]? = some (y, by', nl, rt) ∧ ec_cl[q.1]? = some r ∧ ec_callV (ec_on e.1) e.2.1 r.1 y by' nl rt e.2.2.2) ((nat_lit 11), (nat_lit 281), (nat_lit 67), (nat_lit 1)) := by
  intro vs h
  have h : some [(0, 26)] = some vs := h
  cases h
  intro q hq
  rcases List.mem_cons.mp hq with hq | hq
  · subst hq; exact ⟨_, _, _, _, _, rfl, rfl, ef_153⟩
  cases hq
theorem el_V_95 : (fun e : Nat × Nat × Nat × Nat => ∀ vs, et_vt[e.2.2.1]? = some vs → ∀ q ∈ vs, ∃ (y : MethodName) (by' : ByteArray) (nl : Nat) (rt : Option FieldType) (r : vw_C), em_inf[q.2]? = some (y, by', nl, rt) ∧ ec_cl[q.1]? = some r ∧ ec_callV (ec_on e.1) e.2.1 r.1 y by' nl rt e.2.2.2) ((nat_lit 11), (nat_lit 284), (nat_lit 68), (nat_lit 1)) := by
  intro vs h
  have h : some [(0, 27)] = some vs := h
  cases h
  intro q hq
  rcases List.mem_cons.mp hq with hq | hq
  · subst hq; exact ⟨_, _, _, _, _, rfl, rfl, ef_154⟩
  cases hq
theorem el_V_96 : (fun e : Nat × Nat × Nat × Nat => ∀ vs, et_vt[e.2.2.1]? = some vs → ∀ q ∈ vs, ∃ (y : MethodName) (by' : ByteArray) (nl : Nat) (rt : Option FieldType) (r : vw_C), em_inf[q.2]? = some (y, by', nl, rt) ∧ ec_cl[q.1]? = some r ∧ ec_callV (ec_on e.1) e.2.1 r.1 y by' nl rt e.2.2.2) ((nat_lit 11), (nat_lit 292), (nat_lit 25), (nat_lit 4)) := by
  intro vs h
  have h : some [(5, 41)] = some vs := h
  cases h
  intro q hq
  rcases List.mem_cons.mp hq with hq | hq
  · subst hq; exact ⟨_, _, _, _, _, rfl, rfl, ef_155⟩
  cases hq
theorem el_V_97 : (fun e : Nat × Nat × Nat × Nat => ∀ vs, et_vt[e.2.2.1]? = some vs → ∀ q ∈ vs, ∃ (y : MethodName) (by' : ByteArray) (nl : Nat) (rt : Option FieldType) (r : vw_C), em_inf[q.2]? = some (y, by', nl, rt) ∧ ec_cl[q.1]? = some r ∧ ec_callV (ec_on e.1) e.2.1 r.1 y by' nl rt e.2.2.2) ((nat_lit 12), (nat_lit 74), (nat_lit 69), (nat_lit 0)) := by
  intro vs h
  have h : some [(12, 128)] = some vs := h
  cases h
  intro q hq
  rcases List.mem_cons.mp hq with hq | hq
  · subst hq; exact ⟨_, _, _, _, _, rfl, rfl, ef_157⟩
  cases hq
theorem el_V_98 : (fun e : Nat × Nat × Nat × Nat => ∀ vs, et_vt[e.2.2.1]? = some vs → ∀ q ∈ vs, ∃ (y : MethodName) (by' : ByteArray) (nl : Nat) (rt : Option FieldType) (r : vw_C), em_inf[q.2]? = some (y, by', nl, rt) ∧ ec_cl[q.1]? = some r ∧ ec_callV (ec_on e.1) e.2.1 r.1 y by' nl rt e.2.2.2) ((nat_lit 12), (nat_lit 99), (nat_lit 70), (nat_lit 2)) := by
  intro vs h
  have h : some [(12, 131)] = some vs := h
  cases h
  intro q hq
  rcases List.mem_cons.mp hq with hq | hq
  · subst hq; exact ⟨_, _, _, _, _, rfl, rfl, ef_161⟩
  cases hq
theorem el_V_99 : (fun e : Nat × Nat × Nat × Nat => ∀ vs, et_vt[e.2.2.1]? = some vs → ∀ q ∈ vs, ∃ (y : MethodName) (by' : ByteArray) (nl : Nat) (rt : Option FieldType) (r : vw_C), em_inf[q.2]? = some (y, by', nl, rt) ∧ ec_cl[q.1]? = some r ∧ ec_callV (ec_on e.1) e.2.1 r.1 y by' nl rt e.2.2.2) ((nat_lit 12), (nat_lit 127), (nat_lit 71), (nat_lit 2)) := by
  intro vs h
  have h : some [(12, 132)] = some vs := h
  cases h
  intro q hq
  rcases List.mem_cons.mp hq with hq | hq
  · subst hq; exact ⟨_, _, _, _, _, rfl, rfl, ef_164⟩
  cases hq
theorem el_V_100 : (fun e : Nat × Nat × Nat × Nat => ∀ vs, et_vt[e.2.2.1]? = some vs → ∀ q ∈ vs, ∃ (y : MethodName) (by' : ByteArray) (nl : Nat) (rt : Option FieldType) (r : vw_C), em_inf[q.2]? = some (y, by', nl, rt) ∧ ec_cl[q.1]? = some r ∧ ec_callV (ec_on e.1) e.2.1 r.1 y by' nl rt e.2.2.2) ((nat_lit 12), (nat_lit 147), (nat_lit 72), (nat_lit 1)) := by
  intro vs h
  have h : some [(12, 144)] = some vs := h
  cases h
  intro q hq
  rcases List.mem_cons.mp hq with hq | hq
  · subst hq; exact ⟨_, _, _, _, _, rfl, rfl, ef_166⟩
  cases hq
theorem el_V_101 : (fun e : Nat × Nat × Nat × Nat => ∀ vs, et_vt[e.2.2.1]? = some vs → ∀ q ∈ vs, ∃ (y : MethodName) (by' : ByteArray) (nl : Nat) (rt : Option FieldType) (r : vw_C), em_inf[q.2]? = some (y, by', nl, rt) ∧ ec_cl[q.1]? = some r ∧ ec_callV (ec_on e.1) e.2.1 r.1 y by' nl rt e.2.2.2) ((nat_lit 12), (nat_lit 179), (nat_lit 73), (nat_lit 2)) := by
  intro vs h
  have h : some [(12, 151)] = some vs := h
  cases h
  intro q hq
  rcases List.mem_cons.mp hq with hq | hq
  · subst hq; exact ⟨_, _, _, _, _, rfl, rfl, ef_167⟩
  cases hq
theorem el_V_102 : (fun e : Nat × Nat × Nat × Nat => ∀ vs, et_vt[e.2.2.1]? = some vs → ∀ q ∈ vs, ∃ (y : MethodName) (by' : ByteArray) (nl : Nat) (rt : Option FieldType) (r : vw_C), em_inf[q.2]? = some (y, by', nl, rt) ∧ ec_cl[q.1]? = some r ∧ ec_callV (ec_on e.1) e.2.1 r.1 y by' nl rt e.2.2.2) ((nat_lit 12), (nat_lit 205), (nat_lit 74), (nat_lit 0)) := by
  intro vs h
  have h : some [(12, 153)] = some vs := h
  cases h
  intro q hq
  rcases List.mem_cons.mp hq with hq | hq
  · subst hq; exact ⟨_, _, _, _, _, rfl, rfl, ef_169⟩
  cases hq
theorem el_V_103 : (fun e : Nat × Nat × Nat × Nat => ∀ vs, et_vt[e.2.2.1]? = some vs → ∀ q ∈ vs, ∃ (y : MethodName) (by' : ByteArray) (nl : Nat) (rt : Option FieldType) (r : vw_C), em_inf[q.2]? = some (y, by', nl, rt) ∧ ec_cl[q.1]? = some r ∧ ec_callV (ec_on e.1) e.2.1 r.1 y by' nl rt e.2.2.2) ((nat_lit 12), (nat_lit 211), (nat_lit 75), (nat_lit 2)) := by
  intro vs h
  have h : some [(12, 134)] = some vs := h
  cases h
  intro q hq
  rcases List.mem_cons.mp hq with hq | hq
  · subst hq; exact ⟨_, _, _, _, _, rfl, rfl, ef_171⟩
  cases hq
theorem el_V_104 : (fun e : Nat × Nat × Nat × Nat => ∀ vs, et_vt[e.2.2.1]? = some vs → ∀ q ∈ vs, ∃ (y : MethodName) (by' : ByteArray) (nl : Nat) (rt : Option FieldType) (r : vw_C), em_inf[q.2]? = some (y, by', nl, rt) ∧ ec_cl[q.1]? = some r ∧ ec_callV (ec_on e.1) e.2.1 r.1 y by' nl rt e.2.2.2) ((nat_lit 12), (nat_lit 214), (nat_lit 76), (nat_lit 4)) := by
  intro vs h
  have h : some [(12, 138)] = some vs := h
  cases h
  intro q hq
  rcases List.mem_cons.mp hq with hq | hq
  · subst hq; exact ⟨_, _, _, _, _, rfl, rfl, ef_172⟩
  cases hq
theorem el_V_105 : (fun e : Nat × Nat × Nat × Nat => ∀ vs, et_vt[e.2.2.1]? = some vs → ∀ q ∈ vs, ∃ (y : MethodName) (by' : ByteArray) (nl : Nat) (rt : Option FieldType) (r : vw_C), em_inf[q.2]? = some (y, by', nl, rt) ∧ ec_cl[q.1]? = some r ∧ ec_callV (ec_on e.1) e.2.1 r.1 y by' nl rt e.2.2.2) ((nat_lit 12), (nat_lit 218), (nat_lit 77), (nat_lit 2)) := by
  intro vs h
  have h : some [(12, 139)] = some vs := h
  cases h
  intro q hq
  rcases List.mem_cons.mp hq with hq | hq
  · subst hq; exact ⟨_, _, _, _, _, rfl, rfl, ef_173⟩
  cases hq
theorem el_V_106 : (fun e : Nat × Nat × Nat × Nat => ∀ vs, et_vt[e.2.2.1]? = some vs → ∀ q ∈ vs, ∃ (y : MethodName) (by' : ByteArray) (nl : Nat) (rt : Option FieldType) (r : vw_C), em_inf[q.2]? = some (y, by', nl, rt) ∧ ec_cl[q.1]? = some r ∧ ec_callV (ec_on e.1) e.2.1 r.1 y by' nl rt e.2.2.2) ((nat_lit 12), (nat_lit 221), (nat_lit 78), (nat_lit 2)) := by
  intro vs h
  have h : some [(12, 140)] = some vs := h
  cases h
  intro q hq
  rcases List.mem_cons.mp hq with hq | hq
  · subst hq; exact ⟨_, _, _, _, _, rfl, rfl, ef_174⟩
  cases hq
theorem el_V_107 : (fun e : Nat × Nat × Nat × Nat => ∀ vs, et_vt[e.2.2.1]? = some vs → ∀ q ∈ vs, ∃ (y : MethodName) (by' : ByteArray) (nl : Nat) (rt : Option FieldType) (r : vw_C), em_inf[q.2]? = some (y, by', nl, rt) ∧ ec_cl[q.1]? = some r ∧ ec_callV (ec_on e.1) e.2.1 r.1 y by' nl rt e.2.2.2) ((nat_lit 12), (nat_lit 224), (nat_lit 79), (nat_lit 3)) := by
  intro vs h
  have h : some [(12, 141)] = some vs := h
  cases h
  intro q hq
  rcases List.mem_cons.mp hq with hq | hq
  · subst hq; exact ⟨_, _, _, _, _, rfl, rfl, ef_175⟩
  cases hq
theorem el_V_108 : (fun e : Nat × Nat × Nat × Nat => ∀ vs, et_vt[e.2.2.1]? = some vs → ∀ q ∈ vs, ∃ (y : MethodName) (by' : ByteArray) (nl : Nat) (rt : Option FieldType) (r : vw_C), em_inf[q.2]? = some (y, by', nl, rt) ∧ ec_cl[q.1]? = some r ∧ ec_callV (ec_on e.1) e.2.1 r.1 y by' nl rt e.2.2.2) ((nat_lit 12), (nat_lit 228), (nat_lit 80), (nat_lit 2)) := by
  intro vs h
  have h : some [(12, 142)] = some vs := h
  cases h
  intro q hq
  rcases List.mem_cons.mp hq with hq | hq
  · subst hq; exact ⟨_, _, _, _, _, rfl, rfl, ef_176⟩
  cases hq
theorem el_V_109 : (fun e : Nat × Nat × Nat × Nat => ∀ vs, et_vt[e.2.2.1]? = some vs → ∀ q ∈ vs, ∃ (y : MethodName) (by' : ByteArray) (nl : Nat) (rt : Option FieldType) (r : vw_C), em_inf[q.2]? = some (y, by', nl, rt) ∧ ec_cl[q.1]? = some r ∧ ec_callV (ec_on e.1) e.2.1 r.1 y by' nl rt e.2.2.2) ((nat_lit 12), (nat_lit 231), (nat_lit 81), (nat_lit 5)) := by
  intro vs h
  have h : some [(12, 143)] = some vs := h
  cases h
  intro q hq
  rcases List.mem_cons.mp hq with hq | hq
  · subst hq; exact ⟨_, _, _, _, _, rfl, rfl, ef_177⟩
  cases hq
theorem el_V_110 : (fun e : Nat × Nat × Nat × Nat => ∀ vs, et_vt[e.2.2.1]? = some vs → ∀ q ∈ vs, ∃ (y : MethodName) (by' : ByteArray) (nl : Nat) (rt : Option FieldType) (r : vw_C), em_inf[q.2]? = some (y, by', nl, rt) ∧ ec_cl[q.1]? = some r ∧ ec_callV (ec_on e.1) e.2.1 r.1 y by' nl rt e.2.2.2) ((nat_lit 12), (nat_lit 235), (nat_lit 82), (nat_lit 2)) := by
  intro vs h
  have h : some [(12, 145)] = some vs := h
  cases h
  intro q hq
  rcases List.mem_cons.mp hq with hq | hq
  · subst hq; exact ⟨_, _, _, _, _, rfl, rfl, ef_178⟩
  cases hq
theorem el_V_111 : (fun e : Nat × Nat × Nat × Nat => ∀ vs, et_vt[e.2.2.1]? = some vs → ∀ q ∈ vs, ∃ (y : MethodName) (by' : ByteArray) (nl : Nat) (rt : Option FieldType) (r : vw_C), em_inf[q.2]? = some (y, by', nl, rt) ∧ ec_cl[q.1]? = some r ∧ ec_callV (ec_on e.1) e.2.1 r.1 y by' nl rt e.2.2.2) ((nat_lit 12), (nat_lit 238), (nat_lit 83), (nat_lit 3)) := by
  intro vs h
  have h : some [(12, 146)] = some vs := h
  cases h
  intro q hq
  rcases List.mem_cons.mp hq with hq | hq
  · subst hq; exact ⟨_, _, _, _, _, rfl, rfl, ef_179⟩
  cases hq
theorem el_V_112 : (fun e : Nat × Nat × Nat × Nat => ∀ vs, et_vt[e.2.2.1]? = some vs → ∀ q ∈ vs, ∃ (y : MethodName) (by' : ByteArray) (nl : Nat) (rt : Option FieldType) (r : vw_C), em_inf[q.2]? = some (y, by', nl, rt) ∧ ec_cl[q.1]? = some r ∧ ec_callV (ec_on e.1) e.2.1 r.1 y by' nl rt e.2.2.2) ((nat_lit 12), (nat_lit 241), (nat_lit 84), (nat_lit 2)) := by
  intro vs h
  have h : some [(12, 147)] = some vs := h
  cases h
  intro q hq
  rcases List.mem_cons.mp hq with hq | hq
  · subst hq; exact ⟨_, _, _, _, _, rfl, rfl, ef_180⟩
  cases hq
theorem el_V_113 : (fun e : Nat × Nat × Nat × Nat => ∀ vs, et_vt[e.2.2.1]? = some vs → ∀ q ∈ vs, ∃ (y : MethodName) (by' : ByteArray) (nl : Nat) (rt : Option FieldType) (r : vw_C), em_inf[q.2]? = some (y, by', nl, rt) ∧ ec_cl[q.1]? = some r ∧ ec_callV (ec_on e.1) e.2.1 r.1 y by' nl rt e.2.2.2) ((nat_lit 12), (nat_lit 244), (nat_lit 85), (nat_lit 0)) := by
  intro vs h
  have h : some [(12, 155)] = some vs := h
  cases h
  intro q hq
  rcases List.mem_cons.mp hq with hq | hq
  · subst hq; exact ⟨_, _, _, _, _, rfl, rfl, ef_181⟩
  cases hq
theorem el_V_114 : (fun e : Nat × Nat × Nat × Nat => ∀ vs, et_vt[e.2.2.1]? = some vs → ∀ q ∈ vs, ∃ (y : MethodName) (by' : ByteArray) (nl : Nat) (rt : Option FieldType) (r : vw_C), em_inf[q.2]? = some (y, by', nl, rt) ∧ ec_cl[q.1]? = some r ∧ ec_callV (ec_on e.1) e.2.1 r.1 y by' nl rt e.2.2.2) ((nat_lit 12), (nat_lit 248), (nat_lit 86), (nat_lit 1)) := by
  intro vs h
  have h : some [(12, 156)] = some vs := h
  cases h
  intro q hq
  rcases List.mem_cons.mp hq with hq | hq
  · subst hq; exact ⟨_, _, _, _, _, rfl, rfl, ef_182⟩
  cases hq
theorem el_V_115 : (fun e : Nat × Nat × Nat × Nat => ∀ vs, et_vt[e.2.2.1]? = some vs → ∀ q ∈ vs, ∃ (y : MethodName) (by' : ByteArray) (nl : Nat) (rt : Option FieldType) (r : vw_C), em_inf[q.2]? = some (y, by', nl, rt) ∧ ec_cl[q.1]? = some r ∧ ec_callV (ec_on e.1) e.2.1 r.1 y by' nl rt e.2.2.2) ((nat_lit 12), (nat_lit 251), (nat_lit 87), (nat_lit 1)) := by
  intro vs h
  have h : some [(12, 158)] = some vs := h
  cases h
  intro q hq
  rcases List.mem_cons.mp hq with hq | hq
  · subst hq; exact ⟨_, _, _, _, _, rfl, rfl, ef_183⟩
  cases hq
theorem el_V_116 : (fun e : Nat × Nat × Nat × Nat => ∀ vs, et_vt[e.2.2.1]? = some vs → ∀ q ∈ vs, ∃ (y : MethodName) (by' : ByteArray) (nl : Nat) (rt : Option FieldType) (r : vw_C), em_inf[q.2]? = some (y, by', nl, rt) ∧ ec_cl[q.1]? = some r ∧ ec_callV (ec_on e.1) e.2.1 r.1 y by' nl rt e.2.2.2) ((nat_lit 12), (nat_lit 254), (nat_lit 88), (nat_lit 0)) := by
  intro vs h
  have h : some [(12, 160)] = some vs := h
  cases h
  intro q hq
  rcases List.mem_cons.mp hq with hq | hq
  · subst hq; exact ⟨_, _, _, _, _, rfl, rfl, ef_184⟩
  cases hq
theorem el_V_117 : (fun e : Nat × Nat × Nat × Nat => ∀ vs, et_vt[e.2.2.1]? = some vs → ∀ q ∈ vs, ∃ (y : MethodName) (by' : ByteArray) (nl : Nat) (rt : Option FieldType) (r : vw_C), em_inf[q.2]? = some (y, by', nl, rt) ∧ ec_cl[q.1]? = some r ∧ ec_callV (ec_on e.1) e.2.1 r.1 y by' nl rt e.2.2.2) ((nat_lit 12), (nat_lit 258), (nat_lit 89), (nat_lit 0)) := by
  intro vs h
  have h : some [(12, 161)] = some vs := h
  cases h
  intro q hq
  rcases List.mem_cons.mp hq with hq | hq
  · subst hq; exact ⟨_, _, _, _, _, rfl, rfl, ef_185⟩
  cases hq
theorem el_V_118 : (fun e : Nat × Nat × Nat × Nat => ∀ vs, et_vt[e.2.2.1]? = some vs → ∀ q ∈ vs, ∃ (y : MethodName) (by' : ByteArray) (nl : Nat) (rt : Option FieldType) (r : vw_C), em_inf[q.2]? = some (y, by', nl, rt) ∧ ec_cl[q.1]? = some r ∧ ec_callV (ec_on e.1) e.2.1 r.1 y by' nl rt e.2.2.2) ((nat_lit 12), (nat_lit 261), (nat_lit 90), (nat_lit 3)) := by
  intro vs h
  have h : some [(12, 163)] = some vs := h
  cases h
  intro q hq
  rcases List.mem_cons.mp hq with hq | hq
  · subst hq; exact ⟨_, _, _, _, _, rfl, rfl, ef_186⟩
  cases hq
theorem el_V_119 : (fun e : Nat × Nat × Nat × Nat => ∀ vs, et_vt[e.2.2.1]? = some vs → ∀ q ∈ vs, ∃ (y : MethodName) (by' : ByteArray) (nl : Nat) (rt : Option FieldType) (r : vw_C), em_inf[q.2]? = some (y, by', nl, rt) ∧ ec_cl[q.1]? = some r ∧ ec_callV (ec_on e.1) e.2.1 r.1 y by' nl rt e.2.2.2) ((nat_lit 12), (nat_lit 264), (nat_lit 91), (nat_lit 2)) := by
  intro vs h
  have h : some [(12, 164)] = some vs := h
  cases h
  intro q hq
  rcases List.mem_cons.mp hq with hq | hq
  · subst hq; exact ⟨_, _, _, _, _, rfl, rfl, ef_187⟩
  cases hq
theorem el_V_120 : (fun e : Nat × Nat × Nat × Nat => ∀ vs, et_vt[e.2.2.1]? = some vs → ∀ q ∈ vs, ∃ (y : MethodName) (by' : ByteArray) (nl : Nat) (rt : Option FieldType) (r : vw_C), em_inf[q.2]? = some (y, by', nl, rt) ∧ ec_cl[q.1]? = some r ∧ ec_callV (ec_on e.1) e.2.1 r.1 y by' nl rt e.2.2.2) ((nat_lit 12), (nat_lit 267), (nat_lit 92), (nat_lit 3)) := by
  intro vs h
  have h : some [(12, 162)] = some vs := h
  cases h
  intro q hq
  rcases List.mem_cons.mp hq with hq | hq
  · subst hq; exact ⟨_, _, _, _, _, rfl, rfl, ef_188⟩
  cases hq
theorem el_V_121 : (fun e : Nat × Nat × Nat × Nat => ∀ vs, et_vt[e.2.2.1]? = some vs → ∀ q ∈ vs, ∃ (y : MethodName) (by' : ByteArray) (nl : Nat) (rt : Option FieldType) (r : vw_C), em_inf[q.2]? = some (y, by', nl, rt) ∧ ec_cl[q.1]? = some r ∧ ec_callV (ec_on e.1) e.2.1 r.1 y by' nl rt e.2.2.2) ((nat_lit 12), (nat_lit 270), (nat_lit 93), (nat_lit 2)) := by
  intro vs h
  have h : some [(12, 159)] = some vs := h
  cases h
  intro q hq
  rcases List.mem_cons.mp hq with hq | hq
  · subst hq; exact ⟨_, _, _, _, _, rfl, rfl, ef_189⟩
  cases hq
theorem el_V_122 : (fun e : Nat × Nat × Nat × Nat => ∀ vs, et_vt[e.2.2.1]? = some vs → ∀ q ∈ vs, ∃ (y : MethodName) (by' : ByteArray) (nl : Nat) (rt : Option FieldType) (r : vw_C), em_inf[q.2]? = some (y, by', nl, rt) ∧ ec_cl[q.1]? = some r ∧ ec_callV (ec_on e.1) e.2.1 r.1 y by' nl rt e.2.2.2) ((nat_lit 12), (nat_lit 283), (nat_lit 94), (nat_lit 4)) := by
  intro vs h
  have h : some [(12, 166)] = some vs := h
  cases h
  intro q hq
  rcases List.mem_cons.mp hq with hq | hq
  · subst hq; exact ⟨_, _, _, _, _, rfl, rfl, ef_190⟩
  cases hq
theorem el_V_123 : (fun e : Nat × Nat × Nat × Nat => ∀ vs, et_vt[e.2.2.1]? = some vs → ∀ q ∈ vs, ∃ (y : MethodName) (by' : ByteArray) (nl : Nat) (rt : Option FieldType) (r : vw_C), em_inf[q.2]? = some (y, by', nl, rt) ∧ ec_cl[q.1]? = some r ∧ ec_callV (ec_on e.1) e.2.1 r.1 y by' nl rt e.2.2.2) ((nat_lit 12), (nat_lit 287), (nat_lit 95), (nat_lit 2)) := by
  intro vs h
  have h : some [(12, 165)] = some vs := h
  cases h
  intro q hq
  rcases List.mem_cons.mp hq with hq | hq
  · subst hq; exact ⟨_, _, _, _, _, rfl, rfl, ef_191⟩
  cases hq
theorem el_V_124 : (fun e : Nat × Nat × Nat × Nat => ∀ vs, et_vt[e.2.2.1]? = some vs → ∀ q ∈ vs, ∃ (y : MethodName) (by' : ByteArray) (nl : Nat) (rt : Option FieldType) (r : vw_C), em_inf[q.2]? = some (y, by', nl, rt) ∧ ec_cl[q.1]? = some r ∧ ec_callV (ec_on e.1) e.2.1 r.1 y by' nl rt e.2.2.2) ((nat_lit 12), (nat_lit 291), (nat_lit 96), (nat_lit 0)) := by
  intro vs h
  have h : some [(12, 167)] = some vs := h
  cases h
  intro q hq
  rcases List.mem_cons.mp hq with hq | hq
  · subst hq; exact ⟨_, _, _, _, _, rfl, rfl, ef_192⟩
  cases hq
theorem el_V_125 : (fun e : Nat × Nat × Nat × Nat => ∀ vs, et_vt[e.2.2.1]? = some vs → ∀ q ∈ vs, ∃ (y : MethodName) (by' : ByteArray) (nl : Nat) (rt : Option FieldType) (r : vw_C), em_inf[q.2]? = some (y, by', nl, rt) ∧ ec_cl[q.1]? = some r ∧ ec_callV (ec_on e.1) e.2.1 r.1 y by' nl rt e.2.2.2) ((nat_lit 12), (nat_lit 294), (nat_lit 97), (nat_lit 2)) := by
  intro vs h
  have h : some [(12, 168)] = some vs := h
  cases h
  intro q hq
  rcases List.mem_cons.mp hq with hq | hq
  · subst hq; exact ⟨_, _, _, _, _, rfl, rfl, ef_193⟩
  cases hq
theorem el_V_126 : (fun e : Nat × Nat × Nat × Nat => ∀ vs, et_vt[e.2.2.1]? = some vs → ∀ q ∈ vs, ∃ (y : MethodName) (by' : ByteArray) (nl : Nat) (rt : Option FieldType) (r : vw_C), em_inf[q.2]? = some (y, by', nl, rt) ∧ ec_cl[q.1]? = some r ∧ ec_callV (ec_on e.1) e.2.1 r.1 y by' nl rt e.2.2.2) ((nat_lit 12), (nat_lit 302), (nat_lit 98), (nat_lit 1)) := by
  intro vs h
  have h : some [(12, 171)] = some vs := h
  cases h
  intro q hq
  rcases List.mem_cons.mp hq with hq | hq
  · subst hq; exact ⟨_, _, _, _, _, rfl, rfl, ef_195⟩
  cases hq
theorem el_V_127 : (fun e : Nat × Nat × Nat × Nat => ∀ vs, et_vt[e.2.2.1]? = some vs → ∀ q ∈ vs, ∃ (y : MethodName) (by' : ByteArray) (nl : Nat) (rt : Option FieldType) (r : vw_C), em_inf[q.2]? = some (y, by', nl, rt) ∧ ec_cl[q.1]? = some r ∧ ec_callV (ec_on e.1) e.2.1 r.1 y by' nl rt e.2.2.2) ((nat_lit 12), (nat_lit 305), (nat_lit 99), (nat_lit 2)) := by
  intro vs h
  have h : some [(12, 169)] = some vs := h
  cases h
  intro q hq
  rcases List.mem_cons.mp hq with hq | hq
  · subst hq; exact ⟨_, _, _, _, _, rfl, rfl, ef_196⟩
  cases hq
theorem el_V_128 : (fun e : Nat × Nat × Nat × Nat => ∀ vs, et_vt[e.2.2.1]? = some vs → ∀ q ∈ vs, ∃ (y : MethodName) (by' : ByteArray) (nl : Nat) (rt : Option FieldType) (r : vw_C), em_inf[q.2]? = some (y, by', nl, rt) ∧ ec_cl[q.1]? = some r ∧ ec_callV (ec_on e.1) e.2.1 r.1 y by' nl rt e.2.2.2) ((nat_lit 12), (nat_lit 312), (nat_lit 100), (nat_lit 0)) := by
  intro vs h
  have h : some [(12, 178)] = some vs := h
  cases h
  intro q hq
  rcases List.mem_cons.mp hq with hq | hq
  · subst hq; exact ⟨_, _, _, _, _, rfl, rfl, ef_197⟩
  cases hq
theorem el_V_129 : (fun e : Nat × Nat × Nat × Nat => ∀ vs, et_vt[e.2.2.1]? = some vs → ∀ q ∈ vs, ∃ (y : MethodName) (by' : ByteArray) (nl : Nat) (rt : Option FieldType) (r : vw_C), em_inf[q.2]? = some (y, by', nl, rt) ∧ ec_cl[q.1]? = some r ∧ ec_callV (ec_on e.1) e.2.1 r.1 y by' nl rt e.2.2.2) ((nat_lit 12), (nat_lit 315), (nat_lit 101), (nat_lit 4)) := by
  intro vs h
  have h : some [(12, 181)] = some vs := h
  cases h
  intro q hq
  rcases List.mem_cons.mp hq with hq | hq
  · subst hq; exact ⟨_, _, _, _, _, rfl, rfl, ef_198⟩
  cases hq
theorem el_V_130 : (fun e : Nat × Nat × Nat × Nat => ∀ vs, et_vt[e.2.2.1]? = some vs → ∀ q ∈ vs, ∃ (y : MethodName) (by' : ByteArray) (nl : Nat) (rt : Option FieldType) (r : vw_C), em_inf[q.2]? = some (y, by', nl, rt) ∧ ec_cl[q.1]? = some r ∧ ec_callV (ec_on e.1) e.2.1 r.1 y by' nl rt e.2.2.2) ((nat_lit 12), (nat_lit 319), (nat_lit 102), (nat_lit 2)) := by
  intro vs h
  have h : some [(12, 183)] = some vs := h
  cases h
  intro q hq
  rcases List.mem_cons.mp hq with hq | hq
  · subst hq; exact ⟨_, _, _, _, _, rfl, rfl, ef_199⟩
  cases hq
theorem el_V_131 : (fun e : Nat × Nat × Nat × Nat => ∀ vs, et_vt[e.2.2.1]? = some vs → ∀ q ∈ vs, ∃ (y : MethodName) (by' : ByteArray) (nl : Nat) (rt : Option FieldType) (r : vw_C), em_inf[q.2]? = some (y, by', nl, rt) ∧ ec_cl[q.1]? = some r ∧ ec_callV (ec_on e.1) e.2.1 r.1 y by' nl rt e.2.2.2) ((nat_lit 12), (nat_lit 322), (nat_lit 103), (nat_lit 3)) := by
  intro vs h
  have h : some [(12, 182)] = some vs := h
  cases h
  intro q hq
  rcases List.mem_cons.mp hq with hq | hq
  · subst hq; exact ⟨_, _, _, _, _, rfl, rfl, ef_200⟩
  cases hq
theorem el_V_132 : (fun e : Nat × Nat × Nat × Nat => ∀ vs, et_vt[e.2.2.1]? = some vs → ∀ q ∈ vs, ∃ (y : MethodName) (by' : ByteArray) (nl : Nat) (rt : Option FieldType) (r : vw_C), em_inf[q.2]? = some (y, by', nl, rt) ∧ ec_cl[q.1]? = some r ∧ ec_callV (ec_on e.1) e.2.1 r.1 y by' nl rt e.2.2.2) ((nat_lit 12), (nat_lit 326), (nat_lit 104), (nat_lit 2)) := by
  intro vs h
  have h : some [(12, 184)] = some vs := h
  cases h
  intro q hq
  rcases List.mem_cons.mp hq with hq | hq
  · subst hq; exact ⟨_, _, _, _, _, rfl, rfl, ef_201⟩
  cases hq
theorem el_V_133 : (fun e : Nat × Nat × Nat × Nat => ∀ vs, et_vt[e.2.2.1]? = some vs → ∀ q ∈ vs, ∃ (y : MethodName) (by' : ByteArray) (nl : Nat) (rt : Option FieldType) (r : vw_C), em_inf[q.2]? = some (y, by', nl, rt) ∧ ec_cl[q.1]? = some r ∧ ec_callV (ec_on e.1) e.2.1 r.1 y by' nl rt e.2.2.2) ((nat_lit 12), (nat_lit 329), (nat_lit 105), (nat_lit 0)) := by
  intro vs h
  have h : some [(12, 185)] = some vs := h
  cases h
  intro q hq
  rcases List.mem_cons.mp hq with hq | hq
  · subst hq; exact ⟨_, _, _, _, _, rfl, rfl, ef_202⟩
  cases hq
theorem el_V_134 : (fun e : Nat × Nat × Nat × Nat => ∀ vs, et_vt[e.2.2.1]? = some vs → ∀ q ∈ vs, ∃ (y : MethodName) (by' : ByteArray) (nl : Nat) (rt : Option FieldType) (r : vw_C), em_inf[q.2]? = some (y, by', nl, rt) ∧ ec_cl[q.1]? = some r ∧ ec_callV (ec_on e.1) e.2.1 r.1 y by' nl rt e.2.2.2) ((nat_lit 12), (nat_lit 335), (nat_lit 106), (nat_lit 0)) := by
  intro vs h
  have h : some [(12, 190)] = some vs := h
  cases h
  intro q hq
  rcases List.mem_cons.mp hq with hq | hq
  · subst hq; exact ⟨_, _, _, _, _, rfl, rfl, ef_204⟩
  cases hq
theorem el_V_135 : (fun e : Nat × Nat × Nat × Nat => ∀ vs, et_vt[e.2.2.1]? = some vs → ∀ q ∈ vs, ∃ (y : MethodName) (by' : ByteArray) (nl : Nat) (rt : Option FieldType) (r : vw_C), em_inf[q.2]? = some (y, by', nl, rt) ∧ ec_cl[q.1]? = some r ∧ ec_callV (ec_on e.1) e.2.1 r.1 y by' nl rt e.2.2.2) ((nat_lit 12), (nat_lit 338), (nat_lit 107), (nat_lit 2)) := by
  intro vs h
  have h : some [(12, 191)] = some vs := h
  cases h
  intro q hq
  rcases List.mem_cons.mp hq with hq | hq
  · subst hq; exact ⟨_, _, _, _, _, rfl, rfl, ef_205⟩
  cases hq
theorem el_V_136 : (fun e : Nat × Nat × Nat × Nat => ∀ vs, et_vt[e.2.2.1]? = some vs → ∀ q ∈ vs, ∃ (y : MethodName) (by' : ByteArray) (nl : Nat) (rt : Option FieldType) (r : vw_C), em_inf[q.2]? = some (y, by', nl, rt) ∧ ec_cl[q.1]? = some r ∧ ec_callV (ec_on e.1) e.2.1 r.1 y by' nl rt e.2.2.2) ((nat_lit 12), (nat_lit 341), (nat_lit 108), (nat_lit 2)) := by
  intro vs h
  have h : some [(12, 130)] = some vs := h
  cases h
  intro q hq
  rcases List.mem_cons.mp hq with hq | hq
  · subst hq; exact ⟨_, _, _, _, _, rfl, rfl, ef_206⟩
  cases hq
theorem el_V_137 : (fun e : Nat × Nat × Nat × Nat => ∀ vs, et_vt[e.2.2.1]? = some vs → ∀ q ∈ vs, ∃ (y : MethodName) (by' : ByteArray) (nl : Nat) (rt : Option FieldType) (r : vw_C), em_inf[q.2]? = some (y, by', nl, rt) ∧ ec_cl[q.1]? = some r ∧ ec_callV (ec_on e.1) e.2.1 r.1 y by' nl rt e.2.2.2) ((nat_lit 12), (nat_lit 347), (nat_lit 109), (nat_lit 3)) := by
  intro vs h
  have h : some [(12, 194)] = some vs := h
  cases h
  intro q hq
  rcases List.mem_cons.mp hq with hq | hq
  · subst hq; exact ⟨_, _, _, _, _, rfl, rfl, ef_207⟩
  cases hq
theorem el_V_138 : (fun e : Nat × Nat × Nat × Nat => ∀ vs, et_vt[e.2.2.1]? = some vs → ∀ q ∈ vs, ∃ (y : MethodName) (by' : ByteArray) (nl : Nat) (rt : Option FieldType) (r : vw_C), em_inf[q.2]? = some (y, by', nl, rt) ∧ ec_cl[q.1]? = some r ∧ ec_callV (ec_on e.1) e.2.1 r.1 y by' nl rt e.2.2.2) ((nat_lit 12), (nat_lit 352), (nat_lit 110), (nat_lit 1)) := by
  intro vs h
  have h : some [(12, 200)] = some vs := h
  cases h
  intro q hq
  rcases List.mem_cons.mp hq with hq | hq
  · subst hq; exact ⟨_, _, _, _, _, rfl, rfl, ef_208⟩
  cases hq
theorem el_V_139 : (fun e : Nat × Nat × Nat × Nat => ∀ vs, et_vt[e.2.2.1]? = some vs → ∀ q ∈ vs, ∃ (y : MethodName) (by' : ByteArray) (nl : Nat) (rt : Option FieldType) (r : vw_C), em_inf[q.2]? = some (y, by', nl, rt) ∧ ec_cl[q.1]? = some r ∧ ec_callV (ec_on e.1) e.2.1 r.1 y by' nl rt e.2.2.2) ((nat_lit 12), (nat_lit 359), (nat_lit 111), (nat_lit 3)) := by
  intro vs h
  have h : some [(12, 202)] = some vs := h
  cases h
  intro q hq
  rcases List.mem_cons.mp hq with hq | hq
  · subst hq; exact ⟨_, _, _, _, _, rfl, rfl, ef_209⟩
  cases hq
theorem el_V_140 : (fun e : Nat × Nat × Nat × Nat => ∀ vs, et_vt[e.2.2.1]? = some vs → ∀ q ∈ vs, ∃ (y : MethodName) (by' : ByteArray) (nl : Nat) (rt : Option FieldType) (r : vw_C), em_inf[q.2]? = some (y, by', nl, rt) ∧ ec_cl[q.1]? = some r ∧ ec_callV (ec_on e.1) e.2.1 r.1 y by' nl rt e.2.2.2) ((nat_lit 15), (nat_lit 13), (nat_lit 112), (nat_lit 2)) := by
  intro vs h
  have h : some [(11, 85)] = some vs := h
  cases h
  intro q hq
  rcases List.mem_cons.mp hq with hq | hq
  · subst hq; exact ⟨_, _, _, _, _, rfl, rfl, ef_212⟩
  cases hq
theorem el_V_141 : (fun e : Nat × Nat × Nat × Nat => ∀ vs, et_vt[e.2.2.1]? = some vs → ∀ q ∈ vs, ∃ (y : MethodName) (by' : ByteArray) (nl : Nat) (rt : Option FieldType) (r : vw_C), em_inf[q.2]? = some (y, by', nl, rt) ∧ ec_cl[q.1]? = some r ∧ ec_callV (ec_on e.1) e.2.1 r.1 y by' nl rt e.2.2.2) ((nat_lit 15), (nat_lit 17), (nat_lit 75), (nat_lit 2)) := by
  intro vs h
  have h : some [(12, 134)] = some vs := h
  cases h
  intro q hq
  rcases List.mem_cons.mp hq with hq | hq
  · subst hq; exact ⟨_, _, _, _, _, rfl, rfl, ef_213⟩
  cases hq
theorem el_V_142 : (fun e : Nat × Nat × Nat × Nat => ∀ vs, et_vt[e.2.2.1]? = some vs → ∀ q ∈ vs, ∃ (y : MethodName) (by' : ByteArray) (nl : Nat) (rt : Option FieldType) (r : vw_C), em_inf[q.2]? = some (y, by', nl, rt) ∧ ec_cl[q.1]? = some r ∧ ec_callV (ec_on e.1) e.2.1 r.1 y by' nl rt e.2.2.2) ((nat_lit 15), (nat_lit 18), (nat_lit 113), (nat_lit 4)) := by
  intro vs h
  have h : some [(11, 86)] = some vs := h
  cases h
  intro q hq
  rcases List.mem_cons.mp hq with hq | hq
  · subst hq; exact ⟨_, _, _, _, _, rfl, rfl, ef_214⟩
  cases hq
theorem el_V_143 : (fun e : Nat × Nat × Nat × Nat => ∀ vs, et_vt[e.2.2.1]? = some vs → ∀ q ∈ vs, ∃ (y : MethodName) (by' : ByteArray) (nl : Nat) (rt : Option FieldType) (r : vw_C), em_inf[q.2]? = some (y, by', nl, rt) ∧ ec_cl[q.1]? = some r ∧ ec_callV (ec_on e.1) e.2.1 r.1 y by' nl rt e.2.2.2) ((nat_lit 15), (nat_lit 22), (nat_lit 76), (nat_lit 4)) := by
  intro vs h
  have h : some [(12, 138)] = some vs := h
  cases h
  intro q hq
  rcases List.mem_cons.mp hq with hq | hq
  · subst hq; exact ⟨_, _, _, _, _, rfl, rfl, ef_215⟩
  cases hq
theorem el_V_144 : (fun e : Nat × Nat × Nat × Nat => ∀ vs, et_vt[e.2.2.1]? = some vs → ∀ q ∈ vs, ∃ (y : MethodName) (by' : ByteArray) (nl : Nat) (rt : Option FieldType) (r : vw_C), em_inf[q.2]? = some (y, by', nl, rt) ∧ ec_cl[q.1]? = some r ∧ ec_callV (ec_on e.1) e.2.1 r.1 y by' nl rt e.2.2.2) ((nat_lit 15), (nat_lit 23), (nat_lit 114), (nat_lit 2)) := by
  intro vs h
  have h : some [(11, 87)] = some vs := h
  cases h
  intro q hq
  rcases List.mem_cons.mp hq with hq | hq
  · subst hq; exact ⟨_, _, _, _, _, rfl, rfl, ef_216⟩
  cases hq
theorem el_V_145 : (fun e : Nat × Nat × Nat × Nat => ∀ vs, et_vt[e.2.2.1]? = some vs → ∀ q ∈ vs, ∃ (y : MethodName) (by' : ByteArray) (nl : Nat) (rt : Option FieldType) (r : vw_C), em_inf[q.2]? = some (y, by', nl, rt) ∧ ec_cl[q.1]? = some r ∧ ec_callV (ec_on e.1) e.2.1 r.1 y by' nl rt e.2.2.2) ((nat_lit 15), (nat_lit 26), (nat_lit 77), (nat_lit 2)) := by
  intro vs h
  have h : some [(12, 139)] = some vs := h
  cases h
  intro q hq
  rcases List.mem_cons.mp hq with hq | hq
  · subst hq; exact ⟨_, _, _, _, _, rfl, rfl, ef_217⟩
  cases hq
theorem el_V_146 : (fun e : Nat × Nat × Nat × Nat => ∀ vs, et_vt[e.2.2.1]? = some vs → ∀ q ∈ vs, ∃ (y : MethodName) (by' : ByteArray) (nl : Nat) (rt : Option FieldType) (r : vw_C), em_inf[q.2]? = some (y, by', nl, rt) ∧ ec_cl[q.1]? = some r ∧ ec_callV (ec_on e.1) e.2.1 r.1 y by' nl rt e.2.2.2) ((nat_lit 15), (nat_lit 27), (nat_lit 115), (nat_lit 2)) := by
  intro vs h
  have h : some [(11, 88)] = some vs := h
  cases h
  intro q hq
  rcases List.mem_cons.mp hq with hq | hq
  · subst hq; exact ⟨_, _, _, _, _, rfl, rfl, ef_218⟩
  cases hq
theorem el_V_147 : (fun e : Nat × Nat × Nat × Nat => ∀ vs, et_vt[e.2.2.1]? = some vs → ∀ q ∈ vs, ∃ (y : MethodName) (by' : ByteArray) (nl : Nat) (rt : Option FieldType) (r : vw_C), em_inf[q.2]? = some (y, by', nl, rt) ∧ ec_cl[q.1]? = some r ∧ ec_callV (ec_on e.1) e.2.1 r.1 y by' nl rt e.2.2.2) ((nat_lit 15), (nat_lit 31), (nat_lit 78), (nat_lit 2)) := by
  intro vs h
  have h : some [(12, 140)] = some vs := h
  cases h
  intro q hq
  rcases List.mem_cons.mp hq with hq | hq
  · subst hq; exact ⟨_, _, _, _, _, rfl, rfl, ef_219⟩
  cases hq
theorem el_V_148 : (fun e : Nat × Nat × Nat × Nat => ∀ vs, et_vt[e.2.2.1]? = some vs → ∀ q ∈ vs, ∃ (y : MethodName) (by' : ByteArray) (nl : Nat) (rt : Option FieldType) (r : vw_C), em_inf[q.2]? = some (y, by', nl, rt) ∧ ec_cl[q.1]? = some r ∧ ec_callV (ec_on e.1) e.2.1 r.1 y by' nl rt e.2.2.2) ((nat_lit 15), (nat_lit 32), (nat_lit 116), (nat_lit 3)) := by
  intro vs h
  have h : some [(11, 89)] = some vs := h
  cases h
  intro q hq
  rcases List.mem_cons.mp hq with hq | hq
  · subst hq; exact ⟨_, _, _, _, _, rfl, rfl, ef_220⟩
  cases hq
theorem el_V_149 : (fun e : Nat × Nat × Nat × Nat => ∀ vs, et_vt[e.2.2.1]? = some vs → ∀ q ∈ vs, ∃ (y : MethodName) (by' : ByteArray) (nl : Nat) (rt : Option FieldType) (r : vw_C), em_inf[q.2]? = some (y, by', nl, rt) ∧ ec_cl[q.1]? = some r ∧ ec_callV (ec_on e.1) e.2.1 r.1 y by' nl rt e.2.2.2) ((nat_lit 15), (nat_lit 36), (nat_lit 79), (nat_lit 3)) := by
  intro vs h
  have h : some [(12, 141)] = some vs := h
  cases h
  intro q hq
  rcases List.mem_cons.mp hq with hq | hq
  · subst hq; exact ⟨_, _, _, _, _, rfl, rfl, ef_221⟩
  cases hq
theorem el_V_150 : (fun e : Nat × Nat × Nat × Nat => ∀ vs, et_vt[e.2.2.1]? = some vs → ∀ q ∈ vs, ∃ (y : MethodName) (by' : ByteArray) (nl : Nat) (rt : Option FieldType) (r : vw_C), em_inf[q.2]? = some (y, by', nl, rt) ∧ ec_cl[q.1]? = some r ∧ ec_callV (ec_on e.1) e.2.1 r.1 y by' nl rt e.2.2.2) ((nat_lit 15), (nat_lit 37), (nat_lit 117), (nat_lit 2)) := by
  intro vs h
  have h : some [(11, 90)] = some vs := h
  cases h
  intro q hq
  rcases List.mem_cons.mp hq with hq | hq
  · subst hq; exact ⟨_, _, _, _, _, rfl, rfl, ef_222⟩
  cases hq
theorem el_V_151 : (fun e : Nat × Nat × Nat × Nat => ∀ vs, et_vt[e.2.2.1]? = some vs → ∀ q ∈ vs, ∃ (y : MethodName) (by' : ByteArray) (nl : Nat) (rt : Option FieldType) (r : vw_C), em_inf[q.2]? = some (y, by', nl, rt) ∧ ec_cl[q.1]? = some r ∧ ec_callV (ec_on e.1) e.2.1 r.1 y by' nl rt e.2.2.2) ((nat_lit 15), (nat_lit 40), (nat_lit 80), (nat_lit 2)) := by
  intro vs h
  have h : some [(12, 142)] = some vs := h
  cases h
  intro q hq
  rcases List.mem_cons.mp hq with hq | hq
  · subst hq; exact ⟨_, _, _, _, _, rfl, rfl, ef_223⟩
  cases hq
theorem el_V_152 : (fun e : Nat × Nat × Nat × Nat => ∀ vs, et_vt[e.2.2.1]? = some vs → ∀ q ∈ vs, ∃ (y : MethodName) (by' : ByteArray) (nl : Nat) (rt : Option FieldType) (r : vw_C), em_inf[q.2]? = some (y, by', nl, rt) ∧ ec_cl[q.1]? = some r ∧ ec_callV (ec_on e.1) e.2.1 r.1 y by' nl rt e.2.2.2) ((nat_lit 15), (nat_lit 41), (nat_lit 118), (nat_lit 5)) := by
  intro vs h
  have h : some [(11, 91)] = some vs := h
  cases h
  intro q hq
  rcases List.mem_cons.mp hq with hq | hq
  · subst hq; exact ⟨_, _, _, _, _, rfl, rfl, ef_224⟩
  cases hq
theorem el_V_153 : (fun e : Nat × Nat × Nat × Nat => ∀ vs, et_vt[e.2.2.1]? = some vs → ∀ q ∈ vs, ∃ (y : MethodName) (by' : ByteArray) (nl : Nat) (rt : Option FieldType) (r : vw_C), em_inf[q.2]? = some (y, by', nl, rt) ∧ ec_cl[q.1]? = some r ∧ ec_callV (ec_on e.1) e.2.1 r.1 y by' nl rt e.2.2.2) ((nat_lit 15), (nat_lit 45), (nat_lit 81), (nat_lit 5)) := by
  intro vs h
  have h : some [(12, 143)] = some vs := h
  cases h
  intro q hq
  rcases List.mem_cons.mp hq with hq | hq
  · subst hq; exact ⟨_, _, _, _, _, rfl, rfl, ef_225⟩
  cases hq
theorem el_V_154 : (fun e : Nat × Nat × Nat × Nat => ∀ vs, et_vt[e.2.2.1]? = some vs → ∀ q ∈ vs, ∃ (y : MethodName) (by' : ByteArray) (nl : Nat) (rt : Option FieldType) (r : vw_C), em_inf[q.2]? = some (y, by', nl, rt) ∧ ec_cl[q.1]? = some r ∧ ec_callV (ec_on e.1) e.2.1 r.1 y by' nl rt e.2.2.2) ((nat_lit 15), (nat_lit 46), (nat_lit 119), (nat_lit 2)) := by
  intro vs h
  have h : some [(11, 92)] = some vs := h
  cases h
  intro q hq
  rcases List.mem_cons.mp hq with hq | hq
  · subst hq; exact ⟨_, _, _, _, _, rfl, rfl, ef_226⟩
  cases hq
theorem el_V_155 : (fun e : Nat × Nat × Nat × Nat => ∀ vs, et_vt[e.2.2.1]? = some vs → ∀ q ∈ vs, ∃ (y : MethodName) (by' : ByteArray) (nl : Nat) (rt : Option FieldType) (r : vw_C), em_inf[q.2]? = some (y, by', nl, rt) ∧ ec_cl[q.1]? = some r ∧ ec_callV (ec_on e.1) e.2.1 r.1 y by' nl rt e.2.2.2) ((nat_lit 15), (nat_lit 49), (nat_lit 82), (nat_lit 2)) := by
  intro vs h
  have h : some [(12, 145)] = some vs := h
  cases h
  intro q hq
  rcases List.mem_cons.mp hq with hq | hq
  · subst hq; exact ⟨_, _, _, _, _, rfl, rfl, ef_227⟩
  cases hq
theorem el_V_156 : (fun e : Nat × Nat × Nat × Nat => ∀ vs, et_vt[e.2.2.1]? = some vs → ∀ q ∈ vs, ∃ (y : MethodName) (by' : ByteArray) (nl : Nat) (rt : Option FieldType) (r : vw_C), em_inf[q.2]? = some (y, by', nl, rt) ∧ ec_cl[q.1]? = some r ∧ ec_callV (ec_on e.1) e.2.1 r.1 y by' nl rt e.2.2.2) ((nat_lit 15), (nat_lit 50), (nat_lit 120), (nat_lit 3)) := by
  intro vs h
  have h : some [(11, 93)] = some vs := h
  cases h
  intro q hq
  rcases List.mem_cons.mp hq with hq | hq
  · subst hq; exact ⟨_, _, _, _, _, rfl, rfl, ef_228⟩
  cases hq
theorem el_V_157 : (fun e : Nat × Nat × Nat × Nat => ∀ vs, et_vt[e.2.2.1]? = some vs → ∀ q ∈ vs, ∃ (y : MethodName) (by' : ByteArray) (nl : Nat) (rt : Option FieldType) (r : vw_C), em_inf[q.2]? = some (y, by', nl, rt) ∧ ec_cl[q.1]? = some r ∧ ec_callV (ec_on e.1) e.2.1 r.1 y by' nl rt e.2.2.2) ((nat_lit 15), (nat_lit 53), (nat_lit 83), (nat_lit 3)) := by
  intro vs h
  have h : some [(12, 146)] = some vs := h
  cases h
  intro q hq
  rcases List.mem_cons.mp hq with hq | hq
  · subst hq; exact ⟨_, _, _, _, _, rfl, rfl, ef_229⟩
  cases hq
theorem el_V_158 : (fun e : Nat × Nat × Nat × Nat => ∀ vs, et_vt[e.2.2.1]? = some vs → ∀ q ∈ vs, ∃ (y : MethodName) (by' : ByteArray) (nl : Nat) (rt : Option FieldType) (r : vw_C), em_inf[q.2]? = some (y, by', nl, rt) ∧ ec_cl[q.1]? = some r ∧ ec_callV (ec_on e.1) e.2.1 r.1 y by' nl rt e.2.2.2) ((nat_lit 15), (nat_lit 54), (nat_lit 121), (nat_lit 2)) := by
  intro vs h
  have h : some [(11, 94)] = some vs := h
  cases h
  intro q hq
  rcases List.mem_cons.mp hq with hq | hq
  · subst hq; exact ⟨_, _, _, _, _, rfl, rfl, ef_230⟩
  cases hq
theorem el_V_159 : (fun e : Nat × Nat × Nat × Nat => ∀ vs, et_vt[e.2.2.1]? = some vs → ∀ q ∈ vs, ∃ (y : MethodName) (by' : ByteArray) (nl : Nat) (rt : Option FieldType) (r : vw_C), em_inf[q.2]? = some (y, by', nl, rt) ∧ ec_cl[q.1]? = some r ∧ ec_callV (ec_on e.1) e.2.1 r.1 y by' nl rt e.2.2.2) ((nat_lit 15), (nat_lit 57), (nat_lit 84), (nat_lit 2)) := by
  intro vs h
  have h : some [(12, 147)] = some vs := h
  cases h
  intro q hq
  rcases List.mem_cons.mp hq with hq | hq
  · subst hq; exact ⟨_, _, _, _, _, rfl, rfl, ef_231⟩
  cases hq
theorem el_V_160 : (fun e : Nat × Nat × Nat × Nat => ∀ vs, et_vt[e.2.2.1]? = some vs → ∀ q ∈ vs, ∃ (y : MethodName) (by' : ByteArray) (nl : Nat) (rt : Option FieldType) (r : vw_C), em_inf[q.2]? = some (y, by', nl, rt) ∧ ec_cl[q.1]? = some r ∧ ec_callV (ec_on e.1) e.2.1 r.1 y by' nl rt e.2.2.2) ((nat_lit 15), (nat_lit 58), (nat_lit 122), (nat_lit 2)) := by
  intro vs h
  have h : some [(11, 95)] = some vs := h
  cases h
  intro q hq
  rcases List.mem_cons.mp hq with hq | hq
  · subst hq; exact ⟨_, _, _, _, _, rfl, rfl, ef_232⟩
  cases hq
theorem el_V_161 : (fun e : Nat × Nat × Nat × Nat => ∀ vs, et_vt[e.2.2.1]? = some vs → ∀ q ∈ vs, ∃ (y : MethodName) (by' : ByteArray) (nl : Nat) (rt : Option FieldType) (r : vw_C), em_inf[q.2]? = some (y, by', nl, rt) ∧ ec_cl[q.1]? = some r ∧ ec_callV (ec_on e.1) e.2.1 r.1 y by' nl rt e.2.2.2) ((nat_lit 15), (nat_lit 61), (nat_lit 123), (nat_lit 2)) := by
  intro vs h
  have h : some [(12, 148)] = some vs := h
  cases h
  intro q hq
  rcases List.mem_cons.mp hq with hq | hq
  · subst hq; exact ⟨_, _, _, _, _, rfl, rfl, ef_233⟩
  cases hq
theorem el_V_162 : (fun e : Nat × Nat × Nat × Nat => ∀ vs, et_vt[e.2.2.1]? = some vs → ∀ q ∈ vs, ∃ (y : MethodName) (by' : ByteArray) (nl : Nat) (rt : Option FieldType) (r : vw_C), em_inf[q.2]? = some (y, by', nl, rt) ∧ ec_cl[q.1]? = some r ∧ ec_callV (ec_on e.1) e.2.1 r.1 y by' nl rt e.2.2.2) ((nat_lit 15), (nat_lit 64), (nat_lit 124), (nat_lit 2)) := by
  intro vs h
  have h : some [(11, 96)] = some vs := h
  cases h
  intro q hq
  rcases List.mem_cons.mp hq with hq | hq
  · subst hq; exact ⟨_, _, _, _, _, rfl, rfl, ef_234⟩
  cases hq
theorem el_V_163 : (fun e : Nat × Nat × Nat × Nat => ∀ vs, et_vt[e.2.2.1]? = some vs → ∀ q ∈ vs, ∃ (y : MethodName) (by' : ByteArray) (nl : Nat) (rt : Option FieldType) (r : vw_C), em_inf[q.2]? = some (y, by', nl, rt) ∧ ec_cl[q.1]? = some r ∧ ec_callV (ec_on e.1) e.2.1 r.1 y by' nl rt e.2.2.2) ((nat_lit 15), (nat_lit 68), (nat_lit 125), (nat_lit 2)) := by
  intro vs h
  have h : some [(12, 149)] = some vs := h
  cases h
  intro q hq
  rcases List.mem_cons.mp hq with hq | hq
  · subst hq; exact ⟨_, _, _, _, _, rfl, rfl, ef_235⟩
  cases hq
theorem el_V_164 : (fun e : Nat × Nat × Nat × Nat => ∀ vs, et_vt[e.2.2.1]? = some vs → ∀ q ∈ vs, ∃ (y : MethodName) (by' : ByteArray) (nl : Nat) (rt : Option FieldType) (r : vw_C), em_inf[q.2]? = some (y, by', nl, rt) ∧ ec_cl[q.1]? = some r ∧ ec_callV (ec_on e.1) e.2.1 r.1 y by' nl rt e.2.2.2) ((nat_lit 15), (nat_lit 69), (nat_lit 126), (nat_lit 0)) := by
  intro vs h
  have h : some [(11, 97)] = some vs := h
  cases h
  intro q hq
  rcases List.mem_cons.mp hq with hq | hq
  · subst hq; exact ⟨_, _, _, _, _, rfl, rfl, ef_236⟩
  cases hq
theorem el_V_165 : (fun e : Nat × Nat × Nat × Nat => ∀ vs, et_vt[e.2.2.1]? = some vs → ∀ q ∈ vs, ∃ (y : MethodName) (by' : ByteArray) (nl : Nat) (rt : Option FieldType) (r : vw_C), em_inf[q.2]? = some (y, by', nl, rt) ∧ ec_cl[q.1]? = some r ∧ ec_callV (ec_on e.1) e.2.1 r.1 y by' nl rt e.2.2.2) ((nat_lit 15), (nat_lit 73), (nat_lit 127), (nat_lit 0)) := by
  intro vs h
  have h : some [(12, 150)] = some vs := h
  cases h
  intro q hq
  rcases List.mem_cons.mp hq with hq | hq
  · subst hq; exact ⟨_, _, _, _, _, rfl, rfl, ef_237⟩
  cases hq
theorem el_V_166 : (fun e : Nat × Nat × Nat × Nat => ∀ vs, et_vt[e.2.2.1]? = some vs → ∀ q ∈ vs, ∃ (y : MethodName) (by' : ByteArray) (nl : Nat) (rt : Option FieldType) (r : vw_C), em_inf[q.2]? = some (y, by', nl, rt) ∧ ec_cl[q.1]? = some r ∧ ec_callV (ec_on e.1) e.2.1 r.1 y by' nl rt e.2.2.2) ((nat_lit 15), (nat_lit 74), (nat_lit 128), (nat_lit 0)) := by
  intro vs h
  have h : some [(11, 98)] = some vs := h
  cases h
  intro q hq
  rcases List.mem_cons.mp hq with hq | hq
  · subst hq; exact ⟨_, _, _, _, _, rfl, rfl, ef_238⟩
  cases hq
theorem el_V_167 : (fun e : Nat × Nat × Nat × Nat => ∀ vs, et_vt[e.2.2.1]? = some vs → ∀ q ∈ vs, ∃ (y : MethodName) (by' : ByteArray) (nl : Nat) (rt : Option FieldType) (r : vw_C), em_inf[q.2]? = some (y, by', nl, rt) ∧ ec_cl[q.1]? = some r ∧ ec_callV (ec_on e.1) e.2.1 r.1 y by' nl rt e.2.2.2) ((nat_lit 15), (nat_lit 77), (nat_lit 129), (nat_lit 0)) := by
  intro vs h
  have h : some [(12, 157)] = some vs := h
  cases h
  intro q hq
  rcases List.mem_cons.mp hq with hq | hq
  · subst hq; exact ⟨_, _, _, _, _, rfl, rfl, ef_239⟩
  cases hq
theorem el_V_168 : (fun e : Nat × Nat × Nat × Nat => ∀ vs, et_vt[e.2.2.1]? = some vs → ∀ q ∈ vs, ∃ (y : MethodName) (by' : ByteArray) (nl : Nat) (rt : Option FieldType) (r : vw_C), em_inf[q.2]? = some (y, by', nl, rt) ∧ ec_cl[q.1]? = some r ∧ ec_callV (ec_on e.1) e.2.1 r.1 y by' nl rt e.2.2.2) ((nat_lit 15), (nat_lit 78), (nat_lit 130), (nat_lit 4)) := by
  intro vs h
  have h : some [(11, 99)] = some vs := h
  cases h
  intro q hq
  rcases List.mem_cons.mp hq with hq | hq
  · subst hq; exact ⟨_, _, _, _, _, rfl, rfl, ef_240⟩
  cases hq
theorem el_V_169 : (fun e : Nat × Nat × Nat × Nat => ∀ vs, et_vt[e.2.2.1]? = some vs → ∀ q ∈ vs, ∃ (y : MethodName) (by' : ByteArray) (nl : Nat) (rt : Option FieldType) (r : vw_C), em_inf[q.2]? = some (y, by', nl, rt) ∧ ec_cl[q.1]? = some r ∧ ec_callV (ec_on e.1) e.2.1 r.1 y by' nl rt e.2.2.2) ((nat_lit 15), (nat_lit 81), (nat_lit 131), (nat_lit 4)) := by
  intro vs h
  have h : some [(12, 172)] = some vs := h
  cases h
  intro q hq
  rcases List.mem_cons.mp hq with hq | hq
  · subst hq; exact ⟨_, _, _, _, _, rfl, rfl, ef_241⟩
  cases hq
theorem el_V_170 : (fun e : Nat × Nat × Nat × Nat => ∀ vs, et_vt[e.2.2.1]? = some vs → ∀ q ∈ vs, ∃ (y : MethodName) (by' : ByteArray) (nl : Nat) (rt : Option FieldType) (r : vw_C), em_inf[q.2]? = some (y, by', nl, rt) ∧ ec_cl[q.1]? = some r ∧ ec_callV (ec_on e.1) e.2.1 r.1 y by' nl rt e.2.2.2) ((nat_lit 15), (nat_lit 82), (nat_lit 132), (nat_lit 4)) := by
  intro vs h
  have h : some [(11, 100)] = some vs := h
  cases h
  intro q hq
  rcases List.mem_cons.mp hq with hq | hq
  · subst hq; exact ⟨_, _, _, _, _, rfl, rfl, ef_242⟩
  cases hq
theorem el_V_171 : (fun e : Nat × Nat × Nat × Nat => ∀ vs, et_vt[e.2.2.1]? = some vs → ∀ q ∈ vs, ∃ (y : MethodName) (by' : ByteArray) (nl : Nat) (rt : Option FieldType) (r : vw_C), em_inf[q.2]? = some (y, by', nl, rt) ∧ ec_cl[q.1]? = some r ∧ ec_callV (ec_on e.1) e.2.1 r.1 y by' nl rt e.2.2.2) ((nat_lit 15), (nat_lit 85), (nat_lit 133), (nat_lit 4)) := by
  intro vs h
  have h : some [(12, 173)] = some vs := h
  cases h
  intro q hq
  rcases List.mem_cons.mp hq with hq | hq
  · subst hq; exact ⟨_, _, _, _, _, rfl, rfl, ef_243⟩
  cases hq
theorem el_V_172 : (fun e : Nat × Nat × Nat × Nat => ∀ vs, et_vt[e.2.2.1]? = some vs → ∀ q ∈ vs, ∃ (y : MethodName) (by' : ByteArray) (nl : Nat) (rt : Option FieldType) (r : vw_C), em_inf[q.2]? = some (y, by', nl, rt) ∧ ec_cl[q.1]? = some r ∧ ec_callV (ec_on e.1) e.2.1 r.1 y by' nl rt e.2.2.2) ((nat_lit 15), (nat_lit 86), (nat_lit 134), (nat_lit 4)) := by
  intro vs h
  have h : some [(11, 101)] = some vs := h
  cases h
  intro q hq
  rcases List.mem_cons.mp hq with hq | hq
  · subst hq; exact ⟨_, _, _, _, _, rfl, rfl, ef_244⟩
  cases hq
theorem el_V_173 : (fun e : Nat × Nat × Nat × Nat => ∀ vs, et_vt[e.2.2.1]? = some vs → ∀ q ∈ vs, ∃ (y : MethodName) (by' : ByteArray) (nl : Nat) (rt : Option FieldType) (r : vw_C), em_inf[q.2]? = some (y, by', nl, rt) ∧ ec_cl[q.1]? = some r ∧ ec_callV (ec_on e.1) e.2.1 r.1 y by' nl rt e.2.2.2) ((nat_lit 15), (nat_lit 89), (nat_lit 135), (nat_lit 4)) := by
  intro vs h
  have h : some [(12, 174)] = some vs := h
  cases h
  intro q hq
  rcases List.mem_cons.mp hq with hq | hq
  · subst hq; exact ⟨_, _, _, _, _, rfl, rfl, ef_245⟩
  cases hq
theorem el_V_174 : (fun e : Nat × Nat × Nat × Nat => ∀ vs, et_vt[e.2.2.1]? = some vs → ∀ q ∈ vs, ∃ (y : MethodName) (by' : ByteArray) (nl : Nat) (rt : Option FieldType) (r : vw_C), em_inf[q.2]? = some (y, by', nl, rt) ∧ ec_cl[q.1]? = some r ∧ ec_callV (ec_on e.1) e.2.1 r.1 y by' nl rt e.2.2.2) ((nat_lit 15), (nat_lit 90), (nat_lit 136), (nat_lit 2)) := by
  intro vs h
  have h : some [(11, 102)] = some vs := h
  cases h
  intro q hq
  rcases List.mem_cons.mp hq with hq | hq
  · subst hq; exact ⟨_, _, _, _, _, rfl, rfl, ef_246⟩
  cases hq
theorem el_V_175 : (fun e : Nat × Nat × Nat × Nat => ∀ vs, et_vt[e.2.2.1]? = some vs → ∀ q ∈ vs, ∃ (y : MethodName) (by' : ByteArray) (nl : Nat) (rt : Option FieldType) (r : vw_C), em_inf[q.2]? = some (y, by', nl, rt) ∧ ec_cl[q.1]? = some r ∧ ec_callV (ec_on e.1) e.2.1 r.1 y by' nl rt e.2.2.2) ((nat_lit 15), (nat_lit 93), (nat_lit 137), (nat_lit 2)) := by
  intro vs h
  have h : some [(12, 175)] = some vs := h
  cases h
  intro q hq
  rcases List.mem_cons.mp hq with hq | hq
  · subst hq; exact ⟨_, _, _, _, _, rfl, rfl, ef_247⟩
  cases hq
theorem el_V_176 : (fun e : Nat × Nat × Nat × Nat => ∀ vs, et_vt[e.2.2.1]? = some vs → ∀ q ∈ vs, ∃ (y : MethodName) (by' : ByteArray) (nl : Nat) (rt : Option FieldType) (r : vw_C), em_inf[q.2]? = some (y, by', nl, rt) ∧ ec_cl[q.1]? = some r ∧ ec_callV (ec_on e.1) e.2.1 r.1 y by' nl rt e.2.2.2) ((nat_lit 15), (nat_lit 94), (nat_lit 138), (nat_lit 3)) := by
  intro vs h
  have h : some [(11, 103)] = some vs := h
  cases h
  intro q hq
  rcases List.mem_cons.mp hq with hq | hq
  · subst hq; exact ⟨_, _, _, _, _, rfl, rfl, ef_248⟩
  cases hq
theorem el_V_177 : (fun e : Nat × Nat × Nat × Nat => ∀ vs, et_vt[e.2.2.1]? = some vs → ∀ q ∈ vs, ∃ (y : MethodName) (by' : ByteArray) (nl : Nat) (rt : Option FieldType) (r : vw_C), em_inf[q.2]? = some (y, by', nl, rt) ∧ ec_cl[q.1]? = some r ∧ ec_callV (ec_on e.1) e.2.1 r.1 y by' nl rt e.2.2.2) ((nat_lit 15), (nat_lit 97), (nat_lit 139), (nat_lit 3)) := by
  intro vs h
  have h : some [(12, 176)] = some vs := h
  cases h
  intro q hq
  rcases List.mem_cons.mp hq with hq | hq
  · subst hq; exact ⟨_, _, _, _, _, rfl, rfl, ef_249⟩
  cases hq
theorem el_V_178 : (fun e : Nat × Nat × Nat × Nat => ∀ vs, et_vt[e.2.2.1]? = some vs → ∀ q ∈ vs, ∃ (y : MethodName) (by' : ByteArray) (nl : Nat) (rt : Option FieldType) (r : vw_C), em_inf[q.2]? = some (y, by', nl, rt) ∧ ec_cl[q.1]? = some r ∧ ec_callV (ec_on e.1) e.2.1 r.1 y by' nl rt e.2.2.2) ((nat_lit 15), (nat_lit 98), (nat_lit 140), (nat_lit 2)) := by
  intro vs h
  have h : some [(11, 104)] = some vs := h
  cases h
  intro q hq
  rcases List.mem_cons.mp hq with hq | hq
  · subst hq; exact ⟨_, _, _, _, _, rfl, rfl, ef_250⟩
  cases hq
theorem el_V_179 : (fun e : Nat × Nat × Nat × Nat => ∀ vs, et_vt[e.2.2.1]? = some vs → ∀ q ∈ vs, ∃ (y : MethodName) (by' : ByteArray) (nl : Nat) (rt : Option FieldType) (r : vw_C), em_inf[q.2]? = some (y, by', nl, rt) ∧ ec_cl[q.1]? = some r ∧ ec_callV (ec_on e.1) e.2.1 r.1 y by' nl rt e.2.2.2) ((nat_lit 15), (nat_lit 101), (nat_lit 141), (nat_lit 2)) := by
  intro vs h
  have h : some [(12, 177)] = some vs := h
  cases h
  intro q hq
  rcases List.mem_cons.mp hq with hq | hq
  · subst hq; exact ⟨_, _, _, _, _, rfl, rfl, ef_251⟩
  cases hq
theorem el_V_180 : (fun e : Nat × Nat × Nat × Nat => ∀ vs, et_vt[e.2.2.1]? = some vs → ∀ q ∈ vs, ∃ (y : MethodName) (by' : ByteArray) (nl : Nat) (rt : Option FieldType) (r : vw_C), em_inf[q.2]? = some (y, by', nl, rt) ∧ ec_cl[q.1]? = some r ∧ ec_callV (ec_on e.1) e.2.1 r.1 y by' nl rt e.2.2.2) ((nat_lit 15), (nat_lit 102), (nat_lit 142), (nat_lit 1)) := by
  intro vs h
  have h : some [(11, 105)] = some vs := h
  cases h
  intro q hq
  rcases List.mem_cons.mp hq with hq | hq
  · subst hq; exact ⟨_, _, _, _, _, rfl, rfl, ef_252⟩
  cases hq
theorem el_V_181 : (fun e : Nat × Nat × Nat × Nat => ∀ vs, et_vt[e.2.2.1]? = some vs → ∀ q ∈ vs, ∃ (y : MethodName) (by' : ByteArray) (nl : Nat) (rt : Option FieldType) (r : vw_C), em_inf[q.2]? = some (y, by', nl, rt) ∧ ec_cl[q.1]? = some r ∧ ec_callV (ec_on e.1) e.2.1 r.1 y by' nl rt e.2.2.2) ((nat_lit 15), (nat_lit 106), (nat_lit 143), (nat_lit 1)) := by
  intro vs h
  have h : some [(12, 179)] = some vs := h
  cases h
  intro q hq
  rcases List.mem_cons.mp hq with hq | hq
  · subst hq; exact ⟨_, _, _, _, _, rfl, rfl, ef_253⟩
  cases hq
theorem el_V_182 : (fun e : Nat × Nat × Nat × Nat => ∀ vs, et_vt[e.2.2.1]? = some vs → ∀ q ∈ vs, ∃ (y : MethodName) (by' : ByteArray) (nl : Nat) (rt : Option FieldType) (r : vw_C), em_inf[q.2]? = some (y, by', nl, rt) ∧ ec_cl[q.1]? = some r ∧ ec_callV (ec_on e.1) e.2.1 r.1 y by' nl rt e.2.2.2) ((nat_lit 15), (nat_lit 107), (nat_lit 144), (nat_lit 0)) := by
  intro vs h
  have h : some [(11, 106)] = some vs := h
  cases h
  intro q hq
  rcases List.mem_cons.mp hq with hq | hq
  · subst hq; exact ⟨_, _, _, _, _, rfl, rfl, ef_254⟩
  cases hq
theorem el_V_183 : (fun e : Nat × Nat × Nat × Nat => ∀ vs, et_vt[e.2.2.1]? = some vs → ∀ q ∈ vs, ∃ (y : MethodName) (by' : ByteArray) (nl : Nat) (rt : Option FieldType) (r : vw_C), em_inf[q.2]? = some (y, by', nl, rt) ∧ ec_cl[q.1]? = some r ∧ ec_callV (ec_on e.1) e.2.1 r.1 y by' nl rt e.2.2.2) ((nat_lit 15), (nat_lit 110), (nat_lit 145), (nat_lit 0)) := by
  intro vs h
  have h : some [(12, 180)] = some vs := h
  cases h
  intro q hq
  rcases List.mem_cons.mp hq with hq | hq
  · subst hq; exact ⟨_, _, _, _, _, rfl, rfl, ef_255⟩
  cases hq
theorem el_V_184 : (fun e : Nat × Nat × Nat × Nat => ∀ vs, et_vt[e.2.2.1]? = some vs → ∀ q ∈ vs, ∃ (y : MethodName) (by' : ByteArray) (nl : Nat) (rt : Option FieldType) (r : vw_C), em_inf[q.2]? = some (y, by', nl, rt) ∧ ec_cl[q.1]? = some r ∧ ec_callV (ec_on e.1) e.2.1 r.1 y by' nl rt e.2.2.2) ((nat_lit 15), (nat_lit 111), (nat_lit 146), (nat_lit 3)) := by
  intro vs h
  have h : some [(11, 107)] = some vs := h
  cases h
  intro q hq
  rcases List.mem_cons.mp hq with hq | hq
  · subst hq; exact ⟨_, _, _, _, _, rfl, rfl, ef_256⟩
  cases hq
theorem el_V_185 : (fun e : Nat × Nat × Nat × Nat => ∀ vs, et_vt[e.2.2.1]? = some vs → ∀ q ∈ vs, ∃ (y : MethodName) (by' : ByteArray) (nl : Nat) (rt : Option FieldType) (r : vw_C), em_inf[q.2]? = some (y, by', nl, rt) ∧ ec_cl[q.1]? = some r ∧ ec_callV (ec_on e.1) e.2.1 r.1 y by' nl rt e.2.2.2) ((nat_lit 15), (nat_lit 114), (nat_lit 147), (nat_lit 3)) := by
  intro vs h
  have h : some [(12, 186)] = some vs := h
  cases h
  intro q hq
  rcases List.mem_cons.mp hq with hq | hq
  · subst hq; exact ⟨_, _, _, _, _, rfl, rfl, ef_257⟩
  cases hq
theorem el_V_186 : (fun e : Nat × Nat × Nat × Nat => ∀ vs, et_vt[e.2.2.1]? = some vs → ∀ q ∈ vs, ∃ (y : MethodName) (by' : ByteArray) (nl : Nat) (rt : Option FieldType) (r : vw_C), em_inf[q.2]? = some (y, by', nl, rt) ∧ ec_cl[q.1]? = some r ∧ ec_callV (ec_on e.1) e.2.1 r.1 y by' nl rt e.2.2.2) ((nat_lit 15), (nat_lit 115), (nat_lit 148), (nat_lit 3)) := by
  intro vs h
  have h : some [(11, 108)] = some vs := h
  cases h
  intro q hq
  rcases List.mem_cons.mp hq with hq | hq
  · subst hq; exact ⟨_, _, _, _, _, rfl, rfl, ef_258⟩
  cases hq
theorem el_V_187 : (fun e : Nat × Nat × Nat × Nat => ∀ vs, et_vt[e.2.2.1]? = some vs → ∀ q ∈ vs, ∃ (y : MethodName) (by' : ByteArray) (nl : Nat) (rt : Option FieldType) (r : vw_C), em_inf[q.2]? = some (y, by', nl, rt) ∧ ec_cl[q.1]? = some r ∧ ec_callV (ec_on e.1) e.2.1 r.1 y by' nl rt e.2.2.2) ((nat_lit 15), (nat_lit 118), (nat_lit 149), (nat_lit 3)) := by
  intro vs h
  have h : some [(12, 188)] = some vs := h
  cases h
  intro q hq
  rcases List.mem_cons.mp hq with hq | hq
  · subst hq; exact ⟨_, _, _, _, _, rfl, rfl, ef_259⟩
  cases hq
theorem el_V_188 : (fun e : Nat × Nat × Nat × Nat => ∀ vs, et_vt[e.2.2.1]? = some vs → ∀ q ∈ vs, ∃ (y : MethodName) (by' : ByteArray) (nl : Nat) (rt : Option FieldType) (r : vw_C), em_inf[q.2]? = some (y, by', nl, rt) ∧ ec_cl[q.1]? = some r ∧ ec_callV (ec_on e.1) e.2.1 r.1 y by' nl rt e.2.2.2) ((nat_lit 15), (nat_lit 119), (nat_lit 150), (nat_lit 2)) := by
  intro vs h
  have h : some [(11, 109)] = some vs := h
  cases h
  intro q hq
  rcases List.mem_cons.mp hq with hq | hq
  · subst hq; exact ⟨_, _, _, _, _, rfl, rfl, ef_260⟩
  cases hq
theorem el_V_189 : (fun e : Nat × Nat × Nat × Nat => ∀ vs, et_vt[e.2.2.1]? = some vs → ∀ q ∈ vs, ∃ (y : MethodName) (by' : ByteArray) (nl : Nat) (rt : Option FieldType) (r : vw_C), em_inf[q.2]? = some (y, by', nl, rt) ∧ ec_cl[q.1]? = some r ∧ ec_callV (ec_on e.1) e.2.1 r.1 y by' nl rt e.2.2.2) ((nat_lit 15), (nat_lit 122), (nat_lit 151), (nat_lit 2)) := by
  intro vs h
  have h : some [(12, 189)] = some vs := h
  cases h
  intro q hq
  rcases List.mem_cons.mp hq with hq | hq
  · subst hq; exact ⟨_, _, _, _, _, rfl, rfl, ef_261⟩
  cases hq
theorem el_V_190 : (fun e : Nat × Nat × Nat × Nat => ∀ vs, et_vt[e.2.2.1]? = some vs → ∀ q ∈ vs, ∃ (y : MethodName) (by' : ByteArray) (nl : Nat) (rt : Option FieldType) (r : vw_C), em_inf[q.2]? = some (y, by', nl, rt) ∧ ec_cl[q.1]? = some r ∧ ec_callV (ec_on e.1) e.2.1 r.1 y by' nl rt e.2.2.2) ((nat_lit 15), (nat_lit 123), (nat_lit 152), (nat_lit 2)) := by
  intro vs h
  have h : some [(11, 110)] = some vs := h
  cases h
  intro q hq
  rcases List.mem_cons.mp hq with hq | hq
  · subst hq; exact ⟨_, _, _, _, _, rfl, rfl, ef_262⟩
  cases hq
theorem el_V_191 : (fun e : Nat × Nat × Nat × Nat => ∀ vs, et_vt[e.2.2.1]? = some vs → ∀ q ∈ vs, ∃ (y : MethodName) (by' : ByteArray) (nl : Nat) (rt : Option FieldType) (r : vw_C), em_inf[q.2]? = some (y, by', nl, rt) ∧ ec_cl[q.1]? = some r ∧ ec_callV (ec_on e.1) e.2.1 r.1 y by' nl rt e.2.2.2) ((nat_lit 15), (nat_lit 126), (nat_lit 153), (nat_lit 2)) := by
  intro vs h
  have h : some [(12, 192)] = some vs := h
  cases h
  intro q hq
  rcases List.mem_cons.mp hq with hq | hq
  · subst hq; exact ⟨_, _, _, _, _, rfl, rfl, ef_263⟩
  cases hq
theorem el_V_192 : (fun e : Nat × Nat × Nat × Nat => ∀ vs, et_vt[e.2.2.1]? = some vs → ∀ q ∈ vs, ∃ (y : MethodName) (by' : ByteArray) (nl : Nat) (rt : Option FieldType) (r : vw_C), em_inf[q.2]? = some (y, by', nl, rt) ∧ ec_cl[q.1]? = some r ∧ ec_callV (ec_on e.1) e.2.1 r.1 y by' nl rt e.2.2.2) ((nat_lit 15), (nat_lit 127), (nat_lit 154), (nat_lit 1)) := by
  intro vs h
  have h : some [(11, 111)] = some vs := h
  cases h
  intro q hq
  rcases List.mem_cons.mp hq with hq | hq
  · subst hq; exact ⟨_, _, _, _, _, rfl, rfl, ef_264⟩
  cases hq
theorem el_V_193 : (fun e : Nat × Nat × Nat × Nat => ∀ vs, et_vt[e.2.2.1]? = some vs → ∀ q ∈ vs, ∃ (y : MethodName) (by' : ByteArray) (nl : Nat) (rt : Option FieldType) (r : vw_C), em_inf[q.2]? = some (y, by', nl, rt) ∧ ec_cl[q.1]? = some r ∧ ec_callV (ec_on e.1) e.2.1 r.1 y by' nl rt e.2.2.2) ((nat_lit 15), (nat_lit 130), (nat_lit 155), (nat_lit 1)) := by
  intro vs h
  have h : some [(12, 193)] = some vs := h
  cases h
  intro q hq
  rcases List.mem_cons.mp hq with hq | hq
  · subst hq; exact ⟨_, _, _, _, _, rfl, rfl, ef_265⟩
  cases hq
theorem el_V_194 : (fun e : Nat × Nat × Nat × Nat => ∀ vs, et_vt[e.2.2.1]? = some vs → ∀ q ∈ vs, ∃ (y : MethodName) (by' : ByteArray) (nl : Nat) (rt : Option FieldType) (r : vw_C), em_inf[q.2]? = some (y, by', nl, rt) ∧ ec_cl[q.1]? = some r ∧ ec_callV (ec_on e.1) e.2.1 r.1 y by' nl rt e.2.2.2) ((nat_lit 15), (nat_lit 131), (nat_lit 156), (nat_lit 3)) := by
  intro vs h
  have h : some [(11, 112)] = some vs := h
  cases h
  intro q hq
  rcases List.mem_cons.mp hq with hq | hq
  · subst hq; exact ⟨_, _, _, _, _, rfl, rfl, ef_266⟩
  cases hq
theorem el_V_195 : (fun e : Nat × Nat × Nat × Nat => ∀ vs, et_vt[e.2.2.1]? = some vs → ∀ q ∈ vs, ∃ (y : MethodName) (by' : ByteArray) (nl : Nat) (rt : Option FieldType) (r : vw_C), em_inf[q.2]? = some (y, by', nl, rt) ∧ ec_cl[q.1]? = some r ∧ ec_callV (ec_on e.1) e.2.1 r.1 y by' nl rt e.2.2.2) ((nat_lit 15), (nat_lit 134), (nat_lit 157), (nat_lit 3)) := by
  intro vs h
  have h : some [(12, 195)] = some vs := h
  cases h
  intro q hq
  rcases List.mem_cons.mp hq with hq | hq
  · subst hq; exact ⟨_, _, _, _, _, rfl, rfl, ef_267⟩
  cases hq
theorem el_V_196 : (fun e : Nat × Nat × Nat × Nat => ∀ vs, et_vt[e.2.2.1]? = some vs → ∀ q ∈ vs, ∃ (y : MethodName) (by' : ByteArray) (nl : Nat) (rt : Option FieldType) (r : vw_C), em_inf[q.2]? = some (y, by', nl, rt) ∧ ec_cl[q.1]? = some r ∧ ec_callV (ec_on e.1) e.2.1 r.1 y by' nl rt e.2.2.2) ((nat_lit 15), (nat_lit 135), (nat_lit 158), (nat_lit 2)) := by
  intro vs h
  have h : some [(11, 113)] = some vs := h
  cases h
  intro q hq
  rcases List.mem_cons.mp hq with hq | hq
  · subst hq; exact ⟨_, _, _, _, _, rfl, rfl, ef_268⟩
  cases hq
theorem el_V_197 : (fun e : Nat × Nat × Nat × Nat => ∀ vs, et_vt[e.2.2.1]? = some vs → ∀ q ∈ vs, ∃ (y : MethodName) (by' : ByteArray) (nl : Nat) (rt : Option FieldType) (r : vw_C), em_inf[q.2]? = some (y, by', nl, rt) ∧ ec_cl[q.1]? = some r ∧ ec_callV (ec_on e.1) e.2.1 r.1 y by' nl rt e.2.2.2) ((nat_lit 15), (nat_lit 138), (nat_lit 159), (nat_lit 2)) := by
  intro vs h
  have h : some [(12, 196)] = some vs := h
  cases h
  intro q hq
  rcases List.mem_cons.mp hq with hq | hq
  · subst hq; exact ⟨_, _, _, _, _, rfl, rfl, ef_269⟩
  cases hq
theorem el_V_198 : (fun e : Nat × Nat × Nat × Nat => ∀ vs, et_vt[e.2.2.1]? = some vs → ∀ q ∈ vs, ∃ (y : MethodName) (by' : ByteArray) (nl : Nat) (rt : Option FieldType) (r : vw_C), em_inf[q.2]? = some (y, by', nl, rt) ∧ ec_cl[q.1]? = some r ∧ ec_callV (ec_on e.1) e.2.1 r.1 y by' nl rt e.2.2.2) ((nat_lit 15), (nat_lit 139), (nat_lit 160), (nat_lit 1)) := by
  intro vs h
  have h : some [(11, 114)] = some vs := h
  cases h
  intro q hq
  rcases List.mem_cons.mp hq with hq | hq
  · subst hq; exact ⟨_, _, _, _, _, rfl, rfl, ef_270⟩
  cases hq
theorem el_V_199 : (fun e : Nat × Nat × Nat × Nat => ∀ vs, et_vt[e.2.2.1]? = some vs → ∀ q ∈ vs, ∃ (y : MethodName) (by' : ByteArray) (nl : Nat) (rt : Option FieldType) (r : vw_C), em_inf[q.2]? = some (y, by', nl, rt) ∧ ec_cl[q.1]? = some r ∧ ec_callV (ec_on e.1) e.2.1 r.1 y by' nl rt e.2.2.2) ((nat_lit 15), (nat_lit 143), (nat_lit 161), (nat_lit 1)) := by
  intro vs h
  have h : some [(12, 197)] = some vs := h
  cases h
  intro q hq
  rcases List.mem_cons.mp hq with hq | hq
  · subst hq; exact ⟨_, _, _, _, _, rfl, rfl, ef_271⟩
  cases hq
theorem el_V_200 : (fun e : Nat × Nat × Nat × Nat => ∀ vs, et_vt[e.2.2.1]? = some vs → ∀ q ∈ vs, ∃ (y : MethodName) (by' : ByteArray) (nl : Nat) (rt : Option FieldType) (r : vw_C), em_inf[q.2]? = some (y, by', nl, rt) ∧ ec_cl[q.1]? = some r ∧ ec_callV (ec_on e.1) e.2.1 r.1 y by' nl rt e.2.2.2) ((nat_lit 15), (nat_lit 144), (nat_lit 162), (nat_lit 1)) := by
  intro vs h
  have h : some [(11, 115)] = some vs := h
  cases h
  intro q hq
  rcases List.mem_cons.mp hq with hq | hq
  · subst hq; exact ⟨_, _, _, _, _, rfl, rfl, ef_272⟩
  cases hq
theorem el_V_201 : (fun e : Nat × Nat × Nat × Nat => ∀ vs, et_vt[e.2.2.1]? = some vs → ∀ q ∈ vs, ∃ (y : MethodName) (by' : ByteArray) (nl : Nat) (rt : Option FieldType) (r : vw_C), em_inf[q.2]? = some (y, by', nl, rt) ∧ ec_cl[q.1]? = some r ∧ ec_callV (ec_on e.1) e.2.1 r.1 y by' nl rt e.2.2.2) ((nat_lit 15), (nat_lit 147), (nat_lit 163), (nat_lit 1)) := by
  intro vs h
  have h : some [(12, 198)] = some vs := h
  cases h
  intro q hq
  rcases List.mem_cons.mp hq with hq | hq
  · subst hq; exact ⟨_, _, _, _, _, rfl, rfl, ef_273⟩
  cases hq
theorem el_V_202 : (fun e : Nat × Nat × Nat × Nat => ∀ vs, et_vt[e.2.2.1]? = some vs → ∀ q ∈ vs, ∃ (y : MethodName) (by' : ByteArray) (nl : Nat) (rt : Option FieldType) (r : vw_C), em_inf[q.2]? = some (y, by', nl, rt) ∧ ec_cl[q.1]? = some r ∧ ec_callV (ec_on e.1) e.2.1 r.1 y by' nl rt e.2.2.2) ((nat_lit 15), (nat_lit 148), (nat_lit 164), (nat_lit 1)) := by
  intro vs h
  have h : some [(11, 116)] = some vs := h
  cases h
  intro q hq
  rcases List.mem_cons.mp hq with hq | hq
  · subst hq; exact ⟨_, _, _, _, _, rfl, rfl, ef_274⟩
  cases hq
theorem el_V_203 : (fun e : Nat × Nat × Nat × Nat => ∀ vs, et_vt[e.2.2.1]? = some vs → ∀ q ∈ vs, ∃ (y : MethodName) (by' : ByteArray) (nl : Nat) (rt : Option FieldType) (r : vw_C), em_inf[q.2]? = some (y, by', nl, rt) ∧ ec_cl[q.1]? = some r ∧ ec_callV (ec_on e.1) e.2.1 r.1 y by' nl rt e.2.2.2) ((nat_lit 15), (nat_lit 151), (nat_lit 165), (nat_lit 1)) := by
  intro vs h
  have h : some [(12, 199)] = some vs := h
  cases h
  intro q hq
  rcases List.mem_cons.mp hq with hq | hq
  · subst hq; exact ⟨_, _, _, _, _, rfl, rfl, ef_275⟩
  cases hq
theorem el_V_204 : (fun e : Nat × Nat × Nat × Nat => ∀ vs, et_vt[e.2.2.1]? = some vs → ∀ q ∈ vs, ∃ (y : MethodName) (by' : ByteArray) (nl : Nat) (rt : Option FieldType) (r : vw_C), em_inf[q.2]? = some (y, by', nl, rt) ∧ ec_cl[q.1]? = some r ∧ ec_callV (ec_on e.1) e.2.1 r.1 y by' nl rt e.2.2.2) ((nat_lit 15), (nat_lit 152), (nat_lit 65), (nat_lit 1)) := by
  intro vs h
  have h : some [(11, 117)] = some vs := h
  cases h
  intro q hq
  rcases List.mem_cons.mp hq with hq | hq
  · subst hq; exact ⟨_, _, _, _, _, rfl, rfl, ef_276⟩
  cases hq
theorem el_V_205 : (fun e : Nat × Nat × Nat × Nat => ∀ vs, et_vt[e.2.2.1]? = some vs → ∀ q ∈ vs, ∃ (y : MethodName) (by' : ByteArray) (nl : Nat) (rt : Option FieldType) (r : vw_C), em_inf[q.2]? = some (y, by', nl, rt) ∧ ec_cl[q.1]? = some r ∧ ec_callV (ec_on e.1) e.2.1 r.1 y by' nl rt e.2.2.2) ((nat_lit 15), (nat_lit 155), (nat_lit 166), (nat_lit 1)) := by
  intro vs h
  have h : some [(12, 201)] = some vs := h
  cases h
  intro q hq
  rcases List.mem_cons.mp hq with hq | hq
  · subst hq; exact ⟨_, _, _, _, _, rfl, rfl, ef_277⟩
  cases hq
theorem el_V_206 : (fun e : Nat × Nat × Nat × Nat => ∀ vs, et_vt[e.2.2.1]? = some vs → ∀ q ∈ vs, ∃ (y : MethodName) (by' : ByteArray) (nl : Nat) (rt : Option FieldType) (r : vw_C), em_inf[q.2]? = some (y, by', nl, rt) ∧ ec_cl[q.1]? = some r ∧ ec_callV (ec_on e.1) e.2.1 r.1 y by' nl rt e.2.2.2) ((nat_lit 15), (nat_lit 156), (nat_lit 167), (nat_lit 0)) := by
  intro vs h
  have h : some [(11, 118)] = some vs := h
  cases h
  intro q hq
  rcases List.mem_cons.mp hq with hq | hq
  · subst hq; exact ⟨_, _, _, _, _, rfl, rfl, ef_278⟩
  cases hq
theorem el_V_207 : (fun e : Nat × Nat × Nat × Nat => ∀ vs, et_vt[e.2.2.1]? = some vs → ∀ q ∈ vs, ∃ (y : MethodName) (by' : ByteArray) (nl : Nat) (rt : Option FieldType) (r : vw_C), em_inf[q.2]? = some (y, by', nl, rt) ∧ ec_cl[q.1]? = some r ∧ ec_callV (ec_on e.1) e.2.1 r.1 y by' nl rt e.2.2.2) ((nat_lit 15), (nat_lit 160), (nat_lit 168), (nat_lit 0)) := by
  intro vs h
  have h : some [(12, 203)] = some vs := h
  cases h
  intro q hq
  rcases List.mem_cons.mp hq with hq | hq
  · subst hq; exact ⟨_, _, _, _, _, rfl, rfl, ef_279⟩
  cases hq
set_option maxRecDepth 100000 in
theorem el_V_ok : ∀ e ∈ el_V, (fun e : Nat × Nat × Nat × Nat => ∀ vs, et_vt[e.2.2.1]? = some vs → ∀ q ∈ vs, ∃ (y : MethodName) (by' : ByteArray) (nl : Nat) (rt : Option FieldType) (r : vw_C), em_inf[q.2]? = some (y, by', nl, rt) ∧ ec_cl[q.1]? = some r ∧ ec_callV (ec_on e.1) e.2.1 r.1 y by' nl rt e.2.2.2) e := List.forall_mem_cons.mpr ⟨el_V_0, List.forall_mem_cons.mpr ⟨el_V_1, List.forall_mem_cons.mpr ⟨el_V_2, List.forall_mem_cons.mpr ⟨el_V_3, List.forall_mem_cons.mpr ⟨el_V_4, List.forall_mem_cons.mpr ⟨el_V_5, List.forall_mem_cons.mpr ⟨el_V_6, List.forall_mem_cons.mpr ⟨el_V_7, List.forall_mem_cons.mpr ⟨el_V_8, List.forall_mem_cons.mpr ⟨el_V_9, List.forall_mem_cons.mpr ⟨el_V_10, List.forall_mem_cons.mpr ⟨el_V_11, List.forall_mem_cons.mpr ⟨el_V_12, List.forall_mem_cons.mpr ⟨el_V_13, List.forall_mem_cons.mpr ⟨el_V_14, List.forall_mem_cons.mpr ⟨el_V_15, List.forall_mem_cons.mpr ⟨el_V_16, List.forall_mem_cons.mpr ⟨el_V_17, List.forall_mem_cons.mpr ⟨el_V_18, List.forall_mem_cons.mpr ⟨el_V_19, List.forall_mem_cons.mpr ⟨el_V_20, List.forall_mem_cons.mpr ⟨el_V_21, List.forall_mem_cons.mpr ⟨el_V_22, List.forall_mem_cons.mpr ⟨el_V_23, List.forall_mem_cons.mpr ⟨el_V_24, List.forall_mem_cons.mpr ⟨el_V_25, List.forall_mem_cons.mpr ⟨el_V_26, List.forall_mem_cons.mpr ⟨el_V_27, List.forall_mem_cons.mpr ⟨el_V_28, List.forall_mem_cons.mpr ⟨el_V_29, List.forall_mem_cons.mpr ⟨el_V_30, List.forall_mem_cons.mpr ⟨el_V_31, List.forall_mem_cons.mpr ⟨el_V_32, List.forall_mem_cons.mpr ⟨el_V_33, List.forall_mem_cons.mpr ⟨el_V_34, List.forall_mem_cons.mpr ⟨el_V_35, List.forall_mem_cons.mpr ⟨el_V_36, List.forall_mem_cons.mpr ⟨el_V_37, List.forall_mem_cons.mpr ⟨el_V_38, List.forall_mem_cons.mpr ⟨el_V_39, List.forall_mem_cons.mpr ⟨el_V_40, List.forall_mem_cons.mpr ⟨el_V_41, List.forall_mem_cons.mpr ⟨el_V_42, List.forall_mem_cons.mpr ⟨el_V_43, List.forall_mem_cons.mpr ⟨el_V_44, List.forall_mem_cons.mpr ⟨el_V_45, List.forall_mem_cons.mpr ⟨el_V_46, List.forall_mem_cons.mpr ⟨el_V_47, List.forall_mem_cons.mpr ⟨el_V_48, List.forall_mem_cons.mpr ⟨el_V_49, List.forall_mem_cons.mpr ⟨el_V_50, List.forall_mem_cons.mpr ⟨el_V_51, List.forall_mem_cons.mpr ⟨el_V_52, List.forall_mem_cons.mpr ⟨el_V_53, List.forall_mem_cons.mpr ⟨el_V_54, List.forall_mem_cons.mpr ⟨el_V_55, List.forall_mem_cons.mpr ⟨el_V_56, List.forall_mem_cons.mpr ⟨el_V_57, List.forall_mem_cons.mpr ⟨el_V_58, List.forall_mem_cons.mpr ⟨el_V_59, List.forall_mem_cons.mpr ⟨el_V_60, List.forall_mem_cons.mpr ⟨el_V_61, List.forall_mem_cons.mpr ⟨el_V_62, List.forall_mem_cons.mpr ⟨el_V_63, List.forall_mem_cons.mpr ⟨el_V_64, List.forall_mem_cons.mpr ⟨el_V_65, List.forall_mem_cons.mpr ⟨el_V_66, List.forall_mem_cons.mpr ⟨el_V_67, List.forall_mem_cons.mpr ⟨el_V_68, List.forall_mem_cons.mpr ⟨el_V_69, List.forall_mem_cons.mpr ⟨el_V_70, List.forall_mem_cons.mpr ⟨el_V_71, List.forall_mem_cons.mpr ⟨el_V_72, List.forall_mem_cons.mpr ⟨el_V_73, List.forall_mem_cons.mpr ⟨el_V_74, List.forall_mem_cons.mpr ⟨el_V_75, List.forall_mem_cons.mpr ⟨el_V_76, List.forall_mem_cons.mpr ⟨el_V_77, List.forall_mem_cons.mpr ⟨el_V_78, List.forall_mem_cons.mpr ⟨el_V_79, List.forall_mem_cons.mpr ⟨el_V_80, List.forall_mem_cons.mpr ⟨el_V_81, List.forall_mem_cons.mpr ⟨el_V_82, List.forall_mem_cons.mpr ⟨el_V_83, List.forall_mem_cons.mpr ⟨el_V_84, List.forall_mem_cons.mpr ⟨el_V_85, List.forall_mem_cons.mpr ⟨el_V_86, List.forall_mem_cons.mpr ⟨el_V_87, List.forall_mem_cons.mpr ⟨el_V_88, List.forall_mem_cons.mpr ⟨el_V_89, List.forall_mem_cons.mpr ⟨el_V_90, List.forall_mem_cons.mpr ⟨el_V_91, List.forall_mem_cons.mpr ⟨el_V_92, List.forall_mem_cons.mpr ⟨el_V_93, List.forall_mem_cons.mpr ⟨el_V_94, List.forall_mem_cons.mpr ⟨el_V_95, List.forall_mem_cons.mpr ⟨el_V_96, List.forall_mem_cons.mpr ⟨el_V_97, List.forall_mem_cons.mpr ⟨el_V_98, List.forall_mem_cons.mpr ⟨el_V_99, List.forall_mem_cons.mpr ⟨el_V_100, List.forall_mem_cons.mpr ⟨el_V_101, List.forall_mem_cons.mpr ⟨el_V_102, List.forall_mem_cons.mpr ⟨el_V_103, List.forall_mem_cons.mpr ⟨el_V_104, List.forall_mem_cons.mpr ⟨el_V_105, List.forall_mem_cons.mpr ⟨el_V_106, List.forall_mem_cons.mpr ⟨el_V_107, List.forall_mem_cons.mpr ⟨el_V_108, List.forall_mem_cons.mpr ⟨el_V_109, List.forall_mem_cons.mpr ⟨el_V_110, List.forall_mem_cons.mpr ⟨el_V_111, List.forall_mem_cons.mpr ⟨el_V_112, List.forall_mem_cons.mpr ⟨el_V_113, List.forall_mem_cons.mpr ⟨el_V_114, List.forall_mem_cons.mpr ⟨el_V_115, List.forall_mem_cons.mpr ⟨el_V_116, List.forall_mem_cons.mpr ⟨el_V_117, List.forall_mem_cons.mpr ⟨el_V_118, List.forall_mem_cons.mpr ⟨el_V_119, List.forall_mem_cons.mpr ⟨el_V_120, List.forall_mem_cons.mpr ⟨el_V_121, List.forall_mem_cons.mpr ⟨el_V_122, List.forall_mem_cons.mpr ⟨el_V_123, List.forall_mem_cons.mpr ⟨el_V_124, List.forall_mem_cons.mpr ⟨el_V_125, List.forall_mem_cons.mpr ⟨el_V_126, List.forall_mem_cons.mpr ⟨el_V_127, List.forall_mem_cons.mpr ⟨el_V_128, List.forall_mem_cons.mpr ⟨el_V_129, List.forall_mem_cons.mpr ⟨el_V_130, List.forall_mem_cons.mpr ⟨el_V_131, List.forall_mem_cons.mpr ⟨el_V_132, List.forall_mem_cons.mpr ⟨el_V_133, List.forall_mem_cons.mpr ⟨el_V_134, List.forall_mem_cons.mpr ⟨el_V_135, List.forall_mem_cons.mpr ⟨el_V_136, List.forall_mem_cons.mpr ⟨el_V_137, List.forall_mem_cons.mpr ⟨el_V_138, List.forall_mem_cons.mpr ⟨el_V_139, List.forall_mem_cons.mpr ⟨el_V_140, List.forall_mem_cons.mpr ⟨el_V_141, List.forall_mem_cons.mpr ⟨el_V_142, List.forall_mem_cons.mpr ⟨el_V_143, List.forall_mem_cons.mpr ⟨el_V_144, List.forall_mem_cons.mpr ⟨el_V_145, List.forall_mem_cons.mpr ⟨el_V_146, List.forall_mem_cons.mpr ⟨el_V_147, List.forall_mem_cons.mpr ⟨el_V_148, List.forall_mem_cons.mpr ⟨el_V_149, List.forall_mem_cons.mpr ⟨el_V_150, List.forall_mem_cons.mpr ⟨el_V_151, List.forall_mem_cons.mpr ⟨el_V_152, List.forall_mem_cons.mpr ⟨el_V_153, List.forall_mem_cons.mpr ⟨el_V_154, List.forall_mem_cons.mpr ⟨el_V_155, List.forall_mem_cons.mpr ⟨el_V_156, List.forall_mem_cons.mpr ⟨el_V_157, List.forall_mem_cons.mpr ⟨el_V_158, List.forall_mem_cons.mpr ⟨el_V_159, List.forall_mem_cons.mpr ⟨el_V_160, List.forall_mem_cons.mpr ⟨el_V_161, List.forall_mem_cons.mpr ⟨el_V_162, List.forall_mem_cons.mpr ⟨el_V_163, List.forall_mem_cons.mpr ⟨el_V_164, List.forall_mem_cons.mpr ⟨el_V_165, List.forall_mem_cons.mpr ⟨el_V_166, List.forall_mem_cons.mpr ⟨el_V_167, List.forall_mem_cons.mpr ⟨el_V_168, List.forall_mem_cons.mpr ⟨el_V_169, List.forall_mem_cons.mpr ⟨el_V_170, List.forall_mem_cons.mpr ⟨el_V_171, List.forall_mem_cons.mpr ⟨el_V_172, List.forall_mem_cons.mpr ⟨el_V_173, List.forall_mem_cons.mpr ⟨el_V_174, List.forall_mem_cons.mpr ⟨el_V_175, List.forall_mem_cons.mpr ⟨el_V_176, List.forall_mem_cons.mpr ⟨el_V_177, List.forall_mem_cons.mpr ⟨el_V_178, List.forall_mem_cons.mpr ⟨el_V_179, List.forall_mem_cons.mpr ⟨el_V_180, List.forall_mem_cons.mpr ⟨el_V_181, List.forall_mem_cons.mpr ⟨el_V_182, List.forall_mem_cons.mpr ⟨el_V_183, List.forall_mem_cons.mpr ⟨el_V_184, List.forall_mem_cons.mpr ⟨el_V_185, List.forall_mem_cons.mpr ⟨el_V_186, List.forall_mem_cons.mpr ⟨el_V_187, List.forall_mem_cons.mpr ⟨el_V_188, List.forall_mem_cons.mpr ⟨el_V_189, List.forall_mem_cons.mpr ⟨el_V_190, List.forall_mem_cons.mpr ⟨el_V_191, List.forall_mem_cons.mpr ⟨el_V_192, List.forall_mem_cons.mpr ⟨el_V_193, List.forall_mem_cons.mpr ⟨el_V_194, List.forall_mem_cons.mpr ⟨el_V_195, List.forall_mem_cons.mpr ⟨el_V_196, List.forall_mem_cons.mpr ⟨el_V_197, List.forall_mem_cons.mpr ⟨el_V_198, List.forall_mem_cons.mpr ⟨el_V_199, List.forall_mem_cons.mpr ⟨el_V_200, List.forall_mem_cons.mpr ⟨el_V_201, List.forall_mem_cons.mpr ⟨el_V_202, List.forall_mem_cons.mpr ⟨el_V_203, List.forall_mem_cons.mpr ⟨el_V_204, List.forall_mem_cons.mpr ⟨el_V_205, List.forall_mem_cons.mpr ⟨el_V_206, List.forall_mem_cons.mpr ⟨el_V_207, fun _ h => absurd h List.not_mem_nil⟩⟩⟩⟩⟩⟩⟩⟩⟩⟩⟩⟩⟩⟩⟩⟩⟩⟩⟩⟩⟩⟩⟩⟩⟩⟩⟩⟩⟩⟩⟩⟩⟩⟩⟩⟩⟩⟩⟩⟩⟩⟩⟩⟩⟩⟩⟩⟩⟩⟩⟩⟩⟩⟩⟩⟩⟩⟩⟩⟩⟩⟩⟩⟩⟩⟩⟩⟩⟩⟩⟩⟩⟩⟩⟩⟩⟩⟩⟩⟩⟩⟩⟩⟩⟩⟩⟩⟩⟩⟩⟩⟩⟩⟩⟩⟩⟩⟩⟩⟩⟩⟩⟩⟩⟩⟩⟩⟩⟩⟩⟩⟩⟩⟩⟩⟩⟩⟩⟩⟩⟩⟩⟩⟩⟩⟩⟩⟩⟩⟩⟩⟩⟩⟩⟩⟩⟩⟩⟩⟩⟩⟩⟩⟩⟩⟩⟩⟩⟩⟩⟩⟩⟩⟩⟩⟩⟩⟩⟩⟩⟩⟩⟩⟩⟩⟩⟩⟩⟩⟩⟩⟩⟩⟩⟩⟩⟩⟩⟩⟩⟩⟩⟩⟩⟩⟩⟩⟩⟩⟩⟩⟩⟩⟩⟩⟩⟩⟩⟩⟩⟩⟩⟩⟩⟩⟩⟩⟩
def el_o : List (Nat × Nat) := [((nat_lit 0), (nat_lit 3)), ((nat_lit 2), (nat_lit 1)), ((nat_lit 5), (nat_lit 3)), ((nat_lit 7), (nat_lit 3)), ((nat_lit 8), (nat_lit 3)), ((nat_lit 9), (nat_lit 3)), ((nat_lit 11), (nat_lit 3)), ((nat_lit 12), (nat_lit 1))]
theorem el_o_0 : (fun e : Nat × Nat => Jvm.Cond.methodLink (ec_on e.1) e.2 Lib.objectInit ∈ eg_T) ((nat_lit 0), (nat_lit 3)) := ew_874
theorem el_o_1 : (fun e : Nat × Nat => Jvm.Cond.methodLink (ec_on e.1) e.2 Lib.objectInit ∈ eg_T) ((nat_lit 2), (nat_lit 1)) := ew_903
theorem el_o_2 : (fun e : Nat × Nat => Jvm.Cond.methodLink (ec_on e.1) e.2 Lib.objectInit ∈ eg_T) ((nat_lit 5), (nat_lit 3)) := ew_906
theorem el_o_3 : (fun e : Nat × Nat => Jvm.Cond.methodLink (ec_on e.1) e.2 Lib.objectInit ∈ eg_T) ((nat_lit 7), (nat_lit 3)) := ew_938
theorem el_o_4 : (fun e : Nat × Nat => Jvm.Cond.methodLink (ec_on e.1) e.2 Lib.objectInit ∈ eg_T) ((nat_lit 8), (nat_lit 3)) := ew_953
theorem el_o_5 : (fun e : Nat × Nat => Jvm.Cond.methodLink (ec_on e.1) e.2 Lib.objectInit ∈ eg_T) ((nat_lit 9), (nat_lit 3)) := ew_973
theorem el_o_6 : (fun e : Nat × Nat => Jvm.Cond.methodLink (ec_on e.1) e.2 Lib.objectInit ∈ eg_T) ((nat_lit 11), (nat_lit 3)) := ew_985
theorem el_o_7 : (fun e : Nat × Nat => Jvm.Cond.methodLink (ec_on e.1) e.2 Lib.objectInit ∈ eg_T) ((nat_lit 12), (nat_lit 1)) := ew_1037
set_option maxRecDepth 100000 in
theorem el_o_ok : ∀ e ∈ el_o, (fun e : Nat × Nat => Jvm.Cond.methodLink (ec_on e.1) e.2 Lib.objectInit ∈ eg_T) e := List.forall_mem_cons.mpr ⟨el_o_0, List.forall_mem_cons.mpr ⟨el_o_1, List.forall_mem_cons.mpr ⟨el_o_2, List.forall_mem_cons.mpr ⟨el_o_3, List.forall_mem_cons.mpr ⟨el_o_4, List.forall_mem_cons.mpr ⟨el_o_5, List.forall_mem_cons.mpr ⟨el_o_6, List.forall_mem_cons.mpr ⟨el_o_7, fun _ h => absurd h List.not_mem_nil⟩⟩⟩⟩⟩⟩⟩⟩
def el_I : List (Nat × Nat × Nat × Nat) := [((nat_lit 1), (nat_lit 1), (nat_lit 30), (nat_lit 0)), ((nat_lit 1), (nat_lit 13), (nat_lit 31), (nat_lit 4)), ((nat_lit 3), (nat_lit 3), (nat_lit 30), (nat_lit 0)), ((nat_lit 3), (nat_lit 28), (nat_lit 33), (nat_lit 2)), ((nat_lit 4), (nat_lit 1), (nat_lit 28), (nat_lit 0)), ((nat_lit 4), (nat_lit 13), (nat_lit 29), (nat_lit 4)), ((nat_lit 6), (nat_lit 1), (nat_lit 30), (nat_lit 0)), ((nat_lit 6), (nat_lit 13), (nat_lit 31), (nat_lit 4)), ((nat_lit 10), (nat_lit 1), (nat_lit 30), (nat_lit 0)), ((nat_lit 11), (nat_lit 11), (nat_lit 0), (nat_lit 0)), ((nat_lit 11), (nat_lit 29), (nat_lit 70), (nat_lit 0)), ((nat_lit 11), (nat_lit 42), (nat_lit 40), (nat_lit 1)), ((nat_lit 11), (nat_lit 51), (nat_lit 54), (nat_lit 2)), ((nat_lit 11), (nat_lit 60), (nat_lit 59), (nat_lit 2)), ((nat_lit 11), (nat_lit 72), (nat_lit 30), (nat_lit 0)), ((nat_lit 11), (nat_lit 75), (nat_lit 28), (nat_lit 0)), ((nat_lit 11), (nat_lit 78), (nat_lit 38), (nat_lit 0)), ((nat_lit 11), (nat_lit 81), (nat_lit 34), (nat_lit 0)), ((nat_lit 11), (nat_lit 84), (nat_lit 82), (nat_lit 0)), ((nat_lit 11), (nat_lit 87), (nat_lit 52), (nat_lit 0)), ((nat_lit 15), (nat_lit 9), (nat_lit 84), (nat_lit 0)), ((nat_lit 15), (nat_lit 12), (nat_lit 127), (nat_lit 0))]
theorem el_I_0 : (fun e : Nat × Nat × Nat × Nat => ∃ (y : MethodName) (by' : ByteArray) (nl : Nat) (rt : Option FieldType), em_inf[e.2.2.1]? = some (y, by', nl, rt) ∧ ec_callI (ec_on e.1) e.2.1 y by' nl rt e.2.2.2) ((nat_lit 1), (nat_lit 1), (nat_lit 30), (nat_lit 0)) := ⟨_, _, _, _, rfl, ef_9⟩
theorem el_I_1 : (fun e : Nat × Nat × Nat × Nat => ∃ (y : MethodName) (by' : ByteArray) (nl : Nat) (rt : Option FieldType), em_inf[e.2.2.1]? = some (y, by', nl, rt) ∧ ec_callI (ec_on e.1) e.2.1 y by' nl rt e.2.2.2) ((nat_lit 1), (nat_lit 13), (nat_lit 31), (nat_lit 4)) := ⟨_, _, _, _, rfl, ef_11⟩
theorem el_I_2 : (fun e : Nat × Nat × Nat × Nat => ∃ (y : MethodName) (by' : ByteArray) (nl : Nat) (rt : Option FieldType), em_inf[e.2.2.1]? = some (y, by', nl, rt) ∧ ec_callI (ec_on e.1) e.2.1 y by' nl rt e.2.2.2) ((nat_lit 3), (nat_lit 3), (nat_lit 30), (nat_lit 0)) := ⟨_, _, _, _, rfl, ef_15⟩
theorem el_I_3 : (fun e : Nat × Nat × Nat × Nat => ∃ (y : MethodName) (by' : ByteArray) (nl : Nat) (rt : Option FieldType), em_inf[e.2.2.1]? = some (y, by', nl, rt) ∧ ec_callI (ec_on e.1) e.2.1 y by' nl rt e.2.2.2) ((nat_lit 3), (nat_lit 28), (nat_lit 33), (nat_lit 2)) := ⟨_, _, _, _, rfl, ef_19⟩
theorem el_I_4 : (fun e : Nat × Nat × Nat × Nat => ∃ (y : MethodName) (by' : ByteArray) (nl : Nat) (rt : Option FieldType), em_inf[e.2.2.1]? = some (y, by', nl, rt) ∧ ec_callI (ec_on e.1) e.2.1 y by' nl rt e.2.2.2) ((nat_lit 4), (nat_lit 1), (nat_lit 28), (nat_lit 0)) := ⟨_, _, _, _, rfl, ef_22⟩
theorem el_I_5 : (fun e : Nat × Nat × Nat × Nat => ∃ (y : MethodName) (by' : ByteArray) (nl : Nat) (rt : Option FieldType), em_inf[e.2.2.1]? = some (y, by', nl, rt) ∧ ec_callI (ec_on e.1) e.2.1 y by' nl rt e.2.2.2) ((nat_lit 4), (nat_lit 13), (nat_lit 29), (nat_lit 4)) := ⟨_, _, _, _, rfl, ef_24⟩
theorem el_I_6 : (fun e : Nat × Nat × Nat × Nat => ∃ (y : MethodName) (by' : ByteArray) (nl : Nat) (rt : Option FieldType), em_inf[e.2.2.1]? = some (y, by', nl, rt) ∧ ec_callI (ec_on e.1) e.2.1 y by' nl rt e.2.2.2) ((nat_lit 6), (nat_lit 1), (nat_lit 30), (nat_lit 0)) := ⟨_, _, _, _, rfl, ef_58⟩
theorem el_I_7 : (fun e : Nat × Nat × Nat × Nat => ∃ (y : MethodName) (by' : ByteArray) (nl : Nat) (rt : Option FieldType), em_inf[e.2.2.1]? = some (y, by', nl, rt) ∧ ec_callI (ec_on e.1) e.2.1 y by' nl rt e.2.2.2) ((nat_lit 6), (nat_lit 13), (nat_lit 31), (nat_lit 4)) := ⟨_, _, _, _, rfl, ef_59⟩
theorem el_I_8 : (fun e : Nat × Nat × Nat × Nat => ∃ (y : MethodName) (by' : ByteArray) (nl : Nat) (rt : Option FieldType), em_inf[e.2.2.1]? = some (y, by', nl, rt) ∧ ec_callI (ec_on e.1) e.2.1 y by' nl rt e.2.2.2) ((nat_lit 10), (nat_lit 1), (nat_lit 30), (nat_lit 0)) := ⟨_, _, _, _, rfl, ef_95⟩
theorem el_I_9 : (fun e : Nat × Nat × Nat × Nat => ∃ (y : MethodName) (by' : ByteArray) (nl : Nat) (rt : Option FieldType), em_inf[e.2.2.1]? = some (y, by', nl, rt) ∧ ec_callI (ec_on e.1) e.2.1 y by' nl rt e.2.2.2) ((nat_lit 11), (nat_lit 11), (nat_lit 0), (nat_lit 0)) := ⟨_, _, _, _, rfl, ef_99⟩
theorem el_I_10 : (fun e : Nat × Nat × Nat × Nat => ∃ (y : MethodName) (by' : ByteArray) (nl : Nat) (rt : Option FieldType), em_inf[e.2.2.1]? = some (y, by', nl, rt) ∧ ec_callI (ec_on e.1) e.2.1 y by' nl rt e.2.2.2) ((nat_lit 11), (nat_lit 29), (nat_lit 70), (nat_lit 0)) := ⟨_, _, _, _, rfl, ef_100⟩
theorem el_I_11 : (fun e : Nat × Nat × Nat × Nat => ∃ (y : MethodName) (by' : ByteArray) (nl : Nat) (rt : Option FieldType), em_inf[e.2.2.1]? = some (y, by', nl, rt) ∧ ec_callI (ec_on e.1) e.2.1 y by' nl rt e.2.2.2) ((nat_lit 11), (nat_lit 42), (nat_lit 40), (nat_lit 1)) := ⟨_, _, _, _, rfl, ef_101⟩
theorem el_I_12 : (fun e : Nat × Nat × Nat × Nat => ∃ (y : MethodName) (by' : ByteArray) (nl : Nat) (rt : Option FieldType), em_inf[e.2.2.1]? = some (y, by', nl, rt) ∧ ec_callI (ec_on e.1) e.2.1 y by' nl rt e.2.2.2) ((nat_lit 11), (nat_lit 51), (nat_lit 54), (nat_lit 2)) := ⟨_, _, _, _, rfl, ef_102⟩
theorem el_I_13 : (fun e : Nat × Nat × Nat × Nat => ∃ (y : MethodName) (by' : ByteArray) (nl : Nat) (rt : Option FieldType), em_inf[e.2.2.1]? = some (y, by', nl, rt) ∧ ec_callI (ec_on e.1) e.2.1 y by' nl rt e.2.2.2) ((nat_lit 11), (nat_lit 60), (nat_lit 59), (nat_lit 2)) := ⟨_, _, _, _, rfl, ef_103⟩
theorem el_I_14 : (fun e : Nat × Nat × Nat × Nat => ∃ (y : MethodName) (by' : ByteArray) (nl : Nat) (rt : Option FieldType), em_inf[e.2.2.1]? = some (y, by', nl, rt) ∧ ec_callI (ec_on e.1) e.2.1 y by' nl rt e.2.2.2) ((nat_lit 11), (nat_lit 72), (nat_lit 30), (nat_lit 0)) := ⟨_, _, _, _, rfl, ef_104⟩
theorem el_I_15 : (fun e : Nat × Nat × Nat × Nat => ∃ (y : MethodName) (by' : ByteArray) (nl : Nat) (rt : Option FieldType), em_inf[e.2.2.1]? = some (y, by', nl, rt) ∧ ec_callI (ec_on e.1) e.2.1 y by' nl rt e.2.2.2) ((nat_lit 11), (nat_lit 75), (nat_lit 28), (nat_lit 0)) := ⟨_, _, _, _, rfl, ef_105⟩
theorem el_I_16 : (fun e : Nat × Nat × Nat × Nat => ∃ (y : MethodName) (by' : ByteArray) (nl : Nat) (rt : Option FieldType), em_inf[e.2.2.1]? = some (y, by', nl, rt) ∧ ec_callI (ec_on e.1) e.2.1 y by' nl rt e.2.2.2) ((nat_lit 11), (nat_lit 78), (nat_lit 38), (nat_lit 0)) := ⟨_, _, _, _, rfl, ef_106⟩
theorem el_I_17 : (fun e : Nat × Nat × Nat × Nat => ∃ (y : MethodName) (by' : ByteArray) (nl : Nat) (rt : Option FieldType), em_inf[e.2.2.1]? = some (y, by', nl, rt) ∧ ec_callI (ec_on e.1) e.2.1 y by' nl rt e.2.2.2) ((nat_lit 11), (nat_lit 81), (nat_lit 34), (nat_lit 0)) := ⟨_, _, _, _, rfl, ef_107⟩
theorem el_I_18 : (fun e : Nat × Nat × Nat × Nat => ∃ (y : MethodName) (by' : ByteArray) (nl : Nat) (rt : Option FieldType), em_inf[e.2.2.1]? = some (y, by', nl, rt) ∧ ec_callI (ec_on e.1) e.2.1 y by' nl rt e.2.2.2) ((nat_lit 11), (nat_lit 84), (nat_lit 82), (nat_lit 0)) := ⟨_, _, _, _, rfl, ef_108⟩
theorem el_I_19 : (fun e : Nat × Nat × Nat × Nat => ∃ (y : MethodName) (by' : ByteArray) (nl : Nat) (rt : Option FieldType), em_inf[e.2.2.1]? = some (y, by', nl, rt) ∧ ec_callI (ec_on e.1) e.2.1 y by' nl rt e.2.2.2) ((nat_lit 11), (nat_lit 87), (nat_lit 52), (nat_lit 0)) := ⟨_, _, _, _, rfl, ef_109⟩
theorem el_I_20 : (fun e : Nat × Nat × Nat × Nat => ∃ (y : MethodName) (by' : ByteArray) (nl : Nat) (rt : Option FieldType), em_inf[e.2.2.1]? = some (y, by', nl, rt) ∧ ec_callI (ec_on e.1) e.2.1 y by' nl rt e.2.2.2) ((nat_lit 15), (nat_lit 9), (nat_lit 84), (nat_lit 0)) := ⟨_, _, _, _, rfl, ef_210⟩
theorem el_I_21 : (fun e : Nat × Nat × Nat × Nat => ∃ (y : MethodName) (by' : ByteArray) (nl : Nat) (rt : Option FieldType), em_inf[e.2.2.1]? = some (y, by', nl, rt) ∧ ec_callI (ec_on e.1) e.2.1 y by' nl rt e.2.2.2) ((nat_lit 15), (nat_lit 12), (nat_lit 127), (nat_lit 0)) := ⟨_, _, _, _, rfl, ef_211⟩
set_option maxRecDepth 100000 in
theorem el_I_ok : ∀ e ∈ el_I, (fun e : Nat × Nat × Nat × Nat => ∃ (y : MethodName) (by' : ByteArray) (nl : Nat) (rt : Option FieldType), em_inf[e.2.2.1]? = some (y, by', nl, rt) ∧ ec_callI (ec_on e.1) e.2.1 y by' nl rt e.2.2.2) e := List.forall_mem_cons.mpr ⟨el_I_0, List.forall_mem_cons.mpr ⟨el_I_1, List.forall_mem_cons.mpr ⟨el_I_2, List.forall_mem_cons.mpr ⟨el_I_3, List.forall_mem_cons.mpr ⟨el_I_4, List.forall_mem_cons.mpr ⟨el_I_5, List.forall_mem_cons.mpr ⟨el_I_6, List.forall_mem_cons.mpr ⟨el_I_7, List.forall_mem_cons.mpr ⟨el_I_8, List.forall_mem_cons.mpr ⟨el_I_9, List.forall_mem_cons.mpr ⟨el_I_10, List.forall_mem_cons.mpr ⟨el_I_11, List.forall_mem_cons.mpr ⟨el_I_12, List.forall_mem_cons.mpr ⟨el_I_13, List.forall_mem_cons.mpr ⟨el_I_14, List.forall_mem_cons.mpr ⟨el_I_15, List.forall_mem_cons.mpr ⟨el_I_16, List.forall_mem_cons.mpr ⟨el_I_17, List.forall_mem_cons.mpr ⟨el_I_18, List.forall_mem_cons.mpr ⟨el_I_19, List.forall_mem_cons.mpr ⟨el_I_20, List.forall_mem_cons.mpr ⟨el_I_21, fun _ h => absurd h List.not_mem_nil⟩⟩⟩⟩⟩⟩⟩⟩⟩⟩⟩⟩⟩⟩⟩⟩⟩⟩⟩⟩⟩⟩
