/-! The compared method: lemmas. Printed by wip/p3/lawx.py. -/
theorem ey_lx {x y : Int} {as bs : List ex_V} (e : x = y) (h : ex_leL none none as bs = true) : ex_leL none none (.inl x :: as) (.inl y :: bs) = true := by
  subst e
  show (ex_eq x x && ex_leL none none as bs) = true
  rw [h, (ex_eq_iff x x).mpr rfl]
  rfl
/-- what cold answers, by quarter and number -/
def ex_co (q n : Int) : Int := if n ≤ 24 - q then n else 24 - q
theorem ex_co_1 {q n : Int} (h : n ≤ 24 - q) : ex_co q n = n := if_pos h
theorem ex_co_2 {q n : Int} (h : 24 - q < n) : ex_co q n = 24 - q := if_neg (by omega)
theorem kx_mk {l : Launch} {D : va_G} {τ : Nat → ClassId} {sa : List Nat} {A : Nat → Prop} {L P : Nat} {mi dd : Nat} {as' as : List ex_V} {v : Option ex_V} {t : Int} (h : em_E l D τ sa A em_inf mi (as', ei_h0, v, ei_h0, dd)) (hl : ex_leL none none as as' = true) (e : v = some (.inl t)) : em_X l D τ sa A mi as (el_h L P) (fun w hp' => w = some (.inl t) ∧ hp' = el_h L P) dd := by
  subst e
  exact em_X.ofE h hl el_h_le
theorem kx_c_0 {l : Launch} {D : va_G} {τ : Nat → ClassId} {sa : List Nat} {A : Nat → Prop} (hmn : em_mna) {L P : Nat} {n v t : Int} (n1 : 1 ≤ n) (n2 : n ≤ 24) (v1 : -400 ≤ v) (v2 : v ≤ 200) (h1 : n ≤ 24 → t = n) (h2 : 24 < n → t = 24) : em_X l D τ sa A 89 [(.inr (.inr (.inl (some 5)))), .inl 0, .inl n, .inl v] (el_h L P) (fun w hp' => w = some (.inl t) ∧ hp' = el_h L P) 2 := by
  by_cases c1 : n ≤ 1
  · obtain rfl : n = 1 := by omega
    obtain rfl : t = 1 := h1 (by decide)
    exact kx_mk (kxc_0_1_k hmn) (ey_lr (ey_lx rfl (ey_lx rfl (ey_li v1 v2 ey_l0)))) rfl
  by_cases c2 : n ≤ 2
  · obtain rfl : n = 2 := by omega
    obtain rfl : t = 2 := h1 (by decide)
    exact kx_mk (kxc_0_2_k hmn) (ey_lr (ey_lx rfl (ey_lx rfl (ey_li v1 v2 ey_l0)))) rfl
  by_cases c3 : n ≤ 3
  · obtain rfl : n = 3 := by omega
    obtain rfl : t = 3 := h1 (by decide)
    exact kx_mk (kxc_0_3_k hmn) (ey_lr (ey_lx rfl (ey_lx rfl (ey_li v1 v2 ey_l0)))) rfl
  by_cases c4 : n ≤ 4
  · obtain rfl : n = 4 := by omega
    obtain rfl : t = 4 := h1 (by decide)
    exact kx_mk (kxc_0_4_k hmn) (ey_lr (ey_lx rfl (ey_lx rfl (ey_li v1 v2 ey_l0)))) rfl
  by_cases c5 : n ≤ 5
  · obtain rfl : n = 5 := by omega
    obtain rfl : t = 5 := h1 (by decide)
    exact kx_mk (kxc_0_5_k hmn) (ey_lr (ey_lx rfl (ey_lx rfl (ey_li v1 v2 ey_l0)))) rfl
  by_cases c6 : n ≤ 6
  · obtain rfl : n = 6 := by omega
    obtain rfl : t = 6 := h1 (by decide)
    exact kx_mk (kxc_0_6_k hmn) (ey_lr (ey_lx rfl (ey_lx rfl (ey_li v1 v2 ey_l0)))) rfl
  by_cases c7 : n ≤ 7
  · obtain rfl : n = 7 := by omega
    obtain rfl : t = 7 := h1 (by decide)
    exact kx_mk (kxc_0_7_k hmn) (ey_lr (ey_lx rfl (ey_lx rfl (ey_li v1 v2 ey_l0)))) rfl
  by_cases c8 : n ≤ 8
  · obtain rfl : n = 8 := by omega
    obtain rfl : t = 8 := h1 (by decide)
    exact kx_mk (kxc_0_8_k hmn) (ey_lr (ey_lx rfl (ey_lx rfl (ey_li v1 v2 ey_l0)))) rfl
  by_cases c9 : n ≤ 9
  · obtain rfl : n = 9 := by omega
    obtain rfl : t = 9 := h1 (by decide)
    exact kx_mk (kxc_0_9_k hmn) (ey_lr (ey_lx rfl (ey_lx rfl (ey_li v1 v2 ey_l0)))) rfl
  by_cases c10 : n ≤ 10
  · obtain rfl : n = 10 := by omega
    obtain rfl : t = 10 := h1 (by decide)
    exact kx_mk (kxc_0_10_k hmn) (ey_lr (ey_lx rfl (ey_lx rfl (ey_li v1 v2 ey_l0)))) rfl
  by_cases c11 : n ≤ 11
  · obtain rfl : n = 11 := by omega
    obtain rfl : t = 11 := h1 (by decide)
    exact kx_mk (kxc_0_11_k hmn) (ey_lr (ey_lx rfl (ey_lx rfl (ey_li v1 v2 ey_l0)))) rfl
  by_cases c12 : n ≤ 12
  · obtain rfl : n = 12 := by omega
    obtain rfl : t = 12 := h1 (by decide)
    exact kx_mk (kxc_0_12_k hmn) (ey_lr (ey_lx rfl (ey_lx rfl (ey_li v1 v2 ey_l0)))) rfl
  by_cases c13 : n ≤ 13
  · obtain rfl : n = 13 := by omega
    obtain rfl : t = 13 := h1 (by decide)
    exact kx_mk (kxc_0_13_k hmn) (ey_lr (ey_lx rfl (ey_lx rfl (ey_li v1 v2 ey_l0)))) rfl
  by_cases c14 : n ≤ 14
  · obtain rfl : n = 14 := by omega
    obtain rfl : t = 14 := h1 (by decide)
    exact kx_mk (kxc_0_14_k hmn) (ey_lr (ey_lx rfl (ey_lx rfl (ey_li v1 v2 ey_l0)))) rfl
  by_cases c15 : n ≤ 15
  · obtain rfl : n = 15 := by omega
    obtain rfl : t = 15 := h1 (by decide)
    exact kx_mk (kxc_0_15_k hmn) (ey_lr (ey_lx rfl (ey_lx rfl (ey_li v1 v2 ey_l0)))) rfl
  by_cases c16 : n ≤ 16
  · obtain rfl : n = 16 := by omega
    obtain rfl : t = 16 := h1 (by decide)
    exact kx_mk (kxc_0_16_k hmn) (ey_lr (ey_lx rfl (ey_lx rfl (ey_li v1 v2 ey_l0)))) rfl
  by_cases c17 : n ≤ 17
  · obtain rfl : n = 17 := by omega
    obtain rfl : t = 17 := h1 (by decide)
    exact kx_mk (kxc_0_17_k hmn) (ey_lr (ey_lx rfl (ey_lx rfl (ey_li v1 v2 ey_l0)))) rfl
  by_cases c18 : n ≤ 18
  · obtain rfl : n = 18 := by omega
    obtain rfl : t = 18 := h1 (by decide)
    exact kx_mk (kxc_0_18_k hmn) (ey_lr (ey_lx rfl (ey_lx rfl (ey_li v1 v2 ey_l0)))) rfl
  by_cases c19 : n ≤ 19
  · obtain rfl : n = 19 := by omega
    obtain rfl : t = 19 := h1 (by decide)
    exact kx_mk (kxc_0_19_k hmn) (ey_lr (ey_lx rfl (ey_lx rfl (ey_li v1 v2 ey_l0)))) rfl
  by_cases c20 : n ≤ 20
  · obtain rfl : n = 20 := by omega
    obtain rfl : t = 20 := h1 (by decide)
    exact kx_mk (kxc_0_20_k hmn) (ey_lr (ey_lx rfl (ey_lx rfl (ey_li v1 v2 ey_l0)))) rfl
  by_cases c21 : n ≤ 21
  · obtain rfl : n = 21 := by omega
    obtain rfl : t = 21 := h1 (by decide)
    exact kx_mk (kxc_0_21_k hmn) (ey_lr (ey_lx rfl (ey_lx rfl (ey_li v1 v2 ey_l0)))) rfl
  by_cases c22 : n ≤ 22
  · obtain rfl : n = 22 := by omega
    obtain rfl : t = 22 := h1 (by decide)
    exact kx_mk (kxc_0_22_k hmn) (ey_lr (ey_lx rfl (ey_lx rfl (ey_li v1 v2 ey_l0)))) rfl
  by_cases c23 : n ≤ 23
  · obtain rfl : n = 23 := by omega
    obtain rfl : t = 23 := h1 (by decide)
    exact kx_mk (kxc_0_23_k hmn) (ey_lr (ey_lx rfl (ey_lx rfl (ey_li v1 v2 ey_l0)))) rfl
  by_cases c24 : n ≤ 24
  · obtain rfl : n = 24 := by omega
    obtain rfl : t = 24 := h1 (by decide)
    exact kx_mk (kxc_0_24_k hmn) (ey_lr (ey_lx rfl (ey_lx rfl (ey_li v1 v2 ey_l0)))) rfl
  exfalso
  omega
theorem kx_c_1 {l : Launch} {D : va_G} {τ : Nat → ClassId} {sa : List Nat} {A : Nat → Prop} (hmn : em_mna) {L P : Nat} {n v t : Int} (n1 : 1 ≤ n) (n2 : n ≤ 24) (v1 : -400 ≤ v) (v2 : v ≤ 200) (h1 : n ≤ 23 → t = n) (h2 : 23 < n → t = 23) : em_X l D τ sa A 89 [(.inr (.inr (.inl (some 5)))), .inl 1, .inl n, .inl v] (el_h L P) (fun w hp' => w = some (.inl t) ∧ hp' = el_h L P) 2 := by
  by_cases c1 : n ≤ 1
  · obtain rfl : n = 1 := by omega
    obtain rfl : t = 1 := h1 (by decide)
    exact kx_mk (kxc_1_1_k hmn) (ey_lr (ey_lx rfl (ey_lx rfl (ey_li v1 v2 ey_l0)))) rfl
  by_cases c2 : n ≤ 2
  · obtain rfl : n = 2 := by omega
    obtain rfl : t = 2 := h1 (by decide)
    exact kx_mk (kxc_1_2_k hmn) (ey_lr (ey_lx rfl (ey_lx rfl (ey_li v1 v2 ey_l0)))) rfl
  by_cases c3 : n ≤ 3
  · obtain rfl : n = 3 := by omega
    obtain rfl : t = 3 := h1 (by decide)
    exact kx_mk (kxc_1_3_k hmn) (ey_lr (ey_lx rfl (ey_lx rfl (ey_li v1 v2 ey_l0)))) rfl
  by_cases c4 : n ≤ 4
  · obtain rfl : n = 4 := by omega
    obtain rfl : t = 4 := h1 (by decide)
    exact kx_mk (kxc_1_4_k hmn) (ey_lr (ey_lx rfl (ey_lx rfl (ey_li v1 v2 ey_l0)))) rfl
  by_cases c5 : n ≤ 5
  · obtain rfl : n = 5 := by omega
    obtain rfl : t = 5 := h1 (by decide)
    exact kx_mk (kxc_1_5_k hmn) (ey_lr (ey_lx rfl (ey_lx rfl (ey_li v1 v2 ey_l0)))) rfl
  by_cases c6 : n ≤ 6
  · obtain rfl : n = 6 := by omega
    obtain rfl : t = 6 := h1 (by decide)
    exact kx_mk (kxc_1_6_k hmn) (ey_lr (ey_lx rfl (ey_lx rfl (ey_li v1 v2 ey_l0)))) rfl
  by_cases c7 : n ≤ 7
  · obtain rfl : n = 7 := by omega
    obtain rfl : t = 7 := h1 (by decide)
    exact kx_mk (kxc_1_7_k hmn) (ey_lr (ey_lx rfl (ey_lx rfl (ey_li v1 v2 ey_l0)))) rfl
  by_cases c8 : n ≤ 8
  · obtain rfl : n = 8 := by omega
    obtain rfl : t = 8 := h1 (by decide)
    exact kx_mk (kxc_1_8_k hmn) (ey_lr (ey_lx rfl (ey_lx rfl (ey_li v1 v2 ey_l0)))) rfl
  by_cases c9 : n ≤ 9
  · obtain rfl : n = 9 := by omega
    obtain rfl : t = 9 := h1 (by decide)
    exact kx_mk (kxc_1_9_k hmn) (ey_lr (ey_lx rfl (ey_lx rfl (ey_li v1 v2 ey_l0)))) rfl
  by_cases c10 : n ≤ 10
  · obtain rfl : n = 10 := by omega
    obtain rfl : t = 10 := h1 (by decide)
    exact kx_mk (kxc_1_10_k hmn) (ey_lr (ey_lx rfl (ey_lx rfl (ey_li v1 v2 ey_l0)))) rfl
  by_cases c11 : n ≤ 11
  · obtain rfl : n = 11 := by omega
    obtain rfl : t = 11 := h1 (by decide)
    exact kx_mk (kxc_1_11_k hmn) (ey_lr (ey_lx rfl (ey_lx rfl (ey_li v1 v2 ey_l0)))) rfl
  by_cases c12 : n ≤ 12
  · obtain rfl : n = 12 := by omega
    obtain rfl : t = 12 := h1 (by decide)
    exact kx_mk (kxc_1_12_k hmn) (ey_lr (ey_lx rfl (ey_lx rfl (ey_li v1 v2 ey_l0)))) rfl
  by_cases c13 : n ≤ 13
  · obtain rfl : n = 13 := by omega
    obtain rfl : t = 13 := h1 (by decide)
    exact kx_mk (kxc_1_13_k hmn) (ey_lr (ey_lx rfl (ey_lx rfl (ey_li v1 v2 ey_l0)))) rfl
  by_cases c14 : n ≤ 14
  · obtain rfl : n = 14 := by omega
    obtain rfl : t = 14 := h1 (by decide)
    exact kx_mk (kxc_1_14_k hmn) (ey_lr (ey_lx rfl (ey_lx rfl (ey_li v1 v2 ey_l0)))) rfl
  by_cases c15 : n ≤ 15
  · obtain rfl : n = 15 := by omega
    obtain rfl : t = 15 := h1 (by decide)
    exact kx_mk (kxc_1_15_k hmn) (ey_lr (ey_lx rfl (ey_lx rfl (ey_li v1 v2 ey_l0)))) rfl
  by_cases c16 : n ≤ 16
  · obtain rfl : n = 16 := by omega
    obtain rfl : t = 16 := h1 (by decide)
    exact kx_mk (kxc_1_16_k hmn) (ey_lr (ey_lx rfl (ey_lx rfl (ey_li v1 v2 ey_l0)))) rfl
  by_cases c17 : n ≤ 17
  · obtain rfl : n = 17 := by omega
    obtain rfl : t = 17 := h1 (by decide)
    exact kx_mk (kxc_1_17_k hmn) (ey_lr (ey_lx rfl (ey_lx rfl (ey_li v1 v2 ey_l0)))) rfl
  by_cases c18 : n ≤ 18
  · obtain rfl : n = 18 := by omega
    obtain rfl : t = 18 := h1 (by decide)
    exact kx_mk (kxc_1_18_k hmn) (ey_lr (ey_lx rfl (ey_lx rfl (ey_li v1 v2 ey_l0)))) rfl
  by_cases c19 : n ≤ 19
  · obtain rfl : n = 19 := by omega
    obtain rfl : t = 19 := h1 (by decide)
    exact kx_mk (kxc_1_19_k hmn) (ey_lr (ey_lx rfl (ey_lx rfl (ey_li v1 v2 ey_l0)))) rfl
  by_cases c20 : n ≤ 20
  · obtain rfl : n = 20 := by omega
    obtain rfl : t = 20 := h1 (by decide)
    exact kx_mk (kxc_1_20_k hmn) (ey_lr (ey_lx rfl (ey_lx rfl (ey_li v1 v2 ey_l0)))) rfl
  by_cases c21 : n ≤ 21
  · obtain rfl : n = 21 := by omega
    obtain rfl : t = 21 := h1 (by decide)
    exact kx_mk (kxc_1_21_k hmn) (ey_lr (ey_lx rfl (ey_lx rfl (ey_li v1 v2 ey_l0)))) rfl
  by_cases c22 : n ≤ 22
  · obtain rfl : n = 22 := by omega
    obtain rfl : t = 22 := h1 (by decide)
    exact kx_mk (kxc_1_22_k hmn) (ey_lr (ey_lx rfl (ey_lx rfl (ey_li v1 v2 ey_l0)))) rfl
  by_cases c23 : n ≤ 23
  · obtain rfl : n = 23 := by omega
    obtain rfl : t = 23 := h1 (by decide)
    exact kx_mk (kxc_1_23_k hmn) (ey_lr (ey_lx rfl (ey_lx rfl (ey_li v1 v2 ey_l0)))) rfl
  obtain rfl : t = 23 := h2 (by omega)
  exact kx_mk (kxc_1_b_k hmn) (ey_lr (ey_lx rfl (ey_lx (show n = 24 by omega) (ey_li v1 v2 ey_l0)))) rfl
theorem kx_c_2 {l : Launch} {D : va_G} {τ : Nat → ClassId} {sa : List Nat} {A : Nat → Prop} (hmn : em_mna) {L P : Nat} {n v t : Int} (n1 : 1 ≤ n) (n2 : n ≤ 24) (v1 : -400 ≤ v) (v2 : v ≤ 200) (h1 : n ≤ 22 → t = n) (h2 : 22 < n → t = 22) : em_X l D τ sa A 89 [(.inr (.inr (.inl (some 5)))), .inl 2, .inl n, .inl v] (el_h L P) (fun w hp' => w = some (.inl t) ∧ hp' = el_h L P) 2 := by
  by_cases c1 : n ≤ 1
  · obtain rfl : n = 1 := by omega
    obtain rfl : t = 1 := h1 (by decide)
    exact kx_mk (kxc_2_1_k hmn) (ey_lr (ey_lx rfl (ey_lx rfl (ey_li v1 v2 ey_l0)))) rfl
  by_cases c2 : n ≤ 2
  · obtain rfl : n = 2 := by omega
    obtain rfl : t = 2 := h1 (by decide)
    exact kx_mk (kxc_2_2_k hmn) (ey_lr (ey_lx rfl (ey_lx rfl (ey_li v1 v2 ey_l0)))) rfl
  by_cases c3 : n ≤ 3
  · obtain rfl : n = 3 := by omega
    obtain rfl : t = 3 := h1 (by decide)
    exact kx_mk (kxc_2_3_k hmn) (ey_lr (ey_lx rfl (ey_lx rfl (ey_li v1 v2 ey_l0)))) rfl
  by_cases c4 : n ≤ 4
  · obtain rfl : n = 4 := by omega
    obtain rfl : t = 4 := h1 (by decide)
    exact kx_mk (kxc_2_4_k hmn) (ey_lr (ey_lx rfl (ey_lx rfl (ey_li v1 v2 ey_l0)))) rfl
  by_cases c5 : n ≤ 5
  · obtain rfl : n = 5 := by omega
    obtain rfl : t = 5 := h1 (by decide)
    exact kx_mk (kxc_2_5_k hmn) (ey_lr (ey_lx rfl (ey_lx rfl (ey_li v1 v2 ey_l0)))) rfl
  by_cases c6 : n ≤ 6
  · obtain rfl : n = 6 := by omega
    obtain rfl : t = 6 := h1 (by decide)
    exact kx_mk (kxc_2_6_k hmn) (ey_lr (ey_lx rfl (ey_lx rfl (ey_li v1 v2 ey_l0)))) rfl
  by_cases c7 : n ≤ 7
  · obtain rfl : n = 7 := by omega
    obtain rfl : t = 7 := h1 (by decide)
    exact kx_mk (kxc_2_7_k hmn) (ey_lr (ey_lx rfl (ey_lx rfl (ey_li v1 v2 ey_l0)))) rfl
  by_cases c8 : n ≤ 8
  · obtain rfl : n = 8 := by omega
    obtain rfl : t = 8 := h1 (by decide)
    exact kx_mk (kxc_2_8_k hmn) (ey_lr (ey_lx rfl (ey_lx rfl (ey_li v1 v2 ey_l0)))) rfl
  by_cases c9 : n ≤ 9
  · obtain rfl : n = 9 := by omega
    obtain rfl : t = 9 := h1 (by decide)
    exact kx_mk (kxc_2_9_k hmn) (ey_lr (ey_lx rfl (ey_lx rfl (ey_li v1 v2 ey_l0)))) rfl
  by_cases c10 : n ≤ 10
  · obtain rfl : n = 10 := by omega
    obtain rfl : t = 10 := h1 (by decide)
    exact kx_mk (kxc_2_10_k hmn) (ey_lr (ey_lx rfl (ey_lx rfl (ey_li v1 v2 ey_l0)))) rfl
  by_cases c11 : n ≤ 11
  · obtain rfl : n = 11 := by omega
    obtain rfl : t = 11 := h1 (by decide)
    exact kx_mk (kxc_2_11_k hmn) (ey_lr (ey_lx rfl (ey_lx rfl (ey_li v1 v2 ey_l0)))) rfl
  by_cases c12 : n ≤ 12
  · obtain rfl : n = 12 := by omega
    obtain rfl : t = 12 := h1 (by decide)
    exact kx_mk (kxc_2_12_k hmn) (ey_lr (ey_lx rfl (ey_lx rfl (ey_li v1 v2 ey_l0)))) rfl
  by_cases c13 : n ≤ 13
  · obtain rfl : n = 13 := by omega
    obtain rfl : t = 13 := h1 (by decide)
    exact kx_mk (kxc_2_13_k hmn) (ey_lr (ey_lx rfl (ey_lx rfl (ey_li v1 v2 ey_l0)))) rfl
  by_cases c14 : n ≤ 14
  · obtain rfl : n = 14 := by omega
    obtain rfl : t = 14 := h1 (by decide)
    exact kx_mk (kxc_2_14_k hmn) (ey_lr (ey_lx rfl (ey_lx rfl (ey_li v1 v2 ey_l0)))) rfl
  by_cases c15 : n ≤ 15
  · obtain rfl : n = 15 := by omega
    obtain rfl : t = 15 := h1 (by decide)
    exact kx_mk (kxc_2_15_k hmn) (ey_lr (ey_lx rfl (ey_lx rfl (ey_li v1 v2 ey_l0)))) rfl
  by_cases c16 : n ≤ 16
  · obtain rfl : n = 16 := by omega
    obtain rfl : t = 16 := h1 (by decide)
    exact kx_mk (kxc_2_16_k hmn) (ey_lr (ey_lx rfl (ey_lx rfl (ey_li v1 v2 ey_l0)))) rfl
  by_cases c17 : n ≤ 17
  · obtain rfl : n = 17 := by omega
    obtain rfl : t = 17 := h1 (by decide)
    exact kx_mk (kxc_2_17_k hmn) (ey_lr (ey_lx rfl (ey_lx rfl (ey_li v1 v2 ey_l0)))) rfl
  by_cases c18 : n ≤ 18
  · obtain rfl : n = 18 := by omega
    obtain rfl : t = 18 := h1 (by decide)
    exact kx_mk (kxc_2_18_k hmn) (ey_lr (ey_lx rfl (ey_lx rfl (ey_li v1 v2 ey_l0)))) rfl
  by_cases c19 : n ≤ 19
  · obtain rfl : n = 19 := by omega
    obtain rfl : t = 19 := h1 (by decide)
    exact kx_mk (kxc_2_19_k hmn) (ey_lr (ey_lx rfl (ey_lx rfl (ey_li v1 v2 ey_l0)))) rfl
  by_cases c20 : n ≤ 20
  · obtain rfl : n = 20 := by omega
    obtain rfl : t = 20 := h1 (by decide)
    exact kx_mk (kxc_2_20_k hmn) (ey_lr (ey_lx rfl (ey_lx rfl (ey_li v1 v2 ey_l0)))) rfl
  by_cases c21 : n ≤ 21
  · obtain rfl : n = 21 := by omega
    obtain rfl : t = 21 := h1 (by decide)
    exact kx_mk (kxc_2_21_k hmn) (ey_lr (ey_lx rfl (ey_lx rfl (ey_li v1 v2 ey_l0)))) rfl
  by_cases c22 : n ≤ 22
  · obtain rfl : n = 22 := by omega
    obtain rfl : t = 22 := h1 (by decide)
    exact kx_mk (kxc_2_22_k hmn) (ey_lr (ey_lx rfl (ey_lx rfl (ey_li v1 v2 ey_l0)))) rfl
  obtain rfl : t = 22 := h2 (by omega)
  exact kx_mk (kxc_2_b_k hmn) (ey_lr (ey_lx rfl (ey_li (show (23 : Int) ≤ n by omega) n2 (ey_li v1 v2 ey_l0)))) rfl
theorem kx_c_3 {l : Launch} {D : va_G} {τ : Nat → ClassId} {sa : List Nat} {A : Nat → Prop} (hmn : em_mna) {L P : Nat} {n v t : Int} (n1 : 1 ≤ n) (n2 : n ≤ 24) (v1 : -400 ≤ v) (v2 : v ≤ 200) (h1 : n ≤ 21 → t = n) (h2 : 21 < n → t = 21) : em_X l D τ sa A 89 [(.inr (.inr (.inl (some 5)))), .inl 3, .inl n, .inl v] (el_h L P) (fun w hp' => w = some (.inl t) ∧ hp' = el_h L P) 2 := by
  by_cases c1 : n ≤ 1
  · obtain rfl : n = 1 := by omega
    obtain rfl : t = 1 := h1 (by decide)
    exact kx_mk (kxc_3_1_k hmn) (ey_lr (ey_lx rfl (ey_lx rfl (ey_li v1 v2 ey_l0)))) rfl
  by_cases c2 : n ≤ 2
  · obtain rfl : n = 2 := by omega
    obtain rfl : t = 2 := h1 (by decide)
    exact kx_mk (kxc_3_2_k hmn) (ey_lr (ey_lx rfl (ey_lx rfl (ey_li v1 v2 ey_l0)))) rfl
  by_cases c3 : n ≤ 3
  · obtain rfl : n = 3 := by omega
    obtain rfl : t = 3 := h1 (by decide)
    exact kx_mk (kxc_3_3_k hmn) (ey_lr (ey_lx rfl (ey_lx rfl (ey_li v1 v2 ey_l0)))) rfl
  by_cases c4 : n ≤ 4
  · obtain rfl : n = 4 := by omega
    obtain rfl : t = 4 := h1 (by decide)
    exact kx_mk (kxc_3_4_k hmn) (ey_lr (ey_lx rfl (ey_lx rfl (ey_li v1 v2 ey_l0)))) rfl
  by_cases c5 : n ≤ 5
  · obtain rfl : n = 5 := by omega
    obtain rfl : t = 5 := h1 (by decide)
    exact kx_mk (kxc_3_5_k hmn) (ey_lr (ey_lx rfl (ey_lx rfl (ey_li v1 v2 ey_l0)))) rfl
  by_cases c6 : n ≤ 6
  · obtain rfl : n = 6 := by omega
    obtain rfl : t = 6 := h1 (by decide)
    exact kx_mk (kxc_3_6_k hmn) (ey_lr (ey_lx rfl (ey_lx rfl (ey_li v1 v2 ey_l0)))) rfl
  by_cases c7 : n ≤ 7
  · obtain rfl : n = 7 := by omega
    obtain rfl : t = 7 := h1 (by decide)
    exact kx_mk (kxc_3_7_k hmn) (ey_lr (ey_lx rfl (ey_lx rfl (ey_li v1 v2 ey_l0)))) rfl
  by_cases c8 : n ≤ 8
  · obtain rfl : n = 8 := by omega
    obtain rfl : t = 8 := h1 (by decide)
    exact kx_mk (kxc_3_8_k hmn) (ey_lr (ey_lx rfl (ey_lx rfl (ey_li v1 v2 ey_l0)))) rfl
  by_cases c9 : n ≤ 9
  · obtain rfl : n = 9 := by omega
    obtain rfl : t = 9 := h1 (by decide)
    exact kx_mk (kxc_3_9_k hmn) (ey_lr (ey_lx rfl (ey_lx rfl (ey_li v1 v2 ey_l0)))) rfl
  by_cases c10 : n ≤ 10
  · obtain rfl : n = 10 := by omega
    obtain rfl : t = 10 := h1 (by decide)
    exact kx_mk (kxc_3_10_k hmn) (ey_lr (ey_lx rfl (ey_lx rfl (ey_li v1 v2 ey_l0)))) rfl
  by_cases c11 : n ≤ 11
  · obtain rfl : n = 11 := by omega
    obtain rfl : t = 11 := h1 (by decide)
    exact kx_mk (kxc_3_11_k hmn) (ey_lr (ey_lx rfl (ey_lx rfl (ey_li v1 v2 ey_l0)))) rfl
  by_cases c12 : n ≤ 12
  · obtain rfl : n = 12 := by omega
    obtain rfl : t = 12 := h1 (by decide)
    exact kx_mk (kxc_3_12_k hmn) (ey_lr (ey_lx rfl (ey_lx rfl (ey_li v1 v2 ey_l0)))) rfl
  by_cases c13 : n ≤ 13
  · obtain rfl : n = 13 := by omega
    obtain rfl : t = 13 := h1 (by decide)
    exact kx_mk (kxc_3_13_k hmn) (ey_lr (ey_lx rfl (ey_lx rfl (ey_li v1 v2 ey_l0)))) rfl
  by_cases c14 : n ≤ 14
  · obtain rfl : n = 14 := by omega
    obtain rfl : t = 14 := h1 (by decide)
    exact kx_mk (kxc_3_14_k hmn) (ey_lr (ey_lx rfl (ey_lx rfl (ey_li v1 v2 ey_l0)))) rfl
  by_cases c15 : n ≤ 15
  · obtain rfl : n = 15 := by omega
    obtain rfl : t = 15 := h1 (by decide)
    exact kx_mk (kxc_3_15_k hmn) (ey_lr (ey_lx rfl (ey_lx rfl (ey_li v1 v2 ey_l0)))) rfl
  by_cases c16 : n ≤ 16
  · obtain rfl : n = 16 := by omega
    obtain rfl : t = 16 := h1 (by decide)
    exact kx_mk (kxc_3_16_k hmn) (ey_lr (ey_lx rfl (ey_lx rfl (ey_li v1 v2 ey_l0)))) rfl
  by_cases c17 : n ≤ 17
  · obtain rfl : n = 17 := by omega
    obtain rfl : t = 17 := h1 (by decide)
    exact kx_mk (kxc_3_17_k hmn) (ey_lr (ey_lx rfl (ey_lx rfl (ey_li v1 v2 ey_l0)))) rfl
  by_cases c18 : n ≤ 18
  · obtain rfl : n = 18 := by omega
    obtain rfl : t = 18 := h1 (by decide)
    exact kx_mk (kxc_3_18_k hmn) (ey_lr (ey_lx rfl (ey_lx rfl (ey_li v1 v2 ey_l0)))) rfl
  by_cases c19 : n ≤ 19
  · obtain rfl : n = 19 := by omega
    obtain rfl : t = 19 := h1 (by decide)
    exact kx_mk (kxc_3_19_k hmn) (ey_lr (ey_lx rfl (ey_lx rfl (ey_li v1 v2 ey_l0)))) rfl
  by_cases c20 : n ≤ 20
  · obtain rfl : n = 20 := by omega
    obtain rfl : t = 20 := h1 (by decide)
    exact kx_mk (kxc_3_20_k hmn) (ey_lr (ey_lx rfl (ey_lx rfl (ey_li v1 v2 ey_l0)))) rfl
  by_cases c21 : n ≤ 21
  · obtain rfl : n = 21 := by omega
    obtain rfl : t = 21 := h1 (by decide)
    exact kx_mk (kxc_3_21_k hmn) (ey_lr (ey_lx rfl (ey_lx rfl (ey_li v1 v2 ey_l0)))) rfl
  obtain rfl : t = 21 := h2 (by omega)
  exact kx_mk (kxc_3_b_k hmn) (ey_lr (ey_lx rfl (ey_li (show (22 : Int) ≤ n by omega) n2 (ey_li v1 v2 ey_l0)))) rfl
theorem kx_c_4 {l : Launch} {D : va_G} {τ : Nat → ClassId} {sa : List Nat} {A : Nat → Prop} (hmn : em_mna) {L P : Nat} {n v t : Int} (n1 : 1 ≤ n) (n2 : n ≤ 24) (v1 : -400 ≤ v) (v2 : v ≤ 200) (h1 : n ≤ 20 → t = n) (h2 : 20 < n → t = 20) : em_X l D τ sa A 89 [(.inr (.inr (.inl (some 5)))), .inl 4, .inl n, .inl v] (el_h L P) (fun w hp' => w = some (.inl t) ∧ hp' = el_h L P) 2 := by
  by_cases c1 : n ≤ 1
  · obtain rfl : n = 1 := by omega
    obtain rfl : t = 1 := h1 (by decide)
    exact kx_mk (kxc_4_1_k hmn) (ey_lr (ey_lx rfl (ey_lx rfl (ey_li v1 v2 ey_l0)))) rfl
  by_cases c2 : n ≤ 2
  · obtain rfl : n = 2 := by omega
    obtain rfl : t = 2 := h1 (by decide)
    exact kx_mk (kxc_4_2_k hmn) (ey_lr (ey_lx rfl (ey_lx rfl (ey_li v1 v2 ey_l0)))) rfl
  by_cases c3 : n ≤ 3
  · obtain rfl : n = 3 := by omega
    obtain rfl : t = 3 := h1 (by decide)
    exact kx_mk (kxc_4_3_k hmn) (ey_lr (ey_lx rfl (ey_lx rfl (ey_li v1 v2 ey_l0)))) rfl
  by_cases c4 : n ≤ 4
  · obtain rfl : n = 4 := by omega
    obtain rfl : t = 4 := h1 (by decide)
    exact kx_mk (kxc_4_4_k hmn) (ey_lr (ey_lx rfl (ey_lx rfl (ey_li v1 v2 ey_l0)))) rfl
  by_cases c5 : n ≤ 5
  · obtain rfl : n = 5 := by omega
    obtain rfl : t = 5 := h1 (by decide)
    exact kx_mk (kxc_4_5_k hmn) (ey_lr (ey_lx rfl (ey_lx rfl (ey_li v1 v2 ey_l0)))) rfl
  by_cases c6 : n ≤ 6
  · obtain rfl : n = 6 := by omega
    obtain rfl : t = 6 := h1 (by decide)
    exact kx_mk (kxc_4_6_k hmn) (ey_lr (ey_lx rfl (ey_lx rfl (ey_li v1 v2 ey_l0)))) rfl
  by_cases c7 : n ≤ 7
  · obtain rfl : n = 7 := by omega
    obtain rfl : t = 7 := h1 (by decide)
    exact kx_mk (kxc_4_7_k hmn) (ey_lr (ey_lx rfl (ey_lx rfl (ey_li v1 v2 ey_l0)))) rfl
  by_cases c8 : n ≤ 8
  · obtain rfl : n = 8 := by omega
    obtain rfl : t = 8 := h1 (by decide)
    exact kx_mk (kxc_4_8_k hmn) (ey_lr (ey_lx rfl (ey_lx rfl (ey_li v1 v2 ey_l0)))) rfl
  by_cases c9 : n ≤ 9
  · obtain rfl : n = 9 := by omega
    obtain rfl : t = 9 := h1 (by decide)
    exact kx_mk (kxc_4_9_k hmn) (ey_lr (ey_lx rfl (ey_lx rfl (ey_li v1 v2 ey_l0)))) rfl
  by_cases c10 : n ≤ 10
  · obtain rfl : n = 10 := by omega
    obtain rfl : t = 10 := h1 (by decide)
    exact kx_mk (kxc_4_10_k hmn) (ey_lr (ey_lx rfl (ey_lx rfl (ey_li v1 v2 ey_l0)))) rfl
  by_cases c11 : n ≤ 11
  · obtain rfl : n = 11 := by omega
    obtain rfl : t = 11 := h1 (by decide)
    exact kx_mk (kxc_4_11_k hmn) (ey_lr (ey_lx rfl (ey_lx rfl (ey_li v1 v2 ey_l0)))) rfl
  by_cases c12 : n ≤ 12
  · obtain rfl : n = 12 := by omega
    obtain rfl : t = 12 := h1 (by decide)
    exact kx_mk (kxc_4_12_k hmn) (ey_lr (ey_lx rfl (ey_lx rfl (ey_li v1 v2 ey_l0)))) rfl
  by_cases c13 : n ≤ 13
  · obtain rfl : n = 13 := by omega
    obtain rfl : t = 13 := h1 (by decide)
    exact kx_mk (kxc_4_13_k hmn) (ey_lr (ey_lx rfl (ey_lx rfl (ey_li v1 v2 ey_l0)))) rfl
  by_cases c14 : n ≤ 14
  · obtain rfl : n = 14 := by omega
    obtain rfl : t = 14 := h1 (by decide)
    exact kx_mk (kxc_4_14_k hmn) (ey_lr (ey_lx rfl (ey_lx rfl (ey_li v1 v2 ey_l0)))) rfl
  by_cases c15 : n ≤ 15
  · obtain rfl : n = 15 := by omega
    obtain rfl : t = 15 := h1 (by decide)
    exact kx_mk (kxc_4_15_k hmn) (ey_lr (ey_lx rfl (ey_lx rfl (ey_li v1 v2 ey_l0)))) rfl
  by_cases c16 : n ≤ 16
  · obtain rfl : n = 16 := by omega
    obtain rfl : t = 16 := h1 (by decide)
    exact kx_mk (kxc_4_16_k hmn) (ey_lr (ey_lx rfl (ey_lx rfl (ey_li v1 v2 ey_l0)))) rfl
  by_cases c17 : n ≤ 17
  · obtain rfl : n = 17 := by omega
    obtain rfl : t = 17 := h1 (by decide)
    exact kx_mk (kxc_4_17_k hmn) (ey_lr (ey_lx rfl (ey_lx rfl (ey_li v1 v2 ey_l0)))) rfl
  by_cases c18 : n ≤ 18
  · obtain rfl : n = 18 := by omega
    obtain rfl : t = 18 := h1 (by decide)
    exact kx_mk (kxc_4_18_k hmn) (ey_lr (ey_lx rfl (ey_lx rfl (ey_li v1 v2 ey_l0)))) rfl
  by_cases c19 : n ≤ 19
  · obtain rfl : n = 19 := by omega
    obtain rfl : t = 19 := h1 (by decide)
    exact kx_mk (kxc_4_19_k hmn) (ey_lr (ey_lx rfl (ey_lx rfl (ey_li v1 v2 ey_l0)))) rfl
  by_cases c20 : n ≤ 20
  · obtain rfl : n = 20 := by omega
    obtain rfl : t = 20 := h1 (by decide)
    exact kx_mk (kxc_4_20_k hmn) (ey_lr (ey_lx rfl (ey_lx rfl (ey_li v1 v2 ey_l0)))) rfl
  obtain rfl : t = 20 := h2 (by omega)
  exact kx_mk (kxc_4_b_k hmn) (ey_lr (ey_lx rfl (ey_li (show (21 : Int) ≤ n by omega) n2 (ey_li v1 v2 ey_l0)))) rfl
theorem kx_c_5 {l : Launch} {D : va_G} {τ : Nat → ClassId} {sa : List Nat} {A : Nat → Prop} (hmn : em_mna) {L P : Nat} {n v t : Int} (n1 : 1 ≤ n) (n2 : n ≤ 24) (v1 : -400 ≤ v) (v2 : v ≤ 200) (h1 : n ≤ 19 → t = n) (h2 : 19 < n → t = 19) : em_X l D τ sa A 89 [(.inr (.inr (.inl (some 5)))), .inl 5, .inl n, .inl v] (el_h L P) (fun w hp' => w = some (.inl t) ∧ hp' = el_h L P) 2 := by
  by_cases c1 : n ≤ 1
  · obtain rfl : n = 1 := by omega
    obtain rfl : t = 1 := h1 (by decide)
    exact kx_mk (kxc_5_1_k hmn) (ey_lr (ey_lx rfl (ey_lx rfl (ey_li v1 v2 ey_l0)))) rfl
  by_cases c2 : n ≤ 2
  · obtain rfl : n = 2 := by omega
    obtain rfl : t = 2 := h1 (by decide)
    exact kx_mk (kxc_5_2_k hmn) (ey_lr (ey_lx rfl (ey_lx rfl (ey_li v1 v2 ey_l0)))) rfl
  by_cases c3 : n ≤ 3
  · obtain rfl : n = 3 := by omega
    obtain rfl : t = 3 := h1 (by decide)
    exact kx_mk (kxc_5_3_k hmn) (ey_lr (ey_lx rfl (ey_lx rfl (ey_li v1 v2 ey_l0)))) rfl
  by_cases c4 : n ≤ 4
  · obtain rfl : n = 4 := by omega
    obtain rfl : t = 4 := h1 (by decide)
    exact kx_mk (kxc_5_4_k hmn) (ey_lr (ey_lx rfl (ey_lx rfl (ey_li v1 v2 ey_l0)))) rfl
  by_cases c5 : n ≤ 5
  · obtain rfl : n = 5 := by omega
    obtain rfl : t = 5 := h1 (by decide)
    exact kx_mk (kxc_5_5_k hmn) (ey_lr (ey_lx rfl (ey_lx rfl (ey_li v1 v2 ey_l0)))) rfl
  by_cases c6 : n ≤ 6
  · obtain rfl : n = 6 := by omega
    obtain rfl : t = 6 := h1 (by decide)
    exact kx_mk (kxc_5_6_k hmn) (ey_lr (ey_lx rfl (ey_lx rfl (ey_li v1 v2 ey_l0)))) rfl
  by_cases c7 : n ≤ 7
  · obtain rfl : n = 7 := by omega
    obtain rfl : t = 7 := h1 (by decide)
    exact kx_mk (kxc_5_7_k hmn) (ey_lr (ey_lx rfl (ey_lx rfl (ey_li v1 v2 ey_l0)))) rfl
  by_cases c8 : n ≤ 8
  · obtain rfl : n = 8 := by omega
    obtain rfl : t = 8 := h1 (by decide)
    exact kx_mk (kxc_5_8_k hmn) (ey_lr (ey_lx rfl (ey_lx rfl (ey_li v1 v2 ey_l0)))) rfl
  by_cases c9 : n ≤ 9
  · obtain rfl : n = 9 := by omega
    obtain rfl : t = 9 := h1 (by decide)
    exact kx_mk (kxc_5_9_k hmn) (ey_lr (ey_lx rfl (ey_lx rfl (ey_li v1 v2 ey_l0)))) rfl
  by_cases c10 : n ≤ 10
  · obtain rfl : n = 10 := by omega
    obtain rfl : t = 10 := h1 (by decide)
    exact kx_mk (kxc_5_10_k hmn) (ey_lr (ey_lx rfl (ey_lx rfl (ey_li v1 v2 ey_l0)))) rfl
  by_cases c11 : n ≤ 11
  · obtain rfl : n = 11 := by omega
    obtain rfl : t = 11 := h1 (by decide)
    exact kx_mk (kxc_5_11_k hmn) (ey_lr (ey_lx rfl (ey_lx rfl (ey_li v1 v2 ey_l0)))) rfl
  by_cases c12 : n ≤ 12
  · obtain rfl : n = 12 := by omega
    obtain rfl : t = 12 := h1 (by decide)
    exact kx_mk (kxc_5_12_k hmn) (ey_lr (ey_lx rfl (ey_lx rfl (ey_li v1 v2 ey_l0)))) rfl
  by_cases c13 : n ≤ 13
  · obtain rfl : n = 13 := by omega
    obtain rfl : t = 13 := h1 (by decide)
    exact kx_mk (kxc_5_13_k hmn) (ey_lr (ey_lx rfl (ey_lx rfl (ey_li v1 v2 ey_l0)))) rfl
  by_cases c14 : n ≤ 14
  · obtain rfl : n = 14 := by omega
    obtain rfl : t = 14 := h1 (by decide)
    exact kx_mk (kxc_5_14_k hmn) (ey_lr (ey_lx rfl (ey_lx rfl (ey_li v1 v2 ey_l0)))) rfl
  by_cases c15 : n ≤ 15
  · obtain rfl : n = 15 := by omega
    obtain rfl : t = 15 := h1 (by decide)
    exact kx_mk (kxc_5_15_k hmn) (ey_lr (ey_lx rfl (ey_lx rfl (ey_li v1 v2 ey_l0)))) rfl
  by_cases c16 : n ≤ 16
  · obtain rfl : n = 16 := by omega
    obtain rfl : t = 16 := h1 (by decide)
    exact kx_mk (kxc_5_16_k hmn) (ey_lr (ey_lx rfl (ey_lx rfl (ey_li v1 v2 ey_l0)))) rfl
  by_cases c17 : n ≤ 17
  · obtain rfl : n = 17 := by omega
    obtain rfl : t = 17 := h1 (by decide)
    exact kx_mk (kxc_5_17_k hmn) (ey_lr (ey_lx rfl (ey_lx rfl (ey_li v1 v2 ey_l0)))) rfl
  by_cases c18 : n ≤ 18
  · obtain rfl : n = 18 := by omega
    obtain rfl : t = 18 := h1 (by decide)
    exact kx_mk (kxc_5_18_k hmn) (ey_lr (ey_lx rfl (ey_lx rfl (ey_li v1 v2 ey_l0)))) rfl
  by_cases c19 : n ≤ 19
  · obtain rfl : n = 19 := by omega
    obtain rfl : t = 19 := h1 (by decide)
    exact kx_mk (kxc_5_19_k hmn) (ey_lr (ey_lx rfl (ey_lx rfl (ey_li v1 v2 ey_l0)))) rfl
  obtain rfl : t = 19 := h2 (by omega)
  exact kx_mk (kxc_5_b_k hmn) (ey_lr (ey_lx rfl (ey_li (show (20 : Int) ≤ n by omega) n2 (ey_li v1 v2 ey_l0)))) rfl
theorem kx_c_6 {l : Launch} {D : va_G} {τ : Nat → ClassId} {sa : List Nat} {A : Nat → Prop} (hmn : em_mna) {L P : Nat} {n v t : Int} (n1 : 1 ≤ n) (n2 : n ≤ 24) (v1 : -400 ≤ v) (v2 : v ≤ 200) (h1 : n ≤ 18 → t = n) (h2 : 18 < n → t = 18) : em_X l D τ sa A 89 [(.inr (.inr (.inl (some 5)))), .inl 6, .inl n, .inl v] (el_h L P) (fun w hp' => w = some (.inl t) ∧ hp' = el_h L P) 2 := by
  by_cases c1 : n ≤ 1
  · obtain rfl : n = 1 := by omega
    obtain rfl : t = 1 := h1 (by decide)
    exact kx_mk (kxc_6_1_k hmn) (ey_lr (ey_lx rfl (ey_lx rfl (ey_li v1 v2 ey_l0)))) rfl
  by_cases c2 : n ≤ 2
  · obtain rfl : n = 2 := by omega
    obtain rfl : t = 2 := h1 (by decide)
    exact kx_mk (kxc_6_2_k hmn) (ey_lr (ey_lx rfl (ey_lx rfl (ey_li v1 v2 ey_l0)))) rfl
  by_cases c3 : n ≤ 3
  · obtain rfl : n = 3 := by omega
    obtain rfl : t = 3 := h1 (by decide)
    exact kx_mk (kxc_6_3_k hmn) (ey_lr (ey_lx rfl (ey_lx rfl (ey_li v1 v2 ey_l0)))) rfl
  by_cases c4 : n ≤ 4
  · obtain rfl : n = 4 := by omega
    obtain rfl : t = 4 := h1 (by decide)
    exact kx_mk (kxc_6_4_k hmn) (ey_lr (ey_lx rfl (ey_lx rfl (ey_li v1 v2 ey_l0)))) rfl
  by_cases c5 : n ≤ 5
  · obtain rfl : n = 5 := by omega
    obtain rfl : t = 5 := h1 (by decide)
    exact kx_mk (kxc_6_5_k hmn) (ey_lr (ey_lx rfl (ey_lx rfl (ey_li v1 v2 ey_l0)))) rfl
  by_cases c6 : n ≤ 6
  · obtain rfl : n = 6 := by omega
    obtain rfl : t = 6 := h1 (by decide)
    exact kx_mk (kxc_6_6_k hmn) (ey_lr (ey_lx rfl (ey_lx rfl (ey_li v1 v2 ey_l0)))) rfl
  by_cases c7 : n ≤ 7
  · obtain rfl : n = 7 := by omega
    obtain rfl : t = 7 := h1 (by decide)
    exact kx_mk (kxc_6_7_k hmn) (ey_lr (ey_lx rfl (ey_lx rfl (ey_li v1 v2 ey_l0)))) rfl
  by_cases c8 : n ≤ 8
  · obtain rfl : n = 8 := by omega
    obtain rfl : t = 8 := h1 (by decide)
    exact kx_mk (kxc_6_8_k hmn) (ey_lr (ey_lx rfl (ey_lx rfl (ey_li v1 v2 ey_l0)))) rfl
  by_cases c9 : n ≤ 9
  · obtain rfl : n = 9 := by omega
    obtain rfl : t = 9 := h1 (by decide)
    exact kx_mk (kxc_6_9_k hmn) (ey_lr (ey_lx rfl (ey_lx rfl (ey_li v1 v2 ey_l0)))) rfl
  by_cases c10 : n ≤ 10
  · obtain rfl : n = 10 := by omega
    obtain rfl : t = 10 := h1 (by decide)
    exact kx_mk (kxc_6_10_k hmn) (ey_lr (ey_lx rfl (ey_lx rfl (ey_li v1 v2 ey_l0)))) rfl
  by_cases c11 : n ≤ 11
  · obtain rfl : n = 11 := by omega
    obtain rfl : t = 11 := h1 (by decide)
    exact kx_mk (kxc_6_11_k hmn) (ey_lr (ey_lx rfl (ey_lx rfl (ey_li v1 v2 ey_l0)))) rfl
  by_cases c12 : n ≤ 12
  · obtain rfl : n = 12 := by omega
    obtain rfl : t = 12 := h1 (by decide)
    exact kx_mk (kxc_6_12_k hmn) (ey_lr (ey_lx rfl (ey_lx rfl (ey_li v1 v2 ey_l0)))) rfl
  by_cases c13 : n ≤ 13
  · obtain rfl : n = 13 := by omega
    obtain rfl : t = 13 := h1 (by decide)
    exact kx_mk (kxc_6_13_k hmn) (ey_lr (ey_lx rfl (ey_lx rfl (ey_li v1 v2 ey_l0)))) rfl
  by_cases c14 : n ≤ 14
  · obtain rfl : n = 14 := by omega
    obtain rfl : t = 14 := h1 (by decide)
    exact kx_mk (kxc_6_14_k hmn) (ey_lr (ey_lx rfl (ey_lx rfl (ey_li v1 v2 ey_l0)))) rfl
  by_cases c15 : n ≤ 15
  · obtain rfl : n = 15 := by omega
    obtain rfl : t = 15 := h1 (by decide)
    exact kx_mk (kxc_6_15_k hmn) (ey_lr (ey_lx rfl (ey_lx rfl (ey_li v1 v2 ey_l0)))) rfl
  by_cases c16 : n ≤ 16
  · obtain rfl : n = 16 := by omega
    obtain rfl : t = 16 := h1 (by decide)
    exact kx_mk (kxc_6_16_k hmn) (ey_lr (ey_lx rfl (ey_lx rfl (ey_li v1 v2 ey_l0)))) rfl
  by_cases c17 : n ≤ 17
  · obtain rfl : n = 17 := by omega
    obtain rfl : t = 17 := h1 (by decide)
    exact kx_mk (kxc_6_17_k hmn) (ey_lr (ey_lx rfl (ey_lx rfl (ey_li v1 v2 ey_l0)))) rfl
  by_cases c18 : n ≤ 18
  · obtain rfl : n = 18 := by omega
    obtain rfl : t = 18 := h1 (by decide)
    exact kx_mk (kxc_6_18_k hmn) (ey_lr (ey_lx rfl (ey_lx rfl (ey_li v1 v2 ey_l0)))) rfl
  obtain rfl : t = 18 := h2 (by omega)
  exact kx_mk (kxc_6_b_k hmn) (ey_lr (ey_lx rfl (ey_li (show (19 : Int) ≤ n by omega) n2 (ey_li v1 v2 ey_l0)))) rfl
theorem kx_c_7 {l : Launch} {D : va_G} {τ : Nat → ClassId} {sa : List Nat} {A : Nat → Prop} (hmn : em_mna) {L P : Nat} {n v t : Int} (n1 : 1 ≤ n) (n2 : n ≤ 24) (v1 : -400 ≤ v) (v2 : v ≤ 200) (h1 : n ≤ 17 → t = n) (h2 : 17 < n → t = 17) : em_X l D τ sa A 89 [(.inr (.inr (.inl (some 5)))), .inl 7, .inl n, .inl v] (el_h L P) (fun w hp' => w = some (.inl t) ∧ hp' = el_h L P) 2 := by
  by_cases c1 : n ≤ 1
  · obtain rfl : n = 1 := by omega
    obtain rfl : t = 1 := h1 (by decide)
    exact kx_mk (kxc_7_1_k hmn) (ey_lr (ey_lx rfl (ey_lx rfl (ey_li v1 v2 ey_l0)))) rfl
  by_cases c2 : n ≤ 2
  · obtain rfl : n = 2 := by omega
    obtain rfl : t = 2 := h1 (by decide)
    exact kx_mk (kxc_7_2_k hmn) (ey_lr (ey_lx rfl (ey_lx rfl (ey_li v1 v2 ey_l0)))) rfl
  by_cases c3 : n ≤ 3
  · obtain rfl : n = 3 := by omega
    obtain rfl : t = 3 := h1 (by decide)
    exact kx_mk (kxc_7_3_k hmn) (ey_lr (ey_lx rfl (ey_lx rfl (ey_li v1 v2 ey_l0)))) rfl
  by_cases c4 : n ≤ 4
  · obtain rfl : n = 4 := by omega
    obtain rfl : t = 4 := h1 (by decide)
    exact kx_mk (kxc_7_4_k hmn) (ey_lr (ey_lx rfl (ey_lx rfl (ey_li v1 v2 ey_l0)))) rfl
  by_cases c5 : n ≤ 5
  · obtain rfl : n = 5 := by omega
    obtain rfl : t = 5 := h1 (by decide)
    exact kx_mk (kxc_7_5_k hmn) (ey_lr (ey_lx rfl (ey_lx rfl (ey_li v1 v2 ey_l0)))) rfl
  by_cases c6 : n ≤ 6
  · obtain rfl : n = 6 := by omega
    obtain rfl : t = 6 := h1 (by decide)
    exact kx_mk (kxc_7_6_k hmn) (ey_lr (ey_lx rfl (ey_lx rfl (ey_li v1 v2 ey_l0)))) rfl
  by_cases c7 : n ≤ 7
  · obtain rfl : n = 7 := by omega
    obtain rfl : t = 7 := h1 (by decide)
    exact kx_mk (kxc_7_7_k hmn) (ey_lr (ey_lx rfl (ey_lx rfl (ey_li v1 v2 ey_l0)))) rfl
  by_cases c8 : n ≤ 8
  · obtain rfl : n = 8 := by omega
    obtain rfl : t = 8 := h1 (by decide)
    exact kx_mk (kxc_7_8_k hmn) (ey_lr (ey_lx rfl (ey_lx rfl (ey_li v1 v2 ey_l0)))) rfl
  by_cases c9 : n ≤ 9
  · obtain rfl : n = 9 := by omega
    obtain rfl : t = 9 := h1 (by decide)
    exact kx_mk (kxc_7_9_k hmn) (ey_lr (ey_lx rfl (ey_lx rfl (ey_li v1 v2 ey_l0)))) rfl
  by_cases c10 : n ≤ 10
  · obtain rfl : n = 10 := by omega
    obtain rfl : t = 10 := h1 (by decide)
    exact kx_mk (kxc_7_10_k hmn) (ey_lr (ey_lx rfl (ey_lx rfl (ey_li v1 v2 ey_l0)))) rfl
  by_cases c11 : n ≤ 11
  · obtain rfl : n = 11 := by omega
    obtain rfl : t = 11 := h1 (by decide)
    exact kx_mk (kxc_7_11_k hmn) (ey_lr (ey_lx rfl (ey_lx rfl (ey_li v1 v2 ey_l0)))) rfl
  by_cases c12 : n ≤ 12
  · obtain rfl : n = 12 := by omega
    obtain rfl : t = 12 := h1 (by decide)
    exact kx_mk (kxc_7_12_k hmn) (ey_lr (ey_lx rfl (ey_lx rfl (ey_li v1 v2 ey_l0)))) rfl
  by_cases c13 : n ≤ 13
  · obtain rfl : n = 13 := by omega
    obtain rfl : t = 13 := h1 (by decide)
    exact kx_mk (kxc_7_13_k hmn) (ey_lr (ey_lx rfl (ey_lx rfl (ey_li v1 v2 ey_l0)))) rfl
  by_cases c14 : n ≤ 14
  · obtain rfl : n = 14 := by omega
    obtain rfl : t = 14 := h1 (by decide)
    exact kx_mk (kxc_7_14_k hmn) (ey_lr (ey_lx rfl (ey_lx rfl (ey_li v1 v2 ey_l0)))) rfl
  by_cases c15 : n ≤ 15
  · obtain rfl : n = 15 := by omega
    obtain rfl : t = 15 := h1 (by decide)
    exact kx_mk (kxc_7_15_k hmn) (ey_lr (ey_lx rfl (ey_lx rfl (ey_li v1 v2 ey_l0)))) rfl
  by_cases c16 : n ≤ 16
  · obtain rfl : n = 16 := by omega
    obtain rfl : t = 16 := h1 (by decide)
    exact kx_mk (kxc_7_16_k hmn) (ey_lr (ey_lx rfl (ey_lx rfl (ey_li v1 v2 ey_l0)))) rfl
  by_cases c17 : n ≤ 17
  · obtain rfl : n = 17 := by omega
    obtain rfl : t = 17 := h1 (by decide)
    exact kx_mk (kxc_7_17_k hmn) (ey_lr (ey_lx rfl (ey_lx rfl (ey_li v1 v2 ey_l0)))) rfl
  obtain rfl : t = 17 := h2 (by omega)
  exact kx_mk (kxc_7_b_k hmn) (ey_lr (ey_lx rfl (ey_li (show (18 : Int) ≤ n by omega) n2 (ey_li v1 v2 ey_l0)))) rfl
theorem kx_c_8 {l : Launch} {D : va_G} {τ : Nat → ClassId} {sa : List Nat} {A : Nat → Prop} (hmn : em_mna) {L P : Nat} {n v t : Int} (n1 : 1 ≤ n) (n2 : n ≤ 24) (v1 : -400 ≤ v) (v2 : v ≤ 200) (h1 : n ≤ 16 → t = n) (h2 : 16 < n → t = 16) : em_X l D τ sa A 89 [(.inr (.inr (.inl (some 5)))), .inl 8, .inl n, .inl v] (el_h L P) (fun w hp' => w = some (.inl t) ∧ hp' = el_h L P) 2 := by
  by_cases c1 : n ≤ 1
  · obtain rfl : n = 1 := by omega
    obtain rfl : t = 1 := h1 (by decide)
    exact kx_mk (kxc_8_1_k hmn) (ey_lr (ey_lx rfl (ey_lx rfl (ey_li v1 v2 ey_l0)))) rfl
  by_cases c2 : n ≤ 2
  · obtain rfl : n = 2 := by omega
    obtain rfl : t = 2 := h1 (by decide)
    exact kx_mk (kxc_8_2_k hmn) (ey_lr (ey_lx rfl (ey_lx rfl (ey_li v1 v2 ey_l0)))) rfl
  by_cases c3 : n ≤ 3
  · obtain rfl : n = 3 := by omega
    obtain rfl : t = 3 := h1 (by decide)
    exact kx_mk (kxc_8_3_k hmn) (ey_lr (ey_lx rfl (ey_lx rfl (ey_li v1 v2 ey_l0)))) rfl
  by_cases c4 : n ≤ 4
  · obtain rfl : n = 4 := by omega
    obtain rfl : t = 4 := h1 (by decide)
    exact kx_mk (kxc_8_4_k hmn) (ey_lr (ey_lx rfl (ey_lx rfl (ey_li v1 v2 ey_l0)))) rfl
  by_cases c5 : n ≤ 5
  · obtain rfl : n = 5 := by omega
    obtain rfl : t = 5 := h1 (by decide)
    exact kx_mk (kxc_8_5_k hmn) (ey_lr (ey_lx rfl (ey_lx rfl (ey_li v1 v2 ey_l0)))) rfl
  by_cases c6 : n ≤ 6
  · obtain rfl : n = 6 := by omega
    obtain rfl : t = 6 := h1 (by decide)
    exact kx_mk (kxc_8_6_k hmn) (ey_lr (ey_lx rfl (ey_lx rfl (ey_li v1 v2 ey_l0)))) rfl
  by_cases c7 : n ≤ 7
  · obtain rfl : n = 7 := by omega
    obtain rfl : t = 7 := h1 (by decide)
    exact kx_mk (kxc_8_7_k hmn) (ey_lr (ey_lx rfl (ey_lx rfl (ey_li v1 v2 ey_l0)))) rfl
  by_cases c8 : n ≤ 8
  · obtain rfl : n = 8 := by omega
    obtain rfl : t = 8 := h1 (by decide)
    exact kx_mk (kxc_8_8_k hmn) (ey_lr (ey_lx rfl (ey_lx rfl (ey_li v1 v2 ey_l0)))) rfl
  by_cases c9 : n ≤ 9
  · obtain rfl : n = 9 := by omega
    obtain rfl : t = 9 := h1 (by decide)
    exact kx_mk (kxc_8_9_k hmn) (ey_lr (ey_lx rfl (ey_lx rfl (ey_li v1 v2 ey_l0)))) rfl
  by_cases c10 : n ≤ 10
  · obtain rfl : n = 10 := by omega
    obtain rfl : t = 10 := h1 (by decide)
    exact kx_mk (kxc_8_10_k hmn) (ey_lr (ey_lx rfl (ey_lx rfl (ey_li v1 v2 ey_l0)))) rfl
  by_cases c11 : n ≤ 11
  · obtain rfl : n = 11 := by omega
    obtain rfl : t = 11 := h1 (by decide)
    exact kx_mk (kxc_8_11_k hmn) (ey_lr (ey_lx rfl (ey_lx rfl (ey_li v1 v2 ey_l0)))) rfl
  by_cases c12 : n ≤ 12
  · obtain rfl : n = 12 := by omega
    obtain rfl : t = 12 := h1 (by decide)
    exact kx_mk (kxc_8_12_k hmn) (ey_lr (ey_lx rfl (ey_lx rfl (ey_li v1 v2 ey_l0)))) rfl
  by_cases c13 : n ≤ 13
  · obtain rfl : n = 13 := by omega
    obtain rfl : t = 13 := h1 (by decide)
    exact kx_mk (kxc_8_13_k hmn) (ey_lr (ey_lx rfl (ey_lx rfl (ey_li v1 v2 ey_l0)))) rfl
  by_cases c14 : n ≤ 14
  · obtain rfl : n = 14 := by omega
    obtain rfl : t = 14 := h1 (by decide)
    exact kx_mk (kxc_8_14_k hmn) (ey_lr (ey_lx rfl (ey_lx rfl (ey_li v1 v2 ey_l0)))) rfl
  by_cases c15 : n ≤ 15
  · obtain rfl : n = 15 := by omega
    obtain rfl : t = 15 := h1 (by decide)
    exact kx_mk (kxc_8_15_k hmn) (ey_lr (ey_lx rfl (ey_lx rfl (ey_li v1 v2 ey_l0)))) rfl
  by_cases c16 : n ≤ 16
  · obtain rfl : n = 16 := by omega
    obtain rfl : t = 16 := h1 (by decide)
    exact kx_mk (kxc_8_16_k hmn) (ey_lr (ey_lx rfl (ey_lx rfl (ey_li v1 v2 ey_l0)))) rfl
  obtain rfl : t = 16 := h2 (by omega)
  exact kx_mk (kxc_8_b_k hmn) (ey_lr (ey_lx rfl (ey_li (show (17 : Int) ≤ n by omega) n2 (ey_li v1 v2 ey_l0)))) rfl
theorem kx_c_9 {l : Launch} {D : va_G} {τ : Nat → ClassId} {sa : List Nat} {A : Nat → Prop} (hmn : em_mna) {L P : Nat} {n v t : Int} (n1 : 1 ≤ n) (n2 : n ≤ 24) (v1 : -400 ≤ v) (v2 : v ≤ 200) (h1 : n ≤ 15 → t = n) (h2 : 15 < n → t = 15) : em_X l D τ sa A 89 [(.inr (.inr (.inl (some 5)))), .inl 9, .inl n, .inl v] (el_h L P) (fun w hp' => w = some (.inl t) ∧ hp' = el_h L P) 2 := by
  by_cases c1 : n ≤ 1
  · obtain rfl : n = 1 := by omega
    obtain rfl : t = 1 := h1 (by decide)
    exact kx_mk (kxc_9_1_k hmn) (ey_lr (ey_lx rfl (ey_lx rfl (ey_li v1 v2 ey_l0)))) rfl
  by_cases c2 : n ≤ 2
  · obtain rfl : n = 2 := by omega
    obtain rfl : t = 2 := h1 (by decide)
    exact kx_mk (kxc_9_2_k hmn) (ey_lr (ey_lx rfl (ey_lx rfl (ey_li v1 v2 ey_l0)))) rfl
  by_cases c3 : n ≤ 3
  · obtain rfl : n = 3 := by omega
    obtain rfl : t = 3 := h1 (by decide)
    exact kx_mk (kxc_9_3_k hmn) (ey_lr (ey_lx rfl (ey_lx rfl (ey_li v1 v2 ey_l0)))) rfl
  by_cases c4 : n ≤ 4
  · obtain rfl : n = 4 := by omega
    obtain rfl : t = 4 := h1 (by decide)
    exact kx_mk (kxc_9_4_k hmn) (ey_lr (ey_lx rfl (ey_lx rfl (ey_li v1 v2 ey_l0)))) rfl
  by_cases c5 : n ≤ 5
  · obtain rfl : n = 5 := by omega
    obtain rfl : t = 5 := h1 (by decide)
    exact kx_mk (kxc_9_5_k hmn) (ey_lr (ey_lx rfl (ey_lx rfl (ey_li v1 v2 ey_l0)))) rfl
  by_cases c6 : n ≤ 6
  · obtain rfl : n = 6 := by omega
    obtain rfl : t = 6 := h1 (by decide)
    exact kx_mk (kxc_9_6_k hmn) (ey_lr (ey_lx rfl (ey_lx rfl (ey_li v1 v2 ey_l0)))) rfl
  by_cases c7 : n ≤ 7
  · obtain rfl : n = 7 := by omega
    obtain rfl : t = 7 := h1 (by decide)
    exact kx_mk (kxc_9_7_k hmn) (ey_lr (ey_lx rfl (ey_lx rfl (ey_li v1 v2 ey_l0)))) rfl
  by_cases c8 : n ≤ 8
  · obtain rfl : n = 8 := by omega
    obtain rfl : t = 8 := h1 (by decide)
    exact kx_mk (kxc_9_8_k hmn) (ey_lr (ey_lx rfl (ey_lx rfl (ey_li v1 v2 ey_l0)))) rfl
  by_cases c9 : n ≤ 9
  · obtain rfl : n = 9 := by omega
    obtain rfl : t = 9 := h1 (by decide)
    exact kx_mk (kxc_9_9_k hmn) (ey_lr (ey_lx rfl (ey_lx rfl (ey_li v1 v2 ey_l0)))) rfl
  by_cases c10 : n ≤ 10
  · obtain rfl : n = 10 := by omega
    obtain rfl : t = 10 := h1 (by decide)
    exact kx_mk (kxc_9_10_k hmn) (ey_lr (ey_lx rfl (ey_lx rfl (ey_li v1 v2 ey_l0)))) rfl
  by_cases c11 : n ≤ 11
  · obtain rfl : n = 11 := by omega
    obtain rfl : t = 11 := h1 (by decide)
    exact kx_mk (kxc_9_11_k hmn) (ey_lr (ey_lx rfl (ey_lx rfl (ey_li v1 v2 ey_l0)))) rfl
  by_cases c12 : n ≤ 12
  · obtain rfl : n = 12 := by omega
    obtain rfl : t = 12 := h1 (by decide)
    exact kx_mk (kxc_9_12_k hmn) (ey_lr (ey_lx rfl (ey_lx rfl (ey_li v1 v2 ey_l0)))) rfl
  by_cases c13 : n ≤ 13
  · obtain rfl : n = 13 := by omega
    obtain rfl : t = 13 := h1 (by decide)
    exact kx_mk (kxc_9_13_k hmn) (ey_lr (ey_lx rfl (ey_lx rfl (ey_li v1 v2 ey_l0)))) rfl
  by_cases c14 : n ≤ 14
  · obtain rfl : n = 14 := by omega
    obtain rfl : t = 14 := h1 (by decide)
    exact kx_mk (kxc_9_14_k hmn) (ey_lr (ey_lx rfl (ey_lx rfl (ey_li v1 v2 ey_l0)))) rfl
  by_cases c15 : n ≤ 15
  · obtain rfl : n = 15 := by omega
    obtain rfl : t = 15 := h1 (by decide)
    exact kx_mk (kxc_9_15_k hmn) (ey_lr (ey_lx rfl (ey_lx rfl (ey_li v1 v2 ey_l0)))) rfl
  obtain rfl : t = 15 := h2 (by omega)
  exact kx_mk (kxc_9_b_k hmn) (ey_lr (ey_lx rfl (ey_li (show (16 : Int) ≤ n by omega) n2 (ey_li v1 v2 ey_l0)))) rfl
theorem kx_c_10 {l : Launch} {D : va_G} {τ : Nat → ClassId} {sa : List Nat} {A : Nat → Prop} (hmn : em_mna) {L P : Nat} {n v t : Int} (n1 : 1 ≤ n) (n2 : n ≤ 24) (v1 : -400 ≤ v) (v2 : v ≤ 200) (h1 : n ≤ 14 → t = n) (h2 : 14 < n → t = 14) : em_X l D τ sa A 89 [(.inr (.inr (.inl (some 5)))), .inl 10, .inl n, .inl v] (el_h L P) (fun w hp' => w = some (.inl t) ∧ hp' = el_h L P) 2 := by
  by_cases c1 : n ≤ 1
  · obtain rfl : n = 1 := by omega
    obtain rfl : t = 1 := h1 (by decide)
    exact kx_mk (kxc_10_1_k hmn) (ey_lr (ey_lx rfl (ey_lx rfl (ey_li v1 v2 ey_l0)))) rfl
  by_cases c2 : n ≤ 2
  · obtain rfl : n = 2 := by omega
    obtain rfl : t = 2 := h1 (by decide)
    exact kx_mk (kxc_10_2_k hmn) (ey_lr (ey_lx rfl (ey_lx rfl (ey_li v1 v2 ey_l0)))) rfl
  by_cases c3 : n ≤ 3
  · obtain rfl : n = 3 := by omega
    obtain rfl : t = 3 := h1 (by decide)
    exact kx_mk (kxc_10_3_k hmn) (ey_lr (ey_lx rfl (ey_lx rfl (ey_li v1 v2 ey_l0)))) rfl
  by_cases c4 : n ≤ 4
  · obtain rfl : n = 4 := by omega
    obtain rfl : t = 4 := h1 (by decide)
    exact kx_mk (kxc_10_4_k hmn) (ey_lr (ey_lx rfl (ey_lx rfl (ey_li v1 v2 ey_l0)))) rfl
  by_cases c5 : n ≤ 5
  · obtain rfl : n = 5 := by omega
    obtain rfl : t = 5 := h1 (by decide)
    exact kx_mk (kxc_10_5_k hmn) (ey_lr (ey_lx rfl (ey_lx rfl (ey_li v1 v2 ey_l0)))) rfl
  by_cases c6 : n ≤ 6
  · obtain rfl : n = 6 := by omega
    obtain rfl : t = 6 := h1 (by decide)
    exact kx_mk (kxc_10_6_k hmn) (ey_lr (ey_lx rfl (ey_lx rfl (ey_li v1 v2 ey_l0)))) rfl
  by_cases c7 : n ≤ 7
  · obtain rfl : n = 7 := by omega
    obtain rfl : t = 7 := h1 (by decide)
    exact kx_mk (kxc_10_7_k hmn) (ey_lr (ey_lx rfl (ey_lx rfl (ey_li v1 v2 ey_l0)))) rfl
  by_cases c8 : n ≤ 8
  · obtain rfl : n = 8 := by omega
    obtain rfl : t = 8 := h1 (by decide)
    exact kx_mk (kxc_10_8_k hmn) (ey_lr (ey_lx rfl (ey_lx rfl (ey_li v1 v2 ey_l0)))) rfl
  by_cases c9 : n ≤ 9
  · obtain rfl : n = 9 := by omega
    obtain rfl : t = 9 := h1 (by decide)
    exact kx_mk (kxc_10_9_k hmn) (ey_lr (ey_lx rfl (ey_lx rfl (ey_li v1 v2 ey_l0)))) rfl
  by_cases c10 : n ≤ 10
  · obtain rfl : n = 10 := by omega
    obtain rfl : t = 10 := h1 (by decide)
    exact kx_mk (kxc_10_10_k hmn) (ey_lr (ey_lx rfl (ey_lx rfl (ey_li v1 v2 ey_l0)))) rfl
  by_cases c11 : n ≤ 11
  · obtain rfl : n = 11 := by omega
    obtain rfl : t = 11 := h1 (by decide)
    exact kx_mk (kxc_10_11_k hmn) (ey_lr (ey_lx rfl (ey_lx rfl (ey_li v1 v2 ey_l0)))) rfl
  by_cases c12 : n ≤ 12
  · obtain rfl : n = 12 := by omega
    obtain rfl : t = 12 := h1 (by decide)
    exact kx_mk (kxc_10_12_k hmn) (ey_lr (ey_lx rfl (ey_lx rfl (ey_li v1 v2 ey_l0)))) rfl
  by_cases c13 : n ≤ 13
  · obtain rfl : n = 13 := by omega
    obtain rfl : t = 13 := h1 (by decide)
    exact kx_mk (kxc_10_13_k hmn) (ey_lr (ey_lx rfl (ey_lx rfl (ey_li v1 v2 ey_l0)))) rfl
  by_cases c14 : n ≤ 14
  · obtain rfl : n = 14 := by omega
    obtain rfl : t = 14 := h1 (by decide)
    exact kx_mk (kxc_10_14_k hmn) (ey_lr (ey_lx rfl (ey_lx rfl (ey_li v1 v2 ey_l0)))) rfl
  obtain rfl : t = 14 := h2 (by omega)
  exact kx_mk (kxc_10_b_k hmn) (ey_lr (ey_lx rfl (ey_li (show (15 : Int) ≤ n by omega) n2 (ey_li v1 v2 ey_l0)))) rfl
theorem kx_c_11 {l : Launch} {D : va_G} {τ : Nat → ClassId} {sa : List Nat} {A : Nat → Prop} (hmn : em_mna) {L P : Nat} {n v t : Int} (n1 : 1 ≤ n) (n2 : n ≤ 24) (v1 : -400 ≤ v) (v2 : v ≤ 200) (h1 : n ≤ 13 → t = n) (h2 : 13 < n → t = 13) : em_X l D τ sa A 89 [(.inr (.inr (.inl (some 5)))), .inl 11, .inl n, .inl v] (el_h L P) (fun w hp' => w = some (.inl t) ∧ hp' = el_h L P) 2 := by
  by_cases c1 : n ≤ 1
  · obtain rfl : n = 1 := by omega
    obtain rfl : t = 1 := h1 (by decide)
    exact kx_mk (kxc_11_1_k hmn) (ey_lr (ey_lx rfl (ey_lx rfl (ey_li v1 v2 ey_l0)))) rfl
  by_cases c2 : n ≤ 2
  · obtain rfl : n = 2 := by omega
    obtain rfl : t = 2 := h1 (by decide)
    exact kx_mk (kxc_11_2_k hmn) (ey_lr (ey_lx rfl (ey_lx rfl (ey_li v1 v2 ey_l0)))) rfl
  by_cases c3 : n ≤ 3
  · obtain rfl : n = 3 := by omega
    obtain rfl : t = 3 := h1 (by decide)
    exact kx_mk (kxc_11_3_k hmn) (ey_lr (ey_lx rfl (ey_lx rfl (ey_li v1 v2 ey_l0)))) rfl
  by_cases c4 : n ≤ 4
  · obtain rfl : n = 4 := by omega
    obtain rfl : t = 4 := h1 (by decide)
    exact kx_mk (kxc_11_4_k hmn) (ey_lr (ey_lx rfl (ey_lx rfl (ey_li v1 v2 ey_l0)))) rfl
  by_cases c5 : n ≤ 5
  · obtain rfl : n = 5 := by omega
    obtain rfl : t = 5 := h1 (by decide)
    exact kx_mk (kxc_11_5_k hmn) (ey_lr (ey_lx rfl (ey_lx rfl (ey_li v1 v2 ey_l0)))) rfl
  by_cases c6 : n ≤ 6
  · obtain rfl : n = 6 := by omega
    obtain rfl : t = 6 := h1 (by decide)
    exact kx_mk (kxc_11_6_k hmn) (ey_lr (ey_lx rfl (ey_lx rfl (ey_li v1 v2 ey_l0)))) rfl
  by_cases c7 : n ≤ 7
  · obtain rfl : n = 7 := by omega
    obtain rfl : t = 7 := h1 (by decide)
    exact kx_mk (kxc_11_7_k hmn) (ey_lr (ey_lx rfl (ey_lx rfl (ey_li v1 v2 ey_l0)))) rfl
  by_cases c8 : n ≤ 8
  · obtain rfl : n = 8 := by omega
    obtain rfl : t = 8 := h1 (by decide)
    exact kx_mk (kxc_11_8_k hmn) (ey_lr (ey_lx rfl (ey_lx rfl (ey_li v1 v2 ey_l0)))) rfl
  by_cases c9 : n ≤ 9
  · obtain rfl : n = 9 := by omega
    obtain rfl : t = 9 := h1 (by decide)
    exact kx_mk (kxc_11_9_k hmn) (ey_lr (ey_lx rfl (ey_lx rfl (ey_li v1 v2 ey_l0)))) rfl
  by_cases c10 : n ≤ 10
  · obtain rfl : n = 10 := by omega
    obtain rfl : t = 10 := h1 (by decide)
    exact kx_mk (kxc_11_10_k hmn) (ey_lr (ey_lx rfl (ey_lx rfl (ey_li v1 v2 ey_l0)))) rfl
  by_cases c11 : n ≤ 11
  · obtain rfl : n = 11 := by omega
    obtain rfl : t = 11 := h1 (by decide)
    exact kx_mk (kxc_11_11_k hmn) (ey_lr (ey_lx rfl (ey_lx rfl (ey_li v1 v2 ey_l0)))) rfl
  by_cases c12 : n ≤ 12
  · obtain rfl : n = 12 := by omega
    obtain rfl : t = 12 := h1 (by decide)
    exact kx_mk (kxc_11_12_k hmn) (ey_lr (ey_lx rfl (ey_lx rfl (ey_li v1 v2 ey_l0)))) rfl
  by_cases c13 : n ≤ 13
  · obtain rfl : n = 13 := by omega
    obtain rfl : t = 13 := h1 (by decide)
    exact kx_mk (kxc_11_13_k hmn) (ey_lr (ey_lx rfl (ey_lx rfl (ey_li v1 v2 ey_l0)))) rfl
  obtain rfl : t = 13 := h2 (by omega)
  exact kx_mk (kxc_11_b_k hmn) (ey_lr (ey_lx rfl (ey_li (show (14 : Int) ≤ n by omega) n2 (ey_li v1 v2 ey_l0)))) rfl
theorem kx_c_12 {l : Launch} {D : va_G} {τ : Nat → ClassId} {sa : List Nat} {A : Nat → Prop} (hmn : em_mna) {L P : Nat} {n v t : Int} (n1 : 1 ≤ n) (n2 : n ≤ 24) (v1 : -400 ≤ v) (v2 : v ≤ 200) (h1 : n ≤ 12 → t = n) (h2 : 12 < n → t = 12) : em_X l D τ sa A 89 [(.inr (.inr (.inl (some 5)))), .inl 12, .inl n, .inl v] (el_h L P) (fun w hp' => w = some (.inl t) ∧ hp' = el_h L P) 2 := by
  by_cases c1 : n ≤ 1
  · obtain rfl : n = 1 := by omega
    obtain rfl : t = 1 := h1 (by decide)
    exact kx_mk (kxc_12_1_k hmn) (ey_lr (ey_lx rfl (ey_lx rfl (ey_li v1 v2 ey_l0)))) rfl
  by_cases c2 : n ≤ 2
  · obtain rfl : n = 2 := by omega
    obtain rfl : t = 2 := h1 (by decide)
    exact kx_mk (kxc_12_2_k hmn) (ey_lr (ey_lx rfl (ey_lx rfl (ey_li v1 v2 ey_l0)))) rfl
  by_cases c3 : n ≤ 3
  · obtain rfl : n = 3 := by omega
    obtain rfl : t = 3 := h1 (by decide)
    exact kx_mk (kxc_12_3_k hmn) (ey_lr (ey_lx rfl (ey_lx rfl (ey_li v1 v2 ey_l0)))) rfl
  by_cases c4 : n ≤ 4
  · obtain rfl : n = 4 := by omega
    obtain rfl : t = 4 := h1 (by decide)
    exact kx_mk (kxc_12_4_k hmn) (ey_lr (ey_lx rfl (ey_lx rfl (ey_li v1 v2 ey_l0)))) rfl
  by_cases c5 : n ≤ 5
  · obtain rfl : n = 5 := by omega
    obtain rfl : t = 5 := h1 (by decide)
    exact kx_mk (kxc_12_5_k hmn) (ey_lr (ey_lx rfl (ey_lx rfl (ey_li v1 v2 ey_l0)))) rfl
  by_cases c6 : n ≤ 6
  · obtain rfl : n = 6 := by omega
    obtain rfl : t = 6 := h1 (by decide)
    exact kx_mk (kxc_12_6_k hmn) (ey_lr (ey_lx rfl (ey_lx rfl (ey_li v1 v2 ey_l0)))) rfl
  by_cases c7 : n ≤ 7
  · obtain rfl : n = 7 := by omega
    obtain rfl : t = 7 := h1 (by decide)
    exact kx_mk (kxc_12_7_k hmn) (ey_lr (ey_lx rfl (ey_lx rfl (ey_li v1 v2 ey_l0)))) rfl
  by_cases c8 : n ≤ 8
  · obtain rfl : n = 8 := by omega
    obtain rfl : t = 8 := h1 (by decide)
    exact kx_mk (kxc_12_8_k hmn) (ey_lr (ey_lx rfl (ey_lx rfl (ey_li v1 v2 ey_l0)))) rfl
  by_cases c9 : n ≤ 9
  · obtain rfl : n = 9 := by omega
    obtain rfl : t = 9 := h1 (by decide)
    exact kx_mk (kxc_12_9_k hmn) (ey_lr (ey_lx rfl (ey_lx rfl (ey_li v1 v2 ey_l0)))) rfl
  by_cases c10 : n ≤ 10
  · obtain rfl : n = 10 := by omega
    obtain rfl : t = 10 := h1 (by decide)
    exact kx_mk (kxc_12_10_k hmn) (ey_lr (ey_lx rfl (ey_lx rfl (ey_li v1 v2 ey_l0)))) rfl
  by_cases c11 : n ≤ 11
  · obtain rfl : n = 11 := by omega
    obtain rfl : t = 11 := h1 (by decide)
    exact kx_mk (kxc_12_11_k hmn) (ey_lr (ey_lx rfl (ey_lx rfl (ey_li v1 v2 ey_l0)))) rfl
  by_cases c12 : n ≤ 12
  · obtain rfl : n = 12 := by omega
    obtain rfl : t = 12 := h1 (by decide)
    exact kx_mk (kxc_12_12_k hmn) (ey_lr (ey_lx rfl (ey_lx rfl (ey_li v1 v2 ey_l0)))) rfl
  obtain rfl : t = 12 := h2 (by omega)
  exact kx_mk (kxc_12_b_k hmn) (ey_lr (ey_lx rfl (ey_li (show (13 : Int) ≤ n by omega) n2 (ey_li v1 v2 ey_l0)))) rfl
theorem kx_c_13 {l : Launch} {D : va_G} {τ : Nat → ClassId} {sa : List Nat} {A : Nat → Prop} (hmn : em_mna) {L P : Nat} {n v t : Int} (n1 : 1 ≤ n) (n2 : n ≤ 24) (v1 : -400 ≤ v) (v2 : v ≤ 200) (h1 : n ≤ 11 → t = n) (h2 : 11 < n → t = 11) : em_X l D τ sa A 89 [(.inr (.inr (.inl (some 5)))), .inl 13, .inl n, .inl v] (el_h L P) (fun w hp' => w = some (.inl t) ∧ hp' = el_h L P) 2 := by
  by_cases c1 : n ≤ 1
  · obtain rfl : n = 1 := by omega
    obtain rfl : t = 1 := h1 (by decide)
    exact kx_mk (kxc_13_1_k hmn) (ey_lr (ey_lx rfl (ey_lx rfl (ey_li v1 v2 ey_l0)))) rfl
  by_cases c2 : n ≤ 2
  · obtain rfl : n = 2 := by omega
    obtain rfl : t = 2 := h1 (by decide)
    exact kx_mk (kxc_13_2_k hmn) (ey_lr (ey_lx rfl (ey_lx rfl (ey_li v1 v2 ey_l0)))) rfl
  by_cases c3 : n ≤ 3
  · obtain rfl : n = 3 := by omega
    obtain rfl : t = 3 := h1 (by decide)
    exact kx_mk (kxc_13_3_k hmn) (ey_lr (ey_lx rfl (ey_lx rfl (ey_li v1 v2 ey_l0)))) rfl
  by_cases c4 : n ≤ 4
  · obtain rfl : n = 4 := by omega
    obtain rfl : t = 4 := h1 (by decide)
    exact kx_mk (kxc_13_4_k hmn) (ey_lr (ey_lx rfl (ey_lx rfl (ey_li v1 v2 ey_l0)))) rfl
  by_cases c5 : n ≤ 5
  · obtain rfl : n = 5 := by omega
    obtain rfl : t = 5 := h1 (by decide)
    exact kx_mk (kxc_13_5_k hmn) (ey_lr (ey_lx rfl (ey_lx rfl (ey_li v1 v2 ey_l0)))) rfl
  by_cases c6 : n ≤ 6
  · obtain rfl : n = 6 := by omega
    obtain rfl : t = 6 := h1 (by decide)
    exact kx_mk (kxc_13_6_k hmn) (ey_lr (ey_lx rfl (ey_lx rfl (ey_li v1 v2 ey_l0)))) rfl
  by_cases c7 : n ≤ 7
  · obtain rfl : n = 7 := by omega
    obtain rfl : t = 7 := h1 (by decide)
    exact kx_mk (kxc_13_7_k hmn) (ey_lr (ey_lx rfl (ey_lx rfl (ey_li v1 v2 ey_l0)))) rfl
  by_cases c8 : n ≤ 8
  · obtain rfl : n = 8 := by omega
    obtain rfl : t = 8 := h1 (by decide)
    exact kx_mk (kxc_13_8_k hmn) (ey_lr (ey_lx rfl (ey_lx rfl (ey_li v1 v2 ey_l0)))) rfl
  by_cases c9 : n ≤ 9
  · obtain rfl : n = 9 := by omega
    obtain rfl : t = 9 := h1 (by decide)
    exact kx_mk (kxc_13_9_k hmn) (ey_lr (ey_lx rfl (ey_lx rfl (ey_li v1 v2 ey_l0)))) rfl
  by_cases c10 : n ≤ 10
  · obtain rfl : n = 10 := by omega
    obtain rfl : t = 10 := h1 (by decide)
    exact kx_mk (kxc_13_10_k hmn) (ey_lr (ey_lx rfl (ey_lx rfl (ey_li v1 v2 ey_l0)))) rfl
  by_cases c11 : n ≤ 11
  · obtain rfl : n = 11 := by omega
    obtain rfl : t = 11 := h1 (by decide)
    exact kx_mk (kxc_13_11_k hmn) (ey_lr (ey_lx rfl (ey_lx rfl (ey_li v1 v2 ey_l0)))) rfl
  obtain rfl : t = 11 := h2 (by omega)
  exact kx_mk (kxc_13_b_k hmn) (ey_lr (ey_lx rfl (ey_li (show (12 : Int) ≤ n by omega) n2 (ey_li v1 v2 ey_l0)))) rfl
theorem kx_c_14 {l : Launch} {D : va_G} {τ : Nat → ClassId} {sa : List Nat} {A : Nat → Prop} (hmn : em_mna) {L P : Nat} {n v t : Int} (n1 : 1 ≤ n) (n2 : n ≤ 24) (v1 : -400 ≤ v) (v2 : v ≤ 200) (h1 : n ≤ 10 → t = n) (h2 : 10 < n → t = 10) : em_X l D τ sa A 89 [(.inr (.inr (.inl (some 5)))), .inl 14, .inl n, .inl v] (el_h L P) (fun w hp' => w = some (.inl t) ∧ hp' = el_h L P) 2 := by
  by_cases c1 : n ≤ 1
  · obtain rfl : n = 1 := by omega
    obtain rfl : t = 1 := h1 (by decide)
    exact kx_mk (kxc_14_1_k hmn) (ey_lr (ey_lx rfl (ey_lx rfl (ey_li v1 v2 ey_l0)))) rfl
  by_cases c2 : n ≤ 2
  · obtain rfl : n = 2 := by omega
    obtain rfl : t = 2 := h1 (by decide)
    exact kx_mk (kxc_14_2_k hmn) (ey_lr (ey_lx rfl (ey_lx rfl (ey_li v1 v2 ey_l0)))) rfl
  by_cases c3 : n ≤ 3
  · obtain rfl : n = 3 := by omega
    obtain rfl : t = 3 := h1 (by decide)
    exact kx_mk (kxc_14_3_k hmn) (ey_lr (ey_lx rfl (ey_lx rfl (ey_li v1 v2 ey_l0)))) rfl
  by_cases c4 : n ≤ 4
  · obtain rfl : n = 4 := by omega
    obtain rfl : t = 4 := h1 (by decide)
    exact kx_mk (kxc_14_4_k hmn) (ey_lr (ey_lx rfl (ey_lx rfl (ey_li v1 v2 ey_l0)))) rfl
  by_cases c5 : n ≤ 5
  · obtain rfl : n = 5 := by omega
    obtain rfl : t = 5 := h1 (by decide)
    exact kx_mk (kxc_14_5_k hmn) (ey_lr (ey_lx rfl (ey_lx rfl (ey_li v1 v2 ey_l0)))) rfl
  by_cases c6 : n ≤ 6
  · obtain rfl : n = 6 := by omega
    obtain rfl : t = 6 := h1 (by decide)
    exact kx_mk (kxc_14_6_k hmn) (ey_lr (ey_lx rfl (ey_lx rfl (ey_li v1 v2 ey_l0)))) rfl
  by_cases c7 : n ≤ 7
  · obtain rfl : n = 7 := by omega
    obtain rfl : t = 7 := h1 (by decide)
    exact kx_mk (kxc_14_7_k hmn) (ey_lr (ey_lx rfl (ey_lx rfl (ey_li v1 v2 ey_l0)))) rfl
  by_cases c8 : n ≤ 8
  · obtain rfl : n = 8 := by omega
    obtain rfl : t = 8 := h1 (by decide)
    exact kx_mk (kxc_14_8_k hmn) (ey_lr (ey_lx rfl (ey_lx rfl (ey_li v1 v2 ey_l0)))) rfl
  by_cases c9 : n ≤ 9
  · obtain rfl : n = 9 := by omega
    obtain rfl : t = 9 := h1 (by decide)
    exact kx_mk (kxc_14_9_k hmn) (ey_lr (ey_lx rfl (ey_lx rfl (ey_li v1 v2 ey_l0)))) rfl
  by_cases c10 : n ≤ 10
  · obtain rfl : n = 10 := by omega
    obtain rfl : t = 10 := h1 (by decide)
    exact kx_mk (kxc_14_10_k hmn) (ey_lr (ey_lx rfl (ey_lx rfl (ey_li v1 v2 ey_l0)))) rfl
  obtain rfl : t = 10 := h2 (by omega)
  exact kx_mk (kxc_14_b_k hmn) (ey_lr (ey_lx rfl (ey_li (show (11 : Int) ≤ n by omega) n2 (ey_li v1 v2 ey_l0)))) rfl
theorem kx_c_15 {l : Launch} {D : va_G} {τ : Nat → ClassId} {sa : List Nat} {A : Nat → Prop} (hmn : em_mna) {L P : Nat} {n v t : Int} (n1 : 1 ≤ n) (n2 : n ≤ 24) (v1 : -400 ≤ v) (v2 : v ≤ 200) (h1 : n ≤ 9 → t = n) (h2 : 9 < n → t = 9) : em_X l D τ sa A 89 [(.inr (.inr (.inl (some 5)))), .inl 15, .inl n, .inl v] (el_h L P) (fun w hp' => w = some (.inl t) ∧ hp' = el_h L P) 2 := by
  by_cases c1 : n ≤ 1
  · obtain rfl : n = 1 := by omega
    obtain rfl : t = 1 := h1 (by decide)
    exact kx_mk (kxc_15_1_k hmn) (ey_lr (ey_lx rfl (ey_lx rfl (ey_li v1 v2 ey_l0)))) rfl
  by_cases c2 : n ≤ 2
  · obtain rfl : n = 2 := by omega
    obtain rfl : t = 2 := h1 (by decide)
    exact kx_mk (kxc_15_2_k hmn) (ey_lr (ey_lx rfl (ey_lx rfl (ey_li v1 v2 ey_l0)))) rfl
  by_cases c3 : n ≤ 3
  · obtain rfl : n = 3 := by omega
    obtain rfl : t = 3 := h1 (by decide)
    exact kx_mk (kxc_15_3_k hmn) (ey_lr (ey_lx rfl (ey_lx rfl (ey_li v1 v2 ey_l0)))) rfl
  by_cases c4 : n ≤ 4
  · obtain rfl : n = 4 := by omega
    obtain rfl : t = 4 := h1 (by decide)
    exact kx_mk (kxc_15_4_k hmn) (ey_lr (ey_lx rfl (ey_lx rfl (ey_li v1 v2 ey_l0)))) rfl
  by_cases c5 : n ≤ 5
  · obtain rfl : n = 5 := by omega
    obtain rfl : t = 5 := h1 (by decide)
    exact kx_mk (kxc_15_5_k hmn) (ey_lr (ey_lx rfl (ey_lx rfl (ey_li v1 v2 ey_l0)))) rfl
  by_cases c6 : n ≤ 6
  · obtain rfl : n = 6 := by omega
    obtain rfl : t = 6 := h1 (by decide)
    exact kx_mk (kxc_15_6_k hmn) (ey_lr (ey_lx rfl (ey_lx rfl (ey_li v1 v2 ey_l0)))) rfl
  by_cases c7 : n ≤ 7
  · obtain rfl : n = 7 := by omega
    obtain rfl : t = 7 := h1 (by decide)
    exact kx_mk (kxc_15_7_k hmn) (ey_lr (ey_lx rfl (ey_lx rfl (ey_li v1 v2 ey_l0)))) rfl
  by_cases c8 : n ≤ 8
  · obtain rfl : n = 8 := by omega
    obtain rfl : t = 8 := h1 (by decide)
    exact kx_mk (kxc_15_8_k hmn) (ey_lr (ey_lx rfl (ey_lx rfl (ey_li v1 v2 ey_l0)))) rfl
  by_cases c9 : n ≤ 9
  · obtain rfl : n = 9 := by omega
    obtain rfl : t = 9 := h1 (by decide)
    exact kx_mk (kxc_15_9_k hmn) (ey_lr (ey_lx rfl (ey_lx rfl (ey_li v1 v2 ey_l0)))) rfl
  obtain rfl : t = 9 := h2 (by omega)
  exact kx_mk (kxc_15_b_k hmn) (ey_lr (ey_lx rfl (ey_li (show (10 : Int) ≤ n by omega) n2 (ey_li v1 v2 ey_l0)))) rfl
theorem kx_c_16 {l : Launch} {D : va_G} {τ : Nat → ClassId} {sa : List Nat} {A : Nat → Prop} (hmn : em_mna) {L P : Nat} {n v t : Int} (n1 : 1 ≤ n) (n2 : n ≤ 24) (v1 : -400 ≤ v) (v2 : v ≤ 200) (h1 : n ≤ 8 → t = n) (h2 : 8 < n → t = 8) : em_X l D τ sa A 89 [(.inr (.inr (.inl (some 5)))), .inl 16, .inl n, .inl v] (el_h L P) (fun w hp' => w = some (.inl t) ∧ hp' = el_h L P) 2 := by
  by_cases c1 : n ≤ 1
  · obtain rfl : n = 1 := by omega
    obtain rfl : t = 1 := h1 (by decide)
    exact kx_mk (kxc_16_1_k hmn) (ey_lr (ey_lx rfl (ey_lx rfl (ey_li v1 v2 ey_l0)))) rfl
  by_cases c2 : n ≤ 2
  · obtain rfl : n = 2 := by omega
    obtain rfl : t = 2 := h1 (by decide)
    exact kx_mk (kxc_16_2_k hmn) (ey_lr (ey_lx rfl (ey_lx rfl (ey_li v1 v2 ey_l0)))) rfl
  by_cases c3 : n ≤ 3
  · obtain rfl : n = 3 := by omega
    obtain rfl : t = 3 := h1 (by decide)
    exact kx_mk (kxc_16_3_k hmn) (ey_lr (ey_lx rfl (ey_lx rfl (ey_li v1 v2 ey_l0)))) rfl
  by_cases c4 : n ≤ 4
  · obtain rfl : n = 4 := by omega
    obtain rfl : t = 4 := h1 (by decide)
    exact kx_mk (kxc_16_4_k hmn) (ey_lr (ey_lx rfl (ey_lx rfl (ey_li v1 v2 ey_l0)))) rfl
  by_cases c5 : n ≤ 5
  · obtain rfl : n = 5 := by omega
    obtain rfl : t = 5 := h1 (by decide)
    exact kx_mk (kxc_16_5_k hmn) (ey_lr (ey_lx rfl (ey_lx rfl (ey_li v1 v2 ey_l0)))) rfl
  by_cases c6 : n ≤ 6
  · obtain rfl : n = 6 := by omega
    obtain rfl : t = 6 := h1 (by decide)
    exact kx_mk (kxc_16_6_k hmn) (ey_lr (ey_lx rfl (ey_lx rfl (ey_li v1 v2 ey_l0)))) rfl
  by_cases c7 : n ≤ 7
  · obtain rfl : n = 7 := by omega
    obtain rfl : t = 7 := h1 (by decide)
    exact kx_mk (kxc_16_7_k hmn) (ey_lr (ey_lx rfl (ey_lx rfl (ey_li v1 v2 ey_l0)))) rfl
  by_cases c8 : n ≤ 8
  · obtain rfl : n = 8 := by omega
    obtain rfl : t = 8 := h1 (by decide)
    exact kx_mk (kxc_16_8_k hmn) (ey_lr (ey_lx rfl (ey_lx rfl (ey_li v1 v2 ey_l0)))) rfl
  obtain rfl : t = 8 := h2 (by omega)
  exact kx_mk (kxc_16_b_k hmn) (ey_lr (ey_lx rfl (ey_li (show (9 : Int) ≤ n by omega) n2 (ey_li v1 v2 ey_l0)))) rfl
theorem kx_c_17 {l : Launch} {D : va_G} {τ : Nat → ClassId} {sa : List Nat} {A : Nat → Prop} (hmn : em_mna) {L P : Nat} {n v t : Int} (n1 : 1 ≤ n) (n2 : n ≤ 24) (v1 : -400 ≤ v) (v2 : v ≤ 200) (h1 : n ≤ 7 → t = n) (h2 : 7 < n → t = 7) : em_X l D τ sa A 89 [(.inr (.inr (.inl (some 5)))), .inl 17, .inl n, .inl v] (el_h L P) (fun w hp' => w = some (.inl t) ∧ hp' = el_h L P) 2 := by
  by_cases c1 : n ≤ 1
  · obtain rfl : n = 1 := by omega
    obtain rfl : t = 1 := h1 (by decide)
    exact kx_mk (kxc_17_1_k hmn) (ey_lr (ey_lx rfl (ey_lx rfl (ey_li v1 v2 ey_l0)))) rfl
  by_cases c2 : n ≤ 2
  · obtain rfl : n = 2 := by omega
    obtain rfl : t = 2 := h1 (by decide)
    exact kx_mk (kxc_17_2_k hmn) (ey_lr (ey_lx rfl (ey_lx rfl (ey_li v1 v2 ey_l0)))) rfl
  by_cases c3 : n ≤ 3
  · obtain rfl : n = 3 := by omega
    obtain rfl : t = 3 := h1 (by decide)
    exact kx_mk (kxc_17_3_k hmn) (ey_lr (ey_lx rfl (ey_lx rfl (ey_li v1 v2 ey_l0)))) rfl
  by_cases c4 : n ≤ 4
  · obtain rfl : n = 4 := by omega
    obtain rfl : t = 4 := h1 (by decide)
    exact kx_mk (kxc_17_4_k hmn) (ey_lr (ey_lx rfl (ey_lx rfl (ey_li v1 v2 ey_l0)))) rfl
  by_cases c5 : n ≤ 5
  · obtain rfl : n = 5 := by omega
    obtain rfl : t = 5 := h1 (by decide)
    exact kx_mk (kxc_17_5_k hmn) (ey_lr (ey_lx rfl (ey_lx rfl (ey_li v1 v2 ey_l0)))) rfl
  by_cases c6 : n ≤ 6
  · obtain rfl : n = 6 := by omega
    obtain rfl : t = 6 := h1 (by decide)
    exact kx_mk (kxc_17_6_k hmn) (ey_lr (ey_lx rfl (ey_lx rfl (ey_li v1 v2 ey_l0)))) rfl
  by_cases c7 : n ≤ 7
  · obtain rfl : n = 7 := by omega
    obtain rfl : t = 7 := h1 (by decide)
    exact kx_mk (kxc_17_7_k hmn) (ey_lr (ey_lx rfl (ey_lx rfl (ey_li v1 v2 ey_l0)))) rfl
  obtain rfl : t = 7 := h2 (by omega)
  exact kx_mk (kxc_17_b_k hmn) (ey_lr (ey_lx rfl (ey_li (show (8 : Int) ≤ n by omega) n2 (ey_li v1 v2 ey_l0)))) rfl
theorem kx_c_18 {l : Launch} {D : va_G} {τ : Nat → ClassId} {sa : List Nat} {A : Nat → Prop} (hmn : em_mna) {L P : Nat} {n v t : Int} (n1 : 1 ≤ n) (n2 : n ≤ 24) (v1 : -400 ≤ v) (v2 : v ≤ 200) (h1 : n ≤ 6 → t = n) (h2 : 6 < n → t = 6) : em_X l D τ sa A 89 [(.inr (.inr (.inl (some 5)))), .inl 18, .inl n, .inl v] (el_h L P) (fun w hp' => w = some (.inl t) ∧ hp' = el_h L P) 2 := by
  by_cases c1 : n ≤ 1
  · obtain rfl : n = 1 := by omega
    obtain rfl : t = 1 := h1 (by decide)
    exact kx_mk (kxc_18_1_k hmn) (ey_lr (ey_lx rfl (ey_lx rfl (ey_li v1 v2 ey_l0)))) rfl
  by_cases c2 : n ≤ 2
  · obtain rfl : n = 2 := by omega
    obtain rfl : t = 2 := h1 (by decide)
    exact kx_mk (kxc_18_2_k hmn) (ey_lr (ey_lx rfl (ey_lx rfl (ey_li v1 v2 ey_l0)))) rfl
  by_cases c3 : n ≤ 3
  · obtain rfl : n = 3 := by omega
    obtain rfl : t = 3 := h1 (by decide)
    exact kx_mk (kxc_18_3_k hmn) (ey_lr (ey_lx rfl (ey_lx rfl (ey_li v1 v2 ey_l0)))) rfl
  by_cases c4 : n ≤ 4
  · obtain rfl : n = 4 := by omega
    obtain rfl : t = 4 := h1 (by decide)
    exact kx_mk (kxc_18_4_k hmn) (ey_lr (ey_lx rfl (ey_lx rfl (ey_li v1 v2 ey_l0)))) rfl
  by_cases c5 : n ≤ 5
  · obtain rfl : n = 5 := by omega
    obtain rfl : t = 5 := h1 (by decide)
    exact kx_mk (kxc_18_5_k hmn) (ey_lr (ey_lx rfl (ey_lx rfl (ey_li v1 v2 ey_l0)))) rfl
  by_cases c6 : n ≤ 6
  · obtain rfl : n = 6 := by omega
    obtain rfl : t = 6 := h1 (by decide)
    exact kx_mk (kxc_18_6_k hmn) (ey_lr (ey_lx rfl (ey_lx rfl (ey_li v1 v2 ey_l0)))) rfl
  obtain rfl : t = 6 := h2 (by omega)
  exact kx_mk (kxc_18_b_k hmn) (ey_lr (ey_lx rfl (ey_li (show (7 : Int) ≤ n by omega) n2 (ey_li v1 v2 ey_l0)))) rfl
theorem kx_c_19 {l : Launch} {D : va_G} {τ : Nat → ClassId} {sa : List Nat} {A : Nat → Prop} (hmn : em_mna) {L P : Nat} {n v t : Int} (n1 : 1 ≤ n) (n2 : n ≤ 24) (v1 : -400 ≤ v) (v2 : v ≤ 200) (h1 : n ≤ 5 → t = n) (h2 : 5 < n → t = 5) : em_X l D τ sa A 89 [(.inr (.inr (.inl (some 5)))), .inl 19, .inl n, .inl v] (el_h L P) (fun w hp' => w = some (.inl t) ∧ hp' = el_h L P) 2 := by
  by_cases c1 : n ≤ 1
  · obtain rfl : n = 1 := by omega
    obtain rfl : t = 1 := h1 (by decide)
    exact kx_mk (kxc_19_1_k hmn) (ey_lr (ey_lx rfl (ey_lx rfl (ey_li v1 v2 ey_l0)))) rfl
  by_cases c2 : n ≤ 2
  · obtain rfl : n = 2 := by omega
    obtain rfl : t = 2 := h1 (by decide)
    exact kx_mk (kxc_19_2_k hmn) (ey_lr (ey_lx rfl (ey_lx rfl (ey_li v1 v2 ey_l0)))) rfl
  by_cases c3 : n ≤ 3
  · obtain rfl : n = 3 := by omega
    obtain rfl : t = 3 := h1 (by decide)
    exact kx_mk (kxc_19_3_k hmn) (ey_lr (ey_lx rfl (ey_lx rfl (ey_li v1 v2 ey_l0)))) rfl
  by_cases c4 : n ≤ 4
  · obtain rfl : n = 4 := by omega
    obtain rfl : t = 4 := h1 (by decide)
    exact kx_mk (kxc_19_4_k hmn) (ey_lr (ey_lx rfl (ey_lx rfl (ey_li v1 v2 ey_l0)))) rfl
  by_cases c5 : n ≤ 5
  · obtain rfl : n = 5 := by omega
    obtain rfl : t = 5 := h1 (by decide)
    exact kx_mk (kxc_19_5_k hmn) (ey_lr (ey_lx rfl (ey_lx rfl (ey_li v1 v2 ey_l0)))) rfl
  obtain rfl : t = 5 := h2 (by omega)
  exact kx_mk (kxc_19_b_k hmn) (ey_lr (ey_lx rfl (ey_li (show (6 : Int) ≤ n by omega) n2 (ey_li v1 v2 ey_l0)))) rfl
theorem kx_c_20 {l : Launch} {D : va_G} {τ : Nat → ClassId} {sa : List Nat} {A : Nat → Prop} (hmn : em_mna) {L P : Nat} {n v t : Int} (n1 : 1 ≤ n) (n2 : n ≤ 24) (v1 : -400 ≤ v) (v2 : v ≤ 200) (h1 : n ≤ 4 → t = n) (h2 : 4 < n → t = 4) : em_X l D τ sa A 89 [(.inr (.inr (.inl (some 5)))), .inl 20, .inl n, .inl v] (el_h L P) (fun w hp' => w = some (.inl t) ∧ hp' = el_h L P) 2 := by
  by_cases c1 : n ≤ 1
  · obtain rfl : n = 1 := by omega
    obtain rfl : t = 1 := h1 (by decide)
    exact kx_mk (kxc_20_1_k hmn) (ey_lr (ey_lx rfl (ey_lx rfl (ey_li v1 v2 ey_l0)))) rfl
  by_cases c2 : n ≤ 2
  · obtain rfl : n = 2 := by omega
    obtain rfl : t = 2 := h1 (by decide)
    exact kx_mk (kxc_20_2_k hmn) (ey_lr (ey_lx rfl (ey_lx rfl (ey_li v1 v2 ey_l0)))) rfl
  by_cases c3 : n ≤ 3
  · obtain rfl : n = 3 := by omega
    obtain rfl : t = 3 := h1 (by decide)
    exact kx_mk (kxc_20_3_k hmn) (ey_lr (ey_lx rfl (ey_lx rfl (ey_li v1 v2 ey_l0)))) rfl
  by_cases c4 : n ≤ 4
  · obtain rfl : n = 4 := by omega
    obtain rfl : t = 4 := h1 (by decide)
    exact kx_mk (kxc_20_4_k hmn) (ey_lr (ey_lx rfl (ey_lx rfl (ey_li v1 v2 ey_l0)))) rfl
  obtain rfl : t = 4 := h2 (by omega)
  exact kx_mk (kxc_20_b_k hmn) (ey_lr (ey_lx rfl (ey_li (show (5 : Int) ≤ n by omega) n2 (ey_li v1 v2 ey_l0)))) rfl
theorem kx_c_21 {l : Launch} {D : va_G} {τ : Nat → ClassId} {sa : List Nat} {A : Nat → Prop} (hmn : em_mna) {L P : Nat} {n v t : Int} (n1 : 1 ≤ n) (n2 : n ≤ 24) (v1 : -400 ≤ v) (v2 : v ≤ 200) (h1 : n ≤ 3 → t = n) (h2 : 3 < n → t = 3) : em_X l D τ sa A 89 [(.inr (.inr (.inl (some 5)))), .inl 21, .inl n, .inl v] (el_h L P) (fun w hp' => w = some (.inl t) ∧ hp' = el_h L P) 2 := by
  by_cases c1 : n ≤ 1
  · obtain rfl : n = 1 := by omega
    obtain rfl : t = 1 := h1 (by decide)
    exact kx_mk (kxc_21_1_k hmn) (ey_lr (ey_lx rfl (ey_lx rfl (ey_li v1 v2 ey_l0)))) rfl
  by_cases c2 : n ≤ 2
  · obtain rfl : n = 2 := by omega
    obtain rfl : t = 2 := h1 (by decide)
    exact kx_mk (kxc_21_2_k hmn) (ey_lr (ey_lx rfl (ey_lx rfl (ey_li v1 v2 ey_l0)))) rfl
  by_cases c3 : n ≤ 3
  · obtain rfl : n = 3 := by omega
    obtain rfl : t = 3 := h1 (by decide)
    exact kx_mk (kxc_21_3_k hmn) (ey_lr (ey_lx rfl (ey_lx rfl (ey_li v1 v2 ey_l0)))) rfl
  obtain rfl : t = 3 := h2 (by omega)
  exact kx_mk (kxc_21_b_k hmn) (ey_lr (ey_lx rfl (ey_li (show (4 : Int) ≤ n by omega) n2 (ey_li v1 v2 ey_l0)))) rfl
theorem kx_c_22 {l : Launch} {D : va_G} {τ : Nat → ClassId} {sa : List Nat} {A : Nat → Prop} (hmn : em_mna) {L P : Nat} {n v t : Int} (n1 : 1 ≤ n) (n2 : n ≤ 24) (v1 : -400 ≤ v) (v2 : v ≤ 200) (h1 : n ≤ 2 → t = n) (h2 : 2 < n → t = 2) : em_X l D τ sa A 89 [(.inr (.inr (.inl (some 5)))), .inl 22, .inl n, .inl v] (el_h L P) (fun w hp' => w = some (.inl t) ∧ hp' = el_h L P) 2 := by
  by_cases c1 : n ≤ 1
  · obtain rfl : n = 1 := by omega
    obtain rfl : t = 1 := h1 (by decide)
    exact kx_mk (kxc_22_1_k hmn) (ey_lr (ey_lx rfl (ey_lx rfl (ey_li v1 v2 ey_l0)))) rfl
  by_cases c2 : n ≤ 2
  · obtain rfl : n = 2 := by omega
    obtain rfl : t = 2 := h1 (by decide)
    exact kx_mk (kxc_22_2_k hmn) (ey_lr (ey_lx rfl (ey_lx rfl (ey_li v1 v2 ey_l0)))) rfl
  obtain rfl : t = 2 := h2 (by omega)
  exact kx_mk (kxc_22_b_k hmn) (ey_lr (ey_lx rfl (ey_li (show (3 : Int) ≤ n by omega) n2 (ey_li v1 v2 ey_l0)))) rfl
theorem kx_c_23 {l : Launch} {D : va_G} {τ : Nat → ClassId} {sa : List Nat} {A : Nat → Prop} (hmn : em_mna) {L P : Nat} {n v t : Int} (n1 : 1 ≤ n) (n2 : n ≤ 24) (v1 : -400 ≤ v) (v2 : v ≤ 200) (h1 : n ≤ 1 → t = n) (h2 : 1 < n → t = 1) : em_X l D τ sa A 89 [(.inr (.inr (.inl (some 5)))), .inl 23, .inl n, .inl v] (el_h L P) (fun w hp' => w = some (.inl t) ∧ hp' = el_h L P) 2 := by
  by_cases c1 : n ≤ 1
  · obtain rfl : n = 1 := by omega
    obtain rfl : t = 1 := h1 (by decide)
    exact kx_mk (kxc_23_1_k hmn) (ey_lr (ey_lx rfl (ey_lx rfl (ey_li v1 v2 ey_l0)))) rfl
  obtain rfl : t = 1 := h2 (by omega)
  exact kx_mk (kxc_23_b_k hmn) (ey_lr (ey_lx rfl (ey_li (show (2 : Int) ≤ n by omega) n2 (ey_li v1 v2 ey_l0)))) rfl
theorem kx_c {l : Launch} {D : va_G} {τ : Nat → ClassId} {sa : List Nat} {A : Nat → Prop} (hmn : em_mna) {L P : Nat} {q n v t : Int} (q1 : 0 ≤ q) (q2 : q ≤ 23) (n1 : 1 ≤ n) (n2 : n ≤ 24) (v1 : -400 ≤ v) (v2 : v ≤ 200) (h1 : n ≤ 24 - q → t = n) (h2 : 24 - q < n → t = 24 - q) : em_X l D τ sa A 89 [(.inr (.inr (.inl (some 5)))), .inl q, .inl n, .inl v] (el_h L P) (fun w hp' => w = some (.inl t) ∧ hp' = el_h L P) 2 := by
  by_cases d0 : q ≤ 0
  · obtain rfl : q = 0 := by omega
    exact kx_c_0 hmn n1 n2 v1 v2 (fun h => h1 (by omega)) (fun h => (h2 (by omega)).trans (by omega))
  by_cases d1 : q ≤ 1
  · obtain rfl : q = 1 := by omega
    exact kx_c_1 hmn n1 n2 v1 v2 (fun h => h1 (by omega)) (fun h => (h2 (by omega)).trans (by omega))
  by_cases d2 : q ≤ 2
  · obtain rfl : q = 2 := by omega
    exact kx_c_2 hmn n1 n2 v1 v2 (fun h => h1 (by omega)) (fun h => (h2 (by omega)).trans (by omega))
  by_cases d3 : q ≤ 3
  · obtain rfl : q = 3 := by omega
    exact kx_c_3 hmn n1 n2 v1 v2 (fun h => h1 (by omega)) (fun h => (h2 (by omega)).trans (by omega))
  by_cases d4 : q ≤ 4
  · obtain rfl : q = 4 := by omega
    exact kx_c_4 hmn n1 n2 v1 v2 (fun h => h1 (by omega)) (fun h => (h2 (by omega)).trans (by omega))
  by_cases d5 : q ≤ 5
  · obtain rfl : q = 5 := by omega
    exact kx_c_5 hmn n1 n2 v1 v2 (fun h => h1 (by omega)) (fun h => (h2 (by omega)).trans (by omega))
  by_cases d6 : q ≤ 6
  · obtain rfl : q = 6 := by omega
    exact kx_c_6 hmn n1 n2 v1 v2 (fun h => h1 (by omega)) (fun h => (h2 (by omega)).trans (by omega))
  by_cases d7 : q ≤ 7
  · obtain rfl : q = 7 := by omega
    exact kx_c_7 hmn n1 n2 v1 v2 (fun h => h1 (by omega)) (fun h => (h2 (by omega)).trans (by omega))
  by_cases d8 : q ≤ 8
  · obtain rfl : q = 8 := by omega
    exact kx_c_8 hmn n1 n2 v1 v2 (fun h => h1 (by omega)) (fun h => (h2 (by omega)).trans (by omega))
  by_cases d9 : q ≤ 9
  · obtain rfl : q = 9 := by omega
    exact kx_c_9 hmn n1 n2 v1 v2 (fun h => h1 (by omega)) (fun h => (h2 (by omega)).trans (by omega))
  by_cases d10 : q ≤ 10
  · obtain rfl : q = 10 := by omega
    exact kx_c_10 hmn n1 n2 v1 v2 (fun h => h1 (by omega)) (fun h => (h2 (by omega)).trans (by omega))
  by_cases d11 : q ≤ 11
  · obtain rfl : q = 11 := by omega
    exact kx_c_11 hmn n1 n2 v1 v2 (fun h => h1 (by omega)) (fun h => (h2 (by omega)).trans (by omega))
  by_cases d12 : q ≤ 12
  · obtain rfl : q = 12 := by omega
    exact kx_c_12 hmn n1 n2 v1 v2 (fun h => h1 (by omega)) (fun h => (h2 (by omega)).trans (by omega))
  by_cases d13 : q ≤ 13
  · obtain rfl : q = 13 := by omega
    exact kx_c_13 hmn n1 n2 v1 v2 (fun h => h1 (by omega)) (fun h => (h2 (by omega)).trans (by omega))
  by_cases d14 : q ≤ 14
  · obtain rfl : q = 14 := by omega
    exact kx_c_14 hmn n1 n2 v1 v2 (fun h => h1 (by omega)) (fun h => (h2 (by omega)).trans (by omega))
  by_cases d15 : q ≤ 15
  · obtain rfl : q = 15 := by omega
    exact kx_c_15 hmn n1 n2 v1 v2 (fun h => h1 (by omega)) (fun h => (h2 (by omega)).trans (by omega))
  by_cases d16 : q ≤ 16
  · obtain rfl : q = 16 := by omega
    exact kx_c_16 hmn n1 n2 v1 v2 (fun h => h1 (by omega)) (fun h => (h2 (by omega)).trans (by omega))
  by_cases d17 : q ≤ 17
  · obtain rfl : q = 17 := by omega
    exact kx_c_17 hmn n1 n2 v1 v2 (fun h => h1 (by omega)) (fun h => (h2 (by omega)).trans (by omega))
  by_cases d18 : q ≤ 18
  · obtain rfl : q = 18 := by omega
    exact kx_c_18 hmn n1 n2 v1 v2 (fun h => h1 (by omega)) (fun h => (h2 (by omega)).trans (by omega))
  by_cases d19 : q ≤ 19
  · obtain rfl : q = 19 := by omega
    exact kx_c_19 hmn n1 n2 v1 v2 (fun h => h1 (by omega)) (fun h => (h2 (by omega)).trans (by omega))
  by_cases d20 : q ≤ 20
  · obtain rfl : q = 20 := by omega
    exact kx_c_20 hmn n1 n2 v1 v2 (fun h => h1 (by omega)) (fun h => (h2 (by omega)).trans (by omega))
  by_cases d21 : q ≤ 21
  · obtain rfl : q = 21 := by omega
    exact kx_c_21 hmn n1 n2 v1 v2 (fun h => h1 (by omega)) (fun h => (h2 (by omega)).trans (by omega))
  by_cases d22 : q ≤ 22
  · obtain rfl : q = 22 := by omega
    exact kx_c_22 hmn n1 n2 v1 v2 (fun h => h1 (by omega)) (fun h => (h2 (by omega)).trans (by omega))
  by_cases d23 : q ≤ 23
  · obtain rfl : q = 23 := by omega
    exact kx_c_23 hmn n1 n2 v1 v2 (fun h => h1 (by omega)) (fun h => (h2 (by omega)).trans (by omega))
  exfalso
  omega
theorem kx_r_0 {l : Launch} {D : va_G} {τ : Nat → ClassId} {sa : List Nat} {A : Nat → Prop} (hmn : em_mna) {L P : Nat} {n v t : Int} (n1 : 1 ≤ n) (n2 : n ≤ 24) (v1 : -400 ≤ v) (v2 : v ≤ 200) (h1 : n ≤ 24 → t = n) (h2 : 24 < n → t = 24) : em_X l D τ sa A 141 [(.inr (.inr (.inl (some 345)))), .inl 0, .inl n, .inl v] (el_h L P) (fun w hp' => w = some (.inl t) ∧ hp' = el_h L P) 2 := by
  by_cases c1 : n ≤ 1
  · obtain rfl : n = 1 := by omega
    obtain rfl : t = 1 := h1 (by decide)
    exact kx_mk (kxr_0_1_k hmn) (ey_lr (ey_lx rfl (ey_lx rfl (ey_li v1 v2 ey_l0)))) rfl
  by_cases c2 : n ≤ 2
  · obtain rfl : n = 2 := by omega
    obtain rfl : t = 2 := h1 (by decide)
    exact kx_mk (kxr_0_2_k hmn) (ey_lr (ey_lx rfl (ey_lx rfl (ey_li v1 v2 ey_l0)))) rfl
  by_cases c3 : n ≤ 3
  · obtain rfl : n = 3 := by omega
    obtain rfl : t = 3 := h1 (by decide)
    exact kx_mk (kxr_0_3_k hmn) (ey_lr (ey_lx rfl (ey_lx rfl (ey_li v1 v2 ey_l0)))) rfl
  by_cases c4 : n ≤ 4
  · obtain rfl : n = 4 := by omega
    obtain rfl : t = 4 := h1 (by decide)
    exact kx_mk (kxr_0_4_k hmn) (ey_lr (ey_lx rfl (ey_lx rfl (ey_li v1 v2 ey_l0)))) rfl
  by_cases c5 : n ≤ 5
  · obtain rfl : n = 5 := by omega
    obtain rfl : t = 5 := h1 (by decide)
    exact kx_mk (kxr_0_5_k hmn) (ey_lr (ey_lx rfl (ey_lx rfl (ey_li v1 v2 ey_l0)))) rfl
  by_cases c6 : n ≤ 6
  · obtain rfl : n = 6 := by omega
    obtain rfl : t = 6 := h1 (by decide)
    exact kx_mk (kxr_0_6_k hmn) (ey_lr (ey_lx rfl (ey_lx rfl (ey_li v1 v2 ey_l0)))) rfl
  by_cases c7 : n ≤ 7
  · obtain rfl : n = 7 := by omega
    obtain rfl : t = 7 := h1 (by decide)
    exact kx_mk (kxr_0_7_k hmn) (ey_lr (ey_lx rfl (ey_lx rfl (ey_li v1 v2 ey_l0)))) rfl
  by_cases c8 : n ≤ 8
  · obtain rfl : n = 8 := by omega
    obtain rfl : t = 8 := h1 (by decide)
    exact kx_mk (kxr_0_8_k hmn) (ey_lr (ey_lx rfl (ey_lx rfl (ey_li v1 v2 ey_l0)))) rfl
  by_cases c9 : n ≤ 9
  · obtain rfl : n = 9 := by omega
    obtain rfl : t = 9 := h1 (by decide)
    exact kx_mk (kxr_0_9_k hmn) (ey_lr (ey_lx rfl (ey_lx rfl (ey_li v1 v2 ey_l0)))) rfl
  by_cases c10 : n ≤ 10
  · obtain rfl : n = 10 := by omega
    obtain rfl : t = 10 := h1 (by decide)
    exact kx_mk (kxr_0_10_k hmn) (ey_lr (ey_lx rfl (ey_lx rfl (ey_li v1 v2 ey_l0)))) rfl
  by_cases c11 : n ≤ 11
  · obtain rfl : n = 11 := by omega
    obtain rfl : t = 11 := h1 (by decide)
    exact kx_mk (kxr_0_11_k hmn) (ey_lr (ey_lx rfl (ey_lx rfl (ey_li v1 v2 ey_l0)))) rfl
  by_cases c12 : n ≤ 12
  · obtain rfl : n = 12 := by omega
    obtain rfl : t = 12 := h1 (by decide)
    exact kx_mk (kxr_0_12_k hmn) (ey_lr (ey_lx rfl (ey_lx rfl (ey_li v1 v2 ey_l0)))) rfl
  by_cases c13 : n ≤ 13
  · obtain rfl : n = 13 := by omega
    obtain rfl : t = 13 := h1 (by decide)
    exact kx_mk (kxr_0_13_k hmn) (ey_lr (ey_lx rfl (ey_lx rfl (ey_li v1 v2 ey_l0)))) rfl
  by_cases c14 : n ≤ 14
  · obtain rfl : n = 14 := by omega
    obtain rfl : t = 14 := h1 (by decide)
    exact kx_mk (kxr_0_14_k hmn) (ey_lr (ey_lx rfl (ey_lx rfl (ey_li v1 v2 ey_l0)))) rfl
  by_cases c15 : n ≤ 15
  · obtain rfl : n = 15 := by omega
    obtain rfl : t = 15 := h1 (by decide)
    exact kx_mk (kxr_0_15_k hmn) (ey_lr (ey_lx rfl (ey_lx rfl (ey_li v1 v2 ey_l0)))) rfl
  by_cases c16 : n ≤ 16
  · obtain rfl : n = 16 := by omega
    obtain rfl : t = 16 := h1 (by decide)
    exact kx_mk (kxr_0_16_k hmn) (ey_lr (ey_lx rfl (ey_lx rfl (ey_li v1 v2 ey_l0)))) rfl
  by_cases c17 : n ≤ 17
  · obtain rfl : n = 17 := by omega
    obtain rfl : t = 17 := h1 (by decide)
    exact kx_mk (kxr_0_17_k hmn) (ey_lr (ey_lx rfl (ey_lx rfl (ey_li v1 v2 ey_l0)))) rfl
  by_cases c18 : n ≤ 18
  · obtain rfl : n = 18 := by omega
    obtain rfl : t = 18 := h1 (by decide)
    exact kx_mk (kxr_0_18_k hmn) (ey_lr (ey_lx rfl (ey_lx rfl (ey_li v1 v2 ey_l0)))) rfl
  by_cases c19 : n ≤ 19
  · obtain rfl : n = 19 := by omega
    obtain rfl : t = 19 := h1 (by decide)
    exact kx_mk (kxr_0_19_k hmn) (ey_lr (ey_lx rfl (ey_lx rfl (ey_li v1 v2 ey_l0)))) rfl
  by_cases c20 : n ≤ 20
  · obtain rfl : n = 20 := by omega
    obtain rfl : t = 20 := h1 (by decide)
    exact kx_mk (kxr_0_20_k hmn) (ey_lr (ey_lx rfl (ey_lx rfl (ey_li v1 v2 ey_l0)))) rfl
  by_cases c21 : n ≤ 21
  · obtain rfl : n = 21 := by omega
    obtain rfl : t = 21 := h1 (by decide)
    exact kx_mk (kxr_0_21_k hmn) (ey_lr (ey_lx rfl (ey_lx rfl (ey_li v1 v2 ey_l0)))) rfl
  by_cases c22 : n ≤ 22
  · obtain rfl : n = 22 := by omega
    obtain rfl : t = 22 := h1 (by decide)
    exact kx_mk (kxr_0_22_k hmn) (ey_lr (ey_lx rfl (ey_lx rfl (ey_li v1 v2 ey_l0)))) rfl
  by_cases c23 : n ≤ 23
  · obtain rfl : n = 23 := by omega
    obtain rfl : t = 23 := h1 (by decide)
    exact kx_mk (kxr_0_23_k hmn) (ey_lr (ey_lx rfl (ey_lx rfl (ey_li v1 v2 ey_l0)))) rfl
  by_cases c24 : n ≤ 24
  · obtain rfl : n = 24 := by omega
    obtain rfl : t = 24 := h1 (by decide)
    exact kx_mk (kxr_0_24_k hmn) (ey_lr (ey_lx rfl (ey_lx rfl (ey_li v1 v2 ey_l0)))) rfl
  exfalso
  omega
theorem kx_r_1 {l : Launch} {D : va_G} {τ : Nat → ClassId} {sa : List Nat} {A : Nat → Prop} (hmn : em_mna) {L P : Nat} {n v t : Int} (n1 : 1 ≤ n) (n2 : n ≤ 24) (v1 : -400 ≤ v) (v2 : v ≤ 200) (h1 : n ≤ 23 → t = n) (h2 : 23 < n → t = 23) : em_X l D τ sa A 141 [(.inr (.inr (.inl (some 345)))), .inl 1, .inl n, .inl v] (el_h L P) (fun w hp' => w = some (.inl t) ∧ hp' = el_h L P) 2 := by
  by_cases c1 : n ≤ 1
  · obtain rfl : n = 1 := by omega
    obtain rfl : t = 1 := h1 (by decide)
    exact kx_mk (kxr_1_1_k hmn) (ey_lr (ey_lx rfl (ey_lx rfl (ey_li v1 v2 ey_l0)))) rfl
  by_cases c2 : n ≤ 2
  · obtain rfl : n = 2 := by omega
    obtain rfl : t = 2 := h1 (by decide)
    exact kx_mk (kxr_1_2_k hmn) (ey_lr (ey_lx rfl (ey_lx rfl (ey_li v1 v2 ey_l0)))) rfl
  by_cases c3 : n ≤ 3
  · obtain rfl : n = 3 := by omega
    obtain rfl : t = 3 := h1 (by decide)
    exact kx_mk (kxr_1_3_k hmn) (ey_lr (ey_lx rfl (ey_lx rfl (ey_li v1 v2 ey_l0)))) rfl
  by_cases c4 : n ≤ 4
  · obtain rfl : n = 4 := by omega
    obtain rfl : t = 4 := h1 (by decide)
    exact kx_mk (kxr_1_4_k hmn) (ey_lr (ey_lx rfl (ey_lx rfl (ey_li v1 v2 ey_l0)))) rfl
  by_cases c5 : n ≤ 5
  · obtain rfl : n = 5 := by omega
    obtain rfl : t = 5 := h1 (by decide)
    exact kx_mk (kxr_1_5_k hmn) (ey_lr (ey_lx rfl (ey_lx rfl (ey_li v1 v2 ey_l0)))) rfl
  by_cases c6 : n ≤ 6
  · obtain rfl : n = 6 := by omega
    obtain rfl : t = 6 := h1 (by decide)
    exact kx_mk (kxr_1_6_k hmn) (ey_lr (ey_lx rfl (ey_lx rfl (ey_li v1 v2 ey_l0)))) rfl
  by_cases c7 : n ≤ 7
  · obtain rfl : n = 7 := by omega
    obtain rfl : t = 7 := h1 (by decide)
    exact kx_mk (kxr_1_7_k hmn) (ey_lr (ey_lx rfl (ey_lx rfl (ey_li v1 v2 ey_l0)))) rfl
  by_cases c8 : n ≤ 8
  · obtain rfl : n = 8 := by omega
    obtain rfl : t = 8 := h1 (by decide)
    exact kx_mk (kxr_1_8_k hmn) (ey_lr (ey_lx rfl (ey_lx rfl (ey_li v1 v2 ey_l0)))) rfl
  by_cases c9 : n ≤ 9
  · obtain rfl : n = 9 := by omega
    obtain rfl : t = 9 := h1 (by decide)
    exact kx_mk (kxr_1_9_k hmn) (ey_lr (ey_lx rfl (ey_lx rfl (ey_li v1 v2 ey_l0)))) rfl
  by_cases c10 : n ≤ 10
  · obtain rfl : n = 10 := by omega
    obtain rfl : t = 10 := h1 (by decide)
    exact kx_mk (kxr_1_10_k hmn) (ey_lr (ey_lx rfl (ey_lx rfl (ey_li v1 v2 ey_l0)))) rfl
  by_cases c11 : n ≤ 11
  · obtain rfl : n = 11 := by omega
    obtain rfl : t = 11 := h1 (by decide)
    exact kx_mk (kxr_1_11_k hmn) (ey_lr (ey_lx rfl (ey_lx rfl (ey_li v1 v2 ey_l0)))) rfl
  by_cases c12 : n ≤ 12
  · obtain rfl : n = 12 := by omega
    obtain rfl : t = 12 := h1 (by decide)
    exact kx_mk (kxr_1_12_k hmn) (ey_lr (ey_lx rfl (ey_lx rfl (ey_li v1 v2 ey_l0)))) rfl
  by_cases c13 : n ≤ 13
  · obtain rfl : n = 13 := by omega
    obtain rfl : t = 13 := h1 (by decide)
    exact kx_mk (kxr_1_13_k hmn) (ey_lr (ey_lx rfl (ey_lx rfl (ey_li v1 v2 ey_l0)))) rfl
  by_cases c14 : n ≤ 14
  · obtain rfl : n = 14 := by omega
    obtain rfl : t = 14 := h1 (by decide)
    exact kx_mk (kxr_1_14_k hmn) (ey_lr (ey_lx rfl (ey_lx rfl (ey_li v1 v2 ey_l0)))) rfl
  by_cases c15 : n ≤ 15
  · obtain rfl : n = 15 := by omega
    obtain rfl : t = 15 := h1 (by decide)
    exact kx_mk (kxr_1_15_k hmn) (ey_lr (ey_lx rfl (ey_lx rfl (ey_li v1 v2 ey_l0)))) rfl
  by_cases c16 : n ≤ 16
  · obtain rfl : n = 16 := by omega
    obtain rfl : t = 16 := h1 (by decide)
    exact kx_mk (kxr_1_16_k hmn) (ey_lr (ey_lx rfl (ey_lx rfl (ey_li v1 v2 ey_l0)))) rfl
  by_cases c17 : n ≤ 17
  · obtain rfl : n = 17 := by omega
    obtain rfl : t = 17 := h1 (by decide)
    exact kx_mk (kxr_1_17_k hmn) (ey_lr (ey_lx rfl (ey_lx rfl (ey_li v1 v2 ey_l0)))) rfl
  by_cases c18 : n ≤ 18
  · obtain rfl : n = 18 := by omega
    obtain rfl : t = 18 := h1 (by decide)
    exact kx_mk (kxr_1_18_k hmn) (ey_lr (ey_lx rfl (ey_lx rfl (ey_li v1 v2 ey_l0)))) rfl
  by_cases c19 : n ≤ 19
  · obtain rfl : n = 19 := by omega
    obtain rfl : t = 19 := h1 (by decide)
    exact kx_mk (kxr_1_19_k hmn) (ey_lr (ey_lx rfl (ey_lx rfl (ey_li v1 v2 ey_l0)))) rfl
  by_cases c20 : n ≤ 20
  · obtain rfl : n = 20 := by omega
    obtain rfl : t = 20 := h1 (by decide)
    exact kx_mk (kxr_1_20_k hmn) (ey_lr (ey_lx rfl (ey_lx rfl (ey_li v1 v2 ey_l0)))) rfl
  by_cases c21 : n ≤ 21
  · obtain rfl : n = 21 := by omega
    obtain rfl : t = 21 := h1 (by decide)
    exact kx_mk (kxr_1_21_k hmn) (ey_lr (ey_lx rfl (ey_lx rfl (ey_li v1 v2 ey_l0)))) rfl
  by_cases c22 : n ≤ 22
  · obtain rfl : n = 22 := by omega
    obtain rfl : t = 22 := h1 (by decide)
    exact kx_mk (kxr_1_22_k hmn) (ey_lr (ey_lx rfl (ey_lx rfl (ey_li v1 v2 ey_l0)))) rfl
  by_cases c23 : n ≤ 23
  · obtain rfl : n = 23 := by omega
    obtain rfl : t = 23 := h1 (by decide)
    exact kx_mk (kxr_1_23_k hmn) (ey_lr (ey_lx rfl (ey_lx rfl (ey_li v1 v2 ey_l0)))) rfl
  obtain rfl : t = 23 := h2 (by omega)
  exact kx_mk (kxr_1_b_k hmn) (ey_lr (ey_lx rfl (ey_lx (show n = 24 by omega) (ey_li v1 v2 ey_l0)))) rfl
theorem kx_r_2 {l : Launch} {D : va_G} {τ : Nat → ClassId} {sa : List Nat} {A : Nat → Prop} (hmn : em_mna) {L P : Nat} {n v t : Int} (n1 : 1 ≤ n) (n2 : n ≤ 24) (v1 : -400 ≤ v) (v2 : v ≤ 200) (h1 : n ≤ 22 → t = n) (h2 : 22 < n → t = 22) : em_X l D τ sa A 141 [(.inr (.inr (.inl (some 345)))), .inl 2, .inl n, .inl v] (el_h L P) (fun w hp' => w = some (.inl t) ∧ hp' = el_h L P) 2 := by
  by_cases c1 : n ≤ 1
  · obtain rfl : n = 1 := by omega
    obtain rfl : t = 1 := h1 (by decide)
    exact kx_mk (kxr_2_1_k hmn) (ey_lr (ey_lx rfl (ey_lx rfl (ey_li v1 v2 ey_l0)))) rfl
  by_cases c2 : n ≤ 2
  · obtain rfl : n = 2 := by omega
    obtain rfl : t = 2 := h1 (by decide)
    exact kx_mk (kxr_2_2_k hmn) (ey_lr (ey_lx rfl (ey_lx rfl (ey_li v1 v2 ey_l0)))) rfl
  by_cases c3 : n ≤ 3
  · obtain rfl : n = 3 := by omega
    obtain rfl : t = 3 := h1 (by decide)
    exact kx_mk (kxr_2_3_k hmn) (ey_lr (ey_lx rfl (ey_lx rfl (ey_li v1 v2 ey_l0)))) rfl
  by_cases c4 : n ≤ 4
  · obtain rfl : n = 4 := by omega
    obtain rfl : t = 4 := h1 (by decide)
    exact kx_mk (kxr_2_4_k hmn) (ey_lr (ey_lx rfl (ey_lx rfl (ey_li v1 v2 ey_l0)))) rfl
  by_cases c5 : n ≤ 5
  · obtain rfl : n = 5 := by omega
    obtain rfl : t = 5 := h1 (by decide)
    exact kx_mk (kxr_2_5_k hmn) (ey_lr (ey_lx rfl (ey_lx rfl (ey_li v1 v2 ey_l0)))) rfl
  by_cases c6 : n ≤ 6
  · obtain rfl : n = 6 := by omega
    obtain rfl : t = 6 := h1 (by decide)
    exact kx_mk (kxr_2_6_k hmn) (ey_lr (ey_lx rfl (ey_lx rfl (ey_li v1 v2 ey_l0)))) rfl
  by_cases c7 : n ≤ 7
  · obtain rfl : n = 7 := by omega
    obtain rfl : t = 7 := h1 (by decide)
    exact kx_mk (kxr_2_7_k hmn) (ey_lr (ey_lx rfl (ey_lx rfl (ey_li v1 v2 ey_l0)))) rfl
  by_cases c8 : n ≤ 8
  · obtain rfl : n = 8 := by omega
    obtain rfl : t = 8 := h1 (by decide)
    exact kx_mk (kxr_2_8_k hmn) (ey_lr (ey_lx rfl (ey_lx rfl (ey_li v1 v2 ey_l0)))) rfl
  by_cases c9 : n ≤ 9
  · obtain rfl : n = 9 := by omega
    obtain rfl : t = 9 := h1 (by decide)
    exact kx_mk (kxr_2_9_k hmn) (ey_lr (ey_lx rfl (ey_lx rfl (ey_li v1 v2 ey_l0)))) rfl
  by_cases c10 : n ≤ 10
  · obtain rfl : n = 10 := by omega
    obtain rfl : t = 10 := h1 (by decide)
    exact kx_mk (kxr_2_10_k hmn) (ey_lr (ey_lx rfl (ey_lx rfl (ey_li v1 v2 ey_l0)))) rfl
  by_cases c11 : n ≤ 11
  · obtain rfl : n = 11 := by omega
    obtain rfl : t = 11 := h1 (by decide)
    exact kx_mk (kxr_2_11_k hmn) (ey_lr (ey_lx rfl (ey_lx rfl (ey_li v1 v2 ey_l0)))) rfl
  by_cases c12 : n ≤ 12
  · obtain rfl : n = 12 := by omega
    obtain rfl : t = 12 := h1 (by decide)
    exact kx_mk (kxr_2_12_k hmn) (ey_lr (ey_lx rfl (ey_lx rfl (ey_li v1 v2 ey_l0)))) rfl
  by_cases c13 : n ≤ 13
  · obtain rfl : n = 13 := by omega
    obtain rfl : t = 13 := h1 (by decide)
    exact kx_mk (kxr_2_13_k hmn) (ey_lr (ey_lx rfl (ey_lx rfl (ey_li v1 v2 ey_l0)))) rfl
  by_cases c14 : n ≤ 14
  · obtain rfl : n = 14 := by omega
    obtain rfl : t = 14 := h1 (by decide)
    exact kx_mk (kxr_2_14_k hmn) (ey_lr (ey_lx rfl (ey_lx rfl (ey_li v1 v2 ey_l0)))) rfl
  by_cases c15 : n ≤ 15
  · obtain rfl : n = 15 := by omega
    obtain rfl : t = 15 := h1 (by decide)
    exact kx_mk (kxr_2_15_k hmn) (ey_lr (ey_lx rfl (ey_lx rfl (ey_li v1 v2 ey_l0)))) rfl
  by_cases c16 : n ≤ 16
  · obtain rfl : n = 16 := by omega
    obtain rfl : t = 16 := h1 (by decide)
    exact kx_mk (kxr_2_16_k hmn) (ey_lr (ey_lx rfl (ey_lx rfl (ey_li v1 v2 ey_l0)))) rfl
  by_cases c17 : n ≤ 17
  · obtain rfl : n = 17 := by omega
    obtain rfl : t = 17 := h1 (by decide)
    exact kx_mk (kxr_2_17_k hmn) (ey_lr (ey_lx rfl (ey_lx rfl (ey_li v1 v2 ey_l0)))) rfl
  by_cases c18 : n ≤ 18
  · obtain rfl : n = 18 := by omega
    obtain rfl : t = 18 := h1 (by decide)
    exact kx_mk (kxr_2_18_k hmn) (ey_lr (ey_lx rfl (ey_lx rfl (ey_li v1 v2 ey_l0)))) rfl
  by_cases c19 : n ≤ 19
  · obtain rfl : n = 19 := by omega
    obtain rfl : t = 19 := h1 (by decide)
    exact kx_mk (kxr_2_19_k hmn) (ey_lr (ey_lx rfl (ey_lx rfl (ey_li v1 v2 ey_l0)))) rfl
  by_cases c20 : n ≤ 20
  · obtain rfl : n = 20 := by omega
    obtain rfl : t = 20 := h1 (by decide)
    exact kx_mk (kxr_2_20_k hmn) (ey_lr (ey_lx rfl (ey_lx rfl (ey_li v1 v2 ey_l0)))) rfl
  by_cases c21 : n ≤ 21
  · obtain rfl : n = 21 := by omega
    obtain rfl : t = 21 := h1 (by decide)
    exact kx_mk (kxr_2_21_k hmn) (ey_lr (ey_lx rfl (ey_lx rfl (ey_li v1 v2 ey_l0)))) rfl
  by_cases c22 : n ≤ 22
  · obtain rfl : n = 22 := by omega
    obtain rfl : t = 22 := h1 (by decide)
    exact kx_mk (kxr_2_22_k hmn) (ey_lr (ey_lx rfl (ey_lx rfl (ey_li v1 v2 ey_l0)))) rfl
  obtain rfl : t = 22 := h2 (by omega)
  exact kx_mk (kxr_2_b_k hmn) (ey_lr (ey_lx rfl (ey_li (show (23 : Int) ≤ n by omega) n2 (ey_li v1 v2 ey_l0)))) rfl
theorem kx_r_3 {l : Launch} {D : va_G} {τ : Nat → ClassId} {sa : List Nat} {A : Nat → Prop} (hmn : em_mna) {L P : Nat} {n v t : Int} (n1 : 1 ≤ n) (n2 : n ≤ 24) (v1 : -400 ≤ v) (v2 : v ≤ 200) (h1 : n ≤ 21 → t = n) (h2 : 21 < n → t = 21) : em_X l D τ sa A 141 [(.inr (.inr (.inl (some 345)))), .inl 3, .inl n, .inl v] (el_h L P) (fun w hp' => w = some (.inl t) ∧ hp' = el_h L P) 2 := by
  by_cases c1 : n ≤ 1
  · obtain rfl : n = 1 := by omega
    obtain rfl : t = 1 := h1 (by decide)
    exact kx_mk (kxr_3_1_k hmn) (ey_lr (ey_lx rfl (ey_lx rfl (ey_li v1 v2 ey_l0)))) rfl
  by_cases c2 : n ≤ 2
  · obtain rfl : n = 2 := by omega
    obtain rfl : t = 2 := h1 (by decide)
    exact kx_mk (kxr_3_2_k hmn) (ey_lr (ey_lx rfl (ey_lx rfl (ey_li v1 v2 ey_l0)))) rfl
  by_cases c3 : n ≤ 3
  · obtain rfl : n = 3 := by omega
    obtain rfl : t = 3 := h1 (by decide)
    exact kx_mk (kxr_3_3_k hmn) (ey_lr (ey_lx rfl (ey_lx rfl (ey_li v1 v2 ey_l0)))) rfl
  by_cases c4 : n ≤ 4
  · obtain rfl : n = 4 := by omega
    obtain rfl : t = 4 := h1 (by decide)
    exact kx_mk (kxr_3_4_k hmn) (ey_lr (ey_lx rfl (ey_lx rfl (ey_li v1 v2 ey_l0)))) rfl
  by_cases c5 : n ≤ 5
  · obtain rfl : n = 5 := by omega
    obtain rfl : t = 5 := h1 (by decide)
    exact kx_mk (kxr_3_5_k hmn) (ey_lr (ey_lx rfl (ey_lx rfl (ey_li v1 v2 ey_l0)))) rfl
  by_cases c6 : n ≤ 6
  · obtain rfl : n = 6 := by omega
    obtain rfl : t = 6 := h1 (by decide)
    exact kx_mk (kxr_3_6_k hmn) (ey_lr (ey_lx rfl (ey_lx rfl (ey_li v1 v2 ey_l0)))) rfl
  by_cases c7 : n ≤ 7
  · obtain rfl : n = 7 := by omega
    obtain rfl : t = 7 := h1 (by decide)
    exact kx_mk (kxr_3_7_k hmn) (ey_lr (ey_lx rfl (ey_lx rfl (ey_li v1 v2 ey_l0)))) rfl
  by_cases c8 : n ≤ 8
  · obtain rfl : n = 8 := by omega
    obtain rfl : t = 8 := h1 (by decide)
    exact kx_mk (kxr_3_8_k hmn) (ey_lr (ey_lx rfl (ey_lx rfl (ey_li v1 v2 ey_l0)))) rfl
  by_cases c9 : n ≤ 9
  · obtain rfl : n = 9 := by omega
    obtain rfl : t = 9 := h1 (by decide)
    exact kx_mk (kxr_3_9_k hmn) (ey_lr (ey_lx rfl (ey_lx rfl (ey_li v1 v2 ey_l0)))) rfl
  by_cases c10 : n ≤ 10
  · obtain rfl : n = 10 := by omega
    obtain rfl : t = 10 := h1 (by decide)
    exact kx_mk (kxr_3_10_k hmn) (ey_lr (ey_lx rfl (ey_lx rfl (ey_li v1 v2 ey_l0)))) rfl
  by_cases c11 : n ≤ 11
  · obtain rfl : n = 11 := by omega
    obtain rfl : t = 11 := h1 (by decide)
    exact kx_mk (kxr_3_11_k hmn) (ey_lr (ey_lx rfl (ey_lx rfl (ey_li v1 v2 ey_l0)))) rfl
  by_cases c12 : n ≤ 12
  · obtain rfl : n = 12 := by omega
    obtain rfl : t = 12 := h1 (by decide)
    exact kx_mk (kxr_3_12_k hmn) (ey_lr (ey_lx rfl (ey_lx rfl (ey_li v1 v2 ey_l0)))) rfl
  by_cases c13 : n ≤ 13
  · obtain rfl : n = 13 := by omega
    obtain rfl : t = 13 := h1 (by decide)
    exact kx_mk (kxr_3_13_k hmn) (ey_lr (ey_lx rfl (ey_lx rfl (ey_li v1 v2 ey_l0)))) rfl
  by_cases c14 : n ≤ 14
  · obtain rfl : n = 14 := by omega
    obtain rfl : t = 14 := h1 (by decide)
    exact kx_mk (kxr_3_14_k hmn) (ey_lr (ey_lx rfl (ey_lx rfl (ey_li v1 v2 ey_l0)))) rfl
  by_cases c15 : n ≤ 15
  · obtain rfl : n = 15 := by omega
    obtain rfl : t = 15 := h1 (by decide)
    exact kx_mk (kxr_3_15_k hmn) (ey_lr (ey_lx rfl (ey_lx rfl (ey_li v1 v2 ey_l0)))) rfl
  by_cases c16 : n ≤ 16
  · obtain rfl : n = 16 := by omega
    obtain rfl : t = 16 := h1 (by decide)
    exact kx_mk (kxr_3_16_k hmn) (ey_lr (ey_lx rfl (ey_lx rfl (ey_li v1 v2 ey_l0)))) rfl
  by_cases c17 : n ≤ 17
  · obtain rfl : n = 17 := by omega
    obtain rfl : t = 17 := h1 (by decide)
    exact kx_mk (kxr_3_17_k hmn) (ey_lr (ey_lx rfl (ey_lx rfl (ey_li v1 v2 ey_l0)))) rfl
  by_cases c18 : n ≤ 18
  · obtain rfl : n = 18 := by omega
    obtain rfl : t = 18 := h1 (by decide)
    exact kx_mk (kxr_3_18_k hmn) (ey_lr (ey_lx rfl (ey_lx rfl (ey_li v1 v2 ey_l0)))) rfl
  by_cases c19 : n ≤ 19
  · obtain rfl : n = 19 := by omega
    obtain rfl : t = 19 := h1 (by decide)
    exact kx_mk (kxr_3_19_k hmn) (ey_lr (ey_lx rfl (ey_lx rfl (ey_li v1 v2 ey_l0)))) rfl
  by_cases c20 : n ≤ 20
  · obtain rfl : n = 20 := by omega
    obtain rfl : t = 20 := h1 (by decide)
    exact kx_mk (kxr_3_20_k hmn) (ey_lr (ey_lx rfl (ey_lx rfl (ey_li v1 v2 ey_l0)))) rfl
  by_cases c21 : n ≤ 21
  · obtain rfl : n = 21 := by omega
    obtain rfl : t = 21 := h1 (by decide)
    exact kx_mk (kxr_3_21_k hmn) (ey_lr (ey_lx rfl (ey_lx rfl (ey_li v1 v2 ey_l0)))) rfl
  obtain rfl : t = 21 := h2 (by omega)
  exact kx_mk (kxr_3_b_k hmn) (ey_lr (ey_lx rfl (ey_li (show (22 : Int) ≤ n by omega) n2 (ey_li v1 v2 ey_l0)))) rfl
theorem kx_r_4 {l : Launch} {D : va_G} {τ : Nat → ClassId} {sa : List Nat} {A : Nat → Prop} (hmn : em_mna) {L P : Nat} {n v t : Int} (n1 : 1 ≤ n) (n2 : n ≤ 24) (v1 : -400 ≤ v) (v2 : v ≤ 200) (h1 : n ≤ 20 → t = n) (h2 : 20 < n → t = 20) : em_X l D τ sa A 141 [(.inr (.inr (.inl (some 345)))), .inl 4, .inl n, .inl v] (el_h L P) (fun w hp' => w = some (.inl t) ∧ hp' = el_h L P) 2 := by
  by_cases c1 : n ≤ 1
  · obtain rfl : n = 1 := by omega
    obtain rfl : t = 1 := h1 (by decide)
    exact kx_mk (kxr_4_1_k hmn) (ey_lr (ey_lx rfl (ey_lx rfl (ey_li v1 v2 ey_l0)))) rfl
  by_cases c2 : n ≤ 2
  · obtain rfl : n = 2 := by omega
    obtain rfl : t = 2 := h1 (by decide)
    exact kx_mk (kxr_4_2_k hmn) (ey_lr (ey_lx rfl (ey_lx rfl (ey_li v1 v2 ey_l0)))) rfl
  by_cases c3 : n ≤ 3
  · obtain rfl : n = 3 := by omega
    obtain rfl : t = 3 := h1 (by decide)
    exact kx_mk (kxr_4_3_k hmn) (ey_lr (ey_lx rfl (ey_lx rfl (ey_li v1 v2 ey_l0)))) rfl
  by_cases c4 : n ≤ 4
  · obtain rfl : n = 4 := by omega
    obtain rfl : t = 4 := h1 (by decide)
    exact kx_mk (kxr_4_4_k hmn) (ey_lr (ey_lx rfl (ey_lx rfl (ey_li v1 v2 ey_l0)))) rfl
  by_cases c5 : n ≤ 5
  · obtain rfl : n = 5 := by omega
    obtain rfl : t = 5 := h1 (by decide)
    exact kx_mk (kxr_4_5_k hmn) (ey_lr (ey_lx rfl (ey_lx rfl (ey_li v1 v2 ey_l0)))) rfl
  by_cases c6 : n ≤ 6
  · obtain rfl : n = 6 := by omega
    obtain rfl : t = 6 := h1 (by decide)
    exact kx_mk (kxr_4_6_k hmn) (ey_lr (ey_lx rfl (ey_lx rfl (ey_li v1 v2 ey_l0)))) rfl
  by_cases c7 : n ≤ 7
  · obtain rfl : n = 7 := by omega
    obtain rfl : t = 7 := h1 (by decide)
    exact kx_mk (kxr_4_7_k hmn) (ey_lr (ey_lx rfl (ey_lx rfl (ey_li v1 v2 ey_l0)))) rfl
  by_cases c8 : n ≤ 8
  · obtain rfl : n = 8 := by omega
    obtain rfl : t = 8 := h1 (by decide)
    exact kx_mk (kxr_4_8_k hmn) (ey_lr (ey_lx rfl (ey_lx rfl (ey_li v1 v2 ey_l0)))) rfl
  by_cases c9 : n ≤ 9
  · obtain rfl : n = 9 := by omega
    obtain rfl : t = 9 := h1 (by decide)
    exact kx_mk (kxr_4_9_k hmn) (ey_lr (ey_lx rfl (ey_lx rfl (ey_li v1 v2 ey_l0)))) rfl
  by_cases c10 : n ≤ 10
  · obtain rfl : n = 10 := by omega
    obtain rfl : t = 10 := h1 (by decide)
    exact kx_mk (kxr_4_10_k hmn) (ey_lr (ey_lx rfl (ey_lx rfl (ey_li v1 v2 ey_l0)))) rfl
  by_cases c11 : n ≤ 11
  · obtain rfl : n = 11 := by omega
    obtain rfl : t = 11 := h1 (by decide)
    exact kx_mk (kxr_4_11_k hmn) (ey_lr (ey_lx rfl (ey_lx rfl (ey_li v1 v2 ey_l0)))) rfl
  by_cases c12 : n ≤ 12
  · obtain rfl : n = 12 := by omega
    obtain rfl : t = 12 := h1 (by decide)
    exact kx_mk (kxr_4_12_k hmn) (ey_lr (ey_lx rfl (ey_lx rfl (ey_li v1 v2 ey_l0)))) rfl
  by_cases c13 : n ≤ 13
  · obtain rfl : n = 13 := by omega
    obtain rfl : t = 13 := h1 (by decide)
    exact kx_mk (kxr_4_13_k hmn) (ey_lr (ey_lx rfl (ey_lx rfl (ey_li v1 v2 ey_l0)))) rfl
  by_cases c14 : n ≤ 14
  · obtain rfl : n = 14 := by omega
    obtain rfl : t = 14 := h1 (by decide)
    exact kx_mk (kxr_4_14_k hmn) (ey_lr (ey_lx rfl (ey_lx rfl (ey_li v1 v2 ey_l0)))) rfl
  by_cases c15 : n ≤ 15
  · obtain rfl : n = 15 := by omega
    obtain rfl : t = 15 := h1 (by decide)
    exact kx_mk (kxr_4_15_k hmn) (ey_lr (ey_lx rfl (ey_lx rfl (ey_li v1 v2 ey_l0)))) rfl
  by_cases c16 : n ≤ 16
  · obtain rfl : n = 16 := by omega
    obtain rfl : t = 16 := h1 (by decide)
    exact kx_mk (kxr_4_16_k hmn) (ey_lr (ey_lx rfl (ey_lx rfl (ey_li v1 v2 ey_l0)))) rfl
  by_cases c17 : n ≤ 17
  · obtain rfl : n = 17 := by omega
    obtain rfl : t = 17 := h1 (by decide)
    exact kx_mk (kxr_4_17_k hmn) (ey_lr (ey_lx rfl (ey_lx rfl (ey_li v1 v2 ey_l0)))) rfl
  by_cases c18 : n ≤ 18
  · obtain rfl : n = 18 := by omega
    obtain rfl : t = 18 := h1 (by decide)
    exact kx_mk (kxr_4_18_k hmn) (ey_lr (ey_lx rfl (ey_lx rfl (ey_li v1 v2 ey_l0)))) rfl
  by_cases c19 : n ≤ 19
  · obtain rfl : n = 19 := by omega
    obtain rfl : t = 19 := h1 (by decide)
    exact kx_mk (kxr_4_19_k hmn) (ey_lr (ey_lx rfl (ey_lx rfl (ey_li v1 v2 ey_l0)))) rfl
  by_cases c20 : n ≤ 20
  · obtain rfl : n = 20 := by omega
    obtain rfl : t = 20 := h1 (by decide)
    exact kx_mk (kxr_4_20_k hmn) (ey_lr (ey_lx rfl (ey_lx rfl (ey_li v1 v2 ey_l0)))) rfl
  obtain rfl : t = 20 := h2 (by omega)
  exact kx_mk (kxr_4_b_k hmn) (ey_lr (ey_lx rfl (ey_li (show (21 : Int) ≤ n by omega) n2 (ey_li v1 v2 ey_l0)))) rfl
theorem kx_r_5 {l : Launch} {D : va_G} {τ : Nat → ClassId} {sa : List Nat} {A : Nat → Prop} (hmn : em_mna) {L P : Nat} {n v t : Int} (n1 : 1 ≤ n) (n2 : n ≤ 24) (v1 : -400 ≤ v) (v2 : v ≤ 200) (h1 : n ≤ 19 → t = n) (h2 : 19 < n → t = 19) : em_X l D τ sa A 141 [(.inr (.inr (.inl (some 345)))), .inl 5, .inl n, .inl v] (el_h L P) (fun w hp' => w = some (.inl t) ∧ hp' = el_h L P) 2 := by
  by_cases c1 : n ≤ 1
  · obtain rfl : n = 1 := by omega
    obtain rfl : t = 1 := h1 (by decide)
    exact kx_mk (kxr_5_1_k hmn) (ey_lr (ey_lx rfl (ey_lx rfl (ey_li v1 v2 ey_l0)))) rfl
  by_cases c2 : n ≤ 2
  · obtain rfl : n = 2 := by omega
    obtain rfl : t = 2 := h1 (by decide)
    exact kx_mk (kxr_5_2_k hmn) (ey_lr (ey_lx rfl (ey_lx rfl (ey_li v1 v2 ey_l0)))) rfl
  by_cases c3 : n ≤ 3
  · obtain rfl : n = 3 := by omega
    obtain rfl : t = 3 := h1 (by decide)
    exact kx_mk (kxr_5_3_k hmn) (ey_lr (ey_lx rfl (ey_lx rfl (ey_li v1 v2 ey_l0)))) rfl
  by_cases c4 : n ≤ 4
  · obtain rfl : n = 4 := by omega
    obtain rfl : t = 4 := h1 (by decide)
    exact kx_mk (kxr_5_4_k hmn) (ey_lr (ey_lx rfl (ey_lx rfl (ey_li v1 v2 ey_l0)))) rfl
  by_cases c5 : n ≤ 5
  · obtain rfl : n = 5 := by omega
    obtain rfl : t = 5 := h1 (by decide)
    exact kx_mk (kxr_5_5_k hmn) (ey_lr (ey_lx rfl (ey_lx rfl (ey_li v1 v2 ey_l0)))) rfl
  by_cases c6 : n ≤ 6
  · obtain rfl : n = 6 := by omega
    obtain rfl : t = 6 := h1 (by decide)
    exact kx_mk (kxr_5_6_k hmn) (ey_lr (ey_lx rfl (ey_lx rfl (ey_li v1 v2 ey_l0)))) rfl
  by_cases c7 : n ≤ 7
  · obtain rfl : n = 7 := by omega
    obtain rfl : t = 7 := h1 (by decide)
    exact kx_mk (kxr_5_7_k hmn) (ey_lr (ey_lx rfl (ey_lx rfl (ey_li v1 v2 ey_l0)))) rfl
  by_cases c8 : n ≤ 8
  · obtain rfl : n = 8 := by omega
    obtain rfl : t = 8 := h1 (by decide)
    exact kx_mk (kxr_5_8_k hmn) (ey_lr (ey_lx rfl (ey_lx rfl (ey_li v1 v2 ey_l0)))) rfl
  by_cases c9 : n ≤ 9
  · obtain rfl : n = 9 := by omega
    obtain rfl : t = 9 := h1 (by decide)
    exact kx_mk (kxr_5_9_k hmn) (ey_lr (ey_lx rfl (ey_lx rfl (ey_li v1 v2 ey_l0)))) rfl
  by_cases c10 : n ≤ 10
  · obtain rfl : n = 10 := by omega
    obtain rfl : t = 10 := h1 (by decide)
    exact kx_mk (kxr_5_10_k hmn) (ey_lr (ey_lx rfl (ey_lx rfl (ey_li v1 v2 ey_l0)))) rfl
  by_cases c11 : n ≤ 11
  · obtain rfl : n = 11 := by omega
    obtain rfl : t = 11 := h1 (by decide)
    exact kx_mk (kxr_5_11_k hmn) (ey_lr (ey_lx rfl (ey_lx rfl (ey_li v1 v2 ey_l0)))) rfl
  by_cases c12 : n ≤ 12
  · obtain rfl : n = 12 := by omega
    obtain rfl : t = 12 := h1 (by decide)
    exact kx_mk (kxr_5_12_k hmn) (ey_lr (ey_lx rfl (ey_lx rfl (ey_li v1 v2 ey_l0)))) rfl
  by_cases c13 : n ≤ 13
  · obtain rfl : n = 13 := by omega
    obtain rfl : t = 13 := h1 (by decide)
    exact kx_mk (kxr_5_13_k hmn) (ey_lr (ey_lx rfl (ey_lx rfl (ey_li v1 v2 ey_l0)))) rfl
  by_cases c14 : n ≤ 14
  · obtain rfl : n = 14 := by omega
    obtain rfl : t = 14 := h1 (by decide)
    exact kx_mk (kxr_5_14_k hmn) (ey_lr (ey_lx rfl (ey_lx rfl (ey_li v1 v2 ey_l0)))) rfl
  by_cases c15 : n ≤ 15
  · obtain rfl : n = 15 := by omega
    obtain rfl : t = 15 := h1 (by decide)
    exact kx_mk (kxr_5_15_k hmn) (ey_lr (ey_lx rfl (ey_lx rfl (ey_li v1 v2 ey_l0)))) rfl
  by_cases c16 : n ≤ 16
  · obtain rfl : n = 16 := by omega
    obtain rfl : t = 16 := h1 (by decide)
    exact kx_mk (kxr_5_16_k hmn) (ey_lr (ey_lx rfl (ey_lx rfl (ey_li v1 v2 ey_l0)))) rfl
  by_cases c17 : n ≤ 17
  · obtain rfl : n = 17 := by omega
    obtain rfl : t = 17 := h1 (by decide)
    exact kx_mk (kxr_5_17_k hmn) (ey_lr (ey_lx rfl (ey_lx rfl (ey_li v1 v2 ey_l0)))) rfl
  by_cases c18 : n ≤ 18
  · obtain rfl : n = 18 := by omega
    obtain rfl : t = 18 := h1 (by decide)
    exact kx_mk (kxr_5_18_k hmn) (ey_lr (ey_lx rfl (ey_lx rfl (ey_li v1 v2 ey_l0)))) rfl
  by_cases c19 : n ≤ 19
  · obtain rfl : n = 19 := by omega
    obtain rfl : t = 19 := h1 (by decide)
    exact kx_mk (kxr_5_19_k hmn) (ey_lr (ey_lx rfl (ey_lx rfl (ey_li v1 v2 ey_l0)))) rfl
  obtain rfl : t = 19 := h2 (by omega)
  exact kx_mk (kxr_5_b_k hmn) (ey_lr (ey_lx rfl (ey_li (show (20 : Int) ≤ n by omega) n2 (ey_li v1 v2 ey_l0)))) rfl
theorem kx_r_6 {l : Launch} {D : va_G} {τ : Nat → ClassId} {sa : List Nat} {A : Nat → Prop} (hmn : em_mna) {L P : Nat} {n v t : Int} (n1 : 1 ≤ n) (n2 : n ≤ 24) (v1 : -400 ≤ v) (v2 : v ≤ 200) (h1 : n ≤ 18 → t = n) (h2 : 18 < n → t = 18) : em_X l D τ sa A 141 [(.inr (.inr (.inl (some 345)))), .inl 6, .inl n, .inl v] (el_h L P) (fun w hp' => w = some (.inl t) ∧ hp' = el_h L P) 2 := by
  by_cases c1 : n ≤ 1
  · obtain rfl : n = 1 := by omega
    obtain rfl : t = 1 := h1 (by decide)
    exact kx_mk (kxr_6_1_k hmn) (ey_lr (ey_lx rfl (ey_lx rfl (ey_li v1 v2 ey_l0)))) rfl
  by_cases c2 : n ≤ 2
  · obtain rfl : n = 2 := by omega
    obtain rfl : t = 2 := h1 (by decide)
    exact kx_mk (kxr_6_2_k hmn) (ey_lr (ey_lx rfl (ey_lx rfl (ey_li v1 v2 ey_l0)))) rfl
  by_cases c3 : n ≤ 3
  · obtain rfl : n = 3 := by omega
    obtain rfl : t = 3 := h1 (by decide)
    exact kx_mk (kxr_6_3_k hmn) (ey_lr (ey_lx rfl (ey_lx rfl (ey_li v1 v2 ey_l0)))) rfl
  by_cases c4 : n ≤ 4
  · obtain rfl : n = 4 := by omega
    obtain rfl : t = 4 := h1 (by decide)
    exact kx_mk (kxr_6_4_k hmn) (ey_lr (ey_lx rfl (ey_lx rfl (ey_li v1 v2 ey_l0)))) rfl
  by_cases c5 : n ≤ 5
  · obtain rfl : n = 5 := by omega
    obtain rfl : t = 5 := h1 (by decide)
    exact kx_mk (kxr_6_5_k hmn) (ey_lr (ey_lx rfl (ey_lx rfl (ey_li v1 v2 ey_l0)))) rfl
  by_cases c6 : n ≤ 6
  · obtain rfl : n = 6 := by omega
    obtain rfl : t = 6 := h1 (by decide)
    exact kx_mk (kxr_6_6_k hmn) (ey_lr (ey_lx rfl (ey_lx rfl (ey_li v1 v2 ey_l0)))) rfl
  by_cases c7 : n ≤ 7
  · obtain rfl : n = 7 := by omega
    obtain rfl : t = 7 := h1 (by decide)
    exact kx_mk (kxr_6_7_k hmn) (ey_lr (ey_lx rfl (ey_lx rfl (ey_li v1 v2 ey_l0)))) rfl
  by_cases c8 : n ≤ 8
  · obtain rfl : n = 8 := by omega
    obtain rfl : t = 8 := h1 (by decide)
    exact kx_mk (kxr_6_8_k hmn) (ey_lr (ey_lx rfl (ey_lx rfl (ey_li v1 v2 ey_l0)))) rfl
  by_cases c9 : n ≤ 9
  · obtain rfl : n = 9 := by omega
    obtain rfl : t = 9 := h1 (by decide)
    exact kx_mk (kxr_6_9_k hmn) (ey_lr (ey_lx rfl (ey_lx rfl (ey_li v1 v2 ey_l0)))) rfl
  by_cases c10 : n ≤ 10
  · obtain rfl : n = 10 := by omega
    obtain rfl : t = 10 := h1 (by decide)
    exact kx_mk (kxr_6_10_k hmn) (ey_lr (ey_lx rfl (ey_lx rfl (ey_li v1 v2 ey_l0)))) rfl
  by_cases c11 : n ≤ 11
  · obtain rfl : n = 11 := by omega
    obtain rfl : t = 11 := h1 (by decide)
    exact kx_mk (kxr_6_11_k hmn) (ey_lr (ey_lx rfl (ey_lx rfl (ey_li v1 v2 ey_l0)))) rfl
  by_cases c12 : n ≤ 12
  · obtain rfl : n = 12 := by omega
    obtain rfl : t = 12 := h1 (by decide)
    exact kx_mk (kxr_6_12_k hmn) (ey_lr (ey_lx rfl (ey_lx rfl (ey_li v1 v2 ey_l0)))) rfl
  by_cases c13 : n ≤ 13
  · obtain rfl : n = 13 := by omega
    obtain rfl : t = 13 := h1 (by decide)
    exact kx_mk (kxr_6_13_k hmn) (ey_lr (ey_lx rfl (ey_lx rfl (ey_li v1 v2 ey_l0)))) rfl
  by_cases c14 : n ≤ 14
  · obtain rfl : n = 14 := by omega
    obtain rfl : t = 14 := h1 (by decide)
    exact kx_mk (kxr_6_14_k hmn) (ey_lr (ey_lx rfl (ey_lx rfl (ey_li v1 v2 ey_l0)))) rfl
  by_cases c15 : n ≤ 15
  · obtain rfl : n = 15 := by omega
    obtain rfl : t = 15 := h1 (by decide)
    exact kx_mk (kxr_6_15_k hmn) (ey_lr (ey_lx rfl (ey_lx rfl (ey_li v1 v2 ey_l0)))) rfl
  by_cases c16 : n ≤ 16
  · obtain rfl : n = 16 := by omega
    obtain rfl : t = 16 := h1 (by decide)
    exact kx_mk (kxr_6_16_k hmn) (ey_lr (ey_lx rfl (ey_lx rfl (ey_li v1 v2 ey_l0)))) rfl
  by_cases c17 : n ≤ 17
  · obtain rfl : n = 17 := by omega
    obtain rfl : t = 17 := h1 (by decide)
    exact kx_mk (kxr_6_17_k hmn) (ey_lr (ey_lx rfl (ey_lx rfl (ey_li v1 v2 ey_l0)))) rfl
  by_cases c18 : n ≤ 18
  · obtain rfl : n = 18 := by omega
    obtain rfl : t = 18 := h1 (by decide)
    exact kx_mk (kxr_6_18_k hmn) (ey_lr (ey_lx rfl (ey_lx rfl (ey_li v1 v2 ey_l0)))) rfl
  obtain rfl : t = 18 := h2 (by omega)
  exact kx_mk (kxr_6_b_k hmn) (ey_lr (ey_lx rfl (ey_li (show (19 : Int) ≤ n by omega) n2 (ey_li v1 v2 ey_l0)))) rfl
theorem kx_r_7 {l : Launch} {D : va_G} {τ : Nat → ClassId} {sa : List Nat} {A : Nat → Prop} (hmn : em_mna) {L P : Nat} {n v t : Int} (n1 : 1 ≤ n) (n2 : n ≤ 24) (v1 : -400 ≤ v) (v2 : v ≤ 200) (h1 : n ≤ 17 → t = n) (h2 : 17 < n → t = 17) : em_X l D τ sa A 141 [(.inr (.inr (.inl (some 345)))), .inl 7, .inl n, .inl v] (el_h L P) (fun w hp' => w = some (.inl t) ∧ hp' = el_h L P) 2 := by
  by_cases c1 : n ≤ 1
  · obtain rfl : n = 1 := by omega
    obtain rfl : t = 1 := h1 (by decide)
    exact kx_mk (kxr_7_1_k hmn) (ey_lr (ey_lx rfl (ey_lx rfl (ey_li v1 v2 ey_l0)))) rfl
  by_cases c2 : n ≤ 2
  · obtain rfl : n = 2 := by omega
    obtain rfl : t = 2 := h1 (by decide)
    exact kx_mk (kxr_7_2_k hmn) (ey_lr (ey_lx rfl (ey_lx rfl (ey_li v1 v2 ey_l0)))) rfl
  by_cases c3 : n ≤ 3
  · obtain rfl : n = 3 := by omega
    obtain rfl : t = 3 := h1 (by decide)
    exact kx_mk (kxr_7_3_k hmn) (ey_lr (ey_lx rfl (ey_lx rfl (ey_li v1 v2 ey_l0)))) rfl
  by_cases c4 : n ≤ 4
  · obtain rfl : n = 4 := by omega
    obtain rfl : t = 4 := h1 (by decide)
    exact kx_mk (kxr_7_4_k hmn) (ey_lr (ey_lx rfl (ey_lx rfl (ey_li v1 v2 ey_l0)))) rfl
  by_cases c5 : n ≤ 5
  · obtain rfl : n = 5 := by omega
    obtain rfl : t = 5 := h1 (by decide)
    exact kx_mk (kxr_7_5_k hmn) (ey_lr (ey_lx rfl (ey_lx rfl (ey_li v1 v2 ey_l0)))) rfl
  by_cases c6 : n ≤ 6
  · obtain rfl : n = 6 := by omega
    obtain rfl : t = 6 := h1 (by decide)
    exact kx_mk (kxr_7_6_k hmn) (ey_lr (ey_lx rfl (ey_lx rfl (ey_li v1 v2 ey_l0)))) rfl
  by_cases c7 : n ≤ 7
  · obtain rfl : n = 7 := by omega
    obtain rfl : t = 7 := h1 (by decide)
    exact kx_mk (kxr_7_7_k hmn) (ey_lr (ey_lx rfl (ey_lx rfl (ey_li v1 v2 ey_l0)))) rfl
  by_cases c8 : n ≤ 8
  · obtain rfl : n = 8 := by omega
    obtain rfl : t = 8 := h1 (by decide)
    exact kx_mk (kxr_7_8_k hmn) (ey_lr (ey_lx rfl (ey_lx rfl (ey_li v1 v2 ey_l0)))) rfl
  by_cases c9 : n ≤ 9
  · obtain rfl : n = 9 := by omega
    obtain rfl : t = 9 := h1 (by decide)
    exact kx_mk (kxr_7_9_k hmn) (ey_lr (ey_lx rfl (ey_lx rfl (ey_li v1 v2 ey_l0)))) rfl
  by_cases c10 : n ≤ 10
  · obtain rfl : n = 10 := by omega
    obtain rfl : t = 10 := h1 (by decide)
    exact kx_mk (kxr_7_10_k hmn) (ey_lr (ey_lx rfl (ey_lx rfl (ey_li v1 v2 ey_l0)))) rfl
  by_cases c11 : n ≤ 11
  · obtain rfl : n = 11 := by omega
    obtain rfl : t = 11 := h1 (by decide)
    exact kx_mk (kxr_7_11_k hmn) (ey_lr (ey_lx rfl (ey_lx rfl (ey_li v1 v2 ey_l0)))) rfl
  by_cases c12 : n ≤ 12
  · obtain rfl : n = 12 := by omega
    obtain rfl : t = 12 := h1 (by decide)
    exact kx_mk (kxr_7_12_k hmn) (ey_lr (ey_lx rfl (ey_lx rfl (ey_li v1 v2 ey_l0)))) rfl
  by_cases c13 : n ≤ 13
  · obtain rfl : n = 13 := by omega
    obtain rfl : t = 13 := h1 (by decide)
    exact kx_mk (kxr_7_13_k hmn) (ey_lr (ey_lx rfl (ey_lx rfl (ey_li v1 v2 ey_l0)))) rfl
  by_cases c14 : n ≤ 14
  · obtain rfl : n = 14 := by omega
    obtain rfl : t = 14 := h1 (by decide)
    exact kx_mk (kxr_7_14_k hmn) (ey_lr (ey_lx rfl (ey_lx rfl (ey_li v1 v2 ey_l0)))) rfl
  by_cases c15 : n ≤ 15
  · obtain rfl : n = 15 := by omega
    obtain rfl : t = 15 := h1 (by decide)
    exact kx_mk (kxr_7_15_k hmn) (ey_lr (ey_lx rfl (ey_lx rfl (ey_li v1 v2 ey_l0)))) rfl
  by_cases c16 : n ≤ 16
  · obtain rfl : n = 16 := by omega
    obtain rfl : t = 16 := h1 (by decide)
    exact kx_mk (kxr_7_16_k hmn) (ey_lr (ey_lx rfl (ey_lx rfl (ey_li v1 v2 ey_l0)))) rfl
  by_cases c17 : n ≤ 17
  · obtain rfl : n = 17 := by omega
    obtain rfl : t = 17 := h1 (by decide)
    exact kx_mk (kxr_7_17_k hmn) (ey_lr (ey_lx rfl (ey_lx rfl (ey_li v1 v2 ey_l0)))) rfl
  obtain rfl : t = 17 := h2 (by omega)
  exact kx_mk (kxr_7_b_k hmn) (ey_lr (ey_lx rfl (ey_li (show (18 : Int) ≤ n by omega) n2 (ey_li v1 v2 ey_l0)))) rfl
theorem kx_r_8 {l : Launch} {D : va_G} {τ : Nat → ClassId} {sa : List Nat} {A : Nat → Prop} (hmn : em_mna) {L P : Nat} {n v t : Int} (n1 : 1 ≤ n) (n2 : n ≤ 24) (v1 : -400 ≤ v) (v2 : v ≤ 200) (h1 : n ≤ 16 → t = n) (h2 : 16 < n → t = 16) : em_X l D τ sa A 141 [(.inr (.inr (.inl (some 345)))), .inl 8, .inl n, .inl v] (el_h L P) (fun w hp' => w = some (.inl t) ∧ hp' = el_h L P) 2 := by
  by_cases c1 : n ≤ 1
  · obtain rfl : n = 1 := by omega
    obtain rfl : t = 1 := h1 (by decide)
    exact kx_mk (kxr_8_1_k hmn) (ey_lr (ey_lx rfl (ey_lx rfl (ey_li v1 v2 ey_l0)))) rfl
  by_cases c2 : n ≤ 2
  · obtain rfl : n = 2 := by omega
    obtain rfl : t = 2 := h1 (by decide)
    exact kx_mk (kxr_8_2_k hmn) (ey_lr (ey_lx rfl (ey_lx rfl (ey_li v1 v2 ey_l0)))) rfl
  by_cases c3 : n ≤ 3
  · obtain rfl : n = 3 := by omega
    obtain rfl : t = 3 := h1 (by decide)
    exact kx_mk (kxr_8_3_k hmn) (ey_lr (ey_lx rfl (ey_lx rfl (ey_li v1 v2 ey_l0)))) rfl
  by_cases c4 : n ≤ 4
  · obtain rfl : n = 4 := by omega
    obtain rfl : t = 4 := h1 (by decide)
    exact kx_mk (kxr_8_4_k hmn) (ey_lr (ey_lx rfl (ey_lx rfl (ey_li v1 v2 ey_l0)))) rfl
  by_cases c5 : n ≤ 5
  · obtain rfl : n = 5 := by omega
    obtain rfl : t = 5 := h1 (by decide)
    exact kx_mk (kxr_8_5_k hmn) (ey_lr (ey_lx rfl (ey_lx rfl (ey_li v1 v2 ey_l0)))) rfl
  by_cases c6 : n ≤ 6
  · obtain rfl : n = 6 := by omega
    obtain rfl : t = 6 := h1 (by decide)
    exact kx_mk (kxr_8_6_k hmn) (ey_lr (ey_lx rfl (ey_lx rfl (ey_li v1 v2 ey_l0)))) rfl
  by_cases c7 : n ≤ 7
  · obtain rfl : n = 7 := by omega
    obtain rfl : t = 7 := h1 (by decide)
    exact kx_mk (kxr_8_7_k hmn) (ey_lr (ey_lx rfl (ey_lx rfl (ey_li v1 v2 ey_l0)))) rfl
  by_cases c8 : n ≤ 8
  · obtain rfl : n = 8 := by omega
    obtain rfl : t = 8 := h1 (by decide)
    exact kx_mk (kxr_8_8_k hmn) (ey_lr (ey_lx rfl (ey_lx rfl (ey_li v1 v2 ey_l0)))) rfl
  by_cases c9 : n ≤ 9
  · obtain rfl : n = 9 := by omega
    obtain rfl : t = 9 := h1 (by decide)
    exact kx_mk (kxr_8_9_k hmn) (ey_lr (ey_lx rfl (ey_lx rfl (ey_li v1 v2 ey_l0)))) rfl
  by_cases c10 : n ≤ 10
  · obtain rfl : n = 10 := by omega
    obtain rfl : t = 10 := h1 (by decide)
    exact kx_mk (kxr_8_10_k hmn) (ey_lr (ey_lx rfl (ey_lx rfl (ey_li v1 v2 ey_l0)))) rfl
  by_cases c11 : n ≤ 11
  · obtain rfl : n = 11 := by omega
    obtain rfl : t = 11 := h1 (by decide)
    exact kx_mk (kxr_8_11_k hmn) (ey_lr (ey_lx rfl (ey_lx rfl (ey_li v1 v2 ey_l0)))) rfl
  by_cases c12 : n ≤ 12
  · obtain rfl : n = 12 := by omega
    obtain rfl : t = 12 := h1 (by decide)
    exact kx_mk (kxr_8_12_k hmn) (ey_lr (ey_lx rfl (ey_lx rfl (ey_li v1 v2 ey_l0)))) rfl
  by_cases c13 : n ≤ 13
  · obtain rfl : n = 13 := by omega
    obtain rfl : t = 13 := h1 (by decide)
    exact kx_mk (kxr_8_13_k hmn) (ey_lr (ey_lx rfl (ey_lx rfl (ey_li v1 v2 ey_l0)))) rfl
  by_cases c14 : n ≤ 14
  · obtain rfl : n = 14 := by omega
    obtain rfl : t = 14 := h1 (by decide)
    exact kx_mk (kxr_8_14_k hmn) (ey_lr (ey_lx rfl (ey_lx rfl (ey_li v1 v2 ey_l0)))) rfl
  by_cases c15 : n ≤ 15
  · obtain rfl : n = 15 := by omega
    obtain rfl : t = 15 := h1 (by decide)
    exact kx_mk (kxr_8_15_k hmn) (ey_lr (ey_lx rfl (ey_lx rfl (ey_li v1 v2 ey_l0)))) rfl
  by_cases c16 : n ≤ 16
  · obtain rfl : n = 16 := by omega
    obtain rfl : t = 16 := h1 (by decide)
    exact kx_mk (kxr_8_16_k hmn) (ey_lr (ey_lx rfl (ey_lx rfl (ey_li v1 v2 ey_l0)))) rfl
  obtain rfl : t = 16 := h2 (by omega)
  exact kx_mk (kxr_8_b_k hmn) (ey_lr (ey_lx rfl (ey_li (show (17 : Int) ≤ n by omega) n2 (ey_li v1 v2 ey_l0)))) rfl
theorem kx_r_9 {l : Launch} {D : va_G} {τ : Nat → ClassId} {sa : List Nat} {A : Nat → Prop} (hmn : em_mna) {L P : Nat} {n v t : Int} (n1 : 1 ≤ n) (n2 : n ≤ 24) (v1 : -400 ≤ v) (v2 : v ≤ 200) (h1 : n ≤ 15 → t = n) (h2 : 15 < n → t = 15) : em_X l D τ sa A 141 [(.inr (.inr (.inl (some 345)))), .inl 9, .inl n, .inl v] (el_h L P) (fun w hp' => w = some (.inl t) ∧ hp' = el_h L P) 2 := by
  by_cases c1 : n ≤ 1
  · obtain rfl : n = 1 := by omega
    obtain rfl : t = 1 := h1 (by decide)
    exact kx_mk (kxr_9_1_k hmn) (ey_lr (ey_lx rfl (ey_lx rfl (ey_li v1 v2 ey_l0)))) rfl
  by_cases c2 : n ≤ 2
  · obtain rfl : n = 2 := by omega
    obtain rfl : t = 2 := h1 (by decide)
    exact kx_mk (kxr_9_2_k hmn) (ey_lr (ey_lx rfl (ey_lx rfl (ey_li v1 v2 ey_l0)))) rfl
  by_cases c3 : n ≤ 3
  · obtain rfl : n = 3 := by omega
    obtain rfl : t = 3 := h1 (by decide)
    exact kx_mk (kxr_9_3_k hmn) (ey_lr (ey_lx rfl (ey_lx rfl (ey_li v1 v2 ey_l0)))) rfl
  by_cases c4 : n ≤ 4
  · obtain rfl : n = 4 := by omega
    obtain rfl : t = 4 := h1 (by decide)
    exact kx_mk (kxr_9_4_k hmn) (ey_lr (ey_lx rfl (ey_lx rfl (ey_li v1 v2 ey_l0)))) rfl
  by_cases c5 : n ≤ 5
  · obtain rfl : n = 5 := by omega
    obtain rfl : t = 5 := h1 (by decide)
    exact kx_mk (kxr_9_5_k hmn) (ey_lr (ey_lx rfl (ey_lx rfl (ey_li v1 v2 ey_l0)))) rfl
  by_cases c6 : n ≤ 6
  · obtain rfl : n = 6 := by omega
    obtain rfl : t = 6 := h1 (by decide)
    exact kx_mk (kxr_9_6_k hmn) (ey_lr (ey_lx rfl (ey_lx rfl (ey_li v1 v2 ey_l0)))) rfl
  by_cases c7 : n ≤ 7
  · obtain rfl : n = 7 := by omega
    obtain rfl : t = 7 := h1 (by decide)
    exact kx_mk (kxr_9_7_k hmn) (ey_lr (ey_lx rfl (ey_lx rfl (ey_li v1 v2 ey_l0)))) rfl
  by_cases c8 : n ≤ 8
  · obtain rfl : n = 8 := by omega
    obtain rfl : t = 8 := h1 (by decide)
    exact kx_mk (kxr_9_8_k hmn) (ey_lr (ey_lx rfl (ey_lx rfl (ey_li v1 v2 ey_l0)))) rfl
  by_cases c9 : n ≤ 9
  · obtain rfl : n = 9 := by omega
    obtain rfl : t = 9 := h1 (by decide)
    exact kx_mk (kxr_9_9_k hmn) (ey_lr (ey_lx rfl (ey_lx rfl (ey_li v1 v2 ey_l0)))) rfl
  by_cases c10 : n ≤ 10
  · obtain rfl : n = 10 := by omega
    obtain rfl : t = 10 := h1 (by decide)
    exact kx_mk (kxr_9_10_k hmn) (ey_lr (ey_lx rfl (ey_lx rfl (ey_li v1 v2 ey_l0)))) rfl
  by_cases c11 : n ≤ 11
  · obtain rfl : n = 11 := by omega
    obtain rfl : t = 11 := h1 (by decide)
    exact kx_mk (kxr_9_11_k hmn) (ey_lr (ey_lx rfl (ey_lx rfl (ey_li v1 v2 ey_l0)))) rfl
  by_cases c12 : n ≤ 12
  · obtain rfl : n = 12 := by omega
    obtain rfl : t = 12 := h1 (by decide)
    exact kx_mk (kxr_9_12_k hmn) (ey_lr (ey_lx rfl (ey_lx rfl (ey_li v1 v2 ey_l0)))) rfl
  by_cases c13 : n ≤ 13
  · obtain rfl : n = 13 := by omega
    obtain rfl : t = 13 := h1 (by decide)
    exact kx_mk (kxr_9_13_k hmn) (ey_lr (ey_lx rfl (ey_lx rfl (ey_li v1 v2 ey_l0)))) rfl
  by_cases c14 : n ≤ 14
  · obtain rfl : n = 14 := by omega
    obtain rfl : t = 14 := h1 (by decide)
    exact kx_mk (kxr_9_14_k hmn) (ey_lr (ey_lx rfl (ey_lx rfl (ey_li v1 v2 ey_l0)))) rfl
  by_cases c15 : n ≤ 15
  · obtain rfl : n = 15 := by omega
    obtain rfl : t = 15 := h1 (by decide)
    exact kx_mk (kxr_9_15_k hmn) (ey_lr (ey_lx rfl (ey_lx rfl (ey_li v1 v2 ey_l0)))) rfl
  obtain rfl : t = 15 := h2 (by omega)
  exact kx_mk (kxr_9_b_k hmn) (ey_lr (ey_lx rfl (ey_li (show (16 : Int) ≤ n by omega) n2 (ey_li v1 v2 ey_l0)))) rfl
theorem kx_r_10 {l : Launch} {D : va_G} {τ : Nat → ClassId} {sa : List Nat} {A : Nat → Prop} (hmn : em_mna) {L P : Nat} {n v t : Int} (n1 : 1 ≤ n) (n2 : n ≤ 24) (v1 : -400 ≤ v) (v2 : v ≤ 200) (h1 : n ≤ 14 → t = n) (h2 : 14 < n → t = 14) : em_X l D τ sa A 141 [(.inr (.inr (.inl (some 345)))), .inl 10, .inl n, .inl v] (el_h L P) (fun w hp' => w = some (.inl t) ∧ hp' = el_h L P) 2 := by
  by_cases c1 : n ≤ 1
  · obtain rfl : n = 1 := by omega
    obtain rfl : t = 1 := h1 (by decide)
    exact kx_mk (kxr_10_1_k hmn) (ey_lr (ey_lx rfl (ey_lx rfl (ey_li v1 v2 ey_l0)))) rfl
  by_cases c2 : n ≤ 2
  · obtain rfl : n = 2 := by omega
    obtain rfl : t = 2 := h1 (by decide)
    exact kx_mk (kxr_10_2_k hmn) (ey_lr (ey_lx rfl (ey_lx rfl (ey_li v1 v2 ey_l0)))) rfl
  by_cases c3 : n ≤ 3
  · obtain rfl : n = 3 := by omega
    obtain rfl : t = 3 := h1 (by decide)
    exact kx_mk (kxr_10_3_k hmn) (ey_lr (ey_lx rfl (ey_lx rfl (ey_li v1 v2 ey_l0)))) rfl
  by_cases c4 : n ≤ 4
  · obtain rfl : n = 4 := by omega
    obtain rfl : t = 4 := h1 (by decide)
    exact kx_mk (kxr_10_4_k hmn) (ey_lr (ey_lx rfl (ey_lx rfl (ey_li v1 v2 ey_l0)))) rfl
  by_cases c5 : n ≤ 5
  · obtain rfl : n = 5 := by omega
    obtain rfl : t = 5 := h1 (by decide)
    exact kx_mk (kxr_10_5_k hmn) (ey_lr (ey_lx rfl (ey_lx rfl (ey_li v1 v2 ey_l0)))) rfl
  by_cases c6 : n ≤ 6
  · obtain rfl : n = 6 := by omega
    obtain rfl : t = 6 := h1 (by decide)
    exact kx_mk (kxr_10_6_k hmn) (ey_lr (ey_lx rfl (ey_lx rfl (ey_li v1 v2 ey_l0)))) rfl
  by_cases c7 : n ≤ 7
  · obtain rfl : n = 7 := by omega
    obtain rfl : t = 7 := h1 (by decide)
    exact kx_mk (kxr_10_7_k hmn) (ey_lr (ey_lx rfl (ey_lx rfl (ey_li v1 v2 ey_l0)))) rfl
  by_cases c8 : n ≤ 8
  · obtain rfl : n = 8 := by omega
    obtain rfl : t = 8 := h1 (by decide)
    exact kx_mk (kxr_10_8_k hmn) (ey_lr (ey_lx rfl (ey_lx rfl (ey_li v1 v2 ey_l0)))) rfl
  by_cases c9 : n ≤ 9
  · obtain rfl : n = 9 := by omega
    obtain rfl : t = 9 := h1 (by decide)
    exact kx_mk (kxr_10_9_k hmn) (ey_lr (ey_lx rfl (ey_lx rfl (ey_li v1 v2 ey_l0)))) rfl
  by_cases c10 : n ≤ 10
  · obtain rfl : n = 10 := by omega
    obtain rfl : t = 10 := h1 (by decide)
    exact kx_mk (kxr_10_10_k hmn) (ey_lr (ey_lx rfl (ey_lx rfl (ey_li v1 v2 ey_l0)))) rfl
  by_cases c11 : n ≤ 11
  · obtain rfl : n = 11 := by omega
    obtain rfl : t = 11 := h1 (by decide)
    exact kx_mk (kxr_10_11_k hmn) (ey_lr (ey_lx rfl (ey_lx rfl (ey_li v1 v2 ey_l0)))) rfl
  by_cases c12 : n ≤ 12
  · obtain rfl : n = 12 := by omega
    obtain rfl : t = 12 := h1 (by decide)
    exact kx_mk (kxr_10_12_k hmn) (ey_lr (ey_lx rfl (ey_lx rfl (ey_li v1 v2 ey_l0)))) rfl
  by_cases c13 : n ≤ 13
  · obtain rfl : n = 13 := by omega
    obtain rfl : t = 13 := h1 (by decide)
    exact kx_mk (kxr_10_13_k hmn) (ey_lr (ey_lx rfl (ey_lx rfl (ey_li v1 v2 ey_l0)))) rfl
  by_cases c14 : n ≤ 14
  · obtain rfl : n = 14 := by omega
    obtain rfl : t = 14 := h1 (by decide)
    exact kx_mk (kxr_10_14_k hmn) (ey_lr (ey_lx rfl (ey_lx rfl (ey_li v1 v2 ey_l0)))) rfl
  obtain rfl : t = 14 := h2 (by omega)
  exact kx_mk (kxr_10_b_k hmn) (ey_lr (ey_lx rfl (ey_li (show (15 : Int) ≤ n by omega) n2 (ey_li v1 v2 ey_l0)))) rfl
theorem kx_r_11 {l : Launch} {D : va_G} {τ : Nat → ClassId} {sa : List Nat} {A : Nat → Prop} (hmn : em_mna) {L P : Nat} {n v t : Int} (n1 : 1 ≤ n) (n2 : n ≤ 24) (v1 : -400 ≤ v) (v2 : v ≤ 200) (h1 : n ≤ 13 → t = n) (h2 : 13 < n → t = 13) : em_X l D τ sa A 141 [(.inr (.inr (.inl (some 345)))), .inl 11, .inl n, .inl v] (el_h L P) (fun w hp' => w = some (.inl t) ∧ hp' = el_h L P) 2 := by
  by_cases c1 : n ≤ 1
  · obtain rfl : n = 1 := by omega
    obtain rfl : t = 1 := h1 (by decide)
    exact kx_mk (kxr_11_1_k hmn) (ey_lr (ey_lx rfl (ey_lx rfl (ey_li v1 v2 ey_l0)))) rfl
  by_cases c2 : n ≤ 2
  · obtain rfl : n = 2 := by omega
    obtain rfl : t = 2 := h1 (by decide)
    exact kx_mk (kxr_11_2_k hmn) (ey_lr (ey_lx rfl (ey_lx rfl (ey_li v1 v2 ey_l0)))) rfl
  by_cases c3 : n ≤ 3
  · obtain rfl : n = 3 := by omega
    obtain rfl : t = 3 := h1 (by decide)
    exact kx_mk (kxr_11_3_k hmn) (ey_lr (ey_lx rfl (ey_lx rfl (ey_li v1 v2 ey_l0)))) rfl
  by_cases c4 : n ≤ 4
  · obtain rfl : n = 4 := by omega
    obtain rfl : t = 4 := h1 (by decide)
    exact kx_mk (kxr_11_4_k hmn) (ey_lr (ey_lx rfl (ey_lx rfl (ey_li v1 v2 ey_l0)))) rfl
  by_cases c5 : n ≤ 5
  · obtain rfl : n = 5 := by omega
    obtain rfl : t = 5 := h1 (by decide)
    exact kx_mk (kxr_11_5_k hmn) (ey_lr (ey_lx rfl (ey_lx rfl (ey_li v1 v2 ey_l0)))) rfl
  by_cases c6 : n ≤ 6
  · obtain rfl : n = 6 := by omega
    obtain rfl : t = 6 := h1 (by decide)
    exact kx_mk (kxr_11_6_k hmn) (ey_lr (ey_lx rfl (ey_lx rfl (ey_li v1 v2 ey_l0)))) rfl
  by_cases c7 : n ≤ 7
  · obtain rfl : n = 7 := by omega
    obtain rfl : t = 7 := h1 (by decide)
    exact kx_mk (kxr_11_7_k hmn) (ey_lr (ey_lx rfl (ey_lx rfl (ey_li v1 v2 ey_l0)))) rfl
  by_cases c8 : n ≤ 8
  · obtain rfl : n = 8 := by omega
    obtain rfl : t = 8 := h1 (by decide)
    exact kx_mk (kxr_11_8_k hmn) (ey_lr (ey_lx rfl (ey_lx rfl (ey_li v1 v2 ey_l0)))) rfl
  by_cases c9 : n ≤ 9
  · obtain rfl : n = 9 := by omega
    obtain rfl : t = 9 := h1 (by decide)
    exact kx_mk (kxr_11_9_k hmn) (ey_lr (ey_lx rfl (ey_lx rfl (ey_li v1 v2 ey_l0)))) rfl
  by_cases c10 : n ≤ 10
  · obtain rfl : n = 10 := by omega
    obtain rfl : t = 10 := h1 (by decide)
    exact kx_mk (kxr_11_10_k hmn) (ey_lr (ey_lx rfl (ey_lx rfl (ey_li v1 v2 ey_l0)))) rfl
  by_cases c11 : n ≤ 11
  · obtain rfl : n = 11 := by omega
    obtain rfl : t = 11 := h1 (by decide)
    exact kx_mk (kxr_11_11_k hmn) (ey_lr (ey_lx rfl (ey_lx rfl (ey_li v1 v2 ey_l0)))) rfl
  by_cases c12 : n ≤ 12
  · obtain rfl : n = 12 := by omega
    obtain rfl : t = 12 := h1 (by decide)
    exact kx_mk (kxr_11_12_k hmn) (ey_lr (ey_lx rfl (ey_lx rfl (ey_li v1 v2 ey_l0)))) rfl
  by_cases c13 : n ≤ 13
  · obtain rfl : n = 13 := by omega
    obtain rfl : t = 13 := h1 (by decide)
    exact kx_mk (kxr_11_13_k hmn) (ey_lr (ey_lx rfl (ey_lx rfl (ey_li v1 v2 ey_l0)))) rfl
  obtain rfl : t = 13 := h2 (by omega)
  exact kx_mk (kxr_11_b_k hmn) (ey_lr (ey_lx rfl (ey_li (show (14 : Int) ≤ n by omega) n2 (ey_li v1 v2 ey_l0)))) rfl
theorem kx_r_12 {l : Launch} {D : va_G} {τ : Nat → ClassId} {sa : List Nat} {A : Nat → Prop} (hmn : em_mna) {L P : Nat} {n v t : Int} (n1 : 1 ≤ n) (n2 : n ≤ 24) (v1 : -400 ≤ v) (v2 : v ≤ 200) (h1 : n ≤ 12 → t = n) (h2 : 12 < n → t = 12) : em_X l D τ sa A 141 [(.inr (.inr (.inl (some 345)))), .inl 12, .inl n, .inl v] (el_h L P) (fun w hp' => w = some (.inl t) ∧ hp' = el_h L P) 2 := by
  by_cases c1 : n ≤ 1
  · obtain rfl : n = 1 := by omega
    obtain rfl : t = 1 := h1 (by decide)
    exact kx_mk (kxr_12_1_k hmn) (ey_lr (ey_lx rfl (ey_lx rfl (ey_li v1 v2 ey_l0)))) rfl
  by_cases c2 : n ≤ 2
  · obtain rfl : n = 2 := by omega
    obtain rfl : t = 2 := h1 (by decide)
    exact kx_mk (kxr_12_2_k hmn) (ey_lr (ey_lx rfl (ey_lx rfl (ey_li v1 v2 ey_l0)))) rfl
  by_cases c3 : n ≤ 3
  · obtain rfl : n = 3 := by omega
    obtain rfl : t = 3 := h1 (by decide)
    exact kx_mk (kxr_12_3_k hmn) (ey_lr (ey_lx rfl (ey_lx rfl (ey_li v1 v2 ey_l0)))) rfl
  by_cases c4 : n ≤ 4
  · obtain rfl : n = 4 := by omega
    obtain rfl : t = 4 := h1 (by decide)
    exact kx_mk (kxr_12_4_k hmn) (ey_lr (ey_lx rfl (ey_lx rfl (ey_li v1 v2 ey_l0)))) rfl
  by_cases c5 : n ≤ 5
  · obtain rfl : n = 5 := by omega
    obtain rfl : t = 5 := h1 (by decide)
    exact kx_mk (kxr_12_5_k hmn) (ey_lr (ey_lx rfl (ey_lx rfl (ey_li v1 v2 ey_l0)))) rfl
  by_cases c6 : n ≤ 6
  · obtain rfl : n = 6 := by omega
    obtain rfl : t = 6 := h1 (by decide)
    exact kx_mk (kxr_12_6_k hmn) (ey_lr (ey_lx rfl (ey_lx rfl (ey_li v1 v2 ey_l0)))) rfl
  by_cases c7 : n ≤ 7
  · obtain rfl : n = 7 := by omega
    obtain rfl : t = 7 := h1 (by decide)
    exact kx_mk (kxr_12_7_k hmn) (ey_lr (ey_lx rfl (ey_lx rfl (ey_li v1 v2 ey_l0)))) rfl
  by_cases c8 : n ≤ 8
  · obtain rfl : n = 8 := by omega
    obtain rfl : t = 8 := h1 (by decide)
    exact kx_mk (kxr_12_8_k hmn) (ey_lr (ey_lx rfl (ey_lx rfl (ey_li v1 v2 ey_l0)))) rfl
  by_cases c9 : n ≤ 9
  · obtain rfl : n = 9 := by omega
    obtain rfl : t = 9 := h1 (by decide)
    exact kx_mk (kxr_12_9_k hmn) (ey_lr (ey_lx rfl (ey_lx rfl (ey_li v1 v2 ey_l0)))) rfl
  by_cases c10 : n ≤ 10
  · obtain rfl : n = 10 := by omega
    obtain rfl : t = 10 := h1 (by decide)
    exact kx_mk (kxr_12_10_k hmn) (ey_lr (ey_lx rfl (ey_lx rfl (ey_li v1 v2 ey_l0)))) rfl
  by_cases c11 : n ≤ 11
  · obtain rfl : n = 11 := by omega
    obtain rfl : t = 11 := h1 (by decide)
    exact kx_mk (kxr_12_11_k hmn) (ey_lr (ey_lx rfl (ey_lx rfl (ey_li v1 v2 ey_l0)))) rfl
  by_cases c12 : n ≤ 12
  · obtain rfl : n = 12 := by omega
    obtain rfl : t = 12 := h1 (by decide)
    exact kx_mk (kxr_12_12_k hmn) (ey_lr (ey_lx rfl (ey_lx rfl (ey_li v1 v2 ey_l0)))) rfl
  obtain rfl : t = 12 := h2 (by omega)
  exact kx_mk (kxr_12_b_k hmn) (ey_lr (ey_lx rfl (ey_li (show (13 : Int) ≤ n by omega) n2 (ey_li v1 v2 ey_l0)))) rfl
theorem kx_r_13 {l : Launch} {D : va_G} {τ : Nat → ClassId} {sa : List Nat} {A : Nat → Prop} (hmn : em_mna) {L P : Nat} {n v t : Int} (n1 : 1 ≤ n) (n2 : n ≤ 24) (v1 : -400 ≤ v) (v2 : v ≤ 200) (h1 : n ≤ 11 → t = n) (h2 : 11 < n → t = 11) : em_X l D τ sa A 141 [(.inr (.inr (.inl (some 345)))), .inl 13, .inl n, .inl v] (el_h L P) (fun w hp' => w = some (.inl t) ∧ hp' = el_h L P) 2 := by
  by_cases c1 : n ≤ 1
  · obtain rfl : n = 1 := by omega
    obtain rfl : t = 1 := h1 (by decide)
    exact kx_mk (kxr_13_1_k hmn) (ey_lr (ey_lx rfl (ey_lx rfl (ey_li v1 v2 ey_l0)))) rfl
  by_cases c2 : n ≤ 2
  · obtain rfl : n = 2 := by omega
    obtain rfl : t = 2 := h1 (by decide)
    exact kx_mk (kxr_13_2_k hmn) (ey_lr (ey_lx rfl (ey_lx rfl (ey_li v1 v2 ey_l0)))) rfl
  by_cases c3 : n ≤ 3
  · obtain rfl : n = 3 := by omega
    obtain rfl : t = 3 := h1 (by decide)
    exact kx_mk (kxr_13_3_k hmn) (ey_lr (ey_lx rfl (ey_lx rfl (ey_li v1 v2 ey_l0)))) rfl
  by_cases c4 : n ≤ 4
  · obtain rfl : n = 4 := by omega
    obtain rfl : t = 4 := h1 (by decide)
    exact kx_mk (kxr_13_4_k hmn) (ey_lr (ey_lx rfl (ey_lx rfl (ey_li v1 v2 ey_l0)))) rfl
  by_cases c5 : n ≤ 5
  · obtain rfl : n = 5 := by omega
    obtain rfl : t = 5 := h1 (by decide)
    exact kx_mk (kxr_13_5_k hmn) (ey_lr (ey_lx rfl (ey_lx rfl (ey_li v1 v2 ey_l0)))) rfl
  by_cases c6 : n ≤ 6
  · obtain rfl : n = 6 := by omega
    obtain rfl : t = 6 := h1 (by decide)
    exact kx_mk (kxr_13_6_k hmn) (ey_lr (ey_lx rfl (ey_lx rfl (ey_li v1 v2 ey_l0)))) rfl
  by_cases c7 : n ≤ 7
  · obtain rfl : n = 7 := by omega
    obtain rfl : t = 7 := h1 (by decide)
    exact kx_mk (kxr_13_7_k hmn) (ey_lr (ey_lx rfl (ey_lx rfl (ey_li v1 v2 ey_l0)))) rfl
  by_cases c8 : n ≤ 8
  · obtain rfl : n = 8 := by omega
    obtain rfl : t = 8 := h1 (by decide)
    exact kx_mk (kxr_13_8_k hmn) (ey_lr (ey_lx rfl (ey_lx rfl (ey_li v1 v2 ey_l0)))) rfl
  by_cases c9 : n ≤ 9
  · obtain rfl : n = 9 := by omega
    obtain rfl : t = 9 := h1 (by decide)
    exact kx_mk (kxr_13_9_k hmn) (ey_lr (ey_lx rfl (ey_lx rfl (ey_li v1 v2 ey_l0)))) rfl
  by_cases c10 : n ≤ 10
  · obtain rfl : n = 10 := by omega
    obtain rfl : t = 10 := h1 (by decide)
    exact kx_mk (kxr_13_10_k hmn) (ey_lr (ey_lx rfl (ey_lx rfl (ey_li v1 v2 ey_l0)))) rfl
  by_cases c11 : n ≤ 11
  · obtain rfl : n = 11 := by omega
    obtain rfl : t = 11 := h1 (by decide)
    exact kx_mk (kxr_13_11_k hmn) (ey_lr (ey_lx rfl (ey_lx rfl (ey_li v1 v2 ey_l0)))) rfl
  obtain rfl : t = 11 := h2 (by omega)
  exact kx_mk (kxr_13_b_k hmn) (ey_lr (ey_lx rfl (ey_li (show (12 : Int) ≤ n by omega) n2 (ey_li v1 v2 ey_l0)))) rfl
theorem kx_r_14 {l : Launch} {D : va_G} {τ : Nat → ClassId} {sa : List Nat} {A : Nat → Prop} (hmn : em_mna) {L P : Nat} {n v t : Int} (n1 : 1 ≤ n) (n2 : n ≤ 24) (v1 : -400 ≤ v) (v2 : v ≤ 200) (h1 : n ≤ 10 → t = n) (h2 : 10 < n → t = 10) : em_X l D τ sa A 141 [(.inr (.inr (.inl (some 345)))), .inl 14, .inl n, .inl v] (el_h L P) (fun w hp' => w = some (.inl t) ∧ hp' = el_h L P) 2 := by
  by_cases c1 : n ≤ 1
  · obtain rfl : n = 1 := by omega
    obtain rfl : t = 1 := h1 (by decide)
    exact kx_mk (kxr_14_1_k hmn) (ey_lr (ey_lx rfl (ey_lx rfl (ey_li v1 v2 ey_l0)))) rfl
  by_cases c2 : n ≤ 2
  · obtain rfl : n = 2 := by omega
    obtain rfl : t = 2 := h1 (by decide)
    exact kx_mk (kxr_14_2_k hmn) (ey_lr (ey_lx rfl (ey_lx rfl (ey_li v1 v2 ey_l0)))) rfl
  by_cases c3 : n ≤ 3
  · obtain rfl : n = 3 := by omega
    obtain rfl : t = 3 := h1 (by decide)
    exact kx_mk (kxr_14_3_k hmn) (ey_lr (ey_lx rfl (ey_lx rfl (ey_li v1 v2 ey_l0)))) rfl
  by_cases c4 : n ≤ 4
  · obtain rfl : n = 4 := by omega
    obtain rfl : t = 4 := h1 (by decide)
    exact kx_mk (kxr_14_4_k hmn) (ey_lr (ey_lx rfl (ey_lx rfl (ey_li v1 v2 ey_l0)))) rfl
  by_cases c5 : n ≤ 5
  · obtain rfl : n = 5 := by omega
    obtain rfl : t = 5 := h1 (by decide)
    exact kx_mk (kxr_14_5_k hmn) (ey_lr (ey_lx rfl (ey_lx rfl (ey_li v1 v2 ey_l0)))) rfl
  by_cases c6 : n ≤ 6
  · obtain rfl : n = 6 := by omega
    obtain rfl : t = 6 := h1 (by decide)
    exact kx_mk (kxr_14_6_k hmn) (ey_lr (ey_lx rfl (ey_lx rfl (ey_li v1 v2 ey_l0)))) rfl
  by_cases c7 : n ≤ 7
  · obtain rfl : n = 7 := by omega
    obtain rfl : t = 7 := h1 (by decide)
    exact kx_mk (kxr_14_7_k hmn) (ey_lr (ey_lx rfl (ey_lx rfl (ey_li v1 v2 ey_l0)))) rfl
  by_cases c8 : n ≤ 8
  · obtain rfl : n = 8 := by omega
    obtain rfl : t = 8 := h1 (by decide)
    exact kx_mk (kxr_14_8_k hmn) (ey_lr (ey_lx rfl (ey_lx rfl (ey_li v1 v2 ey_l0)))) rfl
  by_cases c9 : n ≤ 9
  · obtain rfl : n = 9 := by omega
    obtain rfl : t = 9 := h1 (by decide)
    exact kx_mk (kxr_14_9_k hmn) (ey_lr (ey_lx rfl (ey_lx rfl (ey_li v1 v2 ey_l0)))) rfl
  by_cases c10 : n ≤ 10
  · obtain rfl : n = 10 := by omega
    obtain rfl : t = 10 := h1 (by decide)
    exact kx_mk (kxr_14_10_k hmn) (ey_lr (ey_lx rfl (ey_lx rfl (ey_li v1 v2 ey_l0)))) rfl
  obtain rfl : t = 10 := h2 (by omega)
  exact kx_mk (kxr_14_b_k hmn) (ey_lr (ey_lx rfl (ey_li (show (11 : Int) ≤ n by omega) n2 (ey_li v1 v2 ey_l0)))) rfl
theorem kx_r_15 {l : Launch} {D : va_G} {τ : Nat → ClassId} {sa : List Nat} {A : Nat → Prop} (hmn : em_mna) {L P : Nat} {n v t : Int} (n1 : 1 ≤ n) (n2 : n ≤ 24) (v1 : -400 ≤ v) (v2 : v ≤ 200) (h1 : n ≤ 9 → t = n) (h2 : 9 < n → t = 9) : em_X l D τ sa A 141 [(.inr (.inr (.inl (some 345)))), .inl 15, .inl n, .inl v] (el_h L P) (fun w hp' => w = some (.inl t) ∧ hp' = el_h L P) 2 := by
  by_cases c1 : n ≤ 1
  · obtain rfl : n = 1 := by omega
    obtain rfl : t = 1 := h1 (by decide)
    exact kx_mk (kxr_15_1_k hmn) (ey_lr (ey_lx rfl (ey_lx rfl (ey_li v1 v2 ey_l0)))) rfl
  by_cases c2 : n ≤ 2
  · obtain rfl : n = 2 := by omega
    obtain rfl : t = 2 := h1 (by decide)
    exact kx_mk (kxr_15_2_k hmn) (ey_lr (ey_lx rfl (ey_lx rfl (ey_li v1 v2 ey_l0)))) rfl
  by_cases c3 : n ≤ 3
  · obtain rfl : n = 3 := by omega
    obtain rfl : t = 3 := h1 (by decide)
    exact kx_mk (kxr_15_3_k hmn) (ey_lr (ey_lx rfl (ey_lx rfl (ey_li v1 v2 ey_l0)))) rfl
  by_cases c4 : n ≤ 4
  · obtain rfl : n = 4 := by omega
    obtain rfl : t = 4 := h1 (by decide)
    exact kx_mk (kxr_15_4_k hmn) (ey_lr (ey_lx rfl (ey_lx rfl (ey_li v1 v2 ey_l0)))) rfl
  by_cases c5 : n ≤ 5
  · obtain rfl : n = 5 := by omega
    obtain rfl : t = 5 := h1 (by decide)
    exact kx_mk (kxr_15_5_k hmn) (ey_lr (ey_lx rfl (ey_lx rfl (ey_li v1 v2 ey_l0)))) rfl
  by_cases c6 : n ≤ 6
  · obtain rfl : n = 6 := by omega
    obtain rfl : t = 6 := h1 (by decide)
    exact kx_mk (kxr_15_6_k hmn) (ey_lr (ey_lx rfl (ey_lx rfl (ey_li v1 v2 ey_l0)))) rfl
  by_cases c7 : n ≤ 7
  · obtain rfl : n = 7 := by omega
    obtain rfl : t = 7 := h1 (by decide)
    exact kx_mk (kxr_15_7_k hmn) (ey_lr (ey_lx rfl (ey_lx rfl (ey_li v1 v2 ey_l0)))) rfl
  by_cases c8 : n ≤ 8
  · obtain rfl : n = 8 := by omega
    obtain rfl : t = 8 := h1 (by decide)
    exact kx_mk (kxr_15_8_k hmn) (ey_lr (ey_lx rfl (ey_lx rfl (ey_li v1 v2 ey_l0)))) rfl
  by_cases c9 : n ≤ 9
  · obtain rfl : n = 9 := by omega
    obtain rfl : t = 9 := h1 (by decide)
    exact kx_mk (kxr_15_9_k hmn) (ey_lr (ey_lx rfl (ey_lx rfl (ey_li v1 v2 ey_l0)))) rfl
  obtain rfl : t = 9 := h2 (by omega)
  exact kx_mk (kxr_15_b_k hmn) (ey_lr (ey_lx rfl (ey_li (show (10 : Int) ≤ n by omega) n2 (ey_li v1 v2 ey_l0)))) rfl
theorem kx_r_16 {l : Launch} {D : va_G} {τ : Nat → ClassId} {sa : List Nat} {A : Nat → Prop} (hmn : em_mna) {L P : Nat} {n v t : Int} (n1 : 1 ≤ n) (n2 : n ≤ 24) (v1 : -400 ≤ v) (v2 : v ≤ 200) (h1 : n ≤ 8 → t = n) (h2 : 8 < n → t = 8) : em_X l D τ sa A 141 [(.inr (.inr (.inl (some 345)))), .inl 16, .inl n, .inl v] (el_h L P) (fun w hp' => w = some (.inl t) ∧ hp' = el_h L P) 2 := by
  by_cases c1 : n ≤ 1
  · obtain rfl : n = 1 := by omega
    obtain rfl : t = 1 := h1 (by decide)
    exact kx_mk (kxr_16_1_k hmn) (ey_lr (ey_lx rfl (ey_lx rfl (ey_li v1 v2 ey_l0)))) rfl
  by_cases c2 : n ≤ 2
  · obtain rfl : n = 2 := by omega
    obtain rfl : t = 2 := h1 (by decide)
    exact kx_mk (kxr_16_2_k hmn) (ey_lr (ey_lx rfl (ey_lx rfl (ey_li v1 v2 ey_l0)))) rfl
  by_cases c3 : n ≤ 3
  · obtain rfl : n = 3 := by omega
    obtain rfl : t = 3 := h1 (by decide)
    exact kx_mk (kxr_16_3_k hmn) (ey_lr (ey_lx rfl (ey_lx rfl (ey_li v1 v2 ey_l0)))) rfl
  by_cases c4 : n ≤ 4
  · obtain rfl : n = 4 := by omega
    obtain rfl : t = 4 := h1 (by decide)
    exact kx_mk (kxr_16_4_k hmn) (ey_lr (ey_lx rfl (ey_lx rfl (ey_li v1 v2 ey_l0)))) rfl
  by_cases c5 : n ≤ 5
  · obtain rfl : n = 5 := by omega
    obtain rfl : t = 5 := h1 (by decide)
    exact kx_mk (kxr_16_5_k hmn) (ey_lr (ey_lx rfl (ey_lx rfl (ey_li v1 v2 ey_l0)))) rfl
  by_cases c6 : n ≤ 6
  · obtain rfl : n = 6 := by omega
    obtain rfl : t = 6 := h1 (by decide)
    exact kx_mk (kxr_16_6_k hmn) (ey_lr (ey_lx rfl (ey_lx rfl (ey_li v1 v2 ey_l0)))) rfl
  by_cases c7 : n ≤ 7
  · obtain rfl : n = 7 := by omega
    obtain rfl : t = 7 := h1 (by decide)
    exact kx_mk (kxr_16_7_k hmn) (ey_lr (ey_lx rfl (ey_lx rfl (ey_li v1 v2 ey_l0)))) rfl
  by_cases c8 : n ≤ 8
  · obtain rfl : n = 8 := by omega
    obtain rfl : t = 8 := h1 (by decide)
    exact kx_mk (kxr_16_8_k hmn) (ey_lr (ey_lx rfl (ey_lx rfl (ey_li v1 v2 ey_l0)))) rfl
  obtain rfl : t = 8 := h2 (by omega)
  exact kx_mk (kxr_16_b_k hmn) (ey_lr (ey_lx rfl (ey_li (show (9 : Int) ≤ n by omega) n2 (ey_li v1 v2 ey_l0)))) rfl
theorem kx_r_17 {l : Launch} {D : va_G} {τ : Nat → ClassId} {sa : List Nat} {A : Nat → Prop} (hmn : em_mna) {L P : Nat} {n v t : Int} (n1 : 1 ≤ n) (n2 : n ≤ 24) (v1 : -400 ≤ v) (v2 : v ≤ 200) (h1 : n ≤ 7 → t = n) (h2 : 7 < n → t = 7) : em_X l D τ sa A 141 [(.inr (.inr (.inl (some 345)))), .inl 17, .inl n, .inl v] (el_h L P) (fun w hp' => w = some (.inl t) ∧ hp' = el_h L P) 2 := by
  by_cases c1 : n ≤ 1
  · obtain rfl : n = 1 := by omega
    obtain rfl : t = 1 := h1 (by decide)
    exact kx_mk (kxr_17_1_k hmn) (ey_lr (ey_lx rfl (ey_lx rfl (ey_li v1 v2 ey_l0)))) rfl
  by_cases c2 : n ≤ 2
  · obtain rfl : n = 2 := by omega
    obtain rfl : t = 2 := h1 (by decide)
    exact kx_mk (kxr_17_2_k hmn) (ey_lr (ey_lx rfl (ey_lx rfl (ey_li v1 v2 ey_l0)))) rfl
  by_cases c3 : n ≤ 3
  · obtain rfl : n = 3 := by omega
    obtain rfl : t = 3 := h1 (by decide)
    exact kx_mk (kxr_17_3_k hmn) (ey_lr (ey_lx rfl (ey_lx rfl (ey_li v1 v2 ey_l0)))) rfl
  by_cases c4 : n ≤ 4
  · obtain rfl : n = 4 := by omega
    obtain rfl : t = 4 := h1 (by decide)
    exact kx_mk (kxr_17_4_k hmn) (ey_lr (ey_lx rfl (ey_lx rfl (ey_li v1 v2 ey_l0)))) rfl
  by_cases c5 : n ≤ 5
  · obtain rfl : n = 5 := by omega
    obtain rfl : t = 5 := h1 (by decide)
    exact kx_mk (kxr_17_5_k hmn) (ey_lr (ey_lx rfl (ey_lx rfl (ey_li v1 v2 ey_l0)))) rfl
  by_cases c6 : n ≤ 6
  · obtain rfl : n = 6 := by omega
    obtain rfl : t = 6 := h1 (by decide)
    exact kx_mk (kxr_17_6_k hmn) (ey_lr (ey_lx rfl (ey_lx rfl (ey_li v1 v2 ey_l0)))) rfl
  by_cases c7 : n ≤ 7
  · obtain rfl : n = 7 := by omega
    obtain rfl : t = 7 := h1 (by decide)
    exact kx_mk (kxr_17_7_k hmn) (ey_lr (ey_lx rfl (ey_lx rfl (ey_li v1 v2 ey_l0)))) rfl
  obtain rfl : t = 7 := h2 (by omega)
  exact kx_mk (kxr_17_b_k hmn) (ey_lr (ey_lx rfl (ey_li (show (8 : Int) ≤ n by omega) n2 (ey_li v1 v2 ey_l0)))) rfl
theorem kx_r_18 {l : Launch} {D : va_G} {τ : Nat → ClassId} {sa : List Nat} {A : Nat → Prop} (hmn : em_mna) {L P : Nat} {n v t : Int} (n1 : 1 ≤ n) (n2 : n ≤ 24) (v1 : -400 ≤ v) (v2 : v ≤ 200) (h1 : n ≤ 6 → t = n) (h2 : 6 < n → t = 6) : em_X l D τ sa A 141 [(.inr (.inr (.inl (some 345)))), .inl 18, .inl n, .inl v] (el_h L P) (fun w hp' => w = some (.inl t) ∧ hp' = el_h L P) 2 := by
  by_cases c1 : n ≤ 1
  · obtain rfl : n = 1 := by omega
    obtain rfl : t = 1 := h1 (by decide)
    exact kx_mk (kxr_18_1_k hmn) (ey_lr (ey_lx rfl (ey_lx rfl (ey_li v1 v2 ey_l0)))) rfl
  by_cases c2 : n ≤ 2
  · obtain rfl : n = 2 := by omega
    obtain rfl : t = 2 := h1 (by decide)
    exact kx_mk (kxr_18_2_k hmn) (ey_lr (ey_lx rfl (ey_lx rfl (ey_li v1 v2 ey_l0)))) rfl
  by_cases c3 : n ≤ 3
  · obtain rfl : n = 3 := by omega
    obtain rfl : t = 3 := h1 (by decide)
    exact kx_mk (kxr_18_3_k hmn) (ey_lr (ey_lx rfl (ey_lx rfl (ey_li v1 v2 ey_l0)))) rfl
  by_cases c4 : n ≤ 4
  · obtain rfl : n = 4 := by omega
    obtain rfl : t = 4 := h1 (by decide)
    exact kx_mk (kxr_18_4_k hmn) (ey_lr (ey_lx rfl (ey_lx rfl (ey_li v1 v2 ey_l0)))) rfl
  by_cases c5 : n ≤ 5
  · obtain rfl : n = 5 := by omega
    obtain rfl : t = 5 := h1 (by decide)
    exact kx_mk (kxr_18_5_k hmn) (ey_lr (ey_lx rfl (ey_lx rfl (ey_li v1 v2 ey_l0)))) rfl
  by_cases c6 : n ≤ 6
  · obtain rfl : n = 6 := by omega
    obtain rfl : t = 6 := h1 (by decide)
    exact kx_mk (kxr_18_6_k hmn) (ey_lr (ey_lx rfl (ey_lx rfl (ey_li v1 v2 ey_l0)))) rfl
  obtain rfl : t = 6 := h2 (by omega)
  exact kx_mk (kxr_18_b_k hmn) (ey_lr (ey_lx rfl (ey_li (show (7 : Int) ≤ n by omega) n2 (ey_li v1 v2 ey_l0)))) rfl
theorem kx_r_19 {l : Launch} {D : va_G} {τ : Nat → ClassId} {sa : List Nat} {A : Nat → Prop} (hmn : em_mna) {L P : Nat} {n v t : Int} (n1 : 1 ≤ n) (n2 : n ≤ 24) (v1 : -400 ≤ v) (v2 : v ≤ 200) (h1 : n ≤ 5 → t = n) (h2 : 5 < n → t = 5) : em_X l D τ sa A 141 [(.inr (.inr (.inl (some 345)))), .inl 19, .inl n, .inl v] (el_h L P) (fun w hp' => w = some (.inl t) ∧ hp' = el_h L P) 2 := by
  by_cases c1 : n ≤ 1
  · obtain rfl : n = 1 := by omega
    obtain rfl : t = 1 := h1 (by decide)
    exact kx_mk (kxr_19_1_k hmn) (ey_lr (ey_lx rfl (ey_lx rfl (ey_li v1 v2 ey_l0)))) rfl
  by_cases c2 : n ≤ 2
  · obtain rfl : n = 2 := by omega
    obtain rfl : t = 2 := h1 (by decide)
    exact kx_mk (kxr_19_2_k hmn) (ey_lr (ey_lx rfl (ey_lx rfl (ey_li v1 v2 ey_l0)))) rfl
  by_cases c3 : n ≤ 3
  · obtain rfl : n = 3 := by omega
    obtain rfl : t = 3 := h1 (by decide)
    exact kx_mk (kxr_19_3_k hmn) (ey_lr (ey_lx rfl (ey_lx rfl (ey_li v1 v2 ey_l0)))) rfl
  by_cases c4 : n ≤ 4
  · obtain rfl : n = 4 := by omega
    obtain rfl : t = 4 := h1 (by decide)
    exact kx_mk (kxr_19_4_k hmn) (ey_lr (ey_lx rfl (ey_lx rfl (ey_li v1 v2 ey_l0)))) rfl
  by_cases c5 : n ≤ 5
  · obtain rfl : n = 5 := by omega
    obtain rfl : t = 5 := h1 (by decide)
    exact kx_mk (kxr_19_5_k hmn) (ey_lr (ey_lx rfl (ey_lx rfl (ey_li v1 v2 ey_l0)))) rfl
  obtain rfl : t = 5 := h2 (by omega)
  exact kx_mk (kxr_19_b_k hmn) (ey_lr (ey_lx rfl (ey_li (show (6 : Int) ≤ n by omega) n2 (ey_li v1 v2 ey_l0)))) rfl
theorem kx_r_20 {l : Launch} {D : va_G} {τ : Nat → ClassId} {sa : List Nat} {A : Nat → Prop} (hmn : em_mna) {L P : Nat} {n v t : Int} (n1 : 1 ≤ n) (n2 : n ≤ 24) (v1 : -400 ≤ v) (v2 : v ≤ 200) (h1 : n ≤ 4 → t = n) (h2 : 4 < n → t = 4) : em_X l D τ sa A 141 [(.inr (.inr (.inl (some 345)))), .inl 20, .inl n, .inl v] (el_h L P) (fun w hp' => w = some (.inl t) ∧ hp' = el_h L P) 2 := by
  by_cases c1 : n ≤ 1
  · obtain rfl : n = 1 := by omega
    obtain rfl : t = 1 := h1 (by decide)
    exact kx_mk (kxr_20_1_k hmn) (ey_lr (ey_lx rfl (ey_lx rfl (ey_li v1 v2 ey_l0)))) rfl
  by_cases c2 : n ≤ 2
  · obtain rfl : n = 2 := by omega
    obtain rfl : t = 2 := h1 (by decide)
    exact kx_mk (kxr_20_2_k hmn) (ey_lr (ey_lx rfl (ey_lx rfl (ey_li v1 v2 ey_l0)))) rfl
  by_cases c3 : n ≤ 3
  · obtain rfl : n = 3 := by omega
    obtain rfl : t = 3 := h1 (by decide)
    exact kx_mk (kxr_20_3_k hmn) (ey_lr (ey_lx rfl (ey_lx rfl (ey_li v1 v2 ey_l0)))) rfl
  by_cases c4 : n ≤ 4
  · obtain rfl : n = 4 := by omega
    obtain rfl : t = 4 := h1 (by decide)
    exact kx_mk (kxr_20_4_k hmn) (ey_lr (ey_lx rfl (ey_lx rfl (ey_li v1 v2 ey_l0)))) rfl
  obtain rfl : t = 4 := h2 (by omega)
  exact kx_mk (kxr_20_b_k hmn) (ey_lr (ey_lx rfl (ey_li (show (5 : Int) ≤ n by omega) n2 (ey_li v1 v2 ey_l0)))) rfl
theorem kx_r_21 {l : Launch} {D : va_G} {τ : Nat → ClassId} {sa : List Nat} {A : Nat → Prop} (hmn : em_mna) {L P : Nat} {n v t : Int} (n1 : 1 ≤ n) (n2 : n ≤ 24) (v1 : -400 ≤ v) (v2 : v ≤ 200) (h1 : n ≤ 3 → t = n) (h2 : 3 < n → t = 3) : em_X l D τ sa A 141 [(.inr (.inr (.inl (some 345)))), .inl 21, .inl n, .inl v] (el_h L P) (fun w hp' => w = some (.inl t) ∧ hp' = el_h L P) 2 := by
  by_cases c1 : n ≤ 1
  · obtain rfl : n = 1 := by omega
    obtain rfl : t = 1 := h1 (by decide)
    exact kx_mk (kxr_21_1_k hmn) (ey_lr (ey_lx rfl (ey_lx rfl (ey_li v1 v2 ey_l0)))) rfl
  by_cases c2 : n ≤ 2
  · obtain rfl : n = 2 := by omega
    obtain rfl : t = 2 := h1 (by decide)
    exact kx_mk (kxr_21_2_k hmn) (ey_lr (ey_lx rfl (ey_lx rfl (ey_li v1 v2 ey_l0)))) rfl
  by_cases c3 : n ≤ 3
  · obtain rfl : n = 3 := by omega
    obtain rfl : t = 3 := h1 (by decide)
    exact kx_mk (kxr_21_3_k hmn) (ey_lr (ey_lx rfl (ey_lx rfl (ey_li v1 v2 ey_l0)))) rfl
  obtain rfl : t = 3 := h2 (by omega)
  exact kx_mk (kxr_21_b_k hmn) (ey_lr (ey_lx rfl (ey_li (show (4 : Int) ≤ n by omega) n2 (ey_li v1 v2 ey_l0)))) rfl
theorem kx_r_22 {l : Launch} {D : va_G} {τ : Nat → ClassId} {sa : List Nat} {A : Nat → Prop} (hmn : em_mna) {L P : Nat} {n v t : Int} (n1 : 1 ≤ n) (n2 : n ≤ 24) (v1 : -400 ≤ v) (v2 : v ≤ 200) (h1 : n ≤ 2 → t = n) (h2 : 2 < n → t = 2) : em_X l D τ sa A 141 [(.inr (.inr (.inl (some 345)))), .inl 22, .inl n, .inl v] (el_h L P) (fun w hp' => w = some (.inl t) ∧ hp' = el_h L P) 2 := by
  by_cases c1 : n ≤ 1
  · obtain rfl : n = 1 := by omega
    obtain rfl : t = 1 := h1 (by decide)
    exact kx_mk (kxr_22_1_k hmn) (ey_lr (ey_lx rfl (ey_lx rfl (ey_li v1 v2 ey_l0)))) rfl
  by_cases c2 : n ≤ 2
  · obtain rfl : n = 2 := by omega
    obtain rfl : t = 2 := h1 (by decide)
    exact kx_mk (kxr_22_2_k hmn) (ey_lr (ey_lx rfl (ey_lx rfl (ey_li v1 v2 ey_l0)))) rfl
  obtain rfl : t = 2 := h2 (by omega)
  exact kx_mk (kxr_22_b_k hmn) (ey_lr (ey_lx rfl (ey_li (show (3 : Int) ≤ n by omega) n2 (ey_li v1 v2 ey_l0)))) rfl
theorem kx_r_23 {l : Launch} {D : va_G} {τ : Nat → ClassId} {sa : List Nat} {A : Nat → Prop} (hmn : em_mna) {L P : Nat} {n v t : Int} (n1 : 1 ≤ n) (n2 : n ≤ 24) (v1 : -400 ≤ v) (v2 : v ≤ 200) (h1 : n ≤ 1 → t = n) (h2 : 1 < n → t = 1) : em_X l D τ sa A 141 [(.inr (.inr (.inl (some 345)))), .inl 23, .inl n, .inl v] (el_h L P) (fun w hp' => w = some (.inl t) ∧ hp' = el_h L P) 2 := by
  by_cases c1 : n ≤ 1
  · obtain rfl : n = 1 := by omega
    obtain rfl : t = 1 := h1 (by decide)
    exact kx_mk (kxr_23_1_k hmn) (ey_lr (ey_lx rfl (ey_lx rfl (ey_li v1 v2 ey_l0)))) rfl
  obtain rfl : t = 1 := h2 (by omega)
  exact kx_mk (kxr_23_b_k hmn) (ey_lr (ey_lx rfl (ey_li (show (2 : Int) ≤ n by omega) n2 (ey_li v1 v2 ey_l0)))) rfl
theorem kx_r {l : Launch} {D : va_G} {τ : Nat → ClassId} {sa : List Nat} {A : Nat → Prop} (hmn : em_mna) {L P : Nat} {q n v t : Int} (q1 : 0 ≤ q) (q2 : q ≤ 23) (n1 : 1 ≤ n) (n2 : n ≤ 24) (v1 : -400 ≤ v) (v2 : v ≤ 200) (h1 : n ≤ 24 - q → t = n) (h2 : 24 - q < n → t = 24 - q) : em_X l D τ sa A 141 [(.inr (.inr (.inl (some 345)))), .inl q, .inl n, .inl v] (el_h L P) (fun w hp' => w = some (.inl t) ∧ hp' = el_h L P) 2 := by
  by_cases d0 : q ≤ 0
  · obtain rfl : q = 0 := by omega
    exact kx_r_0 hmn n1 n2 v1 v2 (fun h => h1 (by omega)) (fun h => (h2 (by omega)).trans (by omega))
  by_cases d1 : q ≤ 1
  · obtain rfl : q = 1 := by omega
    exact kx_r_1 hmn n1 n2 v1 v2 (fun h => h1 (by omega)) (fun h => (h2 (by omega)).trans (by omega))
  by_cases d2 : q ≤ 2
  · obtain rfl : q = 2 := by omega
    exact kx_r_2 hmn n1 n2 v1 v2 (fun h => h1 (by omega)) (fun h => (h2 (by omega)).trans (by omega))
  by_cases d3 : q ≤ 3
  · obtain rfl : q = 3 := by omega
    exact kx_r_3 hmn n1 n2 v1 v2 (fun h => h1 (by omega)) (fun h => (h2 (by omega)).trans (by omega))
  by_cases d4 : q ≤ 4
  · obtain rfl : q = 4 := by omega
    exact kx_r_4 hmn n1 n2 v1 v2 (fun h => h1 (by omega)) (fun h => (h2 (by omega)).trans (by omega))
  by_cases d5 : q ≤ 5
  · obtain rfl : q = 5 := by omega
    exact kx_r_5 hmn n1 n2 v1 v2 (fun h => h1 (by omega)) (fun h => (h2 (by omega)).trans (by omega))
  by_cases d6 : q ≤ 6
  · obtain rfl : q = 6 := by omega
    exact kx_r_6 hmn n1 n2 v1 v2 (fun h => h1 (by omega)) (fun h => (h2 (by omega)).trans (by omega))
  by_cases d7 : q ≤ 7
  · obtain rfl : q = 7 := by omega
    exact kx_r_7 hmn n1 n2 v1 v2 (fun h => h1 (by omega)) (fun h => (h2 (by omega)).trans (by omega))
  by_cases d8 : q ≤ 8
  · obtain rfl : q = 8 := by omega
    exact kx_r_8 hmn n1 n2 v1 v2 (fun h => h1 (by omega)) (fun h => (h2 (by omega)).trans (by omega))
  by_cases d9 : q ≤ 9
  · obtain rfl : q = 9 := by omega
    exact kx_r_9 hmn n1 n2 v1 v2 (fun h => h1 (by omega)) (fun h => (h2 (by omega)).trans (by omega))
  by_cases d10 : q ≤ 10
  · obtain rfl : q = 10 := by omega
    exact kx_r_10 hmn n1 n2 v1 v2 (fun h => h1 (by omega)) (fun h => (h2 (by omega)).trans (by omega))
  by_cases d11 : q ≤ 11
  · obtain rfl : q = 11 := by omega
    exact kx_r_11 hmn n1 n2 v1 v2 (fun h => h1 (by omega)) (fun h => (h2 (by omega)).trans (by omega))
  by_cases d12 : q ≤ 12
  · obtain rfl : q = 12 := by omega
    exact kx_r_12 hmn n1 n2 v1 v2 (fun h => h1 (by omega)) (fun h => (h2 (by omega)).trans (by omega))
  by_cases d13 : q ≤ 13
  · obtain rfl : q = 13 := by omega
    exact kx_r_13 hmn n1 n2 v1 v2 (fun h => h1 (by omega)) (fun h => (h2 (by omega)).trans (by omega))
  by_cases d14 : q ≤ 14
  · obtain rfl : q = 14 := by omega
    exact kx_r_14 hmn n1 n2 v1 v2 (fun h => h1 (by omega)) (fun h => (h2 (by omega)).trans (by omega))
  by_cases d15 : q ≤ 15
  · obtain rfl : q = 15 := by omega
    exact kx_r_15 hmn n1 n2 v1 v2 (fun h => h1 (by omega)) (fun h => (h2 (by omega)).trans (by omega))
  by_cases d16 : q ≤ 16
  · obtain rfl : q = 16 := by omega
    exact kx_r_16 hmn n1 n2 v1 v2 (fun h => h1 (by omega)) (fun h => (h2 (by omega)).trans (by omega))
  by_cases d17 : q ≤ 17
  · obtain rfl : q = 17 := by omega
    exact kx_r_17 hmn n1 n2 v1 v2 (fun h => h1 (by omega)) (fun h => (h2 (by omega)).trans (by omega))
  by_cases d18 : q ≤ 18
  · obtain rfl : q = 18 := by omega
    exact kx_r_18 hmn n1 n2 v1 v2 (fun h => h1 (by omega)) (fun h => (h2 (by omega)).trans (by omega))
  by_cases d19 : q ≤ 19
  · obtain rfl : q = 19 := by omega
    exact kx_r_19 hmn n1 n2 v1 v2 (fun h => h1 (by omega)) (fun h => (h2 (by omega)).trans (by omega))
  by_cases d20 : q ≤ 20
  · obtain rfl : q = 20 := by omega
    exact kx_r_20 hmn n1 n2 v1 v2 (fun h => h1 (by omega)) (fun h => (h2 (by omega)).trans (by omega))
  by_cases d21 : q ≤ 21
  · obtain rfl : q = 21 := by omega
    exact kx_r_21 hmn n1 n2 v1 v2 (fun h => h1 (by omega)) (fun h => (h2 (by omega)).trans (by omega))
  by_cases d22 : q ≤ 22
  · obtain rfl : q = 22 := by omega
    exact kx_r_22 hmn n1 n2 v1 v2 (fun h => h1 (by omega)) (fun h => (h2 (by omega)).trans (by omega))
  by_cases d23 : q ≤ 23
  · obtain rfl : q = 23 := by omega
    exact kx_r_23 hmn n1 n2 v1 v2 (fun h => h1 (by omega)) (fun h => (h2 (by omega)).trans (by omega))
  exfalso
  omega
