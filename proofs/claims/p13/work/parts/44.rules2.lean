/-! By hand over INV: more rules. Printed by wip/p3/weakgen.py. -/
theorem er_topI {ρ : ex_R} {w : Int} {v : Value} (h : er_V ρ (.inl w) v) : er_V ρ ex_top v := by
  obtain ⟨x, rfl, -⟩ := h
  exact er_top x
theorem er_topJ {ρ : ex_R} {w : Int} {v : Value} (h : er_V ρ (.inr (.inl w)) v) : er_V ρ ex_topL v := by
  obtain ⟨x, rfl, -⟩ := h
  refine ⟨x, rfl, ?_, ?_⟩
  · show -9223372036854775808 ≤ x.toInt
    have := x.le_toInt; simp at this; omega
  · show x.toInt ≤ 9223372036854775807
    have := x.toInt_lt; simp at this; omega
theorem ey_rem64 {x y : Int} (h1 : 0 ≤ x) (h2 : x ≤ 9223372036854775807) (h3 : 1 ≤ y) (h4 : y ≤ 9223372036854775807) : (Int64.ofInt x - Int64.ofInt x / Int64.ofInt y * Int64.ofInt y).toInt = x % y := by
  have ex : (Int64.ofInt x).toInt = x := Int64.toInt_ofInt_of_le (by simp; omega) (by simp; omega)
  have ey : (Int64.ofInt y).toInt = y := Int64.toInt_ofInt_of_le (by simp; omega) (by simp; omega)
  have e1 := Int.mul_ediv_add_emod x y
  have e2 := Int.emod_nonneg x (by omega : y ≠ 0)
  have e3 := Int.emod_lt_of_pos x (by omega : 0 < y)
  have e4 : x / y * y = y * (x / y) := Int.mul_comm _ _
  have e6 := Int.ediv_nonneg h1 (by omega : 0 ≤ y)
  have e7 := Int.ediv_le_self y h1
  have e5 : 0 ≤ y * (x / y) := by rw [← e4]; exact Int.mul_nonneg e6 (by omega)
  have ed : (Int64.ofInt x / Int64.ofInt y).toInt = x / y := by
    rw [Int64.toInt_div, ex, ey, Int.tdiv_eq_ediv_of_nonneg h1]
    exact Int.bmod_eq_of_le (by omega) (by omega)
  rw [Int64.toInt_sub, Int64.toInt_mul, ed, ex, ey, e4]
  rw [Int.bmod_eq_of_le (n := y * (x / y)) (by omega) (by omega)]
  rw [Int.bmod_eq_of_le (by omega) (by omega)]
  omega
section EX
variable {l : Launch} {D : va_G} {τ : Nat → ClassId} {sa : List Nat} {A : Nat → Prop} {own mname : String} {bytes : ByteArray} {nL d : Nat} {ret : Option FieldType} {K : Option ex_V → ex_H → Bool} {pc pc' a b : Nat} {z : Int} {ls : List (Option ex_V)} {r : List ex_V} {hp : ex_H} {x y : Int}
theorem ey_bin (hmn : em_mna) {f : Int32 → Int32 → Int32} {h : ex_D} (hx : ek_J em_inf et_cls et_vt own mname bytes (pc, h, a, b, z)) (hh : ∀ (go : Nat → List (Option ex_V) → List ex_V → ex_H → Nat → Nat → Bool) (cal : Nat → List ex_V → ex_H → Nat → Nat → (Option ex_V → ex_H → Nat → Nat → Bool) → Bool), h et_cls et_vt (0, 0) ret go cal false K pc a b z ls (.inl y :: .inl x :: r) hp 0 0 = ex_bin f (.inl x) (.inl y) (fun v => ex_n (pc + 1) (fun pc => go pc ls (v :: r) hp 0 0))) (hg : em_G l D τ sa A own mname bytes nL d (0, 0) ret K (pc + 1, ls, .inl (f (Int32.ofInt x) (Int32.ofInt y)).toInt :: r, hp, 0, 0)) : em_G l D τ sa A own mname bytes nL d (0, 0) ret K (pc, ls, .inl y :: .inl x :: r, hp, 0, 0) := by
  refine eg_step hmn _ hx ((hh _ _).trans ?_)
  show ex_z (f (Int32.ofInt x) (Int32.ofInt y)).toInt (fun z => ex_n (pc + 1) (fun pc => eg_go l D τ sa A own mname bytes nL d ret K pc ls (.inl z :: r) hp 0 0)) = true
  rw [ex_z_eq, ex_n_eq]
  exact eg_go_of hg
theorem ej_ishlw (hmn : em_mna) (hx : ek_J em_inf et_cls et_vt own mname bytes (pc, eh_ishl, a, b, z)) (hpc : pc + 1 = pc') (h : ∀ w : Int, -2147483648 ≤ w → w ≤ 2147483647 → em_G l D τ sa A own mname bytes nL d (0, 0) ret K (pc', ls, .inl w :: r, hp, 0, 0)) : em_G l D τ sa A own mname bytes nL d (0, 0) ret K (pc, ls, .inl y :: .inl x :: r, hp, 0, 0) := by
  subst hpc; exact ey_bin hmn (f := fun x y => x <<< (y &&& 31)) hx (fun _ _ => rfl) (h _ (ey_i32 _).1 (ey_i32 _).2)
theorem ej_iorw (hmn : em_mna) (hx : ek_J em_inf et_cls et_vt own mname bytes (pc, eh_ior, a, b, z)) (hpc : pc + 1 = pc') (h : ∀ w : Int, -2147483648 ≤ w → w ≤ 2147483647 → em_G l D τ sa A own mname bytes nL d (0, 0) ret K (pc', ls, .inl w :: r, hp, 0, 0)) : em_G l D τ sa A own mname bytes nL d (0, 0) ret K (pc, ls, .inl y :: .inl x :: r, hp, 0, 0) := by
  subst hpc; exact ey_bin hmn (f := (· ||| ·)) hx (fun _ _ => rfl) (h _ (ey_i32 _).1 (ey_i32 _).2)
theorem ej_iandw (hmn : em_mna) (hx : ek_J em_inf et_cls et_vt own mname bytes (pc, eh_iand, a, b, z)) (hpc : pc + 1 = pc') (h : ∀ w : Int, -2147483648 ≤ w → w ≤ 2147483647 → em_G l D τ sa A own mname bytes nL d (0, 0) ret K (pc', ls, .inl w :: r, hp, 0, 0)) : em_G l D τ sa A own mname bytes nL d (0, 0) ret K (pc, ls, .inl y :: .inl x :: r, hp, 0, 0) := by
  subst hpc; exact ey_bin hmn (f := (· &&& ·)) hx (fun _ _ => rfl) (h _ (ey_i32 _).1 (ey_i32 _).2)
/-- a shift by one of what is above 0 -/
theorem ej_half (hmn : em_mna) (hx : ek_J em_inf et_cls et_vt own mname bytes (pc, eh_ishr, a, b, z)) (hpc : pc + 1 = pc') (h0 : 0 < x) (h1 : x ≤ 2147483647) (h : ∀ w : Int, 0 ≤ w → w < x → em_G l D τ sa A own mname bytes nL d (0, 0) ret K (pc', ls, .inl w :: r, hp, 0, 0)) : em_G l D τ sa A own mname bytes nL d (0, 0) ret K (pc, ls, .inl 1 :: .inl x :: r, hp, 0, 0) := by
  subst hpc
  refine ey_bin hmn (f := fun x y => x >>> (y &&& 31)) hx (fun _ _ => rfl) ?_
  have e : (Int32.ofInt x >>> (Int32.ofInt 1 &&& 31)).toInt = x / 2 := by
    rw [pk_shr _ _ 1 (by decide), Int32.toInt_ofInt_of_le (by simp; omega) (by simp; omega), Int.shiftRight_eq_div_pow]
    rfl
  show em_G l D τ sa A own mname bytes nL d (0, 0) ret K (pc + 1, ls, .inl (Int32.ofInt x >>> (Int32.ofInt 1 &&& 31)).toInt :: r, hp, 0, 0)
  rw [e]
  exact h _ (by omega) (by omega)
theorem ej_imulw (hmn : em_mna) (hx : ek_J em_inf et_cls et_vt own mname bytes (pc, eh_imul, a, b, z)) (hpc : pc + 1 = pc') (h : ∀ w : Int, -2147483648 ≤ w → w ≤ 2147483647 → em_G l D τ sa A own mname bytes nL d (0, 0) ret K (pc', ls, .inl w :: r, hp, 0, 0)) : em_G l D τ sa A own mname bytes nL d (0, 0) ret K (pc, ls, .inl y :: .inl x :: r, hp, 0, 0) := by
  subst hpc
  by_cases c : -2147483648 ≤ x * y ∧ x * y ≤ 2147483647
  · exact ei_imul hmn hx rfl c.1 c.2 (h _ c.1 c.2)
  · refine eg_step hmn _ hx ?_
    show ex_z (x * y) (fun z => if ex_fit32 z then ex_n (pc + 1) (fun pc => eg_go l D τ sa A own mname bytes nL d ret K pc ls (.inl z :: r) hp 0 0) else ex_z (Int32.ofInt x * Int32.ofInt y).toInt (fun z => ex_n (pc + 1) (fun pc => eg_go l D τ sa A own mname bytes nL d ret K pc ls (.inl z :: r) hp 0 0))) = true
    rw [ex_z_eq, if_neg (fun q => c (by have := ex_fit32_ok q; omega)), ex_z_eq, ex_n_eq]
    exact eg_go_of (h _ (ey_i32 _).1 (ey_i32 _).2)
theorem ej_iremw (hmn : em_mna) (hx : ek_J em_inf et_cls et_vt own mname bytes (pc, eh_irem, a, b, z)) (hpc : pc + 1 = pc') (h0 : y ≠ 0) (h : ∀ w : Int, -2147483648 ≤ w → w ≤ 2147483647 → em_G l D τ sa A own mname bytes nL d (0, 0) ret K (pc', ls, .inl w :: r, hp, 0, 0)) : em_G l D τ sa A own mname bytes nL d (0, 0) ret K (pc, ls, .inl y :: .inl x :: r, hp, 0, 0) := by
  subst hpc
  refine eg_step hmn _ hx ?_
  show (if ex_ne0 y y then ex_z (Int32.ofInt x - Int32.ofInt x / Int32.ofInt y * Int32.ofInt y).toInt (fun v => ex_n (pc + 1) (fun pc => eg_go l D τ sa A own mname bytes nL d ret K pc ls (.inl v :: r) hp 0 0)) else false) = true
  rw [if_pos (by unfold ex_ne0; rw [Bool.or_eq_true, ex_le_iff, ex_le_iff]; omega), ex_z_eq, ex_n_eq]
  exact eg_go_of (h _ (ey_i32 _).1 (ey_i32 _).2)
theorem ej_idivw (hmn : em_mna) (hx : ek_J em_inf et_cls et_vt own mname bytes (pc, eh_idiv, a, b, z)) (hpc : pc + 1 = pc') (h0 : y ≠ 0) (h : ∀ w : Int, -2147483648 ≤ w → w ≤ 2147483647 → em_G l D τ sa A own mname bytes nL d (0, 0) ret K (pc', ls, .inl w :: r, hp, 0, 0)) : em_G l D τ sa A own mname bytes nL d (0, 0) ret K (pc, ls, .inl y :: .inl x :: r, hp, 0, 0) := by
  subst hpc
  refine eg_step hmn _ hx ?_
  show (if ex_ne0 y y then ex_z (Int32.ofInt x / Int32.ofInt y).toInt (fun v => ex_n (pc + 1) (fun pc => eg_go l D τ sa A own mname bytes nL d ret K pc ls (.inl v :: r) hp 0 0)) else false) = true
  rw [if_pos (by unfold ex_ne0; rw [Bool.or_eq_true, ex_le_iff, ex_le_iff]; omega), ex_z_eq, ex_n_eq]
  exact eg_go_of (h _ (ey_i32 _).1 (ey_i32 _).2)
theorem ej_lremn (hmn : em_mna) (hx : ek_J em_inf et_cls et_vt own mname bytes (pc, eh_lrem, a, b, z)) (hpc : pc + 1 = pc') (h1 : 0 ≤ x) (h2 : x ≤ 9223372036854775807) (h3 : 1 ≤ y) (h4 : y ≤ 9223372036854775807) (h : em_G l D τ sa A own mname bytes nL d (0, 0) ret K (pc', ls, .inr (.inl (x % y)) :: r, hp, 0, 0)) : em_G l D τ sa A own mname bytes nL d (0, 0) ret K (pc, ls, .inr (.inl y) :: .inr (.inl x) :: r, hp, 0, 0) := by
  subst hpc
  refine eg_step hmn _ hx ?_
  show (if ex_ne0 y y then ex_z (Int64.ofInt x - Int64.ofInt x / Int64.ofInt y * Int64.ofInt y).toInt (fun v => ex_n (pc + 1) (fun pc => eg_go l D τ sa A own mname bytes nL d ret K pc ls (.inr (.inl v) :: r) hp 0 0)) else false) = true
  rw [if_pos (by unfold ex_ne0; rw [(ex_le_iff 1 y).mpr h3, Bool.true_or]), ex_z_eq, ex_n_eq, ey_rem64 h1 h2 h3 h4]
  exact eg_go_of h
theorem ej_landw (hmn : em_mna) (hx : ek_J em_inf et_cls et_vt own mname bytes (pc, eh_land, a, b, z)) (hpc : pc + 1 = pc') (h : ∀ w : Int, em_G l D τ sa A own mname bytes nL d (0, 0) ret K (pc', ls, .inr (.inl w) :: r, hp, 0, 0)) : em_G l D τ sa A own mname bytes nL d (0, 0) ret K (pc, ls, .inr (.inl y) :: .inr (.inl x) :: r, hp, 0, 0) := by
  subst hpc
  refine eg_step hmn _ hx ?_
  show ex_z (Int64.ofInt x &&& Int64.ofInt y).toInt (fun v => ex_n (pc + 1) (fun pc => eg_go l D τ sa A own mname bytes nL d ret K pc ls (.inr (.inl v) :: r) hp 0 0)) = true
  rw [ex_z_eq, ex_n_eq]
  exact eg_go_of (h _)
theorem ey_binL (hmn : em_mna) {f : Int64 → Int64 → Int64} {h : ex_D} (hx : ek_J em_inf et_cls et_vt own mname bytes (pc, h, a, b, z)) (hh : ∀ (go : Nat → List (Option ex_V) → List ex_V → ex_H → Nat → Nat → Bool) (cal : Nat → List ex_V → ex_H → Nat → Nat → (Option ex_V → ex_H → Nat → Nat → Bool) → Bool), h et_cls et_vt (0, 0) ret go cal false K pc a b z ls (.inr (.inl y) :: .inr (.inl x) :: r) hp 0 0 = ex_binL f (.inr (.inl x)) (.inr (.inl y)) (fun v => ex_n (pc + 1) (fun pc => go pc ls (v :: r) hp 0 0))) (hpc : pc + 1 = pc') (hg : ∀ w : Int, em_G l D τ sa A own mname bytes nL d (0, 0) ret K (pc', ls, .inr (.inl w) :: r, hp, 0, 0)) : em_G l D τ sa A own mname bytes nL d (0, 0) ret K (pc, ls, .inr (.inl y) :: .inr (.inl x) :: r, hp, 0, 0) := by
  subst hpc
  refine eg_step hmn _ hx ((hh _ _).trans ?_)
  show ex_z (f (Int64.ofInt x) (Int64.ofInt y)).toInt (fun z => ex_n (pc + 1) (fun pc => eg_go l D τ sa A own mname bytes nL d ret K pc ls (.inr (.inl z) :: r) hp 0 0)) = true
  rw [ex_z_eq, ex_n_eq]
  exact eg_go_of (hg _)
theorem ej_lmulw (hmn : em_mna) (hx : ek_J em_inf et_cls et_vt own mname bytes (pc, eh_lmul, a, b, z)) (hpc : pc + 1 = pc') (h : ∀ w : Int, em_G l D τ sa A own mname bytes nL d (0, 0) ret K (pc', ls, .inr (.inl w) :: r, hp, 0, 0)) : em_G l D τ sa A own mname bytes nL d (0, 0) ret K (pc, ls, .inr (.inl y) :: .inr (.inl x) :: r, hp, 0, 0) := ey_binL hmn (f := (· * ·)) hx (fun _ _ => rfl) hpc h
theorem ej_laddw (hmn : em_mna) (hx : ek_J em_inf et_cls et_vt own mname bytes (pc, eh_ladd, a, b, z)) (hpc : pc + 1 = pc') (h : ∀ w : Int, em_G l D τ sa A own mname bytes nL d (0, 0) ret K (pc', ls, .inr (.inl w) :: r, hp, 0, 0)) : em_G l D τ sa A own mname bytes nL d (0, 0) ret K (pc, ls, .inr (.inl y) :: .inr (.inl x) :: r, hp, 0, 0) := ey_binL hmn (f := (· + ·)) hx (fun _ _ => rfl) hpc h
theorem ej_lsubw (hmn : em_mna) (hx : ek_J em_inf et_cls et_vt own mname bytes (pc, eh_lsub, a, b, z)) (hpc : pc + 1 = pc') (h : ∀ w : Int, em_G l D τ sa A own mname bytes nL d (0, 0) ret K (pc', ls, .inr (.inl w) :: r, hp, 0, 0)) : em_G l D τ sa A own mname bytes nL d (0, 0) ret K (pc, ls, .inr (.inl y) :: .inr (.inl x) :: r, hp, 0, 0) := ey_binL hmn (f := (· - ·)) hx (fun _ _ => rfl) hpc h
theorem ej_inegw (hmn : em_mna) (hx : ek_J em_inf et_cls et_vt own mname bytes (pc, eh_ineg, a, b, z)) (hpc : pc + 1 = pc') (h : ∀ w : Int, -2147483648 ≤ w → w ≤ 2147483647 → em_G l D τ sa A own mname bytes nL d (0, 0) ret K (pc', ls, .inl w :: r, hp, 0, 0)) : em_G l D τ sa A own mname bytes nL d (0, 0) ret K (pc, ls, .inl x :: r, hp, 0, 0) := by
  subst hpc
  refine eg_step hmn _ hx ?_
  show ex_z (-(Int32.ofInt x)).toInt (fun z => ex_n (pc + 1) (fun pc => eg_go l D τ sa A own mname bytes nL d ret K pc ls (.inl z :: r) hp 0 0)) = true
  rw [ex_z_eq, ex_n_eq]
  exact eg_go_of (h _ (ey_i32 _).1 (ey_i32 _).2)
theorem ej_lreturn (hmn : em_mna) (hx : ek_J em_inf et_cls et_vt own mname bytes (pc, eh_lreturn, a, b, z)) (h : K (some (.inr (.inl x))) hp = true) : em_G l D τ sa A own mname bytes nL d (0, 0) (some .long) K (pc, ls, [.inr (.inl x)], hp, 0, 0) := eg_step hmn _ hx h
end EX

/-- a local that is known, told by bounds -/
theorem ej_wide {l : Launch} {D : va_G} {τ : Nat → ClassId} {sa : List Nat} {A : Nat → Prop} {own mname : String} {bytes : ByteArray} {nL d : Nat} {ret : Option FieldType} {K : Option ex_V → ex_H → Bool} {pc : Nat} {ls : List (Option ex_V)} {st : List ex_V} {hp : ex_H} {x lo hi : Int} (i : Nat) (hi' : ls[i]? = some (some (.inl x))) (h1 : lo ≤ x) (h2 : x ≤ hi) (h : em_G l D τ sa A own mname bytes nL d (0, 0) ret K (pc, ls.set i (some (.inr (.inr (.inr (.inl (lo, hi)))))), st, hp, 0, 0)) : em_G l D τ sa A own mname bytes nL d (0, 0) ret K (pc, ls, st, hp, 0, 0) := by
  intro ν ro p e R s m args below meth c Q ws0 B hm hf hlo hlim hret H locs lsA stA ws hL hT hP hS hw
  refine h ν ro p e R s m args below meth c Q ws0 B hm hf hlo hlim hret H locs lsA stA ws ?_ hT hP hS hw
  obtain ⟨g1, lv, g2, g3⟩ := hL
  obtain ⟨v, ⟨y, rfl, e1⟩, g4⟩ := g3 i _ hi'
  refine ⟨by rw [List.length_set]; exact g1, lv, g2, fun j a ha => ?_⟩
  rw [List.getElem?_set] at ha
  by_cases e : i = j
  · subst e
    rw [if_pos rfl] at ha
    split at ha
    · cases ha; exact ⟨_, ⟨y, rfl, by show lo ≤ y.toInt; omega, by show y.toInt ≤ hi; omega⟩, g4⟩
    · cases ha
  · rw [if_neg e] at ha
    exact g3 j a ha
theorem evw_354 : ∀ i, i < 24 → ey_wr (ei_c18[2]!).2.2.2.1 i (-2147483648) (2147483647) := by
  have h : ∀ i, i < 24 → ex_pg (ei_c18[2]!).2.2.2.1 i % 4294967296 = 0 ∧ ex_pg (ei_c18[2]!).2.2.2.1 i / 4294967296 = 4294967295 := by decide +kernel
  intro i hi
  obtain ⟨h1, h2⟩ := h i hi
  exact ⟨by rw [h1]; rfl, by rw [h2]; rfl⟩
theorem evw_358 : ∀ i, i < 24 → ey_wr (ei_c18[6]!).2.2.2.1 i (0) (2) := by
  have h : ∀ i, i < 24 → ex_pg (ei_c18[6]!).2.2.2.1 i % 4294967296 = 2147483648 ∧ ex_pg (ei_c18[6]!).2.2.2.1 i / 4294967296 = 2147483650 := by decide +kernel
  intro i hi
  obtain ⟨h1, h2⟩ := h i hi
  exact ⟨by rw [h1]; rfl, by rw [h2]; rfl⟩
theorem evw_359 : ∀ i, i < 24 → ey_wr (ei_c18[7]!).2.2.2.1 i (0) (2) := by
  have h : ∀ i, i < 24 → ex_pg (ei_c18[7]!).2.2.2.1 i % 4294967296 = 2147483648 ∧ ex_pg (ei_c18[7]!).2.2.2.1 i / 4294967296 = 2147483650 := by decide +kernel
  intro i hi
  obtain ⟨h1, h2⟩ := h i hi
  exact ⟨by rw [h1]; rfl, by rw [h2]; rfl⟩
theorem evw_350 : ∀ i, i < 300 → ey_wr (ei_c17[14]!).2.2.2.1 i (-2147483648) (2147483647) := by
  have h : ∀ i, i < 300 → ex_pg (ei_c17[14]!).2.2.2.1 i % 4294967296 = 0 ∧ ex_pg (ei_c17[14]!).2.2.2.1 i / 4294967296 = 4294967295 := by decide +kernel
  intro i hi
  obtain ⟨h1, h2⟩ := h i hi
  exact ⟨by rw [h1]; rfl, by rw [h2]; rfl⟩
theorem evw_351 : ∀ i, i < 300 → ey_wr (ei_c17[15]!).2.2.2.1 i (-2147483648) (2147483647) := by
  have h : ∀ i, i < 300 → ex_pg (ei_c17[15]!).2.2.2.1 i % 4294967296 = 0 ∧ ex_pg (ei_c17[15]!).2.2.2.1 i / 4294967296 = 4294967295 := by decide +kernel
  intro i hi
  obtain ⟨h1, h2⟩ := h i hi
  exact ⟨by rw [h1]; rfl, by rw [h2]; rfl⟩
theorem evw_352 : ∀ i, i < 1500 → ey_wr (ei_c18[0]!).2.2.2.1 i (-2147483648) (2147483647) := by
  have h : ∀ i, i < 1500 → ex_pg (ei_c18[0]!).2.2.2.1 i % 4294967296 = 0 ∧ ex_pg (ei_c18[0]!).2.2.2.1 i / 4294967296 = 4294967295 := by decide +kernel
  intro i hi
  obtain ⟨h1, h2⟩ := h i hi
  exact ⟨by rw [h1]; rfl, by rw [h2]; rfl⟩
theorem evw_47 : ∀ i, i < 300 → ey_wr (ei_c2[15]!).2.2.2.1 i (-2147483648) (2147483647) := by
  have h : ∀ i, i < 300 → ex_pg (ei_c2[15]!).2.2.2.1 i % 4294967296 = 0 ∧ ex_pg (ei_c2[15]!).2.2.2.1 i / 4294967296 = 4294967295 := by decide +kernel
  intro i hi
  obtain ⟨h1, h2⟩ := h i hi
  exact ⟨by rw [h1]; rfl, by rw [h2]; rfl⟩
theorem evw_48 : ∀ i, i < 50 → ey_wr (ei_c3[0]!).2.2.2.1 i (0) (9) := by
  have h : ∀ i, i < 50 → ex_pg (ei_c3[0]!).2.2.2.1 i % 4294967296 = 2147483648 ∧ ex_pg (ei_c3[0]!).2.2.2.1 i / 4294967296 = 2147483657 := by decide +kernel
  intro i hi
  obtain ⟨h1, h2⟩ := h i hi
  exact ⟨by rw [h1]; rfl, by rw [h2]; rfl⟩
theorem evw_plan : ∀ z : Int, 0 ≤ z → z < 24 → ey_wr (ei_c17[10]!).2.2.2.1 (62 + 4 * z + 0).toNat (0) (2) := by
  have h : ∀ i, i < 24 → ex_pg (ei_c17[10]!).2.2.2.1 (62 + 4 * i) % 4294967296 = 2147483648 ∧ ex_pg (ei_c17[10]!).2.2.2.1 (62 + 4 * i) / 4294967296 = 2147483650 := by decide +kernel
  intro z h0 h1
  obtain ⟨i, rfl⟩ : ∃ i : Nat, z = i := ⟨z.toNat, by omega⟩
  have e : (62 + 4 * (i : Int) + 0).toNat = 62 + 4 * i := by omega
  obtain ⟨h1, h2⟩ := h i (by omega)
  unfold ey_wr
  rw [e]
  exact ⟨by rw [h1]; rfl, by rw [h2]; rfl⟩
theorem evw_b3 : ey_wr (ei_c17[10]!).2.2.2.1 (3 : Int).toNat (1) (24) := by
  have h : ex_pg (ei_c17[10]!).2.2.2.1 3 % 4294967296 = 2147483649 ∧ ex_pg (ei_c17[10]!).2.2.2.1 3 / 4294967296 = 2147483672 := by decide +kernel
  exact ⟨by show ((ex_pg (ei_c17[10]!).2.2.2.1 3 % 4294967296 : Nat) : Int) = _; rw [h.1]; rfl, by show ((ex_pg (ei_c17[10]!).2.2.2.1 3 / 4294967296 : Nat) : Int) = _; rw [h.2]; rfl⟩
theorem evw_b11 : ey_wr (ei_c17[10]!).2.2.2.1 (11 : Int).toNat (0) (8) := by
  have h : ex_pg (ei_c17[10]!).2.2.2.1 11 % 4294967296 = 2147483648 ∧ ex_pg (ei_c17[10]!).2.2.2.1 11 / 4294967296 = 2147483656 := by decide +kernel
  exact ⟨by show ((ex_pg (ei_c17[10]!).2.2.2.1 11 % 4294967296 : Nat) : Int) = _; rw [h.1]; rfl, by show ((ex_pg (ei_c17[10]!).2.2.2.1 11 / 4294967296 : Nat) : Int) = _; rw [h.2]; rfl⟩
