/-! bestMargin, by hand. Printed by wip/p3/bestgen.py. -/
theorem ey_rem32 {x y : Int} (h1 : 0 ≤ x) (h2 : x ≤ 2147483647) (h3 : 1 ≤ y) (h4 : y ≤ 2147483647) : (Int32.ofInt x - Int32.ofInt x / Int32.ofInt y * Int32.ofInt y).toInt = x % y := by
  have ex : (Int32.ofInt x).toInt = x := Int32.toInt_ofInt_of_le (by simp; omega) (by simp; omega)
  have ey : (Int32.ofInt y).toInt = y := Int32.toInt_ofInt_of_le (by simp; omega) (by simp; omega)
  have ed := ey_div32 (x := x) (y := y) (by omega) h2 h3 h4
  rw [Int.tdiv_eq_ediv_of_nonneg h1] at ed
  have e1 := Int.mul_ediv_add_emod x y
  have e2 := Int.emod_nonneg x (by omega : y ≠ 0)
  have e3 := Int.emod_lt_of_pos x (by omega : 0 < y)
  have e4 : x / y * y = y * (x / y) := Int.mul_comm _ _
  have e5 : 0 ≤ y * (x / y) := by rw [← e4]; exact Int.mul_nonneg (Int.ediv_nonneg h1 (by omega)) (by omega)
  rw [Int32.toInt_sub, Int32.toInt_mul, ed, ex, ey, e4]
  rw [Int.bmod_eq_of_le (n := y * (x / y)) (by omega) (by omega)]
  rw [Int.bmod_eq_of_le (by omega) (by omega)]
  omega
section EK
variable {l : Launch} {D : va_G} {τ : Nat → ClassId} {sa : List Nat} {A : Nat → Prop} {own mname : String} {bytes : ByteArray} {nL d : Nat} {ret : Option FieldType} {K : Option ex_V → ex_H → Bool} {pc pc' a b : Nat} {z : Int} {ls : List (Option ex_V)} {r : List ex_V} {hp : ex_H} {x y : Int}
theorem ej_idivn (hmn : em_mna) (hx : ek_J em_inf et_cls et_vt own mname bytes (pc, eh_idiv, a, b, z)) (hpc : pc + 1 = pc') (h1 : 0 ≤ x) (h2 : x ≤ 2147483647) (h3 : 1 ≤ y) (h4 : y ≤ 2147483647) (h : em_G l D τ sa A own mname bytes nL d (0, 0) ret K (pc', ls, .inl (x / y) :: r, hp, 0, 0)) : em_G l D τ sa A own mname bytes nL d (0, 0) ret K (pc, ls, .inl y :: .inl x :: r, hp, 0, 0) :=
  ej_idiv hmn hx hpc (by omega) h2 h3 h4 (by rw [Int.tdiv_eq_ediv_of_nonneg h1]; exact h)
theorem ej_iremn (hmn : em_mna) (hx : ek_J em_inf et_cls et_vt own mname bytes (pc, eh_irem, a, b, z)) (hpc : pc + 1 = pc') (h1 : 0 ≤ x) (h2 : x ≤ 2147483647) (h3 : 1 ≤ y) (h4 : y ≤ 2147483647) (h : em_G l D τ sa A own mname bytes nL d (0, 0) ret K (pc', ls, .inl (x % y) :: r, hp, 0, 0)) : em_G l D τ sa A own mname bytes nL d (0, 0) ret K (pc, ls, .inl y :: .inl x :: r, hp, 0, 0) := by
  subst hpc
  refine eg_step hmn _ hx ?_
  show (if ex_ne0 y y then ex_z (Int32.ofInt x - Int32.ofInt x / Int32.ofInt y * Int32.ofInt y).toInt (fun v => ex_n (pc + 1) (fun pc => eg_go l D τ sa A own mname bytes nL d ret K pc ls (.inl v :: r) hp 0 0)) else false) = true
  rw [if_pos (by unfold ex_ne0; rw [(ex_le_iff 1 y).mpr h3, Bool.true_or]), ex_z_eq, ex_n_eq, ey_rem32 h1 h2 h3 h4]
  exact eg_go_of h
end EK
/-- the least of some -/
theorem ez_min {mg : Int → Int} {p : Int → Prop} : ∀ n : Nat, (∃ k : Int, 0 ≤ k ∧ k < n ∧ p k) → ∃ k : Int, 0 ≤ k ∧ k < n ∧ p k ∧ ∀ j : Int, 0 ≤ j → j < n → p j → mg k ≤ mg j := by
  intro n
  induction n with
  | zero => rintro ⟨k, k0, k1, -⟩; omega
  | succ n ih =>
    rintro ⟨k, k0, k1, kp⟩
    by_cases h : ∃ k : Int, 0 ≤ k ∧ k < n ∧ p k
    · obtain ⟨i, i0, i1, ip, im⟩ := ih h
      by_cases hp : p (n : Int)
      · by_cases hl : mg i ≤ mg (n : Int)
        · refine ⟨i, i0, by omega, ip, fun j j0 j1 jp => ?_⟩
          by_cases e : j = n
          · rw [e]; exact hl
          · exact im j j0 (by omega) jp
        · refine ⟨n, by omega, by omega, hp, fun j j0 j1 jp => ?_⟩
          by_cases e : j = n
          · rw [e]; exact Int.le_refl _
          · have := im j j0 (by omega) jp; omega
      · refine ⟨i, i0, by omega, ip, fun j j0 j1 jp => ?_⟩
        by_cases e : j = n
        · rw [e] at jp; exact absurd jp hp
        · exact im j j0 (by omega) jp
    · have e : k = n := Classical.byContradiction (fun q => h ⟨k, k0, by omega, kp⟩)
      subst e
      refine ⟨n, by omega, by omega, kp, fun j j0 j1 jp => ?_⟩
      by_cases e : j = n
      · rw [e]; exact Int.le_refl _
      · exact absurd ⟨j, j0, by omega, jp⟩ h
/-- whether a place of the margins counts -/
def ez_v (bf : Int → Int) (k : Int) : Prop := k / 8 < bf 11 ∧ k % 8 < bf 0
theorem ez_best {bf mg : Int → Int} {best : Int} (h11 : bf 11 ≤ 8) (hn : 1 ≤ bf 11) (hb0 : bf 0 ≤ 8) (hb2 : 2 ≤ bf 0) (hmg : ∀ k, 0 ≤ k → k < 64 → ez_v bf k → -1000000 < mg k) (hcap : ∀ x, 0 ≤ x → x < bf 0 → 0 ≤ bf (20 + 5 * x + 2)) (hsum : bf 11 ≤ ez_s (fun x => bf (20 + 5 * x + 2)) (bf 0).toNat) (h1 : best = -1000000 ∨ ez_F bf mg best 0 (fun _ => 0)) (h2 : ∀ k, 0 ≤ k → k < 64 → ez_v bf k → mg k ≤ best ∨ ¬ ez_F bf mg (mg k) 0 (fun _ => 0)) : ez_F bf mg best 0 (fun _ => 0) := by
  rcases h1 with h1 | h1
  · exfalso
    obtain ⟨k, k0, k1, kp, km⟩ := ez_min (mg := mg) (p := ez_v bf) 64 ⟨0, by decide, by decide, by unfold ez_v; omega⟩
    have hF : ez_F bf mg (mg k) 0 (fun _ => 0) := by
      obtain ⟨t, t1, t2⟩ := ez_room (cap := fun x => bf (20 + 5 * x + 2)) (k := (bf 0).toNat) (bf 11).toNat (by omega)
      refine ⟨t, fun j j0 j1 => ?_, fun j j0 j1 => by omega, fun x x0 x1 => t2 x x0 (by omega) (hcap x x0 x1)⟩
      have := t1 j j0 (by omega)
      refine ⟨this.1, by omega, fun _ => by omega, km (8 * j + t j) (by omega) (by omega) ?_⟩
      unfold ez_v
      omega
    have := h2 k k0 k1 kp
    have := hmg k k0 k1 kp
    rcases h2 k k0 k1 kp with q | q
    · omega
    · exact q hF
  · exact h1
/-- what bestMargin leaves -/
def ez_PB (B W Z Y N F M R : Nat) (bf mg : Int → Int) (v : Option ex_V) (hp' : ex_H) : Prop := ∃ (r : Int) (S U C a b : Nat) (sf uf cf af ef : Int → Int), v = some (.inl r) ∧ hp' = (ey_h B W Z Y N F M S U C a b R) ∧ ey_R 8 S sf ∧ ey_R 8 U uf ∧ ey_R 8 C cf ∧ ey_R 8 a af ∧ ey_R 8 b ef ∧ (∀ j, 0 ≤ j → j < 8 → -1 ≤ sf j ∧ sf j ≤ 7) ∧ (∀ j, 0 ≤ j → j < 8 → -1 ≤ cf j ∧ cf j ≤ 7) ∧ (∀ j, 0 ≤ j → j < 8 → 0 ≤ af j ∧ af j ≤ 1) ∧ (∀ j, 0 ≤ j → j < 8 → 0 ≤ ef j ∧ ef j ≤ 1) ∧ ez_F bf mg r 0 (fun _ => 0)
theorem eq_bm_l {l : Launch} {D : va_G} {τ : Nat → ClassId} {sa : List Nat} {A : Nat → Prop} (hmn : em_mna) {own mname : String} {bytes : ByteArray} (hT : ∀ ch ∈ eu_185, ∀ x ∈ ch, ek_J em_inf et_cls et_vt own mname bytes x) {d : Nat} (hd : 3 ≤ d) {K : Option ex_V → ex_H → Bool} {B W Z Y N F M R : Nat} {bf mg : Int → Int} (hB : ey_R 230 B bf) (hM : ey_R 64 M mg) (h11 : bf 11 ≤ 8) (hn : 1 ≤ bf 11) (hb0 : bf 0 ≤ 8) (hb2 : 2 ≤ bf 0) (hmg : ∀ k, 0 ≤ k → k < 64 → ez_v bf k → -1000000 < mg k) (hcap : ∀ x, 0 ≤ x → x < bf 0 → 0 ≤ bf (20 + 5 * x + 2)) (hsum : bf 11 ≤ ez_s (fun x => bf (20 + 5 * x + 2)) (bf 0).toNat) (hK : ∀ (v : Option ex_V) (hp' : ex_H), ez_PB B W Z Y N F M R bf mg v hp' → K v hp' = true) : ∀ (n S U C a b : Nat) (sf uf cf af ef : Int → Int) (best k : Int), 64 - k < n → (0 ≤ k ∧ k ≤ 64) → ey_R 8 S sf → ey_R 8 U uf → ey_R 8 C cf → ey_R 8 a af → ey_R 8 b ef → (∀ j, 0 ≤ j → j < 8 → -1 ≤ sf j ∧ sf j ≤ 7) → (∀ j, 0 ≤ j → j < 8 → -1 ≤ cf j ∧ cf j ≤ 7) → (∀ j, 0 ≤ j → j < 8 → 0 ≤ af j ∧ af j ≤ 1) → (∀ j, 0 ≤ j → j < 8 → 0 ≤ ef j ∧ ef j ≤ 1) → (best = -1000000 ∨ ez_F bf mg best 0 (fun _ => 0)) → (∀ j, 0 ≤ j → j < k → ez_v bf j → mg j ≤ best ∨ ¬ ez_F bf mg (mg j) 0 (fun _ => 0)) → em_G l D τ sa A own mname bytes 5 d (0, 0) (some .int) K (6, [some (.inr (.inr (.inl (some 345)))), some (.inl (best)), some (.inl (k)), none, none], [], (ey_h B W Z Y N F M S U C a b R), 0, 0) := by
  intro n
  induction n with
  | zero => intro S U C a b sf uf cf af ef best k hk0 hk; exfalso; omega
  | succ n ih =>
    intro S U C a b sf uf cf af ef best k hk0 hk hS hU hC ha he b1 b2 b3 b4 h1 h2
    refine ej_plain hmn (eg_at hT 0 4 rfl rfl) (pc' := 7) (ls' := [some (.inr (.inr (.inl (some 345)))), some (.inl (best)), some (.inl (k)), none, none]) (st' := [.inl (k)]) (fun _ _ => rfl) ?_
    refine ej_plain hmn (eg_at hT 0 5 rfl rfl) (pc' := 9) (ls' := [some (.inr (.inr (.inl (some 345)))), some (.inl (best)), some (.inl (k)), none, none]) (st' := [.inl (64), .inl (k)]) (fun _ _ => rfl) ?_
    refine ej_if_icmp hmn (eg_at hT 0 6 rfl rfl) (pc' := 12) rfl (fun _ => rfl) (fun (bc1 : 64 ≤ k) => ?_) (fun (bc1 : ¬ (64 ≤ k)) => ?_)
    · refine ej_plain hmn (eg_at hT 2 8 rfl rfl) (pc' := 83) (ls' := [some (.inr (.inr (.inl (some 345)))), some (.inl (best)), some (.inl (k)), none, none]) (st' := [.inl (best)]) (fun _ _ => rfl) ?_
      exact ej_ireturn hmn (eg_at hT 2 9 rfl rfl) (hK _ _ ⟨best, S, U, C, a, b, sf, uf, cf, af, ef, rfl, rfl, hS, hU, hC, ha, he, b1, b2, b3, b4, ez_best h11 hn hb0 hb2 hmg hcap hsum h1 (fun j j0 j1 => h2 j j0 (by omega))⟩)
    · refine ej_plain hmn (eg_at hT 0 7 rfl rfl) (pc' := 13) (ls' := [some (.inr (.inr (.inl (some 345)))), some (.inl (best)), some (.inl (k)), none, none]) (st' := [.inl (k)]) (fun _ _ => rfl) ?_
      refine ej_plain hmn (eg_at hT 0 8 rfl rfl) (pc' := 15) (ls' := [some (.inr (.inr (.inl (some 345)))), some (.inl (best)), some (.inl (k)), none, none]) (st' := [.inl (8), .inl (k)]) (fun _ _ => rfl) ?_
      refine ej_idivn hmn (eg_at hT 0 9 rfl rfl) (pc' := 16) rfl (by omega) (by omega) (by decide) (by decide) ?_
      refine ej_plain hmn (eg_at hT 0 10 rfl rfl) (pc' := 17) (ls' := [some (.inr (.inr (.inl (some 345)))), some (.inl (best)), some (.inl (k)), some (.inl (k / 8)), none]) (st' := []) (fun _ _ => rfl) ?_
      refine ej_plain hmn (eg_at hT 0 11 rfl rfl) (pc' := 18) (ls' := [some (.inr (.inr (.inl (some 345)))), some (.inl (best)), some (.inl (k)), some (.inl (k / 8)), none]) (st' := [.inl (k)]) (fun _ _ => rfl) ?_
      refine ej_plain hmn (eg_at hT 0 12 rfl rfl) (pc' := 20) (ls' := [some (.inr (.inr (.inl (some 345)))), some (.inl (best)), some (.inl (k)), some (.inl (k / 8)), none]) (st' := [.inl (8), .inl (k)]) (fun _ _ => rfl) ?_
      refine ej_iremn hmn (eg_at hT 0 13 rfl rfl) (pc' := 21) rfl (by omega) (by omega) (by decide) (by decide) ?_
      refine ej_plain hmn (eg_at hT 0 14 rfl rfl) (pc' := 23) (ls' := [some (.inr (.inr (.inl (some 345)))), some (.inl (best)), some (.inl (k)), some (.inl (k / 8)), some (.inl (k % 8))]) (st' := []) (fun _ _ => rfl) ?_
      refine ej_plain hmn (eg_at hT 0 15 rfl rfl) (pc' := 24) (ls' := [some (.inr (.inr (.inl (some 345)))), some (.inl (best)), some (.inl (k)), some (.inl (k / 8)), some (.inl (k % 8))]) (st' := [.inl (k / 8)]) (fun _ _ => rfl) ?_
      refine ej_plain hmn (eg_at hT 0 16 rfl rfl) (pc' := 25) (ls' := [some (.inr (.inr (.inl (some 345)))), some (.inl (best)), some (.inl (k)), some (.inl (k / 8)), some (.inl (k % 8))]) (st' := [.inr (.inr (.inl (some 345))), .inl (k / 8)]) (fun _ _ => rfl) ?_
      refine ej_plain hmn (eg_at hT 0 17 rfl rfl) (pc' := 28) (ls' := [some (.inr (.inr (.inl (some 345)))), some (.inl (best)), some (.inl (k)), some (.inl (k / 8)), some (.inl (k % 8))]) (st' := [.inr (.inr (.inl (some 346))), .inl (k / 8)]) (fun _ _ => rfl) ?_
      refine ej_plain hmn (eg_at hT 0 18 rfl rfl) (pc' := 30) (ls' := [some (.inr (.inr (.inl (some 345)))), some (.inl (best)), some (.inl (k)), some (.inl (k / 8)), some (.inl (k % 8))]) (st' := [.inl (11), .inr (.inr (.inl (some 346))), .inl (k / 8)]) (fun _ _ => rfl) ?_
      refine ej_iaload hmn (eg_at hT 0 19 rfl rfl) (pc' := 31) (n := 230) rfl (fun _ => rfl) hB (by omega) (by omega) ?_
      refine ej_if_icmp hmn (eg_at hT 0 20 rfl rfl) (pc' := 34) rfl (fun _ => rfl) (fun (bc2 : bf 11 ≤ k / 8) => ?_) (fun (bc2 : ¬ (bf 11 ≤ k / 8)) => ?_)
      · refine ej_iinc hmn (eg_at hT 2 6 rfl rfl) (pc' := 79) rfl (w := 1) rfl (fun _ => rfl) (lsf := fun V => [some (.inr (.inr (.inl (some 345)))), some (.inl (best)), some V, some (.inl (k / 8)), some (.inl (k % 8))]) (fun _ _ => rfl) (by decide) (by decide) (by omega) (by omega) ?_
        refine ej_plain hmn (eg_at hT 2 7 rfl rfl) (pc' := 6) (ls' := [some (.inr (.inr (.inl (some 345)))), some (.inl (best)), some (.inl (k + 1)), some (.inl (k / 8)), some (.inl (k % 8))]) (st' := []) (fun _ _ => rfl) ?_
        refine ej_drop 3 rfl (ej_drop 4 rfl ?_)
        refine ih _ _ _ _ _ _ _ _ _ _ _ _ (by omega) (by omega) hS hU hC ha he b1 b2 b3 b4 ?_ (fun j j0 j1 jv => ?_)
        · exact h1
        · by_cases q : j = k
          · rw [q] at jv ⊢; unfold ez_v at jv; first | (exfalso; omega) | (left; omega)
          · exact h2 j j0 (by omega) jv
      · refine ej_plain hmn (eg_at hT 1 0 rfl rfl) (pc' := 36) (ls' := [some (.inr (.inr (.inl (some 345)))), some (.inl (best)), some (.inl (k)), some (.inl (k / 8)), some (.inl (k % 8))]) (st' := [.inl (k % 8)]) (fun _ _ => rfl) ?_
        refine ej_plain hmn (eg_at hT 1 1 rfl rfl) (pc' := 37) (ls' := [some (.inr (.inr (.inl (some 345)))), some (.inl (best)), some (.inl (k)), some (.inl (k / 8)), some (.inl (k % 8))]) (st' := [.inr (.inr (.inl (some 345))), .inl (k % 8)]) (fun _ _ => rfl) ?_
        refine ej_plain hmn (eg_at hT 1 2 rfl rfl) (pc' := 40) (ls' := [some (.inr (.inr (.inl (some 345)))), some (.inl (best)), some (.inl (k)), some (.inl (k / 8)), some (.inl (k % 8))]) (st' := [.inr (.inr (.inl (some 346))), .inl (k % 8)]) (fun _ _ => rfl) ?_
        refine ej_plain hmn (eg_at hT 1 3 rfl rfl) (pc' := 41) (ls' := [some (.inr (.inr (.inl (some 345)))), some (.inl (best)), some (.inl (k)), some (.inl (k / 8)), some (.inl (k % 8))]) (st' := [.inl (0), .inr (.inr (.inl (some 346))), .inl (k % 8)]) (fun _ _ => rfl) ?_
        refine ej_iaload hmn (eg_at hT 1 4 rfl rfl) (pc' := 42) (n := 230) rfl (fun _ => rfl) hB (by omega) (by omega) ?_
        refine ej_if_icmp hmn (eg_at hT 1 5 rfl rfl) (pc' := 45) rfl (fun _ => rfl) (fun (bc3 : bf 0 ≤ k % 8) => ?_) (fun (bc3 : ¬ (bf 0 ≤ k % 8)) => ?_)
        · refine ej_iinc hmn (eg_at hT 2 6 rfl rfl) (pc' := 79) rfl (w := 1) rfl (fun _ => rfl) (lsf := fun V => [some (.inr (.inr (.inl (some 345)))), some (.inl (best)), some V, some (.inl (k / 8)), some (.inl (k % 8))]) (fun _ _ => rfl) (by decide) (by decide) (by omega) (by omega) ?_
          refine ej_plain hmn (eg_at hT 2 7 rfl rfl) (pc' := 6) (ls' := [some (.inr (.inr (.inl (some 345)))), some (.inl (best)), some (.inl (k + 1)), some (.inl (k / 8)), some (.inl (k % 8))]) (st' := []) (fun _ _ => rfl) ?_
          refine ej_drop 3 rfl (ej_drop 4 rfl ?_)
          refine ih _ _ _ _ _ _ _ _ _ _ _ _ (by omega) (by omega) hS hU hC ha he b1 b2 b3 b4 ?_ (fun j j0 j1 jv => ?_)
          · exact h1
          · by_cases q : j = k
            · rw [q] at jv ⊢; unfold ez_v at jv; first | (exfalso; omega) | (left; omega)
            · exact h2 j j0 (by omega) jv
        · refine ej_plain hmn (eg_at hT 1 6 rfl rfl) (pc' := 46) (ls' := [some (.inr (.inr (.inl (some 345)))), some (.inl (best)), some (.inl (k)), some (.inl (k / 8)), some (.inl (k % 8))]) (st' := [.inr (.inr (.inl (some 345)))]) (fun _ _ => rfl) ?_
          refine ej_plain hmn (eg_at hT 1 7 rfl rfl) (pc' := 49) (ls' := [some (.inr (.inr (.inl (some 345)))), some (.inl (best)), some (.inl (k)), some (.inl (k / 8)), some (.inl (k % 8))]) (st' := [.inr (.inr (.inl (some 360)))]) (fun _ _ => rfl) ?_
          refine ej_plain hmn (eg_at hT 1 8 rfl rfl) (pc' := 50) (ls' := [some (.inr (.inr (.inl (some 345)))), some (.inl (best)), some (.inl (k)), some (.inl (k / 8)), some (.inl (k % 8))]) (st' := [.inl (k), .inr (.inr (.inl (some 360)))]) (fun _ _ => rfl) ?_
          refine ej_iaload hmn (eg_at hT 1 9 rfl rfl) (pc' := 51) (n := 64) rfl (fun _ => rfl) hM (by omega) (by omega) ?_
          refine ej_plain hmn (eg_at hT 1 10 rfl rfl) (pc' := 52) (ls' := [some (.inr (.inr (.inl (some 345)))), some (.inl (best)), some (.inl (k)), some (.inl (k / 8)), some (.inl (k % 8))]) (st' := [.inl (best), .inl (mg k)]) (fun _ _ => rfl) ?_
          refine ej_if_icmp hmn (eg_at hT 1 11 rfl rfl) (pc' := 55) rfl (fun _ => rfl) (fun (bc4 : mg k ≤ best) => ?_) (fun (bc4 : ¬ (mg k ≤ best)) => ?_)
          · refine ej_iinc hmn (eg_at hT 2 6 rfl rfl) (pc' := 79) rfl (w := 1) rfl (fun _ => rfl) (lsf := fun V => [some (.inr (.inr (.inl (some 345)))), some (.inl (best)), some V, some (.inl (k / 8)), some (.inl (k % 8))]) (fun _ _ => rfl) (by decide) (by decide) (by omega) (by omega) ?_
            refine ej_plain hmn (eg_at hT 2 7 rfl rfl) (pc' := 6) (ls' := [some (.inr (.inr (.inl (some 345)))), some (.inl (best)), some (.inl (k + 1)), some (.inl (k / 8)), some (.inl (k % 8))]) (st' := []) (fun _ _ => rfl) ?_
            refine ej_drop 3 rfl (ej_drop 4 rfl ?_)
            refine ih _ _ _ _ _ _ _ _ _ _ _ _ (by omega) (by omega) hS hU hC ha he b1 b2 b3 b4 ?_ (fun j j0 j1 jv => ?_)
            · exact h1
            · by_cases q : j = k
              · rw [q] at jv ⊢; unfold ez_v at jv; first | (exfalso; omega) | (left; omega)
              · exact h2 j j0 (by omega) jv
          · refine ej_plain hmn (eg_at hT 1 12 rfl rfl) (pc' := 56) (ls' := [some (.inr (.inr (.inl (some 345)))), some (.inl (best)), some (.inl (k)), some (.inl (k / 8)), some (.inl (k % 8))]) (st' := [.inr (.inr (.inl (some 345)))]) (fun _ _ => rfl) ?_
            refine ej_plain hmn (eg_at hT 1 13 rfl rfl) (pc' := 57) (ls' := [some (.inr (.inr (.inl (some 345)))), some (.inl (best)), some (.inl (k)), some (.inl (k / 8)), some (.inl (k % 8))]) (st' := [.inr (.inr (.inl (some 345))), .inr (.inr (.inl (some 345)))]) (fun _ _ => rfl) ?_
            refine ej_plain hmn (eg_at hT 1 14 rfl rfl) (pc' := 60) (ls' := [some (.inr (.inr (.inl (some 345)))), some (.inl (best)), some (.inl (k)), some (.inl (k / 8)), some (.inl (k % 8))]) (st' := [.inr (.inr (.inl (some 360))), .inr (.inr (.inl (some 345)))]) (fun _ _ => rfl) ?_
            refine ej_plain hmn (eg_at hT 1 15 rfl rfl) (pc' := 61) (ls' := [some (.inr (.inr (.inl (some 345)))), some (.inl (best)), some (.inl (k)), some (.inl (k / 8)), some (.inl (k % 8))]) (st' := [.inl (k), .inr (.inr (.inl (some 360))), .inr (.inr (.inl (some 345)))]) (fun _ _ => rfl) ?_
            refine ej_iaload hmn (eg_at hT 1 16 rfl rfl) (pc' := 62) (n := 64) rfl (fun _ => rfl) hM (by omega) (by omega) ?_
            refine ej_plain hmn (eg_at hT 1 17 rfl rfl) (pc' := 63) (ls' := [some (.inr (.inr (.inl (some 345)))), some (.inl (best)), some (.inl (k)), some (.inl (k / 8)), some (.inl (k % 8))]) (st' := [.inl (0), .inl (mg k), .inr (.inr (.inl (some 345)))]) (fun _ _ => rfl) ?_
            refine ej_call hmn (eg_at hT 1 18 rfl rfl) (pc' := 66) (r := []) (eq_seats hmn hB hM hS hU hC ha he (least := mg k) (ff := 0) (by omega) (by omega) (by omega) h11 hb0 hb2 (fun j j0 j1 => by omega) b1 b2 b3 b4) (by omega) (fun _ _ => rfl) (fun v hp' hP => ?_)
            obtain ⟨r1, S2, U2, C2, a2, b2_, sf2, uf2, cf2, af2, ef2, rfl, rfl, q1, q2, q3, q4, q5, q6, q7, q8, q9, q10, q11, q12⟩ := hP
            have q13 : r1 = 1 ↔ ez_F bf mg (mg k) 0 (fun _ => 0) := q12.trans (ez_F_congr (fun j j0 j1 => by omega))
            show em_G l D τ sa A own mname bytes 5 d (0, 0) (some .int) K (66, [some (.inr (.inr (.inl (some 345)))), some (.inl (best)), some (.inl (k)), some (.inl (k / 8)), some (.inl (k % 8))], [.inl (r1)], (ey_h B W Z Y N F M S2 U2 C2 a2 b2_ R), 0, 0)
            refine ej_ifCond hmn (eg_at hT 2 0 rfl rfl) (pc' := 69) rfl (fun _ => rfl) (fun (bc5 : r1 = 0) => ?_) (fun (bc5 : ¬ (r1 = 0)) => ?_)
            · refine ej_iinc hmn (eg_at hT 2 6 rfl rfl) (pc' := 79) rfl (w := 1) rfl (fun _ => rfl) (lsf := fun V => [some (.inr (.inr (.inl (some 345)))), some (.inl (best)), some V, some (.inl (k / 8)), some (.inl (k % 8))]) (fun _ _ => rfl) (by decide) (by decide) (by omega) (by omega) ?_
              refine ej_plain hmn (eg_at hT 2 7 rfl rfl) (pc' := 6) (ls' := [some (.inr (.inr (.inl (some 345)))), some (.inl (best)), some (.inl (k + 1)), some (.inl (k / 8)), some (.inl (k % 8))]) (st' := []) (fun _ _ => rfl) ?_
              refine ej_drop 3 rfl (ej_drop 4 rfl ?_)
              refine ih _ _ _ _ _ _ _ _ _ _ _ _ (by omega) (by omega) q1 q2 q3 q4 q5 q6 q7 q8 q9 ?_ (fun j j0 j1 jv => ?_)
              · exact h1
              · by_cases q : j = k
                · rw [q]; exact Or.inr (fun w => by have := q13.mpr w; omega)
                · exact h2 j j0 (by omega) jv
            · refine ej_plain hmn (eg_at hT 2 1 rfl rfl) (pc' := 70) (ls' := [some (.inr (.inr (.inl (some 345)))), some (.inl (best)), some (.inl (k)), some (.inl (k / 8)), some (.inl (k % 8))]) (st' := [.inr (.inr (.inl (some 345)))]) (fun _ _ => rfl) ?_
              refine ej_plain hmn (eg_at hT 2 2 rfl rfl) (pc' := 73) (ls' := [some (.inr (.inr (.inl (some 345)))), some (.inl (best)), some (.inl (k)), some (.inl (k / 8)), some (.inl (k % 8))]) (st' := [.inr (.inr (.inl (some 360)))]) (fun _ _ => rfl) ?_
              refine ej_plain hmn (eg_at hT 2 3 rfl rfl) (pc' := 74) (ls' := [some (.inr (.inr (.inl (some 345)))), some (.inl (best)), some (.inl (k)), some (.inl (k / 8)), some (.inl (k % 8))]) (st' := [.inl (k), .inr (.inr (.inl (some 360)))]) (fun _ _ => rfl) ?_
              refine ej_iaload hmn (eg_at hT 2 4 rfl rfl) (pc' := 75) (n := 64) rfl (fun _ => rfl) hM (by omega) (by omega) ?_
              refine ej_plain hmn (eg_at hT 2 5 rfl rfl) (pc' := 76) (ls' := [some (.inr (.inr (.inl (some 345)))), some (.inl (mg k)), some (.inl (k)), some (.inl (k / 8)), some (.inl (k % 8))]) (st' := []) (fun _ _ => rfl) ?_
              refine ej_iinc hmn (eg_at hT 2 6 rfl rfl) (pc' := 79) rfl (w := 1) rfl (fun _ => rfl) (lsf := fun V => [some (.inr (.inr (.inl (some 345)))), some (.inl (mg k)), some V, some (.inl (k / 8)), some (.inl (k % 8))]) (fun _ _ => rfl) (by decide) (by decide) (by omega) (by omega) ?_
              refine ej_plain hmn (eg_at hT 2 7 rfl rfl) (pc' := 6) (ls' := [some (.inr (.inr (.inl (some 345)))), some (.inl (mg k)), some (.inl (k + 1)), some (.inl (k / 8)), some (.inl (k % 8))]) (st' := []) (fun _ _ => rfl) ?_
              refine ej_drop 3 rfl (ej_drop 4 rfl ?_)
              refine ih _ _ _ _ _ _ _ _ _ _ _ _ (by omega) (by omega) q1 q2 q3 q4 q5 q6 q7 q8 q9 ?_ (fun j j0 j1 jv => ?_)
              · exact Or.inr (q13.mp (by omega))
              · by_cases q : j = k
                · rw [q]; exact Or.inl (Int.le_refl _)
                · rcases h2 j j0 (by omega) jv with w | w
                  · left; omega
                  · exact Or.inr w
theorem eq_bestMargin {l : Launch} {D : va_G} {τ : Nat → ClassId} {sa : List Nat} {A : Nat → Prop} (hmn : em_mna) {B W Z Y N F M S U C a b R : Nat} {bf mg sf uf cf af ef : Int → Int} (hB : ey_R 230 B bf) (hM : ey_R 64 M mg) (hS : ey_R 8 S sf) (hU : ey_R 8 U uf) (hC : ey_R 8 C cf) (ha : ey_R 8 a af) (he : ey_R 8 b ef) (h11 : bf 11 ≤ 8) (hn : 1 ≤ bf 11) (hb0 : bf 0 ≤ 8) (hb2 : 2 ≤ bf 0) (hmg : ∀ k, 0 ≤ k → k < 64 → ez_v bf k → -1000000 < mg k) (hcap : ∀ x, 0 ≤ x → x < bf 0 → 0 ≤ bf (20 + 5 * x + 2)) (hsum : bf 11 ≤ ez_s (fun x => bf (20 + 5 * x + 2)) (bf 0).toNat) (b1 : ∀ j, 0 ≤ j → j < 8 → -1 ≤ sf j ∧ sf j ≤ 7) (b2 : ∀ j, 0 ≤ j → j < 8 → -1 ≤ cf j ∧ cf j ≤ 7) (b3 : ∀ j, 0 ≤ j → j < 8 → 0 ≤ af j ∧ af j ≤ 1) (b4 : ∀ j, 0 ≤ j → j < 8 → 0 ≤ ef j ∧ ef j ≤ 1) : em_X l D τ sa A 185 [(.inr (.inr (.inl (some 345))))] (ey_h B W Z Y N F M S U C a b R) (ez_PB B W Z Y N F M R bf mg) 3 := by
  refine em_X.of (tb := eu_185) (nl := 5) (ret := some .int) rfl (q := [some (.inr (.inr (.inl (some 345)))), none, none, none, none]) (fun _ => rfl) (fun own mname bytes hT => ?_)
  refine ej_plain hmn (eg_at hT 0 0 rfl rfl) (pc' := 3) (ls' := [some (.inr (.inr (.inl (some 345)))), none, none, none, none]) (st' := [.inl (-1000000)]) (fun _ _ => rfl) ?_
  refine ej_plain hmn (eg_at hT 0 1 rfl rfl) (pc' := 4) (ls' := [some (.inr (.inr (.inl (some 345)))), some (.inl (-1000000)), none, none, none]) (st' := []) (fun _ _ => rfl) ?_
  refine ej_plain hmn (eg_at hT 0 2 rfl rfl) (pc' := 5) (ls' := [some (.inr (.inr (.inl (some 345)))), some (.inl (-1000000)), none, none, none]) (st' := [.inl (0)]) (fun _ _ => rfl) ?_
  refine ej_plain hmn (eg_at hT 0 3 rfl rfl) (pc' := 6) (ls' := [some (.inr (.inr (.inl (some 345)))), some (.inl (-1000000)), some (.inl (0)), none, none]) (st' := []) (fun _ _ => rfl) ?_
  exact eq_bm_l hmn hT (Nat.le_refl 3) hB hM h11 hn hb0 hb2 hmg hcap hsum (fun v hp' h => @decide_eq_true _ (Classical.propDecidable _) h) 65 S U C a b sf uf cf af ef (-1000000) 0 (by decide) (by decide) hS hU hC ha he b1 b2 b3 b4 (Or.inl rfl) (fun j j0 j1 => by omega)
