/-! Worlds by thirteen letters; calls that write nothing. Printed by wip/p3/nightlem.py. -/
def ey_PP (B W Z Y N F M S U C a b R : Nat) : Nat → Nat := fun q => if q = 346 then B else if q = 353 then W else if q = 354 then Z else if q = 355 then Y else if q = 356 then N else if q = 357 then F else if q = 360 then M else if q = 361 then S else if q = 362 then U else if q = 363 then C else if q = 364 then a else if q = 365 then b else R
def ey_ff (bf wf zf yf nf ff_ mg sf uf cf af ef rf : Int → Int) : Nat → Int → Int := fun q => if q = 346 then bf else if q = 353 then wf else if q = 354 then zf else if q = 355 then yf else if q = 356 then nf else if q = 357 then ff_ else if q = 360 then mg else if q = 361 then sf else if q = 362 then uf else if q = 363 then cf else if q = 364 then af else if q = 365 then ef else rf
theorem ey_bd_all {n P lo hi : Nat} (hP : ∀ i, i < n → ex_pg P i % 4294967296 = lo ∧ ex_pg P i / 4294967296 = hi) {f : Int → Int} (h : ∀ j : Int, 0 ≤ j → j < n → (lo : Int) ≤ f j + 2147483648 ∧ f j + 2147483648 ≤ (hi : Int)) : ey_bd n P f := by
  intro i hi'
  obtain ⟨e1, e2⟩ := hP i hi'
  rw [e1, e2]
  exact h i (by omega) (by omega)
theorem ey_mk {B W Z Y N F M S U C a b R : Nat} {bf wf zf yf nf ff_ mg sf uf cf af ef rf : Int → Int} (hB : ey_R 230 B bf) (hBB : ∀ c, ex_at ep_h1 346 = some c → ey_bd 230 c.2.2.2.1 bf) (hW : ey_R 192 W wf) (hZ : ey_R 24 Z zf) (hY : ey_R 24 Y yf) (hN : ey_R 8 N nf) (hF : ey_R 8 F ff_) (hM : ey_R 64 M mg) (hS : ey_R 8 S sf) (b1 : ∀ j, 0 ≤ j → j < 8 → -1 ≤ sf j ∧ sf j ≤ 7) (hU : ey_R 8 U uf) (hC : ey_R 8 C cf) (b2 : ∀ j, 0 ≤ j → j < 8 → -1 ≤ cf j ∧ cf j ≤ 7) (ha : ey_R 8 a af) (b3 : ∀ j, 0 ≤ j → j < 8 → 0 ≤ af j ∧ af j ≤ 1) (he : ey_R 8 b ef) (b4 : ∀ j, 0 ≤ j → j < 8 → 0 ≤ ef j ∧ ef j ≤ 1) (hR : ey_R 8 R rf) (b5 : ∀ j, 0 ≤ j → j < 8 → 0 ≤ rf j ∧ rf j ≤ 7) : (∀ x ∈ ey_qs, ey_R x.2.2.1 (ey_PP B W Z Y N F M S U C a b R x.1) (ey_ff bf wf zf yf nf ff_ mg sf uf cf af ef rf x.1)) ∧ (∀ x ∈ ey_qs, ∀ c, ex_at ep_h1 x.1 = some c → ey_bd x.2.2.1 c.2.2.2.1 (ey_ff bf wf zf yf nf ff_ mg sf uf cf af ef rf x.1)) := by
  have top : ∀ {n P : Nat} {f : Int → Int}, ey_R n P f → ∀ j : Int, 0 ≤ j → j < n → ((0 : Nat) : Int) ≤ f j + 2147483648 ∧ f j + 2147483648 ≤ ((4294967295 : Nat) : Int) := fun h j j0 j1 => by have := h.at j0 j1; omega
  constructor
  · intro x hx
    simp only [ey_qs, List.mem_cons, List.not_mem_nil, or_false] at hx
    rcases hx with rfl | rfl | rfl | rfl | rfl | rfl | rfl | rfl | rfl | rfl | rfl | rfl | rfl
    · exact hB
    · exact hW
    · exact hZ
    · exact hY
    · exact hN
    · exact hF
    · exact hM
    · exact hS
    · exact hU
    · exact hC
    · exact ha
    · exact he
    · exact hR
  · intro x hx c hc
    simp only [ey_qs, List.mem_cons, List.not_mem_nil, or_false] at hx
    rcases hx with rfl | rfl | rfl | rfl | rfl | rfl | rfl | rfl | rfl | rfl | rfl | rfl | rfl
    · exact hBB c hc
    · cases hc; exact ey_bd_all (lo := 0) (hi := 4294967295) (by decide +kernel) (top hW)
    · cases hc; exact ey_bd_all (lo := 0) (hi := 4294967295) (by decide +kernel) (top hZ)
    · cases hc; exact ey_bd_all (lo := 0) (hi := 4294967295) (by decide +kernel) (top hY)
    · cases hc; exact ey_bd_all (lo := 0) (hi := 4294967295) (by decide +kernel) (top hN)
    · cases hc; exact ey_bd_all (lo := 0) (hi := 4294967295) (by decide +kernel) (top hF)
    · cases hc; exact ey_bd_all (lo := 0) (hi := 4294967295) (by decide +kernel) (top hM)
    · cases hc; exact ey_bd_all (lo := 2147483647) (hi := 2147483655) (by decide +kernel) (fun j j0 j1 => by have := b1 j j0 j1; show _ ≤ sf j + 2147483648 ∧ sf j + 2147483648 ≤ _; omega)
    · cases hc; exact ey_bd_all (lo := 0) (hi := 4294967295) (by decide +kernel) (top hU)
    · cases hc; exact ey_bd_all (lo := 2147483647) (hi := 2147483655) (by decide +kernel) (fun j j0 j1 => by have := b2 j j0 j1; show _ ≤ cf j + 2147483648 ∧ cf j + 2147483648 ≤ _; omega)
    · cases hc; exact ey_bd_all (lo := 2147483648) (hi := 2147483649) (by decide +kernel) (fun j j0 j1 => by have := b3 j j0 j1; show _ ≤ af j + 2147483648 ∧ af j + 2147483648 ≤ _; omega)
    · cases hc; exact ey_bd_all (lo := 2147483648) (hi := 2147483649) (by decide +kernel) (fun j j0 j1 => by have := b4 j j0 j1; show _ ≤ ef j + 2147483648 ∧ ef j + 2147483648 ≤ _; omega)
    · cases hc; exact ey_bd_all (lo := 2147483648) (hi := 2147483655) (by decide +kernel) (fun j j0 j1 => by have := b5 j j0 j1; show _ ≤ rf j + 2147483648 ∧ rf j + 2147483648 ≤ _; omega)
theorem ey_l0 : ex_leL none none [] [] = true := rfl
theorem ey_lr {q : Nat} {as bs : List ex_V} (h : ex_leL none none as bs = true) : ex_leL none none (.inr (.inr (.inl (some q))) :: as) (.inr (.inr (.inl (some q))) :: bs) = true := by
  show (Nat.beq q q && ex_leL none none as bs) = true
  rw [Nat.beq_refl, h]; rfl
theorem ey_li {x lo hi : Int} {as bs : List ex_V} (h1 : lo ≤ x) (h2 : x ≤ hi) (h : ex_leL none none as bs = true) : ex_leL none none (.inl x :: as) (.inr (.inr (.inr (.inl (lo, hi)))) :: bs) = true := by
  show ((ex_le lo x && ex_le x hi) && ex_leL none none as bs) = true
  rw [(ex_le_iff lo x).mpr h1, (ex_le_iff x hi).mpr h2, h]; rfl
/-- a call that writes nothing, its answer by a letter -/
theorem ey_pure {l : Launch} {D : va_G} {τ : Nat → ClassId} {sa : List Nat} {A : Nat → Prop} {mi : Nat} {as : List ex_V} {lo hi : Int} {dd : Nat} (h : em_E l D τ sa A em_inf mi (as, ep_h1, some (.inr (.inr (.inr (.inl (lo, hi))))), ep_h1, dd)) (has : as.all ey_nV = true) {as' : List ex_V} (hl : ex_leL none none as' as = true) {B W Z Y N F M S U C a b R : Nat} {bf wf zf yf nf ff_ mg sf uf cf af ef rf : Int → Int} (hok : (∀ x ∈ ey_qs, ey_R x.2.2.1 (ey_PP B W Z Y N F M S U C a b R x.1) (ey_ff bf wf zf yf nf ff_ mg sf uf cf af ef rf x.1)) ∧ (∀ x ∈ ey_qs, ∀ c, ex_at ep_h1 x.1 = some c → ey_bd x.2.2.1 c.2.2.2.1 (ey_ff bf wf zf yf nf ff_ mg sf uf cf af ef rf x.1))) : em_X l D τ sa A mi as' (ey_h B W Z Y N F M S U C a b R) (fun w hp' => ∃ r : Int, w = some (.inl r) ∧ hp' = ey_h B W Z Y N F M S U C a b R ∧ lo ≤ r ∧ r ≤ hi) dd := by
  obtain ⟨y, bytes, nl, ret, i1, i2, i3⟩ := ey_pureP h has rfl hl hok.1 hok.2
  refine ⟨y, bytes, nl, ret, i1, i2, fun ν ro avs ws hs => em_weak (i3 ν ro avs ws hs) ?_⟩
  rintro a st o t ⟨⟨ov, hp', ws', rv, j1, j2, j3, j4, j5⟩, j6⟩
  obtain ⟨rfl, rfl⟩ := @of_decide_eq_true _ (Classical.propDecidable _) j2
  match rv, j3 with
  | some v, ⟨x, e1, e2, e3⟩ =>
    subst e1
    exact ⟨⟨some (.inl x.toInt), _, ws', some (.int x), j1, @decide_eq_true _ (Classical.propDecidable _) ⟨x.toInt, rfl, rfl, e2, e3⟩, ⟨x, rfl, rfl⟩, j4, j5⟩, j6⟩
  | none, j3 => exact j3.elim
theorem ey_mulb {a b A B : Int} (a0 : 0 ≤ a) (a1 : a ≤ A) (b0 : 0 ≤ b) (b1 : b ≤ B) : 0 ≤ a * b ∧ a * b ≤ A * B := ⟨Int.mul_nonneg a0 b0, Int.le_trans (Int.mul_le_mul_of_nonneg_right a1 b0) (Int.mul_le_mul_of_nonneg_left b1 (by omega))⟩
theorem ey_muls {x p P : Int} (p0 : 0 ≤ p) (p1 : p ≤ P) : (0 ≤ x → 0 ≤ x * p ∧ x * p ≤ P * x) ∧ (x ≤ 0 → P * x ≤ x * p ∧ x * p ≤ 0) := by
  constructor
  · intro h
    exact ⟨Int.mul_nonneg h p0, by rw [Int.mul_comm P x]; exact Int.mul_le_mul_of_nonneg_left p1 h⟩
  · intro h
    have e1 := Int.mul_nonneg (a := -x) (b := p) (by omega) p0
    have e2 := Int.mul_le_mul_of_nonneg_left p1 (show 0 ≤ -x by omega)
    rw [Int.neg_mul] at e1
    rw [Int.neg_mul, Int.neg_mul] at e2
    rw [Int.mul_comm P x]
    omega
section EN
variable {l : Launch} {D : va_G} {τ : Nat → ClassId} {sa : List Nat} {A : Nat → Prop} {own mname : String} {bytes : ByteArray} {nL d : Nat} {ret : Option FieldType} {K : Option ex_V → ex_H → Bool} {pc pc' a b : Nat} {z : Int} {ls : List (Option ex_V)} {r : List ex_V} {hp : ex_H} {x y : Int}
/-- a sum that may go round -/
theorem ej_iaddw (hmn : em_mna) (hx : ek_J em_inf et_cls et_vt own mname bytes (pc, eh_iadd, a, b, z)) (hpc : pc + 1 = pc') (h : ∀ w : Int, -2147483648 ≤ w → w ≤ 2147483647 → (-2147483648 ≤ x + y → x + y ≤ 2147483647 → w = x + y) → em_G l D τ sa A own mname bytes nL d (0, 0) ret K (pc', ls, .inl w :: r, hp, 0, 0)) : em_G l D τ sa A own mname bytes nL d (0, 0) ret K (pc, ls, .inl y :: .inl x :: r, hp, 0, 0) := by
  subst hpc
  by_cases c : -2147483648 ≤ x + y ∧ x + y ≤ 2147483647
  · exact ei_iadd hmn hx rfl c.1 c.2 (h _ c.1 c.2 (fun _ _ => rfl))
  · refine eg_step hmn _ hx ?_
    show ex_z (x + y) (fun z => if ex_fit32 z then ex_n (pc + 1) (fun pc => eg_go l D τ sa A own mname bytes nL d ret K pc ls (.inl z :: r) hp 0 0) else ex_z (Int32.ofInt x + Int32.ofInt y).toInt (fun z => ex_n (pc + 1) (fun pc => eg_go l D τ sa A own mname bytes nL d ret K pc ls (.inl z :: r) hp 0 0))) = true
    rw [ex_z_eq, if_neg (fun q => c (by have := ex_fit32_ok q; omega)), ex_z_eq, ex_n_eq]
    have := ey_i32 (Int32.ofInt x + Int32.ofInt y)
    exact eg_go_of (h _ this.1 this.2 (fun q1 q2 => absurd ⟨q1, q2⟩ c))
theorem ej_isubw (hmn : em_mna) (hx : ek_J em_inf et_cls et_vt own mname bytes (pc, eh_isub, a, b, z)) (hpc : pc + 1 = pc') (h : ∀ w : Int, -2147483648 ≤ w → w ≤ 2147483647 → (-2147483648 ≤ x - y → x - y ≤ 2147483647 → w = x - y) → em_G l D τ sa A own mname bytes nL d (0, 0) ret K (pc', ls, .inl w :: r, hp, 0, 0)) : em_G l D τ sa A own mname bytes nL d (0, 0) ret K (pc, ls, .inl y :: .inl x :: r, hp, 0, 0) := by
  subst hpc
  by_cases c : -2147483648 ≤ x - y ∧ x - y ≤ 2147483647
  · exact ei_isub hmn hx rfl c.1 c.2 (h _ c.1 c.2 (fun _ _ => rfl))
  · refine eg_step hmn _ hx ?_
    show ex_z (x - y) (fun z => if ex_fit32 z then ex_n (pc + 1) (fun pc => eg_go l D τ sa A own mname bytes nL d ret K pc ls (.inl z :: r) hp 0 0) else ex_z (Int32.ofInt x - Int32.ofInt y).toInt (fun z => ex_n (pc + 1) (fun pc => eg_go l D τ sa A own mname bytes nL d ret K pc ls (.inl z :: r) hp 0 0))) = true
    rw [ex_z_eq, if_neg (fun q => c (by have := ex_fit32_ok q; omega)), ex_z_eq, ex_n_eq]
    have := ey_i32 (Int32.ofInt x - Int32.ofInt y)
    exact eg_go_of (h _ this.1 this.2 (fun q1 q2 => absurd ⟨q1, q2⟩ c))
end EN
/-- what the book holds -/
theorem ey_book {bf : Int → Int} (hBB : ∀ c, ex_at ep_h1 346 = some c → ey_bd 230 c.2.2.2.1 bf) : (2 ≤ bf 0 ∧ bf 0 ≤ 8) ∧ (0 ≤ bf 1 ∧ bf 1 ≤ 7) ∧ (0 ≤ bf 2 ∧ bf 2 ≤ 7) ∧ (1 ≤ bf 3 ∧ bf 3 ≤ 24) ∧ (0 ≤ bf 4 ∧ bf 4 ≤ 200) ∧ (0 ≤ bf 5 ∧ bf 5 ≤ 60) ∧ (0 ≤ bf 6 ∧ bf 6 ≤ 200) ∧ (0 ≤ bf 7 ∧ bf 7 ≤ 200) ∧ (0 ≤ bf 8 ∧ bf 8 ≤ 9) ∧ (0 ≤ bf 11 ∧ bf 11 ≤ 8) ∧ (∀ c, 0 ≤ c → c < 8 → (-300 ≤ bf (20 + 5 * c) ∧ bf (20 + 5 * c) ≤ 300) ∧ (0 ≤ bf (20 + 5 * c + 2) ∧ bf (20 + 5 * c + 2) ≤ 8) ∧ (0 ≤ bf (20 + 5 * c + 3) ∧ bf (20 + 5 * c + 3) ≤ 40)) ∧ (∀ q, 0 ≤ q → q < 24 → (-400 ≤ bf (60 + 4 * q) ∧ bf (60 + 4 * q) ≤ 200)) ∧ ∀ m, 0 ≤ m → m < 8 → (0 ≤ bf (160 + 6 * m + 1) ∧ bf (160 + 6 * m + 1) ≤ 20) ∧ (-300 ≤ bf (160 + 6 * m + 2) ∧ bf (160 + 6 * m + 2) ≤ 300) ∧ (0 ≤ bf (160 + 6 * m + 4) ∧ bf (160 + 6 * m + 4) ≤ 100) := by
  have h := hBB _ rfl
  have at' : ∀ (i : Nat) (lo hi : Nat), i < 230 → ex_pg (ep_c19[10]!).2.2.2.1 i % 4294967296 = lo ∧ ex_pg (ep_c19[10]!).2.2.2.1 i / 4294967296 = hi → ∀ z : Int, z = i → (lo : Int) - 2147483648 ≤ bf z ∧ bf z ≤ (hi : Int) - 2147483648 := fun i lo hi hi' e z hz => by
    subst hz
    have g := h i hi'
    replace g : ((ex_pg (ep_c19[10]!).2.2.2.1 i % 4294967296 : Nat) : Int) ≤ bf i + 2147483648 ∧ bf i + 2147483648 ≤ ((ex_pg (ep_c19[10]!).2.2.2.1 i / 4294967296 : Nat) : Int) := g
    rw [e.1, e.2] at g
    omega
  have f0 := at' 0 2147483650 2147483656 (by decide) (by decide +kernel) 0 rfl
  have f1 := at' 1 2147483648 2147483655 (by decide) (by decide +kernel) 1 rfl
  have f2 := at' 2 2147483648 2147483655 (by decide) (by decide +kernel) 2 rfl
  have f3 := at' 3 2147483649 2147483672 (by decide) (by decide +kernel) 3 rfl
  have f4 := at' 4 2147483648 2147483848 (by decide) (by decide +kernel) 4 rfl
  have f5 := at' 5 2147483648 2147483708 (by decide) (by decide +kernel) 5 rfl
  have f6 := at' 6 2147483648 2147483848 (by decide) (by decide +kernel) 6 rfl
  have f7 := at' 7 2147483648 2147483848 (by decide) (by decide +kernel) 7 rfl
  have f8 := at' 8 2147483648 2147483657 (by decide) (by decide +kernel) 8 rfl
  have f11 := at' 11 2147483648 2147483656 (by decide) (by decide +kernel) 11 rfl
  refine ⟨by omega, by omega, by omega, by omega, by omega, by omega, by omega, by omega, by omega, by omega, fun c c0 c1 => ?_, fun q q0 q1 => ?_, fun m m0 m1 => ?_⟩
  · obtain ⟨i, rfl⟩ : ∃ i : Nat, c = i := ⟨c.toNat, by omega⟩
    have hi : i < 8 := by omega
    have k0 : ∀ i, i < 8 → 2147483348 ≤ ex_pg (ep_c19[10]!).2.2.2.1 (20 + 5 * i + 0) % 4294967296 ∧ ex_pg (ep_c19[10]!).2.2.2.1 (20 + 5 * i + 0) / 4294967296 ≤ 2147483948 := by decide +kernel
    have g0 := at' (20 + 5 * i + 0) _ _ (by omega) ⟨rfl, rfl⟩ (20 + 5 * (i : Int) + 0) (by omega)
    have w0 := k0 i hi
    have k2 : ∀ i, i < 8 → 2147483648 ≤ ex_pg (ep_c19[10]!).2.2.2.1 (20 + 5 * i + 2) % 4294967296 ∧ ex_pg (ep_c19[10]!).2.2.2.1 (20 + 5 * i + 2) / 4294967296 ≤ 2147483656 := by decide +kernel
    have g2 := at' (20 + 5 * i + 2) _ _ (by omega) ⟨rfl, rfl⟩ (20 + 5 * (i : Int) + 2) (by omega)
    have w2 := k2 i hi
    have k3 : ∀ i, i < 8 → 2147483648 ≤ ex_pg (ep_c19[10]!).2.2.2.1 (20 + 5 * i + 3) % 4294967296 ∧ ex_pg (ep_c19[10]!).2.2.2.1 (20 + 5 * i + 3) / 4294967296 ≤ 2147483688 := by decide +kernel
    have g3 := at' (20 + 5 * i + 3) _ _ (by omega) ⟨rfl, rfl⟩ (20 + 5 * (i : Int) + 3) (by omega)
    have w3 := k3 i hi
    have e0 : (20 + 5 * (i : Int) + 0) = 20 + 5 * (i : Int) := by omega
    rw [e0] at g0
    omega
  · obtain ⟨i, rfl⟩ : ∃ i : Nat, q = i := ⟨q.toNat, by omega⟩
    have hi : i < 24 := by omega
    have k0 : ∀ i, i < 24 → 2147483248 ≤ ex_pg (ep_c19[10]!).2.2.2.1 (60 + 4 * i + 0) % 4294967296 ∧ ex_pg (ep_c19[10]!).2.2.2.1 (60 + 4 * i + 0) / 4294967296 ≤ 2147483848 := by decide +kernel
    have g0 := at' (60 + 4 * i + 0) _ _ (by omega) ⟨rfl, rfl⟩ (60 + 4 * (i : Int) + 0) (by omega)
    have w0 := k0 i hi
    have e0 : (60 + 4 * (i : Int) + 0) = 60 + 4 * (i : Int) := by omega
    rw [e0] at g0
    omega
  · obtain ⟨i, rfl⟩ : ∃ i : Nat, m = i := ⟨m.toNat, by omega⟩
    have hi : i < 8 := by omega
    have k1 : ∀ i, i < 8 → 2147483648 ≤ ex_pg (ep_c19[10]!).2.2.2.1 (160 + 6 * i + 1) % 4294967296 ∧ ex_pg (ep_c19[10]!).2.2.2.1 (160 + 6 * i + 1) / 4294967296 ≤ 2147483668 := by decide +kernel
    have g1 := at' (160 + 6 * i + 1) _ _ (by omega) ⟨rfl, rfl⟩ (160 + 6 * (i : Int) + 1) (by omega)
    have w1 := k1 i hi
    have k2 : ∀ i, i < 8 → 2147483348 ≤ ex_pg (ep_c19[10]!).2.2.2.1 (160 + 6 * i + 2) % 4294967296 ∧ ex_pg (ep_c19[10]!).2.2.2.1 (160 + 6 * i + 2) / 4294967296 ≤ 2147483948 := by decide +kernel
    have g2 := at' (160 + 6 * i + 2) _ _ (by omega) ⟨rfl, rfl⟩ (160 + 6 * (i : Int) + 2) (by omega)
    have w2 := k2 i hi
    have k4 : ∀ i, i < 8 → 2147483648 ≤ ex_pg (ep_c19[10]!).2.2.2.1 (160 + 6 * i + 4) % 4294967296 ∧ ex_pg (ep_c19[10]!).2.2.2.1 (160 + 6 * i + 4) / 4294967296 ≤ 2147483748 := by decide +kernel
    have g4 := at' (160 + 6 * i + 4) _ _ (by omega) ⟨rfl, rfl⟩ (160 + 6 * (i : Int) + 4) (by omega)
    have w4 := k4 i hi
    omega
