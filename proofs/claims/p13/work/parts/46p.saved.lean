/-! saved of the reference, by hand, by letters. Printed by wip/p3/savegen2.py. -/
theorem ey_pureN {l : Launch} {D : va_G} {τ : Nat → ClassId} {sa : List Nat} {A : Nat → Prop} {mi : Nat} {as : List ex_V} {dd : Nat} (h : em_E l D τ sa A em_inf mi (as, ep_h1, none, ep_h1, dd)) (has : as.all ey_nV = true) {as' : List ex_V} (hl : ex_leL none none as' as = true) {B W Z Y N F M S U C a b R : Nat} {bf wf zf yf nf ff_ mg sf uf cf af ef rf : Int → Int} (hok : (∀ x ∈ ey_qs, ey_R x.2.2.1 (ey_PP B W Z Y N F M S U C a b R x.1) (ey_ff bf wf zf yf nf ff_ mg sf uf cf af ef rf x.1)) ∧ (∀ x ∈ ey_qs, ∀ c, ex_at ep_h1 x.1 = some c → ey_bd x.2.2.1 c.2.2.2.1 (ey_ff bf wf zf yf nf ff_ mg sf uf cf af ef rf x.1))) : em_X l D τ sa A mi as' (ey_h B W Z Y N F M S U C a b R) (fun w hp' => w = none ∧ hp' = ey_h B W Z Y N F M S U C a b R) dd := by
  obtain ⟨y, bytes, nl, ret, i1, i2, i3⟩ := h
  refine ⟨y, bytes, nl, ret, i1, i2, fun ν ro avs ws hs => ?_⟩
  have hs' := ey_St_ok (ν' := ey_nu ν (ey_ff bf wf zf yf nf ff_ mg sf uf cf af ef rf)) ey_nu_lo has (ex_leL_st (er_Z.none (ν' := ν) (fun _ _ => rfl)) _ _ _ hl hs)
  refine em_weak2 (i3 (ey_nu ν (ey_ff bf wf zf yf nf ff_ mg sf uf cf af ef rf)) ro avs ws hs') ?_ ?_
  · rintro aa st ⟨k1, k2, k3⟩
    exact ⟨k1, k2, ey_toP (PP := ey_PP B W Z Y N F M S U C a b R) hok.1 hok.2 k3⟩
  · rintro aa st o t ⟨k1, k2, k3⟩ ⟨⟨ws', rv, j1, j2, j3, j4⟩, j5⟩
    refine ⟨⟨none, ey_h B W Z Y N F M S U C a b R, ws', rv, j1, @decide_eq_true _ (Classical.propDecidable _) ⟨rfl, rfl⟩, ?_, ey_ofP (PP := ey_PP B W Z Y N F M S U C a b R) hok.1 j3, j4⟩, j5⟩
    match rv, j2 with
    | none, j2 => exact trivial
    | some x, j2 => exact j2.elim
theorem ey_book2 {bf : Int → Int} (hBB : ∀ c, ex_at ep_h1 346 = some c → ey_bd 230 c.2.2.2.1 bf) : (0 ≤ bf 10 ∧ bf 10 ≤ 9) ∧ ∀ q, 0 ≤ q → q < 24 → 0 ≤ bf (60 + 4 * q + 1) ∧ bf (60 + 4 * q + 1) ≤ 9 := by
  have h := hBB _ rfl
  have at' : ∀ (i : Nat) (lo hi : Nat), i < 230 → ex_pg (ep_c19[10]!).2.2.2.1 i % 4294967296 = lo ∧ ex_pg (ep_c19[10]!).2.2.2.1 i / 4294967296 = hi → ∀ z : Int, z = i → (lo : Int) - 2147483648 ≤ bf z ∧ bf z ≤ (hi : Int) - 2147483648 := fun i lo hi hi' e z hz => by
    subst hz
    have g := h i hi'
    replace g : ((ex_pg (ep_c19[10]!).2.2.2.1 i % 4294967296 : Nat) : Int) ≤ bf i + 2147483648 ∧ bf i + 2147483648 ≤ ((ex_pg (ep_c19[10]!).2.2.2.1 i / 4294967296 : Nat) : Int) := g
    rw [e.1, e.2] at g
    omega
  have f10 := at' 10 2147483648 2147483657 (by decide) (by decide +kernel) 10 rfl
  refine ⟨by omega, fun q q0 q1 => ?_⟩
  obtain ⟨i, rfl⟩ : ∃ i : Nat, q = i := ⟨q.toNat, by omega⟩
  have k1 : ∀ i, i < 24 → 2147483648 ≤ ex_pg (ep_c19[10]!).2.2.2.1 (60 + 4 * i + 1) % 4294967296 ∧ ex_pg (ep_c19[10]!).2.2.2.1 (60 + 4 * i + 1) / 4294967296 ≤ 2147483657 := by decide +kernel
  have g1 := at' (60 + 4 * i + 1) _ _ (by omega) ⟨rfl, rfl⟩ (60 + 4 * (i : Int) + 1) (by omega)
  have w1 := k1 i (by omega)
  omega
def ez_h (bf : Int → Int) (q : Int) : Int := bf 10 + ez_s (fun x => bf (60 + 4 * x + 1)) q.toNat
theorem ez_h_s {bf : Int → Int} {q : Int} (h : 0 ≤ q) : ez_h bf (q + 1) = ez_h bf q + bf (60 + 4 * q + 1) := by
  unfold ez_h
  rw [show (q + 1).toNat = q.toNat + 1 by omega]
  show bf 10 + (ez_s (fun x => bf (60 + 4 * x + 1)) q.toNat + bf (60 + 4 * ((q.toNat : Nat) : Int) + 1)) = _
  rw [show ((q.toNat : Nat) : Int) = q by omega]
  omega
theorem eq_ah_l {l : Launch} {D : va_G} {τ : Nat → ClassId} {sa : List Nat} {A : Nat → Prop} (hmn : em_mna) {own mname : String} {bytes : ByteArray} (hT : ∀ ch ∈ eu_190, ∀ x ∈ ch, ek_J em_inf et_cls et_vt own mname bytes x) {d : Nat} (hd : 0 ≤ d) {K : Option ex_V → ex_H → Bool} {B W Z Y N F M S U C a b R : Nat} {bf : Int → Int} (hB : ey_R 230 B bf) (hBB : ∀ c, ex_at ep_h1 346 = some c → ey_bd 230 c.2.2.2.1 bf) (hK : ∀ {r : Int}, r = ez_h bf (bf 3) → (0 ≤ r ∧ r ≤ 225) → K (some (.inl r)) (ey_h B W Z Y N F M S U C a b R) = true) : ∀ (i : Nat) (su q : Int), bf 3 - q < i → (0 ≤ q ∧ q ≤ bf 3) → (0 ≤ su ∧ su ≤ 9 + 9 * q) → su = ez_h bf q → em_G l D τ sa A own mname bytes 3 d (0, 0) (some .int) K (10, [some (.inr (.inr (.inl (some 345)))), some (.inl (su)), some (.inl (q))], [], (ey_h B W Z Y N F M S U C a b R), 0, 0) := by
  intro i
  induction i with
  | zero => intro su q hi hq; exfalso; omega
  | succ i ih =>
    intro su q hi hq hu hs
    obtain ⟨k0, k1, k2, k3, k4, k5, k6, k7, k8, k11, kc, kq, km⟩ := ey_book hBB
    obtain ⟨u10, uq⟩ := ey_book2 hBB
    have uqq := uq q
    refine ej_plain hmn (eg_at hT 0 7 rfl rfl) (pc' := 11) (ls' := [some (.inr (.inr (.inl (some 345)))), some (.inl (su)), some (.inl (q))]) (st' := [.inl (q)]) (fun _ _ => rfl) ?_
    refine ej_plain hmn (eg_at hT 0 8 rfl rfl) (pc' := 12) (ls' := [some (.inr (.inr (.inl (some 345)))), some (.inl (su)), some (.inl (q))]) (st' := [.inr (.inr (.inl (some 345))), .inl (q)]) (fun _ _ => rfl) ?_
    refine ej_plain hmn (eg_at hT 0 9 rfl rfl) (pc' := 15) (ls' := [some (.inr (.inr (.inl (some 345)))), some (.inl (su)), some (.inl (q))]) (st' := [.inr (.inr (.inl (some 346))), .inl (q)]) (fun _ _ => rfl) ?_
    refine ej_plain hmn (eg_at hT 0 10 rfl rfl) (pc' := 16) (ls' := [some (.inr (.inr (.inl (some 345)))), some (.inl (su)), some (.inl (q))]) (st' := [.inl (3), .inr (.inr (.inl (some 346))), .inl (q)]) (fun _ _ => rfl) ?_
    refine ej_iaload hmn (eg_at hT 0 11 rfl rfl) (pc' := 17) (n := 230) rfl (fun _ => rfl) hB (by omega) (by omega) ?_
    refine ej_if_icmp hmn (eg_at hT 0 12 rfl rfl) (pc' := 20) rfl (fun _ => rfl) (fun (gc1 : bf 3 ≤ q) => ?_) (fun (gc1 : ¬ (bf 3 ≤ q)) => ?_)
    · refine ej_plain hmn (eg_at hT 1 6 rfl rfl) (pc' := 43) (ls' := [some (.inr (.inr (.inl (some 345)))), some (.inl (su)), some (.inl (q))]) (st' := [.inl (su)]) (fun _ _ => rfl) ?_
      exact ej_ireturn hmn (eg_at hT 1 7 rfl rfl) (hK (by rw [show bf 3 = q by omega]; exact hs) (by omega))
    · refine ej_plain hmn (eg_at hT 0 13 rfl rfl) (pc' := 21) (ls' := [some (.inr (.inr (.inl (some 345)))), some (.inl (su)), some (.inl (q))]) (st' := [.inl (su)]) (fun _ _ => rfl) ?_
      refine ej_plain hmn (eg_at hT 0 14 rfl rfl) (pc' := 22) (ls' := [some (.inr (.inr (.inl (some 345)))), some (.inl (su)), some (.inl (q))]) (st' := [.inr (.inr (.inl (some 345))), .inl (su)]) (fun _ _ => rfl) ?_
      refine ej_plain hmn (eg_at hT 0 15 rfl rfl) (pc' := 25) (ls' := [some (.inr (.inr (.inl (some 345)))), some (.inl (su)), some (.inl (q))]) (st' := [.inr (.inr (.inl (some 346))), .inl (su)]) (fun _ _ => rfl) ?_
      refine ej_plain hmn (eg_at hT 0 16 rfl rfl) (pc' := 27) (ls' := [some (.inr (.inr (.inl (some 345)))), some (.inl (su)), some (.inl (q))]) (st' := [.inl (60), .inr (.inr (.inl (some 346))), .inl (su)]) (fun _ _ => rfl) ?_
      refine ej_plain hmn (eg_at hT 0 17 rfl rfl) (pc' := 28) (ls' := [some (.inr (.inr (.inl (some 345)))), some (.inl (su)), some (.inl (q))]) (st' := [.inl (4), .inl (60), .inr (.inr (.inl (some 346))), .inl (su)]) (fun _ _ => rfl) ?_
      refine ej_plain hmn (eg_at hT 0 18 rfl rfl) (pc' := 29) (ls' := [some (.inr (.inr (.inl (some 345)))), some (.inl (su)), some (.inl (q))]) (st' := [.inl (q), .inl (4), .inl (60), .inr (.inr (.inl (some 346))), .inl (su)]) (fun _ _ => rfl) ?_
      refine ej_imul hmn (eg_at hT 0 19 rfl rfl) (pc' := 30) rfl (by omega) (by omega) ?_
      refine ej_iadd hmn (eg_at hT 0 20 rfl rfl) (pc' := 31) rfl (by omega) (by omega) ?_
      refine ej_plain hmn (eg_at hT 0 21 rfl rfl) (pc' := 32) (ls' := [some (.inr (.inr (.inl (some 345)))), some (.inl (su)), some (.inl (q))]) (st' := [.inl (1), .inl (60 + (4 * q)), .inr (.inr (.inl (some 346))), .inl (su)]) (fun _ _ => rfl) ?_
      refine ej_iadd hmn (eg_at hT 1 0 rfl rfl) (pc' := 33) rfl (by omega) (by omega) ?_
      refine ej_iaload hmn (eg_at hT 1 1 rfl rfl) (pc' := 34) (n := 230) rfl (fun _ => rfl) hB (by omega) (by omega) ?_
      refine ej_iadd hmn (eg_at hT 1 2 rfl rfl) (pc' := 35) rfl (by omega) (by omega) ?_
      refine ej_plain hmn (eg_at hT 1 3 rfl rfl) (pc' := 36) (ls' := [some (.inr (.inr (.inl (some 345)))), some (.inl (su + (bf ((60 + (4 * q)) + 1)))), some (.inl (q))]) (st' := []) (fun _ _ => rfl) ?_
      refine ej_iinc hmn (eg_at hT 1 4 rfl rfl) (pc' := 39) rfl (w := 1) rfl (fun _ => rfl) (lsf := fun V => [some (.inr (.inr (.inl (some 345)))), some (.inl (su + (bf ((60 + (4 * q)) + 1)))), some V]) (fun _ _ => rfl) (by decide) (by decide) (by omega) (by omega) ?_
      refine ej_plain hmn (eg_at hT 1 5 rfl rfl) (pc' := 10) (ls' := [some (.inr (.inr (.inl (some 345)))), some (.inl (su + (bf ((60 + (4 * q)) + 1)))), some (.inl (q + 1))]) (st' := []) (fun _ _ => rfl) ?_
      exact ih _ _ (by omega) (by omega) (by omega) (by rw [ez_h_s (by omega), ← hs])
theorem eq_allHelp {l : Launch} {D : va_G} {τ : Nat → ClassId} {sa : List Nat} {A : Nat → Prop} (hmn : em_mna) {B W Z Y N F M S U C a b R : Nat} {bf : Int → Int} (hB : ey_R 230 B bf) (hBB : ∀ c, ex_at ep_h1 346 = some c → ey_bd 230 c.2.2.2.1 bf) : em_X l D τ sa A 190 [(.inr (.inr (.inl (some 345))))] (ey_h B W Z Y N F M S U C a b R) (fun w hp' => ∃ r : Int, w = some (.inl r) ∧ hp' = ey_h B W Z Y N F M S U C a b R ∧ r = ez_h bf (bf 3) ∧ (0 ≤ r ∧ r ≤ 225)) 0 := by
  refine em_X.of (tb := eu_190) (nl := 3) (ret := some .int) rfl (q := [some (.inr (.inr (.inl (some 345)))), none, none]) (fun _ => rfl) (fun own mname bytes hT => ?_)
  obtain ⟨k0, k1, k2, k3, k4, k5, k6, k7, k8, k11, kc, kq, km⟩ := ey_book hBB
  obtain ⟨u10, uq⟩ := ey_book2 hBB
  refine ej_plain hmn (eg_at hT 0 0 rfl rfl) (pc' := 1) (ls' := [some (.inr (.inr (.inl (some 345)))), none, none]) (st' := [.inr (.inr (.inl (some 345)))]) (fun _ _ => rfl) ?_
  refine ej_plain hmn (eg_at hT 0 1 rfl rfl) (pc' := 4) (ls' := [some (.inr (.inr (.inl (some 345)))), none, none]) (st' := [.inr (.inr (.inl (some 346)))]) (fun _ _ => rfl) ?_
  refine ej_plain hmn (eg_at hT 0 2 rfl rfl) (pc' := 6) (ls' := [some (.inr (.inr (.inl (some 345)))), none, none]) (st' := [.inl (10), .inr (.inr (.inl (some 346)))]) (fun _ _ => rfl) ?_
  refine ej_iaload hmn (eg_at hT 0 3 rfl rfl) (pc' := 7) (n := 230) rfl (fun _ => rfl) hB (by omega) (by omega) ?_
  refine ej_plain hmn (eg_at hT 0 4 rfl rfl) (pc' := 8) (ls' := [some (.inr (.inr (.inl (some 345)))), some (.inl (bf 10)), none]) (st' := []) (fun _ _ => rfl) ?_
  refine ej_plain hmn (eg_at hT 0 5 rfl rfl) (pc' := 9) (ls' := [some (.inr (.inr (.inl (some 345)))), some (.inl (bf 10)), none]) (st' := [.inl (0)]) (fun _ _ => rfl) ?_
  refine ej_plain hmn (eg_at hT 0 6 rfl rfl) (pc' := 10) (ls' := [some (.inr (.inr (.inl (some 345)))), some (.inl (bf 10)), some (.inl (0))]) (st' := []) (fun _ _ => rfl) ?_
  exact eq_ah_l hmn hT (Nat.le_refl 0) hB hBB (fun h1 h2 => @decide_eq_true _ (Classical.propDecidable _) ⟨_, rfl, rfl, h1, h2⟩) 25 _ 0 (by omega) (by omega) (by omega) (by unfold ez_h; show bf 10 = bf 10 + 0; omega)
theorem eq_nights {l : Launch} {D : va_G} {τ : Nat → ClassId} {sa : List Nat} {A : Nat → Prop} (hmn : em_mna) {B W Z Y N F M S U C a b R : Nat} {bf wf zf yf nf ff_ mg sf uf cf af ef rf : Int → Int} (hB : ey_R 230 B bf) (hBB : ∀ c, ex_at ep_h1 346 = some c → ey_bd 230 c.2.2.2.1 bf) (hM : ey_R 64 M mg) (hS : ey_R 8 S sf) (b1 : ∀ j, 0 ≤ j → j < 8 → -1 ≤ sf j ∧ sf j ≤ 7) (hU : ey_R 8 U uf) (hC : ey_R 8 C cf) (b2 : ∀ j, 0 ≤ j → j < 8 → -1 ≤ cf j ∧ cf j ≤ 7) (ha : ey_R 8 a af) (b3 : ∀ j, 0 ≤ j → j < 8 → 0 ≤ af j ∧ af j ≤ 1) (he : ey_R 8 b ef) (b4 : ∀ j, 0 ≤ j → j < 8 → 0 ≤ ef j ∧ ef j ≤ 1) (hR : ey_R 8 R rf) (b5 : ∀ j, 0 ≤ j → j < 8 → 0 ≤ rf j ∧ rf j ≤ 7) (hW : ey_R 192 W wf) (hZ : ey_R 24 Z zf) (hY : ey_R 24 Y yf) (hN : ey_R 8 N nf) (hF : ey_R 8 F ff_) {kind n : Int} (hk : 0 ≤ kind ∧ kind ≤ 5) (hn9 : 0 ≤ n ∧ n ≤ 9) : em_X l D τ sa A 169 [(.inr (.inr (.inl (some 345)))), .inl kind, .inl n] (ey_h B W Z Y N F M S U C a b R) (ez_PN B M S U C a b R bf) 4 := by
  refine em_X.of (tb := eu_169) (nl := 3) (ret := none) rfl (q := [some (.inr (.inr (.inl (some 345)))), some (.inl (kind)), some (.inl (n))]) (fun _ => rfl) (fun own mname bytes hT => ?_)
  refine ej_plain hmn (eg_at hT 0 0 rfl rfl) (pc' := 1) (ls' := [some (.inr (.inr (.inl (some 345)))), some (.inl (kind)), some (.inl (n))]) (st' := [.inr (.inr (.inl (some 345)))]) (fun _ _ => rfl) ?_
  refine ej_plain hmn (eg_at hT 0 1 rfl rfl) (pc' := 2) (ls' := [some (.inr (.inr (.inl (some 345)))), some (.inl (kind)), some (.inl (n))]) (st' := [.inl (kind), .inr (.inr (.inl (some 345)))]) (fun _ _ => rfl) ?_
  refine ej_plain hmn (eg_at hT 0 2 rfl rfl) (pc' := 3) (ls' := [some (.inr (.inr (.inl (some 345)))), some (.inl (kind)), some (.inl (n))]) (st' := [.inl (n), .inl (kind), .inr (.inr (.inl (some 345)))]) (fun _ _ => rfl) ?_
  refine ej_call hmn (eg_at hT 0 3 rfl rfl) (pc' := 6) (r := []) (eq_passesNight hmn hB hBB hM hS b1 hU hC b2 ha b3 he b4 hR b5 hW hZ hY hN hF hk hn9) (by decide) (fun _ _ => rfl) (fun v hp' hP => ?_)
  obtain ⟨W2, Z2, Y2, N2, F2, wf2, zf2, yf2, nf2, ff2, rfl, rfl, q1, q2, q3, q4, q5, q6⟩ := hP
  show em_G l D τ sa A own mname bytes 3 4 (0, 0) none _ (6, [some (.inr (.inr (.inl (some 345)))), some (.inl (kind)), some (.inl (n))], [], (ey_h B W2 Z2 Y2 N2 F2 M S U C a b R), 0, 0)
  refine ej_plain hmn (eg_at hT 0 4 rfl rfl) (pc' := 7) (ls' := [some (.inr (.inr (.inl (some 345)))), some (.inl (kind)), some (.inl (n))]) (st' := [.inr (.inr (.inl (some 345)))]) (fun _ _ => rfl) ?_
  refine ej_plain hmn (eg_at hT 0 5 rfl rfl) (pc' := 8) (ls' := [some (.inr (.inr (.inl (some 345)))), some (.inl (kind)), some (.inl (n))]) (st' := [.inl (kind), .inr (.inr (.inl (some 345)))]) (fun _ _ => rfl) ?_
  refine ej_plain hmn (eg_at hT 0 6 rfl rfl) (pc' := 9) (ls' := [some (.inr (.inr (.inl (some 345)))), some (.inl (kind)), some (.inl (n))]) (st' := [.inr (.inr (.inl (some 345))), .inl (kind), .inr (.inr (.inl (some 345)))]) (fun _ _ => rfl) ?_
  refine ej_call hmn (eg_at hT 0 7 rfl rfl) (pc' := 12) (r := [.inl (kind), .inr (.inr (.inl (some 345)))]) (ey_pure (ep_told_k hmn) rfl (as' := [.inr (.inr (.inl (some 345)))]) (ey_lr ey_l0) (ey_mk hB hBB q1 q2 q3 q4 q5 hM hS b1 hU hC b2 ha b3 he b4 hR b5)) (show 0 + 1 ≤ 4 by decide) (fun _ _ => rfl) (fun v hp' hP => ?_)
  obtain ⟨td, rfl, rfl, tdl, tdh⟩ := hP
  replace tdl : (-2147483648 : Int) ≤ td := tdl
  replace tdh : td ≤ (2147483647 : Int) := tdh
  show em_G l D τ sa A own mname bytes 3 4 (0, 0) none _ (12, [some (.inr (.inr (.inl (some 345)))), some (.inl (kind)), some (.inl (n))], [.inl (td), .inl (kind), .inr (.inr (.inl (some 345)))], (ey_h B W2 Z2 Y2 N2 F2 M S U C a b R), 0, 0)
  refine ej_call hmn (eg_at hT 0 8 rfl rfl) (pc' := 15) (r := []) (ey_pureN (ep_judges_k hmn) rfl (as' := [.inr (.inr (.inl (some 345))), .inl (kind), .inl (td)]) (ey_lr (ey_li (show (0 : Int) ≤ kind by omega) (show kind ≤ (5 : Int) by omega) (ey_li (show (-2147483648 : Int) ≤ td by omega) (show td ≤ (2147483647 : Int) by omega) ey_l0))) (ey_mk hB hBB q1 q2 q3 q4 q5 hM hS b1 hU hC b2 ha b3 he b4 hR b5)) (show 3 + 1 ≤ 4 by decide) (fun _ _ => rfl) (fun v hp' hP => ?_)
  obtain ⟨rfl, rfl⟩ := hP
  show em_G l D τ sa A own mname bytes 3 4 (0, 0) none _ (15, [some (.inr (.inr (.inl (some 345)))), some (.inl (kind)), some (.inl (n))], [], (ey_h B W2 Z2 Y2 N2 F2 M S U C a b R), 0, 0)
  exact ej_return hmn (eg_at hT 0 9 rfl rfl) (@decide_eq_true _ (Classical.propDecidable _) ⟨W2, Z2, Y2, N2, F2, wf2, zf2, yf2, nf2, ff2, rfl, rfl, q1, q2, q3, q4, q5, q6⟩)
theorem eq_sb_l {l : Launch} {D : va_G} {τ : Nat → ClassId} {sa : List Nat} {A : Nat → Prop} (hmn : em_mna) {own mname : String} {bytes : ByteArray} (hT : ∀ ch ∈ eu_191, ∀ x ∈ ch, ek_J em_inf et_cls et_vt own mname bytes x) {d : Nat} (hd : 0 ≤ d) {K : Option ex_V → ex_H → Bool} {B W Z Y N F M S U C a b R : Nat} {bf : Int → Int} (hB : ey_R 230 B bf) (hBB : ∀ c, ex_at ep_h1 346 = some c → ey_bd 230 c.2.2.2.1 bf) {kind n : Int} (hK : ∀ {r : Int}, (0 ≤ r ∧ r ≤ 225) → K (some (.inl r)) (ey_h B W Z Y N F M S U C a b R) = true) : ∀ (i : Nat) (su q : Int), bf 3 - q < i → (0 ≤ q ∧ q ≤ bf 3) → (0 ≤ su ∧ su ≤ 9 + 9 * q) → em_G l D τ sa A own mname bytes 5 d (0, 0) (some .int) K (30, [some (.inr (.inr (.inl (some 345)))), some (.inl (kind)), some (.inl (n)), some (.inl (su)), some (.inl (q))], [], (ey_h B W Z Y N F M S U C a b R), 0, 0) := by
  intro i
  induction i with
  | zero => intro su q hi hq; exfalso; omega
  | succ i ih =>
    intro su q hi hq hu
    obtain ⟨k0, k1, k2, k3, k4, k5, k6, k7, k8, k11, kc, kq, km⟩ := ey_book hBB
    obtain ⟨u10, uq⟩ := ey_book2 hBB
    have uqq := uq q
    refine ej_plain hmn (eg_at hT 0 17 rfl rfl) (pc' := 32) (ls' := [some (.inr (.inr (.inl (some 345)))), some (.inl (kind)), some (.inl (n)), some (.inl (su)), some (.inl (q))]) (st' := [.inl (q)]) (fun _ _ => rfl) ?_
    refine ej_plain hmn (eg_at hT 1 0 rfl rfl) (pc' := 33) (ls' := [some (.inr (.inr (.inl (some 345)))), some (.inl (kind)), some (.inl (n)), some (.inl (su)), some (.inl (q))]) (st' := [.inr (.inr (.inl (some 345))), .inl (q)]) (fun _ _ => rfl) ?_
    refine ej_plain hmn (eg_at hT 1 1 rfl rfl) (pc' := 36) (ls' := [some (.inr (.inr (.inl (some 345)))), some (.inl (kind)), some (.inl (n)), some (.inl (su)), some (.inl (q))]) (st' := [.inr (.inr (.inl (some 346))), .inl (q)]) (fun _ _ => rfl) ?_
    refine ej_plain hmn (eg_at hT 1 2 rfl rfl) (pc' := 37) (ls' := [some (.inr (.inr (.inl (some 345)))), some (.inl (kind)), some (.inl (n)), some (.inl (su)), some (.inl (q))]) (st' := [.inl (3), .inr (.inr (.inl (some 346))), .inl (q)]) (fun _ _ => rfl) ?_
    refine ej_iaload hmn (eg_at hT 1 3 rfl rfl) (pc' := 38) (n := 230) rfl (fun _ => rfl) hB (by omega) (by omega) ?_
    refine ej_if_icmp hmn (eg_at hT 1 4 rfl rfl) (pc' := 41) rfl (fun _ => rfl) (fun (gc1 : bf 3 ≤ q) => ?_) (fun (gc1 : ¬ (bf 3 ≤ q)) => ?_)
    · refine ej_plain hmn (eg_at hT 2 7 rfl rfl) (pc' := 78) (ls' := [some (.inr (.inr (.inl (some 345)))), some (.inl (kind)), some (.inl (n)), some (.inl (su)), some (.inl (q))]) (st' := [.inl (su)]) (fun _ _ => rfl) ?_
      exact ej_ireturn hmn (eg_at hT 2 8 rfl rfl) (hK (by omega))
    · refine ej_plain hmn (eg_at hT 1 5 rfl rfl) (pc' := 42) (ls' := [some (.inr (.inr (.inl (some 345)))), some (.inl (kind)), some (.inl (n)), some (.inl (su)), some (.inl (q))]) (st' := [.inl (su)]) (fun _ _ => rfl) ?_
      refine ej_plain hmn (eg_at hT 1 6 rfl rfl) (pc' := 43) (ls' := [some (.inr (.inr (.inl (some 345)))), some (.inl (kind)), some (.inl (n)), some (.inl (su)), some (.inl (q))]) (st' := [.inr (.inr (.inl (some 345))), .inl (su)]) (fun _ _ => rfl) ?_
      refine ej_plain hmn (eg_at hT 1 7 rfl rfl) (pc' := 46) (ls' := [some (.inr (.inr (.inl (some 345)))), some (.inl (kind)), some (.inl (n)), some (.inl (su)), some (.inl (q))]) (st' := [.inr (.inr (.inr (.inl (-2147483648, 2147483647)))), .inl (su)]) (fun _ _ => rfl) ?_
      refine ej_some (fun gv2 gv2a gv2b => ?_)
      refine ej_plain hmn (eg_at hT 1 8 rfl rfl) (pc' := 48) (ls' := [some (.inr (.inr (.inl (some 345)))), some (.inl (kind)), some (.inl (n)), some (.inl (su)), some (.inl (q))]) (st' := [.inl (q), .inl (gv2), .inl (su)]) (fun _ _ => rfl) ?_
      refine ej_if_icmp hmn (eg_at hT 1 9 rfl rfl) (pc' := 51) rfl (fun _ => rfl) (fun (gc3 : gv2 ≤ q) => ?_) (fun (gc3 : ¬ (gv2 ≤ q)) => ?_)
      · refine ej_plain hmn (eg_at hT 2 2 rfl rfl) (pc' := 69) (ls' := [some (.inr (.inr (.inl (some 345)))), some (.inl (kind)), some (.inl (n)), some (.inl (su)), some (.inl (q))]) (st' := [.inl (0), .inl (su)]) (fun _ _ => rfl) ?_
        refine ej_iadd hmn (eg_at hT 2 3 rfl rfl) (pc' := 70) rfl (by omega) (by omega) ?_
        refine ej_plain hmn (eg_at hT 2 4 rfl rfl) (pc' := 71) (ls' := [some (.inr (.inr (.inl (some 345)))), some (.inl (kind)), some (.inl (n)), some (.inl (su + 0)), some (.inl (q))]) (st' := []) (fun _ _ => rfl) ?_
        refine ej_iinc hmn (eg_at hT 2 5 rfl rfl) (pc' := 74) rfl (w := 1) rfl (fun _ => rfl) (lsf := fun V => [some (.inr (.inr (.inl (some 345)))), some (.inl (kind)), some (.inl (n)), some (.inl (su + 0)), some V]) (fun _ _ => rfl) (by decide) (by decide) (by omega) (by omega) ?_
        refine ej_plain hmn (eg_at hT 2 6 rfl rfl) (pc' := 30) (ls' := [some (.inr (.inr (.inl (some 345)))), some (.inl (kind)), some (.inl (n)), some (.inl (su + 0)), some (.inl (q + 1))]) (st' := []) (fun _ _ => rfl) ?_
        exact ih _ _ (by omega) (by omega) (by omega)
      · refine ej_plain hmn (eg_at hT 1 10 rfl rfl) (pc' := 52) (ls' := [some (.inr (.inr (.inl (some 345)))), some (.inl (kind)), some (.inl (n)), some (.inl (su)), some (.inl (q))]) (st' := [.inr (.inr (.inl (some 345))), .inl (su)]) (fun _ _ => rfl) ?_
        refine ej_plain hmn (eg_at hT 1 11 rfl rfl) (pc' := 55) (ls' := [some (.inr (.inr (.inl (some 345)))), some (.inl (kind)), some (.inl (n)), some (.inl (su)), some (.inl (q))]) (st' := [.inr (.inr (.inl (some 346))), .inl (su)]) (fun _ _ => rfl) ?_
        refine ej_plain hmn (eg_at hT 1 12 rfl rfl) (pc' := 57) (ls' := [some (.inr (.inr (.inl (some 345)))), some (.inl (kind)), some (.inl (n)), some (.inl (su)), some (.inl (q))]) (st' := [.inl (60), .inr (.inr (.inl (some 346))), .inl (su)]) (fun _ _ => rfl) ?_
        refine ej_plain hmn (eg_at hT 1 13 rfl rfl) (pc' := 58) (ls' := [some (.inr (.inr (.inl (some 345)))), some (.inl (kind)), some (.inl (n)), some (.inl (su)), some (.inl (q))]) (st' := [.inl (4), .inl (60), .inr (.inr (.inl (some 346))), .inl (su)]) (fun _ _ => rfl) ?_
        refine ej_plain hmn (eg_at hT 1 14 rfl rfl) (pc' := 60) (ls' := [some (.inr (.inr (.inl (some 345)))), some (.inl (kind)), some (.inl (n)), some (.inl (su)), some (.inl (q))]) (st' := [.inl (q), .inl (4), .inl (60), .inr (.inr (.inl (some 346))), .inl (su)]) (fun _ _ => rfl) ?_
        refine ej_imul hmn (eg_at hT 1 15 rfl rfl) (pc' := 61) rfl (by omega) (by omega) ?_
        refine ej_iadd hmn (eg_at hT 1 16 rfl rfl) (pc' := 62) rfl (by omega) (by omega) ?_
        refine ej_plain hmn (eg_at hT 1 17 rfl rfl) (pc' := 63) (ls' := [some (.inr (.inr (.inl (some 345)))), some (.inl (kind)), some (.inl (n)), some (.inl (su)), some (.inl (q))]) (st' := [.inl (1), .inl (60 + (4 * q)), .inr (.inr (.inl (some 346))), .inl (su)]) (fun _ _ => rfl) ?_
        refine ej_iadd hmn (eg_at hT 1 18 rfl rfl) (pc' := 64) rfl (by omega) (by omega) ?_
        refine ej_iaload hmn (eg_at hT 2 0 rfl rfl) (pc' := 65) (n := 230) rfl (fun _ => rfl) hB (by omega) (by omega) ?_
        refine ej_plain hmn (eg_at hT 2 1 rfl rfl) (pc' := 69) (ls' := [some (.inr (.inr (.inl (some 345)))), some (.inl (kind)), some (.inl (n)), some (.inl (su)), some (.inl (q))]) (st' := [.inl (bf ((60 + (4 * q)) + 1)), .inl (su)]) (fun _ _ => rfl) ?_
        refine ej_iadd hmn (eg_at hT 2 3 rfl rfl) (pc' := 70) rfl (by omega) (by omega) ?_
        refine ej_plain hmn (eg_at hT 2 4 rfl rfl) (pc' := 71) (ls' := [some (.inr (.inr (.inl (some 345)))), some (.inl (kind)), some (.inl (n)), some (.inl (su + (bf ((60 + (4 * q)) + 1)))), some (.inl (q))]) (st' := []) (fun _ _ => rfl) ?_
        refine ej_iinc hmn (eg_at hT 2 5 rfl rfl) (pc' := 74) rfl (w := 1) rfl (fun _ => rfl) (lsf := fun V => [some (.inr (.inr (.inl (some 345)))), some (.inl (kind)), some (.inl (n)), some (.inl (su + (bf ((60 + (4 * q)) + 1)))), some V]) (fun _ _ => rfl) (by decide) (by decide) (by omega) (by omega) ?_
        refine ej_plain hmn (eg_at hT 2 6 rfl rfl) (pc' := 30) (ls' := [some (.inr (.inr (.inl (some 345)))), some (.inl (kind)), some (.inl (n)), some (.inl (su + (bf ((60 + (4 * q)) + 1)))), some (.inl (q + 1))]) (st' := []) (fun _ _ => rfl) ?_
        exact ih _ _ (by omega) (by omega) (by omega)
theorem eq_savedBy {l : Launch} {D : va_G} {τ : Nat → ClassId} {sa : List Nat} {A : Nat → Prop} (hmn : em_mna) {B W Z Y N F M S U C a b R : Nat} {bf wf zf yf nf ff_ mg sf uf cf af ef rf : Int → Int} (hB : ey_R 230 B bf) (hBB : ∀ c, ex_at ep_h1 346 = some c → ey_bd 230 c.2.2.2.1 bf) (hM : ey_R 64 M mg) (hS : ey_R 8 S sf) (b1 : ∀ j, 0 ≤ j → j < 8 → -1 ≤ sf j ∧ sf j ≤ 7) (hU : ey_R 8 U uf) (hC : ey_R 8 C cf) (b2 : ∀ j, 0 ≤ j → j < 8 → -1 ≤ cf j ∧ cf j ≤ 7) (ha : ey_R 8 a af) (b3 : ∀ j, 0 ≤ j → j < 8 → 0 ≤ af j ∧ af j ≤ 1) (he : ey_R 8 b ef) (b4 : ∀ j, 0 ≤ j → j < 8 → 0 ≤ ef j ∧ ef j ≤ 1) (hR : ey_R 8 R rf) (b5 : ∀ j, 0 ≤ j → j < 8 → 0 ≤ rf j ∧ rf j ≤ 7) (hW : ey_R 192 W wf) (hZ : ey_R 24 Z zf) (hY : ey_R 24 Y yf) (hN : ey_R 8 N nf) (hF : ey_R 8 F ff_) {kind n : Int} (hk : 0 ≤ kind ∧ kind ≤ 5) (hn9 : 0 ≤ n ∧ n ≤ 9) : em_X l D τ sa A 191 [(.inr (.inr (.inl (some 345)))), .inl kind, .inl n] (ey_h B W Z Y N F M S U C a b R) (fun w hp' => ∃ (r : Int) (W Z Y N F : Nat) (wf zf yf nf ff_ : Int → Int), w = some (.inl r) ∧ hp' = ey_h B W Z Y N F M S U C a b R ∧ (0 ≤ r ∧ r ≤ 225) ∧ ey_R 192 W wf ∧ ey_R 24 Z zf ∧ ey_R 24 Y yf ∧ ey_R 8 N nf ∧ ey_R 8 F ff_) 5 := by
  refine em_X.of (tb := eu_191) (nl := 5) (ret := some .int) rfl (q := [some (.inr (.inr (.inl (some 345)))), some (.inl (kind)), some (.inl (n)), none, none]) (fun _ => rfl) (fun own mname bytes hT => ?_)
  obtain ⟨k0, k1, k2, k3, k4, k5, k6, k7, k8, k11, kc, kq, km⟩ := ey_book hBB
  obtain ⟨u10, uq⟩ := ey_book2 hBB
  refine ej_plain hmn (eg_at hT 0 0 rfl rfl) (pc' := 1) (ls' := [some (.inr (.inr (.inl (some 345)))), some (.inl (kind)), some (.inl (n)), none, none]) (st' := [.inr (.inr (.inl (some 345)))]) (fun _ _ => rfl) ?_
  refine ej_plain hmn (eg_at hT 0 1 rfl rfl) (pc' := 2) (ls' := [some (.inr (.inr (.inl (some 345)))), some (.inl (kind)), some (.inl (n)), none, none]) (st' := [.inl (kind), .inr (.inr (.inl (some 345)))]) (fun _ _ => rfl) ?_
  refine ej_plain hmn (eg_at hT 0 2 rfl rfl) (pc' := 3) (ls' := [some (.inr (.inr (.inl (some 345)))), some (.inl (kind)), some (.inl (n)), none, none]) (st' := [.inl (n), .inl (kind), .inr (.inr (.inl (some 345)))]) (fun _ _ => rfl) ?_
  refine ej_call hmn (eg_at hT 0 3 rfl rfl) (pc' := 6) (r := []) (eq_nights hmn hB hBB hM hS b1 hU hC b2 ha b3 he b4 hR b5 hW hZ hY hN hF hk hn9) (by decide) (fun _ _ => rfl) (fun v hp' hP => ?_)
  obtain ⟨W2, Z2, Y2, N2, F2, wf2, zf2, yf2, nf2, ff2, rfl, rfl, q1, q2, q3, q4, q5, q6⟩ := hP
  show em_G l D τ sa A own mname bytes 5 5 (0, 0) (some .int) _ (6, [some (.inr (.inr (.inl (some 345)))), some (.inl (kind)), some (.inl (n)), none, none], [], (ey_h B W2 Z2 Y2 N2 F2 M S U C a b R), 0, 0)
  refine ej_plain hmn (eg_at hT 0 4 rfl rfl) (pc' := 7) (ls' := [some (.inr (.inr (.inl (some 345)))), some (.inl (kind)), some (.inl (n)), none, none]) (st' := [.inr (.inr (.inl (some 345)))]) (fun _ _ => rfl) ?_
  refine ej_plain hmn (eg_at hT 0 5 rfl rfl) (pc' := 10) (ls' := [some (.inr (.inr (.inl (some 345)))), some (.inl (kind)), some (.inl (n)), none, none]) (st' := [.inr (.inr (.inr (.inl (-2147483648, 2147483647))))]) (fun _ _ => rfl) ?_
  refine ej_some (fun yv1 yv1a yv1b => ?_)
  refine ej_plain hmn (eg_at hT 0 6 rfl rfl) (pc' := 12) (ls' := [some (.inr (.inr (.inl (some 345)))), some (.inl (kind)), some (.inl (n)), none, none]) (st' := [.inl (100), .inl (yv1)]) (fun _ _ => rfl) ?_
  refine ej_if_icmp hmn (eg_at hT 0 7 rfl rfl) (pc' := 15) rfl (fun _ => rfl) (fun (yc2 : yv1 ≠ 100) => ?_) (fun (yc2 : ¬ (yv1 ≠ 100)) => ?_)
  · refine ej_plain hmn (eg_at hT 0 13 rfl rfl) (pc' := 26) (ls' := [some (.inr (.inr (.inl (some 345)))), some (.inl (kind)), some (.inl (n)), none, none]) (st' := [.inl (0)]) (fun _ _ => rfl) ?_
    refine ej_plain hmn (eg_at hT 0 14 rfl rfl) (pc' := 27) (ls' := [some (.inr (.inr (.inl (some 345)))), some (.inl (kind)), some (.inl (n)), some (.inl (0)), none]) (st' := []) (fun _ _ => rfl) ?_
    refine ej_plain hmn (eg_at hT 0 15 rfl rfl) (pc' := 28) (ls' := [some (.inr (.inr (.inl (some 345)))), some (.inl (kind)), some (.inl (n)), some (.inl (0)), none]) (st' := [.inl (0)]) (fun _ _ => rfl) ?_
    refine ej_plain hmn (eg_at hT 0 16 rfl rfl) (pc' := 30) (ls' := [some (.inr (.inr (.inl (some 345)))), some (.inl (kind)), some (.inl (n)), some (.inl (0)), some (.inl (0))]) (st' := []) (fun _ _ => rfl) ?_
    exact eq_sb_l hmn hT (Nat.zero_le _) hB hBB (fun h => @decide_eq_true _ (Classical.propDecidable _) ⟨_, W2, Z2, Y2, N2, F2, wf2, zf2, yf2, nf2, ff2, rfl, rfl, h, q1, q2, q3, q4, q5⟩) 25 _ 0 (by omega) (by omega) (by omega)
  · refine ej_plain hmn (eg_at hT 0 8 rfl rfl) (pc' := 16) (ls' := [some (.inr (.inr (.inl (some 345)))), some (.inl (kind)), some (.inl (n)), none, none]) (st' := [.inr (.inr (.inl (some 345)))]) (fun _ _ => rfl) ?_
    refine ej_plain hmn (eg_at hT 0 9 rfl rfl) (pc' := 19) (ls' := [some (.inr (.inr (.inl (some 345)))), some (.inl (kind)), some (.inl (n)), none, none]) (st' := [.inr (.inr (.inl (some 346)))]) (fun _ _ => rfl) ?_
    refine ej_plain hmn (eg_at hT 0 10 rfl rfl) (pc' := 21) (ls' := [some (.inr (.inr (.inl (some 345)))), some (.inl (kind)), some (.inl (n)), none, none]) (st' := [.inl (10), .inr (.inr (.inl (some 346)))]) (fun _ _ => rfl) ?_
    refine ej_iaload hmn (eg_at hT 0 11 rfl rfl) (pc' := 22) (n := 230) rfl (fun _ => rfl) hB (by omega) (by omega) ?_
    refine ej_plain hmn (eg_at hT 0 12 rfl rfl) (pc' := 26) (ls' := [some (.inr (.inr (.inl (some 345)))), some (.inl (kind)), some (.inl (n)), none, none]) (st' := [.inl (bf 10)]) (fun _ _ => rfl) ?_
    refine ej_plain hmn (eg_at hT 0 14 rfl rfl) (pc' := 27) (ls' := [some (.inr (.inr (.inl (some 345)))), some (.inl (kind)), some (.inl (n)), some (.inl (bf 10)), none]) (st' := []) (fun _ _ => rfl) ?_
    refine ej_plain hmn (eg_at hT 0 15 rfl rfl) (pc' := 28) (ls' := [some (.inr (.inr (.inl (some 345)))), some (.inl (kind)), some (.inl (n)), some (.inl (bf 10)), none]) (st' := [.inl (0)]) (fun _ _ => rfl) ?_
    refine ej_plain hmn (eg_at hT 0 16 rfl rfl) (pc' := 30) (ls' := [some (.inr (.inr (.inl (some 345)))), some (.inl (kind)), some (.inl (n)), some (.inl (bf 10)), some (.inl (0))]) (st' := []) (fun _ _ => rfl) ?_
    exact eq_sb_l hmn hT (Nat.zero_le _) hB hBB (fun h => @decide_eq_true _ (Classical.propDecidable _) ⟨_, W2, Z2, Y2, N2, F2, wf2, zf2, yf2, nf2, ff2, rfl, rfl, h, q1, q2, q3, q4, q5⟩) 25 _ 0 (by omega) (by omega) (by omega)
