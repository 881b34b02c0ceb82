/-! seats, by hand. Printed by wip/p3/seatgen.py. -/
theorem ez_c_s (s : Int → Int) (x : Int) {m : Int} (h : 0 ≤ m) : ez_c s x (m + 1).toNat = ez_c s x m.toNat + (if s m = x then 1 else 0) := by
  obtain ⟨n, rfl⟩ : ∃ n : Nat, m = n := ⟨m.toNat, by omega⟩
  show ez_c s x ((n + 1 : Nat) : Int).toNat = _
  rw [Int.toNat_natCast, Int.toNat_natCast]
  rfl
theorem ez_c_mono {s t : Int → Int} {x : Int} : ∀ n : Nat, (∀ j : Int, 0 ≤ j → j < n → s j = x → t j = x) → ez_c s x n ≤ ez_c t x n := by
  intro n
  induction n with
  | zero => intro _; exact Int.le_refl _
  | succ n ih =>
    intro h
    show ez_c s x n + (if s (n : Int) = x then 1 else 0) ≤ ez_c t x n + (if t (n : Int) = x then 1 else 0)
    have h1 := ih (fun j h0 h1 => h j h0 (by omega))
    by_cases e : s (n : Int) = x
    · rw [if_pos e, if_pos (h n (by omega) (by omega) e)]; omega
    · rw [if_neg e]; split <;> omega
theorem ez_F_congr {b mg : Int → Int} {least ff : Int} {S S' : Int → Int} (h : ∀ j, 0 ≤ j → j < ff → S' j = S j) : ez_F b mg least ff S' ↔ ez_F b mg least ff S := by
  constructor
  · rintro ⟨t, t1, t2, t3⟩
    exact ⟨t, t1, fun j j0 j1 => by rw [t2 j j0 j1, h j j0 j1], t3⟩
  · rintro ⟨t, t1, t2, t3⟩
    exact ⟨t, t1, fun j j0 j1 => by rw [t2 j j0 j1, h j j0 j1], t3⟩
/-- those who sit for sure: if even they can't, nobody can -/
theorem ez_F_low {b mg S U : Int → Int} {least ff : Int} (fb : ff ≤ b 11) (h2 : ∀ j, ff ≤ j → j < b 11 → S j = -1) (h3 : ∀ x, 0 ≤ x → x < 8 → U x = ez_c S x (b 11).toNat) (hb : b 0 ≤ 8) (h : ez_F b mg least ff S) : (∀ x, 0 ≤ x → x < b 0 → U x ≤ b (20 + 5 * x + 2)) ∧ ∀ j, 0 ≤ j → j < ff → least ≤ mg (8 * j + S j) := by
  obtain ⟨t, t1, t2, t3⟩ := h
  refine ⟨fun x x0 x1 => ?_, fun j j0 j1 => ?_⟩
  · rw [h3 x x0 (by omega)]
    refine Int.le_trans (ez_c_mono (t := t) _ (fun j j0 j1 hj => ?_)) (t3 x x0 x1)
    by_cases q : j < ff
    · rw [t2 j j0 q]; exact hj
    · have := h2 j (by omega) (by omega); omega
  · have := (t1 j j0 (by omega)).2.2.2
    rw [t2 j j0 j1] at this
    exact this
/-- all sit -/
theorem ez_F_of {b mg S U : Int → Int} {least ff : Int} (h : ez_I b mg S U least ff (b 11)) (hb : b 0 ≤ 8) : ez_F b mg least ff S := by
  obtain ⟨i1, i2, i3, i4, i5⟩ := h
  refine ⟨S, fun j j0 j1 => ?_, fun _ _ _ => rfl, fun x x0 x1 => by rw [← i4 x x0 (by omega)]; exact i5 x x0 x1⟩
  by_cases q : j < ff
  · have := i1 j j0 q; exact ⟨this.1, this.2.1, fun w => by omega, this.2.2⟩
  · have := i2 j (by omega) j1; exact ⟨this.1, by omega, fun _ => this.2.1, this.2.2⟩
/-- what seats leaves -/
def ez_PS (B W Z Y N F M R : Nat) (bf mg s0 : Int → Int) (least ff : Int) (v : Option ex_V) (hp' : ex_H) : Prop := ∃ (r : Int) (S U C a b : Nat) (sf uf cf af ef : Int → Int), v = some (.inl r) ∧ hp' = (ey_h B W Z Y N F M S U C a b R) ∧ ey_R 8 S sf ∧ ey_R 8 U uf ∧ ey_R 8 C cf ∧ ey_R 8 a af ∧ ey_R 8 b ef ∧ (∀ j, 0 ≤ j → j < 8 → -1 ≤ sf j ∧ sf j ≤ 7) ∧ (∀ j, 0 ≤ j → j < 8 → -1 ≤ cf j ∧ cf j ≤ 7) ∧ (∀ j, 0 ≤ j → j < 8 → 0 ≤ af j ∧ af j ≤ 1) ∧ (∀ j, 0 ≤ j → j < 8 → 0 ≤ ef j ∧ ef j ≤ 1) ∧ (∀ j, 0 ≤ j → j < ff → sf j = s0 j) ∧ (r = 0 ∨ r = 1) ∧ (r = 1 ↔ ez_F bf mg least ff s0)
theorem eq_se_E {l : Launch} {D : va_G} {τ : Nat → ClassId} {sa : List Nat} {A : Nat → Prop} (hmn : em_mna) {own mname : String} {bytes : ByteArray} (hT : ∀ ch ∈ eu_184, ∀ x ∈ ch, ek_J em_inf et_cls et_vt own mname bytes x) {d : Nat} (hd : 2 ≤ d) {K : Option ex_V → ex_H → Bool} {B W Z Y N F M R : Nat} {bf mg s0 : Int → Int} {least ff : Int} (hB : ey_R 230 B bf) (hM : ey_R 64 M mg) (f0 : 0 ≤ ff) (fb : ff ≤ bf 11) (h11 : bf 11 ≤ 8) (hb0 : bf 0 ≤ 8) (hb2 : 2 ≤ bf 0) (hs0 : ∀ j, 0 ≤ j → j < ff → 0 ≤ s0 j ∧ s0 j < 8) (hK : ∀ (v : Option ex_V) (hp' : ex_H), ez_PS B W Z Y N F M R bf mg s0 least ff v hp' → K v hp' = true) : ∀ (n S U C a b : Nat) (sf uf cf af ef : Int → Int) (rt m : Int), bf 11 - m < n → (ff ≤ m ∧ m ≤ bf 11) → ey_R 8 S sf → ey_R 8 U uf → ey_R 8 C cf → ey_R 8 a af → ey_R 8 b ef → (∀ j, 0 ≤ j → j < 8 → -1 ≤ sf j ∧ sf j ≤ 7) → (∀ j, 0 ≤ j → j < 8 → -1 ≤ cf j ∧ cf j ≤ 7) → (∀ j, 0 ≤ j → j < 8 → 0 ≤ af j ∧ af j ≤ 1) → (∀ j, 0 ≤ j → j < 8 → 0 ≤ ef j ∧ ef j ≤ 1) → (∀ j, 0 ≤ j → j < ff → sf j = s0 j) → (rt = 0 ∨ rt = 1) → (rt = 1 → ez_I bf mg sf uf least ff m) → (rt = 0 → ¬ ez_F bf mg least ff s0) → em_G l D τ sa A own mname bytes 5 d (0, 0) (some .boolean) K (176, [some (.inr (.inr (.inl (some 345)))), some (.inl (least)), some (.inl (ff)), some (.inl (rt)), some (.inl (m))], [], (ey_h B W Z Y N F M S U C a b R), 0, 0) := by
  intro n
  induction n with
  | zero => intro S U C a b sf uf cf af ef rt m hn hm; exfalso; omega
  | succ n ih =>
    intro S U C a b sf uf cf af ef rt m hn hm hS hU hC ha he b1 b2 b3 b4 hf hr h1 h0
    refine ej_plain hmn (eg_at hT 5 8 rfl rfl) (pc' := 178) (ls' := [some (.inr (.inr (.inl (some 345)))), some (.inl (least)), some (.inl (ff)), some (.inl (rt)), some (.inl (m))]) (st' := [.inl (m)]) (fun _ _ => rfl) ?_
    refine ej_plain hmn (eg_at hT 5 9 rfl rfl) (pc' := 179) (ls' := [some (.inr (.inr (.inl (some 345)))), some (.inl (least)), some (.inl (ff)), some (.inl (rt)), some (.inl (m))]) (st' := [.inr (.inr (.inl (some 345))), .inl (m)]) (fun _ _ => rfl) ?_
    refine ej_plain hmn (eg_at hT 5 10 rfl rfl) (pc' := 182) (ls' := [some (.inr (.inr (.inl (some 345)))), some (.inl (least)), some (.inl (ff)), some (.inl (rt)), some (.inl (m))]) (st' := [.inr (.inr (.inl (some 346))), .inl (m)]) (fun _ _ => rfl) ?_
    refine ej_plain hmn (eg_at hT 5 11 rfl rfl) (pc' := 184) (ls' := [some (.inr (.inr (.inl (some 345)))), some (.inl (least)), some (.inl (ff)), some (.inl (rt)), some (.inl (m))]) (st' := [.inl (11), .inr (.inr (.inl (some 346))), .inl (m)]) (fun _ _ => rfl) ?_
    refine ej_iaload hmn (eg_at hT 5 12 rfl rfl) (pc' := 185) (n := 230) rfl (fun _ => rfl) hB (by omega) (by omega) ?_
    refine ej_if_icmp hmn (eg_at hT 5 13 rfl rfl) (pc' := 188) rfl (fun _ => rfl) (fun (ec1 : bf 11 ≤ m) => ?_) (fun (ec1 : ¬ (bf 11 ≤ m)) => ?_)
    · refine ej_plain hmn (eg_at hT 6 8 rfl rfl) (pc' := 208) (ls' := [some (.inr (.inr (.inl (some 345)))), some (.inl (least)), some (.inl (ff)), some (.inl (rt)), some (.inl (m))]) (st' := [.inl (rt)]) (fun _ _ => rfl) ?_
      refine ej_zreturn hmn (eg_at hT 6 9 rfl rfl) (by omega) (by omega) (hK _ _ ⟨rt, S, U, C, a, b, sf, uf, cf, af, ef, rfl, rfl, hS, hU, hC, ha, he, b1, b2, b3, b4, hf, hr, ?_⟩)
      rcases hr with rfl | rfl
      · exact ⟨fun q => absurd q (by decide), fun q => absurd q (h0 rfl)⟩
      · refine ⟨fun _ => (ez_F_congr hf).mp (ez_F_of (U := uf) ?_ hb0), fun _ => rfl⟩
        have hI := h1 rfl
        first | (have e : m = bf 11 := by omega); rw [← e]; exact hI | (exfalso; omega)
    · refine ej_plain hmn (eg_at hT 5 14 rfl rfl) (pc' := 189) (ls' := [some (.inr (.inr (.inl (some 345)))), some (.inl (least)), some (.inl (ff)), some (.inl (rt)), some (.inl (m))]) (st' := [.inl (rt)]) (fun _ _ => rfl) ?_
      refine ej_ifCond hmn (eg_at hT 5 15 rfl rfl) (pc' := 192) rfl (fun _ => rfl) (fun (ec2 : rt = 0) => ?_) (fun (ec2 : ¬ (rt = 0)) => ?_)
      · refine ej_plain hmn (eg_at hT 6 8 rfl rfl) (pc' := 208) (ls' := [some (.inr (.inr (.inl (some 345)))), some (.inl (least)), some (.inl (ff)), some (.inl (rt)), some (.inl (m))]) (st' := [.inl (rt)]) (fun _ _ => rfl) ?_
        refine ej_zreturn hmn (eg_at hT 6 9 rfl rfl) (by omega) (by omega) (hK _ _ ⟨rt, S, U, C, a, b, sf, uf, cf, af, ef, rfl, rfl, hS, hU, hC, ha, he, b1, b2, b3, b4, hf, hr, ?_⟩)
        rcases hr with rfl | rfl
        · exact ⟨fun q => absurd q (by decide), fun q => absurd q (h0 rfl)⟩
        · refine ⟨fun _ => (ez_F_congr hf).mp (ez_F_of (U := uf) ?_ hb0), fun _ => rfl⟩
          have hI := h1 rfl
          first | (have e : m = bf 11 := by omega); rw [← e]; exact hI | (exfalso; omega)
      · refine ej_plain hmn (eg_at hT 6 0 rfl rfl) (pc' := 193) (ls' := [some (.inr (.inr (.inl (some 345)))), some (.inl (least)), some (.inl (ff)), some (.inl (rt)), some (.inl (m))]) (st' := [.inr (.inr (.inl (some 345)))]) (fun _ _ => rfl) ?_
        refine ej_plain hmn (eg_at hT 6 1 rfl rfl) (pc' := 195) (ls' := [some (.inr (.inr (.inl (some 345)))), some (.inl (least)), some (.inl (ff)), some (.inl (rt)), some (.inl (m))]) (st' := [.inl (m), .inr (.inr (.inl (some 345)))]) (fun _ _ => rfl) ?_
        refine ej_plain hmn (eg_at hT 6 2 rfl rfl) (pc' := 196) (ls' := [some (.inr (.inr (.inl (some 345)))), some (.inl (least)), some (.inl (ff)), some (.inl (rt)), some (.inl (m))]) (st' := [.inl (least), .inl (m), .inr (.inr (.inl (some 345)))]) (fun _ _ => rfl) ?_
        refine ej_plain hmn (eg_at hT 6 3 rfl rfl) (pc' := 197) (ls' := [some (.inr (.inr (.inl (some 345)))), some (.inl (least)), some (.inl (ff)), some (.inl (rt)), some (.inl (m))]) (st' := [.inl (ff), .inl (least), .inl (m), .inr (.inr (.inl (some 345)))]) (fun _ _ => rfl) ?_
        have hI := h1 (by omega)
        refine ej_call hmn (eg_at hT 6 4 rfl rfl) (pc' := 200) (r := []) (eq_places hmn hB hM hS hU hC ha he hI f0 (by omega) (by omega) h11 hb0 b1) (by omega) (fun _ _ => rfl) (fun v hp' hP => ?_)
        obtain ⟨r1, S2, U2, C2, a2, b2_, sf2, uf2, cf2, af2, ef2, rfl, rfl, q1, q2, q3, q4, q5, q6, q7, q8, q9, q10, q11⟩ := hP
        show em_G l D τ sa A own mname bytes 5 d (0, 0) (some .boolean) K (200, [some (.inr (.inr (.inl (some 345)))), some (.inl (least)), some (.inl (ff)), some (.inl (rt)), some (.inl (m))], [.inl (r1)], (ey_h B W Z Y N F M S2 U2 C2 a2 b2_ R), 0, 0)
        refine ej_plain hmn (eg_at hT 6 5 rfl rfl) (pc' := 201) (ls' := [some (.inr (.inr (.inl (some 345)))), some (.inl (least)), some (.inl (ff)), some (.inl (r1)), some (.inl (m))]) (st' := []) (fun _ _ => rfl) ?_
        refine ej_iinc hmn (eg_at hT 6 6 rfl rfl) (pc' := 204) rfl (w := 1) rfl (fun _ => rfl) (lsf := fun V => [some (.inr (.inr (.inl (some 345)))), some (.inl (least)), some (.inl (ff)), some (.inl (r1)), some V]) (fun _ _ => rfl) (by decide) (by decide) (by omega) (by omega) ?_
        refine ej_plain hmn (eg_at hT 6 7 rfl rfl) (pc' := 176) (ls' := [some (.inr (.inr (.inl (some 345)))), some (.inl (least)), some (.inl (ff)), some (.inl (r1)), some (.inl (m + 1))]) (st' := []) (fun _ _ => rfl) ?_
        have hf2 : ∀ j, 0 ≤ j → j < ff → sf2 j = s0 j := fun j j0 j1 => by rw [q10 j j0 j1, hf j j0 j1]
        refine ih _ _ _ _ _ _ _ _ _ _ _ _ (by omega) (by omega) q1 q2 q3 q4 q5 q6 q7 q8 q9 hf2 (by omega) (fun e => ?_) (fun e => ?_)
        · rcases q11 with q | q
          · exact q.2
          · omega
        · rcases q11 with q | q
          · omega
          · exact fun w => q.2 ((ez_F_congr hf).mpr w)
theorem eq_se_D {l : Launch} {D : va_G} {τ : Nat → ClassId} {sa : List Nat} {A : Nat → Prop} (hmn : em_mna) {own mname : String} {bytes : ByteArray} (hT : ∀ ch ∈ eu_184, ∀ x ∈ ch, ek_J em_inf et_cls et_vt own mname bytes x) {d : Nat} (hd : 2 ≤ d) {K : Option ex_V → ex_H → Bool} {B W Z Y N F M R : Nat} {bf mg s0 : Int → Int} {least ff : Int} (hB : ey_R 230 B bf) (hM : ey_R 64 M mg) (f0 : 0 ≤ ff) (fb : ff ≤ bf 11) (h11 : bf 11 ≤ 8) (hb0 : bf 0 ≤ 8) (hb2 : 2 ≤ bf 0) (hs0 : ∀ j, 0 ≤ j → j < ff → 0 ≤ s0 j ∧ s0 j < 8) (hK : ∀ (v : Option ex_V) (hp' : ex_H), ez_PS B W Z Y N F M R bf mg s0 least ff v hp' → K v hp' = true) {S U C a b : Nat} {sf uf cf af ef : Int → Int} (hS : ey_R 8 S sf) (hU : ey_R 8 U uf) (hC : ey_R 8 C cf) (ha : ey_R 8 a af) (he : ey_R 8 b ef) (b1 : ∀ j, 0 ≤ j → j < 8 → -1 ≤ sf j ∧ sf j ≤ 7) (b2 : ∀ j, 0 ≤ j → j < 8 → -1 ≤ cf j ∧ cf j ≤ 7) (b3 : ∀ j, 0 ≤ j → j < 8 → 0 ≤ af j ∧ af j ≤ 1) (b4 : ∀ j, 0 ≤ j → j < 8 → 0 ≤ ef j ∧ ef j ≤ 1) (hf : ∀ j, 0 ≤ j → j < ff → sf j = s0 j) (hn1 : ∀ j, ff ≤ j → j < bf 11 → sf j = -1) (hu : ∀ x, 0 ≤ x → x < 8 → uf x = ez_c sf x (bf 11).toNat) : ∀ (n : Nat) (rt m : Int), ff - m < n → (0 ≤ m ∧ m ≤ ff) → (rt = 0 ∨ rt = 1) → (rt = 1 ↔ (∀ x, 0 ≤ x → x < bf 0 → uf x ≤ bf (20 + 5 * x + 2)) ∧ ∀ j, 0 ≤ j → j < m → least ≤ mg (8 * j + sf j)) → em_G l D τ sa A own mname bytes 5 d (0, 0) (some .boolean) K (129, [some (.inr (.inr (.inl (some 345)))), some (.inl (least)), some (.inl (ff)), some (.inl (rt)), some (.inl (m))], [], (ey_h B W Z Y N F M S U C a b R), 0, 0) := by
  intro n
  induction n with
  | zero => intro rt m hn hm; exfalso; omega
  | succ n ih =>
    intro rt m hn hm hr hq
    have hsm : m < ff → 0 ≤ sf m ∧ sf m < 8 := fun q => by rw [hf m hm.1 q]; exact hs0 m hm.1 q
    refine ej_plain hmn (eg_at hT 4 0 rfl rfl) (pc' := 131) (ls' := [some (.inr (.inr (.inl (some 345)))), some (.inl (least)), some (.inl (ff)), some (.inl (rt)), some (.inl (m))]) (st' := [.inl (m)]) (fun _ _ => rfl) ?_
    refine ej_plain hmn (eg_at hT 4 1 rfl rfl) (pc' := 132) (ls' := [some (.inr (.inr (.inl (some 345)))), some (.inl (least)), some (.inl (ff)), some (.inl (rt)), some (.inl (m))]) (st' := [.inl (ff), .inl (m)]) (fun _ _ => rfl) ?_
    refine ej_if_icmp hmn (eg_at hT 4 2 rfl rfl) (pc' := 135) rfl (fun _ => rfl) (fun (dc1 : ff ≤ m) => ?_) (fun (dc1 : ¬ (ff ≤ m)) => ?_)
    · refine ej_plain hmn (eg_at hT 5 6 rfl rfl) (pc' := 174) (ls' := [some (.inr (.inr (.inl (some 345)))), some (.inl (least)), some (.inl (ff)), some (.inl (rt)), some (.inl (m))]) (st' := [.inl (ff)]) (fun _ _ => rfl) ?_
      refine ej_plain hmn (eg_at hT 5 7 rfl rfl) (pc' := 176) (ls' := [some (.inr (.inr (.inl (some 345)))), some (.inl (least)), some (.inl (ff)), some (.inl (rt)), some (.inl (ff))]) (st' := []) (fun _ _ => rfl) ?_
      have hs' : ∀ j, 0 ≤ j → j < ff → 0 ≤ sf j ∧ sf j < 8 := fun j j0 j1 => by rw [hf j j0 j1]; exact hs0 j j0 j1
      refine eq_se_E hmn hT hd hB hM f0 fb h11 hb0 hb2 hs0 hK ((bf 11).toNat + 1) S U C a b sf uf cf af ef rt ff (by omega) (by omega) hS hU hC ha he b1 b2 b3 b4 hf hr (fun e => ?_) (fun e w => ?_)
      · obtain ⟨k1, k2⟩ := hq.mp e
        exact ⟨fun j j0 j1 => ⟨(hs' j j0 j1).1, (hs' j j0 j1).2, k2 j j0 (by omega)⟩, fun j j0 j1 => by omega, hn1, hu, k1⟩
      · have := ez_F_low fb hn1 hu hb0 ((ez_F_congr hf).mpr w)
        have := hq.mpr ⟨this.1, fun j j0 j1 => this.2 j j0 (by omega)⟩
        omega
    · refine ej_plain hmn (eg_at hT 4 3 rfl rfl) (pc' := 136) (ls' := [some (.inr (.inr (.inl (some 345)))), some (.inl (least)), some (.inl (ff)), some (.inl (rt)), some (.inl (m))]) (st' := [.inl (rt)]) (fun _ _ => rfl) ?_
      refine ej_ifCond hmn (eg_at hT 4 4 rfl rfl) (pc' := 139) rfl (fun _ => rfl) (fun (dc2 : rt = 0) => ?_) (fun (dc2 : ¬ (rt = 0)) => ?_)
      · refine ej_plain hmn (eg_at hT 5 2 rfl rfl) (pc' := 166) (ls' := [some (.inr (.inr (.inl (some 345)))), some (.inl (least)), some (.inl (ff)), some (.inl (rt)), some (.inl (m))]) (st' := [.inl (0)]) (fun _ _ => rfl) ?_
        refine ej_plain hmn (eg_at hT 5 3 rfl rfl) (pc' := 167) (ls' := [some (.inr (.inr (.inl (some 345)))), some (.inl (least)), some (.inl (ff)), some (.inl (0)), some (.inl (m))]) (st' := []) (fun _ _ => rfl) ?_
        refine ej_iinc hmn (eg_at hT 5 4 rfl rfl) (pc' := 170) rfl (w := 1) rfl (fun _ => rfl) (lsf := fun V => [some (.inr (.inr (.inl (some 345)))), some (.inl (least)), some (.inl (ff)), some (.inl (0)), some V]) (fun _ _ => rfl) (by decide) (by decide) (by omega) (by omega) ?_
        refine ej_plain hmn (eg_at hT 5 5 rfl rfl) (pc' := 129) (ls' := [some (.inr (.inr (.inl (some 345)))), some (.inl (least)), some (.inl (ff)), some (.inl (0)), some (.inl (m + 1))]) (st' := []) (fun _ _ => rfl) ?_
        refine ih _ _ (by omega) (by omega) (by omega) ⟨fun e => ?_, fun e => ?_⟩
        · exact absurd e (by decide)
        · have k := e.2 m (by omega) (by omega)
          have := hq.mpr ⟨e.1, fun j j0 j1 => e.2 j j0 (by omega)⟩
          omega
      · refine ej_plain hmn (eg_at hT 4 5 rfl rfl) (pc' := 140) (ls' := [some (.inr (.inr (.inl (some 345)))), some (.inl (least)), some (.inl (ff)), some (.inl (rt)), some (.inl (m))]) (st' := [.inr (.inr (.inl (some 345)))]) (fun _ _ => rfl) ?_
        refine ej_plain hmn (eg_at hT 4 6 rfl rfl) (pc' := 143) (ls' := [some (.inr (.inr (.inl (some 345)))), some (.inl (least)), some (.inl (ff)), some (.inl (rt)), some (.inl (m))]) (st' := [.inr (.inr (.inl (some 360)))]) (fun _ _ => rfl) ?_
        refine ej_plain hmn (eg_at hT 4 7 rfl rfl) (pc' := 145) (ls' := [some (.inr (.inr (.inl (some 345)))), some (.inl (least)), some (.inl (ff)), some (.inl (rt)), some (.inl (m))]) (st' := [.inl (8), .inr (.inr (.inl (some 360)))]) (fun _ _ => rfl) ?_
        refine ej_plain hmn (eg_at hT 4 8 rfl rfl) (pc' := 147) (ls' := [some (.inr (.inr (.inl (some 345)))), some (.inl (least)), some (.inl (ff)), some (.inl (rt)), some (.inl (m))]) (st' := [.inl (m), .inl (8), .inr (.inr (.inl (some 360)))]) (fun _ _ => rfl) ?_
        refine ej_imul hmn (eg_at hT 4 9 rfl rfl) (pc' := 148) rfl (by omega) (by omega) ?_
        refine ej_plain hmn (eg_at hT 4 10 rfl rfl) (pc' := 149) (ls' := [some (.inr (.inr (.inl (some 345)))), some (.inl (least)), some (.inl (ff)), some (.inl (rt)), some (.inl (m))]) (st' := [.inr (.inr (.inl (some 345))), .inl (8 * m), .inr (.inr (.inl (some 360)))]) (fun _ _ => rfl) ?_
        refine ej_plain hmn (eg_at hT 4 11 rfl rfl) (pc' := 152) (ls' := [some (.inr (.inr (.inl (some 345)))), some (.inl (least)), some (.inl (ff)), some (.inl (rt)), some (.inl (m))]) (st' := [.inr (.inr (.inl (some 361))), .inl (8 * m), .inr (.inr (.inl (some 360)))]) (fun _ _ => rfl) ?_
        refine ej_plain hmn (eg_at hT 4 12 rfl rfl) (pc' := 154) (ls' := [some (.inr (.inr (.inl (some 345)))), some (.inl (least)), some (.inl (ff)), some (.inl (rt)), some (.inl (m))]) (st' := [.inl (m), .inr (.inr (.inl (some 361))), .inl (8 * m), .inr (.inr (.inl (some 360)))]) (fun _ _ => rfl) ?_
        refine ej_iaload hmn (eg_at hT 4 13 rfl rfl) (pc' := 155) (n := 8) rfl (fun _ => rfl) hS (by omega) (by omega) ?_
        refine ej_iadd hmn (eg_at hT 4 14 rfl rfl) (pc' := 156) rfl (by omega) (by omega) ?_
        refine ej_iaload hmn (eg_at hT 4 15 rfl rfl) (pc' := 157) (n := 64) rfl (fun _ => rfl) hM (by omega) (by omega) ?_
        refine ej_plain hmn (eg_at hT 4 16 rfl rfl) (pc' := 158) (ls' := [some (.inr (.inr (.inl (some 345)))), some (.inl (least)), some (.inl (ff)), some (.inl (rt)), some (.inl (m))]) (st' := [.inl (least), .inl (mg ((8 * m) + (sf m)))]) (fun _ _ => rfl) ?_
        refine ej_if_icmp hmn (eg_at hT 4 17 rfl rfl) (pc' := 161) rfl (fun _ => rfl) (fun (dc3 : mg ((8 * m) + (sf m)) < least) => ?_) (fun (dc3 : ¬ (mg ((8 * m) + (sf m)) < least)) => ?_)
        · refine ej_plain hmn (eg_at hT 5 2 rfl rfl) (pc' := 166) (ls' := [some (.inr (.inr (.inl (some 345)))), some (.inl (least)), some (.inl (ff)), some (.inl (rt)), some (.inl (m))]) (st' := [.inl (0)]) (fun _ _ => rfl) ?_
          refine ej_plain hmn (eg_at hT 5 3 rfl rfl) (pc' := 167) (ls' := [some (.inr (.inr (.inl (some 345)))), some (.inl (least)), some (.inl (ff)), some (.inl (0)), some (.inl (m))]) (st' := []) (fun _ _ => rfl) ?_
          refine ej_iinc hmn (eg_at hT 5 4 rfl rfl) (pc' := 170) rfl (w := 1) rfl (fun _ => rfl) (lsf := fun V => [some (.inr (.inr (.inl (some 345)))), some (.inl (least)), some (.inl (ff)), some (.inl (0)), some V]) (fun _ _ => rfl) (by decide) (by decide) (by omega) (by omega) ?_
          refine ej_plain hmn (eg_at hT 5 5 rfl rfl) (pc' := 129) (ls' := [some (.inr (.inr (.inl (some 345)))), some (.inl (least)), some (.inl (ff)), some (.inl (0)), some (.inl (m + 1))]) (st' := []) (fun _ _ => rfl) ?_
          refine ih _ _ (by omega) (by omega) (by omega) ⟨fun e => ?_, fun e => ?_⟩
          · exact absurd e (by decide)
          · have k := e.2 m (by omega) (by omega)
            have := hq.mpr ⟨e.1, fun j j0 j1 => e.2 j j0 (by omega)⟩
            omega
        · refine ej_plain hmn (eg_at hT 5 0 rfl rfl) (pc' := 162) (ls' := [some (.inr (.inr (.inl (some 345)))), some (.inl (least)), some (.inl (ff)), some (.inl (rt)), some (.inl (m))]) (st' := [.inl (1)]) (fun _ _ => rfl) ?_
          refine ej_plain hmn (eg_at hT 5 1 rfl rfl) (pc' := 166) (ls' := [some (.inr (.inr (.inl (some 345)))), some (.inl (least)), some (.inl (ff)), some (.inl (rt)), some (.inl (m))]) (st' := [.inl (1)]) (fun _ _ => rfl) ?_
          refine ej_plain hmn (eg_at hT 5 3 rfl rfl) (pc' := 167) (ls' := [some (.inr (.inr (.inl (some 345)))), some (.inl (least)), some (.inl (ff)), some (.inl (1)), some (.inl (m))]) (st' := []) (fun _ _ => rfl) ?_
          refine ej_iinc hmn (eg_at hT 5 4 rfl rfl) (pc' := 170) rfl (w := 1) rfl (fun _ => rfl) (lsf := fun V => [some (.inr (.inr (.inl (some 345)))), some (.inl (least)), some (.inl (ff)), some (.inl (1)), some V]) (fun _ _ => rfl) (by decide) (by decide) (by omega) (by omega) ?_
          refine ej_plain hmn (eg_at hT 5 5 rfl rfl) (pc' := 129) (ls' := [some (.inr (.inr (.inl (some 345)))), some (.inl (least)), some (.inl (ff)), some (.inl (1)), some (.inl (m + 1))]) (st' := []) (fun _ _ => rfl) ?_
          refine ih _ _ (by omega) (by omega) (by omega) ⟨fun e => ?_, fun e => ?_⟩
          · obtain ⟨k1, k2⟩ := hq.mp (by omega)
            refine ⟨k1, fun j j0 j1 => ?_⟩
            by_cases q : j = m
            · rw [q]; omega
            · exact k2 j j0 (by omega)
          · have k := e.2 m (by omega) (by omega)
            have := hq.mpr ⟨e.1, fun j j0 j1 => e.2 j j0 (by omega)⟩
            omega
theorem eq_se_C {l : Launch} {D : va_G} {τ : Nat → ClassId} {sa : List Nat} {A : Nat → Prop} (hmn : em_mna) {own mname : String} {bytes : ByteArray} (hT : ∀ ch ∈ eu_184, ∀ x ∈ ch, ek_J em_inf et_cls et_vt own mname bytes x) {d : Nat} (hd : 2 ≤ d) {K : Option ex_V → ex_H → Bool} {B W Z Y N F M R : Nat} {bf mg s0 : Int → Int} {least ff : Int} (hB : ey_R 230 B bf) (hM : ey_R 64 M mg) (f0 : 0 ≤ ff) (fb : ff ≤ bf 11) (h11 : bf 11 ≤ 8) (hb0 : bf 0 ≤ 8) (hb2 : 2 ≤ bf 0) (hs0 : ∀ j, 0 ≤ j → j < ff → 0 ≤ s0 j ∧ s0 j < 8) (hK : ∀ (v : Option ex_V) (hp' : ex_H), ez_PS B W Z Y N F M R bf mg s0 least ff v hp' → K v hp' = true) {S U C a b : Nat} {sf uf cf af ef : Int → Int} (hS : ey_R 8 S sf) (hU : ey_R 8 U uf) (hC : ey_R 8 C cf) (ha : ey_R 8 a af) (he : ey_R 8 b ef) (b1 : ∀ j, 0 ≤ j → j < 8 → -1 ≤ sf j ∧ sf j ≤ 7) (b2 : ∀ j, 0 ≤ j → j < 8 → -1 ≤ cf j ∧ cf j ≤ 7) (b3 : ∀ j, 0 ≤ j → j < 8 → 0 ≤ af j ∧ af j ≤ 1) (b4 : ∀ j, 0 ≤ j → j < 8 → 0 ≤ ef j ∧ ef j ≤ 1) (hf : ∀ j, 0 ≤ j → j < ff → sf j = s0 j) (hn1 : ∀ j, ff ≤ j → j < bf 11 → sf j = -1) (hu : ∀ x, 0 ≤ x → x < 8 → uf x = ez_c sf x (bf 11).toNat) : ∀ (n : Nat) (rt c : Int), bf 0 - c < n → (0 ≤ c ∧ c ≤ bf 0) → (rt = 0 ∨ rt = 1) → (rt = 1 ↔ ∀ x, 0 ≤ x → x < c → uf x ≤ bf (20 + 5 * x + 2)) → em_G l D τ sa A own mname bytes 5 d (0, 0) (some .boolean) K (75, [some (.inr (.inr (.inl (some 345)))), some (.inl (least)), some (.inl (ff)), some (.inl (rt)), some (.inl (c))], [], (ey_h B W Z Y N F M S U C a b R), 0, 0) := by
  intro n
  induction n with
  | zero => intro rt c hn hc; exfalso; omega
  | succ n ih =>
    intro rt c hn hc hr hq
    refine ej_plain hmn (eg_at hT 2 6 rfl rfl) (pc' := 77) (ls' := [some (.inr (.inr (.inl (some 345)))), some (.inl (least)), some (.inl (ff)), some (.inl (rt)), some (.inl (c))]) (st' := [.inl (c)]) (fun _ _ => rfl) ?_
    refine ej_plain hmn (eg_at hT 2 7 rfl rfl) (pc' := 78) (ls' := [some (.inr (.inr (.inl (some 345)))), some (.inl (least)), some (.inl (ff)), some (.inl (rt)), some (.inl (c))]) (st' := [.inr (.inr (.inl (some 345))), .inl (c)]) (fun _ _ => rfl) ?_
    refine ej_plain hmn (eg_at hT 2 8 rfl rfl) (pc' := 81) (ls' := [some (.inr (.inr (.inl (some 345)))), some (.inl (least)), some (.inl (ff)), some (.inl (rt)), some (.inl (c))]) (st' := [.inr (.inr (.inl (some 346))), .inl (c)]) (fun _ _ => rfl) ?_
    refine ej_plain hmn (eg_at hT 2 9 rfl rfl) (pc' := 82) (ls' := [some (.inr (.inr (.inl (some 345)))), some (.inl (least)), some (.inl (ff)), some (.inl (rt)), some (.inl (c))]) (st' := [.inl (0), .inr (.inr (.inl (some 346))), .inl (c)]) (fun _ _ => rfl) ?_
    refine ej_iaload hmn (eg_at hT 2 10 rfl rfl) (pc' := 83) (n := 230) rfl (fun _ => rfl) hB (by omega) (by omega) ?_
    refine ej_if_icmp hmn (eg_at hT 2 11 rfl rfl) (pc' := 86) rfl (fun _ => rfl) (fun (cc1 : bf 0 ≤ c) => ?_) (fun (cc1 : ¬ (bf 0 ≤ c)) => ?_)
    · refine ej_plain hmn (eg_at hT 3 18 rfl rfl) (pc' := 127) (ls' := [some (.inr (.inr (.inl (some 345)))), some (.inl (least)), some (.inl (ff)), some (.inl (rt)), some (.inl (c))]) (st' := [.inl (0)]) (fun _ _ => rfl) ?_
      refine ej_plain hmn (eg_at hT 3 19 rfl rfl) (pc' := 129) (ls' := [some (.inr (.inr (.inl (some 345)))), some (.inl (least)), some (.inl (ff)), some (.inl (rt)), some (.inl (0))]) (st' := []) (fun _ _ => rfl) ?_
      exact eq_se_D hmn hT hd hB hM f0 fb h11 hb0 hb2 hs0 hK hS hU hC ha he b1 b2 b3 b4 hf hn1 hu (ff.toNat + 1) rt 0 (by omega) (by omega) hr ⟨fun e => ⟨fun x x0 x1 => (hq.mp e) x x0 (by omega), fun j j0 j1 => by omega⟩, fun e => hq.mpr (fun x x0 x1 => e.1 x x0 (by omega))⟩
    · refine ej_plain hmn (eg_at hT 2 12 rfl rfl) (pc' := 87) (ls' := [some (.inr (.inr (.inl (some 345)))), some (.inl (least)), some (.inl (ff)), some (.inl (rt)), some (.inl (c))]) (st' := [.inl (rt)]) (fun _ _ => rfl) ?_
      refine ej_ifCond hmn (eg_at hT 2 13 rfl rfl) (pc' := 90) rfl (fun _ => rfl) (fun (cc2 : rt = 0) => ?_) (fun (cc2 : ¬ (rt = 0)) => ?_)
      · refine ej_plain hmn (eg_at hT 3 14 rfl rfl) (pc' := 119) (ls' := [some (.inr (.inr (.inl (some 345)))), some (.inl (least)), some (.inl (ff)), some (.inl (rt)), some (.inl (c))]) (st' := [.inl (0)]) (fun _ _ => rfl) ?_
        refine ej_plain hmn (eg_at hT 3 15 rfl rfl) (pc' := 120) (ls' := [some (.inr (.inr (.inl (some 345)))), some (.inl (least)), some (.inl (ff)), some (.inl (0)), some (.inl (c))]) (st' := []) (fun _ _ => rfl) ?_
        refine ej_iinc hmn (eg_at hT 3 16 rfl rfl) (pc' := 123) rfl (w := 1) rfl (fun _ => rfl) (lsf := fun V => [some (.inr (.inr (.inl (some 345)))), some (.inl (least)), some (.inl (ff)), some (.inl (0)), some V]) (fun _ _ => rfl) (by decide) (by decide) (by omega) (by omega) ?_
        refine ej_plain hmn (eg_at hT 3 17 rfl rfl) (pc' := 75) (ls' := [some (.inr (.inr (.inl (some 345)))), some (.inl (least)), some (.inl (ff)), some (.inl (0)), some (.inl (c + 1))]) (st' := []) (fun _ _ => rfl) ?_
        refine ih _ _ (by omega) (by omega) (by omega) ⟨fun e => ?_, fun e => ?_⟩
        · exact absurd e (by decide)
        · have k := e c (by omega) (by omega)
          have := hq.mpr (fun j j0 j1 => e j j0 (by omega))
          omega
      · refine ej_plain hmn (eg_at hT 2 14 rfl rfl) (pc' := 91) (ls' := [some (.inr (.inr (.inl (some 345)))), some (.inl (least)), some (.inl (ff)), some (.inl (rt)), some (.inl (c))]) (st' := [.inr (.inr (.inl (some 345)))]) (fun _ _ => rfl) ?_
        refine ej_plain hmn (eg_at hT 2 15 rfl rfl) (pc' := 94) (ls' := [some (.inr (.inr (.inl (some 345)))), some (.inl (least)), some (.inl (ff)), some (.inl (rt)), some (.inl (c))]) (st' := [.inr (.inr (.inl (some 362)))]) (fun _ _ => rfl) ?_
        refine ej_plain hmn (eg_at hT 2 16 rfl rfl) (pc' := 96) (ls' := [some (.inr (.inr (.inl (some 345)))), some (.inl (least)), some (.inl (ff)), some (.inl (rt)), some (.inl (c))]) (st' := [.inl (c), .inr (.inr (.inl (some 362)))]) (fun _ _ => rfl) ?_
        refine ej_iaload hmn (eg_at hT 3 0 rfl rfl) (pc' := 97) (n := 8) rfl (fun _ => rfl) hU (by omega) (by omega) ?_
        refine ej_plain hmn (eg_at hT 3 1 rfl rfl) (pc' := 98) (ls' := [some (.inr (.inr (.inl (some 345)))), some (.inl (least)), some (.inl (ff)), some (.inl (rt)), some (.inl (c))]) (st' := [.inr (.inr (.inl (some 345))), .inl (uf c)]) (fun _ _ => rfl) ?_
        refine ej_plain hmn (eg_at hT 3 2 rfl rfl) (pc' := 101) (ls' := [some (.inr (.inr (.inl (some 345)))), some (.inl (least)), some (.inl (ff)), some (.inl (rt)), some (.inl (c))]) (st' := [.inr (.inr (.inl (some 346))), .inl (uf c)]) (fun _ _ => rfl) ?_
        refine ej_plain hmn (eg_at hT 3 3 rfl rfl) (pc' := 103) (ls' := [some (.inr (.inr (.inl (some 345)))), some (.inl (least)), some (.inl (ff)), some (.inl (rt)), some (.inl (c))]) (st' := [.inl (20), .inr (.inr (.inl (some 346))), .inl (uf c)]) (fun _ _ => rfl) ?_
        refine ej_plain hmn (eg_at hT 3 4 rfl rfl) (pc' := 104) (ls' := [some (.inr (.inr (.inl (some 345)))), some (.inl (least)), some (.inl (ff)), some (.inl (rt)), some (.inl (c))]) (st' := [.inl (5), .inl (20), .inr (.inr (.inl (some 346))), .inl (uf c)]) (fun _ _ => rfl) ?_
        refine ej_plain hmn (eg_at hT 3 5 rfl rfl) (pc' := 106) (ls' := [some (.inr (.inr (.inl (some 345)))), some (.inl (least)), some (.inl (ff)), some (.inl (rt)), some (.inl (c))]) (st' := [.inl (c), .inl (5), .inl (20), .inr (.inr (.inl (some 346))), .inl (uf c)]) (fun _ _ => rfl) ?_
        refine ej_imul hmn (eg_at hT 3 6 rfl rfl) (pc' := 107) rfl (by omega) (by omega) ?_
        refine ej_iadd hmn (eg_at hT 3 7 rfl rfl) (pc' := 108) rfl (by omega) (by omega) ?_
        refine ej_plain hmn (eg_at hT 3 8 rfl rfl) (pc' := 109) (ls' := [some (.inr (.inr (.inl (some 345)))), some (.inl (least)), some (.inl (ff)), some (.inl (rt)), some (.inl (c))]) (st' := [.inl (2), .inl (20 + (5 * c)), .inr (.inr (.inl (some 346))), .inl (uf c)]) (fun _ _ => rfl) ?_
        refine ej_iadd hmn (eg_at hT 3 9 rfl rfl) (pc' := 110) rfl (by omega) (by omega) ?_
        refine ej_iaload hmn (eg_at hT 3 10 rfl rfl) (pc' := 111) (n := 230) rfl (fun _ => rfl) hB (by omega) (by omega) ?_
        refine ej_if_icmp hmn (eg_at hT 3 11 rfl rfl) (pc' := 114) rfl (fun _ => rfl) (fun (cc3 : bf ((20 + (5 * c)) + 2) < uf c) => ?_) (fun (cc3 : ¬ (bf ((20 + (5 * c)) + 2) < uf c)) => ?_)
        · refine ej_plain hmn (eg_at hT 3 14 rfl rfl) (pc' := 119) (ls' := [some (.inr (.inr (.inl (some 345)))), some (.inl (least)), some (.inl (ff)), some (.inl (rt)), some (.inl (c))]) (st' := [.inl (0)]) (fun _ _ => rfl) ?_
          refine ej_plain hmn (eg_at hT 3 15 rfl rfl) (pc' := 120) (ls' := [some (.inr (.inr (.inl (some 345)))), some (.inl (least)), some (.inl (ff)), some (.inl (0)), some (.inl (c))]) (st' := []) (fun _ _ => rfl) ?_
          refine ej_iinc hmn (eg_at hT 3 16 rfl rfl) (pc' := 123) rfl (w := 1) rfl (fun _ => rfl) (lsf := fun V => [some (.inr (.inr (.inl (some 345)))), some (.inl (least)), some (.inl (ff)), some (.inl (0)), some V]) (fun _ _ => rfl) (by decide) (by decide) (by omega) (by omega) ?_
          refine ej_plain hmn (eg_at hT 3 17 rfl rfl) (pc' := 75) (ls' := [some (.inr (.inr (.inl (some 345)))), some (.inl (least)), some (.inl (ff)), some (.inl (0)), some (.inl (c + 1))]) (st' := []) (fun _ _ => rfl) ?_
          refine ih _ _ (by omega) (by omega) (by omega) ⟨fun e => ?_, fun e => ?_⟩
          · exact absurd e (by decide)
          · have k := e c (by omega) (by omega)
            have := hq.mpr (fun j j0 j1 => e j j0 (by omega))
            omega
        · refine ej_plain hmn (eg_at hT 3 12 rfl rfl) (pc' := 115) (ls' := [some (.inr (.inr (.inl (some 345)))), some (.inl (least)), some (.inl (ff)), some (.inl (rt)), some (.inl (c))]) (st' := [.inl (1)]) (fun _ _ => rfl) ?_
          refine ej_plain hmn (eg_at hT 3 13 rfl rfl) (pc' := 119) (ls' := [some (.inr (.inr (.inl (some 345)))), some (.inl (least)), some (.inl (ff)), some (.inl (rt)), some (.inl (c))]) (st' := [.inl (1)]) (fun _ _ => rfl) ?_
          refine ej_plain hmn (eg_at hT 3 15 rfl rfl) (pc' := 120) (ls' := [some (.inr (.inr (.inl (some 345)))), some (.inl (least)), some (.inl (ff)), some (.inl (1)), some (.inl (c))]) (st' := []) (fun _ _ => rfl) ?_
          refine ej_iinc hmn (eg_at hT 3 16 rfl rfl) (pc' := 123) rfl (w := 1) rfl (fun _ => rfl) (lsf := fun V => [some (.inr (.inr (.inl (some 345)))), some (.inl (least)), some (.inl (ff)), some (.inl (1)), some V]) (fun _ _ => rfl) (by decide) (by decide) (by omega) (by omega) ?_
          refine ej_plain hmn (eg_at hT 3 17 rfl rfl) (pc' := 75) (ls' := [some (.inr (.inr (.inl (some 345)))), some (.inl (least)), some (.inl (ff)), some (.inl (1)), some (.inl (c + 1))]) (st' := []) (fun _ _ => rfl) ?_
          refine ih _ _ (by omega) (by omega) (by omega) ⟨fun e => ?_, fun e => ?_⟩
          · have k2 := hq.mp (by omega)
            intro j j0 j1
            by_cases q : j = c
            · rw [q]; omega
            · exact k2 j j0 (by omega)
          · have k := e c (by omega) (by omega)
            have := hq.mpr (fun j j0 j1 => e j j0 (by omega))
            omega
theorem eq_se_B {l : Launch} {D : va_G} {τ : Nat → ClassId} {sa : List Nat} {A : Nat → Prop} (hmn : em_mna) {own mname : String} {bytes : ByteArray} (hT : ∀ ch ∈ eu_184, ∀ x ∈ ch, ek_J em_inf et_cls et_vt own mname bytes x) {d : Nat} (hd : 2 ≤ d) {K : Option ex_V → ex_H → Bool} {B W Z Y N F M R : Nat} {bf mg s0 : Int → Int} {least ff : Int} (hB : ey_R 230 B bf) (hM : ey_R 64 M mg) (f0 : 0 ≤ ff) (fb : ff ≤ bf 11) (h11 : bf 11 ≤ 8) (hb0 : bf 0 ≤ 8) (hb2 : 2 ≤ bf 0) (hs0 : ∀ j, 0 ≤ j → j < ff → 0 ≤ s0 j ∧ s0 j < 8) (hK : ∀ (v : Option ex_V) (hp' : ex_H), ez_PS B W Z Y N F M R bf mg s0 least ff v hp' → K v hp' = true) {C a b : Nat} {cf af ef : Int → Int} (hC : ey_R 8 C cf) (ha : ey_R 8 a af) (he : ey_R 8 b ef) (b2 : ∀ j, 0 ≤ j → j < 8 → -1 ≤ cf j ∧ cf j ≤ 7) (b3 : ∀ j, 0 ≤ j → j < 8 → 0 ≤ af j ∧ af j ≤ 1) (b4 : ∀ j, 0 ≤ j → j < 8 → 0 ≤ ef j ∧ ef j ≤ 1) : ∀ (n S U : Nat) (sf uf : Int → Int) (m : Int), bf 11 - m < n → (0 ≤ m ∧ m ≤ bf 11) → ey_R 8 S sf → ey_R 8 U uf → (∀ j, 0 ≤ j → j < 8 → -1 ≤ sf j ∧ sf j ≤ 7) → (∀ j, 0 ≤ j → j < ff → sf j = s0 j) → (∀ j, ff ≤ j → j < m → sf j = -1) → (∀ x, 0 ≤ x → x < 8 → uf x = ez_c sf x m.toNat) → em_G l D τ sa A own mname bytes 5 d (0, 0) (some .boolean) K (23, [some (.inr (.inr (.inl (some 345)))), some (.inl (least)), some (.inl (ff)), some (.inl (m)), none], [], (ey_h B W Z Y N F M S U C a b R), 0, 0) := by
  intro n
  induction n with
  | zero => intro S U sf uf m hn hm; exfalso; omega
  | succ n ih =>
    intro S U sf uf m hn hm hS hU b1 hf hn1 hu
    have hsm : m < ff → 0 ≤ sf m ∧ sf m < 8 := fun q => by rw [hf m hm.1 q]; exact hs0 m hm.1 q
    have hub : m < ff → 0 ≤ uf (sf m) ∧ uf (sf m) ≤ 8 := fun q => by have h := ez_c_bd sf (sf m) m.toNat; rw [← hu _ (hsm q).1 (hsm q).2] at h; omega
    refine ej_plain hmn (eg_at hT 0 14 rfl rfl) (pc' := 24) (ls' := [some (.inr (.inr (.inl (some 345)))), some (.inl (least)), some (.inl (ff)), some (.inl (m)), none]) (st' := [.inl (m)]) (fun _ _ => rfl) ?_
    refine ej_plain hmn (eg_at hT 0 15 rfl rfl) (pc' := 25) (ls' := [some (.inr (.inr (.inl (some 345)))), some (.inl (least)), some (.inl (ff)), some (.inl (m)), none]) (st' := [.inr (.inr (.inl (some 345))), .inl (m)]) (fun _ _ => rfl) ?_
    refine ej_plain hmn (eg_at hT 0 16 rfl rfl) (pc' := 28) (ls' := [some (.inr (.inr (.inl (some 345)))), some (.inl (least)), some (.inl (ff)), some (.inl (m)), none]) (st' := [.inr (.inr (.inl (some 346))), .inl (m)]) (fun _ _ => rfl) ?_
    refine ej_plain hmn (eg_at hT 0 17 rfl rfl) (pc' := 30) (ls' := [some (.inr (.inr (.inl (some 345)))), some (.inl (least)), some (.inl (ff)), some (.inl (m)), none]) (st' := [.inl (11), .inr (.inr (.inl (some 346))), .inl (m)]) (fun _ _ => rfl) ?_
    refine ej_iaload hmn (eg_at hT 0 18 rfl rfl) (pc' := 31) (n := 230) rfl (fun _ => rfl) hB (by omega) (by omega) ?_
    refine ej_if_icmp hmn (eg_at hT 0 19 rfl rfl) (pc' := 34) rfl (fun _ => rfl) (fun (bc1 : bf 11 ≤ m) => ?_) (fun (bc1 : ¬ (bf 11 ≤ m)) => ?_)
    · refine ej_plain hmn (eg_at hT 2 2 rfl rfl) (pc' := 71) (ls' := [some (.inr (.inr (.inl (some 345)))), some (.inl (least)), some (.inl (ff)), some (.inl (m)), none]) (st' := [.inl (1)]) (fun _ _ => rfl) ?_
      refine ej_plain hmn (eg_at hT 2 3 rfl rfl) (pc' := 72) (ls' := [some (.inr (.inr (.inl (some 345)))), some (.inl (least)), some (.inl (ff)), some (.inl (1)), none]) (st' := []) (fun _ _ => rfl) ?_
      refine ej_plain hmn (eg_at hT 2 4 rfl rfl) (pc' := 73) (ls' := [some (.inr (.inr (.inl (some 345)))), some (.inl (least)), some (.inl (ff)), some (.inl (1)), none]) (st' := [.inl (0)]) (fun _ _ => rfl) ?_
      refine ej_plain hmn (eg_at hT 2 5 rfl rfl) (pc' := 75) (ls' := [some (.inr (.inr (.inl (some 345)))), some (.inl (least)), some (.inl (ff)), some (.inl (1)), some (.inl (0))]) (st' := []) (fun _ _ => rfl) ?_
      exact eq_se_C hmn hT hd hB hM f0 fb h11 hb0 hb2 hs0 hK hS hU hC ha he b1 b2 b3 b4 hf (fun j j0 j1 => hn1 j j0 (by omega)) (fun x x0 x1 => by rw [hu x x0 x1]; congr 1; omega) ((bf 0).toNat + 1) 1 0 (by omega) (by omega) (Or.inr rfl) ⟨fun _ x x0 x1 => by omega, fun _ => rfl⟩
    · refine ej_plain hmn (eg_at hT 1 0 rfl rfl) (pc' := 35) (ls' := [some (.inr (.inr (.inl (some 345)))), some (.inl (least)), some (.inl (ff)), some (.inl (m)), none]) (st' := [.inl (m)]) (fun _ _ => rfl) ?_
      refine ej_plain hmn (eg_at hT 1 1 rfl rfl) (pc' := 36) (ls' := [some (.inr (.inr (.inl (some 345)))), some (.inl (least)), some (.inl (ff)), some (.inl (m)), none]) (st' := [.inl (ff), .inl (m)]) (fun _ _ => rfl) ?_
      refine ej_if_icmp hmn (eg_at hT 1 2 rfl rfl) (pc' := 39) rfl (fun _ => rfl) (fun (bc2 : ff ≤ m) => ?_) (fun (bc2 : ¬ (ff ≤ m)) => ?_)
      · refine ej_plain hmn (eg_at hT 1 15 rfl rfl) (pc' := 58) (ls' := [some (.inr (.inr (.inl (some 345)))), some (.inl (least)), some (.inl (ff)), some (.inl (m)), none]) (st' := [.inr (.inr (.inl (some 345)))]) (fun _ _ => rfl) ?_
        refine ej_plain hmn (eg_at hT 1 16 rfl rfl) (pc' := 61) (ls' := [some (.inr (.inr (.inl (some 345)))), some (.inl (least)), some (.inl (ff)), some (.inl (m)), none]) (st' := [.inr (.inr (.inl (some 361)))]) (fun _ _ => rfl) ?_
        refine ej_plain hmn (eg_at hT 1 17 rfl rfl) (pc' := 62) (ls' := [some (.inr (.inr (.inl (some 345)))), some (.inl (least)), some (.inl (ff)), some (.inl (m)), none]) (st' := [.inl (m), .inr (.inr (.inl (some 361)))]) (fun _ _ => rfl) ?_
        refine ej_plain hmn (eg_at hT 1 18 rfl rfl) (pc' := 63) (ls' := [some (.inr (.inr (.inl (some 345)))), some (.inl (least)), some (.inl (ff)), some (.inl (m)), none]) (st' := [.inl (-1), .inl (m), .inr (.inr (.inl (some 361)))]) (fun _ _ => rfl) ?_
        refine ej_iastore hmn (eg_at hT 1 19 rfl rfl) (pc' := 64) (n := 8) rfl rfl (fun _ => rfl) (hpf := fun PX => (ey_h B W Z Y N F M PX U C a b R)) (fun _ _ => rfl) hS (by omega) (by omega) (by omega) (by omega) (fun bP3 bh4 => ?_)
        refine ej_iinc hmn (eg_at hT 2 0 rfl rfl) (pc' := 67) rfl (w := 1) rfl (fun _ => rfl) (lsf := fun V => [some (.inr (.inr (.inl (some 345)))), some (.inl (least)), some (.inl (ff)), some V, none]) (fun _ _ => rfl) (by decide) (by decide) (by omega) (by omega) ?_
        refine ej_plain hmn (eg_at hT 2 1 rfl rfl) (pc' := 23) (ls' := [some (.inr (.inr (.inl (some 345)))), some (.inl (least)), some (.inl (ff)), some (.inl (m + 1)), none]) (st' := []) (fun _ _ => rfl) ?_
        refine ih _ _ _ _ _ (by omega) (by omega) bh4 hU (ey_up_bd b1 (by omega) (by omega)) (fun j j0 j1 => ?_) (fun j j0 j1 => ?_) (fun x x0 x1 => ?_)
        · rw [ey_up_ne _ _ (by omega)]; exact hf j j0 j1
        · by_cases q : j = m
          · rw [q, ey_up_same]
          · rw [ey_up_ne _ _ q]; exact hn1 j j0 (by omega)
        · rw [ez_c_s _ _ (by omega), ey_up_same, if_neg (by omega), ez_c_up _ _ _ (by omega), if_neg (show ¬ m < ((m.toNat : Nat) : Int) by omega), ← hu x x0 x1]; omega
      · refine ej_plain hmn (eg_at hT 1 3 rfl rfl) (pc' := 40) (ls' := [some (.inr (.inr (.inl (some 345)))), some (.inl (least)), some (.inl (ff)), some (.inl (m)), none]) (st' := [.inr (.inr (.inl (some 345)))]) (fun _ _ => rfl) ?_
        refine ej_plain hmn (eg_at hT 1 4 rfl rfl) (pc' := 43) (ls' := [some (.inr (.inr (.inl (some 345)))), some (.inl (least)), some (.inl (ff)), some (.inl (m)), none]) (st' := [.inr (.inr (.inl (some 362)))]) (fun _ _ => rfl) ?_
        refine ej_plain hmn (eg_at hT 1 5 rfl rfl) (pc' := 44) (ls' := [some (.inr (.inr (.inl (some 345)))), some (.inl (least)), some (.inl (ff)), some (.inl (m)), none]) (st' := [.inr (.inr (.inl (some 345))), .inr (.inr (.inl (some 362)))]) (fun _ _ => rfl) ?_
        refine ej_plain hmn (eg_at hT 1 6 rfl rfl) (pc' := 47) (ls' := [some (.inr (.inr (.inl (some 345)))), some (.inl (least)), some (.inl (ff)), some (.inl (m)), none]) (st' := [.inr (.inr (.inl (some 361))), .inr (.inr (.inl (some 362)))]) (fun _ _ => rfl) ?_
        refine ej_plain hmn (eg_at hT 1 7 rfl rfl) (pc' := 48) (ls' := [some (.inr (.inr (.inl (some 345)))), some (.inl (least)), some (.inl (ff)), some (.inl (m)), none]) (st' := [.inl (m), .inr (.inr (.inl (some 361))), .inr (.inr (.inl (some 362)))]) (fun _ _ => rfl) ?_
        refine ej_iaload hmn (eg_at hT 1 8 rfl rfl) (pc' := 49) (n := 8) rfl (fun _ => rfl) hS (by omega) (by omega) ?_
        refine ej_plain hmn (eg_at hT 1 9 rfl rfl) (pc' := 50) (ls' := [some (.inr (.inr (.inl (some 345)))), some (.inl (least)), some (.inl (ff)), some (.inl (m)), none]) (st' := [.inl (sf m), .inr (.inr (.inl (some 362))), .inl (sf m), .inr (.inr (.inl (some 362)))]) (fun _ _ => rfl) ?_
        refine ej_iaload hmn (eg_at hT 1 10 rfl rfl) (pc' := 51) (n := 8) rfl (fun _ => rfl) hU (by omega) (by omega) ?_
        refine ej_plain hmn (eg_at hT 1 11 rfl rfl) (pc' := 52) (ls' := [some (.inr (.inr (.inl (some 345)))), some (.inl (least)), some (.inl (ff)), some (.inl (m)), none]) (st' := [.inl (1), .inl (uf (sf m)), .inl (sf m), .inr (.inr (.inl (some 362)))]) (fun _ _ => rfl) ?_
        refine ej_iadd hmn (eg_at hT 1 12 rfl rfl) (pc' := 53) rfl (by omega) (by omega) ?_
        refine ej_iastore hmn (eg_at hT 1 13 rfl rfl) (pc' := 54) (n := 8) rfl rfl (fun _ => rfl) (hpf := fun PX => (ey_h B W Z Y N F M S PX C a b R)) (fun _ _ => rfl) hU (by omega) (by omega) (by omega) (by omega) (fun bP5 bh6 => ?_)
        refine ej_plain hmn (eg_at hT 1 14 rfl rfl) (pc' := 64) (ls' := [some (.inr (.inr (.inl (some 345)))), some (.inl (least)), some (.inl (ff)), some (.inl (m)), none]) (st' := []) (fun _ _ => rfl) ?_
        refine ej_iinc hmn (eg_at hT 2 0 rfl rfl) (pc' := 67) rfl (w := 1) rfl (fun _ => rfl) (lsf := fun V => [some (.inr (.inr (.inl (some 345)))), some (.inl (least)), some (.inl (ff)), some V, none]) (fun _ _ => rfl) (by decide) (by decide) (by omega) (by omega) ?_
        refine ej_plain hmn (eg_at hT 2 1 rfl rfl) (pc' := 23) (ls' := [some (.inr (.inr (.inl (some 345)))), some (.inl (least)), some (.inl (ff)), some (.inl (m + 1)), none]) (st' := []) (fun _ _ => rfl) ?_
        refine ih _ _ _ _ _ (by omega) (by omega) hS bh6 b1 hf (fun j j0 j1 => by omega) (fun x x0 x1 => ?_)
        rw [ez_c_s _ _ (by omega), ← hu x x0 x1]
        by_cases q : x = sf m
        · rw [q, ey_up_same, if_pos rfl]
        · rw [ey_up_ne _ _ q, if_neg (fun z => q z.symm)]; omega
theorem eq_se_A {l : Launch} {D : va_G} {τ : Nat → ClassId} {sa : List Nat} {A : Nat → Prop} (hmn : em_mna) {own mname : String} {bytes : ByteArray} (hT : ∀ ch ∈ eu_184, ∀ x ∈ ch, ek_J em_inf et_cls et_vt own mname bytes x) {d : Nat} (hd : 2 ≤ d) {K : Option ex_V → ex_H → Bool} {B W Z Y N F M R : Nat} {bf mg s0 : Int → Int} {least ff : Int} (hB : ey_R 230 B bf) (hM : ey_R 64 M mg) (f0 : 0 ≤ ff) (fb : ff ≤ bf 11) (h11 : bf 11 ≤ 8) (hb0 : bf 0 ≤ 8) (hb2 : 2 ≤ bf 0) (hs0 : ∀ j, 0 ≤ j → j < ff → 0 ≤ s0 j ∧ s0 j < 8) (hK : ∀ (v : Option ex_V) (hp' : ex_H), ez_PS B W Z Y N F M R bf mg s0 least ff v hp' → K v hp' = true) (hn : 0 ≤ bf 11) {S C a b : Nat} {sf cf af ef : Int → Int} (hS : ey_R 8 S sf) (hC : ey_R 8 C cf) (ha : ey_R 8 a af) (he : ey_R 8 b ef) (b1 : ∀ j, 0 ≤ j → j < 8 → -1 ≤ sf j ∧ sf j ≤ 7) (b2 : ∀ j, 0 ≤ j → j < 8 → -1 ≤ cf j ∧ cf j ≤ 7) (b3 : ∀ j, 0 ≤ j → j < 8 → 0 ≤ af j ∧ af j ≤ 1) (b4 : ∀ j, 0 ≤ j → j < 8 → 0 ≤ ef j ∧ ef j ≤ 1) (hf : ∀ j, 0 ≤ j → j < ff → sf j = s0 j) : ∀ (n U : Nat) (uf : Int → Int) (c : Int), 8 - c < n → (0 ≤ c ∧ c ≤ 8) → ey_R 8 U uf → (∀ x, 0 ≤ x → x < c → uf x = 0) → em_G l D τ sa A own mname bytes 5 d (0, 0) (some .boolean) K (2, [some (.inr (.inr (.inl (some 345)))), some (.inl (least)), some (.inl (ff)), some (.inl (c)), none], [], (ey_h B W Z Y N F M S U C a b R), 0, 0) := by
  intro n
  induction n with
  | zero => intro U uf c hn hc; exfalso; omega
  | succ n ih =>
    intro U uf c hn hc hU hz
    refine ej_plain hmn (eg_at hT 0 2 rfl rfl) (pc' := 3) (ls' := [some (.inr (.inr (.inl (some 345)))), some (.inl (least)), some (.inl (ff)), some (.inl (c)), none]) (st' := [.inl (c)]) (fun _ _ => rfl) ?_
    refine ej_plain hmn (eg_at hT 0 3 rfl rfl) (pc' := 5) (ls' := [some (.inr (.inr (.inl (some 345)))), some (.inl (least)), some (.inl (ff)), some (.inl (c)), none]) (st' := [.inl (8), .inl (c)]) (fun _ _ => rfl) ?_
    refine ej_if_icmp hmn (eg_at hT 0 4 rfl rfl) (pc' := 8) rfl (fun _ => rfl) (fun (ac1 : 8 ≤ c) => ?_) (fun (ac1 : ¬ (8 ≤ c)) => ?_)
    · refine ej_plain hmn (eg_at hT 0 12 rfl rfl) (pc' := 22) (ls' := [some (.inr (.inr (.inl (some 345)))), some (.inl (least)), some (.inl (ff)), some (.inl (c)), none]) (st' := [.inl (0)]) (fun _ _ => rfl) ?_
      refine ej_plain hmn (eg_at hT 0 13 rfl rfl) (pc' := 23) (ls' := [some (.inr (.inr (.inl (some 345)))), some (.inl (least)), some (.inl (ff)), some (.inl (0)), none]) (st' := []) (fun _ _ => rfl) ?_
      exact eq_se_B hmn hT hd hB hM f0 fb h11 hb0 hb2 hs0 hK hC ha he b2 b3 b4 ((bf 11).toNat + 1) S U sf uf 0 (by omega) (by omega) hS hU b1 hf (fun j j0 j1 => by omega) (fun x x0 x1 => hz x x0 (by omega))
    · refine ej_plain hmn (eg_at hT 0 5 rfl rfl) (pc' := 9) (ls' := [some (.inr (.inr (.inl (some 345)))), some (.inl (least)), some (.inl (ff)), some (.inl (c)), none]) (st' := [.inr (.inr (.inl (some 345)))]) (fun _ _ => rfl) ?_
      refine ej_plain hmn (eg_at hT 0 6 rfl rfl) (pc' := 12) (ls' := [some (.inr (.inr (.inl (some 345)))), some (.inl (least)), some (.inl (ff)), some (.inl (c)), none]) (st' := [.inr (.inr (.inl (some 362)))]) (fun _ _ => rfl) ?_
      refine ej_plain hmn (eg_at hT 0 7 rfl rfl) (pc' := 13) (ls' := [some (.inr (.inr (.inl (some 345)))), some (.inl (least)), some (.inl (ff)), some (.inl (c)), none]) (st' := [.inl (c), .inr (.inr (.inl (some 362)))]) (fun _ _ => rfl) ?_
      refine ej_plain hmn (eg_at hT 0 8 rfl rfl) (pc' := 14) (ls' := [some (.inr (.inr (.inl (some 345)))), some (.inl (least)), some (.inl (ff)), some (.inl (c)), none]) (st' := [.inl (0), .inl (c), .inr (.inr (.inl (some 362)))]) (fun _ _ => rfl) ?_
      refine ej_iastore hmn (eg_at hT 0 9 rfl rfl) (pc' := 15) (n := 8) rfl rfl (fun _ => rfl) (hpf := fun PX => (ey_h B W Z Y N F M S PX C a b R)) (fun _ _ => rfl) hU (by omega) (by omega) (by omega) (by omega) (fun aP2 ah3 => ?_)
      refine ej_iinc hmn (eg_at hT 0 10 rfl rfl) (pc' := 18) rfl (w := 1) rfl (fun _ => rfl) (lsf := fun V => [some (.inr (.inr (.inl (some 345)))), some (.inl (least)), some (.inl (ff)), some V, none]) (fun _ _ => rfl) (by decide) (by decide) (by omega) (by omega) ?_
      refine ej_plain hmn (eg_at hT 0 11 rfl rfl) (pc' := 2) (ls' := [some (.inr (.inr (.inl (some 345)))), some (.inl (least)), some (.inl (ff)), some (.inl (c + 1)), none]) (st' := []) (fun _ _ => rfl) ?_
      refine ih _ _ _ (by omega) (by omega) ah3 (fun x x0 x1 => ?_)
      by_cases q : x = c
      · rw [q, ey_up_same]
      · rw [ey_up_ne _ _ q]; exact hz x x0 (by omega)
theorem eq_seats {l : Launch} {D : va_G} {τ : Nat → ClassId} {sa : List Nat} {A : Nat → Prop} (hmn : em_mna) {B W Z Y N F M S U C a b R : Nat} {bf mg sf uf cf af ef : Int → Int} {least ff : Int} (hB : ey_R 230 B bf) (hM : ey_R 64 M mg) (hS : ey_R 8 S sf) (hU : ey_R 8 U uf) (hC : ey_R 8 C cf) (ha : ey_R 8 a af) (he : ey_R 8 b ef) (f0 : 0 ≤ ff) (fb : ff ≤ bf 11) (hn : 0 ≤ bf 11) (h11 : bf 11 ≤ 8) (hb0 : bf 0 ≤ 8) (hb2 : 2 ≤ bf 0) (hs0 : ∀ j, 0 ≤ j → j < ff → 0 ≤ sf j ∧ sf j < 8) (b1 : ∀ j, 0 ≤ j → j < 8 → -1 ≤ sf j ∧ sf j ≤ 7) (b2 : ∀ j, 0 ≤ j → j < 8 → -1 ≤ cf j ∧ cf j ≤ 7) (b3 : ∀ j, 0 ≤ j → j < 8 → 0 ≤ af j ∧ af j ≤ 1) (b4 : ∀ j, 0 ≤ j → j < 8 → 0 ≤ ef j ∧ ef j ≤ 1) : em_X l D τ sa A 184 [(.inr (.inr (.inl (some 345)))), .inl least, .inl ff] (ey_h B W Z Y N F M S U C a b R) (ez_PS B W Z Y N F M R bf mg sf least ff) 2 := by
  refine em_X.of (tb := eu_184) (nl := 5) (ret := some .boolean) rfl (q := [some (.inr (.inr (.inl (some 345)))), some (.inl (least)), some (.inl (ff)), none, none]) (fun _ => rfl) (fun own mname bytes hT => ?_)
  refine ej_plain hmn (eg_at hT 0 0 rfl rfl) (pc' := 1) (ls' := [some (.inr (.inr (.inl (some 345)))), some (.inl (least)), some (.inl (ff)), none, none]) (st' := [.inl (0)]) (fun _ _ => rfl) ?_
  refine ej_plain hmn (eg_at hT 0 1 rfl rfl) (pc' := 2) (ls' := [some (.inr (.inr (.inl (some 345)))), some (.inl (least)), some (.inl (ff)), some (.inl (0)), none]) (st' := []) (fun _ _ => rfl) ?_
  exact eq_se_A hmn hT (Nat.le_refl 2) hB hM f0 fb h11 hb0 hb2 hs0 (fun v hp' h => @decide_eq_true _ (Classical.propDecidable _) h) hn hS hC ha he b1 b2 b3 b4 (fun _ _ _ => rfl) 9 U uf 0 (by decide) (by decide) hU (fun x x0 x1 => by omega)
