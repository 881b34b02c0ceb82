/-! Rules for steps by hand: next places are told in full. -/
def ey_P (c : ClassFile.Cond) (x y : Int) : Prop := match c with
  | .eq => x = y
  | .ne => x ≠ y
  | .lt => x < y
  | .ge => y ≤ x
  | .gt => y < x
  | .le => x ≤ y
theorem ey_P_iff (c : ClassFile.Cond) (x y : Int) : ex_cmp c x y = true ↔ ey_P c x y := by
  cases c
  · exact ey_eq
  · exact ey_ne
  · exact ey_lt
  · exact ey_ge
  · exact ey_gt
  · exact ey_le
theorem ey_div32 {x y : Int} (h1 : -2147483648 ≤ x) (h2 : x ≤ 2147483647) (h3 : 1 ≤ y) (h4 : y ≤ 2147483647) : (Int32.ofInt x / Int32.ofInt y).toInt = x.tdiv y := by
  rw [Int32.toInt_div, Int32.toInt_ofInt_of_le (by simp; omega) (by simp; omega), Int32.toInt_ofInt_of_le (by simp; omega) (by simp; omega)]
  have hb : -2147483648 ≤ x.tdiv y ∧ x.tdiv y ≤ 2147483647 := by
    rcases Int.le_total 0 x with hx | hx
    · rw [Int.tdiv_eq_ediv_of_nonneg hx]
      have := Int.ediv_nonneg hx (by omega : 0 ≤ y)
      have := Int.ediv_le_self y hx
      omega
    · obtain ⟨w, rfl⟩ : ∃ w : Int, x = -w := ⟨-x, by omega⟩
      rw [Int.neg_tdiv, Int.tdiv_eq_ediv_of_nonneg (by omega)]
      have := Int.ediv_nonneg (by omega : 0 ≤ w) (by omega : 0 ≤ y)
      have := Int.ediv_le_self y (by omega : 0 ≤ w)
      omega
  exact Int.bmod_eq_of_le (by omega) (by omega)
/-- a quotient towards 0 -/
theorem ey_tdiv {x y : Int} (hy : 1 ≤ y) : (0 ≤ x → 0 ≤ x.tdiv y ∧ y * x.tdiv y ≤ x ∧ x < y * x.tdiv y + y) ∧ (x ≤ 0 → x.tdiv y ≤ 0 ∧ x ≤ y * x.tdiv y ∧ y * x.tdiv y - y < x) := by
  constructor
  · intro hx
    rw [Int.tdiv_eq_ediv_of_nonneg hx]
    have h1 := Int.ediv_nonneg hx (by omega : 0 ≤ y)
    have h2 := Int.mul_ediv_add_emod x y
    have h3 := Int.emod_nonneg x (by omega : y ≠ 0)
    have h4 := Int.emod_lt_of_pos x (by omega : 0 < y)
    omega
  · intro hx
    obtain ⟨w, rfl⟩ : ∃ w : Int, x = -w := ⟨-x, by omega⟩
    rw [Int.neg_tdiv, Int.tdiv_eq_ediv_of_nonneg (by omega)]
    have h1 := Int.ediv_nonneg (by omega : 0 ≤ w) (by omega : 0 ≤ y)
    have h2 := Int.mul_ediv_add_emod w y
    have h3 := Int.emod_nonneg w (by omega : y ≠ 0)
    have h4 := Int.emod_lt_of_pos w (by omega : 0 < y)
    have h5 : y * -(w / y) = -(y * (w / y)) := Int.mul_neg _ _
    rw [h5]
    omega
section EJ
variable {l : Launch} {D : va_G} {τ : Nat → ClassId} {sa : List Nat} {A : Nat → Prop} {own mname : String} {bytes : ByteArray} {nL d : Nat} {ret : Option FieldType} {K : Option ex_V → ex_H → Bool} {pc pc' a b : Nat} {z : Int} {ls ls' : List (Option ex_V)} {st st' r : List ex_V} {hp hp' : ex_H} {x y w : Int}
theorem ej_plain (hmn : em_mna) {X : ex_J} (hx : ek_J em_inf et_cls et_vt own mname bytes X) (hh : ∀ (go : Nat → List (Option ex_V) → List ex_V → ex_H → Nat → Nat → Bool) (cal : Nat → List ex_V → ex_H → Nat → Nat → (Option ex_V → ex_H → Nat → Nat → Bool) → Bool), X.2.1 et_cls et_vt (0, 0) ret go cal false K X.1 X.2.2.1 X.2.2.2.1 X.2.2.2.2 ls st hp 0 0 = go pc' ls' st' hp' 0 0) (h : em_G l D τ sa A own mname bytes nL d (0, 0) ret K (pc', ls', st', hp', 0, 0)) : em_G l D τ sa A own mname bytes nL d (0, 0) ret K (X.1, ls, st, hp, 0, 0) := eg_step hmn X hx ((hh _ _).trans (eg_go_of h))
theorem ej_iadd (hmn : em_mna) (hx : ek_J em_inf et_cls et_vt own mname bytes (pc, eh_iadd, a, b, z)) (hpc : pc + 1 = pc') (h1 : -2147483648 ≤ x + y) (h2 : x + y ≤ 2147483647) (h : em_G l D τ sa A own mname bytes nL d (0, 0) ret K (pc', ls, .inl (x + y) :: r, hp, 0, 0)) : em_G l D τ sa A own mname bytes nL d (0, 0) ret K (pc, ls, .inl y :: .inl x :: r, hp, 0, 0) := by
  subst hpc; exact ei_iadd hmn hx rfl h1 h2 h
theorem ej_isub (hmn : em_mna) (hx : ek_J em_inf et_cls et_vt own mname bytes (pc, eh_isub, a, b, z)) (hpc : pc + 1 = pc') (h1 : -2147483648 ≤ x - y) (h2 : x - y ≤ 2147483647) (h : em_G l D τ sa A own mname bytes nL d (0, 0) ret K (pc', ls, .inl (x - y) :: r, hp, 0, 0)) : em_G l D τ sa A own mname bytes nL d (0, 0) ret K (pc, ls, .inl y :: .inl x :: r, hp, 0, 0) := by
  subst hpc; exact ei_isub hmn hx rfl h1 h2 h
theorem ej_imul (hmn : em_mna) (hx : ek_J em_inf et_cls et_vt own mname bytes (pc, eh_imul, a, b, z)) (hpc : pc + 1 = pc') (h1 : -2147483648 ≤ x * y) (h2 : x * y ≤ 2147483647) (h : em_G l D τ sa A own mname bytes nL d (0, 0) ret K (pc', ls, .inl (x * y) :: r, hp, 0, 0)) : em_G l D τ sa A own mname bytes nL d (0, 0) ret K (pc, ls, .inl y :: .inl x :: r, hp, 0, 0) := by
  subst hpc; exact ei_imul hmn hx rfl h1 h2 h
theorem ej_idiv (hmn : em_mna) (hx : ek_J em_inf et_cls et_vt own mname bytes (pc, eh_idiv, a, b, z)) (hpc : pc + 1 = pc') (h1 : -2147483648 ≤ x) (h2 : x ≤ 2147483647) (h3 : 1 ≤ y) (h4 : y ≤ 2147483647) (h : em_G l D τ sa A own mname bytes nL d (0, 0) ret K (pc', ls, .inl (x.tdiv y) :: r, hp, 0, 0)) : em_G l D τ sa A own mname bytes nL d (0, 0) ret K (pc, ls, .inl y :: .inl x :: r, hp, 0, 0) := by
  subst hpc
  refine eg_step hmn _ hx ?_
  show (if ex_ne0 y y then ex_z (Int32.ofInt x / Int32.ofInt y).toInt (fun v => ex_n (pc + 1) (fun pc => eg_go l D τ sa A own mname bytes nL d ret K pc ls (.inl v :: r) hp 0 0)) else false) = true
  rw [if_pos (by unfold ex_ne0; rw [(ex_le_iff 1 y).mpr h3, Bool.true_or]), ex_z_eq, ex_n_eq, ey_div32 h1 h2 h3 h4]
  exact eg_go_of h
theorem ej_iinc (hmn : em_mna) {i : Nat} {n : Int} (hx : ek_J em_inf et_cls et_vt own mname bytes (pc, eh_iinc i n, a, b, z)) (hpc : pc + 3 = pc') (hn : n = w) (hg : ∀ k : Option ex_V → Bool, ex_get ls i k = k (some (.inl x))) {lsf : ex_V → List (Option ex_V)} (hs : ∀ (v : ex_V) (k : List (Option ex_V) → Bool), ex_clear ls i (ex_set ls i (some v) k) = k (lsf v)) (hw1 : -2147483648 ≤ w) (hw2 : w ≤ 2147483647) (h1 : -2147483648 ≤ x + w) (h2 : x + w ≤ 2147483647) (h : em_G l D τ sa A own mname bytes nL d (0, 0) ret K (pc', lsf (.inl (x + w)), r, hp, 0, 0)) : em_G l D τ sa A own mname bytes nL d (0, 0) ret K (pc, ls, r, hp, 0, 0) := by
  subst hpc; subst hn
  refine eg_step hmn _ hx ?_
  show (if ex_fit32 n then ex_get ls i (fun o => match o with | some v => ex_add v (.inl n) (fun v => ex_clear ls i (ex_set ls i (some v) (fun ls => ex_n (pc + 3) (fun pc => eg_go l D τ sa A own mname bytes nL d ret K pc ls r hp 0 0)))) | none => false) else false) = true
  rw [if_pos (ey_fit hw1 hw2), hg]
  show ex_add (.inl x) (.inl n) _ = true
  refine ey_add h1 h2 ?_
  rw [hs, ex_n_eq]
  exact eg_go_of h
theorem ej_iaload (hmn : em_mna) {q ty n P : Nat} {xs : List ex_V} {f : Int → Int} (hx : ek_J em_inf et_cls et_vt own mname bytes (pc, eh_iaload, a, b, z)) (hpc : pc + 1 = pc') (hq : ∀ k : ex_C → Bool, ex_hget hp q k = k (0, ty, n, P, xs)) (hR : ey_R n P f) (h0 : 0 ≤ x) (h1 : x < (n : Int)) (h : em_G l D τ sa A own mname bytes nL d (0, 0) ret K (pc', ls, .inl (f x) :: r, hp, 0, 0)) : em_G l D τ sa A own mname bytes nL d (0, 0) ret K (pc, ls, .inl x :: .inr (.inr (.inl (some q))) :: r, hp, 0, 0) := by
  subst hpc
  obtain ⟨i, rfl⟩ : ∃ i : Nat, x = i := ⟨x.toNat, by omega⟩
  obtain ⟨e1, e2, e3⟩ := hR i (by omega)
  exact ei_iaload hmn hx hq rfl (by omega) e1 e2 e3 h
theorem ej_baload (hmn : em_mna) {q ty n P : Nat} {xs : List ex_V} {f : Int → Int} (hx : ek_J em_inf et_cls et_vt own mname bytes (pc, eh_baload, a, b, z)) (hpc : pc + 1 = pc') (hq : ∀ k : ex_C → Bool, ex_hget hp q k = k (1, ty, n, P, xs)) (hR : ey_R n P f) (h0 : 0 ≤ x) (h1 : x < (n : Int)) (h : em_G l D τ sa A own mname bytes nL d (0, 0) ret K (pc', ls, .inl (f x) :: r, hp, 0, 0)) : em_G l D τ sa A own mname bytes nL d (0, 0) ret K (pc, ls, .inl x :: .inr (.inr (.inl (some q))) :: r, hp, 0, 0) := by
  subst hpc
  obtain ⟨i, rfl⟩ : ∃ i : Nat, x = i := ⟨x.toNat, by omega⟩
  obtain ⟨e1, e2, e3⟩ := hR i (by omega)
  exact ei_baload hmn hx hq rfl (by omega) e1 e2 e3 h
theorem ej_iastore (hmn : em_mna) {q ty n P : Nat} {xs : List ex_V} {f : Int → Int} (hx : ek_J em_inf et_cls et_vt own mname bytes (pc, eh_iastore, a, b, z)) (hpc : pc + 1 = pc') (h5 : Nat.ble 5 q = true) (hq : ∀ k : ex_C → Bool, ex_hget hp q k = k (0, ty, n, P, xs)) {hpf : Nat → ex_H} (hs : ∀ (P' : Nat) (k : ex_H → Bool), ex_hset hp q (0, ty, n, P', []) k = k (hpf P')) (hR : ey_R n P f) (h0 : 0 ≤ x) (h1 : x < (n : Int)) (b1 : -2147483648 ≤ y) (b2 : y ≤ 2147483647) (h : ∀ P', ey_R n P' (ey_up f x y) → em_G l D τ sa A own mname bytes nL d (0, 0) ret K (pc', ls, r, hpf P', 0, 0)) : em_G l D τ sa A own mname bytes nL d (0, 0) ret K (pc, ls, .inl y :: .inl x :: .inr (.inr (.inl (some q))) :: r, hp, 0, 0) := by
  subst hpc
  have hg := h _ (hR.set h0 b1 b2)
  obtain ⟨i, rfl⟩ : ∃ i : Nat, x = i := ⟨x.toNat, by omega⟩
  refine eg_step hmn _ hx ?_
  show (if Nat.ble 5 q then ex_hget hp q (fun o => match o with | (t, ty, n, p, fs) => if Nat.beq t 0 && Nat.ble (i + 1) n then ex_pk (.inl y) (fun w => ex_n (ex_ps p i w) (fun p => ex_hset hp q (0, ty, n, p, []) (fun hp => ex_n (pc + 1) (fun pc => eg_go l D τ sa A own mname bytes nL d ret K pc ls r hp 0 0)))) else false) else false) = true
  rw [if_pos h5, hq]
  show (if Nat.beq 0 0 && Nat.ble (i + 1) n then ex_pk (.inl y) (fun w => ex_n (ex_ps P i w) (fun p => ex_hset hp q (0, ty, n, p, []) (fun hp => ex_n (pc + 1) (fun pc => eg_go l D τ sa A own mname bytes nL d ret K pc ls r hp 0 0)))) else false) = true
  rw [if_pos (by rw [Nat.ble_eq.mpr (by omega : i + 1 ≤ n)]; rfl)]
  refine ey_pk b1 b2 ?_
  rw [ex_n_eq, hs, ex_n_eq]
  exact eg_go_of hg
theorem ej_bastore (hmn : em_mna) {q ty n P : Nat} {xs : List ex_V} {f : Int → Int} (hx : ek_J em_inf et_cls et_vt own mname bytes (pc, eh_bastore, a, b, z)) (hpc : pc + 1 = pc') (h5 : Nat.ble 5 q = true) (hq : ∀ k : ex_C → Bool, ex_hget hp q k = k (1, ty, n, P, xs)) {hpf : Nat → ex_H} (hs : ∀ (P' : Nat) (k : ex_H → Bool), ex_hset hp q (1, ty, n, P', []) k = k (hpf P')) (hR : ey_R n P f) (h0 : 0 ≤ x) (h1 : x < (n : Int)) (b1 : 0 ≤ y) (b2 : y ≤ 1) (h : ∀ P', ey_R n P' (ey_up f x y) → em_G l D τ sa A own mname bytes nL d (0, 0) ret K (pc', ls, r, hpf P', 0, 0)) : em_G l D τ sa A own mname bytes nL d (0, 0) ret K (pc, ls, .inl y :: .inl x :: .inr (.inr (.inl (some q))) :: r, hp, 0, 0) := by
  subst hpc
  have hg := h _ (hR.set (x := y) h0 (by omega) (by omega))
  obtain ⟨i, rfl⟩ : ∃ i : Nat, x = i := ⟨x.toNat, by omega⟩
  refine eg_step hmn _ hx ?_
  show (if ex_le 0 y && ex_le y 1 then (if Nat.ble 5 q then ex_hget hp q (fun o => match o with | (t, ty, n, p, fs) => if Nat.beq t 1 && Nat.ble (i + 1) n then ex_pk (.inl y) (fun w => ex_n (ex_ps p i w) (fun p => ex_hset hp q (1, ty, n, p, []) (fun hp => ex_n (pc + 1) (fun pc => eg_go l D τ sa A own mname bytes nL d ret K pc ls r hp 0 0)))) else false) else false) else false) = true
  rw [if_pos (by rw [(ex_le_iff 0 y).mpr b1, (ex_le_iff y 1).mpr b2]; rfl), if_pos h5, hq]
  show (if Nat.beq 1 1 && Nat.ble (i + 1) n then ex_pk (.inl y) (fun w => ex_n (ex_ps P i w) (fun p => ex_hset hp q (1, ty, n, p, []) (fun hp => ex_n (pc + 1) (fun pc => eg_go l D τ sa A own mname bytes nL d ret K pc ls r hp 0 0)))) else false) = true
  rw [if_pos (by rw [Nat.ble_eq.mpr (by omega : i + 1 ≤ n)]; rfl)]
  refine ey_pk (by omega) (by omega) ?_
  rw [ex_n_eq, hs, ex_n_eq]
  exact eg_go_of hg
theorem ej_if_icmp (hmn : em_mna) {c : ClassFile.Cond} {off : Int} {t : Nat} (hx : ek_J em_inf et_cls et_vt own mname bytes (pc, eh_if_icmp c off, a, b, z)) (hpc : pc + 3 = pc') (hg : ∀ k : Nat → Bool, ex_tgt pc off k = k t) (ht : ey_P c x y → em_G l D τ sa A own mname bytes nL d (0, 0) ret K (t, ls, r, hp, 0, 0)) (hf : ¬ ey_P c x y → em_G l D τ sa A own mname bytes nL d (0, 0) ret K (pc', ls, r, hp, 0, 0)) : em_G l D τ sa A own mname bytes nL d (0, 0) ret K (pc, ls, .inl y :: .inl x :: r, hp, 0, 0) := by
  subst hpc
  exact ei_if_icmp hmn hx hg (fun h => ht ((ey_P_iff c x y).mp h)) (fun h => hf (fun g => by rw [(ey_P_iff c x y).mpr g] at h; cases h))
theorem ej_ifCond (hmn : em_mna) {c : ClassFile.Cond} {off : Int} {t : Nat} (hx : ek_J em_inf et_cls et_vt own mname bytes (pc, eh_ifCond c off, a, b, z)) (hpc : pc + 3 = pc') (hg : ∀ k : Nat → Bool, ex_tgt pc off k = k t) (ht : ey_P c x 0 → em_G l D τ sa A own mname bytes nL d (0, 0) ret K (t, ls, r, hp, 0, 0)) (hf : ¬ ey_P c x 0 → em_G l D τ sa A own mname bytes nL d (0, 0) ret K (pc', ls, r, hp, 0, 0)) : em_G l D τ sa A own mname bytes nL d (0, 0) ret K (pc, ls, .inl x :: r, hp, 0, 0) := by
  subst hpc
  exact ei_ifCond hmn hx hg (fun h => ht ((ey_P_iff c x 0).mp h)) (fun h => hf (fun g => by rw [(ey_P_iff c x 0).mpr g] at h; cases h))
/-- a call that answers -/
theorem ej_call (hmn : em_mna) {X : ex_J} (hx : ek_J em_inf et_cls et_vt own mname bytes X) {mi dd : Nat} {as : List ex_V} {Post : Option ex_V → ex_H → Prop} (hX : em_X l D τ sa A mi as hp Post dd) (hd : dd + 1 ≤ d) (hh : ∀ (go : Nat → List (Option ex_V) → List ex_V → ex_H → Nat → Nat → Bool) (cal : Nat → List ex_V → ex_H → Nat → Nat → (Option ex_V → ex_H → Nat → Nat → Bool) → Bool), X.2.1 et_cls et_vt (0, 0) ret go cal false K X.1 X.2.2.1 X.2.2.2.1 X.2.2.2.2 ls st hp 0 0 = cal mi as hp 0 0 (fun v hp' ce sl => match v with | some v => go pc' ls (v :: r) hp' ce sl | none => go pc' ls r hp' ce sl)) (h : ∀ (v : Option ex_V) (hp' : ex_H), Post v hp' → match v with | some v => em_G l D τ sa A own mname bytes nL d (0, 0) ret K (pc', ls, v :: r, hp', 0, 0) | none => em_G l D τ sa A own mname bytes nL d (0, 0) ret K (pc', ls, r, hp', 0, 0)) : em_G l D τ sa A own mname bytes nL d (0, 0) ret K (X.1, ls, st, hp, 0, 0) := by
  refine eg_step hmn X hx ((hh _ _).trans (@decide_eq_true _ (Classical.propDecidable _) ⟨dd, Post, hd, hX, rfl, rfl, fun v hp' hP => ?_⟩))
  have g := h v hp' hP
  cases v with
  | some v => exact eg_go_of g
  | none => exact eg_go_of g
theorem ej_ireturn (hmn : em_mna) (hx : ek_J em_inf et_cls et_vt own mname bytes (pc, eh_ireturn, a, b, z)) (h : K (some (.inl x)) hp = true) : em_G l D τ sa A own mname bytes nL d (0, 0) (some .int) K (pc, ls, [.inl x], hp, 0, 0) := eg_step hmn _ hx h
theorem ej_zreturn (hmn : em_mna) (hx : ek_J em_inf et_cls et_vt own mname bytes (pc, eh_ireturn, a, b, z)) (h0 : 0 ≤ x) (h1 : x ≤ 1) (h : K (some (.inl x)) hp = true) : em_G l D τ sa A own mname bytes nL d (0, 0) (some .boolean) K (pc, ls, [.inl x], hp, 0, 0) := by
  refine eg_step hmn _ hx ?_
  show (if ex_le 0 x && ex_le x 1 then K (some (.inl x)) hp else false) = true
  rw [if_pos (by rw [(ex_le_iff 0 x).mpr h0, (ex_le_iff x 1).mpr h1]; rfl)]
  exact h
theorem ej_return (hmn : em_mna) (hx : ek_J em_inf et_cls et_vt own mname bytes (pc, eh_return_, a, b, z)) (h : K none hp = true) : em_G l D τ sa A own mname bytes nL d (0, 0) none K (pc, ls, [], hp, 0, 0) := eg_step hmn _ hx h
/-- a local that nobody asks for any more -/
theorem ej_drop (i : Nat) (hl : ls.set i none = ls') (h : em_G l D τ sa A own mname bytes nL d (0, 0) ret K (pc, ls', st, hp, 0, 0)) : em_G l D τ sa A own mname bytes nL d (0, 0) ret K (pc, ls, st, hp, 0, 0) := by
  subst hl
  intro ν ro p e R s m args below meth c Q ws0 B hm hf hlo hlim hret H locs lsA stA ws hL hT hP hS hw
  refine h ν ro p e R s m args below meth c Q ws0 B hm hf hlo hlim hret H locs lsA stA ws ?_ hT hP hS hw
  obtain ⟨h1, lv, h2, h3⟩ := hL
  refine ⟨by rw [List.length_set]; exact h1, lv, h2, fun j a ha => h3 j a ?_⟩
  replace ha : (ls.set i none)[j]? = some (some a) := ha
  rw [List.getElem?_set] at ha
  by_cases e : i = j
  · subst e
    rw [if_pos rfl] at ha
    split at ha <;> cases ha
  · rw [if_neg e] at ha
    exact ha
end EJ
