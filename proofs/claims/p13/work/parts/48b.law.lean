/-! The law's frame, by hand: more rules. Written by hand (wip/p3/law1.lean). -/
section EL
variable {p : Program} {l : Launch} {e : Env} {s : State} {m : MethodId} {below : List Frame} {meth : Method} {c : Code} {b : Nat} {D : va_G} {τ : Nat → ClassId} {sa : List Nat} {ro : List ex_C} {Φ : (Nat → Int32) → Prop} {pc pc' a0 b0 : Nat} {z : Int} {ls ls' : List (Option ex_V)} {st st' r : List ex_V} {hp hp' : ex_H} {x y w : Int}
theorem el_iaload (hmn : em_mna) (BB : el_B p s m meth c b D τ sa ro) {q ty n P : Nat} {xs : List ex_V} {f : Int → Int} (hx : ek_J em_inf et_cls et_vt "WarmNightLaw" "law" code (pc, eh_iaload, a0, b0, z)) (hpc : pc + 1 = pc') (hq : ∀ k : ex_C → Bool, ex_hget hp q k = k (0, ty, n, P, xs)) (hR : ey_R n P f) (h0 : 0 ≤ x) (h1 : x < (n : Int)) (h : el_G p l e s m below meth c b D τ sa ro Φ (pc', ls, .inl (f x) :: r, hp, 362, 6690)) : el_G p l e s m below meth c b D τ sa ro Φ (pc, ls, .inl x :: .inr (.inr (.inl (some q))) :: r, hp, 362, 6690) := by
  subst hpc
  obtain ⟨i, rfl⟩ : ∃ i : Nat, x = i := ⟨x.toNat, by omega⟩
  obtain ⟨e1, e2, e3⟩ := hR i (by omega)
  exact el_step hmn BB _ hx (eb_iaload (cls := et_cls) (vt := et_vt) (lim := el_lim) (ret := some .boolean) (cal := el_cal l s D τ sa) (nat := false) (K := el_K) (a := a0) (b := b0) (z := z) hq rfl (by omega) e1 e2 e3 (el_go_of h))
theorem el_if_icmp (hmn : em_mna) (BB : el_B p s m meth c b D τ sa ro) {cc : ClassFile.Cond} {off : Int} {t : Nat} (hx : ek_J em_inf et_cls et_vt "WarmNightLaw" "law" code (pc, eh_if_icmp cc off, a0, b0, z)) (hpc : pc + 3 = pc') (hg : ∀ k : Nat → Bool, ex_tgt pc off k = k t) (ht : ey_P cc x y → el_G p l e s m below meth c b D τ sa ro Φ (t, ls, r, hp, 362, 6690)) (hf : ¬ ey_P cc x y → el_G p l e s m below meth c b D τ sa ro Φ (pc', ls, r, hp, 362, 6690)) : el_G p l e s m below meth c b D τ sa ro Φ (pc, ls, .inl y :: .inl x :: r, hp, 362, 6690) := by
  subst hpc
  exact el_step hmn BB _ hx (eb_if_icmp (cls := et_cls) (vt := et_vt) (lim := el_lim) (ret := some .boolean) (cal := el_cal l s D τ sa) (nat := false) (K := el_K) (a := a0) (b := b0) (z := z) hg (fun h => el_go_of (ht ((ey_P_iff cc x y).mp h))) (fun h => el_go_of (hf (fun g => by rw [(ey_P_iff cc x y).mpr g] at h; cases h))))
theorem el_ifCond (hmn : em_mna) (BB : el_B p s m meth c b D τ sa ro) {cc : ClassFile.Cond} {off : Int} {t : Nat} (hx : ek_J em_inf et_cls et_vt "WarmNightLaw" "law" code (pc, eh_ifCond cc off, a0, b0, z)) (hpc : pc + 3 = pc') (hg : ∀ k : Nat → Bool, ex_tgt pc off k = k t) (ht : ey_P cc x 0 → el_G p l e s m below meth c b D τ sa ro Φ (t, ls, r, hp, 362, 6690)) (hf : ¬ ey_P cc x 0 → el_G p l e s m below meth c b D τ sa ro Φ (pc', ls, r, hp, 362, 6690)) : el_G p l e s m below meth c b D τ sa ro Φ (pc, ls, .inl x :: r, hp, 362, 6690) := by
  subst hpc
  exact el_step hmn BB _ hx (eb_ifCond (cls := et_cls) (vt := et_vt) (lim := el_lim) (ret := some .boolean) (cal := el_cal l s D τ sa) (nat := false) (K := el_K) (a := a0) (b := b0) (z := z) hg (fun h => el_go_of (ht ((ey_P_iff cc x 0).mp h))) (fun h => el_go_of (hf (fun g => by rw [(ey_P_iff cc x 0).mpr g] at h; cases h))))
theorem el_iandw (hmn : em_mna) (BB : el_B p s m meth c b D τ sa ro) (hx : ek_J em_inf et_cls et_vt "WarmNightLaw" "law" code (pc, eh_iand, a0, b0, z)) (hpc : pc + 1 = pc') (h : ∀ w : Int, el_G p l e s m below meth c b D τ sa ro Φ (pc', ls, .inl w :: r, hp, 362, 6690)) : el_G p l e s m below meth c b D τ sa ro Φ (pc, ls, .inl y :: .inl x :: r, hp, 362, 6690) := by
  subst hpc
  refine el_step hmn BB _ hx ?_
  show ex_z (Int32.ofInt x &&& Int32.ofInt y).toInt (fun v => ex_n (pc + 1) (fun pc => el_go p l e s m below meth c b D τ sa ro Φ pc ls (.inl v :: r) hp 362 6690)) = true
  rw [ex_z_eq, ex_n_eq]
  exact el_go_of (h _)
theorem el_landw (hmn : em_mna) (BB : el_B p s m meth c b D τ sa ro) (hx : ek_J em_inf et_cls et_vt "WarmNightLaw" "law" code (pc, eh_land, a0, b0, z)) (hpc : pc + 1 = pc') (h : ∀ w : Int, el_G p l e s m below meth c b D τ sa ro Φ (pc', ls, .inr (.inl w) :: r, hp, 362, 6690)) : el_G p l e s m below meth c b D τ sa ro Φ (pc, ls, .inr (.inl y) :: .inr (.inl x) :: r, hp, 362, 6690) := by
  subst hpc
  refine el_step hmn BB _ hx ?_
  show ex_z (Int64.ofInt x &&& Int64.ofInt y).toInt (fun v => ex_n (pc + 1) (fun pc => el_go p l e s m below meth c b D τ sa ro Φ pc ls (.inr (.inl v) :: r) hp 362 6690)) = true
  rw [ex_z_eq, ex_n_eq]
  exact el_go_of (h _)
/-- another heap, perhaps by other names: a place whose locals and stack hold no names -/
theorem el_ren {Φ' : (Nat → Int32) → Prop} (hls : ∀ (ν ν' : Nat → Int32) (ws : va_W) (nL : Nat) (A' : Array Slot), er_L (er_r ν sa ws) nL ls A' → er_L (er_r ν' sa ws) nL ls A') (hst : ∀ (ν ν' : Nat → Int32) (ws : va_W) (A' : List Value), er_St (er_r ν sa ws) st A' → er_St (er_r ν' sa ws) st A') (hW : ∀ (ν : Nat → Int32) (ws : va_W) (H : Heap), Φ ν → er_W ν D τ sa ro (fun q => s.heap.size ≤ q) hp' ws H → ∃ ν' : Nat → Int32, Φ' ν' ∧ er_W ν' D τ sa ro (fun q => s.heap.size ≤ q) hp ws H) (h : el_G p l e s m below meth c b D τ sa ro Φ' (pc, ls, st, hp, 362, 6690)) : el_G p l e s m below meth c b D τ sa ro Φ (pc, ls, st, hp', 362, 6690) := by
  intro ν hν H locs lsA stA ws hL hT hP hS hw
  obtain ⟨ν', h1, h2⟩ := hW ν ws H hν hP
  exact h ν' h1 H locs lsA stA ws (hls _ _ _ _ _ hL) (hst _ _ _ _ hT) h2 hS hw
theorem el_zreturn (hmn : em_mna) (BB : el_B p s m meth c b D τ sa ro) (hx : ek_J em_inf et_cls et_vt "WarmNightLaw" "law" code (pc, eh_ireturn, a0, b0, z)) : el_G p l e s m below meth c b D τ sa ro Φ (pc, ls, [.inl 1], hp, 362, 6690) := el_step hmn BB _ hx rfl
end EL
