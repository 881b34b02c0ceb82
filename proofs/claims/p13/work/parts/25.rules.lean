/-! Rules for steps by hand: what the handlers do with ints that are known by a letter. -/
theorem eg_at {own mname : String} {bytes : ByteArray} {tb : List (List ex_J)} (hT : ∀ ch ∈ tb, ∀ x ∈ ch, ek_J em_inf et_cls et_vt own mname bytes x) (i j : Nat) {x : ex_J} {ch : List ex_J} (h1 : tb[i]? = some ch) (h2 : ch[j]? = some x) : ek_J em_inf et_cls et_vt own mname bytes x := hT ch (List.mem_of_getElem? h1) x (List.mem_of_getElem? h2)
theorem ey_fit {z : Int} (h1 : -2147483648 ≤ z) (h2 : z ≤ 2147483647) : ex_fit32 z = true := by
  cases z with
  | ofNat n => exact Nat.ble_eq.mpr (by have : (Int.ofNat n) = (n : Int) := rfl; omega)
  | negSucc n => exact Nat.ble_eq.mpr (by have : Int.negSucc n = -((n : Int) + 1) := Int.negSucc_eq n; omega)
theorem ey_add {x y : Int} {k : ex_V → Bool} (h1 : -2147483648 ≤ x + y) (h2 : x + y ≤ 2147483647) (h : k (.inl (x + y)) = true) : ex_add (.inl x) (.inl y) k = true := by
  show ex_z (x + y) (fun z => if ex_fit32 z then k (.inl z) else ex_bin (· + ·) (.inl x) (.inl y) k) = true
  rw [ex_z_eq, if_pos (ey_fit h1 h2)]; exact h
theorem ey_sub {x y : Int} {k : ex_V → Bool} (h1 : -2147483648 ≤ x - y) (h2 : x - y ≤ 2147483647) (h : k (.inl (x - y)) = true) : ex_sub (.inl x) (.inl y) k = true := by
  show ex_z (x - y) (fun z => if ex_fit32 z then k (.inl z) else ex_bin (· - ·) (.inl x) (.inl y) k) = true
  rw [ex_z_eq, if_pos (ey_fit h1 h2)]; exact h
theorem ey_mul {x y : Int} {k : ex_V → Bool} (h1 : -2147483648 ≤ x * y) (h2 : x * y ≤ 2147483647) (h : k (.inl (x * y)) = true) : ex_mul (.inl x) (.inl y) k = true := by
  show ex_z (x * y) (fun z => if ex_fit32 z then k (.inl z) else ex_bin (· * ·) (.inl x) (.inl y) k) = true
  rw [ex_z_eq, if_pos (ey_fit h1 h2)]; exact h
/-- a known int as it stands in an array -/
def ex_wd (x : Int) : Nat := (x + 2147483648).toNat + (x + 2147483648).toNat * 4294967296
theorem ey_el {P i : Nat} {x : Int} {k : ex_V → Bool} (hp : ex_pg P i = ex_wd x) (h1 : -2147483648 ≤ x) (h2 : x ≤ 2147483647) (h : k (.inl x) = true) : ex_el P i k = true := by
  unfold ex_el
  simp only [ex_n_eq, ex_z_eq]
  rw [hp]
  unfold ex_wd
  obtain ⟨n, hn⟩ : ∃ n : Nat, x + 2147483648 = n := ⟨(x + 2147483648).toNat, by omega⟩
  have e : (x + 2147483648).toNat = n := by omega
  rw [e]
  have e1 : (n + n * 4294967296) % 4294967296 = n := by omega
  have e2 : (n + n * 4294967296) / 4294967296 = n := by omega
  rw [e1, e2]
  have e3 : Int.subNatNat n 2147483648 = x := by rw [Int.subNatNat_eq_coe]; omega
  rw [e3, Nat.beq_refl]
  exact h
theorem ey_ld {n P i : Nat} {x z : Int} {k : ex_V → Bool} (hz : z = (i : Int)) (hi : i < n) (hp : ex_pg P i = ex_wd x) (h1 : -2147483648 ≤ x) (h2 : x ≤ 2147483647) (h : k (.inl x) = true) : ex_ld n P (.inl z) k = true := by
  subst hz
  show (bif Nat.ble (i + 1) n then ex_el P i k else false) = true
  rw [Nat.ble_eq.mpr hi]
  exact ey_el hp h1 h2 h
theorem ey_pk {x : Int} {k : Nat → Bool} (h1 : -2147483648 ≤ x) (h2 : x ≤ 2147483647) (h : k (ex_wd x) = true) : ex_pk (.inl x) k = true := by
  obtain ⟨n, hn⟩ : ∃ n : Nat, x + 2147483648 = n := ⟨(x + 2147483648).toNat, by omega⟩
  have hw : ex_wd x = n + n * 4294967296 := by unfold ex_wd; rw [hn]; rfl
  unfold ex_pk ex_i
  simp only
  rw [hn]
  show (bif Nat.ble n 4294967295 && Nat.ble n 4294967295 then ex_n (n + n * 4294967296) k else false) = true
  rw [Nat.ble_eq.mpr (by omega : n ≤ 4294967295), ex_n_eq, ← hw]
  exact h
theorem ey_br {c : ClassFile.Cond} {x y : Int} {kt kf : Bool} (ht : ex_cmp c x y = true → kt = true) (hf : ex_cmp c x y = false → kf = true) : ex_br c (.inl x) (.inl y) kt kf = true := by
  show (if ex_cmp c x y then kt else kf) = true
  cases h : ex_cmp c x y with
  | true => rw [if_pos rfl]; exact ht h
  | false => rw [if_neg Bool.false_ne_true]; exact hf h
theorem ey_lt {x y : Int} : ex_cmp .lt x y = true ↔ x < y := by
  show (!(ex_le y x)) = true ↔ _
  rw [Bool.not_eq_true', ← Bool.not_eq_true, ex_le_iff]; omega
theorem ey_ge {x y : Int} : ex_cmp .ge x y = true ↔ y ≤ x := by
  show ex_le y x = true ↔ _
  rw [ex_le_iff]
theorem ey_gt {x y : Int} : ex_cmp .gt x y = true ↔ y < x := by
  show (!(ex_le x y)) = true ↔ _
  rw [Bool.not_eq_true', ← Bool.not_eq_true, ex_le_iff]; omega
theorem ey_le {x y : Int} : ex_cmp .le x y = true ↔ x ≤ y := by
  show ex_le x y = true ↔ _
  rw [ex_le_iff]
theorem ey_eq {x y : Int} : ex_cmp .eq x y = true ↔ x = y := by
  show ex_eq x y = true ↔ _
  rw [ex_eq_iff]
theorem ey_ne {x y : Int} : ex_cmp .ne x y = true ↔ x ≠ y := by
  show (!(ex_eq x y)) = true ↔ _
  rw [Bool.not_eq_true', ← Bool.not_eq_true, ex_eq_iff]
section EH
variable {cls : List (List ex_V)} {vt : List (List (Nat × Nat))} {lim : Nat × Nat} {ret : Option FieldType} {go : Nat → List (Option ex_V) → List ex_V → ex_H → Nat → Nat → Bool} {cal : Nat → List ex_V → ex_H → Nat → Nat → (Option ex_V → ex_H → Nat → Nat → Bool) → Bool} {nat : Bool} {K : Option ex_V → ex_H → Bool} {pc a b : Nat} {z : Int} {ls : List (Option ex_V)} {r : List ex_V} {hp : ex_H} {ce sl : Nat} {x y : Int}
theorem eb_iadd {w : Int} (hw : w = x + y) (h1 : -2147483648 ≤ w) (h2 : w ≤ 2147483647) (h : go (pc + 1) ls (.inl w :: r) hp ce sl = true) : eh_iadd cls vt lim ret go cal nat K pc a b z ls (.inl y :: .inl x :: r) hp ce sl = true := by
  subst hw
  show ex_add (.inl x) (.inl y) (fun v => ex_n (pc + 1) (fun pc => go pc ls (v :: r) hp ce sl)) = true
  exact ey_add h1 h2 (by rw [ex_n_eq]; exact h)
theorem eb_isub {w : Int} (hw : w = x - y) (h1 : -2147483648 ≤ w) (h2 : w ≤ 2147483647) (h : go (pc + 1) ls (.inl w :: r) hp ce sl = true) : eh_isub cls vt lim ret go cal nat K pc a b z ls (.inl y :: .inl x :: r) hp ce sl = true := by
  subst hw
  show ex_sub (.inl x) (.inl y) (fun v => ex_n (pc + 1) (fun pc => go pc ls (v :: r) hp ce sl)) = true
  exact ey_sub h1 h2 (by rw [ex_n_eq]; exact h)
theorem eb_imul {w : Int} (hw : w = x * y) (h1 : -2147483648 ≤ w) (h2 : w ≤ 2147483647) (h : go (pc + 1) ls (.inl w :: r) hp ce sl = true) : eh_imul cls vt lim ret go cal nat K pc a b z ls (.inl y :: .inl x :: r) hp ce sl = true := by
  subst hw
  show ex_mul (.inl x) (.inl y) (fun v => ex_n (pc + 1) (fun pc => go pc ls (v :: r) hp ce sl)) = true
  exact ey_mul h1 h2 (by rw [ex_n_eq]; exact h)
theorem eb_iaload {q ty n P i : Nat} {xs : List ex_V} {zi : Int} (hq : ∀ k : ex_C → Bool, ex_hget hp q k = k (0, ty, n, P, xs)) (hz : zi = (i : Int)) (hi : i < n) (hpg : ex_pg P i = ex_wd x) (h1 : -2147483648 ≤ x) (h2 : x ≤ 2147483647) (h : go (pc + 1) ls (.inl x :: r) hp ce sl = true) : eh_iaload cls vt lim ret go cal nat K pc a b z ls (.inl zi :: .inr (.inr (.inl (some q))) :: r) hp ce sl = true := by
  show ex_hget hp q (fun o => match o with | (t, _, n, p, _) => if Nat.beq t 0 then ex_ld n p (.inl zi) (fun w => ex_n (pc + 1) (fun pc => go pc ls (w :: r) hp ce sl)) else false) = true
  rw [hq]
  exact ey_ld hz hi hpg h1 h2 (by rw [ex_n_eq]; exact h)
theorem eb_baload {q ty n P i : Nat} {xs : List ex_V} {zi : Int} (hq : ∀ k : ex_C → Bool, ex_hget hp q k = k (1, ty, n, P, xs)) (hz : zi = (i : Int)) (hi : i < n) (hpg : ex_pg P i = ex_wd x) (h1 : -2147483648 ≤ x) (h2 : x ≤ 2147483647) (h : go (pc + 1) ls (.inl x :: r) hp ce sl = true) : eh_baload cls vt lim ret go cal nat K pc a b z ls (.inl zi :: .inr (.inr (.inl (some q))) :: r) hp ce sl = true := by
  show ex_hget hp q (fun o => match o with | (t, _, n, p, _) => if Nat.beq t 1 then ex_ld n p (.inl zi) (fun w => ex_n (pc + 1) (fun pc => go pc ls (w :: r) hp ce sl)) else false) = true
  rw [hq]
  exact ey_ld hz hi hpg h1 h2 (by rw [ex_n_eq]; exact h)
theorem eb_if_icmp {c : ClassFile.Cond} {off : Int} {t : Nat} (hg : ∀ k : Nat → Bool, ex_tgt pc off k = k t) (ht : ex_cmp c x y = true → go t ls r hp ce sl = true) (hf : ex_cmp c x y = false → go (pc + 3) ls r hp ce sl = true) : eh_if_icmp c off cls vt lim ret go cal nat K pc a b z ls (.inl y :: .inl x :: r) hp ce sl = true := by
  show ex_br c (.inl x) (.inl y) (ex_tgt pc off (fun t => go t ls r hp ce sl)) (ex_n (pc + 3) (fun pc => go pc ls r hp ce sl)) = true
  rw [hg, ex_n_eq]
  exact ey_br ht hf
theorem eb_ifCond {c : ClassFile.Cond} {off : Int} {t : Nat} (hg : ∀ k : Nat → Bool, ex_tgt pc off k = k t) (ht : ex_cmp c x 0 = true → go t ls r hp ce sl = true) (hf : ex_cmp c x 0 = false → go (pc + 3) ls r hp ce sl = true) : eh_ifCond c off cls vt lim ret go cal nat K pc a b z ls (.inl x :: r) hp ce sl = true := by
  show ex_br c (.inl x) (.inl 0) (ex_tgt pc off (fun t => go t ls r hp ce sl)) (ex_n (pc + 3) (fun pc => go pc ls r hp ce sl)) = true
  rw [hg, ex_n_eq]
  exact ey_br ht hf
end EH
section EI
variable {l : Launch} {D : va_G} {τ : Nat → ClassId} {sa : List Nat} {A : Nat → Prop} {own mname : String} {bytes : ByteArray} {nL d : Nat} {ret : Option FieldType} {K : Option ex_V → ex_H → Bool} {pc a b : Nat} {z : Int} {ls : List (Option ex_V)} {r : List ex_V} {hp : ex_H} {ce sl : Nat} {x y w : Int}
theorem ei_iadd (hmn : em_mna) (hx : ek_J em_inf et_cls et_vt own mname bytes (pc, eh_iadd, a, b, z)) (hw : w = x + y) (h1 : -2147483648 ≤ w) (h2 : w ≤ 2147483647) (h : em_G l D τ sa A own mname bytes nL d (0, 0) ret K (pc + 1, ls, .inl w :: r, hp, ce, sl)) : em_G l D τ sa A own mname bytes nL d (0, 0) ret K (pc, ls, .inl y :: .inl x :: r, hp, ce, sl) := eg_step hmn _ hx (eb_iadd (cls := et_cls) (vt := et_vt) (lim := (0, 0)) (ret := ret) (cal := eg_cal l D τ sa A d) (nat := false) (K := K) (a := a) (b := b) (z := z) hw h1 h2 (eg_go_of h))
theorem ei_isub (hmn : em_mna) (hx : ek_J em_inf et_cls et_vt own mname bytes (pc, eh_isub, a, b, z)) (hw : w = x - y) (h1 : -2147483648 ≤ w) (h2 : w ≤ 2147483647) (h : em_G l D τ sa A own mname bytes nL d (0, 0) ret K (pc + 1, ls, .inl w :: r, hp, ce, sl)) : em_G l D τ sa A own mname bytes nL d (0, 0) ret K (pc, ls, .inl y :: .inl x :: r, hp, ce, sl) := eg_step hmn _ hx (eb_isub (cls := et_cls) (vt := et_vt) (lim := (0, 0)) (ret := ret) (cal := eg_cal l D τ sa A d) (nat := false) (K := K) (a := a) (b := b) (z := z) hw h1 h2 (eg_go_of h))
theorem ei_imul (hmn : em_mna) (hx : ek_J em_inf et_cls et_vt own mname bytes (pc, eh_imul, a, b, z)) (hw : w = x * y) (h1 : -2147483648 ≤ w) (h2 : w ≤ 2147483647) (h : em_G l D τ sa A own mname bytes nL d (0, 0) ret K (pc + 1, ls, .inl w :: r, hp, ce, sl)) : em_G l D τ sa A own mname bytes nL d (0, 0) ret K (pc, ls, .inl y :: .inl x :: r, hp, ce, sl) := eg_step hmn _ hx (eb_imul (cls := et_cls) (vt := et_vt) (lim := (0, 0)) (ret := ret) (cal := eg_cal l D τ sa A d) (nat := false) (K := K) (a := a) (b := b) (z := z) hw h1 h2 (eg_go_of h))
theorem ei_iaload (hmn : em_mna) {q ty n P i : Nat} {xs : List ex_V} {zi : Int} (hx : ek_J em_inf et_cls et_vt own mname bytes (pc, eh_iaload, a, b, z)) (hq : ∀ k : ex_C → Bool, ex_hget hp q k = k (0, ty, n, P, xs)) (hz : zi = (i : Int)) (hi : i < n) (hpg : ex_pg P i = ex_wd x) (h1 : -2147483648 ≤ x) (h2 : x ≤ 2147483647) (h : em_G l D τ sa A own mname bytes nL d (0, 0) ret K (pc + 1, ls, .inl x :: r, hp, ce, sl)) : em_G l D τ sa A own mname bytes nL d (0, 0) ret K (pc, ls, .inl zi :: .inr (.inr (.inl (some q))) :: r, hp, ce, sl) := eg_step hmn _ hx (eb_iaload (cls := et_cls) (vt := et_vt) (lim := (0, 0)) (ret := ret) (cal := eg_cal l D τ sa A d) (nat := false) (K := K) (a := a) (b := b) (z := z) hq hz hi hpg h1 h2 (eg_go_of h))
theorem ei_baload (hmn : em_mna) {q ty n P i : Nat} {xs : List ex_V} {zi : Int} (hx : ek_J em_inf et_cls et_vt own mname bytes (pc, eh_baload, a, b, z)) (hq : ∀ k : ex_C → Bool, ex_hget hp q k = k (1, ty, n, P, xs)) (hz : zi = (i : Int)) (hi : i < n) (hpg : ex_pg P i = ex_wd x) (h1 : -2147483648 ≤ x) (h2 : x ≤ 2147483647) (h : em_G l D τ sa A own mname bytes nL d (0, 0) ret K (pc + 1, ls, .inl x :: r, hp, ce, sl)) : em_G l D τ sa A own mname bytes nL d (0, 0) ret K (pc, ls, .inl zi :: .inr (.inr (.inl (some q))) :: r, hp, ce, sl) := eg_step hmn _ hx (eb_baload (cls := et_cls) (vt := et_vt) (lim := (0, 0)) (ret := ret) (cal := eg_cal l D τ sa A d) (nat := false) (K := K) (a := a) (b := b) (z := z) hq hz hi hpg h1 h2 (eg_go_of h))
theorem ei_if_icmp (hmn : em_mna) {c : ClassFile.Cond} {off : Int} {t : Nat} (hx : ek_J em_inf et_cls et_vt own mname bytes (pc, eh_if_icmp c off, a, b, z)) (hg : ∀ k : Nat → Bool, ex_tgt pc off k = k t) (ht : ex_cmp c x y = true → em_G l D τ sa A own mname bytes nL d (0, 0) ret K (t, ls, r, hp, ce, sl)) (hf : ex_cmp c x y = false → em_G l D τ sa A own mname bytes nL d (0, 0) ret K (pc + 3, ls, r, hp, ce, sl)) : em_G l D τ sa A own mname bytes nL d (0, 0) ret K (pc, ls, .inl y :: .inl x :: r, hp, ce, sl) := eg_step hmn _ hx (eb_if_icmp (cls := et_cls) (vt := et_vt) (lim := (0, 0)) (ret := ret) (cal := eg_cal l D τ sa A d) (nat := false) (K := K) (a := a) (b := b) (z := z) hg (fun h => eg_go_of (ht h)) (fun h => eg_go_of (hf h)))
theorem ei_ifCond (hmn : em_mna) {c : ClassFile.Cond} {off : Int} {t : Nat} (hx : ek_J em_inf et_cls et_vt own mname bytes (pc, eh_ifCond c off, a, b, z)) (hg : ∀ k : Nat → Bool, ex_tgt pc off k = k t) (ht : ex_cmp c x 0 = true → em_G l D τ sa A own mname bytes nL d (0, 0) ret K (t, ls, r, hp, ce, sl)) (hf : ex_cmp c x 0 = false → em_G l D τ sa A own mname bytes nL d (0, 0) ret K (pc + 3, ls, r, hp, ce, sl)) : em_G l D τ sa A own mname bytes nL d (0, 0) ret K (pc, ls, .inl x :: r, hp, ce, sl) := eg_step hmn _ hx (eb_ifCond (cls := et_cls) (vt := et_vt) (lim := (0, 0)) (ret := ret) (cal := eg_cal l D τ sa A d) (nat := false) (K := K) (a := a) (b := b) (z := z) hg (fun h => eg_go_of (ht h)) (fun h => eg_go_of (hf h)))
end EI
