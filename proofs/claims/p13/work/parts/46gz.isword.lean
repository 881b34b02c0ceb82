/-! isWord, by hand: the String constant and its charAt (part 06). Printed by wip/p3/iswordgen.py. -/
theorem em_X.ofC {l : Launch} {D : va_G} {τ : Nat → ClassId} {sa : List Nat} {A : Nat → Prop} {mi : Nat} {tb : List (List ex_J)} {nl : Nat} {ret : Option FieldType} (hat : ex_at2 eu_ms mi = some (tb, nl, ret, 0, 0)) {y : MethodName} {bytes : ByteArray} (hinf : em_inf[mi]? = some (y, bytes, nl, ret)) {as : List ex_V} {hp : ex_H} {Post : Option ex_V → ex_H → Prop} {dd : Nat} {q : List (Option ex_V)} (hq : ∀ k : List (Option ex_V) → Bool, ex_locs as nl k = k q)
    (h : (∀ ch ∈ tb, ∀ x ∈ ch, ek_J em_inf et_cls et_vt y.cls y.name bytes x) → em_G l D τ sa A y.cls y.name bytes nl dd (0, 0) ret (fun v hp' => @decide (Post v hp') (Classical.propDecidable _)) (0, q, [], hp, 0, 0)) : em_X l D τ sa A mi as hp Post dd := by
  obtain ⟨y', bytes', i1, i2, i3, i4⟩ := eo_ok mi tb nl ret 0 0 hat
  have e := Option.some.inj (i1.symm.trans hinf)
  obtain ⟨rfl, e2⟩ := Prod.mk.inj e
  obtain ⟨rfl, -⟩ := Prod.mk.inj e2
  refine ⟨y', bytes', nl, ret, i1, i3, fun ν ro avs ws ha => ?_⟩
  obtain ⟨q', k1, k2, k3⟩ := ex_locs_ok as nl (fun q' => @decide (q' = q) (Classical.propDecidable _)) ((hq _).trans (@decide_eq_true _ (Classical.propDecidable _) rfl))
  obtain rfl := @of_decide_eq_true _ (Classical.propDecidable _) k1
  obtain ⟨f1, f2⟩ := k3 ha
  exact er_metG (ν := ν) (ro := ro) i2 k2 (h i4) avs ws f1 f2
theorem es_w40 : decode prog_11_method_7_code 40 = .ok (.ldc 66, 2) := by decide +kernel
theorem es_w42 : decode prog_11_method_7_code 42 = .ok (.iload_n 1, 1) := by decide +kernel
theorem es_w43 : decode prog_11_method_7_code 43 = .ok (.iconst 5, 1) := by decide +kernel
theorem es_w44 : decode prog_11_method_7_code 44 = .ok (.imul, 1) := by decide +kernel
theorem es_w45 : decode prog_11_method_7_code 45 = .ok (.iload_n 3, 1) := by decide +kernel
theorem es_w46 : decode prog_11_method_7_code 46 = .ok (.iadd, 1) := by decide +kernel
theorem es_w47 : decode prog_11_method_7_code 47 = .ok (.invokevirtual 68, 3) := by decide +kernel
theorem es_ix {x z : Int32} {wd i : Int} (hx : x.toInt = wd) (hz : z.toInt = i) (hw : 0 ≤ wd ∧ wd < 10) (hi : 0 ≤ i ∧ i < 5) : (x * 5 + z).toInt = 5 * wd + i := by
  have e5 : (5 : Int32).toInt = 5 := by decide
  have h1 : (x * 5).toInt = 5 * wd := by
    rw [Int32.toInt_mul, e5, hx]
    show Int.bmod (wd * 5) 4294967296 = _
    rw [Int.bmod_def]
    split <;> omega
  rw [Int32.toInt_add, h1, hz]
  show Int.bmod (5 * wd + i) 4294967296 = _
  rw [Int.bmod_def]
  split <;> omega
theorem es_40 {l : Launch} {D : va_G} {τ : Nat → ClassId} {sa : List Nat} {A : Nat → Prop} {own mname : String} {bytes : ByteArray} {ret : Option FieldType} (ho : own = "WarmNight$Text") (hby : bytes = prog_11_method_7_code) {d : Nat} (hd : 4 ≤ d) {K : Option ex_V → ex_H → Bool} {o0 o2 o4 : Option ex_V} {wd i : Int} {hp : ex_H} (hw : 0 ≤ wd ∧ wd < 10) (hi : 0 ≤ i ∧ i < 5)
    (h : ∀ r : Int, em_G l D τ sa A own mname bytes 5 d (0, 0) ret K (50, [o0, some (.inl wd), o2, some (.inl i), o4], [.inl r], hp, 0, 0)) : em_G l D τ sa A own mname bytes 5 d (0, 0) ret K (40, [o0, some (.inl wd), o2, some (.inl i), o4], [], hp, 0, 0) := by
  subst ho
  subst hby
  intro ν ro p e R s m args below meth c Q ws0 B hm hf hlo hlim hret H locs lsA stA ws hL hT hP hS hw0
  have hx := B.1
  have hb := B.2.1
  have hml := B.2.2.1
  have hown := B.2.2.2.1
  have hts := B.2.2.2.2.1
  obtain ⟨q, v, hR, hTs⟩ := B.2.2.2.2.2.2.2.2.2.2.2.2
  obtain rfl := hT.nil
  obtain ⟨v1, ⟨x, rfl, ex⟩, h1⟩ := hL.get (i := 1) (a := .inl wd) rfl
  obtain ⟨v3, ⟨z, rfl, ez⟩, h3⟩ := hL.get (i := 3) (a := .inl i) rfl
  obtain ⟨cell, c1, c2, c3, -⟩ := hTs.1.kept hS.2.1
  have hsz : lsA.size = 5 := by
    obtain ⟨-, lv, g, -⟩ := hL
    exact g.1
  show W p l e R s m args below meth c H locs 0 0 Q (F0 m 40 lsA [])
  refine va_ldcS hx hb hown hR es_w40 ?_
  refine lv_iload_n hx hb es_w42 rfl h1 ?_
  refine lv_iconst hx hb es_w43 (v := 5) rfl ?_
  refine lv_imul hx hb es_w44 ?_
  refine lv_iload_n hx hb es_w45 rfl h3 ?_
  refine lv_iadd hx hb es_w46 ?_
  refine lv_topi (fun y ey => ?_)
  have hy : y.toInt = 5 * wd + i := by rw [ey]; exact es_ix ex ez hw hi
  have hy0 : ¬ y < 0 := by
    intro hh
    have := Int32.lt_iff_toInt_lt.mp hh
    have e0 : (0 : Int32).toInt = 0 := by decide
    omega
  have hy1 : y < 50 := by
    refine Int32.lt_iff_toInt_lt.mpr ?_
    have e0 : (50 : Int32).toInt = 50 := by decide
    omega
  refine es_go (es_sW p l e R s m args below meth c H locs 0 0 0 0 prog_11_method_7_code 5 (es_rm 3) _ _ _ q [.int y] [] (F0 m 47 lsA [.int y, .ref q]) ⟨hx, hb, hml, hown, hts⟩ (es_chr (q := q) (v := v) (A := A) hy0 hy1) rfl rfl ⟨show 3 + 1 ≤ R.frames by omega, show 8 + (2 + 11) + 64 * 3 ≤ R.locals by omega⟩ ⟨es_blind, ⟨cell, c1, c2, c3⟩, fun U hU hW => ⟨rfl, by rw [hU]; exact (hTs.kept hS.2.1).moved hW.alike⟩⟩ rfl rfl hsz rfl (Nat.le_of_ble_eq_true rfl) es_w47 ⟨Nat.zero_le _, Nat.zero_le _⟩) ?_
  rintro rv ⟨r, rfl, -⟩
  exact h r.toInt ν ro p e R s m args below meth c Q ws0 B hm hf hlo hlim hret H locs lsA [.int r] ws hL ⟨⟨r, rfl, rfl⟩, trivial⟩ hP hS hw0
theorem eq_iw_l {l : Launch} {D : va_G} {τ : Nat → ClassId} {sa : List Nat} {A : Nat → Prop} (hmn : em_mna) {own mname : String} {bytes : ByteArray} (hT : ∀ ch ∈ eu_76, ∀ x ∈ ch, ek_J em_inf et_cls et_vt own mname bytes x) (ho : own = "WarmNight$Text") (hby : bytes = prog_11_method_7_code) {d : Nat} (hd : 4 ≤ d) {K : Option ex_V → ex_H → Bool} {L it p wd le : Int} (l0 : 0 ≤ L ∧ L ≤ 300) (hp : 0 ≤ p ∧ p ≤ 300) (hw : 0 ≤ wd ∧ wd < 10) (hK : ∀ r : Int, (r = 0 ∨ r = 1) → K (some (.inl r)) (et_c L it p) = true) : ∀ (i : Nat) (j : Int) (o4 : Option ex_V), 5 - j < i → (0 ≤ j ∧ j ≤ 5) → em_G l D τ sa A own mname bytes 5 d (0, 0) (some .boolean) K (13, [some (.inr (.inr (.inl (some 46)))), some (.inl (wd)), some (.inl (le)), some (.inl (j)), o4], [], (et_c (L) (it) (p)), 0, 0) := by
  intro i
  induction i with
  | zero => intro j o4 hi hj; exfalso; omega
  | succ i ih =>
    intro j o4 hi hj
    refine ej_plain hmn (eg_at hT 0 9 rfl rfl) (pc' := 14) (ls' := [some (.inr (.inr (.inl (some 46)))), some (.inl (wd)), some (.inl (le)), some (.inl (j)), o4]) (st' := [.inl (j)]) (fun _ _ => rfl) ?_
    refine ej_plain hmn (eg_at hT 0 10 rfl rfl) (pc' := 15) (ls' := [some (.inr (.inr (.inl (some 46)))), some (.inl (wd)), some (.inl (le)), some (.inl (j)), o4]) (st' := [.inl (5), .inl (j)]) (fun _ _ => rfl) ?_
    refine ej_if_icmp hmn (eg_at hT 0 11 rfl rfl) (pc' := 18) rfl (fun _ => rfl) (fun (wc1 : 5 ≤ j) => ?_) (fun (wc1 : ¬ (5 ≤ j)) => ?_)
    · refine ej_plain hmn (eg_at hT 1 14 rfl rfl) (pc' := 64) (ls' := [some (.inr (.inr (.inl (some 46)))), some (.inl (wd)), some (.inl (le)), some (.inl (j)), o4]) (st' := [.inl (1)]) (fun _ _ => rfl) ?_
      exact ej_zreturn hmn (eg_at hT 2 0 rfl rfl) (by omega) (by omega) (hK _ (by omega))
    · refine ej_plain hmn (eg_at hT 0 12 rfl rfl) (pc' := 19) (ls' := [some (.inr (.inr (.inl (some 46)))), some (.inl (wd)), some (.inl (le)), some (.inl (j)), o4]) (st' := [.inl (j)]) (fun _ _ => rfl) ?_
      refine ej_plain hmn (eg_at hT 0 13 rfl rfl) (pc' := 20) (ls' := [some (.inr (.inr (.inl (some 46)))), some (.inl (wd)), some (.inl (le)), some (.inl (j)), o4]) (st' := [.inl (le), .inl (j)]) (fun _ _ => rfl) ?_
      refine ej_if_icmp hmn (eg_at hT 0 14 rfl rfl) (pc' := 23) rfl (fun _ => rfl) (fun (wc2 : le ≤ j) => ?_) (fun (wc2 : ¬ (le ≤ j)) => ?_)
      · refine ej_plain hmn (eg_at hT 1 1 rfl rfl) (pc' := 38) (ls' := [some (.inr (.inr (.inl (some 46)))), some (.inl (wd)), some (.inl (le)), some (.inl (j)), o4]) (st' := [.inl (32)]) (fun _ _ => rfl) ?_
        refine ej_plain hmn (eg_at hT 1 2 rfl rfl) (pc' := 40) (ls' := [some (.inr (.inr (.inl (some 46)))), some (.inl (wd)), some (.inl (le)), some (.inl (j)), some (.inl (32))]) (st' := []) (fun _ _ => rfl) ?_
        refine es_40 ho hby hd hw (by omega) (fun wq3 => ?_)
        show em_G l D τ sa A own mname bytes 5 d (0, 0) (some .boolean) K (50, [some (.inr (.inr (.inl (some 46)))), some (.inl (wd)), some (.inl (le)), some (.inl (j)), some (.inl (32))], [.inl (wq3)], (et_c (L) (it) (p)), 0, 0)
        refine ej_plain hmn (eg_at hT 1 8 rfl rfl) (pc' := 52) (ls' := [some (.inr (.inr (.inl (some 46)))), some (.inl (wd)), some (.inl (le)), some (.inl (j)), some (.inl (32))]) (st' := [.inl (32), .inl (wq3)]) (fun _ _ => rfl) ?_
        refine ej_if_icmp hmn (eg_at hT 1 9 rfl rfl) (pc' := 55) rfl (fun _ => rfl) (fun (wc4 : wq3 = 32) => ?_) (fun (wc4 : ¬ (wq3 = 32)) => ?_)
        · refine ej_iinc hmn (eg_at hT 1 12 rfl rfl) (pc' := 60) rfl (w := 1) rfl (fun _ => rfl) (lsf := fun V => [some (.inr (.inr (.inl (some 46)))), some (.inl (wd)), some (.inl (le)), some V, some (.inl (32))]) (fun _ _ => rfl) (by decide) (by decide) (by omega) (by omega) ?_
          refine ej_plain hmn (eg_at hT 1 13 rfl rfl) (pc' := 13) (ls' := [some (.inr (.inr (.inl (some 46)))), some (.inl (wd)), some (.inl (le)), some (.inl (j + 1)), some (.inl (32))]) (st' := []) (fun _ _ => rfl) ?_
          exact ih _ _ (by omega) (by omega)
        · refine ej_plain hmn (eg_at hT 1 10 rfl rfl) (pc' := 56) (ls' := [some (.inr (.inr (.inl (some 46)))), some (.inl (wd)), some (.inl (le)), some (.inl (j)), some (.inl (32))]) (st' := [.inl (0)]) (fun _ _ => rfl) ?_
          exact ej_zreturn hmn (eg_at hT 1 11 rfl rfl) (by omega) (by omega) (hK _ (by omega))
      · refine ej_plain hmn (eg_at hT 0 15 rfl rfl) (pc' := 24) (ls' := [some (.inr (.inr (.inl (some 46)))), some (.inl (wd)), some (.inl (le)), some (.inl (j)), o4]) (st' := [.inr (.inr (.inl (some 46)))]) (fun _ _ => rfl) ?_
        refine ej_plain hmn (eg_at hT 0 16 rfl rfl) (pc' := 25) (ls' := [some (.inr (.inr (.inl (some 46)))), some (.inl (wd)), some (.inl (le)), some (.inl (j)), o4]) (st' := [.inr (.inr (.inl (some 46))), .inr (.inr (.inl (some 46)))]) (fun _ _ => rfl) ?_
        refine ej_plain hmn (eg_at hT 0 17 rfl rfl) (pc' := 28) (ls' := [some (.inr (.inr (.inl (some 46)))), some (.inl (wd)), some (.inl (le)), some (.inl (j)), o4]) (st' := [.inl (p), .inr (.inr (.inl (some 46)))]) (fun _ _ => rfl) ?_
        refine ej_plain hmn (eg_at hT 0 18 rfl rfl) (pc' := 29) (ls' := [some (.inr (.inr (.inl (some 46)))), some (.inl (wd)), some (.inl (le)), some (.inl (j)), o4]) (st' := [.inl (j), .inl (p), .inr (.inr (.inl (some 46)))]) (fun _ _ => rfl) ?_
        refine ej_iadd hmn (eg_at hT 0 19 rfl rfl) (pc' := 30) rfl (by omega) (by omega) ?_
        refine ej_call hmn (eg_at hT 0 20 rfl rfl) (pc' := 33) (r := []) (eq_byteAt hmn (j := p + j) l0) (by omega) (fun _ _ => rfl) (fun v hp' hP => ?_)
        obtain ⟨wr5, rfl, rfl, wr5a, wr5b⟩ := hP
        show em_G l D τ sa A own mname bytes 5 d (0, 0) (some .boolean) K (33, [some (.inr (.inr (.inl (some 46)))), some (.inl (wd)), some (.inl (le)), some (.inl (j)), o4], [.inl (wr5)], (et_c (L) (it) (p)), 0, 0)
        refine ej_plain hmn (eg_at hT 1 0 rfl rfl) (pc' := 38) (ls' := [some (.inr (.inr (.inl (some 46)))), some (.inl (wd)), some (.inl (le)), some (.inl (j)), o4]) (st' := [.inl (wr5)]) (fun _ _ => rfl) ?_
        refine ej_plain hmn (eg_at hT 1 2 rfl rfl) (pc' := 40) (ls' := [some (.inr (.inr (.inl (some 46)))), some (.inl (wd)), some (.inl (le)), some (.inl (j)), some (.inl (wr5))]) (st' := []) (fun _ _ => rfl) ?_
        refine es_40 ho hby hd hw (by omega) (fun wq6 => ?_)
        show em_G l D τ sa A own mname bytes 5 d (0, 0) (some .boolean) K (50, [some (.inr (.inr (.inl (some 46)))), some (.inl (wd)), some (.inl (le)), some (.inl (j)), some (.inl (wr5))], [.inl (wq6)], (et_c (L) (it) (p)), 0, 0)
        refine ej_plain hmn (eg_at hT 1 8 rfl rfl) (pc' := 52) (ls' := [some (.inr (.inr (.inl (some 46)))), some (.inl (wd)), some (.inl (le)), some (.inl (j)), some (.inl (wr5))]) (st' := [.inl (wr5), .inl (wq6)]) (fun _ _ => rfl) ?_
        refine ej_if_icmp hmn (eg_at hT 1 9 rfl rfl) (pc' := 55) rfl (fun _ => rfl) (fun (wc7 : wq6 = wr5) => ?_) (fun (wc7 : ¬ (wq6 = wr5)) => ?_)
        · refine ej_iinc hmn (eg_at hT 1 12 rfl rfl) (pc' := 60) rfl (w := 1) rfl (fun _ => rfl) (lsf := fun V => [some (.inr (.inr (.inl (some 46)))), some (.inl (wd)), some (.inl (le)), some V, some (.inl (wr5))]) (fun _ _ => rfl) (by decide) (by decide) (by omega) (by omega) ?_
          refine ej_plain hmn (eg_at hT 1 13 rfl rfl) (pc' := 13) (ls' := [some (.inr (.inr (.inl (some 46)))), some (.inl (wd)), some (.inl (le)), some (.inl (j + 1)), some (.inl (wr5))]) (st' := []) (fun _ _ => rfl) ?_
          exact ih _ _ (by omega) (by omega)
        · refine ej_plain hmn (eg_at hT 1 10 rfl rfl) (pc' := 56) (ls' := [some (.inr (.inr (.inl (some 46)))), some (.inl (wd)), some (.inl (le)), some (.inl (j)), some (.inl (wr5))]) (st' := [.inl (0)]) (fun _ _ => rfl) ?_
          exact ej_zreturn hmn (eg_at hT 1 11 rfl rfl) (by omega) (by omega) (hK _ (by omega))
theorem eq_isWord {l : Launch} {D : va_G} {τ : Nat → ClassId} {sa : List Nat} {A : Nat → Prop} (hmn : em_mna) {L it p wd le : Int} (l0 : 0 ≤ L ∧ L ≤ 300) (hp : 0 ≤ p ∧ p ≤ 300) (hw : 0 ≤ wd ∧ wd < 10) : em_X l D τ sa A 76 [(.inr (.inr (.inl (some 46)))), .inl wd, .inl le] (et_c L it p) (fun w hp' => ∃ r : Int, w = some (.inl r) ∧ hp' = et_c L it p ∧ (r = 0 ∨ r = 1)) 4 := by
  refine em_X.ofC (tb := eu_76) (nl := 5) (ret := some .boolean) rfl (y := ⟨"WarmNight$Text", "isWord", "(II)Z"⟩) (bytes := prog_11_method_7_code) rfl (q := [some (.inr (.inr (.inl (some 46)))), some (.inl (wd)), some (.inl (le)), none, none]) (fun _ => rfl) (fun hT => ?_)
  refine ej_plain hmn (eg_at hT 0 0 rfl rfl) (pc' := 1) (ls' := [some (.inr (.inr (.inl (some 46)))), some (.inl (wd)), some (.inl (le)), none, none]) (st' := [.inl (le)]) (fun _ _ => rfl) ?_
  refine ej_plain hmn (eg_at hT 0 1 rfl rfl) (pc' := 2) (ls' := [some (.inr (.inr (.inl (some 46)))), some (.inl (wd)), some (.inl (le)), none, none]) (st' := [.inl (1), .inl (le)]) (fun _ _ => rfl) ?_
  refine ej_plain hmn (eg_at hT 0 2 rfl rfl) (pc' := 3) (ls' := [some (.inr (.inr (.inl (some 46)))), some (.inl (wd)), some (.inl (le)), none, none]) (st' := [.inl (5), .inl (1), .inl (le)]) (fun _ _ => rfl) ?_
  refine ej_call hmn (eg_at hT 0 3 rfl rfl) (pc' := 6) (r := []) (eq_within hmn (v := le) (lo := 1) (hi := 5)) (by omega) (fun _ _ => rfl) (fun v hp' hP => ?_)
  obtain ⟨yr1, rfl, rfl, yr1a, yr1b⟩ := hP
  show em_G l D τ sa A _ _ _ 5 4 (0, 0) (some .boolean) _ (6, [some (.inr (.inr (.inl (some 46)))), some (.inl (wd)), some (.inl (le)), none, none], [.inl (yr1)], (et_c (L) (it) (p)), 0, 0)
  refine ej_ifCond hmn (eg_at hT 0 4 rfl rfl) (pc' := 9) rfl (fun _ => rfl) (fun (yc2 : yr1 ≠ 0) => ?_) (fun (yc2 : ¬ (yr1 ≠ 0)) => ?_)
  · refine ej_plain hmn (eg_at hT 0 7 rfl rfl) (pc' := 12) (ls' := [some (.inr (.inr (.inl (some 46)))), some (.inl (wd)), some (.inl (le)), none, none]) (st' := [.inl (0)]) (fun _ _ => rfl) ?_
    refine ej_plain hmn (eg_at hT 0 8 rfl rfl) (pc' := 13) (ls' := [some (.inr (.inr (.inl (some 46)))), some (.inl (wd)), some (.inl (le)), some (.inl (0)), none]) (st' := []) (fun _ _ => rfl) ?_
    exact eq_iw_l hmn hT rfl rfl (Nat.le_refl 4) l0 hp hw (fun r h => @decide_eq_true _ (Classical.propDecidable _) ⟨r, rfl, rfl, h⟩) 6 0 _ (by decide) (by decide)
  · refine ej_plain hmn (eg_at hT 0 5 rfl rfl) (pc' := 10) (ls' := [some (.inr (.inr (.inl (some 46)))), some (.inl (wd)), some (.inl (le)), none, none]) (st' := [.inl (0)]) (fun _ _ => rfl) ?_
    exact ej_zreturn hmn (eg_at hT 0 6 rfl rfl) (by omega) (by omega) (@decide_eq_true _ (Classical.propDecidable _) ⟨_, rfl, rfl, by omega⟩)
