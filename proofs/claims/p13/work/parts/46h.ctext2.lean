/-! The class reads a text, by hand: words, items. Printed by wip/p3/ctextgen2.py. -/
theorem eq_rw_W {l : Launch} {D : va_G} {τ : Nat → ClassId} {sa : List Nat} {A : Nat → Prop} (hmn : em_mna) {own mname : String} {bytes : ByteArray} (hT : ∀ ch ∈ eu_75, ∀ x ∈ ch, ek_J em_inf et_cls et_vt own mname bytes x) {d : Nat} (hd : 5 ≤ d) {K : Option ex_V → ex_H → Bool} {L it p : Int} (l0 : 0 ≤ L ∧ L ≤ 300) (hp : 0 ≤ p ∧ p ≤ 300) (hK : ∀ r p' : Int, (-1 ≤ r ∧ r < 10) → (p ≤ p' ∧ p' ≤ 300) → K (some (.inl r)) (et_c L it p') = true) {en : Int} (he : p ≤ en ∧ en ≤ 300) : ∀ (i : Nat) (wd : Int), 10 - wd < i → (0 ≤ wd ∧ wd ≤ 10) → em_G l D τ sa A own mname bytes 3 d (0, 0) (some .int) K (37, [some (.inr (.inr (.inl (some 46)))), some (.inl (en)), some (.inl (wd))], [], (et_c (L) (it) (p)), 0, 0) := by
  intro i
  induction i with
  | zero => intro wd hi hw; exfalso; omega
  | succ i ih =>
    intro wd hi hw
    refine ej_plain hmn (eg_at hT 1 3 rfl rfl) (pc' := 38) (ls' := [some (.inr (.inr (.inl (some 46)))), some (.inl (en)), some (.inl (wd))]) (st' := [.inl (wd)]) (fun _ _ => rfl) ?_
    refine ej_plain hmn (eg_at hT 1 4 rfl rfl) (pc' := 40) (ls' := [some (.inr (.inr (.inl (some 46)))), some (.inl (en)), some (.inl (wd))]) (st' := [.inl (10), .inl (wd)]) (fun _ _ => rfl) ?_
    refine ej_if_icmp hmn (eg_at hT 1 5 rfl rfl) (pc' := 43) rfl (fun _ => rfl) (fun (wc1 : 10 ≤ wd) => ?_) (fun (wc1 : ¬ (10 ≤ wd)) => ?_)
    · refine ej_plain hmn (eg_at hT 2 2 rfl rfl) (pc' := 71) (ls' := [some (.inr (.inr (.inl (some 46)))), some (.inl (en)), some (.inl (wd))]) (st' := [.inl (-1)]) (fun _ _ => rfl) ?_
      exact ej_ireturn hmn (eg_at hT 2 3 rfl rfl) (hK _ _ (by omega) (by omega))
    · refine ej_plain hmn (eg_at hT 1 6 rfl rfl) (pc' := 44) (ls' := [some (.inr (.inr (.inl (some 46)))), some (.inl (en)), some (.inl (wd))]) (st' := [.inr (.inr (.inl (some 46)))]) (fun _ _ => rfl) ?_
      refine ej_plain hmn (eg_at hT 1 7 rfl rfl) (pc' := 45) (ls' := [some (.inr (.inr (.inl (some 46)))), some (.inl (en)), some (.inl (wd))]) (st' := [.inl (wd), .inr (.inr (.inl (some 46)))]) (fun _ _ => rfl) ?_
      refine ej_plain hmn (eg_at hT 1 8 rfl rfl) (pc' := 46) (ls' := [some (.inr (.inr (.inl (some 46)))), some (.inl (en)), some (.inl (wd))]) (st' := [.inl (en), .inl (wd), .inr (.inr (.inl (some 46)))]) (fun _ _ => rfl) ?_
      refine ej_plain hmn (eg_at hT 1 9 rfl rfl) (pc' := 47) (ls' := [some (.inr (.inr (.inl (some 46)))), some (.inl (en)), some (.inl (wd))]) (st' := [.inr (.inr (.inl (some 46))), .inl (en), .inl (wd), .inr (.inr (.inl (some 46)))]) (fun _ _ => rfl) ?_
      refine ej_plain hmn (eg_at hT 1 10 rfl rfl) (pc' := 50) (ls' := [some (.inr (.inr (.inl (some 46)))), some (.inl (en)), some (.inl (wd))]) (st' := [.inl (p), .inl (en), .inl (wd), .inr (.inr (.inl (some 46)))]) (fun _ _ => rfl) ?_
      refine ej_isub hmn (eg_at hT 1 11 rfl rfl) (pc' := 51) rfl (by omega) (by omega) ?_
      refine ej_call hmn (eg_at hT 1 12 rfl rfl) (pc' := 54) (r := []) (eq_isWord hmn (wd := wd) (le := en - p) l0 hp (by omega)) (by omega) (fun _ _ => rfl) (fun v hp' hP => ?_)
      obtain ⟨wr2, rfl, rfl, wr2a⟩ := hP
      show em_G l D τ sa A own mname bytes 3 d (0, 0) (some .int) K (54, [some (.inr (.inr (.inl (some 46)))), some (.inl (en)), some (.inl (wd))], [.inl (wr2)], (et_c (L) (it) (p)), 0, 0)
      refine ej_ifCond hmn (eg_at hT 1 13 rfl rfl) (pc' := 57) rfl (fun _ => rfl) (fun (wc3 : wr2 = 0) => ?_) (fun (wc3 : ¬ (wr2 = 0)) => ?_)
      · refine ej_iinc hmn (eg_at hT 2 0 rfl rfl) (pc' := 67) rfl (w := 1) rfl (fun _ => rfl) (lsf := fun V => [some (.inr (.inr (.inl (some 46)))), some (.inl (en)), some V]) (fun _ _ => rfl) (by decide) (by decide) (by omega) (by omega) ?_
        refine ej_plain hmn (eg_at hT 2 1 rfl rfl) (pc' := 37) (ls' := [some (.inr (.inr (.inl (some 46)))), some (.inl (en)), some (.inl (wd + 1))]) (st' := []) (fun _ _ => rfl) ?_
        exact ih _ (by omega) (by omega)
      · refine ej_plain hmn (eg_at hT 1 14 rfl rfl) (pc' := 58) (ls' := [some (.inr (.inr (.inl (some 46)))), some (.inl (en)), some (.inl (wd))]) (st' := [.inr (.inr (.inl (some 46)))]) (fun _ _ => rfl) ?_
        refine ej_plain hmn (eg_at hT 1 15 rfl rfl) (pc' := 59) (ls' := [some (.inr (.inr (.inl (some 46)))), some (.inl (en)), some (.inl (wd))]) (st' := [.inl (en), .inr (.inr (.inl (some 46)))]) (fun _ _ => rfl) ?_
        refine ej_plain hmn (eg_at hT 1 16 rfl rfl) (pc' := 62) (ls' := [some (.inr (.inr (.inl (some 46)))), some (.inl (en)), some (.inl (wd))]) (st' := []) (hp' := (et_c (L) (it) (en))) (fun _ _ => rfl) ?_
        refine ej_plain hmn (eg_at hT 1 17 rfl rfl) (pc' := 63) (ls' := [some (.inr (.inr (.inl (some 46)))), some (.inl (en)), some (.inl (wd))]) (st' := [.inl (wd)]) (fun _ _ => rfl) ?_
        exact ej_ireturn hmn (eg_at hT 1 18 rfl rfl) (hK _ _ (by omega) (by omega))
theorem eq_rw_E {l : Launch} {D : va_G} {τ : Nat → ClassId} {sa : List Nat} {A : Nat → Prop} (hmn : em_mna) {own mname : String} {bytes : ByteArray} (hT : ∀ ch ∈ eu_75, ∀ x ∈ ch, ek_J em_inf et_cls et_vt own mname bytes x) {d : Nat} (hd : 5 ≤ d) {K : Option ex_V → ex_H → Bool} {L it p : Int} (l0 : 0 ≤ L ∧ L ≤ 300) (hp : 0 ≤ p ∧ p ≤ 300) (hK : ∀ r p' : Int, (-1 ≤ r ∧ r < 10) → (p ≤ p' ∧ p' ≤ 300) → K (some (.inl r)) (et_c L it p') = true) : ∀ (i : Nat) (en : Int), 300 - en < i → (p ≤ en ∧ en ≤ 300) → em_G l D τ sa A own mname bytes 3 d (0, 0) (some .int) K (5, [some (.inr (.inr (.inl (some 46)))), some (.inl (en)), none], [], (et_c (L) (it) (p)), 0, 0) := by
  intro i
  induction i with
  | zero => intro en hi hw; exfalso; omega
  | succ i ih =>
    intro en hi hw
    refine ej_plain hmn (eg_at hT 0 3 rfl rfl) (pc' := 6) (ls' := [some (.inr (.inr (.inl (some 46)))), some (.inl (en)), none]) (st' := [.inl (en)]) (fun _ _ => rfl) ?_
    refine ej_plain hmn (eg_at hT 0 4 rfl rfl) (pc' := 7) (ls' := [some (.inr (.inr (.inl (some 46)))), some (.inl (en)), none]) (st' := [.inr (.inr (.inl (some 46))), .inl (en)]) (fun _ _ => rfl) ?_
    refine ej_plain hmn (eg_at hT 0 5 rfl rfl) (pc' := 10) (ls' := [some (.inr (.inr (.inl (some 46)))), some (.inl (en)), none]) (st' := [.inl (L), .inl (en)]) (fun _ _ => rfl) ?_
    refine ej_if_icmp hmn (eg_at hT 0 6 rfl rfl) (pc' := 13) rfl (fun _ => rfl) (fun (ec1 : L ≤ en) => ?_) (fun (ec1 : ¬ (L ≤ en)) => ?_)
    · refine ej_plain hmn (eg_at hT 1 1 rfl rfl) (pc' := 36) (ls' := [some (.inr (.inr (.inl (some 46)))), some (.inl (en)), none]) (st' := [.inl (0)]) (fun _ _ => rfl) ?_
      refine ej_plain hmn (eg_at hT 1 2 rfl rfl) (pc' := 37) (ls' := [some (.inr (.inr (.inl (some 46)))), some (.inl (en)), some (.inl (0))]) (st' := []) (fun _ _ => rfl) ?_
      exact eq_rw_W hmn hT hd l0 hp hK (by omega) 11 0 (by decide) (by decide)
    · refine ej_plain hmn (eg_at hT 0 7 rfl rfl) (pc' := 14) (ls' := [some (.inr (.inr (.inl (some 46)))), some (.inl (en)), none]) (st' := [.inr (.inr (.inl (some 46)))]) (fun _ _ => rfl) ?_
      refine ej_plain hmn (eg_at hT 0 8 rfl rfl) (pc' := 17) (ls' := [some (.inr (.inr (.inl (some 46)))), some (.inl (en)), none]) (st' := [.inr (.inr (.inl (some 47)))]) (fun _ _ => rfl) ?_
      refine ej_plain hmn (eg_at hT 0 9 rfl rfl) (pc' := 18) (ls' := [some (.inr (.inr (.inl (some 46)))), some (.inl (en)), none]) (st' := [.inl (en), .inr (.inr (.inl (some 47)))]) (fun _ _ => rfl) ?_
      refine ej_ialoadW hmn (eg_at hT 0 10 rfl rfl) (pc' := 19) (n := 300) (lo := (-2147483648)) (hi := (2147483647)) rfl (fun _ => rfl) (by omega) (by omega) (evw_47 _ (by omega)) (by decide) (fun ev2 ev2a ev2b => ?_)
      refine ej_plain hmn (eg_at hT 0 11 rfl rfl) (pc' := 21) (ls' := [some (.inr (.inr (.inl (some 46)))), some (.inl (en)), none]) (st' := [.inl (97), .inl (ev2)]) (fun _ _ => rfl) ?_
      refine ej_plain hmn (eg_at hT 0 12 rfl rfl) (pc' := 23) (ls' := [some (.inr (.inr (.inl (some 46)))), some (.inl (en)), none]) (st' := [.inl (122), .inl (97), .inl (ev2)]) (fun _ _ => rfl) ?_
      refine ej_call hmn (eg_at hT 0 13 rfl rfl) (pc' := 26) (r := []) (eq_within hmn (v := ev2) (lo := 97) (hi := 122)) (by omega) (fun _ _ => rfl) (fun v hp' hP => ?_)
      obtain ⟨er3, rfl, rfl, er3a, er3b⟩ := hP
      show em_G l D τ sa A own mname bytes 3 d (0, 0) (some .int) K (26, [some (.inr (.inr (.inl (some 46)))), some (.inl (en)), none], [.inl (er3)], (et_c (L) (it) (p)), 0, 0)
      refine ej_ifCond hmn (eg_at hT 0 14 rfl rfl) (pc' := 29) rfl (fun _ => rfl) (fun (ec4 : er3 = 0) => ?_) (fun (ec4 : ¬ (er3 = 0)) => ?_)
      · refine ej_plain hmn (eg_at hT 1 1 rfl rfl) (pc' := 36) (ls' := [some (.inr (.inr (.inl (some 46)))), some (.inl (en)), none]) (st' := [.inl (0)]) (fun _ _ => rfl) ?_
        refine ej_plain hmn (eg_at hT 1 2 rfl rfl) (pc' := 37) (ls' := [some (.inr (.inr (.inl (some 46)))), some (.inl (en)), some (.inl (0))]) (st' := []) (fun _ _ => rfl) ?_
        exact eq_rw_W hmn hT hd l0 hp hK (by omega) 11 0 (by decide) (by decide)
      · refine ej_iinc hmn (eg_at hT 0 15 rfl rfl) (pc' := 32) rfl (w := 1) rfl (fun _ => rfl) (lsf := fun V => [some (.inr (.inr (.inl (some 46)))), some V, none]) (fun _ _ => rfl) (by decide) (by decide) (by omega) (by omega) ?_
        refine ej_plain hmn (eg_at hT 1 0 rfl rfl) (pc' := 5) (ls' := [some (.inr (.inr (.inl (some 46)))), some (.inl (en + 1)), none]) (st' := []) (fun _ _ => rfl) ?_
        exact ih _ (by omega) (by omega)
theorem eq_readWord {l : Launch} {D : va_G} {τ : Nat → ClassId} {sa : List Nat} {A : Nat → Prop} (hmn : em_mna) {L it p : Int} (l0 : 0 ≤ L ∧ L ≤ 300) (hp : 0 ≤ p ∧ p ≤ 300) : em_X l D τ sa A 75 [(.inr (.inr (.inl (some 46))))] (et_c L it p) (fun w hp' => ∃ r p' : Int, w = some (.inl r) ∧ hp' = et_c L it p' ∧ (-1 ≤ r ∧ r < 10) ∧ (p ≤ p' ∧ p' ≤ 300)) 5 := by
  refine em_X.of (tb := eu_75) (nl := 3) (ret := some .int) rfl (q := [some (.inr (.inr (.inl (some 46)))), none, none]) (fun _ => rfl) (fun own mname bytes hT => ?_)
  refine ej_plain hmn (eg_at hT 0 0 rfl rfl) (pc' := 1) (ls' := [some (.inr (.inr (.inl (some 46)))), none, none]) (st' := [.inr (.inr (.inl (some 46)))]) (fun _ _ => rfl) ?_
  refine ej_plain hmn (eg_at hT 0 1 rfl rfl) (pc' := 4) (ls' := [some (.inr (.inr (.inl (some 46)))), none, none]) (st' := [.inl (p)]) (fun _ _ => rfl) ?_
  refine ej_plain hmn (eg_at hT 0 2 rfl rfl) (pc' := 5) (ls' := [some (.inr (.inr (.inl (some 46)))), some (.inl (p)), none]) (st' := []) (fun _ _ => rfl) ?_
  exact eq_rw_E hmn hT (Nat.le_refl 5) l0 hp (fun r p' h1 h2 => @decide_eq_true _ (Classical.propDecidable _) ⟨r, p', rfl, rfl, h1, h2⟩) 301 p (by omega) (by omega)
theorem eq_ri_l {l : Launch} {D : va_G} {τ : Nat → ClassId} {sa : List Nat} {A : Nat → Prop} (hmn : em_mna) {own mname : String} {bytes : ByteArray} (hT : ∀ ch ∈ eu_74, ∀ x ∈ ch, ek_J em_inf et_cls et_vt own mname bytes x) {d : Nat} (hd : 6 ≤ d) {K : Option ex_V → ex_H → Bool} {L it p0 im : Int} (l0 : 0 ≤ L ∧ L ≤ 300) (z0 : 0 ≤ p0) (hi_ : 0 ≤ im ∧ im < 50) (hK : ∀ r p' : Int, (r = 0 ∨ r = 1) → (p0 ≤ p' ∧ p' ≤ 300) → K (some (.inl r)) (et_c L it p') = true) {wd : Int} (hw : 0 ≤ wd ∧ wd < 10) : ∀ (i : Nat) (p k : Int), 5 - k < i → (0 ≤ k ∧ k ≤ 5) → (p0 ≤ p ∧ p ≤ 300) → em_G l D τ sa A own mname bytes 4 d (0, 0) (some .boolean) K (21, [some (.inr (.inr (.inl (some 46)))), some (.inl (im)), some (.inl (wd)), some (.inl (k))], [], (et_c (L) (it) (p)), 0, 0) := by
  intro i
  induction i with
  | zero => intro p k hi hk; exfalso; omega
  | succ i ih =>
    intro p k hi hk hp
    refine ej_plain hmn (eg_at hT 0 15 rfl rfl) (pc' := 22) (ls' := [some (.inr (.inr (.inl (some 46)))), some (.inl (im)), some (.inl (wd)), some (.inl (k))]) (st' := [.inl (k)]) (fun _ _ => rfl) ?_
    refine ej_plain hmn (eg_at hT 0 16 rfl rfl) (pc' := 25) (ls' := [some (.inr (.inr (.inl (some 46)))), some (.inl (im)), some (.inl (wd)), some (.inl (k))]) (st' := [.inr (.inr (.inl (some 3))), .inl (k)]) (fun _ _ => rfl) ?_
    refine ej_plain hmn (eg_at hT 0 17 rfl rfl) (pc' := 26) (ls' := [some (.inr (.inr (.inl (some 46)))), some (.inl (im)), some (.inl (wd)), some (.inl (k))]) (st' := [.inl (wd), .inr (.inr (.inl (some 3))), .inl (k)]) (fun _ _ => rfl) ?_
    refine ej_numof hmn (eg_at hT 0 18 rfl rfl) (pc' := 27) rfl (by omega) (by omega) (fun nv1 nv1a nv1b => ?_)
    refine ej_if_icmp hmn (eg_at hT 0 19 rfl rfl) (pc' := 30) rfl (fun _ => rfl) (fun (nc2 : nv1 ≤ k) => ?_) (fun (nc2 : ¬ (nv1 ≤ k)) => ?_)
    · refine ej_plain hmn (eg_at hT 1 9 rfl rfl) (pc' := 52) (ls' := [some (.inr (.inr (.inl (some 46)))), some (.inl (im)), some (.inl (wd)), some (.inl (k))]) (st' := [.inr (.inr (.inl (some 46)))]) (fun _ _ => rfl) ?_
      refine ej_call hmn (eg_at hT 1 10 rfl rfl) (pc' := 55) (r := []) (eq_skipBlanks hmn l0 (by omega)) (by omega) (fun _ _ => rfl) (fun w hp' hP => ?_)
      obtain ⟨pnz3, rfl, rfl, hnz3⟩ := hP
      show em_G l D τ sa A own mname bytes 4 d (0, 0) (some .boolean) K (55, [some (.inr (.inr (.inl (some 46)))), some (.inl (im)), some (.inl (wd)), some (.inl (k))], [], (et_c (L) (it) (pnz3)), 0, 0)
      refine ej_plain hmn (eg_at hT 1 11 rfl rfl) (pc' := 56) (ls' := [some (.inr (.inr (.inl (some 46)))), some (.inl (im)), some (.inl (wd)), some (.inl (k))]) (st' := [.inr (.inr (.inl (some 46)))]) (fun _ _ => rfl) ?_
      refine ej_plain hmn (eg_at hT 1 12 rfl rfl) (pc' := 57) (ls' := [some (.inr (.inr (.inl (some 46)))), some (.inl (im)), some (.inl (wd)), some (.inl (k))]) (st' := [.inr (.inr (.inl (some 46))), .inr (.inr (.inl (some 46)))]) (fun _ _ => rfl) ?_
      refine ej_plain hmn (eg_at hT 1 13 rfl rfl) (pc' := 60) (ls' := [some (.inr (.inr (.inl (some 46)))), some (.inl (im)), some (.inl (wd)), some (.inl (k))]) (st' := [.inl (pnz3), .inr (.inr (.inl (some 46)))]) (fun _ _ => rfl) ?_
      refine ej_call hmn (eg_at hT 1 14 rfl rfl) (pc' := 63) (r := []) (eq_byteAt hmn (j := pnz3) l0) (by omega) (fun _ _ => rfl) (fun v hp' hP => ?_)
      obtain ⟨rnz4, rfl, rfl, rnz4a, rnz4b⟩ := hP
      show em_G l D τ sa A own mname bytes 4 d (0, 0) (some .boolean) K (63, [some (.inr (.inr (.inl (some 46)))), some (.inl (im)), some (.inl (wd)), some (.inl (k))], [.inl (rnz4)], (et_c (L) (it) (pnz3)), 0, 0)
      refine ej_plain hmn (eg_at hT 1 15 rfl rfl) (pc' := 65) (ls' := [some (.inr (.inr (.inl (some 46)))), some (.inl (im)), some (.inl (wd)), some (.inl (k))]) (st' := [.inl (59), .inl (rnz4)]) (fun _ _ => rfl) ?_
      refine ej_if_icmp hmn (eg_at hT 2 0 rfl rfl) (pc' := 68) rfl (fun _ => rfl) (fun (nc5 : rnz4 = 59) => ?_) (fun (nc5 : ¬ (rnz4 = 59)) => ?_)
      · refine ej_plain hmn (eg_at hT 2 3 rfl rfl) (pc' := 71) (ls' := [some (.inr (.inr (.inl (some 46)))), some (.inl (im)), some (.inl (wd)), some (.inl (k))]) (st' := [.inr (.inr (.inl (some 46)))]) (fun _ _ => rfl) ?_
        refine ej_plain hmn (eg_at hT 2 4 rfl rfl) (pc' := 72) (ls' := [some (.inr (.inr (.inl (some 46)))), some (.inl (im)), some (.inl (wd)), some (.inl (k))]) (st' := [.inr (.inr (.inl (some 46))), .inr (.inr (.inl (some 46)))]) (fun _ _ => rfl) ?_
        refine ej_plain hmn (eg_at hT 2 5 rfl rfl) (pc' := 75) (ls' := [some (.inr (.inr (.inl (some 46)))), some (.inl (im)), some (.inl (wd)), some (.inl (k))]) (st' := [.inl (pnz3), .inr (.inr (.inl (some 46)))]) (fun _ _ => rfl) ?_
        refine ej_plain hmn (eg_at hT 2 6 rfl rfl) (pc' := 76) (ls' := [some (.inr (.inr (.inl (some 46)))), some (.inl (im)), some (.inl (wd)), some (.inl (k))]) (st' := [.inl (1), .inl (pnz3), .inr (.inr (.inl (some 46)))]) (fun _ _ => rfl) ?_
        refine ej_iadd hmn (eg_at hT 2 7 rfl rfl) (pc' := 77) rfl (by omega) (by omega) ?_
        refine ej_plain hmn (eg_at hT 2 8 rfl rfl) (pc' := 80) (ls' := [some (.inr (.inr (.inl (some 46)))), some (.inl (im)), some (.inl (wd)), some (.inl (k))]) (st' := []) (hp' := (et_c (L) (it) (pnz3 + 1))) (fun _ _ => rfl) ?_
        refine ej_plain hmn (eg_at hT 2 9 rfl rfl) (pc' := 81) (ls' := [some (.inr (.inr (.inl (some 46)))), some (.inl (im)), some (.inl (wd)), some (.inl (k))]) (st' := [.inl (1)]) (fun _ _ => rfl) ?_
        exact ej_zreturn hmn (eg_at hT 2 10 rfl rfl) (by omega) (by omega) (hK _ _ (by omega) (by omega))
      · refine ej_plain hmn (eg_at hT 2 1 rfl rfl) (pc' := 69) (ls' := [some (.inr (.inr (.inl (some 46)))), some (.inl (im)), some (.inl (wd)), some (.inl (k))]) (st' := [.inl (0)]) (fun _ _ => rfl) ?_
        exact ej_zreturn hmn (eg_at hT 2 2 rfl rfl) (by omega) (by omega) (hK _ _ (by omega) (by omega))
    · refine ej_plain hmn (eg_at hT 0 20 rfl rfl) (pc' := 31) (ls' := [some (.inr (.inr (.inl (some 46)))), some (.inl (im)), some (.inl (wd)), some (.inl (k))]) (st' := [.inr (.inr (.inl (some 46)))]) (fun _ _ => rfl) ?_
      refine ej_call hmn (eg_at hT 0 21 rfl rfl) (pc' := 34) (r := []) (eq_skipBlanks hmn l0 (by omega)) (by omega) (fun _ _ => rfl) (fun w hp' hP => ?_)
      obtain ⟨pnz6, rfl, rfl, hnz6⟩ := hP
      show em_G l D τ sa A own mname bytes 4 d (0, 0) (some .boolean) K (34, [some (.inr (.inr (.inl (some 46)))), some (.inl (im)), some (.inl (wd)), some (.inl (k))], [], (et_c (L) (it) (pnz6)), 0, 0)
      refine ej_plain hmn (eg_at hT 1 0 rfl rfl) (pc' := 35) (ls' := [some (.inr (.inr (.inl (some 46)))), some (.inl (im)), some (.inl (wd)), some (.inl (k))]) (st' := [.inr (.inr (.inl (some 46)))]) (fun _ _ => rfl) ?_
      refine ej_plain hmn (eg_at hT 1 1 rfl rfl) (pc' := 36) (ls' := [some (.inr (.inr (.inl (some 46)))), some (.inl (im)), some (.inl (wd)), some (.inl (k))]) (st' := [.inl (im), .inr (.inr (.inl (some 46)))]) (fun _ _ => rfl) ?_
      refine ej_plain hmn (eg_at hT 1 2 rfl rfl) (pc' := 37) (ls' := [some (.inr (.inr (.inl (some 46)))), some (.inl (im)), some (.inl (wd)), some (.inl (k))]) (st' := [.inl (k), .inl (im), .inr (.inr (.inl (some 46)))]) (fun _ _ => rfl) ?_
      refine ej_call hmn (eg_at hT 1 3 rfl rfl) (pc' := 40) (r := []) (eq_readNumber hmn l0 (by omega) hi_ (by omega)) (by omega) (fun _ _ => rfl) (fun w hp' hP => ?_)
      obtain ⟨rnz7, pnz7, rfl, rfl, gnz7, hnz7⟩ := hP
      show em_G l D τ sa A own mname bytes 4 d (0, 0) (some .boolean) K (40, [some (.inr (.inr (.inl (some 46)))), some (.inl (im)), some (.inl (wd)), some (.inl (k))], [.inl (rnz7)], (et_c (L) (it) (pnz7)), 0, 0)
      refine ej_ifCond hmn (eg_at hT 1 4 rfl rfl) (pc' := 43) rfl (fun _ => rfl) (fun (nc8 : rnz7 ≠ 0) => ?_) (fun (nc8 : ¬ (rnz7 ≠ 0)) => ?_)
      · refine ej_iinc hmn (eg_at hT 1 7 rfl rfl) (pc' := 48) rfl (w := 1) rfl (fun _ => rfl) (lsf := fun V => [some (.inr (.inr (.inl (some 46)))), some (.inl (im)), some (.inl (wd)), some V]) (fun _ _ => rfl) (by decide) (by decide) (by omega) (by omega) ?_
        refine ej_plain hmn (eg_at hT 1 8 rfl rfl) (pc' := 21) (ls' := [some (.inr (.inr (.inl (some 46)))), some (.inl (im)), some (.inl (wd)), some (.inl (k + 1))]) (st' := []) (fun _ _ => rfl) ?_
        exact ih _ _ (by omega) (by omega) (by omega)
      · refine ej_plain hmn (eg_at hT 1 5 rfl rfl) (pc' := 44) (ls' := [some (.inr (.inr (.inl (some 46)))), some (.inl (im)), some (.inl (wd)), some (.inl (k))]) (st' := [.inl (0)]) (fun _ _ => rfl) ?_
        exact ej_zreturn hmn (eg_at hT 1 6 rfl rfl) (by omega) (by omega) (hK _ _ (by omega) (by omega))
theorem eq_readItem {l : Launch} {D : va_G} {τ : Nat → ClassId} {sa : List Nat} {A : Nat → Prop} (hmn : em_mna) {L it p im : Int} (l0 : 0 ≤ L ∧ L ≤ 300) (hp : 0 ≤ p ∧ p ≤ 300) (hi_ : 0 ≤ im ∧ im < 50) : em_X l D τ sa A 74 [(.inr (.inr (.inl (some 46)))), .inl im] (et_c L it p) (fun w hp' => ∃ r p' : Int, w = some (.inl r) ∧ hp' = et_c L it p' ∧ (r = 0 ∨ r = 1) ∧ (p ≤ p' ∧ p' ≤ 300)) 6 := by
  refine em_X.of (tb := eu_74) (nl := 4) (ret := some .boolean) rfl (q := [some (.inr (.inr (.inl (some 46)))), some (.inl (im)), none, none]) (fun _ => rfl) (fun own mname bytes hT => ?_)
  refine ej_plain hmn (eg_at hT 0 0 rfl rfl) (pc' := 1) (ls' := [some (.inr (.inr (.inl (some 46)))), some (.inl (im)), none, none]) (st' := [.inr (.inr (.inl (some 46)))]) (fun _ _ => rfl) ?_
  refine ej_call hmn (eg_at hT 0 1 rfl rfl) (pc' := 4) (r := []) (eq_readWord hmn l0 (by omega)) (by omega) (fun _ _ => rfl) (fun w hp' hP => ?_)
  obtain ⟨ryz1, pyz1, rfl, rfl, gyz1, hyz1⟩ := hP
  show em_G l D τ sa A own mname bytes 4 6 (0, 0) (some .boolean) _ (4, [some (.inr (.inr (.inl (some 46)))), some (.inl (im)), none, none], [.inl (ryz1)], (et_c (L) (it) (pyz1)), 0, 0)
  refine ej_plain hmn (eg_at hT 0 2 rfl rfl) (pc' := 5) (ls' := [some (.inr (.inr (.inl (some 46)))), some (.inl (im)), some (.inl (ryz1)), none]) (st' := []) (fun _ _ => rfl) ?_
  refine ej_plain hmn (eg_at hT 0 3 rfl rfl) (pc' := 6) (ls' := [some (.inr (.inr (.inl (some 46)))), some (.inl (im)), some (.inl (ryz1)), none]) (st' := [.inl (ryz1)]) (fun _ _ => rfl) ?_
  refine ej_plain hmn (eg_at hT 0 4 rfl rfl) (pc' := 7) (ls' := [some (.inr (.inr (.inl (some 46)))), some (.inl (im)), some (.inl (ryz1)), none]) (st' := [.inl (-1), .inl (ryz1)]) (fun _ _ => rfl) ?_
  refine ej_if_icmp hmn (eg_at hT 0 5 rfl rfl) (pc' := 10) rfl (fun _ => rfl) (fun (yc2 : ryz1 ≠ -1) => ?_) (fun (yc2 : ¬ (ryz1 ≠ -1)) => ?_)
  · refine ej_plain hmn (eg_at hT 0 8 rfl rfl) (pc' := 13) (ls' := [some (.inr (.inr (.inl (some 46)))), some (.inl (im)), some (.inl (ryz1)), none]) (st' := [.inr (.inr (.inl (some 46)))]) (fun _ _ => rfl) ?_
    refine ej_plain hmn (eg_at hT 0 9 rfl rfl) (pc' := 16) (ls' := [some (.inr (.inr (.inl (some 46)))), some (.inl (im)), some (.inl (ryz1)), none]) (st' := [.inr (.inr (.inl (some 48)))]) (fun _ _ => rfl) ?_
    refine ej_plain hmn (eg_at hT 0 10 rfl rfl) (pc' := 17) (ls' := [some (.inr (.inr (.inl (some 46)))), some (.inl (im)), some (.inl (ryz1)), none]) (st' := [.inl (im), .inr (.inr (.inl (some 48)))]) (fun _ _ => rfl) ?_
    refine ej_plain hmn (eg_at hT 0 11 rfl rfl) (pc' := 18) (ls' := [some (.inr (.inr (.inl (some 46)))), some (.inl (im)), some (.inl (ryz1)), none]) (st' := [.inl (ryz1), .inl (im), .inr (.inr (.inl (some 48)))]) (fun _ _ => rfl) ?_
    refine ej_iastoreW hmn (eg_at hT 0 12 rfl rfl) (pc' := 19) (n := 50) (lo := (0)) (hi := (9)) rfl rfl (fun _ => rfl) rfl (by omega) (by omega) (evw_48 _ (by omega)) (by omega) (by omega) ?_
    refine ej_plain hmn (eg_at hT 0 13 rfl rfl) (pc' := 20) (ls' := [some (.inr (.inr (.inl (some 46)))), some (.inl (im)), some (.inl (ryz1)), none]) (st' := [.inl (0)]) (fun _ _ => rfl) ?_
    refine ej_plain hmn (eg_at hT 0 14 rfl rfl) (pc' := 21) (ls' := [some (.inr (.inr (.inl (some 46)))), some (.inl (im)), some (.inl (ryz1)), some (.inl (0))]) (st' := []) (fun _ _ => rfl) ?_
    exact eq_ri_l hmn hT (Nat.le_refl 6) l0 (by omega) hi_ (fun r p' h1 h2 => @decide_eq_true _ (Classical.propDecidable _) ⟨r, p', rfl, rfl, h1, h2⟩) (by omega) 6 _ 0 (by decide) (by decide) (by omega)
  · refine ej_plain hmn (eg_at hT 0 6 rfl rfl) (pc' := 11) (ls' := [some (.inr (.inr (.inl (some 46)))), some (.inl (im)), some (.inl (ryz1)), none]) (st' := [.inl (0)]) (fun _ _ => rfl) ?_
    exact ej_zreturn hmn (eg_at hT 0 7 rfl rfl) (by omega) (by omega) (@decide_eq_true _ (Classical.propDecidable _) ⟨_, _, rfl, rfl, by omega, by omega⟩)
theorem eq_ff_l {l : Launch} {D : va_G} {τ : Nat → ClassId} {sa : List Nat} {A : Nat → Prop} (hmn : em_mna) {own mname : String} {bytes : ByteArray} (hT : ∀ ch ∈ eu_73, ∀ x ∈ ch, ek_J em_inf et_cls et_vt own mname bytes x) {d : Nat} (hd : 7 ≤ d) {K : Option ex_V → ex_H → Bool} {L : Int} (l0 : 0 ≤ L ∧ L ≤ 300) (hK : ∀ r it p : Int, (-1 ≤ r ∧ r ≤ 300) → (0 ≤ it ∧ it ≤ 50) → (0 ≤ p ∧ p ≤ 300) → K (some (.inl r)) (et_c L it p) = true) : ∀ (i : Nat) (it p : Int), 50 - it < i → (0 ≤ it ∧ it ≤ 50) → (0 ≤ p ∧ p ≤ 300) → em_G l D τ sa A own mname bytes 1 d (0, 0) (some .int) K (14, [some (.inr (.inr (.inl (some 46))))], [], (et_c (L) (it) (p)), 0, 0) := by
  intro i
  induction i with
  | zero => intro it p hi hk; exfalso; omega
  | succ i ih =>
    intro it p hi hk hp
    refine ej_plain hmn (eg_at hT 0 8 rfl rfl) (pc' := 15) (ls' := [some (.inr (.inr (.inl (some 46))))]) (st' := [.inr (.inr (.inl (some 46)))]) (fun _ _ => rfl) ?_
    refine ej_plain hmn (eg_at hT 0 9 rfl rfl) (pc' := 18) (ls' := [some (.inr (.inr (.inl (some 46))))]) (st' := [.inl (it)]) (fun _ _ => rfl) ?_
    refine ej_plain hmn (eg_at hT 0 10 rfl rfl) (pc' := 20) (ls' := [some (.inr (.inr (.inl (some 46))))]) (st' := [.inl (50), .inl (it)]) (fun _ _ => rfl) ?_
    refine ej_if_icmp hmn (eg_at hT 0 11 rfl rfl) (pc' := 23) rfl (fun _ => rfl) (fun (fc1 : 50 ≤ it) => ?_) (fun (fc1 : ¬ (50 ≤ it)) => ?_)
    · refine ej_plain hmn (eg_at hT 2 1 rfl rfl) (pc' := 68) (ls' := [some (.inr (.inr (.inl (some 46))))]) (st' := [.inr (.inr (.inl (some 46)))]) (fun _ _ => rfl) ?_
      refine ej_plain hmn (eg_at hT 2 2 rfl rfl) (pc' := 71) (ls' := [some (.inr (.inr (.inl (some 46))))]) (st' := [.inl (p)]) (fun _ _ => rfl) ?_
      refine ej_plain hmn (eg_at hT 2 3 rfl rfl) (pc' := 72) (ls' := [some (.inr (.inr (.inl (some 46))))]) (st' := [.inr (.inr (.inl (some 46))), .inl (p)]) (fun _ _ => rfl) ?_
      refine ej_plain hmn (eg_at hT 2 4 rfl rfl) (pc' := 75) (ls' := [some (.inr (.inr (.inl (some 46))))]) (st' := [.inl (L), .inl (p)]) (fun _ _ => rfl) ?_
      refine ej_if_icmp hmn (eg_at hT 2 5 rfl rfl) (pc' := 78) rfl (fun _ => rfl) (fun (fc2 : L ≤ p) => ?_) (fun (fc2 : ¬ (L ≤ p)) => ?_)
      · refine ej_plain hmn (eg_at hT 2 9 rfl rfl) (pc' := 86) (ls' := [some (.inr (.inr (.inl (some 46))))]) (st' := [.inl (-1)]) (fun _ _ => rfl) ?_
        exact ej_ireturn hmn (eg_at hT 2 10 rfl rfl) (hK _ _ _ (by omega) (by omega) (by omega))
      · refine ej_plain hmn (eg_at hT 2 6 rfl rfl) (pc' := 79) (ls' := [some (.inr (.inr (.inl (some 46))))]) (st' := [.inr (.inr (.inl (some 46)))]) (fun _ _ => rfl) ?_
        refine ej_plain hmn (eg_at hT 2 7 rfl rfl) (pc' := 82) (ls' := [some (.inr (.inr (.inl (some 46))))]) (st' := [.inl (p)]) (fun _ _ => rfl) ?_
        refine ej_plain hmn (eg_at hT 2 8 rfl rfl) (pc' := 86) (ls' := [some (.inr (.inr (.inl (some 46))))]) (st' := [.inl (p)]) (fun _ _ => rfl) ?_
        exact ej_ireturn hmn (eg_at hT 2 10 rfl rfl) (hK _ _ _ (by omega) (by omega) (by omega))
    · refine ej_plain hmn (eg_at hT 0 12 rfl rfl) (pc' := 24) (ls' := [some (.inr (.inr (.inl (some 46))))]) (st' := [.inr (.inr (.inl (some 46)))]) (fun _ _ => rfl) ?_
      refine ej_plain hmn (eg_at hT 0 13 rfl rfl) (pc' := 27) (ls' := [some (.inr (.inr (.inl (some 46))))]) (st' := [.inl (p)]) (fun _ _ => rfl) ?_
      refine ej_plain hmn (eg_at hT 0 14 rfl rfl) (pc' := 28) (ls' := [some (.inr (.inr (.inl (some 46))))]) (st' := [.inr (.inr (.inl (some 46))), .inl (p)]) (fun _ _ => rfl) ?_
      refine ej_plain hmn (eg_at hT 0 15 rfl rfl) (pc' := 31) (ls' := [some (.inr (.inr (.inl (some 46))))]) (st' := [.inl (L), .inl (p)]) (fun _ _ => rfl) ?_
      refine ej_if_icmp hmn (eg_at hT 0 16 rfl rfl) (pc' := 34) rfl (fun _ => rfl) (fun (fc3 : L ≤ p) => ?_) (fun (fc3 : ¬ (L ≤ p)) => ?_)
      · refine ej_plain hmn (eg_at hT 2 1 rfl rfl) (pc' := 68) (ls' := [some (.inr (.inr (.inl (some 46))))]) (st' := [.inr (.inr (.inl (some 46)))]) (fun _ _ => rfl) ?_
        refine ej_plain hmn (eg_at hT 2 2 rfl rfl) (pc' := 71) (ls' := [some (.inr (.inr (.inl (some 46))))]) (st' := [.inl (p)]) (fun _ _ => rfl) ?_
        refine ej_plain hmn (eg_at hT 2 3 rfl rfl) (pc' := 72) (ls' := [some (.inr (.inr (.inl (some 46))))]) (st' := [.inr (.inr (.inl (some 46))), .inl (p)]) (fun _ _ => rfl) ?_
        refine ej_plain hmn (eg_at hT 2 4 rfl rfl) (pc' := 75) (ls' := [some (.inr (.inr (.inl (some 46))))]) (st' := [.inl (L), .inl (p)]) (fun _ _ => rfl) ?_
        refine ej_if_icmp hmn (eg_at hT 2 5 rfl rfl) (pc' := 78) rfl (fun _ => rfl) (fun (fc4 : L ≤ p) => ?_) (fun (fc4 : ¬ (L ≤ p)) => ?_)
        · refine ej_plain hmn (eg_at hT 2 9 rfl rfl) (pc' := 86) (ls' := [some (.inr (.inr (.inl (some 46))))]) (st' := [.inl (-1)]) (fun _ _ => rfl) ?_
          exact ej_ireturn hmn (eg_at hT 2 10 rfl rfl) (hK _ _ _ (by omega) (by omega) (by omega))
        · refine ej_plain hmn (eg_at hT 2 6 rfl rfl) (pc' := 79) (ls' := [some (.inr (.inr (.inl (some 46))))]) (st' := [.inr (.inr (.inl (some 46)))]) (fun _ _ => rfl) ?_
          refine ej_plain hmn (eg_at hT 2 7 rfl rfl) (pc' := 82) (ls' := [some (.inr (.inr (.inl (some 46))))]) (st' := [.inl (p)]) (fun _ _ => rfl) ?_
          refine ej_plain hmn (eg_at hT 2 8 rfl rfl) (pc' := 86) (ls' := [some (.inr (.inr (.inl (some 46))))]) (st' := [.inl (p)]) (fun _ _ => rfl) ?_
          exact ej_ireturn hmn (eg_at hT 2 10 rfl rfl) (hK _ _ _ (by omega) (by omega) (by omega))
      · refine ej_plain hmn (eg_at hT 1 0 rfl rfl) (pc' := 35) (ls' := [some (.inr (.inr (.inl (some 46))))]) (st' := [.inr (.inr (.inl (some 46)))]) (fun _ _ => rfl) ?_
        refine ej_plain hmn (eg_at hT 1 1 rfl rfl) (pc' := 36) (ls' := [some (.inr (.inr (.inl (some 46))))]) (st' := [.inr (.inr (.inl (some 46))), .inr (.inr (.inl (some 46)))]) (fun _ _ => rfl) ?_
        refine ej_plain hmn (eg_at hT 1 2 rfl rfl) (pc' := 39) (ls' := [some (.inr (.inr (.inl (some 46))))]) (st' := [.inl (it), .inr (.inr (.inl (some 46)))]) (fun _ _ => rfl) ?_
        refine ej_call hmn (eg_at hT 1 3 rfl rfl) (pc' := 42) (r := []) (eq_readItem hmn l0 (by omega) (by omega)) (by omega) (fun _ _ => rfl) (fun w hp' hP => ?_)
        obtain ⟨rfz5, pfz5, rfl, rfl, gfz5, hfz5⟩ := hP
        show em_G l D τ sa A own mname bytes 1 d (0, 0) (some .int) K (42, [some (.inr (.inr (.inl (some 46))))], [.inl (rfz5)], (et_c (L) (it) (pfz5)), 0, 0)
        refine ej_ifCond hmn (eg_at hT 1 4 rfl rfl) (pc' := 45) rfl (fun _ => rfl) (fun (fc6 : rfz5 ≠ 0) => ?_) (fun (fc6 : ¬ (rfz5 ≠ 0)) => ?_)
        · refine ej_plain hmn (eg_at hT 1 8 rfl rfl) (pc' := 51) (ls' := [some (.inr (.inr (.inl (some 46))))]) (st' := [.inr (.inr (.inl (some 46)))]) (fun _ _ => rfl) ?_
          refine ej_call hmn (eg_at hT 1 9 rfl rfl) (pc' := 54) (r := []) (eq_skipBlanks hmn l0 (by omega)) (by omega) (fun _ _ => rfl) (fun w hp' hP => ?_)
          obtain ⟨pfz7, rfl, rfl, hfz7⟩ := hP
          show em_G l D τ sa A own mname bytes 1 d (0, 0) (some .int) K (54, [some (.inr (.inr (.inl (some 46))))], [], (et_c (L) (it) (pfz7)), 0, 0)
          refine ej_plain hmn (eg_at hT 1 10 rfl rfl) (pc' := 55) (ls' := [some (.inr (.inr (.inl (some 46))))]) (st' := [.inr (.inr (.inl (some 46)))]) (fun _ _ => rfl) ?_
          refine ej_plain hmn (eg_at hT 1 11 rfl rfl) (pc' := 56) (ls' := [some (.inr (.inr (.inl (some 46))))]) (st' := [.inr (.inr (.inl (some 46))), .inr (.inr (.inl (some 46)))]) (fun _ _ => rfl) ?_
          refine ej_plain hmn (eg_at hT 1 12 rfl rfl) (pc' := 59) (ls' := [some (.inr (.inr (.inl (some 46))))]) (st' := [.inl (it), .inr (.inr (.inl (some 46)))]) (fun _ _ => rfl) ?_
          refine ej_plain hmn (eg_at hT 1 13 rfl rfl) (pc' := 60) (ls' := [some (.inr (.inr (.inl (some 46))))]) (st' := [.inl (1), .inl (it), .inr (.inr (.inl (some 46)))]) (fun _ _ => rfl) ?_
          refine ej_iadd hmn (eg_at hT 1 14 rfl rfl) (pc' := 61) rfl (by omega) (by omega) ?_
          refine ej_plain hmn (eg_at hT 1 15 rfl rfl) (pc' := 64) (ls' := [some (.inr (.inr (.inl (some 46))))]) (st' := []) (hp' := (et_c (L) (it + 1) (pfz7))) (fun _ _ => rfl) ?_
          refine ej_plain hmn (eg_at hT 2 0 rfl rfl) (pc' := 14) (ls' := [some (.inr (.inr (.inl (some 46))))]) (st' := []) (fun _ _ => rfl) ?_
          exact ih _ _ (by omega) (by omega) (by omega)
        · refine ej_plain hmn (eg_at hT 1 5 rfl rfl) (pc' := 46) (ls' := [some (.inr (.inr (.inl (some 46))))]) (st' := [.inr (.inr (.inl (some 46)))]) (fun _ _ => rfl) ?_
          refine ej_plain hmn (eg_at hT 1 6 rfl rfl) (pc' := 49) (ls' := [some (.inr (.inr (.inl (some 46))))]) (st' := [.inl (pfz5)]) (fun _ _ => rfl) ?_
          exact ej_ireturn hmn (eg_at hT 1 7 rfl rfl) (hK _ _ _ (by omega) (by omega) (by omega))
theorem eq_findFault {l : Launch} {D : va_G} {τ : Nat → ClassId} {sa : List Nat} {A : Nat → Prop} (hmn : em_mna) {L it p : Int} (l0 : 0 ≤ L ∧ L ≤ 300) : em_X l D τ sa A 73 [(.inr (.inr (.inl (some 46))))] (et_c L it p) (fun w hp' => ∃ r it p : Int, w = some (.inl r) ∧ hp' = et_c L it p ∧ (-1 ≤ r ∧ r ≤ 300) ∧ (0 ≤ it ∧ it ≤ 50) ∧ (0 ≤ p ∧ p ≤ 300)) 7 := by
  refine em_X.of (tb := eu_73) (nl := 1) (ret := some .int) rfl (q := [some (.inr (.inr (.inl (some 46))))]) (fun _ => rfl) (fun own mname bytes hT => ?_)
  refine ej_plain hmn (eg_at hT 0 0 rfl rfl) (pc' := 1) (ls' := [some (.inr (.inr (.inl (some 46))))]) (st' := [.inr (.inr (.inl (some 46)))]) (fun _ _ => rfl) ?_
  refine ej_plain hmn (eg_at hT 0 1 rfl rfl) (pc' := 2) (ls' := [some (.inr (.inr (.inl (some 46))))]) (st' := [.inl (0), .inr (.inr (.inl (some 46)))]) (fun _ _ => rfl) ?_
  refine ej_plain hmn (eg_at hT 0 2 rfl rfl) (pc' := 5) (ls' := [some (.inr (.inr (.inl (some 46))))]) (st' := []) (hp' := (et_c (L) (it) (0))) (fun _ _ => rfl) ?_
  refine ej_plain hmn (eg_at hT 0 3 rfl rfl) (pc' := 6) (ls' := [some (.inr (.inr (.inl (some 46))))]) (st' := [.inr (.inr (.inl (some 46)))]) (fun _ _ => rfl) ?_
  refine ej_call hmn (eg_at hT 0 4 rfl rfl) (pc' := 9) (r := []) (eq_skipBlanks hmn l0 (by omega)) (by omega) (fun _ _ => rfl) (fun w hp' hP => ?_)
  obtain ⟨pyz1, rfl, rfl, hyz1⟩ := hP
  show em_G l D τ sa A own mname bytes 1 7 (0, 0) (some .int) _ (9, [some (.inr (.inr (.inl (some 46))))], [], (et_c (L) (it) (pyz1)), 0, 0)
  refine ej_plain hmn (eg_at hT 0 5 rfl rfl) (pc' := 10) (ls' := [some (.inr (.inr (.inl (some 46))))]) (st' := [.inr (.inr (.inl (some 46)))]) (fun _ _ => rfl) ?_
  refine ej_plain hmn (eg_at hT 0 6 rfl rfl) (pc' := 11) (ls' := [some (.inr (.inr (.inl (some 46))))]) (st' := [.inl (0), .inr (.inr (.inl (some 46)))]) (fun _ _ => rfl) ?_
  refine ej_plain hmn (eg_at hT 0 7 rfl rfl) (pc' := 14) (ls' := [some (.inr (.inr (.inl (some 46))))]) (st' := []) (hp' := (et_c (L) (0) (pyz1))) (fun _ _ => rfl) ?_
  exact eq_ff_l hmn hT (Nat.le_refl 7) l0 (fun r it p h1 h2 h3 => @decide_eq_true _ (Classical.propDecidable _) ⟨r, it, p, rfl, rfl, h1, h2, h3⟩) 51 0 _ (by decide) (by decide) (by omega)
theorem eq_ad_l {l : Launch} {D : va_G} {τ : Nat → ClassId} {sa : List Nat} {A : Nat → Prop} (hmn : em_mna) {own mname : String} {bytes : ByteArray} (hT : ∀ ch ∈ eu_71, ∀ x ∈ ch, ek_J em_inf et_cls et_vt own mname bytes x) {d : Nat} (hd : 1 ≤ d) {K : Option ex_V → ex_H → Bool} {it p z m : Int} (hm : 1 ≤ m ∧ m ≤ 8) (hK : ∀ r L : Int, (-2147483648 ≤ r ∧ r ≤ 2147483647) → (0 ≤ L ∧ L ≤ 300) → K (some (.inl r)) (et_c L it p) = true) : ∀ (i : Nat) (L k : Int), k < i → (-1 ≤ k ∧ k < m) → (0 ≤ L ∧ L + k + 1 ≤ 300) → em_G l D τ sa A own mname bytes 5 d (0, 0) (some .int) K (33, [some (.inr (.inr (.inl (some 46)))), some (.inr (.inl (z))), none, some (.inl (m)), some (.inl (k))], [], (et_c (L) (it) (p)), 0, 0) := by
  intro i
  induction i with
  | zero =>
    intro L k hi hk hl
    refine ej_plain hmn (eg_at hT 1 0 rfl rfl) (pc' := 35) (ls' := [some (.inr (.inr (.inl (some 46)))), some (.inr (.inl (z))), none, some (.inl (m)), some (.inl (k))]) (st' := [.inl (k)]) (fun _ _ => rfl) ?_
    refine ej_ifCond hmn (eg_at hT 1 1 rfl rfl) (pc' := 38) rfl (fun _ => rfl) (fun (tc1 : k < 0) => ?_) (fun (tc1 : ¬ (k < 0)) => ?_)
    · refine ej_plain hmn (eg_at hT 2 4 rfl rfl) (pc' := 73) (ls' := [some (.inr (.inr (.inl (some 46)))), some (.inr (.inl (z))), none, some (.inl (m)), some (.inl (k))]) (st' := [.inr (.inr (.inl (some 46)))]) (fun _ _ => rfl) ?_
      refine ej_plain hmn (eg_at hT 2 5 rfl rfl) (pc' := 76) (ls' := [some (.inr (.inr (.inl (some 46)))), some (.inr (.inl (z))), none, some (.inl (m)), some (.inl (k))]) (st' := [.inl (L)]) (fun _ _ => rfl) ?_
      exact ej_ireturn hmn (eg_at hT 2 6 rfl rfl) (hK _ _ (by omega) (by omega))
    · exfalso
      omega
  | succ i ih =>
    intro L k hi hk hl
    refine ej_plain hmn (eg_at hT 1 0 rfl rfl) (pc' := 35) (ls' := [some (.inr (.inr (.inl (some 46)))), some (.inr (.inl (z))), none, some (.inl (m)), some (.inl (k))]) (st' := [.inl (k)]) (fun _ _ => rfl) ?_
    refine ej_ifCond hmn (eg_at hT 1 1 rfl rfl) (pc' := 38) rfl (fun _ => rfl) (fun (tc1 : k < 0) => ?_) (fun (tc1 : ¬ (k < 0)) => ?_)
    · refine ej_plain hmn (eg_at hT 2 4 rfl rfl) (pc' := 73) (ls' := [some (.inr (.inr (.inl (some 46)))), some (.inr (.inl (z))), none, some (.inl (m)), some (.inl (k))]) (st' := [.inr (.inr (.inl (some 46)))]) (fun _ _ => rfl) ?_
      refine ej_plain hmn (eg_at hT 2 5 rfl rfl) (pc' := 76) (ls' := [some (.inr (.inr (.inl (some 46)))), some (.inr (.inl (z))), none, some (.inl (m)), some (.inl (k))]) (st' := [.inl (L)]) (fun _ _ => rfl) ?_
      exact ej_ireturn hmn (eg_at hT 2 6 rfl rfl) (hK _ _ (by omega) (by omega))
    · refine ej_plain hmn (eg_at hT 1 2 rfl rfl) (pc' := 39) (ls' := [some (.inr (.inr (.inl (some 46)))), some (.inr (.inl (z))), none, some (.inl (m)), some (.inl (k))]) (st' := [.inr (.inr (.inl (some 46)))]) (fun _ _ => rfl) ?_
      refine ej_plain hmn (eg_at hT 1 3 rfl rfl) (pc' := 42) (ls' := [some (.inr (.inr (.inl (some 46)))), some (.inr (.inl (z))), none, some (.inl (m)), some (.inl (k))]) (st' := [.inr (.inr (.inl (some 47)))]) (fun _ _ => rfl) ?_
      refine ej_plain hmn (eg_at hT 1 4 rfl rfl) (pc' := 43) (ls' := [some (.inr (.inr (.inl (some 46)))), some (.inr (.inl (z))), none, some (.inl (m)), some (.inl (k))]) (st' := [.inr (.inr (.inl (some 46))), .inr (.inr (.inl (some 47)))]) (fun _ _ => rfl) ?_
      refine ej_plain hmn (eg_at hT 1 5 rfl rfl) (pc' := 44) (ls' := [some (.inr (.inr (.inl (some 46)))), some (.inr (.inl (z))), none, some (.inl (m)), some (.inl (k))]) (st' := [.inr (.inr (.inl (some 46))), .inr (.inr (.inl (some 46))), .inr (.inr (.inl (some 47)))]) (fun _ _ => rfl) ?_
      refine ej_plain hmn (eg_at hT 1 6 rfl rfl) (pc' := 47) (ls' := [some (.inr (.inr (.inl (some 46)))), some (.inr (.inl (z))), none, some (.inl (m)), some (.inl (k))]) (st' := [.inl (L), .inr (.inr (.inl (some 46))), .inr (.inr (.inl (some 47)))]) (fun _ _ => rfl) ?_
      refine ej_plain hmn (eg_at hT 1 7 rfl rfl) (pc' := 48) (ls' := [some (.inr (.inr (.inl (some 46)))), some (.inr (.inl (z))), none, some (.inl (m)), some (.inl (k))]) (st' := [.inl (L), .inr (.inr (.inl (some 46))), .inl (L), .inr (.inr (.inl (some 47)))]) (fun _ _ => rfl) ?_
      refine ej_plain hmn (eg_at hT 1 8 rfl rfl) (pc' := 49) (ls' := [some (.inr (.inr (.inl (some 46)))), some (.inr (.inl (z))), none, some (.inl (m)), some (.inl (k))]) (st' := [.inl (1), .inl (L), .inr (.inr (.inl (some 46))), .inl (L), .inr (.inr (.inl (some 47)))]) (fun _ _ => rfl) ?_
      refine ej_iadd hmn (eg_at hT 1 9 rfl rfl) (pc' := 50) rfl (by omega) (by omega) ?_
      refine ej_plain hmn (eg_at hT 1 10 rfl rfl) (pc' := 53) (ls' := [some (.inr (.inr (.inl (some 46)))), some (.inr (.inl (z))), none, some (.inl (m)), some (.inl (k))]) (st' := [.inl (L), .inr (.inr (.inl (some 47)))]) (hp' := (et_c (L + 1) (it) (p))) (fun _ _ => rfl) ?_
      refine ej_plain hmn (eg_at hT 1 11 rfl rfl) (pc' := 54) (ls' := [some (.inr (.inr (.inl (some 46)))), some (.inr (.inl (z))), none, some (.inl (m)), some (.inl (k))]) (st' := [.inr (.inl (z)), .inl (L), .inr (.inr (.inl (some 47)))]) (fun _ _ => rfl) ?_
      refine ej_plain hmn (eg_at hT 1 12 rfl rfl) (pc' := 56) (ls' := [some (.inr (.inr (.inl (some 46)))), some (.inr (.inl (z))), none, some (.inl (m)), some (.inl (k))]) (st' := [.inl (8), .inr (.inl (z)), .inl (L), .inr (.inr (.inl (some 47)))]) (fun _ _ => rfl) ?_
      refine ej_plain hmn (eg_at hT 1 13 rfl rfl) (pc' := 58) (ls' := [some (.inr (.inr (.inl (some 46)))), some (.inr (.inl (z))), none, some (.inl (m)), some (.inl (k))]) (st' := [.inl (k), .inl (8), .inr (.inl (z)), .inl (L), .inr (.inr (.inl (some 47)))]) (fun _ _ => rfl) ?_
      refine ej_imul hmn (eg_at hT 1 14 rfl rfl) (pc' := 59) rfl (by omega) (by omega) ?_
      refine ej_plain hmn (eg_at hT 1 15 rfl rfl) (pc' := 60) (ls' := [some (.inr (.inr (.inl (some 46)))), some (.inr (.inl (z))), none, some (.inl (m)), some (.inl (k))]) (st' := [.inr (.inr (.inr (.inr (.inl (-9223372036854775808, 9223372036854775807))))), .inl (L), .inr (.inr (.inl (some 47)))]) (fun _ _ => rfl) ?_
      refine ej_someL (fun tv2 tv2a tv2b => ?_)
      refine ej_plain hmn (eg_at hT 1 16 rfl rfl) (pc' := 63) (ls' := [some (.inr (.inr (.inl (some 46)))), some (.inr (.inl (z))), none, some (.inl (m)), some (.inl (k))]) (st' := [.inr (.inl (255)), .inr (.inl (tv2)), .inl (L), .inr (.inr (.inl (some 47)))]) (fun _ _ => rfl) ?_
      refine ej_landw hmn (eg_at hT 1 17 rfl rfl) (pc' := 64) rfl (fun tv3 => ?_)
      refine ej_plain hmn (eg_at hT 2 0 rfl rfl) (pc' := 65) (ls' := [some (.inr (.inr (.inl (some 46)))), some (.inr (.inl (z))), none, some (.inl (m)), some (.inl (k))]) (st' := [.inr (.inr (.inr (.inl (-2147483648, 2147483647)))), .inl (L), .inr (.inr (.inl (some 47)))]) (fun _ _ => rfl) ?_
      refine ej_some (fun tv4 tv4a tv4b => ?_)
      refine ej_iastoreW hmn (eg_at hT 2 1 rfl rfl) (pc' := 66) (n := 300) (lo := (-2147483648)) (hi := (2147483647)) rfl rfl (fun _ => rfl) rfl (by omega) (by omega) (evw_47 _ (by omega)) (by omega) (by omega) ?_
      refine ej_iinc hmn (eg_at hT 2 2 rfl rfl) (pc' := 69) rfl (w := -1) rfl (fun _ => rfl) (lsf := fun V => [some (.inr (.inr (.inl (some 46)))), some (.inr (.inl (z))), none, some (.inl (m)), some V]) (fun _ _ => rfl) (by decide) (by decide) (by omega) (by omega) ?_
      refine ej_plain hmn (eg_at hT 2 3 rfl rfl) (pc' := 33) (ls' := [some (.inr (.inr (.inl (some 46)))), some (.inr (.inl (z))), none, some (.inl (m)), some (.inl (k + -1))]) (st' := []) (fun _ _ => rfl) ?_
      exact ih _ _ (by omega) (by omega) (by omega)
theorem eq_add {l : Launch} {D : va_G} {τ : Nat → ClassId} {sa : List Nat} {A : Nat → Prop} (hmn : em_mna) {L it p z m : Int} (l0 : 0 ≤ L ∧ L ≤ 300) (hm : (-2147483648 ≤ m ∧ m ≤ 2147483647)) : em_X l D τ sa A 71 [(.inr (.inr (.inl (some 46)))), .inr (.inl z), .inl m] (et_c L it p) (fun w hp' => ∃ r L' : Int, w = some (.inl r) ∧ hp' = et_c L' it p ∧ (-2147483648 ≤ r ∧ r ≤ 2147483647) ∧ (0 ≤ L' ∧ L' ≤ 300)) 1 := by
  refine em_X.of (tb := eu_71) (nl := 5) (ret := some .int) rfl (q := [some (.inr (.inr (.inl (some 46)))), some (.inr (.inl (z))), none, some (.inl (m)), none]) (fun _ => rfl) (fun own mname bytes hT => ?_)
  refine ej_plain hmn (eg_at hT 0 0 rfl rfl) (pc' := 1) (ls' := [some (.inr (.inr (.inl (some 46)))), some (.inr (.inl (z))), none, some (.inl (m)), none]) (st' := [.inl (m)]) (fun _ _ => rfl) ?_
  refine ej_plain hmn (eg_at hT 0 1 rfl rfl) (pc' := 2) (ls' := [some (.inr (.inr (.inl (some 46)))), some (.inr (.inl (z))), none, some (.inl (m)), none]) (st' := [.inl (1), .inl (m)]) (fun _ _ => rfl) ?_
  refine ej_plain hmn (eg_at hT 0 2 rfl rfl) (pc' := 4) (ls' := [some (.inr (.inr (.inl (some 46)))), some (.inr (.inl (z))), none, some (.inl (m)), none]) (st' := [.inl (8), .inl (1), .inl (m)]) (fun _ _ => rfl) ?_
  refine ej_call hmn (eg_at hT 0 3 rfl rfl) (pc' := 7) (r := []) (eq_within hmn (v := m) (lo := 1) (hi := 8)) (by omega) (fun _ _ => rfl) (fun v hp' hP => ?_)
  obtain ⟨r1, rfl, rfl, r1a, r1b⟩ := hP
  show em_G l D τ sa A own mname bytes 5 1 (0, 0) (some .int) _ (7, [some (.inr (.inr (.inl (some 46)))), some (.inr (.inl (z))), none, some (.inl (m)), none], [.inl (r1)], (et_c (L) (it) (p)), 0, 0)
  refine ej_ifCond hmn (eg_at hT 0 4 rfl rfl) (pc' := 10) rfl (fun _ => rfl) (fun (uc1 : r1 ≠ 0) => ?_) (fun (uc1 : ¬ (r1 ≠ 0)) => ?_)
  · refine ej_plain hmn (eg_at hT 0 7 rfl rfl) (pc' := 14) (ls' := [some (.inr (.inr (.inl (some 46)))), some (.inr (.inl (z))), none, some (.inl (m)), none]) (st' := [.inr (.inr (.inl (some 46)))]) (fun _ _ => rfl) ?_
    refine ej_plain hmn (eg_at hT 0 8 rfl rfl) (pc' := 17) (ls' := [some (.inr (.inr (.inl (some 46)))), some (.inr (.inl (z))), none, some (.inl (m)), none]) (st' := [.inl (L)]) (fun _ _ => rfl) ?_
    refine ej_plain hmn (eg_at hT 0 9 rfl rfl) (pc' := 18) (ls' := [some (.inr (.inr (.inl (some 46)))), some (.inr (.inl (z))), none, some (.inl (m)), none]) (st' := [.inl (m), .inl (L)]) (fun _ _ => rfl) ?_
    refine ej_iadd hmn (eg_at hT 0 10 rfl rfl) (pc' := 19) rfl (by omega) (by omega) ?_
    refine ej_plain hmn (eg_at hT 0 11 rfl rfl) (pc' := 22) (ls' := [some (.inr (.inr (.inl (some 46)))), some (.inr (.inl (z))), none, some (.inl (m)), none]) (st' := [.inl (300), .inl (L + m)]) (fun _ _ => rfl) ?_
    refine ej_if_icmp hmn (eg_at hT 0 12 rfl rfl) (pc' := 25) rfl (fun _ => rfl) (fun (uc2 : L + m ≤ 300) => ?_) (fun (uc2 : ¬ (L + m ≤ 300)) => ?_)
    · refine ej_plain hmn (eg_at hT 0 15 rfl rfl) (pc' := 29) (ls' := [some (.inr (.inr (.inl (some 46)))), some (.inr (.inl (z))), none, some (.inl (m)), none]) (st' := [.inl (m)]) (fun _ _ => rfl) ?_
      refine ej_plain hmn (eg_at hT 0 16 rfl rfl) (pc' := 30) (ls' := [some (.inr (.inr (.inl (some 46)))), some (.inr (.inl (z))), none, some (.inl (m)), none]) (st' := [.inl (1), .inl (m)]) (fun _ _ => rfl) ?_
      refine ej_isub hmn (eg_at hT 0 17 rfl rfl) (pc' := 31) rfl (by omega) (by omega) ?_
      refine ej_plain hmn (eg_at hT 0 18 rfl rfl) (pc' := 33) (ls' := [some (.inr (.inr (.inl (some 46)))), some (.inr (.inl (z))), none, some (.inl (m)), some (.inl (m - 1))]) (st' := []) (fun _ _ => rfl) ?_
      exact eq_ad_l hmn hT (Nat.le_refl 1) (by omega) (fun r L h1 h2 => @decide_eq_true _ (Classical.propDecidable _) ⟨r, L, rfl, rfl, h1, h2⟩) 9 L (m - 1) (by omega) (by omega) (by omega)
    · refine ej_plain hmn (eg_at hT 0 13 rfl rfl) (pc' := 27) (ls' := [some (.inr (.inr (.inl (some 46)))), some (.inr (.inl (z))), none, some (.inl (m)), none]) (st' := [.inl (-300000)]) (fun _ _ => rfl) ?_
      exact ej_ireturn hmn (eg_at hT 0 14 rfl rfl) (@decide_eq_true _ (Classical.propDecidable _) ⟨_, L, rfl, rfl, by omega, by omega⟩)
  · refine ej_plain hmn (eg_at hT 0 5 rfl rfl) (pc' := 12) (ls' := [some (.inr (.inr (.inl (some 46)))), some (.inr (.inl (z))), none, some (.inl (m)), none]) (st' := [.inl (-100000)]) (fun _ _ => rfl) ?_
    exact ej_ireturn hmn (eg_at hT 0 6 rfl rfl) (@decide_eq_true _ (Classical.propDecidable _) ⟨_, L, rfl, rfl, by omega, by omega⟩)
