/-! The law's loop. Printed by wip/p3/lawx.py. -/
theorem el_loop {p : Program} {l : Launch} {e : Env} {s : State} {m : MethodId} {below : List Frame} {meth : Method} {c : Code} {b : Nat} {D : va_G} {τ : Nat → ClassId} {sa : List Nat} {ro : List ex_C} (hmn : em_mna) (BB : el_B p s m meth c b D τ sa ro) {L P : Nat} {f : Int → Int} (hR : ey_R L P f) (hL : (L : Int) ≤ 3072) (h11 : ∀ i : Int, 0 ≤ i → i + 6 ≤ (L : Int) → el_G p l e s m below meth c b D τ sa ro el_F (1414, [some (.inr (.inr (.inl (some 4)))), some (.inr (.inr (.inl (some 5)))), some (.inr (.inr (.inl (some 345)))), some (.inl (i))], [], (el_h L P), 362, 6690) → el_G p l e s m below meth c b D τ sa ro el_F (665, [some (.inr (.inr (.inl (some 4)))), some (.inr (.inr (.inl (some 5)))), some (.inr (.inr (.inl (some 345)))), some (.inl (i))], [], (el_h L P), 362, 6690)) (h12 : ∀ i : Int, 0 ≤ i → i + 6 ≤ (L : Int) → el_G p l e s m below meth c b D τ sa ro el_F (1414, [some (.inr (.inr (.inl (some 4)))), some (.inr (.inr (.inl (some 5)))), some (.inr (.inr (.inl (some 345)))), some (.inl (i))], [], (el_h L P), 362, 6690) → el_G p l e s m below meth c b D τ sa ro el_F (728, [some (.inr (.inr (.inl (some 4)))), some (.inr (.inr (.inl (some 5)))), some (.inr (.inr (.inl (some 345)))), some (.inl (i))], [], (el_h L P), 362, 6690)) (h13 : ∀ i : Int, 0 ≤ i → i + 6 ≤ (L : Int) → el_G p l e s m below meth c b D τ sa ro el_F (1414, [some (.inr (.inr (.inl (some 4)))), some (.inr (.inr (.inl (some 5)))), some (.inr (.inr (.inl (some 345)))), some (.inl (i))], [], (el_h L P), 362, 6690) → el_G p l e s m below meth c b D τ sa ro el_F (741, [some (.inr (.inr (.inl (some 4)))), some (.inr (.inr (.inl (some 5)))), some (.inr (.inr (.inl (some 345)))), some (.inl (i))], [], (el_h L P), 362, 6690)) (h30 : ∀ i : Int, 0 ≤ i → i + 6 ≤ (L : Int) → el_G p l e s m below meth c b D τ sa ro el_F (1414, [some (.inr (.inr (.inl (some 4)))), some (.inr (.inr (.inl (some 5)))), some (.inr (.inr (.inl (some 345)))), some (.inl (i))], [], (el_h L P), 362, 6690) → el_G p l e s m below meth c b D τ sa ro el_F (1332, [some (.inr (.inr (.inl (some 4)))), some (.inr (.inr (.inl (some 5)))), some (.inr (.inr (.inl (some 345)))), some (.inl (i))], [], (el_h L P), 362, 6690)) (h31 : ∀ i : Int, 0 ≤ i → i + 6 ≤ (L : Int) → el_G p l e s m below meth c b D τ sa ro el_F (1414, [some (.inr (.inr (.inl (some 4)))), some (.inr (.inr (.inl (some 5)))), some (.inr (.inr (.inl (some 345)))), some (.inl (i))], [], (el_h L P), 362, 6690) → el_G p l e s m below meth c b D τ sa ro el_F (1355, [some (.inr (.inr (.inl (some 4)))), some (.inr (.inr (.inl (some 5)))), some (.inr (.inr (.inl (some 345)))), some (.inl (i))], [], (el_h L P), 362, 6690)) : ∀ (n : Nat) (i : Int), (L : Int) - i < n → 0 ≤ i → i ≤ (L : Int) → el_G p l e s m below meth c b D τ sa ro el_F (18, [some (.inr (.inr (.inl (some 4)))), some (.inr (.inr (.inl (some 5)))), some (.inr (.inr (.inl (some 345)))), some (.inl (i))], [], (el_h L P), 362, 6690) := by
  intro n
  induction n with
  | zero => intro i hn hi hj; exfalso; omega
  | succ n ih =>
    intro i hn hi hj
    refine el_plain hmn BB (eg_at eo_law 0 10 rfl rfl) (pc' := 19) (ls' := [some (.inr (.inr (.inl (some 4)))), some (.inr (.inr (.inl (some 5)))), some (.inr (.inr (.inl (some 345)))), some (.inl (i))]) (st' := [.inl i]) (hp' := (el_h L P)) (fun _ _ => rfl) ?_
    refine el_plain hmn BB (eg_at eo_law 0 11 rfl rfl) (pc' := 20) (ls' := [some (.inr (.inr (.inl (some 4)))), some (.inr (.inr (.inl (some 5)))), some (.inr (.inr (.inl (some 345)))), some (.inl (i))]) (st' := [.inr (.inr (.inl (some 4))), .inl i]) (hp' := (el_h L P)) (fun _ _ => rfl) ?_
    refine el_step hmn BB _ (eg_at eo_law 0 12 rfl rfl) ?_
    show (if Nat.beq 0 0 && Nat.ble L 1000000 then ex_n L (fun n => ex_n (20 + 1) (fun pc => el_go p l e s m below meth c b D τ sa ro el_F pc [some (.inr (.inr (.inl (some 4)))), some (.inr (.inr (.inl (some 5)))), some (.inr (.inr (.inl (some 345)))), some (.inl (i))] [.inl (Int.ofNat n), .inl i] (el_h L P) 362 6690)) else false) = true
    rw [if_pos (by rw [Nat.ble_eq.mpr (by omega : L ≤ 1000000)]; rfl), ex_n_eq, ex_n_eq]
    refine el_go_of ?_
    show el_G p l e s m below meth c b D τ sa ro el_F (21, [some (.inr (.inr (.inl (some 4)))), some (.inr (.inr (.inl (some 5)))), some (.inr (.inr (.inl (some 345)))), some (.inl (i))], [.inl (L : Int), .inl i], (el_h L P), 362, 6690)
    refine el_plain hmn BB (eg_at eo_law 0 13 rfl rfl) (pc' := 23) (ls' := [some (.inr (.inr (.inl (some 4)))), some (.inr (.inr (.inl (some 5)))), some (.inr (.inr (.inl (some 345)))), some (.inl (i))]) (st' := [.inl 6, .inl (L : Int), .inl i]) (hp' := (el_h L P)) (fun _ _ => rfl) ?_
    refine el_isub hmn BB (eg_at eo_law 0 14 rfl rfl) (pc' := 24) rfl (by omega) (by omega) ?_
    refine el_if_icmp hmn BB (eg_at eo_law 0 15 rfl rfl) (pc' := 27) rfl (fun _ => rfl) (fun _ => ?_) (fun (cq : ¬ ((L : Int) - 6 < i)) => ?_)
    · refine el_plain hmn BB (eg_at eo_law 44 4 rfl rfl) (pc' := 1421) (ls' := [some (.inr (.inr (.inl (some 4)))), some (.inr (.inr (.inl (some 5)))), some (.inr (.inr (.inl (some 345)))), some (.inl (i))]) (st' := [.inl 1]) (hp' := (el_h L P)) (fun _ _ => rfl) ?_
      exact el_zreturn hmn BB (eg_at eo_law 44 5 rfl rfl)
    have hX : el_G p l e s m below meth c b D τ sa ro el_F (1414, [some (.inr (.inr (.inl (some 4)))), some (.inr (.inr (.inl (some 5)))), some (.inr (.inr (.inl (some 345)))), some (.inl (i))], [], (el_h L P), 362, 6690) := by
      refine el_iinc hmn BB (eg_at eo_law 44 2 rfl rfl) (pc' := 1417) rfl (w := 6) rfl (fun _ => rfl) (lsf := fun V => [some (.inr (.inr (.inl (some 4)))), some (.inr (.inr (.inl (some 5)))), some (.inr (.inr (.inl (some 345)))), some V]) (fun _ _ => rfl) (by decide) (by decide) (by omega) (by omega) ?_
      refine el_plain hmn BB (eg_at eo_law 44 3 rfl rfl) (pc' := 18) (ls' := [some (.inr (.inr (.inl (some 4)))), some (.inr (.inr (.inl (some 5)))), some (.inr (.inr (.inl (some 345)))), some (.inl (i + 6))]) (st' := []) (hp' := (el_h L P)) (fun _ _ => rfl) ?_
      exact ih (i + 6) (by omega) (by omega) (by omega)
    refine el_plain hmn BB (eg_at eo_law 0 16 rfl rfl) (pc' := 28) (ls' := [some (.inr (.inr (.inl (some 4)))), some (.inr (.inr (.inl (some 5)))), some (.inr (.inr (.inl (some 345)))), some (.inl (i))]) (st' := [.inr (.inr (.inl (some 4)))]) (hp' := (el_h L P)) (fun _ _ => rfl) ?_
    refine el_plain hmn BB (eg_at eo_law 0 17 rfl rfl) (pc' := 29) (ls' := [some (.inr (.inr (.inl (some 4)))), some (.inr (.inr (.inl (some 5)))), some (.inr (.inr (.inl (some 345)))), some (.inl (i))]) (st' := [.inl i, .inr (.inr (.inl (some 4)))]) (hp' := (el_h L P)) (fun _ _ => rfl) ?_
    refine el_iaload hmn BB (eg_at eo_law 0 18 rfl rfl) (pc' := 30) (n := L) rfl (fun _ => rfl) hR (by omega) (by omega) ?_
    refine el_plain hmn BB (eg_at eo_law 0 19 rfl rfl) (pc' := 32) (ls' := [some (.inr (.inr (.inl (some 4)))), some (.inr (.inr (.inl (some 5)))), some (.inr (.inr (.inl (some 345)))), some (.inl (i))]) (st' := [.inl 63, .inl (f i)]) (hp' := (el_h L P)) (fun _ _ => rfl) ?_
    refine el_iandw hmn BB (eg_at eo_law 1 0 rfl rfl) (pc' := 33) rfl (fun w => ?_)
    by_cases w0 : w = 0
    · subst w0
      refine el_plain hmn BB (eg_at eo_law 1 1 rfl rfl) (pc' := 184) (ls' := [some (.inr (.inr (.inl (some 4)))), some (.inr (.inr (.inl (some 5)))), some (.inr (.inr (.inl (some 345)))), some (.inl (i))]) (st' := []) (hp' := (el_h L P)) (fun _ _ => rfl) ?_
      exact el_op0 hmn BB hR hi (by omega) hL hX
    by_cases w1 : w = 1
    · subst w1
      refine el_plain hmn BB (eg_at eo_law 1 1 rfl rfl) (pc' := 217) (ls' := [some (.inr (.inr (.inl (some 4)))), some (.inr (.inr (.inl (some 5)))), some (.inr (.inr (.inl (some 345)))), some (.inl (i))]) (st' := []) (hp' := (el_h L P)) (fun _ _ => rfl) ?_
      exact el_op1 hmn BB hR hi (by omega) hL hX
    by_cases w2 : w = 2
    · subst w2
      refine el_plain hmn BB (eg_at eo_law 1 1 rfl rfl) (pc' := 270) (ls' := [some (.inr (.inr (.inl (some 4)))), some (.inr (.inr (.inl (some 5)))), some (.inr (.inr (.inl (some 345)))), some (.inl (i))]) (st' := []) (hp' := (el_h L P)) (fun _ _ => rfl) ?_
      exact el_op2 hmn BB hR hi (by omega) hL hX
    by_cases w3 : w = 3
    · subst w3
      refine el_plain hmn BB (eg_at eo_law 1 1 rfl rfl) (pc' := 303) (ls' := [some (.inr (.inr (.inl (some 4)))), some (.inr (.inr (.inl (some 5)))), some (.inr (.inr (.inl (some 345)))), some (.inl (i))]) (st' := []) (hp' := (el_h L P)) (fun _ _ => rfl) ?_
      exact el_op3 hmn BB hR hi (by omega) hL hX
    by_cases w4 : w = 4
    · subst w4
      refine el_plain hmn BB (eg_at eo_law 1 1 rfl rfl) (pc' := 352) (ls' := [some (.inr (.inr (.inl (some 4)))), some (.inr (.inr (.inl (some 5)))), some (.inr (.inr (.inl (some 345)))), some (.inl (i))]) (st' := []) (hp' := (el_h L P)) (fun _ _ => rfl) ?_
      exact el_op4 hmn BB hR hi (by omega) hL hX
    by_cases w5 : w = 5
    · subst w5
      refine el_plain hmn BB (eg_at eo_law 1 1 rfl rfl) (pc' := 395) (ls' := [some (.inr (.inr (.inl (some 4)))), some (.inr (.inr (.inl (some 5)))), some (.inr (.inr (.inl (some 345)))), some (.inl (i))]) (st' := []) (hp' := (el_h L P)) (fun _ _ => rfl) ?_
      exact el_op5 hmn BB hR hi (by omega) hL hX
    by_cases w6 : w = 6
    · subst w6
      refine el_plain hmn BB (eg_at eo_law 1 1 rfl rfl) (pc' := 428) (ls' := [some (.inr (.inr (.inl (some 4)))), some (.inr (.inr (.inl (some 5)))), some (.inr (.inr (.inl (some 345)))), some (.inl (i))]) (st' := []) (hp' := (el_h L P)) (fun _ _ => rfl) ?_
      exact el_op6 hmn BB hR hi (by omega) hL hX
    by_cases w7 : w = 7
    · subst w7
      refine el_plain hmn BB (eg_at eo_law 1 1 rfl rfl) (pc' := 491) (ls' := [some (.inr (.inr (.inl (some 4)))), some (.inr (.inr (.inl (some 5)))), some (.inr (.inr (.inl (some 345)))), some (.inl (i))]) (st' := []) (hp' := (el_h L P)) (fun _ _ => rfl) ?_
      exact el_op7 hmn BB hR hi (by omega) hL hX
    by_cases w8 : w = 8
    · subst w8
      refine el_plain hmn BB (eg_at eo_law 1 1 rfl rfl) (pc' := 540) (ls' := [some (.inr (.inr (.inl (some 4)))), some (.inr (.inr (.inl (some 5)))), some (.inr (.inr (.inl (some 345)))), some (.inl (i))]) (st' := []) (hp' := (el_h L P)) (fun _ _ => rfl) ?_
      exact el_op8 hmn BB hR hi (by omega) hL hX
    by_cases w9 : w = 9
    · subst w9
      refine el_plain hmn BB (eg_at eo_law 1 1 rfl rfl) (pc' := 583) (ls' := [some (.inr (.inr (.inl (some 4)))), some (.inr (.inr (.inl (some 5)))), some (.inr (.inr (.inl (some 345)))), some (.inl (i))]) (st' := []) (hp' := (el_h L P)) (fun _ _ => rfl) ?_
      exact el_op9 hmn BB hR hi (by omega) hL hX
    by_cases w10 : w = 10
    · subst w10
      refine el_plain hmn BB (eg_at eo_law 1 1 rfl rfl) (pc' := 632) (ls' := [some (.inr (.inr (.inl (some 4)))), some (.inr (.inr (.inl (some 5)))), some (.inr (.inr (.inl (some 345)))), some (.inl (i))]) (st' := []) (hp' := (el_h L P)) (fun _ _ => rfl) ?_
      exact el_op10 hmn BB hR hi (by omega) hL hX
    by_cases w11 : w = 11
    · subst w11
      refine el_plain hmn BB (eg_at eo_law 1 1 rfl rfl) (pc' := 665) (ls' := [some (.inr (.inr (.inl (some 4)))), some (.inr (.inr (.inl (some 5)))), some (.inr (.inr (.inl (some 345)))), some (.inl (i))]) (st' := []) (hp' := (el_h L P)) (fun _ _ => rfl) ?_
      exact h11 i hi (by omega) hX
    by_cases w12 : w = 12
    · subst w12
      refine el_plain hmn BB (eg_at eo_law 1 1 rfl rfl) (pc' := 728) (ls' := [some (.inr (.inr (.inl (some 4)))), some (.inr (.inr (.inl (some 5)))), some (.inr (.inr (.inl (some 345)))), some (.inl (i))]) (st' := []) (hp' := (el_h L P)) (fun _ _ => rfl) ?_
      exact h12 i hi (by omega) hX
    by_cases w13 : w = 13
    · subst w13
      refine el_plain hmn BB (eg_at eo_law 1 1 rfl rfl) (pc' := 741) (ls' := [some (.inr (.inr (.inl (some 4)))), some (.inr (.inr (.inl (some 5)))), some (.inr (.inr (.inl (some 345)))), some (.inl (i))]) (st' := []) (hp' := (el_h L P)) (fun _ _ => rfl) ?_
      exact h13 i hi (by omega) hX
    by_cases w14 : w = 14
    · subst w14
      refine el_plain hmn BB (eg_at eo_law 1 1 rfl rfl) (pc' := 754) (ls' := [some (.inr (.inr (.inl (some 4)))), some (.inr (.inr (.inl (some 5)))), some (.inr (.inr (.inl (some 345)))), some (.inl (i))]) (st' := []) (hp' := (el_h L P)) (fun _ _ => rfl) ?_
      exact el_op14 hmn BB hR hi (by omega) hL hX
    by_cases w15 : w = 15
    · subst w15
      refine el_plain hmn BB (eg_at eo_law 1 1 rfl rfl) (pc' := 807) (ls' := [some (.inr (.inr (.inl (some 4)))), some (.inr (.inr (.inl (some 5)))), some (.inr (.inr (.inl (some 345)))), some (.inl (i))]) (st' := []) (hp' := (el_h L P)) (fun _ _ => rfl) ?_
      exact el_op15 hmn BB hR hi (by omega) hL hX
    by_cases w16 : w = 16
    · subst w16
      refine el_plain hmn BB (eg_at eo_law 1 1 rfl rfl) (pc' := 860) (ls' := [some (.inr (.inr (.inl (some 4)))), some (.inr (.inr (.inl (some 5)))), some (.inr (.inr (.inl (some 345)))), some (.inl (i))]) (st' := []) (hp' := (el_h L P)) (fun _ _ => rfl) ?_
      exact el_op16 hmn BB hR hi (by omega) hL hX
    by_cases w17 : w = 17
    · subst w17
      refine el_plain hmn BB (eg_at eo_law 1 1 rfl rfl) (pc' := 913) (ls' := [some (.inr (.inr (.inl (some 4)))), some (.inr (.inr (.inl (some 5)))), some (.inr (.inr (.inl (some 345)))), some (.inl (i))]) (st' := []) (hp' := (el_h L P)) (fun _ _ => rfl) ?_
      exact el_op17 hmn BB hR hi (by omega) hL hX
    by_cases w18 : w = 18
    · subst w18
      refine el_plain hmn BB (eg_at eo_law 1 1 rfl rfl) (pc' := 946) (ls' := [some (.inr (.inr (.inl (some 4)))), some (.inr (.inr (.inl (some 5)))), some (.inr (.inr (.inl (some 345)))), some (.inl (i))]) (st' := []) (hp' := (el_h L P)) (fun _ _ => rfl) ?_
      exact el_op18 hmn BB hR hi (by omega) hL hX
    by_cases w19 : w = 19
    · subst w19
      refine el_plain hmn BB (eg_at eo_law 1 1 rfl rfl) (pc' := 989) (ls' := [some (.inr (.inr (.inl (some 4)))), some (.inr (.inr (.inl (some 5)))), some (.inr (.inr (.inl (some 345)))), some (.inl (i))]) (st' := []) (hp' := (el_h L P)) (fun _ _ => rfl) ?_
      exact el_op19 hmn BB hR hi (by omega) hL hX
    by_cases w20 : w = 20
    · subst w20
      refine el_plain hmn BB (eg_at eo_law 1 1 rfl rfl) (pc' := 1022) (ls' := [some (.inr (.inr (.inl (some 4)))), some (.inr (.inr (.inl (some 5)))), some (.inr (.inr (.inl (some 345)))), some (.inl (i))]) (st' := []) (hp' := (el_h L P)) (fun _ _ => rfl) ?_
      exact el_op20 hmn BB hR hi (by omega) hL hX
    by_cases w21 : w = 21
    · subst w21
      refine el_plain hmn BB (eg_at eo_law 1 1 rfl rfl) (pc' := 1045) (ls' := [some (.inr (.inr (.inl (some 4)))), some (.inr (.inr (.inl (some 5)))), some (.inr (.inr (.inl (some 345)))), some (.inl (i))]) (st' := []) (hp' := (el_h L P)) (fun _ _ => rfl) ?_
      exact el_op21 hmn BB hR hi (by omega) hL hX
    by_cases w22 : w = 22
    · subst w22
      refine el_plain hmn BB (eg_at eo_law 1 1 rfl rfl) (pc' := 1058) (ls' := [some (.inr (.inr (.inl (some 4)))), some (.inr (.inr (.inl (some 5)))), some (.inr (.inr (.inl (some 345)))), some (.inl (i))]) (st' := []) (hp' := (el_h L P)) (fun _ _ => rfl) ?_
      exact el_op22 hmn BB hR hi (by omega) hL hX
    by_cases w23 : w = 23
    · subst w23
      refine el_plain hmn BB (eg_at eo_law 1 1 rfl rfl) (pc' := 1101) (ls' := [some (.inr (.inr (.inl (some 4)))), some (.inr (.inr (.inl (some 5)))), some (.inr (.inr (.inl (some 345)))), some (.inl (i))]) (st' := []) (hp' := (el_h L P)) (fun _ _ => rfl) ?_
      exact el_op23 hmn BB hR hi (by omega) hL hX
    by_cases w24 : w = 24
    · subst w24
      refine el_plain hmn BB (eg_at eo_law 1 1 rfl rfl) (pc' := 1144) (ls' := [some (.inr (.inr (.inl (some 4)))), some (.inr (.inr (.inl (some 5)))), some (.inr (.inr (.inl (some 345)))), some (.inl (i))]) (st' := []) (hp' := (el_h L P)) (fun _ _ => rfl) ?_
      exact el_op24 hmn BB hR hi (by omega) hL hX
    by_cases w25 : w = 25
    · subst w25
      refine el_plain hmn BB (eg_at eo_law 1 1 rfl rfl) (pc' := 1177) (ls' := [some (.inr (.inr (.inl (some 4)))), some (.inr (.inr (.inl (some 5)))), some (.inr (.inr (.inl (some 345)))), some (.inl (i))]) (st' := []) (hp' := (el_h L P)) (fun _ _ => rfl) ?_
      exact el_op25 hmn BB hR hi (by omega) hL hX
    by_cases w26 : w = 26
    · subst w26
      refine el_plain hmn BB (eg_at eo_law 1 1 rfl rfl) (pc' := 1210) (ls' := [some (.inr (.inr (.inl (some 4)))), some (.inr (.inr (.inl (some 5)))), some (.inr (.inr (.inl (some 345)))), some (.inl (i))]) (st' := []) (hp' := (el_h L P)) (fun _ _ => rfl) ?_
      exact el_op26 hmn BB hR hi (by omega) hL hX
    by_cases w27 : w = 27
    · subst w27
      refine el_plain hmn BB (eg_at eo_law 1 1 rfl rfl) (pc' := 1233) (ls' := [some (.inr (.inr (.inl (some 4)))), some (.inr (.inr (.inl (some 5)))), some (.inr (.inr (.inl (some 345)))), some (.inl (i))]) (st' := []) (hp' := (el_h L P)) (fun _ _ => rfl) ?_
      exact el_op27 hmn BB hR hi (by omega) hL hX
    by_cases w28 : w = 28
    · subst w28
      refine el_plain hmn BB (eg_at eo_law 1 1 rfl rfl) (pc' := 1276) (ls' := [some (.inr (.inr (.inl (some 4)))), some (.inr (.inr (.inl (some 5)))), some (.inr (.inr (.inl (some 345)))), some (.inl (i))]) (st' := []) (hp' := (el_h L P)) (fun _ _ => rfl) ?_
      exact el_op28 hmn BB hR hi (by omega) hL hX
    by_cases w29 : w = 29
    · subst w29
      refine el_plain hmn BB (eg_at eo_law 1 1 rfl rfl) (pc' := 1309) (ls' := [some (.inr (.inr (.inl (some 4)))), some (.inr (.inr (.inl (some 5)))), some (.inr (.inr (.inl (some 345)))), some (.inl (i))]) (st' := []) (hp' := (el_h L P)) (fun _ _ => rfl) ?_
      exact el_op29 hmn BB hR hi (by omega) hL hX
    by_cases w30 : w = 30
    · subst w30
      refine el_plain hmn BB (eg_at eo_law 1 1 rfl rfl) (pc' := 1332) (ls' := [some (.inr (.inr (.inl (some 4)))), some (.inr (.inr (.inl (some 5)))), some (.inr (.inr (.inl (some 345)))), some (.inl (i))]) (st' := []) (hp' := (el_h L P)) (fun _ _ => rfl) ?_
      exact h30 i hi (by omega) hX
    by_cases w31 : w = 31
    · subst w31
      refine el_plain hmn BB (eg_at eo_law 1 1 rfl rfl) (pc' := 1355) (ls' := [some (.inr (.inr (.inl (some 4)))), some (.inr (.inr (.inl (some 5)))), some (.inr (.inr (.inl (some 345)))), some (.inl (i))]) (st' := []) (hp' := (el_h L P)) (fun _ _ => rfl) ?_
      exact h31 i hi (by omega) hX
    by_cases w32 : w = 32
    · subst w32
      refine el_plain hmn BB (eg_at eo_law 1 1 rfl rfl) (pc' := 1378) (ls' := [some (.inr (.inr (.inl (some 4)))), some (.inr (.inr (.inl (some 5)))), some (.inr (.inr (.inl (some 345)))), some (.inl (i))]) (st' := []) (hp' := (el_h L P)) (fun _ _ => rfl) ?_
      exact el_op32 hmn BB hR hi (by omega) hL hX
    by_cases w33 : w = 33
    · subst w33
      refine el_plain hmn BB (eg_at eo_law 1 1 rfl rfl) (pc' := 1401) (ls' := [some (.inr (.inr (.inl (some 4)))), some (.inr (.inr (.inl (some 5)))), some (.inr (.inr (.inl (some 345)))), some (.inl (i))]) (st' := []) (hp' := (el_h L P)) (fun _ _ => rfl) ?_
      exact el_op33 hmn BB hR hi (by omega) hL hX
    exact el_tswd hmn BB (eg_at eo_law 1 1 rfl rfl) (t := 1414) (hi := 33) (fun _ => rfl) rfl (show w < 0 ∨ 33 < w by omega) hX
