/-! Each method's table is its code: decoded, its numbers found in the lists. Printed by wip/p1/gen17.py. -/
/-- an instruction's numbers, in the lists; oc: the number of its class, ini: whether the method is a constructor -/
def ek_l (oc : Nat) (ini : Bool) (x : ex_I) : Bool := match x with
  | (pc, ins, _, a, b, z) => match ins with
    | .getfield i => el_f.any (fun e => Nat.beq e.1 oc && Nat.beq e.2.1 i && Nat.beq e.2.2.1 a && Nat.beq e.2.2.2 b)
    | .putfield i => el_p.any (fun e => Nat.beq e.1 oc && Nat.beq e.2.1 i && Nat.beq e.2.2.1 a && Nat.beq e.2.2.2.1 b && ex_eq e.2.2.2.2.1 z && (Nat.beq e.2.2.2.2.2 0 || ini))
    | .getstatic i => el_s.any (fun e => Nat.beq e.1 oc && Nat.beq e.2.1 i && Nat.beq e.2.2 a)
    | .ldc i => el_c.any (fun e => Nat.beq e.1 oc && Nat.beq e.2.1 i && ex_eq e.2.2 z)
    | .ldc_w i => el_c.any (fun e => Nat.beq e.1 oc && Nat.beq e.2.1 i && ex_eq e.2.2 z)
    | .ldc2_w i => el_d.any (fun e => Nat.beq e.1 oc && Nat.beq e.2.1 i && ex_eq e.2.2 z)
    | .new i => el_n.any (fun e => Nat.beq e.1 oc && Nat.beq e.2.1 i && Nat.beq e.2.2 a)
    | .anewarray i => el_a.any (fun e => Nat.beq e.1 oc && Nat.beq e.2.1 i && Nat.beq e.2.2 a)
    | .multianewarray i _ => el_m.any (fun e => Nat.beq e.1 oc && Nat.beq e.2 i)
    | .tableswitch _ lo hi offs => decide ((offs.size : Int) = hi - lo + 1)
    | .ifCond _ off => ex_le 0 (Int.ofNat pc + off)
    | .if_icmp _ off => ex_le 0 (Int.ofNat pc + off)
    | .invokestatic i => if ex_eq z 1 then el_y.any (fun e => Nat.beq e.1 oc && Nat.beq e.2 i) else el_S.any (fun e => Nat.beq e.1 oc && Nat.beq e.2.1 i && Nat.beq e.2.2.1 a && Nat.beq e.2.2.2 b)
    | .invokevirtual i => el_V.any (fun e => Nat.beq e.1 oc && Nat.beq e.2.1 i && Nat.beq e.2.2.1 a && Nat.beq e.2.2.2 b)
    | .invokespecial i => if ex_eq z 1 then el_o.any (fun e => Nat.beq e.1 oc && Nat.beq e.2 i) else el_I.any (fun e => Nat.beq e.1 oc && Nat.beq e.2.1 i && Nat.beq e.2.2.1 a && Nat.beq e.2.2.2 b)
    | _ => true
theorem el_p_fin : ∀ e ∈ el_p, e.2.2.2.2.2 = 0 → ∀ (T : u_T) (ty : Nat → FieldType), ek_F (ec_on e.1) e.2.1 e.2.2.1 e.2.2.2.1 T ty → (T e.2.2.2.1).2.2.2 = false := by
  intro e he h0 T ty hF
  obtain ⟨C, N, k1, -⟩ := hF
  have key : ∀ e ∈ el_p, e.2.2.2.2.2 = 0 → ((ec_cl[e.2.2.1]?).map (fun r => (r.2.1 e.2.2.2.1).2.2.2)) = some false := by decide +kernel
  have h := key e he h0
  rw [k1] at h
  exact Option.some.inj h
theorem ek_of {oc : Nat} {ini : Bool} {own mname : String} {bytes : ByteArray} {tb : List (List ex_I)} (ho : ec_on oc = own) (hi : ini = true → mname = "<init>") (h1 : (tb.all fun ch => ch.all fun x => ek_d bytes x) = true) (h2 : (tb.all fun ch => ch.all fun x => ek_l oc ini x) = true) : ∀ ch ∈ tb, ∀ x ∈ ch, ek_ok em_inf et_cls et_vt own mname bytes x := by
  intro ch hch x hx
  subst ho
  have d := List.all_eq_true.mp (List.all_eq_true.mp h1 ch hch) x hx
  have q := List.all_eq_true.mp (List.all_eq_true.mp h2 ch hch) x hx
  unfold ek_d at d
  rw [Bool.and_eq_true, decide_eq_true_eq] at d
  refine ⟨d.1, d.2, ?_⟩
  obtain ⟨pc, ins, len, a, b, z⟩ := x
  have jmp : ∀ off : Int, ex_le 0 (Int.ofNat pc + off) = true → ∃ t : Nat, (pc : Int) + off = (t : Int) := fun off h => by
    rw [ex_le_iff] at h
    exact ⟨((pc : Int) + off).toNat, by have h : 0 ≤ (pc : Int) + off := h; omega⟩
  cases ins with
  | aaload => exact trivial
  | aastore => exact trivial
  | aconst_null => exact trivial
  | aload index9 => exact trivial
  | aload_n n9 => exact trivial
  | anewarray index9 =>
    replace q : el_a.any (fun e => Nat.beq e.1 oc && Nat.beq e.2.1 index9 && Nat.beq e.2.2 a) = true := q
    obtain ⟨⟨e1, e2, e3⟩, he, hb⟩ := List.any_eq_true.mp q
    simp only [Bool.and_eq_true] at hb
    obtain rfl := Nat.eq_of_beq_eq_true hb.1.1
    obtain rfl := Nat.eq_of_beq_eq_true hb.1.2
    obtain rfl := Nat.eq_of_beq_eq_true hb.2
    exact el_a_ok _ he
  | areturn => exact trivial
  | arraylength => exact trivial
  | astore index9 => exact trivial
  | astore_n n9 => exact trivial
  | athrow => exact trivial
  | baload => exact trivial
  | bastore => exact trivial
  | bipush byte9 => exact trivial
  | caload => exact trivial
  | castore => exact trivial
  | checkcast index9 => exact trivial
  | d2f => exact trivial
  | d2i => exact trivial
  | d2l => exact trivial
  | dadd => exact trivial
  | daload => exact trivial
  | dastore => exact trivial
  | dcmp op9 => exact trivial
  | dconst d9 => exact trivial
  | ddiv => exact trivial
  | dload index9 => exact trivial
  | dload_n n9 => exact trivial
  | dmul => exact trivial
  | dneg => exact trivial
  | drem => exact trivial
  | dreturn => exact trivial
  | dstore index9 => exact trivial
  | dstore_n n9 => exact trivial
  | dsub => exact trivial
  | dup => exact trivial
  | dup_x1 => exact trivial
  | dup_x2 => exact trivial
  | dup2 => exact trivial
  | dup2_x1 => exact trivial
  | dup2_x2 => exact trivial
  | f2d => exact trivial
  | f2i => exact trivial
  | f2l => exact trivial
  | fadd => exact trivial
  | faload => exact trivial
  | fastore => exact trivial
  | fcmp op9 => exact trivial
  | fconst f9 => exact trivial
  | fdiv => exact trivial
  | fload index9 => exact trivial
  | fload_n n9 => exact trivial
  | fmul => exact trivial
  | fneg => exact trivial
  | frem => exact trivial
  | freturn => exact trivial
  | fstore index9 => exact trivial
  | fstore_n n9 => exact trivial
  | fsub => exact trivial
  | getfield index9 =>
    replace q : el_f.any (fun e => Nat.beq e.1 oc && Nat.beq e.2.1 index9 && Nat.beq e.2.2.1 a && Nat.beq e.2.2.2 b) = true := q
    obtain ⟨⟨e1, e2, e3, e4⟩, he, hb⟩ := List.any_eq_true.mp q
    simp only [Bool.and_eq_true] at hb
    obtain rfl := Nat.eq_of_beq_eq_true hb.1.1.1
    obtain rfl := Nat.eq_of_beq_eq_true hb.1.1.2
    obtain rfl := Nat.eq_of_beq_eq_true hb.1.2
    obtain rfl := Nat.eq_of_beq_eq_true hb.2
    exact el_f_ok _ he
  | getstatic index9 =>
    replace q : el_s.any (fun e => Nat.beq e.1 oc && Nat.beq e.2.1 index9 && Nat.beq e.2.2 a) = true := q
    obtain ⟨⟨e1, e2, e3⟩, he, hb⟩ := List.any_eq_true.mp q
    simp only [Bool.and_eq_true] at hb
    obtain rfl := Nat.eq_of_beq_eq_true hb.1.1
    obtain rfl := Nat.eq_of_beq_eq_true hb.1.2
    obtain rfl := Nat.eq_of_beq_eq_true hb.2
    exact el_s_ok _ he
  | goto offset9 => exact trivial
  | goto_w offset9 => exact trivial
  | i2b => exact trivial
  | i2c => exact trivial
  | i2d => exact trivial
  | i2f => exact trivial
  | i2l => exact trivial
  | i2s => exact trivial
  | iadd => exact trivial
  | iaload => exact trivial
  | iand => exact trivial
  | iastore => exact trivial
  | iconst i9 => exact trivial
  | idiv => exact trivial
  | if_acmp cond9 offset9 => exact trivial
  | if_icmp cond9 offset9 => exact jmp _ q
  | ifCond cond9 offset9 => exact jmp _ q
  | ifnonnull offset9 => exact trivial
  | ifnull offset9 => exact trivial
  | iinc index9 const9 => exact trivial
  | iload index9 => exact trivial
  | iload_n n9 => exact trivial
  | imul => exact trivial
  | ineg => exact trivial
  | instanceof index9 => exact trivial
  | invokedynamic index9 => exact trivial
  | invokeinterface index9 count9 => exact trivial
  | invokespecial index9 =>
    by_cases hz : ex_eq z 1 = true
    · have q' : el_o.any (fun e => Nat.beq e.1 oc && Nat.beq e.2 index9) = true := by
        have q2 : (if ex_eq z 1 = true then el_o.any (fun e => Nat.beq e.1 oc && Nat.beq e.2 index9) else el_I.any (fun e => Nat.beq e.1 oc && Nat.beq e.2.1 index9 && Nat.beq e.2.2.1 a && Nat.beq e.2.2.2 b)) = true := q
        rw [if_pos hz] at q2
        exact q2
      obtain ⟨⟨e1, e2⟩, he, hb⟩ := List.any_eq_true.mp q'
      simp only [Bool.and_eq_true] at hb
      obtain rfl := Nat.eq_of_beq_eq_true hb.1
      obtain rfl := Nat.eq_of_beq_eq_true hb.2
      exact Or.inl ⟨(ex_eq_iff _ _).mp hz, el_o_ok _ he⟩
    · have q' : el_I.any (fun e => Nat.beq e.1 oc && Nat.beq e.2.1 index9 && Nat.beq e.2.2.1 a && Nat.beq e.2.2.2 b) = true := by
        have q2 : (if ex_eq z 1 = true then el_o.any (fun e => Nat.beq e.1 oc && Nat.beq e.2 index9) else el_I.any (fun e => Nat.beq e.1 oc && Nat.beq e.2.1 index9 && Nat.beq e.2.2.1 a && Nat.beq e.2.2.2 b)) = true := q
        rw [if_neg hz] at q2
        exact q2
      obtain ⟨⟨e1, e2, e3, e4⟩, he, hb⟩ := List.any_eq_true.mp q'
      simp only [Bool.and_eq_true] at hb
      obtain rfl := Nat.eq_of_beq_eq_true hb.1.1.1
      obtain rfl := Nat.eq_of_beq_eq_true hb.1.1.2
      obtain rfl := Nat.eq_of_beq_eq_true hb.1.2
      obtain rfl := Nat.eq_of_beq_eq_true hb.2
      exact Or.inr ⟨fun h => hz ((ex_eq_iff _ _).mpr h), el_I_ok _ he⟩
  | invokestatic index9 =>
    by_cases hz : ex_eq z 1 = true
    · have q' : el_y.any (fun e => Nat.beq e.1 oc && Nat.beq e.2 index9) = true := by
        have q2 : (if ex_eq z 1 = true then el_y.any (fun e => Nat.beq e.1 oc && Nat.beq e.2 index9) else el_S.any (fun e => Nat.beq e.1 oc && Nat.beq e.2.1 index9 && Nat.beq e.2.2.1 a && Nat.beq e.2.2.2 b)) = true := q
        rw [if_pos hz] at q2
        exact q2
      obtain ⟨⟨e1, e2⟩, he, hb⟩ := List.any_eq_true.mp q'
      simp only [Bool.and_eq_true] at hb
      obtain rfl := Nat.eq_of_beq_eq_true hb.1
      obtain rfl := Nat.eq_of_beq_eq_true hb.2
      exact Or.inl ⟨(ex_eq_iff _ _).mp hz, el_y_ok _ he⟩
    · have q' : el_S.any (fun e => Nat.beq e.1 oc && Nat.beq e.2.1 index9 && Nat.beq e.2.2.1 a && Nat.beq e.2.2.2 b) = true := by
        have q2 : (if ex_eq z 1 = true then el_y.any (fun e => Nat.beq e.1 oc && Nat.beq e.2 index9) else el_S.any (fun e => Nat.beq e.1 oc && Nat.beq e.2.1 index9 && Nat.beq e.2.2.1 a && Nat.beq e.2.2.2 b)) = true := q
        rw [if_neg hz] at q2
        exact q2
      obtain ⟨⟨e1, e2, e3, e4⟩, he, hb⟩ := List.any_eq_true.mp q'
      simp only [Bool.and_eq_true] at hb
      obtain rfl := Nat.eq_of_beq_eq_true hb.1.1.1
      obtain rfl := Nat.eq_of_beq_eq_true hb.1.1.2
      obtain rfl := Nat.eq_of_beq_eq_true hb.1.2
      obtain rfl := Nat.eq_of_beq_eq_true hb.2
      exact Or.inr ⟨fun h => hz ((ex_eq_iff _ _).mpr h), el_S_ok _ he⟩
  | invokevirtual index9 =>
    replace q : el_V.any (fun e => Nat.beq e.1 oc && Nat.beq e.2.1 index9 && Nat.beq e.2.2.1 a && Nat.beq e.2.2.2 b) = true := q
    obtain ⟨⟨e1, e2, e3, e4⟩, he, hb⟩ := List.any_eq_true.mp q
    simp only [Bool.and_eq_true] at hb
    obtain rfl := Nat.eq_of_beq_eq_true hb.1.1.1
    obtain rfl := Nat.eq_of_beq_eq_true hb.1.1.2
    obtain rfl := Nat.eq_of_beq_eq_true hb.1.2
    obtain rfl := Nat.eq_of_beq_eq_true hb.2
    exact el_V_ok _ he
  | ior => exact trivial
  | irem => exact trivial
  | ireturn => exact trivial
  | ishl => exact trivial
  | ishr => exact trivial
  | istore index9 => exact trivial
  | istore_n n9 => exact trivial
  | isub => exact trivial
  | iushr => exact trivial
  | ixor => exact trivial
  | jsr offset9 => exact trivial
  | jsr_w offset9 => exact trivial
  | l2d => exact trivial
  | l2f => exact trivial
  | l2i => exact trivial
  | ladd => exact trivial
  | laload => exact trivial
  | land => exact trivial
  | lastore => exact trivial
  | lcmp => exact trivial
  | lconst l9 => exact trivial
  | ldc index9 =>
    replace q : el_c.any (fun e => Nat.beq e.1 oc && Nat.beq e.2.1 index9 && ex_eq e.2.2 z) = true := q
    obtain ⟨⟨e1, e2, e3⟩, he, hb⟩ := List.any_eq_true.mp q
    simp only [Bool.and_eq_true] at hb
    obtain rfl := Nat.eq_of_beq_eq_true hb.1.1
    obtain rfl := Nat.eq_of_beq_eq_true hb.1.2
    obtain rfl := (ex_eq_iff _ _).mp hb.2
    exact el_c_ok _ he
  | ldc_w index9 =>
    replace q : el_c.any (fun e => Nat.beq e.1 oc && Nat.beq e.2.1 index9 && ex_eq e.2.2 z) = true := q
    obtain ⟨⟨e1, e2, e3⟩, he, hb⟩ := List.any_eq_true.mp q
    simp only [Bool.and_eq_true] at hb
    obtain rfl := Nat.eq_of_beq_eq_true hb.1.1
    obtain rfl := Nat.eq_of_beq_eq_true hb.1.2
    obtain rfl := (ex_eq_iff _ _).mp hb.2
    exact el_c_ok _ he
  | ldc2_w index9 =>
    replace q : el_d.any (fun e => Nat.beq e.1 oc && Nat.beq e.2.1 index9 && ex_eq e.2.2 z) = true := q
    obtain ⟨⟨e1, e2, e3⟩, he, hb⟩ := List.any_eq_true.mp q
    simp only [Bool.and_eq_true] at hb
    obtain rfl := Nat.eq_of_beq_eq_true hb.1.1
    obtain rfl := Nat.eq_of_beq_eq_true hb.1.2
    obtain rfl := (ex_eq_iff _ _).mp hb.2
    exact el_d_ok _ he
  | ldiv => exact trivial
  | lload index9 => exact trivial
  | lload_n n9 => exact trivial
  | lmul => exact trivial
  | lneg => exact trivial
  | lor => exact trivial
  | lrem => exact trivial
  | lreturn => exact trivial
  | lshl => exact trivial
  | lshr => exact trivial
  | lstore index9 => exact trivial
  | lstore_n n9 => exact trivial
  | lsub => exact trivial
  | lushr => exact trivial
  | lxor => exact trivial
  | monitorenter => exact trivial
  | monitorexit => exact trivial
  | multianewarray index9 dimensions9 =>
    replace q : el_m.any (fun e => Nat.beq e.1 oc && Nat.beq e.2 index9) = true := q
    obtain ⟨⟨e1, e2⟩, he, hb⟩ := List.any_eq_true.mp q
    simp only [Bool.and_eq_true] at hb
    obtain rfl := Nat.eq_of_beq_eq_true hb.1
    obtain rfl := Nat.eq_of_beq_eq_true hb.2
    exact el_m_ok _ he
  | new index9 =>
    replace q : el_n.any (fun e => Nat.beq e.1 oc && Nat.beq e.2.1 index9 && Nat.beq e.2.2 a) = true := q
    obtain ⟨⟨e1, e2, e3⟩, he, hb⟩ := List.any_eq_true.mp q
    simp only [Bool.and_eq_true] at hb
    obtain rfl := Nat.eq_of_beq_eq_true hb.1.1
    obtain rfl := Nat.eq_of_beq_eq_true hb.1.2
    obtain rfl := Nat.eq_of_beq_eq_true hb.2
    exact el_n_ok _ he
  | newarray atype9 => exact trivial
  | nop => exact trivial
  | pop => exact trivial
  | pop2 => exact trivial
  | putfield index9 =>
    replace q : el_p.any (fun e => Nat.beq e.1 oc && Nat.beq e.2.1 index9 && Nat.beq e.2.2.1 a && Nat.beq e.2.2.2.1 b && ex_eq e.2.2.2.2.1 z && (Nat.beq e.2.2.2.2.2 0 || ini)) = true := q
    obtain ⟨⟨e1, e2, e3, e4, e5, e6⟩, he, hb⟩ := List.any_eq_true.mp q
    simp only [Bool.and_eq_true, Bool.or_eq_true] at hb
    obtain rfl := Nat.eq_of_beq_eq_true hb.1.1.1.1.1
    obtain rfl := Nat.eq_of_beq_eq_true hb.1.1.1.1.2
    obtain rfl := Nat.eq_of_beq_eq_true hb.1.1.1.2
    obtain rfl := Nat.eq_of_beq_eq_true hb.1.1.2
    obtain rfl := (ex_eq_iff _ _).mp hb.1.2
    obtain ⟨T, ty, k1, k2, k3⟩ := el_p_ok _ he
    refine ⟨T, ty, k1, k2, ?_⟩
    rcases k3 with k3 | ⟨k3, k4⟩
    · exact Or.inl k3
    · rcases hb.2 with h0 | h0
      · have hf := el_p_fin _ he (Nat.eq_of_beq_eq_true h0)
        exact Or.inl (hf T ty k1)
      · exact Or.inr ⟨k3, hi h0, k4⟩
  | putstatic index9 => exact trivial
  | ret index9 => exact trivial
  | return_ => exact trivial
  | saload => exact trivial
  | sastore => exact trivial
  | sipush value9 => exact trivial
  | swap => exact trivial
  | tableswitch default9 low9 high9 offsets9 =>
    have q2 : decide ((offsets9.size : Int) = high9 - low9 + 1) = true := q
    have q3 : (offsets9.size : Int) = high9 - low9 + 1 := of_decide_eq_true q2
    exact q3
  | lookupswitch default9 pairs9 => exact trivial
