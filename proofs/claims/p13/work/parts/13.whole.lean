/-! Every instruction of the runner; a whole frame; a method. Printed by wip/p1/gen13.py. -/
/-- what an instruction asks of the words, by its own numbers -/
def ek_in (inf : List (MethodName × ByteArray × Nat × Option FieldType)) (cls : List (List ex_V)) (vt : List (List (Nat × Nat))) (own mname : String) (pc : Nat) (ins : Instr) (a b : Nat) (z : Int) : Prop := match ins with
  | .getfield i => ∃ (T : u_T) (ty : Nat → FieldType), ek_F own i a b T ty
  | .putfield i => ∃ (T : u_T) (ty : Nat → FieldType), ek_F own i a b T ty ∧ ek_tc (ty b) z ∧ ((T b).2.2.2 = false ∨ ((T b).2.2.2 = true ∧ mname = "<init>" ∧ (T b).1 = own))
  | .getstatic i => ∃ x : String × String, ec_st[a]? = some x ∧ Jvm.Cond.fieldLink own i x.1 x.2 "[I" ∈ eg_T
  | .ldc i => Jvm.Cond.constant own i (Int32.ofInt z) ∈ eg_T
  | .ldc_w i => Jvm.Cond.constant own i (Int32.ofInt z) ∈ eg_T
  | .ldc2_w i => Jvm.Cond.constantLong own i (Int64.ofInt z) ∈ eg_T
  | .new i => ek_N own i a cls
  | .anewarray i => ∃ C : String, Jvm.Cond.classLink own i C ∈ eg_T ∧ ((a = 3 ∧ C = "WarmNight$Carriage") ∨ (a = 4 ∧ C = "WarmNight$Even"))
  | .multianewarray i _ => Jvm.Cond.classLink own i "[[I" ∈ eg_T
  | .tableswitch _ lo hi offs => (offs.size : Int) = hi - lo + 1
  | .ifCond _ off => ∃ t : Nat, (pc : Int) + off = (t : Int)
  | .if_icmp _ off => ∃ t : Nat, (pc : Int) + off = (t : Int)
  | .invokestatic i => (z = 1 ∧ Jvm.Cond.methodLink own i arraycopyName ∈ eg_T) ∨ (¬ z = 1 ∧ ∃ (y : MethodName) (by' : ByteArray) (nl : Nat) (rt : Option FieldType), inf[a]? = some (y, by', nl, rt) ∧ ec_callS own i y by' nl rt b)
  | .invokevirtual i => ∀ vs, vt[a]? = some vs → ∀ q ∈ vs, ∃ (y : MethodName) (by' : ByteArray) (nl : Nat) (rt : Option FieldType) (r : vw_C), inf[q.2]? = some (y, by', nl, rt) ∧ ec_cl[q.1]? = some r ∧ ec_callV own i r.1 y by' nl rt b
  | .invokespecial i => (z = 1 ∧ Jvm.Cond.methodLink own i Lib.objectInit ∈ eg_T) ∨ (¬ z = 1 ∧ ∃ (y : MethodName) (by' : ByteArray) (nl : Nat) (rt : Option FieldType), inf[a]? = some (y, by', nl, rt) ∧ ec_callI own i y by' nl rt b)
  | _ => True
def ek_ok (inf : List (MethodName × ByteArray × Nat × Option FieldType)) (cls : List (List ex_V)) (vt : List (List (Nat × Nat))) (own mname : String) (bytes : ByteArray) (x : ex_I) : Prop :=
  decode bytes x.1 = .ok (x.2.1, x.2.2.1) ∧ ek_ln x.2.1 x.2.2.1 = true ∧ ek_in inf cls vt own mname x.1 x.2.1 x.2.2.2.1 x.2.2.2.2.1 x.2.2.2.2.2
/-- words that any method may need -/
def ek_glob : Prop := Jvm.Cond.arrayClass .int ∈ eg_T ∧ Jvm.Cond.arrayClass .boolean ∈ eg_T ∧ Jvm.Cond.native arraycopyName ∈ eg_T ∧ Jvm.Cond.static arraycopyName ∈ eg_T ∧ Jvm.Cond.initialized "java/lang/System" ∈ eg_T ∧ Jvm.Cond.instanceMethod Lib.objectInit ∈ eg_T ∧ Jvm.Cond.code Lib.objectInit ⟨#[0xb1]⟩ 1 none ∈ eg_T ∧
  8 + (nativeFrameWords "java/lang/System" "arraycopy" 5 + 11) ≤ 64
section ES
variable {p : Program} {l : Launch} {e : Env} {R : Room} {s : State} {m : MethodId} {args : Array Value} {below : List Frame} {meth : Method} {c : Code} {Q : State → Prop} {ν : Nat → Int32} {D : va_G} {τ : Nat → ClassId} {sa : List Nat} {ro : List ex_C} {A : Nat → Prop} {ws0 : va_W} {bytes : ByteArray} {nL : Nat} {own : String}
variable {cls : List (List ex_V)} {vt : List (List (Nat × Nat))} {lim : Nat × Nat} {ret : Option FieldType} {go : Nat → List (Option ex_V) → List ex_V → ex_H → Nat → Nat → Bool} {cal : Nat → List ex_V → ex_H → Nat → Nat → (Option ex_V → ex_H → Nat → Nat → Bool) → Bool} {nat : Bool} {K : Option ex_V → ex_H → Bool} {pc a b : Nat} {z : Int} {ls : List (Option ex_V)} {st : List ex_V} {hp : ex_H} {ce sl : Nat}

theorem es_nonew {t : ArrayType} (h1 : t ≠ .int) (h2 : t ≠ .boolean) (h : ex_step cls vt lim ret go cal nat K pc (.newarray t) a b z ls st hp ce sl = true) : False := by
  match st, h with
  | [], h => exact absurd h Bool.false_ne_true
  | .inl (.ofNat n) :: r, h =>
    cases t with
    | int => exact h1 rfl
    | boolean => exact h2 rfl
    | char => exact absurd (ex_if (X := false) h).2 Bool.false_ne_true
    | float => exact absurd (ex_if (X := false) h).2 Bool.false_ne_true
    | double => exact absurd (ex_if (X := false) h).2 Bool.false_ne_true
    | byte => exact absurd (ex_if (X := false) h).2 Bool.false_ne_true
    | short => exact absurd (ex_if (X := false) h).2 Bool.false_ne_true
    | long => exact absurd (ex_if (X := false) h).2 Bool.false_ne_true
  | .inl (.negSucc n) :: r, h => exact absurd h Bool.false_ne_true
  | .inr (.inl v) :: r, h => exact absurd h Bool.false_ne_true
  | .inr (.inr (.inl v)) :: r, h => exact absurd h Bool.false_ne_true
  | .inr (.inr (.inr (.inl v))) :: r, h => exact absurd h Bool.false_ne_true
  | .inr (.inr (.inr (.inr v))) :: r, h => exact absurd h Bool.false_ne_true
theorem es_nomulti {i d : Nat} (h2 : ¬ d = 2) (h : ex_step cls vt lim ret go cal nat K pc (.multianewarray i d) a b z ls st hp ce sl = true) : False := by
  match st, h with
  | [], h => exact absurd h Bool.false_ne_true
  | [_], h => exact absurd h Bool.false_ne_true
  | y :: x :: r, h =>
    have hb : ¬ Nat.beq d 2 = true := fun q => h2 (Nat.eq_of_beq_eq_true q)
    change (if Nat.beq d 2 = true then _ else false) = true at h
    rw [if_neg hb] at h
    exact absurd h Bool.false_ne_true
set_option maxHeartbeats 4000000 in
theorem er_step (B : eb_B p s m args c bytes nL own D τ sa ro A) (hgo : ∀ pc ls st hp ce sl, go pc ls st hp ce sl = true → ew_G p l e R s m args below meth c Q ν D τ sa ro A ws0 nL pc ls st hp ce sl) {inf : List (MethodName × ByteArray × Nat × Option FieldType)} {mname : String} {d len : Nat} {ins : Instr} (glob : ek_glob) (hmn : em_mna) (hmeth : meth.name = mname) (hnat : nat = true → 1 ≤ R.frames ∧ 64 ≤ R.locals) (hlim : lim.1 ≤ R.cells ∧ lim.2 ≤ R.slots) (hcal : em_cal l R ν D τ sa ro A inf cal) (hret : em_ret p l e R s m args below meth c Q ν D τ sa ro A ws0 bytes lim ret K)
    (hd : decode bytes pc = .ok (ins, len)) (hlen : ek_ln ins len = true) (hin : ek_in inf cls vt own mname pc ins a b z) (h : ex_step cls vt lim ret go cal nat K pc ins a b z ls st hp ce sl = true) : ew_G p l e R s m args below meth c Q ν D τ sa ro A ws0 nL pc ls st hp ce sl := by
  obtain ⟨gi, gz, gn, gs, gy, go1, go2, gw⟩ := glob
  cases ins with
  | aaload =>
    obtain rfl : len = 1 := Nat.eq_of_beq_eq_true hlen
    exact es_aaload B hgo hd h
  | aastore =>
    obtain rfl : len = 1 := Nat.eq_of_beq_eq_true hlen
    exact es_aastore B hgo hd h
  | aconst_null => exact absurd h Bool.false_ne_true
  | aload index9 =>
    obtain rfl : len = 2 := Nat.eq_of_beq_eq_true hlen
    exact es_aload B hgo hd h
  | aload_n n9 =>
    obtain rfl : len = 1 := Nat.eq_of_beq_eq_true hlen
    exact es_aload_n B hgo hd h
  | anewarray index9 =>
    obtain rfl : len = 3 := Nat.eq_of_beq_eq_true hlen
    obtain ⟨C, k1, ⟨rfl, rfl⟩ | ⟨rfl, rfl⟩⟩ := hin
    · exact es_anewarray B hgo k1 (Or.inl rfl) rfl hlim hd h
    · exact es_anewarray B hgo k1 (Or.inr rfl) rfl hlim hd h
  | areturn => exact absurd h Bool.false_ne_true
  | arraylength =>
    obtain rfl : len = 1 := Nat.eq_of_beq_eq_true hlen
    exact es_arraylength B hgo hd h
  | astore index9 =>
    obtain rfl : len = 2 := Nat.eq_of_beq_eq_true hlen
    exact es_astore B hgo hd h
  | astore_n n9 =>
    obtain rfl : len = 1 := Nat.eq_of_beq_eq_true hlen
    exact es_astore_n B hgo hd h
  | athrow => exact absurd h Bool.false_ne_true
  | baload =>
    obtain rfl : len = 1 := Nat.eq_of_beq_eq_true hlen
    exact es_baload B hgo hd h
  | bastore =>
    obtain rfl : len = 1 := Nat.eq_of_beq_eq_true hlen
    exact es_bastore B hgo hd h
  | bipush byte9 =>
    obtain rfl : len = 2 := Nat.eq_of_beq_eq_true hlen
    exact es_bipush B hgo hd h
  | caload => exact absurd h Bool.false_ne_true
  | castore => exact absurd h Bool.false_ne_true
  | checkcast index9 => exact absurd h Bool.false_ne_true
  | d2f => exact absurd h Bool.false_ne_true
  | d2i => exact absurd h Bool.false_ne_true
  | d2l => exact absurd h Bool.false_ne_true
  | dadd => exact absurd h Bool.false_ne_true
  | daload => exact absurd h Bool.false_ne_true
  | dastore => exact absurd h Bool.false_ne_true
  | dcmp op9 => exact absurd h Bool.false_ne_true
  | dconst d9 => exact absurd h Bool.false_ne_true
  | ddiv => exact absurd h Bool.false_ne_true
  | dload index9 => exact absurd h Bool.false_ne_true
  | dload_n n9 => exact absurd h Bool.false_ne_true
  | dmul => exact absurd h Bool.false_ne_true
  | dneg => exact absurd h Bool.false_ne_true
  | drem => exact absurd h Bool.false_ne_true
  | dreturn => exact absurd h Bool.false_ne_true
  | dstore index9 => exact absurd h Bool.false_ne_true
  | dstore_n n9 => exact absurd h Bool.false_ne_true
  | dsub => exact absurd h Bool.false_ne_true
  | dup =>
    obtain rfl : len = 1 := Nat.eq_of_beq_eq_true hlen
    exact es_dup B hgo hd h
  | dup_x1 =>
    obtain rfl : len = 1 := Nat.eq_of_beq_eq_true hlen
    exact es_dup_x1 B hgo hd h
  | dup_x2 => exact absurd h Bool.false_ne_true
  | dup2 =>
    obtain rfl : len = 1 := Nat.eq_of_beq_eq_true hlen
    exact es_dup2 B hgo hd h
  | dup2_x1 => exact absurd h Bool.false_ne_true
  | dup2_x2 => exact absurd h Bool.false_ne_true
  | f2d => exact absurd h Bool.false_ne_true
  | f2i => exact absurd h Bool.false_ne_true
  | f2l => exact absurd h Bool.false_ne_true
  | fadd => exact absurd h Bool.false_ne_true
  | faload => exact absurd h Bool.false_ne_true
  | fastore => exact absurd h Bool.false_ne_true
  | fcmp op9 => exact absurd h Bool.false_ne_true
  | fconst f9 => exact absurd h Bool.false_ne_true
  | fdiv => exact absurd h Bool.false_ne_true
  | fload index9 => exact absurd h Bool.false_ne_true
  | fload_n n9 => exact absurd h Bool.false_ne_true
  | fmul => exact absurd h Bool.false_ne_true
  | fneg => exact absurd h Bool.false_ne_true
  | frem => exact absurd h Bool.false_ne_true
  | freturn => exact absurd h Bool.false_ne_true
  | fstore index9 => exact absurd h Bool.false_ne_true
  | fstore_n n9 => exact absurd h Bool.false_ne_true
  | fsub => exact absurd h Bool.false_ne_true
  | getfield index9 =>
    obtain rfl : len = 3 := Nat.eq_of_beq_eq_true hlen
    obtain ⟨T, ty, k⟩ := hin
    exact es_getfield B hgo k hd h
  | getstatic index9 =>
    obtain rfl : len = 3 := Nat.eq_of_beq_eq_true hlen
    obtain ⟨x, k1, k2⟩ := hin
    exact es_getstatic B hgo k1 k2 hd h
  | goto offset9 =>
    obtain rfl : len = 3 := Nat.eq_of_beq_eq_true hlen
    exact es_goto B hgo hd h
  | goto_w offset9 => exact absurd h Bool.false_ne_true
  | i2b => exact absurd h Bool.false_ne_true
  | i2c => exact absurd h Bool.false_ne_true
  | i2d => exact absurd h Bool.false_ne_true
  | i2f => exact absurd h Bool.false_ne_true
  | i2l =>
    obtain rfl : len = 1 := Nat.eq_of_beq_eq_true hlen
    exact es_i2l B hgo hd h
  | i2s => exact absurd h Bool.false_ne_true
  | iadd =>
    obtain rfl : len = 1 := Nat.eq_of_beq_eq_true hlen
    exact es_iadd B hgo hd h
  | iaload =>
    obtain rfl : len = 1 := Nat.eq_of_beq_eq_true hlen
    exact es_iaload B hgo hd h
  | iand =>
    obtain rfl : len = 1 := Nat.eq_of_beq_eq_true hlen
    exact es_iand B hgo hd h
  | iastore =>
    obtain rfl : len = 1 := Nat.eq_of_beq_eq_true hlen
    exact es_iastore B hgo hd h
  | iconst i9 =>
    obtain rfl : len = 1 := Nat.eq_of_beq_eq_true hlen
    exact es_iconst B hgo hd h
  | idiv =>
    obtain rfl : len = 1 := Nat.eq_of_beq_eq_true hlen
    exact es_idiv B hgo hd h
  | if_acmp cond9 offset9 => exact absurd h Bool.false_ne_true
  | if_icmp cond9 offset9 =>
    obtain rfl : len = 3 := Nat.eq_of_beq_eq_true hlen
    cases cond9 with
    | eq => exact es_icmp_eq B hgo hin hd h
    | ne => exact es_icmp_ne B hgo hin hd h
    | lt => exact es_icmp_lt B hgo hin hd h
    | ge => exact es_icmp_ge B hgo hin hd h
    | gt => exact es_icmp_gt B hgo hin hd h
    | le => exact es_icmp_le B hgo hin hd h
  | ifCond cond9 offset9 =>
    obtain rfl : len = 3 := Nat.eq_of_beq_eq_true hlen
    cases cond9 with
    | eq => exact es_if_eq B hgo hin hd h
    | ne => exact es_if_ne B hgo hin hd h
    | lt => exact es_if_lt B hgo hin hd h
    | ge => exact es_if_ge B hgo hin hd h
    | gt => exact es_if_gt B hgo hin hd h
    | le => exact es_if_le B hgo hin hd h
  | ifnonnull offset9 => exact absurd h Bool.false_ne_true
  | ifnull offset9 => exact absurd h Bool.false_ne_true
  | iinc index9 const9 =>
    obtain rfl : len = 3 := Nat.eq_of_beq_eq_true hlen
    exact es_iinc B hgo hd h
  | iload index9 =>
    obtain rfl : len = 2 := Nat.eq_of_beq_eq_true hlen
    exact es_iload B hgo hd h
  | iload_n n9 =>
    obtain rfl : len = 1 := Nat.eq_of_beq_eq_true hlen
    exact es_iload_n B hgo hd h
  | imul =>
    obtain rfl : len = 1 := Nat.eq_of_beq_eq_true hlen
    exact es_imul B hgo hd h
  | ineg =>
    obtain rfl : len = 1 := Nat.eq_of_beq_eq_true hlen
    exact es_ineg B hgo hd h
  | instanceof index9 => exact absurd h Bool.false_ne_true
  | invokedynamic index9 => exact absurd h Bool.false_ne_true
  | invokeinterface index9 count9 => exact absurd h Bool.false_ne_true
  | invokespecial index9 =>
    obtain rfl : len = 3 := Nat.eq_of_beq_eq_true hlen
    rcases hin with ⟨hz, k⟩ | ⟨hz, y, by', nl, rt, k1, k2⟩
    · exact es_objInit B hgo hz k go1 go2 (fun q => ⟨(hnat q).1, Nat.le_trans (by decide) (hnat q).2⟩) hd h
    · exact es_invokespecial B hgo hz hcal k1 k2 hd h
  | invokestatic index9 =>
    obtain rfl : len = 3 := Nat.eq_of_beq_eq_true hlen
    rcases hin with ⟨hz, k⟩ | ⟨hz, y, by', nl, rt, k1, k2⟩
    · exact es_arraycopy B hgo hz k gn gs gy (fun q => ⟨(hnat q).1, Nat.le_trans gw (hnat q).2⟩) hd h
    · exact es_invokestatic B hgo hz hcal k1 k2 hd h
  | invokevirtual index9 =>
    obtain rfl : len = 3 := Nat.eq_of_beq_eq_true hlen
    exact es_invokevirtual B hgo hcal hin hd h
  | ior =>
    obtain rfl : len = 1 := Nat.eq_of_beq_eq_true hlen
    exact es_ior B hgo hd h
  | irem =>
    obtain rfl : len = 1 := Nat.eq_of_beq_eq_true hlen
    exact es_irem B hgo hd h
  | ireturn =>
    obtain rfl : len = 1 := Nat.eq_of_beq_eq_true hlen
    exact es_ireturn B hgo hret hd h
  | ishl =>
    obtain rfl : len = 1 := Nat.eq_of_beq_eq_true hlen
    exact es_ishl B hgo hd h
  | ishr =>
    obtain rfl : len = 1 := Nat.eq_of_beq_eq_true hlen
    exact es_ishr B hgo hd h
  | istore index9 =>
    obtain rfl : len = 2 := Nat.eq_of_beq_eq_true hlen
    exact es_istore B hgo hd h
  | istore_n n9 =>
    obtain rfl : len = 1 := Nat.eq_of_beq_eq_true hlen
    exact es_istore_n B hgo hd h
  | isub =>
    obtain rfl : len = 1 := Nat.eq_of_beq_eq_true hlen
    exact es_isub B hgo hd h
  | iushr =>
    obtain rfl : len = 1 := Nat.eq_of_beq_eq_true hlen
    exact es_iushr B hgo hd h
  | ixor =>
    obtain rfl : len = 1 := Nat.eq_of_beq_eq_true hlen
    exact es_ixor B hgo hd h
  | jsr offset9 => exact absurd h Bool.false_ne_true
  | jsr_w offset9 => exact absurd h Bool.false_ne_true
  | l2d => exact absurd h Bool.false_ne_true
  | l2f => exact absurd h Bool.false_ne_true
  | l2i =>
    obtain rfl : len = 1 := Nat.eq_of_beq_eq_true hlen
    exact es_l2i B hgo hd h
  | ladd =>
    obtain rfl : len = 1 := Nat.eq_of_beq_eq_true hlen
    exact es_ladd B hgo hd h
  | laload => exact absurd h Bool.false_ne_true
  | land =>
    obtain rfl : len = 1 := Nat.eq_of_beq_eq_true hlen
    exact es_land B hgo hd h
  | lastore => exact absurd h Bool.false_ne_true
  | lcmp =>
    obtain rfl : len = 1 := Nat.eq_of_beq_eq_true hlen
    exact es_lcmp B hgo hd h
  | lconst l9 =>
    obtain rfl : len = 1 := Nat.eq_of_beq_eq_true hlen
    exact es_lconst B hgo hd h
  | ldc index9 =>
    obtain rfl : len = 2 := Nat.eq_of_beq_eq_true hlen
    exact es_ldc B hgo hin hd h
  | ldc_w index9 =>
    obtain rfl : len = 3 := Nat.eq_of_beq_eq_true hlen
    exact es_ldc_w B hgo hin hd h
  | ldc2_w index9 =>
    obtain rfl : len = 3 := Nat.eq_of_beq_eq_true hlen
    exact es_ldc2_w B hgo hin hd h
  | ldiv =>
    obtain rfl : len = 1 := Nat.eq_of_beq_eq_true hlen
    exact es_ldiv B hgo hd h
  | lload index9 =>
    obtain rfl : len = 2 := Nat.eq_of_beq_eq_true hlen
    exact es_lload B hgo hd h
  | lload_n n9 =>
    obtain rfl : len = 1 := Nat.eq_of_beq_eq_true hlen
    exact es_lload_n B hgo hd h
  | lmul =>
    obtain rfl : len = 1 := Nat.eq_of_beq_eq_true hlen
    exact es_lmul B hgo hd h
  | lneg => exact absurd h Bool.false_ne_true
  | lor =>
    obtain rfl : len = 1 := Nat.eq_of_beq_eq_true hlen
    exact es_lor B hgo hd h
  | lrem =>
    obtain rfl : len = 1 := Nat.eq_of_beq_eq_true hlen
    exact es_lrem B hgo hd h
  | lreturn =>
    obtain rfl : len = 1 := Nat.eq_of_beq_eq_true hlen
    exact es_lreturn B hgo hret hd h
  | lshl =>
    obtain rfl : len = 1 := Nat.eq_of_beq_eq_true hlen
    exact es_lshl B hgo hd h
  | lshr =>
    obtain rfl : len = 1 := Nat.eq_of_beq_eq_true hlen
    exact es_lshr B hgo hd h
  | lstore index9 =>
    obtain rfl : len = 2 := Nat.eq_of_beq_eq_true hlen
    exact es_lstore B hgo hd h
  | lstore_n n9 =>
    obtain rfl : len = 1 := Nat.eq_of_beq_eq_true hlen
    exact es_lstore_n B hgo hd h
  | lsub =>
    obtain rfl : len = 1 := Nat.eq_of_beq_eq_true hlen
    exact es_lsub B hgo hd h
  | lushr =>
    obtain rfl : len = 1 := Nat.eq_of_beq_eq_true hlen
    exact es_lushr B hgo hd h
  | lxor => exact absurd h Bool.false_ne_true
  | monitorenter => exact absurd h Bool.false_ne_true
  | monitorexit => exact absurd h Bool.false_ne_true
  | multianewarray index9 dimensions9 =>
    obtain rfl : len = 4 := Nat.eq_of_beq_eq_true hlen
    by_cases h2 : dimensions9 = 2
    · subst h2
      exact es_multianewarray B hgo hmn hin gi hlim hd h
    · exact (es_nomulti h2 h).elim
  | new index9 =>
    obtain rfl : len = 3 := Nat.eq_of_beq_eq_true hlen
    exact es_new B hgo hin hlim hd h
  | newarray atype9 =>
    obtain rfl : len = 2 := Nat.eq_of_beq_eq_true hlen
    cases atype9 with
    | int => exact es_newarray_int B hgo gi hlim hd h
    | boolean => exact es_newarray_boolean B hgo gz hlim hd h
    | char => exact (es_nonew (by decide) (by decide) h).elim
    | float => exact (es_nonew (by decide) (by decide) h).elim
    | double => exact (es_nonew (by decide) (by decide) h).elim
    | byte => exact (es_nonew (by decide) (by decide) h).elim
    | short => exact (es_nonew (by decide) (by decide) h).elim
    | long => exact (es_nonew (by decide) (by decide) h).elim
  | nop => exact absurd h Bool.false_ne_true
  | pop =>
    obtain rfl : len = 1 := Nat.eq_of_beq_eq_true hlen
    exact es_pop B hgo hd h
  | pop2 =>
    obtain rfl : len = 1 := Nat.eq_of_beq_eq_true hlen
    exact es_pop2 B hgo hd h
  | putfield index9 =>
    obtain rfl : len = 3 := Nat.eq_of_beq_eq_true hlen
    obtain ⟨T, ty, k1, k2, k3⟩ := hin
    subst hmeth
    exact es_putfield B hgo k1 k2 k3 hd h
  | putstatic index9 => exact absurd h Bool.false_ne_true
  | ret index9 => exact absurd h Bool.false_ne_true
  | return_ =>
    obtain rfl : len = 1 := Nat.eq_of_beq_eq_true hlen
    exact es_return B hgo hret hd h
  | saload => exact absurd h Bool.false_ne_true
  | sastore => exact absurd h Bool.false_ne_true
  | sipush value9 =>
    obtain rfl : len = 3 := Nat.eq_of_beq_eq_true hlen
    exact es_sipush B hgo hd h
  | swap => exact absurd h Bool.false_ne_true
  | tableswitch default9 low9 high9 offsets9 =>
    exact es_tableswitch B hgo hin hd h
  | lookupswitch default9 pairs9 => exact absurd h Bool.false_ne_true
end ES
/-- an instruction as the runner has it does what the program's own does -/
def ek_J (inf : List (MethodName × ByteArray × Nat × Option FieldType)) (cls : List (List ex_V)) (vt : List (List (Nat × Nat))) (own mname : String) (bytes : ByteArray) (x : ex_J) : Prop :=
  ∃ (ins : Instr) (len a : Nat), (∀ lim ret go cal nat K pc b z ls st hp ce sl, x.2.1 cls vt lim ret go cal nat K pc x.2.2.1 b z ls st hp ce sl = true → ex_disp ins cls vt lim ret go cal nat K pc a b z ls st hp ce sl = true) ∧ ek_ok inf cls vt own mname bytes (x.1, ins, len, a, x.2.2.2.1, x.2.2.2.2)
/-- every method of the table is the program's own -/
def em_OK (inf : List (MethodName × ByteArray × Nat × Option FieldType)) (cls : List (List ex_V)) (vt : List (List (Nat × Nat))) (ms : List (List ex_N)) : Prop :=
  ∀ (mi : Nat) (tb : List (List ex_J)) (nl : Nat) (ret : Option FieldType) (mc sc : Nat), ex_at2 ms mi = some (tb, nl, ret, mc, sc) → ∃ (y : MethodName) (bytes : ByteArray), inf[mi]? = some (y, bytes, nl, ret) ∧ plainFor y = true ∧ nl ≤ 45 ∧ ∀ ch ∈ tb, ∀ x ∈ ch, ek_J inf cls vt y.cls y.name bytes x
/-- calls whose end is known: each by its contract -/
def em_mem (l : Launch) (ν : Nat → Int32) (D : va_G) (τ : Nat → ClassId) (sa : List Nat) (ro : List ex_C) (A : Nat → Prop) (inf : List (MethodName × ByteArray × Nat × Option FieldType)) (mem : ex_Mem) : Prop :=
  ∀ (mi : Nat) (as : List ex_V) (hp : ex_H) (v : Option ex_V) (hp' : ex_H) (dd : Nat), mem mi as hp = some (v, hp', dd) → ∃ (y : MethodName) (bytes : ByteArray) (nl : Nat) (ret : Option FieldType), inf[mi]? = some (y, bytes, nl, ret) ∧ nl ≤ 45 ∧
    ∀ (avs : List Value) (ws : va_W), er_St (er_r ν sa ws) as avs → Met l y (em_ws y bytes nl ret) (em_rm dd 0 0) (em_P ν D τ sa ro A avs hp ws) (em_Q1 ν D τ sa ro A ws v hp') 0 0 A
/-- a frame, from a place on -/
def em_frame (l : Launch) (ν : Nat → Int32) (D : va_G) (τ : Nat → ClassId) (sa : List Nat) (ro : List ex_C) (A : Nat → Prop) (inf : List (MethodName × ByteArray × Nat × Option FieldType)) (cls : List (List ex_V)) (vt : List (List (Nat × Nat))) (ms : List (List ex_N)) (mem : ex_Mem) (n : Nat) : Prop :=
  ∀ (d : Nat) (cut : ex_Cut) (tb : List (List ex_J)) (lim : Nat × Nat) (ret : Option FieldType) (ht : List ex_J) (pc : Nat) (ls : List (Option ex_V)) (st : List ex_V) (hp : ex_H) (ce sl : Nat) (K : Option ex_V → ex_H → Bool), ex_run cls vt ms mem n d cut tb lim ret ht pc ls st hp ce sl K = true →
    ∀ (p : Program) (e : Env) (R : Room) (s : State) (m : MethodId) (args : Array Value) (below : List Frame) (meth : Method) (c : Code) (Q : State → Prop) (ws0 : va_W) (bytes : ByteArray) (nL : Nat) (own mname : String), eb_B p s m args c bytes nL own D τ sa ro A → meth.name = mname → (∀ ch ∈ tb, ∀ x ∈ ch, ek_J inf cls vt own mname bytes x) → (∀ x ∈ ht, ek_J inf cls vt own mname bytes x) → d ≤ R.frames → 64 * d ≤ R.locals → lim.1 ≤ R.cells ∧ lim.2 ≤ R.slots → em_ret p l e R s m args below meth c Q ν D τ sa ro A ws0 bytes lim ret K → (∀ pc ls st hp ce sl, cut pc ls st hp ce sl = true → ew_G p l e R s m args below meth c Q ν D τ sa ro A ws0 nL pc ls st hp ce sl) →
      ew_G p l e R s m args below meth c Q ν D τ sa ro A ws0 nL pc ls st hp ce sl
/-- a method's contract out of its run -/
theorem er_met {l : Launch} {ν : Nat → Int32} {D : va_G} {τ : Nat → ClassId} {sa : List Nat} {ro : List ex_C} {A : Nat → Prop} {inf : List (MethodName × ByteArray × Nat × Option FieldType)} {cls : List (List ex_V)} {vt : List (List (Nat × Nat))} {ms : List (List ex_N)} {mem : ex_Mem} {n d : Nat} (ih : em_frame l ν D τ sa ro A inf cls vt ms mem n) {y : MethodName} {bytes : ByteArray} {tb : List (List ex_J)} {nl : Nat} {ret : Option FieldType} {mc sc : Nat} (hy : plainFor y = true) (hT : ∀ ch ∈ tb, ∀ x ∈ ch, ek_J inf cls vt y.cls y.name bytes x)
    {as : List ex_V} {hp : ex_H} {K : Option ex_V → ex_H → Bool} (h : ex_locs as nl (fun q => ex_run cls vt ms mem n d (fun _ _ _ _ _ _ => false) tb (mc, sc) ret [] 0 q [] hp 0 0 K) = true) (avs : List Value) (ws : va_W) (ha : er_St (er_r ν sa ws) as avs) :
    Met l y (em_ws y bytes nl ret) (em_rm d mc sc) (em_P ν D τ sa ro A avs hp ws) (em_Q ν D τ sa ro A ws K) mc sc A := by
  obtain ⟨q, h1, h2, h3⟩ := ex_locs_ok _ _ _ h
  obtain ⟨f1, f2⟩ := h3 ha
  refine va_MetF (cc := bytes) (maxL := nl) (ret := ret) hy rfl ?_
  intro p e s m args below meth c s₁ B hml hv
  obtain ⟨rfl, hE, hW⟩ := hv
  have hts0 : ∀ w ∈ em_ws y bytes nl ret, w.before avs.toArray s = true := atoms_spec (ws := em_ws y bytes nl ret) B.pre
  have hown : s.vm.findClass y.cls = some m.cls := findClass_of_methodNamed B.named
  rw [lg_entry_eq]
  refine ih d (fun _ _ _ _ _ _ => false) tb (mc, sc) ret [] 0 q [] hp 0 0 K h1 p e (em_rm d mc sc) s m avs.toArray below meth c _ ws bytes nl y.cls y.name ⟨B.exec, B.bytes, hml, hown, fun w hw => hts0 w (List.mem_cons_of_mem _ hw), hE⟩ (name_of_methodNamed B.named B.method).1 hT (fun _ hx => absurd hx List.not_mem_nil) (Nat.le_refl _) (Nat.le_refl _) ⟨Nat.le_refl _, Nat.le_refl _⟩ ?_ (fun _ _ _ _ _ _ hc => absurd hc Bool.false_ne_true) s.heap [] _ [] ws ⟨h2, _, lv_entry avs f1, fun i a hi => ?_⟩ trivial hW va_S.rf ⟨[], (List.append_nil _).symm⟩
  · intro ov hp' ws' H locs ls pc rv hK hrv hW' hS hpre hcase
    have hq : ∀ t : State, t.heap = H → s.WarmedH t.vm → em_Q ν D τ sa ro A ws K avs.toArray s (.returned rv) t := fun t ht _ => ⟨⟨ov, hp', ws', rv, rfl, hK, hrv, by rw [ht]; exact hW', hpre⟩, hS.F ht⟩
    rcases hcase with ⟨rfl, hr, hd⟩ | ⟨x, rfl, hd, hr⟩ | ⟨x, rfl, hd, hr⟩
    · exact W.vret B.exec B.bytes (by rw [B.returns]; exact hr) hq hS.2.2 hd (hlocks := B.notSynchronized)
    · rcases hr with hr | ⟨hr, hx⟩
      · exact W.iret B.exec B.bytes (by rw [B.returns]; exact hr) hq hS.2.2 hd (hlocks := B.notSynchronized)
      · exact W.zret (ty := .boolean) B.exec B.bytes (by rw [B.returns]; exact hr) (by rcases hx with rfl | rfl <;> decide) hq hS.2.2 hd (hlocks := B.notSynchronized)
    · exact W.lret B.exec B.bytes (by rw [B.returns]; exact hr) hq hS.2.2 hd (hlocks := B.notSynchronized)
  · obtain ⟨v, g1, g2⟩ := f2 i 0 a hi
    exact ⟨v, g1, g2⟩
theorem er_frame {l : Launch} {ν : Nat → Int32} {D : va_G} {τ : Nat → ClassId} {sa : List Nat} {ro : List ex_C} {A : Nat → Prop} {inf : List (MethodName × ByteArray × Nat × Option FieldType)} {cls : List (List ex_V)} {vt : List (List (Nat × Nat))} {ms : List (List ex_N)} {mem : ex_Mem} (glob : ek_glob) (hmn : em_mna) (hOK : em_OK inf cls vt ms) (hmem : em_mem l ν D τ sa ro A inf mem) : ∀ n : Nat, em_frame l ν D τ sa ro A inf cls vt ms mem n := by
  intro n
  induction n with
  | zero => intro d cut tb lim ret ht pc ls st hp ce sl K h; exact absurd h Bool.false_ne_true
  | succ n ih =>
    intro d cut tb lim ret ht pc ls st hp ce sl K h p e R s m args below meth c Q ws0 bytes nL own mname B hm hT hH hf hlo hlim hret hcut
    cases hcc : cut pc ls st hp ce sl with
    | true => exact hcut _ _ _ _ _ _ hcc
    | false =>
    replace h : (bif cut pc ls st hp ce sl then true else ex_hint ht tb pc _) = true := h
    rw [hcc] at h
    obtain ⟨⟨pc0, hd, a, b, z⟩, xs, ⟨ins, len, a0, q1, k1, k2, k3⟩, h2, h3, h4⟩ := ex_hint_ok hT hH h
    obtain rfl : pc0 = pc := h3
    refine er_step (d := d) B (fun pc ls st hp ce sl hk => ih d cut tb lim ret xs pc ls st hp ce sl K hk p e R s m args below meth c Q ws0 bytes nL own mname B hm hT h2 hf hlo hlim hret hcut) glob hmn hm ?_ hlim ?_ hret k1 k2 k3 (q1 _ _ _ _ _ _ _ _ _ _ _ _ _ _ h4)
    · intro hn
      cases d with
      | zero => exact absurd hn Bool.false_ne_true
      | succ d => constructor <;> omega
    · intro mi as hp ce sl k hc
      cases hmm : mem mi as hp with
      | some vh =>
        obtain ⟨v, hp', dd⟩ := vh
        replace hc : ex_mem (mem mi as hp) d lim ce sl k _ = true := hc
        rw [hmm] at hc
        obtain ⟨g1, g2⟩ := ex_if (c := Nat.ble (dd + 1) d && (Nat.ble ce lim.1 && Nat.ble sl lim.2)) (X := k v hp' ce sl) hc
        simp only [Bool.and_eq_true] at g1
        have b0 := Nat.le_of_ble_eq_true g1.1
        have b1 := Nat.le_of_ble_eq_true g1.2.1
        have b2 := Nat.le_of_ble_eq_true g1.2.2
        obtain ⟨y, by', nl, ret', i1, i2, i3⟩ := hmem mi as hp v hp' dd hmm
        refine ⟨y, by', nl, ret', 0, 0, dd, i1, ⟨by omega, by omega⟩, ⟨by omega, by omega⟩, fun avs ws ha => em_weak (i3 avs ws ha) ?_⟩
        rintro a st o t ⟨⟨ws', rv, k1, k2, k3, k4⟩, k5⟩
        exact ⟨⟨v, hp', ws', rv, k1, g2, k2, k3, k4⟩, k5⟩
      | none =>
      replace hc : ex_mem (mem mi as hp) d lim ce sl k _ = true := hc
      rw [hmm] at hc
      cases d with
      | zero => exact absurd hc Bool.false_ne_true
      | succ d =>
        obtain ⟨⟨tb', nl, ret', mc, sc⟩, g1, g2⟩ := ex_get2_ok hc
        obtain ⟨g3, g4⟩ := ex_if (c := Nat.ble (ce + mc) lim.1 && Nat.ble (sl + sc) lim.2) (X := ex_locs as nl (fun q => ex_run cls vt ms mem n d (fun _ _ _ _ _ _ => false) tb' (mc, sc) ret' [] 0 q [] hp 0 0 (fun v hp => ex_n (ce + mc) (fun ce => ex_n (sl + sc) (fun sl => k v hp ce sl))))) g2
        simp only [ex_n_eq] at g4
        rw [Bool.and_eq_true] at g3
        have c1 := Nat.le_of_ble_eq_true g3.1
        have c2 := Nat.le_of_ble_eq_true g3.2
        obtain ⟨y, by', i1, i2, i3, i4⟩ := hOK mi tb' nl ret' mc sc g1
        exact ⟨y, by', nl, ret', mc, sc, d, i1, ⟨by omega, by omega⟩, ⟨by omega, by omega⟩, fun avs ws ha => er_met ih i2 i4 g4 avs ws ha⟩
