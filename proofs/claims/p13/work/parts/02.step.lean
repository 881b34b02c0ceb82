/-- one instruction: the tables, the limits, what goes on in this frame, what calls a method, what takes the answer; its own place and numbers; locals, stack, cells -/
abbrev ex_D : Type := List (List ex_V) → List (List (Nat × Nat)) → Nat × Nat → Option FieldType → (Nat → List (Option ex_V) → List ex_V → ex_H → Nat → Nat → Bool) → (Nat → List ex_V → ex_H → Nat → Nat → (Option ex_V → ex_H → Nat → Nat → Bool) → Bool) → Bool → (Option ex_V → ex_H → Bool) → Nat → Nat → Nat → Int → List (Option ex_V) → List ex_V → ex_H → Nat → Nat → Bool
noncomputable def eh_iadd : ex_D := fun cls vt lim ret go cal nat K pc a b z ls st hp ce sl =>
  let nx : Nat → List (Option ex_V) → List ex_V → ex_H → Nat → Nat → Bool := fun len ls st hp ce sl => ex_n (pc + len) (fun pc => go pc ls st hp ce sl)
  match st with | y :: x :: r => ex_add x y (fun v => nx 1 ls (v :: r) hp ce sl) | _ => false
noncomputable def eh_isub : ex_D := fun cls vt lim ret go cal nat K pc a b z ls st hp ce sl =>
  let nx : Nat → List (Option ex_V) → List ex_V → ex_H → Nat → Nat → Bool := fun len ls st hp ce sl => ex_n (pc + len) (fun pc => go pc ls st hp ce sl)
  match st with | y :: x :: r => ex_sub x y (fun v => nx 1 ls (v :: r) hp ce sl) | _ => false
noncomputable def eh_imul : ex_D := fun cls vt lim ret go cal nat K pc a b z ls st hp ce sl =>
  let nx : Nat → List (Option ex_V) → List ex_V → ex_H → Nat → Nat → Bool := fun len ls st hp ce sl => ex_n (pc + len) (fun pc => go pc ls st hp ce sl)
  match st with | y :: x :: r => ex_mul x y (fun v => nx 1 ls (v :: r) hp ce sl) | _ => false
noncomputable def eh_iand : ex_D := fun cls vt lim ret go cal nat K pc a b z ls st hp ce sl =>
  let nx : Nat → List (Option ex_V) → List ex_V → ex_H → Nat → Nat → Bool := fun len ls st hp ce sl => ex_n (pc + len) (fun pc => go pc ls st hp ce sl)
  match st with | y :: x :: r => ex_and x y (fun v => nx 1 ls (v :: r) hp ce sl) | _ => false
noncomputable def eh_ior : ex_D := fun cls vt lim ret go cal nat K pc a b z ls st hp ce sl =>
  let nx : Nat → List (Option ex_V) → List ex_V → ex_H → Nat → Nat → Bool := fun len ls st hp ce sl => ex_n (pc + len) (fun pc => go pc ls st hp ce sl)
  match st with | y :: x :: r => ex_bin (· ||| ·) x y (fun v => nx 1 ls (v :: r) hp ce sl) | _ => false
noncomputable def eh_ixor : ex_D := fun cls vt lim ret go cal nat K pc a b z ls st hp ce sl =>
  let nx : Nat → List (Option ex_V) → List ex_V → ex_H → Nat → Nat → Bool := fun len ls st hp ce sl => ex_n (pc + len) (fun pc => go pc ls st hp ce sl)
  match st with | y :: x :: r => ex_xor x y (fun v => nx 1 ls (v :: r) hp ce sl) | _ => false
noncomputable def eh_ishl : ex_D := fun cls vt lim ret go cal nat K pc a b z ls st hp ce sl =>
  let nx : Nat → List (Option ex_V) → List ex_V → ex_H → Nat → Nat → Bool := fun len ls st hp ce sl => ex_n (pc + len) (fun pc => go pc ls st hp ce sl)
  match st with | y :: x :: r => ex_bin (fun x y => x <<< (y &&& 31)) x y (fun v => nx 1 ls (v :: r) hp ce sl) | _ => false
noncomputable def eh_ishr : ex_D := fun cls vt lim ret go cal nat K pc a b z ls st hp ce sl =>
  let nx : Nat → List (Option ex_V) → List ex_V → ex_H → Nat → Nat → Bool := fun len ls st hp ce sl => ex_n (pc + len) (fun pc => go pc ls st hp ce sl)
  match st with | y :: x :: r => ex_bin (fun x y => x >>> (y &&& 31)) x y (fun v => nx 1 ls (v :: r) hp ce sl) | _ => false
noncomputable def eh_idiv : ex_D := fun cls vt lim ret go cal nat K pc a b z ls st hp ce sl =>
  let nx : Nat → List (Option ex_V) → List ex_V → ex_H → Nat → Nat → Bool := fun len ls st hp ce sl => ex_n (pc + len) (fun pc => go pc ls st hp ce sl)
  match st with | y :: x :: r => ex_i y (fun lo hi => if ex_ne0 lo hi then ex_quo x y (fun v => nx 1 ls (v :: r) hp ce sl) else false) | _ => false
noncomputable def eh_irem : ex_D := fun cls vt lim ret go cal nat K pc a b z ls st hp ce sl =>
  let nx : Nat → List (Option ex_V) → List ex_V → ex_H → Nat → Nat → Bool := fun len ls st hp ce sl => ex_n (pc + len) (fun pc => go pc ls st hp ce sl)
  match st with | y :: x :: r => ex_i y (fun lo hi => if ex_ne0 lo hi then ex_rst x y (fun v => nx 1 ls (v :: r) hp ce sl) else false) | _ => false
noncomputable def eh_iushr : ex_D := fun cls vt lim ret go cal nat K pc a b z ls st hp ce sl =>
  let nx : Nat → List (Option ex_V) → List ex_V → ex_H → Nat → Nat → Bool := fun len ls st hp ce sl => ex_n (pc + len) (fun pc => go pc ls st hp ce sl)
  match st with | y :: x :: r => ex_bin (fun x y => (x.toUInt32 >>> (y.toUInt32 &&& Int32.toUInt32 31)).toInt32) x y (fun v => nx 1 ls (v :: r) hp ce sl) | _ => false
noncomputable def eh_ineg : ex_D := fun cls vt lim ret go cal nat K pc a b z ls st hp ce sl =>
  let nx : Nat → List (Option ex_V) → List ex_V → ex_H → Nat → Nat → Bool := fun len ls st hp ce sl => ex_n (pc + len) (fun pc => go pc ls st hp ce sl)
  match st with | x :: r => ex_bin (fun x _ => -x) x x (fun v => nx 1 ls (v :: r) hp ce sl) | _ => false
noncomputable def eh_ladd : ex_D := fun cls vt lim ret go cal nat K pc a b z ls st hp ce sl =>
  let nx : Nat → List (Option ex_V) → List ex_V → ex_H → Nat → Nat → Bool := fun len ls st hp ce sl => ex_n (pc + len) (fun pc => go pc ls st hp ce sl)
  match st with | y :: x :: r => ex_binL (· + ·) x y (fun v => nx 1 ls (v :: r) hp ce sl) | _ => false
noncomputable def eh_lsub : ex_D := fun cls vt lim ret go cal nat K pc a b z ls st hp ce sl =>
  let nx : Nat → List (Option ex_V) → List ex_V → ex_H → Nat → Nat → Bool := fun len ls st hp ce sl => ex_n (pc + len) (fun pc => go pc ls st hp ce sl)
  match st with | y :: x :: r => ex_binL (· - ·) x y (fun v => nx 1 ls (v :: r) hp ce sl) | _ => false
noncomputable def eh_lmul : ex_D := fun cls vt lim ret go cal nat K pc a b z ls st hp ce sl =>
  let nx : Nat → List (Option ex_V) → List ex_V → ex_H → Nat → Nat → Bool := fun len ls st hp ce sl => ex_n (pc + len) (fun pc => go pc ls st hp ce sl)
  match st with | y :: x :: r => ex_binL (· * ·) x y (fun v => nx 1 ls (v :: r) hp ce sl) | _ => false
noncomputable def eh_land : ex_D := fun cls vt lim ret go cal nat K pc a b z ls st hp ce sl =>
  let nx : Nat → List (Option ex_V) → List ex_V → ex_H → Nat → Nat → Bool := fun len ls st hp ce sl => ex_n (pc + len) (fun pc => go pc ls st hp ce sl)
  match st with | y :: x :: r => ex_binL (· &&& ·) x y (fun v => nx 1 ls (v :: r) hp ce sl) | _ => false
noncomputable def eh_lor : ex_D := fun cls vt lim ret go cal nat K pc a b z ls st hp ce sl =>
  let nx : Nat → List (Option ex_V) → List ex_V → ex_H → Nat → Nat → Bool := fun len ls st hp ce sl => ex_n (pc + len) (fun pc => go pc ls st hp ce sl)
  match st with | y :: x :: r => ex_binL (· ||| ·) x y (fun v => nx 1 ls (v :: r) hp ce sl) | _ => false
noncomputable def eh_ldiv : ex_D := fun cls vt lim ret go cal nat K pc a b z ls st hp ce sl =>
  let nx : Nat → List (Option ex_V) → List ex_V → ex_H → Nat → Nat → Bool := fun len ls st hp ce sl => ex_n (pc + len) (fun pc => go pc ls st hp ce sl)
  match st with | y :: x :: r => ex_l y (fun lo hi => if ex_ne0 lo hi then ex_binL (· / ·) x y (fun v => nx 1 ls (v :: r) hp ce sl) else false) | _ => false
noncomputable def eh_lrem : ex_D := fun cls vt lim ret go cal nat K pc a b z ls st hp ce sl =>
  let nx : Nat → List (Option ex_V) → List ex_V → ex_H → Nat → Nat → Bool := fun len ls st hp ce sl => ex_n (pc + len) (fun pc => go pc ls st hp ce sl)
  match st with | y :: x :: r => ex_l y (fun lo hi => if ex_ne0 lo hi then ex_binL (fun x y => x - x / y * y) x y (fun v => nx 1 ls (v :: r) hp ce sl) else false) | _ => false
noncomputable def eh_lushr : ex_D := fun cls vt lim ret go cal nat K pc a b z ls st hp ce sl =>
  let nx : Nat → List (Option ex_V) → List ex_V → ex_H → Nat → Nat → Bool := fun len ls st hp ce sl => ex_n (pc + len) (fun pc => go pc ls st hp ce sl)
  match st with | y :: x :: r => ex_i y (fun _ _ => ex_l x (fun _ _ => nx 1 ls (ex_topL :: r) hp ce sl)) | _ => false
noncomputable def eh_lshr : ex_D := fun cls vt lim ret go cal nat K pc a b z ls st hp ce sl =>
  let nx : Nat → List (Option ex_V) → List ex_V → ex_H → Nat → Nat → Bool := fun len ls st hp ce sl => ex_n (pc + len) (fun pc => go pc ls st hp ce sl)
  match st with | y :: x :: r => ex_i y (fun _ _ => ex_l x (fun _ _ => nx 1 ls (ex_topL :: r) hp ce sl)) | _ => false
noncomputable def eh_lshl : ex_D := fun cls vt lim ret go cal nat K pc a b z ls st hp ce sl =>
  let nx : Nat → List (Option ex_V) → List ex_V → ex_H → Nat → Nat → Bool := fun len ls st hp ce sl => ex_n (pc + len) (fun pc => go pc ls st hp ce sl)
  match st with | y :: x :: r => ex_i y (fun _ _ => ex_l x (fun _ _ => nx 1 ls (ex_topL :: r) hp ce sl)) | _ => false
noncomputable def eh_lcmp : ex_D := fun cls vt lim ret go cal nat K pc a b z ls st hp ce sl =>
  let nx : Nat → List (Option ex_V) → List ex_V → ex_H → Nat → Nat → Bool := fun len ls st hp ce sl => ex_n (pc + len) (fun pc => go pc ls st hp ce sl)
  match st with | y :: x :: r => ex_l x (fun a b => ex_l y (fun c d => nx 1 ls (ex_lc a b c d :: r) hp ce sl)) | _ => false
noncomputable def eh_i2l : ex_D := fun cls vt lim ret go cal nat K pc a b z ls st hp ce sl =>
  let nx : Nat → List (Option ex_V) → List ex_V → ex_H → Nat → Nat → Bool := fun len ls st hp ce sl => ex_n (pc + len) (fun pc => go pc ls st hp ce sl)
  match st with | .inl v :: r => nx 1 ls (.inr (.inl v) :: r) hp ce sl | .inr (.inr (.inr (.inl q))) :: r => nx 1 ls (.inr (.inr (.inr (.inr (.inl q)))) :: r) hp ce sl | .inr (.inr (.inr (.inr (.inr (_, q))))) :: r => nx 1 ls (.inr (.inr (.inr (.inr (.inl q)))) :: r) hp ce sl | _ => false
noncomputable def eh_l2i : ex_D := fun cls vt lim ret go cal nat K pc a b z ls st hp ce sl =>
  let nx : Nat → List (Option ex_V) → List ex_V → ex_H → Nat → Nat → Bool := fun len ls st hp ce sl => ex_n (pc + len) (fun pc => go pc ls st hp ce sl)
  match st with | x :: r => ex_l x (fun _ _ => nx 1 ls (ex_top :: r) hp ce sl) | _ => false
noncomputable def eh_iconst (i : Int) : ex_D := fun cls vt lim ret go cal nat K pc a b z ls st hp ce sl =>
  let nx : Nat → List (Option ex_V) → List ex_V → ex_H → Nat → Nat → Bool := fun len ls st hp ce sl => ex_n (pc + len) (fun pc => go pc ls st hp ce sl)
  if ex_fit32 i then nx 1 ls (.inl i :: st) hp ce sl else false
noncomputable def eh_bipush (i : Int) : ex_D := fun cls vt lim ret go cal nat K pc a b z ls st hp ce sl =>
  let nx : Nat → List (Option ex_V) → List ex_V → ex_H → Nat → Nat → Bool := fun len ls st hp ce sl => ex_n (pc + len) (fun pc => go pc ls st hp ce sl)
  if ex_le (-128) i && ex_le i 127 then nx 2 ls (.inl i :: st) hp ce sl else false
noncomputable def eh_sipush (i : Int) : ex_D := fun cls vt lim ret go cal nat K pc a b z ls st hp ce sl =>
  let nx : Nat → List (Option ex_V) → List ex_V → ex_H → Nat → Nat → Bool := fun len ls st hp ce sl => ex_n (pc + len) (fun pc => go pc ls st hp ce sl)
  if ex_le (-32768) i && ex_le i 32767 then nx 3 ls (.inl i :: st) hp ce sl else false
noncomputable def eh_lconst (i : Fin 2) : ex_D := fun cls vt lim ret go cal nat K pc a b z ls st hp ce sl =>
  let nx : Nat → List (Option ex_V) → List ex_V → ex_H → Nat → Nat → Bool := fun len ls st hp ce sl => ex_n (pc + len) (fun pc => go pc ls st hp ce sl)
  nx 1 ls (.inr (.inl (Int.ofNat i.val)) :: st) hp ce sl
noncomputable def eh_ldc : ex_D := fun cls vt lim ret go cal nat K pc a b z ls st hp ce sl =>
  let nx : Nat → List (Option ex_V) → List ex_V → ex_H → Nat → Nat → Bool := fun len ls st hp ce sl => ex_n (pc + len) (fun pc => go pc ls st hp ce sl)
  if ex_fit32 z then nx 2 ls (.inl z :: st) hp ce sl else false
noncomputable def eh_ldc_w : ex_D := fun cls vt lim ret go cal nat K pc a b z ls st hp ce sl =>
  let nx : Nat → List (Option ex_V) → List ex_V → ex_H → Nat → Nat → Bool := fun len ls st hp ce sl => ex_n (pc + len) (fun pc => go pc ls st hp ce sl)
  if ex_fit32 z then nx 3 ls (.inl z :: st) hp ce sl else false
noncomputable def eh_ldc2_w : ex_D := fun cls vt lim ret go cal nat K pc a b z ls st hp ce sl =>
  let nx : Nat → List (Option ex_V) → List ex_V → ex_H → Nat → Nat → Bool := fun len ls st hp ce sl => ex_n (pc + len) (fun pc => go pc ls st hp ce sl)
  if ex_le (-9223372036854775808) z && ex_le z 9223372036854775807 then nx 3 ls (.inr (.inl z) :: st) hp ce sl else false
noncomputable def eh_iload_n (i : Fin 4) : ex_D := fun cls vt lim ret go cal nat K pc a b z ls st hp ce sl =>
  let nx : Nat → List (Option ex_V) → List ex_V → ex_H → Nat → Nat → Bool := fun len ls st hp ce sl => ex_n (pc + len) (fun pc => go pc ls st hp ce sl)
  let ldi : Nat → Nat → Bool := fun i len => ex_get ls i (fun o => match o with | some v => ex_i v (fun _ _ => nx len ls (v :: st) hp ce sl) | none => false)
  ldi i.val 1
noncomputable def eh_iload (i : Nat) : ex_D := fun cls vt lim ret go cal nat K pc a b z ls st hp ce sl =>
  let nx : Nat → List (Option ex_V) → List ex_V → ex_H → Nat → Nat → Bool := fun len ls st hp ce sl => ex_n (pc + len) (fun pc => go pc ls st hp ce sl)
  let ldi : Nat → Nat → Bool := fun i len => ex_get ls i (fun o => match o with | some v => ex_i v (fun _ _ => nx len ls (v :: st) hp ce sl) | none => false)
  ldi i 2
noncomputable def eh_lload_n (i : Fin 4) : ex_D := fun cls vt lim ret go cal nat K pc a b z ls st hp ce sl =>
  let nx : Nat → List (Option ex_V) → List ex_V → ex_H → Nat → Nat → Bool := fun len ls st hp ce sl => ex_n (pc + len) (fun pc => go pc ls st hp ce sl)
  let ldl : Nat → Nat → Bool := fun i len => ex_get ls i (fun o => match o with | some v => ex_l v (fun _ _ => nx len ls (v :: st) hp ce sl) | none => false)
  ldl i.val 1
noncomputable def eh_lload (i : Nat) : ex_D := fun cls vt lim ret go cal nat K pc a b z ls st hp ce sl =>
  let nx : Nat → List (Option ex_V) → List ex_V → ex_H → Nat → Nat → Bool := fun len ls st hp ce sl => ex_n (pc + len) (fun pc => go pc ls st hp ce sl)
  let ldl : Nat → Nat → Bool := fun i len => ex_get ls i (fun o => match o with | some v => ex_l v (fun _ _ => nx len ls (v :: st) hp ce sl) | none => false)
  ldl i 2
noncomputable def eh_aload_n (i : Fin 4) : ex_D := fun cls vt lim ret go cal nat K pc a b z ls st hp ce sl =>
  let nx : Nat → List (Option ex_V) → List ex_V → ex_H → Nat → Nat → Bool := fun len ls st hp ce sl => ex_n (pc + len) (fun pc => go pc ls st hp ce sl)
  let lda : Nat → Nat → Bool := fun i len => ex_get ls i (fun o => match o with | some v => ex_ref v (fun _ => nx len ls (v :: st) hp ce sl) | none => false)
  lda i.val 1
noncomputable def eh_aload (i : Nat) : ex_D := fun cls vt lim ret go cal nat K pc a b z ls st hp ce sl =>
  let nx : Nat → List (Option ex_V) → List ex_V → ex_H → Nat → Nat → Bool := fun len ls st hp ce sl => ex_n (pc + len) (fun pc => go pc ls st hp ce sl)
  let lda : Nat → Nat → Bool := fun i len => ex_get ls i (fun o => match o with | some v => ex_ref v (fun _ => nx len ls (v :: st) hp ce sl) | none => false)
  lda i 2
noncomputable def eh_istore_n (i : Fin 4) : ex_D := fun cls vt lim ret go cal nat K pc a b z ls st hp ce sl =>
  let nx : Nat → List (Option ex_V) → List ex_V → ex_H → Nat → Nat → Bool := fun len ls st hp ce sl => ex_n (pc + len) (fun pc => go pc ls st hp ce sl)
  let sti : Nat → Nat → Bool := fun i len => match st with
    | v :: r => ex_i v (fun _ _ => ex_clear ls i (ex_set ls i (some v) (fun ls => nx len ls r hp ce sl)))
    | _ => false
  sti i.val 1
noncomputable def eh_istore (i : Nat) : ex_D := fun cls vt lim ret go cal nat K pc a b z ls st hp ce sl =>
  let nx : Nat → List (Option ex_V) → List ex_V → ex_H → Nat → Nat → Bool := fun len ls st hp ce sl => ex_n (pc + len) (fun pc => go pc ls st hp ce sl)
  let sti : Nat → Nat → Bool := fun i len => match st with
    | v :: r => ex_i v (fun _ _ => ex_clear ls i (ex_set ls i (some v) (fun ls => nx len ls r hp ce sl)))
    | _ => false
  sti i 2
noncomputable def eh_astore_n (i : Fin 4) : ex_D := fun cls vt lim ret go cal nat K pc a b z ls st hp ce sl =>
  let nx : Nat → List (Option ex_V) → List ex_V → ex_H → Nat → Nat → Bool := fun len ls st hp ce sl => ex_n (pc + len) (fun pc => go pc ls st hp ce sl)
  let sta : Nat → Nat → Bool := fun i len => match st with
    | v :: r => ex_ref v (fun _ => ex_clear ls i (ex_set ls i (some v) (fun ls => nx len ls r hp ce sl)))
    | _ => false
  sta i.val 1
noncomputable def eh_astore (i : Nat) : ex_D := fun cls vt lim ret go cal nat K pc a b z ls st hp ce sl =>
  let nx : Nat → List (Option ex_V) → List ex_V → ex_H → Nat → Nat → Bool := fun len ls st hp ce sl => ex_n (pc + len) (fun pc => go pc ls st hp ce sl)
  let sta : Nat → Nat → Bool := fun i len => match st with
    | v :: r => ex_ref v (fun _ => ex_clear ls i (ex_set ls i (some v) (fun ls => nx len ls r hp ce sl)))
    | _ => false
  sta i 2
noncomputable def eh_lstore_n (i : Fin 4) : ex_D := fun cls vt lim ret go cal nat K pc a b z ls st hp ce sl =>
  let nx : Nat → List (Option ex_V) → List ex_V → ex_H → Nat → Nat → Bool := fun len ls st hp ce sl => ex_n (pc + len) (fun pc => go pc ls st hp ce sl)
  let stl : Nat → Nat → Bool := fun i len => match st with
    | v :: r => ex_l v (fun _ _ => ex_clear ls i (ex_set ls i (some v) (fun ls => ex_set ls (i + 1) none (fun ls => nx len ls r hp ce sl))))
    | _ => false
  stl i.val 1
noncomputable def eh_lstore (i : Nat) : ex_D := fun cls vt lim ret go cal nat K pc a b z ls st hp ce sl =>
  let nx : Nat → List (Option ex_V) → List ex_V → ex_H → Nat → Nat → Bool := fun len ls st hp ce sl => ex_n (pc + len) (fun pc => go pc ls st hp ce sl)
  let stl : Nat → Nat → Bool := fun i len => match st with
    | v :: r => ex_l v (fun _ _ => ex_clear ls i (ex_set ls i (some v) (fun ls => ex_set ls (i + 1) none (fun ls => nx len ls r hp ce sl))))
    | _ => false
  stl i 2
noncomputable def eh_iinc (i : Nat) (n : Int) : ex_D := fun cls vt lim ret go cal nat K pc a b z ls st hp ce sl =>
  let nx : Nat → List (Option ex_V) → List ex_V → ex_H → Nat → Nat → Bool := fun len ls st hp ce sl => ex_n (pc + len) (fun pc => go pc ls st hp ce sl)
  if ex_fit32 n then ex_get ls i (fun o => match o with | some v => ex_add v (.inl n) (fun v => ex_clear ls i (ex_set ls i (some v) (fun ls => nx 3 ls st hp ce sl))) | none => false) else false
noncomputable def eh_dup : ex_D := fun cls vt lim ret go cal nat K pc a b z ls st hp ce sl =>
  let nx : Nat → List (Option ex_V) → List ex_V → ex_H → Nat → Nat → Bool := fun len ls st hp ce sl => ex_n (pc + len) (fun pc => go pc ls st hp ce sl)
  match st with | v :: r => if Nat.beq (ex_cat v) 1 then nx 1 ls (v :: v :: r) hp ce sl else false | _ => false
noncomputable def eh_pop : ex_D := fun cls vt lim ret go cal nat K pc a b z ls st hp ce sl =>
  let nx : Nat → List (Option ex_V) → List ex_V → ex_H → Nat → Nat → Bool := fun len ls st hp ce sl => ex_n (pc + len) (fun pc => go pc ls st hp ce sl)
  match st with | v :: r => if Nat.beq (ex_cat v) 1 then nx 1 ls r hp ce sl else false | _ => false
noncomputable def eh_pop2 : ex_D := fun cls vt lim ret go cal nat K pc a b z ls st hp ce sl =>
  let nx : Nat → List (Option ex_V) → List ex_V → ex_H → Nat → Nat → Bool := fun len ls st hp ce sl => ex_n (pc + len) (fun pc => go pc ls st hp ce sl)
  match st with | v :: r => if Nat.beq (ex_cat v) 2 then nx 1 ls r hp ce sl else false | _ => false
noncomputable def eh_dup_x1 : ex_D := fun cls vt lim ret go cal nat K pc a b z ls st hp ce sl =>
  let nx : Nat → List (Option ex_V) → List ex_V → ex_H → Nat → Nat → Bool := fun len ls st hp ce sl => ex_n (pc + len) (fun pc => go pc ls st hp ce sl)
  match st with | v :: w :: r => if Nat.beq (ex_cat v) 1 && Nat.beq (ex_cat w) 1 then nx 1 ls (v :: w :: v :: r) hp ce sl else false | _ => false
noncomputable def eh_dup2 : ex_D := fun cls vt lim ret go cal nat K pc a b z ls st hp ce sl =>
  let nx : Nat → List (Option ex_V) → List ex_V → ex_H → Nat → Nat → Bool := fun len ls st hp ce sl => ex_n (pc + len) (fun pc => go pc ls st hp ce sl)
  match st with | v :: w :: r => if Nat.beq (ex_cat v) 1 && Nat.beq (ex_cat w) 1 then nx 1 ls (v :: w :: v :: w :: r) hp ce sl else false | _ => false
noncomputable def eh_goto (off : Int) : ex_D := fun cls vt lim ret go cal nat K pc a b z ls st hp ce sl =>
  let jp : Int → List ex_V → Bool := fun off st => ex_tgt pc off (fun t => go t ls st hp ce sl)
  jp off st
noncomputable def eh_ifCond (c : ClassFile.Cond) (off : Int) : ex_D := fun cls vt lim ret go cal nat K pc a b z ls st hp ce sl =>
  let nx : Nat → List (Option ex_V) → List ex_V → ex_H → Nat → Nat → Bool := fun len ls st hp ce sl => ex_n (pc + len) (fun pc => go pc ls st hp ce sl)
  let jp : Int → List ex_V → Bool := fun off st => ex_tgt pc off (fun t => go t ls st hp ce sl)
  match st with | v :: r => ex_br c v (.inl 0) (jp off r) (nx 3 ls r hp ce sl) | _ => false
noncomputable def eh_if_icmp (c : ClassFile.Cond) (off : Int) : ex_D := fun cls vt lim ret go cal nat K pc a b z ls st hp ce sl =>
  let nx : Nat → List (Option ex_V) → List ex_V → ex_H → Nat → Nat → Bool := fun len ls st hp ce sl => ex_n (pc + len) (fun pc => go pc ls st hp ce sl)
  let jp : Int → List ex_V → Bool := fun off st => ex_tgt pc off (fun t => go t ls st hp ce sl)
  match st with | y :: x :: r => ex_br c x y (jp off r) (nx 3 ls r hp ce sl) | _ => false
noncomputable def eh_tableswitch (df : Int) (lo : Int) (offs : Array Int) : ex_D := fun cls vt lim ret go cal nat K pc a b z ls st hp ce sl =>
  let jp : Int → List ex_V → Bool := fun off st => ex_tgt pc off (fun t => go t ls st hp ce sl)
  match st with
    | .inl x :: r => if ex_le lo x then (match offs[(x - lo).toNat]? with | some off => jp off r | none => jp df r) else jp df r
    | .inr (.inr (.inr (.inl (u, v)))) :: r => if ex_le (v + 1) lo || ex_le (lo + Int.ofNat offs.size) u then jp df r else false
    | .inr (.inr (.inr (.inr (.inr (_, u, v))))) :: r => if ex_le (v + 1) lo || ex_le (lo + Int.ofNat offs.size) u then jp df r else false
    | _ => false
noncomputable def eh_getfield : ex_D := fun cls vt lim ret go cal nat K pc a b z ls st hp ce sl =>
  let nx : Nat → List (Option ex_V) → List ex_V → ex_H → Nat → Nat → Bool := fun len ls st hp ce sl => ex_n (pc + len) (fun pc => go pc ls st hp ce sl)
  match st with
    | v :: r => ex_ref v (fun q => ex_hget hp q (fun o => match o with | (t, ci, n, p, fs) => if Nat.beq t 3 && Nat.beq ci a then ex_get fs b (fun w => nx 3 ls (w :: r) hp ce sl) else false))
    | _ => false
noncomputable def eh_putfield : ex_D := fun cls vt lim ret go cal nat K pc a b z ls st hp ce sl =>
  let nx : Nat → List (Option ex_V) → List ex_V → ex_H → Nat → Nat → Bool := fun len ls st hp ce sl => ex_n (pc + len) (fun pc => go pc ls st hp ce sl)
  match st with
    | w :: v :: r => if ex_fit z w then ex_ref v (fun q => ex_hget hp q (fun o => match o with | (t, ci, n, p, fs) => if Nat.beq t 3 && Nat.beq ci a then ex_set fs b w (fun fs => ex_hset hp q (3, ci, n, p, fs) (fun hp => nx 3 ls r hp ce sl)) else false)) else false
    | _ => false
noncomputable def eh_getstatic : ex_D := fun cls vt lim ret go cal nat K pc a b z ls st hp ce sl =>
  let nx : Nat → List (Option ex_V) → List ex_V → ex_H → Nat → Nat → Bool := fun len ls st hp ce sl => ex_n (pc + len) (fun pc => go pc ls st hp ce sl)
  nx 3 ls (.inr (.inr (.inl (some a))) :: st) hp ce sl
noncomputable def eh_arraylength : ex_D := fun cls vt lim ret go cal nat K pc a b z ls st hp ce sl =>
  let nx : Nat → List (Option ex_V) → List ex_V → ex_H → Nat → Nat → Bool := fun len ls st hp ce sl => ex_n (pc + len) (fun pc => go pc ls st hp ce sl)
  match st with
    | v :: r => ex_ref v (fun q => bif Nat.ble 5 q then false else ex_hget hp q (fun o => match o with | (t, _, n, _, _) => if Nat.beq t 0 && Nat.ble n 1000000 then ex_n n (fun n => nx 1 ls (.inl (Int.ofNat n) :: r) hp ce sl) else false))
    | _ => false
noncomputable def eh_iaload : ex_D := fun cls vt lim ret go cal nat K pc a b z ls st hp ce sl =>
  let nx : Nat → List (Option ex_V) → List ex_V → ex_H → Nat → Nat → Bool := fun len ls st hp ce sl => ex_n (pc + len) (fun pc => go pc ls st hp ce sl)
  match st with
    | i :: v :: r => ex_ref v (fun q => ex_hget hp q (fun o => match o with | (t, _, n, p, _) => if Nat.beq t 0 then ex_ld n p i (fun w => nx 1 ls (w :: r) hp ce sl) else false))
    | _ => false
noncomputable def eh_baload : ex_D := fun cls vt lim ret go cal nat K pc a b z ls st hp ce sl =>
  let nx : Nat → List (Option ex_V) → List ex_V → ex_H → Nat → Nat → Bool := fun len ls st hp ce sl => ex_n (pc + len) (fun pc => go pc ls st hp ce sl)
  match st with
    | i :: v :: r => ex_ref v (fun q => ex_hget hp q (fun o => match o with | (t, _, n, p, _) => if Nat.beq t 1 then ex_ld n p i (fun w => nx 1 ls (w :: r) hp ce sl) else false))
    | _ => false
noncomputable def eh_aaload : ex_D := fun cls vt lim ret go cal nat K pc a b z ls st hp ce sl =>
  let nx : Nat → List (Option ex_V) → List ex_V → ex_H → Nat → Nat → Bool := fun len ls st hp ce sl => ex_n (pc + len) (fun pc => go pc ls st hp ce sl)
  match st with
    | i :: v :: r => ex_iy i (fun i => ex_ref v (fun q => ex_hget hp q (fun o => match o with | (t, _, _, _, xs) => if Nat.beq t 2 then ex_get xs i (fun w => nx 1 ls (w :: r) hp ce sl) else false)))
    | _ => false
noncomputable def eh_iastore : ex_D := fun cls vt lim ret go cal nat K pc a b z ls st hp ce sl =>
  let nx : Nat → List (Option ex_V) → List ex_V → ex_H → Nat → Nat → Bool := fun len ls st hp ce sl => ex_n (pc + len) (fun pc => go pc ls st hp ce sl)
  match st with
    | w :: i :: v :: r => ex_i w (fun _ _ => ex_iy i (fun i => ex_ref v (fun q => if Nat.ble 5 q then ex_hget hp q (fun o => match o with | (t, ty, n, p, fs) => if Nat.beq t 0 && Nat.ble (i + 1) n then ex_pk w (fun w => ex_n (ex_ps p i w) (fun p => ex_hset hp q (0, ty, n, p, []) (fun hp => nx 1 ls r hp ce sl))) else false) else false)))
    | _ => false
noncomputable def eh_bastore : ex_D := fun cls vt lim ret go cal nat K pc a b z ls st hp ce sl =>
  let nx : Nat → List (Option ex_V) → List ex_V → ex_H → Nat → Nat → Bool := fun len ls st hp ce sl => ex_n (pc + len) (fun pc => go pc ls st hp ce sl)
  match st with
    | w :: i :: v :: r => if ex_may01 w then ex_iy i (fun i => ex_ref v (fun q => if Nat.ble 5 q then ex_hget hp q (fun o => match o with | (t, ty, n, p, fs) => if Nat.beq t 1 && Nat.ble (i + 1) n then ex_pk w (fun w => ex_n (ex_ps p i w) (fun p => ex_hset hp q (1, ty, n, p, []) (fun hp => nx 1 ls r hp ce sl))) else false) else false)) else false
    | _ => false
noncomputable def eh_aastore : ex_D := fun cls vt lim ret go cal nat K pc a b z ls st hp ce sl =>
  let nx : Nat → List (Option ex_V) → List ex_V → ex_H → Nat → Nat → Bool := fun len ls st hp ce sl => ex_n (pc + len) (fun pc => go pc ls st hp ce sl)
  match st with
    | w :: i :: v :: r => ex_ref w (fun y => ex_hget hp y (fun c => match c with | (t2, ci, _) => if Nat.beq t2 3 then ex_ix i (fun i => ex_ref v (fun q => if Nat.ble 5 q then ex_hget hp q (fun o => match o with | (t, ty, n, p, xs) => if Nat.beq t 2 && (if Nat.beq ty 3 then Nat.beq ci 0 else Nat.beq ty 4 && (Nat.beq ci 1 || Nat.beq ci 2 || Nat.beq ci 3 || Nat.beq ci 4 || Nat.beq ci 6 || Nat.beq ci 10)) then ex_set xs i w (fun xs => ex_hset hp q (2, ty, n, p, xs) (fun hp => nx 1 ls r hp ce sl)) else false) else false)) else false))
    | _ => false
noncomputable def eh_new : ex_D := fun cls vt lim ret go cal nat K pc a b z ls st hp ce sl =>
  let nx : Nat → List (Option ex_V) → List ex_V → ex_H → Nat → Nat → Bool := fun len ls st hp ce sl => ex_n (pc + len) (fun pc => go pc ls st hp ce sl)
  ex_get cls a (fun fs => if Nat.ble (ce + 1) lim.1 && Nat.ble (sl + fs.length) lim.2 then ex_n hp.1 (fun h => ex_n (ce + 1) (fun ce => ex_n (sl + fs.length) (fun sl => ex_hpush hp (3, a, 0, 0, fs) (fun hp' => nx 3 ls (.inr (.inr (.inl (some h))) :: st) hp' ce sl)))) else false)
noncomputable def eh_newarray (at' : ArrayType) : ex_D := fun cls vt lim ret go cal nat K pc a b z ls st hp ce sl =>
  let nx : Nat → List (Option ex_V) → List ex_V → ex_H → Nat → Nat → Bool := fun len ls st hp ce sl => ex_n (pc + len) (fun pc => go pc ls st hp ce sl)
  match st with
    | v :: r => ex_ix v (fun n => if Nat.ble n 4096 && Nat.ble (ce + 1) lim.1 && Nat.ble (sl + n) lim.2 then (match at' with
      | .int => ex_n (ex_pz n) (fun p => ex_n hp.1 (fun h => ex_n (ce + 1) (fun ce => ex_n (sl + n) (fun sl => ex_hpush hp (0, 0, n, p, []) (fun hp' => nx 2 ls (.inr (.inr (.inl (some h))) :: r) hp' ce sl)))))
      | .boolean => ex_n (ex_pz n) (fun p => ex_n hp.1 (fun h => ex_n (ce + 1) (fun ce => ex_n (sl + n) (fun sl => ex_hpush hp (1, 1, n, p, []) (fun hp' => nx 2 ls (.inr (.inr (.inl (some h))) :: r) hp' ce sl)))))
      | _ => false) else false)
    | _ => false
noncomputable def eh_anewarray : ex_D := fun cls vt lim ret go cal nat K pc a b z ls st hp ce sl =>
  let nx : Nat → List (Option ex_V) → List ex_V → ex_H → Nat → Nat → Bool := fun len ls st hp ce sl => ex_n (pc + len) (fun pc => go pc ls st hp ce sl)
  match st with
    | v :: r => ex_ix v (fun n => if Nat.ble n 4096 && Nat.ble (ce + 1) lim.1 && Nat.ble (sl + n) lim.2 then ex_rep n (.inr (.inr (.inl none))) (fun xs => ex_n hp.1 (fun h => ex_n (ce + 1) (fun ce => ex_n (sl + n) (fun sl => ex_hpush hp (2, a, 0, 0, xs) (fun hp' => nx 3 ls (.inr (.inr (.inl (some h))) :: r) hp' ce sl))))) else false)
    | _ => false
noncomputable def eh_multianewarray (dims : Nat) : ex_D := fun cls vt lim ret go cal nat K pc a b z ls st hp ce sl =>
  let nx : Nat → List (Option ex_V) → List ex_V → ex_H → Nat → Nat → Bool := fun len ls st hp ce sl => ex_n (pc + len) (fun pc => go pc ls st hp ce sl)
  match st with
    | w :: v :: r => if Nat.beq dims 2 then ex_ix v (fun n => ex_ix w (fun k => if Nat.ble n 4096 && Nat.ble k 4096 && Nat.ble (ce + (1 + n)) lim.1 && Nat.ble (sl + (n + n * k)) lim.2 then
        ex_n (ex_pz k) (fun p => ex_rep n ((0, 0, k, p, []) : ex_C) (fun rows => ex_n hp.1 (fun h => ex_refs n (h + 1) (fun rs => ex_n (ce + 1 + n) (fun ce => ex_n (sl + n + n * k) (fun sl => ex_hpushs ((2, 2, 0, 0, rs) :: rows) hp (fun hp' => nx 4 ls (.inr (.inr (.inl (some h))) :: r) hp' ce sl))))))) else false)) else false
    | _ => false
noncomputable def eh_invokestatic : ex_D := fun cls vt lim ret go cal nat K pc a b z ls st hp ce sl =>
  let nx : Nat → List (Option ex_V) → List ex_V → ex_H → Nat → Nat → Bool := fun len ls st hp ce sl => ex_n (pc + len) (fun pc => go pc ls st hp ce sl)
  if ex_eq z 1 then (match st with
      | n :: dp :: d :: sp :: s :: r => if nat && Nat.ble (ex_cats r) 8 then ex_ix n (fun n => ex_ix dp (fun dp => ex_ix sp (fun sp => ex_ref d (fun d => ex_ref s (fun s => if Nat.ble 5 d then ex_hget hp s (fun u => match u with | (t1, _, n1, p1, _) => ex_hget hp d (fun o => match o with | (t, ty, n2, p2, fs) => if Nat.beq t 0 && Nat.beq t1 0 && Nat.ble (sp + n) n1 && Nat.ble (dp + n) n2 then ex_cpy n p1 p2 sp dp (fun p => ex_hset hp d (0, ty, n2, p, []) (fun hp => nx 3 ls r hp ce sl)) else false)) else false))))) else false
      | _ => false)
    else ex_take b st [] (fun as r => if Nat.ble (ex_cats r) 8 then cal a as hp ce sl (fun v hp ce sl => match v with | some v => nx 3 ls (v :: r) hp ce sl | none => nx 3 ls r hp ce sl) else false)
noncomputable def eh_invokevirtual : ex_D := fun cls vt lim ret go cal nat K pc a b z ls st hp ce sl =>
  let nx : Nat → List (Option ex_V) → List ex_V → ex_H → Nat → Nat → Bool := fun len ls st hp ce sl => ex_n (pc + len) (fun pc => go pc ls st hp ce sl)
  ex_take b st [] (fun as r => match r with
      | v :: r => if Nat.ble (ex_cats r) 8 then ex_ref v (fun q => ex_hget hp q (fun o => match o with | (t, ci, _) => if Nat.beq t 3 then ex_get vt a (fun vs => ex_vt vs ci (fun mi => cal mi (v :: as) hp ce sl (fun v hp ce sl => match v with | some v => nx 3 ls (v :: r) hp ce sl | none => nx 3 ls r hp ce sl))) else false)) else false
      | _ => false)
noncomputable def eh_invokespecial : ex_D := fun cls vt lim ret go cal nat K pc a b z ls st hp ce sl =>
  let nx : Nat → List (Option ex_V) → List ex_V → ex_H → Nat → Nat → Bool := fun len ls st hp ce sl => ex_n (pc + len) (fun pc => go pc ls st hp ce sl)
  if ex_eq z 1 then (match st with
      | v :: r => if nat && Nat.ble (ex_cats r) 8 then ex_ref v (fun _ => nx 3 ls r hp ce sl) else false
      | _ => false)
    else ex_take b st [] (fun as r => match r with
      | v :: r => if Nat.ble (ex_cats r) 8 then ex_ref v (fun q => ex_hget hp q (fun o => match o with | (t, _) => if Nat.beq t 3 then cal a (v :: as) hp ce sl (fun v hp ce sl => match v with | some v => nx 3 ls (v :: r) hp ce sl | none => nx 3 ls r hp ce sl) else false)) else false
      | _ => false)
noncomputable def eh_return_ : ex_D := fun cls vt lim ret go cal nat K pc a b z ls st hp ce sl =>
  match ret with | none => if Nat.beq ce lim.1 && Nat.beq sl lim.2 then (match st with | [] => K none hp | _ => false) else false | _ => false
noncomputable def eh_ireturn : ex_D := fun cls vt lim ret go cal nat K pc a b z ls st hp ce sl =>
  match st with
    | v :: [] => if Nat.beq ce lim.1 && Nat.beq sl lim.2 then (match ret with | some .int => ex_i v (fun _ _ => K (some v) hp) | some .boolean => if ex_may01 v then K (some v) hp else false | _ => false) else false
    | _ => false
noncomputable def eh_lreturn : ex_D := fun cls vt lim ret go cal nat K pc a b z ls st hp ce sl =>
  match st with
    | v :: [] => if Nat.beq ce lim.1 && Nat.beq sl lim.2 then (match ret with | some .long => ex_l v (fun _ _ => K (some v) hp) | _ => false) else false
    | _ => false
noncomputable def ex_disp (ins : Instr) : ex_D := match ins with
  | .iadd => eh_iadd
  | .isub => eh_isub
  | .imul => eh_imul
  | .iand => eh_iand
  | .ior => eh_ior
  | .ixor => eh_ixor
  | .ishl => eh_ishl
  | .ishr => eh_ishr
  | .idiv => eh_idiv
  | .irem => eh_irem
  | .iushr => eh_iushr
  | .ineg => eh_ineg
  | .ladd => eh_ladd
  | .lsub => eh_lsub
  | .lmul => eh_lmul
  | .land => eh_land
  | .lor => eh_lor
  | .ldiv => eh_ldiv
  | .lrem => eh_lrem
  | .lushr => eh_lushr
  | .lshr => eh_lshr
  | .lshl => eh_lshl
  | .lcmp => eh_lcmp
  | .i2l => eh_i2l
  | .l2i => eh_l2i
  | .iconst i => eh_iconst i
  | .bipush i => eh_bipush i
  | .sipush i => eh_sipush i
  | .lconst i => eh_lconst i
  | .ldc _ => eh_ldc
  | .ldc_w _ => eh_ldc_w
  | .ldc2_w _ => eh_ldc2_w
  | .iload_n i => eh_iload_n i
  | .iload i => eh_iload i
  | .lload_n i => eh_lload_n i
  | .lload i => eh_lload i
  | .aload_n i => eh_aload_n i
  | .aload i => eh_aload i
  | .istore_n i => eh_istore_n i
  | .istore i => eh_istore i
  | .astore_n i => eh_astore_n i
  | .astore i => eh_astore i
  | .lstore_n i => eh_lstore_n i
  | .lstore i => eh_lstore i
  | .iinc i n => eh_iinc i n
  | .dup => eh_dup
  | .pop => eh_pop
  | .pop2 => eh_pop2
  | .dup_x1 => eh_dup_x1
  | .dup2 => eh_dup2
  | .goto off => eh_goto off
  | .ifCond c off => eh_ifCond c off
  | .if_icmp c off => eh_if_icmp c off
  | .tableswitch df lo _ offs => eh_tableswitch df lo offs
  | .getfield _ => eh_getfield
  | .putfield _ => eh_putfield
  | .getstatic _ => eh_getstatic
  | .arraylength => eh_arraylength
  | .iaload => eh_iaload
  | .baload => eh_baload
  | .aaload => eh_aaload
  | .iastore => eh_iastore
  | .bastore => eh_bastore
  | .aastore => eh_aastore
  | .new _ => eh_new
  | .newarray at' => eh_newarray at'
  | .anewarray _ => eh_anewarray
  | .multianewarray _ dims => eh_multianewarray dims
  | .invokestatic _ => eh_invokestatic
  | .invokevirtual _ => eh_invokevirtual
  | .invokespecial _ => eh_invokespecial
  | .return_ => eh_return_
  | .ireturn => eh_ireturn
  | .lreturn => eh_lreturn
  | _ => fun _ _ _ _ _ _ _ _ _ _ _ _ _ _ _ _ _ => false
noncomputable def ex_step (cls : List (List ex_V)) (vt : List (List (Nat × Nat))) (lim : Nat × Nat) (ret : Option FieldType)
    (go : Nat → List (Option ex_V) → List ex_V → ex_H → Nat → Nat → Bool)
    (cal : Nat → List ex_V → ex_H → Nat → Nat → (Option ex_V → ex_H → Nat → Nat → Bool) → Bool) (nat : Bool)
    (K : Option ex_V → ex_H → Bool) (pc : Nat) (ins : Instr) (a b : Nat) (z : Int)
    (ls : List (Option ex_V)) (st : List ex_V) (hp : ex_H) (ce sl : Nat) : Bool := ex_disp ins cls vt lim ret go cal nat K pc a b z ls st hp ce sl
/-- places at which a frame may stop: what follows from there is known -/
abbrev ex_Cut : Type := Nat → List (Option ex_V) → List ex_V → ex_H → Nat → Nat → Bool
/-- calls whose end is known -/
abbrev ex_Mem : Type := Nat → List ex_V → ex_H → Option (Option ex_V × ex_H × Nat)
/-- a call whose end is known, or else the run of it -/
def ex_mem (o : Option (Option ex_V × ex_H × Nat)) (d : Nat) (lim : Nat × Nat) (ce sl : Nat) (k : Option ex_V → ex_H → Nat → Nat → Bool) (run : Bool) : Bool := match o with
  | some (v, hp', dd) => if Nat.ble (dd + 1) d && (Nat.ble ce lim.1 && Nat.ble sl lim.2) then k v hp' ce sl else false
  | none => run
/-- an instruction as the runner has it: place, what to do, three numbers -/
abbrev ex_J : Type := Nat × ex_D × Nat × Nat × Int
/-- a method: its instructions by thirty-twos, its locals, what it answers, the cells and slots that it makes -/
abbrev ex_N : Type := List (List ex_J) × Nat × Option FieldType × Nat × Nat
/-- a call by the receiver's class, with its own row -/
noncomputable def ex_iv (row : List (Nat × Nat)) : ex_D := fun cls _ lim ret go cal nat K pc _ b z ls st hp ce sl => eh_invokevirtual cls [row] lim ret go cal nat K pc (nat_lit 0) b z ls st hp ce sl
noncomputable def ex_find (l : List ex_J) (pc : Nat) (k : ex_J → List ex_J → Bool) : Bool :=
  List.rec (motive := fun _ => Bool) false (fun x xs ih => bif Nat.beq x.1 pc then k x xs else ih) l
noncomputable def ex_look (tb : List (List ex_J)) (pc : Nat) (k : ex_J → List ex_J → Bool) : Bool := ex_get tb (Nat.div pc (nat_lit 32)) (fun ch => ex_find ch pc k)
/-- the next of those that follow, or else by its place -/
noncomputable def ex_hint (ht : List ex_J) (tb : List (List ex_J)) (pc : Nat) (k : ex_J → List ex_J → Bool) : Bool :=
  List.rec (motive := fun _ => Bool) (ex_look tb pc k) (fun x xs _ => bif Nat.beq x.1 pc then k x xs else ex_look tb pc k) ht
/-- methods by sixteens -/
noncomputable def ex_get2 {α : Type} (l : List (List α)) (n : Nat) (k : α → Bool) : Bool := ex_get l (Nat.div n (nat_lit 16)) (fun r => ex_get r (Nat.mod n (nat_lit 16)) k)
def ex_at2 {α : Type} (l : List (List α)) (n : Nat) : Option α := (l[n / 16]?).bind (fun r => r[n % 16]?)
/-- a frame, from a place on: 'n' instructions at most, 'd' calls deep at most -/
noncomputable def ex_run (cls : List (List ex_V)) (vt : List (List (Nat × Nat))) (ms : List (List ex_N)) (mem : ex_Mem) (n : Nat) : Nat → ex_Cut → List (List ex_J) → Nat × Nat → Option FieldType → List ex_J → Nat → List (Option ex_V) → List ex_V → ex_H → Nat → Nat → (Option ex_V → ex_H → Bool) → Bool :=
  Nat.rec (motive := fun _ => Nat → ex_Cut → List (List ex_J) → Nat × Nat → Option FieldType → List ex_J → Nat → List (Option ex_V) → List ex_V → ex_H → Nat → Nat → (Option ex_V → ex_H → Bool) → Bool)
    (fun _ _ _ _ _ _ _ _ _ _ _ _ _ => false)
    (fun _ ih d cut tb lim ret ht pc ls st hp ce sl K => bif cut pc ls st hp ce sl then true else ex_hint ht tb pc (fun x xs => match x with
      | (_, h, a, b, z) => h cls vt lim ret (fun pc ls st hp ce sl => ih d cut tb lim ret xs pc ls st hp ce sl K)
        (fun mi as hp ce sl k => ex_mem (mem mi as hp) d lim ce sl k (match d with
          | 0 => false
          | d + 1 => ex_get2 ms mi (fun m => match m with
            | (tb', nl, ret', mc, sc) => if Nat.ble (ce + mc) lim.1 && Nat.ble (sl + sc) lim.2 then ex_locs as nl (fun q => ih d (fun _ _ _ _ _ _ => false) tb' (mc, sc) ret' [] 0 q [] hp 0 0 (fun v hp => ex_n (ce + mc) (fun ce => ex_n (sl + sc) (fun sl => k v hp ce sl)))) else false)))
        (match d with | 0 => false | _ + 1 => true) K pc a b z ls st hp ce sl)) n
