/-! A runner of bytecode over pictures of values, in the kernel's own numbers: its words alone. What it says is proved in the parts behind it. -/
def ex_le (a b : Int) : Bool := match a, b with
  | .ofNat m, .ofNat n => Nat.ble m n
  | .ofNat _, .negSucc _ => false
  | .negSucc _, .ofNat _ => true
  | .negSucc m, .negSucc n => Nat.ble n m
def ex_eq (a b : Int) : Bool := match a, b with
  | .ofNat m, .ofNat n => Nat.beq m n
  | .ofNat _, .negSucc _ => false
  | .negSucc _, .ofNat _ => false
  | .negSucc m, .negSucc n => Nat.beq m n
/-- a number is reckoned before it goes on -/
def ex_n (n : Nat) (k : Nat → Bool) : Bool := match n with
  | 0 => k 0
  | m + 1 => k (Nat.succ m)
def ex_z (z : Int) (k : Int → Bool) : Bool := match z with
  | .ofNat n => ex_n n (fun n => k (.ofNat n))
  | .negSucc n => ex_n n (fun n => k (.negSucc n))
noncomputable def ex_get {α : Type} (l : List α) (n : Nat) (k : α → Bool) : Bool :=
  List.rec (motive := fun _ => Nat → Bool) (fun _ => false) (fun x _ ih n => Nat.rec (motive := fun _ => Bool) (k x) (fun m _ => ih m) n) l n
noncomputable def ex_set {α : Type} (l : List α) : Nat → α → (List α → Bool) → Bool :=
  List.rec (motive := fun _ => Nat → α → (List α → Bool) → Bool) (fun _ _ _ => false) (fun x xs ih n v k => Nat.rec (motive := fun _ => Bool) (k (v :: xs)) (fun m _ => ih m v (fun r => k (x :: r))) n) l
noncomputable def ex_rep {α : Type} (n : Nat) : α → (List α → Bool) → Bool :=
  Nat.rec (motive := fun _ => α → (List α → Bool) → Bool) (fun _ k => k []) (fun _ ih v k => ih v (fun r => k (v :: r))) n
noncomputable def ex_app {α : Type} (l : List α) : List α → (List α → Bool) → Bool :=
  List.rec (motive := fun _ => List α → (List α → Bool) → Bool) (fun ys k => k ys) (fun x _ ih ys k => ih ys (fun r => k (x :: r))) l
/-- the first n of a list turned round onto another, and the rest -/
noncomputable def ex_take {α : Type} (n : Nat) : List α → List α → (List α → List α → Bool) → Bool :=
  Nat.rec (motive := fun _ => List α → List α → (List α → List α → Bool) → Bool) (fun st acc k => k acc st) (fun _ ih st acc k => match st with | [] => false | x :: st => ih st (x :: acc) k) n
noncomputable def ex_vt (l : List (Nat × Nat)) : Nat → (Nat → Bool) → Bool :=
  List.rec (motive := fun _ => Nat → (Nat → Bool) → Bool) (fun _ _ => false) (fun x _ ih ci k => bif Nat.beq x.1 ci then k x.2 else ih ci k) l
/-- references to the cells from a number on -/
noncomputable def ex_refs (n : Nat) : Nat → (List ex_V → Bool) → Bool :=
  Nat.rec (motive := fun _ => Nat → (List ex_V → Bool) → Bool) (fun _ k => k []) (fun _ ih h k => ex_n h (fun h => ih (h + 1) (fun r => k (.inr (.inr (.inl (some h))) :: r)))) n
/-! An array of ints is one number: 64 bits a place, the lower half the least, the upper half the greatest that may stand there, each 2147483648 more. -/
def ex_pg (A i : Nat) : Nat := (A >>> (64 * i)) % 18446744073709551616
def ex_ps (A i w : Nat) : Nat := A ^^^ ((ex_pg A i ^^^ w) <<< (64 * i))
noncomputable def ex_pz (n : Nat) : Nat := Nat.rec (motive := fun _ => Nat) 0 (fun _ ih => ih * 18446744073709551616 + 9223372039002259456) n
/-- the cells: how many, and they by sixteens -/
abbrev ex_H : Type := Nat × List (List ex_C)
noncomputable def ex_hget (h : ex_H) (q : Nat) (k : ex_C → Bool) : Bool := ex_get h.2 (q / 16) (fun ch => ex_get ch (q % 16) k)
noncomputable def ex_hset (h : ex_H) (q : Nat) (c : ex_C) (k : ex_H → Bool) : Bool := ex_get h.2 (q / 16) (fun ch => ex_set ch (q % 16) c (fun ch => ex_set h.2 (q / 16) ch (fun cs => k (h.1, cs))))
noncomputable def ex_hpush (h : ex_H) (c : ex_C) (k : ex_H → Bool) : Bool :=
  bif Nat.beq (h.1 % 16) 0 then (bif Nat.beq h.2.length (h.1 / 16) then ex_app h.2 [[c]] (fun cs => ex_n (h.1 + 1) (fun n => k (n, cs))) else false)
  else ex_get h.2 (h.1 / 16) (fun ch => bif Nat.beq ch.length (h.1 % 16) then ex_app ch [c] (fun ch => ex_set h.2 (h.1 / 16) ch (fun cs => ex_n (h.1 + 1) (fun n => k (n, cs)))) else false)
noncomputable def ex_hpushs (l : List ex_C) : ex_H → (ex_H → Bool) → Bool :=
  List.rec (motive := fun _ => ex_H → (ex_H → Bool) → Bool) (fun h k => k h) (fun c _ ih h k => ex_hpush h c (fun h => ih h k)) l
abbrev ex_top : ex_V := .inr (.inr (.inr (.inl (-2147483648, 2147483647))))
abbrev ex_topL : ex_V := .inr (.inr (.inr (.inr (.inl (-9223372036854775808, 9223372036854775807)))))
/-- an int's bounds -/
def ex_i (v : ex_V) (k : Int → Int → Bool) : Bool := match v with
  | .inl z => k z z
  | .inr (.inr (.inr (.inl (lo, hi)))) => k lo hi
  | .inr (.inr (.inr (.inr (.inr (_, lo, hi))))) => k lo hi
  | _ => false
def ex_l (v : ex_V) (k : Int → Int → Bool) : Bool := match v with
  | .inr (.inl z) => k z z
  | .inr (.inr (.inr (.inr (.inl (lo, hi))))) => k lo hi
  | _ => false
/-- an int that is known, not below 0 -/
def ex_ix (v : ex_V) (k : Nat → Bool) : Bool := match v with
  | .inl (.ofNat n) => k n
  | _ => false
/-- all numbers from one on, so many and one more -/
noncomputable def ex_each (n : Nat) (k : Nat → Bool) : Nat → Bool :=
  Nat.rec (motive := fun _ => Nat → Bool) (fun i => k i) (fun _ ih i => k i && ex_n (Nat.succ i) ih) n
/-- an int that is known, or each of those that it may be -/
noncomputable def ex_iy (v : ex_V) (k : Nat → Bool) : Bool := match v with
  | .inl (.ofNat n) => k n
  | .inr (.inr (.inr (.inl (.ofNat lo, .ofNat hi)))) => bif Nat.ble lo hi && Nat.ble (hi - lo) 400 then ex_n (hi - lo) (fun n => ex_each n k lo) else false
  | .inr (.inr (.inr (.inr (.inr (_, .ofNat lo, .ofNat hi))))) => bif Nat.ble lo hi && Nat.ble (hi - lo) 400 then ex_n (hi - lo) (fun n => ex_each n k lo) else false
  | _ => false
def ex_ref (v : ex_V) (k : Nat → Bool) : Bool := match v with
  | .inr (.inr (.inl (some n))) => k n
  | _ => false
def ex_bin (f : Int32 → Int32 → Int32) (a b : ex_V) (k : ex_V → Bool) : Bool := match a, b with
  | .inl x, .inl y => ex_z (f (Int32.ofInt x) (Int32.ofInt y)).toInt (fun z => k (.inl z))
  | a, b => ex_i a (fun _ _ => ex_i b (fun _ _ => k ex_top))
def ex_fit32 (z : Int) : Bool := match z with
  | .ofNat n => Nat.ble n 2147483647
  | .negSucc n => Nat.ble n 2147483647
/-- an int between two numbers, if they are ints -/
def ex_rng (p q : Int) (k : ex_V → Bool) : Bool := ex_z p (fun p => ex_z q (fun q => if ex_fit32 p && ex_fit32 q then k (.inr (.inr (.inr (.inl (p, q))))) else k ex_top))
def ex_add (a b : ex_V) (k : ex_V → Bool) : Bool := match a, b with
  | .inl x, .inl y => ex_z (x + y) (fun z => if ex_fit32 z then k (.inl z) else ex_bin (· + ·) (.inl x) (.inl y) k)
  | a, b => ex_i a (fun u v => ex_i b (fun x y => ex_rng (u + x) (v + y) k))
def ex_sub (a b : ex_V) (k : ex_V → Bool) : Bool := match a, b with
  | .inl x, .inl y => ex_z (x - y) (fun z => if ex_fit32 z then k (.inl z) else ex_bin (· - ·) (.inl x) (.inl y) k)
  | a, b => ex_i a (fun u v => ex_i b (fun x y => ex_rng (u - y) (v - x) k))
def ex_mul (a b : ex_V) (k : ex_V → Bool) : Bool := match a, b with
  | .inl x, .inl y => ex_z (x * y) (fun z => if ex_fit32 z then k (.inl z) else ex_bin (· * ·) (.inl x) (.inl y) k)
  | a, b => ex_i a (fun u v => ex_i b (fun x y => if ex_le 0 u && ex_le 0 x then ex_rng (u * x) (v * y) k else k ex_top))
def ex_binL (f : Int64 → Int64 → Int64) (a b : ex_V) (k : ex_V → Bool) : Bool := match a, b with
  | .inr (.inl x), .inr (.inl y) => ex_z (f (Int64.ofInt x) (Int64.ofInt y)).toInt (fun z => k (.inr (.inl z)))
  | a, b => ex_l a (fun _ _ => ex_l b (fun _ _ => k ex_topL))
/-- a divisor that is not 0 -/
def ex_ne0 (lo hi : Int) : Bool := ex_le 1 lo || ex_le hi (-1)
/-- a quotient, a rest -/
def ex_quo (a b : ex_V) (k : ex_V → Bool) : Bool := match a, b with
  | .inl x, .inl y => ex_bin (· / ·) (.inl x) (.inl y) k
  | a, .inl y => ex_i a (fun u v => if ex_le 0 u && ex_le 1 y then ex_rng 0 v k else ex_bin (· / ·) a (.inl y) k)
  | a, b => ex_bin (· / ·) a b k
def ex_rst (a b : ex_V) (k : ex_V → Bool) : Bool := match a, b with
  | .inl x, .inl y => ex_bin (fun x y => x - x / y * y) (.inl x) (.inl y) k
  | a, .inl y => ex_i a (fun u _ => if ex_le 0 u && ex_le 1 y then ex_rng 0 (y - 1) k else ex_bin (fun x y => x - x / y * y) a (.inl y) k)
  | a, b => ex_i a (fun u v => ex_i b (fun x y => if ex_le 0 u && ex_le 1 x then ex_rng 0 (y - 1) k else k ex_top))
/-- bits in common with a mask; bits of one alone -/
def ex_and (a b : ex_V) (k : ex_V → Bool) : Bool := match a, b with
  | .inl x, .inl y => ex_bin (· &&& ·) (.inl x) (.inl y) k
  | a, .inl y => ex_i a (fun _ _ => if ex_le 0 y then ex_rng 0 y k else k ex_top)
  | a, b => ex_bin (· &&& ·) a b k
def ex_xor (a b : ex_V) (k : ex_V → Bool) : Bool := match a, b with
  | .inl x, .inl y => ex_bin (· ^^^ ·) (.inl x) (.inl y) k
  | a, b => ex_i a (fun u _ => ex_i b (fun x _ => if ex_le 0 u && ex_le 0 x then k (.inr (.inr (.inr (.inl (0, 2147483647))))) else k ex_top))
def ex_cmp (c : ClassFile.Cond) (x y : Int) : Bool := match c with
  | .eq => ex_eq x y
  | .ne => !(ex_eq x y)
  | .lt => !(ex_le y x)
  | .ge => ex_le y x
  | .gt => !(ex_le x y)
  | .le => ex_le x y
/-- whether a comparison of ints between bounds may hold -/
def ex_may (c : ClassFile.Cond) (a b x y : Int) : Bool := match c with
  | .eq => ex_le a y && ex_le x b
  | .ne => !(ex_eq a b && ex_eq x y && ex_eq a x)
  | .lt => !(ex_le y a)
  | .ge => ex_le x b
  | .gt => !(ex_le b x)
  | .le => ex_le a y
def ex_neg (c : ClassFile.Cond) : ClassFile.Cond := match c with
  | .eq => .ne
  | .ne => .eq
  | .lt => .ge
  | .ge => .lt
  | .gt => .le
  | .le => .gt
def ex_br (c : ClassFile.Cond) (u v : ex_V) (kt kf : Bool) : Bool := match u, v with
  | .inl x, .inl y => if ex_cmp c x y then kt else kf
  | .inr (.inr (.inr (.inr (.inr (i, p, q))))), .inr (.inr (.inr (.inr (.inr (j, x, y))))) => if Nat.beq i j then (if ex_cmp c 0 0 then kt else kf) else (!(ex_may c p q x y) || kt) && (!(ex_may (ex_neg c) p q x y) || kf)
  | u, v => ex_i u (fun a b => ex_i v (fun x y => (!(ex_may c a b x y) || kt) && (!(ex_may (ex_neg c) a b x y) || kf)))
/-- what a comparison of longs leaves -/
def ex_lc (a b x y : Int) : ex_V :=
  if ex_le b (x - 1) then .inl (-1) else if ex_le (y + 1) a then .inl 1 else if ex_eq a b && ex_eq x y && ex_eq a x then .inl 0 else if ex_le b x then .inr (.inr (.inr (.inl (-1, 0)))) else if ex_le y a then .inr (.inr (.inr (.inl (0, 1)))) else .inr (.inr (.inr (.inl (-1, 1))))
def ex_tgt (pc : Nat) (off : Int) (k : Nat → Bool) : Bool := match (Int.ofNat pc + off) with
  | .ofNat t => ex_n t k
  | .negSucc _ => false
/-- what may stand in a field or an array of a type -/
def ex_may01 (v : ex_V) : Bool := ex_i v (fun a b => ex_le 0 a && ex_le b 1)
/-- by the type's number: 0 int, 1 boolean, 2 long, 3 a reference -/
def ex_fit (t : Int) (v : ex_V) : Bool := match t with
  | .ofNat 0 => ex_i v (fun _ _ => true)
  | .ofNat 1 => ex_may01 v
  | .ofNat 2 => ex_l v (fun _ _ => true)
  | .ofNat 3 => match v with | .inr (.inr (.inl _)) => true | _ => false
  | _ => false
def ex_cat (v : ex_V) : Nat := match v with
  | .inr (.inl _) => 2
  | .inr (.inr (.inr (.inr (.inl _)))) => 2
  | _ => 1
def ex_cats : List ex_V → Nat
  | [] => 0
  | v :: r => ex_cat v + ex_cats r
/-- nothing that ends at a place lies ahead of it -/
noncomputable def ex_clear (ls : List (Option ex_V)) (i : Nat) (k : Bool) : Bool := match i with
  | 0 => k
  | j + 1 => ex_get ls j (fun o => match o with | some v => if Nat.beq (ex_cat v) 1 then k else false | none => k)
/-- the locals with which a method begins -/
noncomputable def ex_locs : List ex_V → Nat → (List (Option ex_V) → Bool) → Bool
  | [], n, k => ex_rep n none k
  | v :: r, n, k => if Nat.beq (ex_cat v) 1 then (match n with | 0 => false | m + 1 => ex_locs r m (fun q => k (some v :: q))) else (match n with | m + 2 => ex_locs r m (fun q => k (some v :: none :: q)) | _ => false)
/-- what stands at a place of an array of ints -/
def ex_el (A i : Nat) (k : ex_V → Bool) : Bool :=
  ex_n (ex_pg A i) (fun w => ex_n (w % 4294967296) (fun lo => ex_n (w / 4294967296) (fun hi =>
    bif Nat.beq lo hi then ex_z (Int.subNatNat lo 2147483648) (fun z => k (.inl z)) else ex_z (Int.subNatNat lo 2147483648) (fun a => ex_z (Int.subNatNat hi 2147483648) (fun b => k (.inr (.inr (.inr (.inl (a, b))))))))))
/-- whether places from one on, so many and one more, hold the same -/
noncomputable def ex_same (A w : Nat) (n : Nat) : Nat → Bool :=
  Nat.rec (motive := fun _ => Nat → Bool) (fun i => Nat.beq (ex_pg A i) w) (fun _ ih i => Nat.beq (ex_pg A i) w && ex_n (Nat.succ i) ih) n
/-- what stands at a place that is known, or at each that it may be -/
noncomputable def ex_ldr (n A lo hi : Nat) (k : ex_V → Bool) : Bool := bif Nat.ble lo hi && (Nat.ble (hi + 1) n && Nat.ble (hi - lo) 400) then (bif ex_n (ex_pg A lo) (fun w => ex_n (hi - lo) (fun m => ex_same A w m lo)) then ex_el A lo k else ex_n (hi - lo) (fun m => ex_each m (fun i => ex_el A i k) lo)) else false
noncomputable def ex_ld (n A : Nat) (v : ex_V) (k : ex_V → Bool) : Bool := match v with
  | .inl (.ofNat i) => bif Nat.ble (i + 1) n then ex_el A i k else false
  | .inr (.inr (.inr (.inl (.ofNat lo, .ofNat hi)))) => ex_ldr n A lo hi k
  | .inr (.inr (.inr (.inr (.inr (_, .ofNat lo, .ofNat hi))))) => ex_ldr n A lo hi k
  | _ => false
/-- a value as it stands in such an array -/
def ex_pk (v : ex_V) (k : Nat → Bool) : Bool := ex_i v (fun a b => match a + 2147483648 with
  | .ofNat lo => (match b + 2147483648 with | .ofNat hi => bif Nat.ble lo 4294967295 && Nat.ble hi 4294967295 then ex_n (lo + hi * 4294967296) k else false | .negSucc _ => false)
  | .negSucc _ => false)
/-- the part of an array from a place on laid over another -/
noncomputable def ex_cpy (n : Nat) : Nat → Nat → Nat → Nat → (Nat → Bool) → Bool :=
  Nat.rec (motive := fun _ => Nat → Nat → Nat → Nat → (Nat → Bool) → Bool) (fun _ B _ _ k => k B) (fun _ ih A B sp dp k => ex_n (ex_ps B dp (ex_pg A sp)) (fun B => ih A B (sp + 1) (dp + 1) k)) n
