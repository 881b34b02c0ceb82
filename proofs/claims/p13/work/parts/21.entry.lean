/-! What holds at the law's entry. Printed by wip/p1/gen21.py. -/
def en_c0 : ex_C := ((nat_lit 0), (nat_lit 0), (nat_lit 11), (nat_lit 0x80000000800000008000000080000000800000008000000080000000800000008000000080000000800000008000000080000000800000008000000180000001800000008000000080000000800000008000000280000002), [])
def en_v0 (j : Nat) : Int32 := ([2, 0, 0, 1, 0, 0, 0, 0, 0, 0, 0] : List Int32).getD j 0
theorem en_a0 : er_A 11 en_c0.2.2.2.1 en_v0 := by
  have key : ∀ j, j < 11 → ((((ex_pg en_c0.2.2.2.1 j) % 4294967296 : Nat) : Int) ≤ (en_v0 j).toInt + 2147483648 ∧ (en_v0 j).toInt + 2147483648 ≤ (((ex_pg en_c0.2.2.2.1 j) / 4294967296 : Nat) : Int)) := by decide +kernel
  exact key
theorem en_t0 {args : Array Value} {s : State} {A : Nat → Prop} (hs : ∀ w ∈ flatC (Jvm.Cond.and given_1 narrow_1), w.before args s = true) (hA : ∀ a : Nat, a < s.heap.size → ¬ A a) : ∃ t : Nat, (Jvm.Term.static "WarmNight$Carriage" "LEAST" "[I").eval args s none [] s = some (.ref t) ∧ va_T .int t 11 (fun j => .int (en_v0 j)) A s s.heap := by
  refine va_Tof (by decide) (hs _ (by decide +kernel)) (va_eqt (z := 11) (hs (Jvm.Cond.eq (Jvm.Term.length (Jvm.Term.static "WarmNight$Carriage" "LEAST" "[I")) (Jvm.Term.int (11 : Int32))) (by decide +kernel))) (fun j hj => ?_) hA
  match j, hj with
    | 0, _ => exact va_eqt (z := 2) (hs (Jvm.Cond.eq (Jvm.Term.elem (Jvm.Term.static "WarmNight$Carriage" "LEAST" "[I") (Jvm.Term.int (0 : Int32))) (Jvm.Term.int (2 : Int32))) (by decide +kernel))
    | 1, _ => exact va_eqt (z := 0) (hs (Jvm.Cond.eq (Jvm.Term.elem (Jvm.Term.static "WarmNight$Carriage" "LEAST" "[I") (Jvm.Term.int (1 : Int32))) (Jvm.Term.int (0 : Int32))) (by decide +kernel))
    | 2, _ => exact va_eqt (z := 0) (hs (Jvm.Cond.eq (Jvm.Term.elem (Jvm.Term.static "WarmNight$Carriage" "LEAST" "[I") (Jvm.Term.int (2 : Int32))) (Jvm.Term.int (0 : Int32))) (by decide +kernel))
    | 3, _ => exact va_eqt (z := 1) (hs (Jvm.Cond.eq (Jvm.Term.elem (Jvm.Term.static "WarmNight$Carriage" "LEAST" "[I") (Jvm.Term.int (3 : Int32))) (Jvm.Term.int (1 : Int32))) (by decide +kernel))
    | 4, _ => exact va_eqt (z := 0) (hs (Jvm.Cond.eq (Jvm.Term.elem (Jvm.Term.static "WarmNight$Carriage" "LEAST" "[I") (Jvm.Term.int (4 : Int32))) (Jvm.Term.int (0 : Int32))) (by decide +kernel))
    | 5, _ => exact va_eqt (z := 0) (hs (Jvm.Cond.eq (Jvm.Term.elem (Jvm.Term.static "WarmNight$Carriage" "LEAST" "[I") (Jvm.Term.int (5 : Int32))) (Jvm.Term.int (0 : Int32))) (by decide +kernel))
    | 6, _ => exact va_eqt (z := 0) (hs (Jvm.Cond.eq (Jvm.Term.elem (Jvm.Term.static "WarmNight$Carriage" "LEAST" "[I") (Jvm.Term.int (6 : Int32))) (Jvm.Term.int (0 : Int32))) (by decide +kernel))
    | 7, _ => exact va_eqt (z := 0) (hs (Jvm.Cond.eq (Jvm.Term.elem (Jvm.Term.static "WarmNight$Carriage" "LEAST" "[I") (Jvm.Term.int (7 : Int32))) (Jvm.Term.int (0 : Int32))) (by decide +kernel))
    | 8, _ => exact va_eqt (z := 0) (hs (Jvm.Cond.eq (Jvm.Term.elem (Jvm.Term.static "WarmNight$Carriage" "LEAST" "[I") (Jvm.Term.int (8 : Int32))) (Jvm.Term.int (0 : Int32))) (by decide +kernel))
    | 9, _ => exact va_eqt (z := 0) (hs (Jvm.Cond.eq (Jvm.Term.elem (Jvm.Term.static "WarmNight$Carriage" "LEAST" "[I") (Jvm.Term.int (9 : Int32))) (Jvm.Term.int (0 : Int32))) (by decide +kernel))
    | 10, _ => exact va_eqt (z := 0) (hs (Jvm.Cond.eq (Jvm.Term.elem (Jvm.Term.static "WarmNight$Carriage" "LEAST" "[I") (Jvm.Term.int (10 : Int32))) (Jvm.Term.int (0 : Int32))) (by decide +kernel))
    | j + 11, hj => omega
def en_c1 : ex_C := ((nat_lit 0), (nat_lit 0), (nat_lit 11), (nat_lit 0x800000098000000980000007800000078000000980000009800000c8800000c8800000c8800000c88000003c8000003c800000c8800000c88000001880000018800000078000000780000007800000078000000880000008), [])
def en_v1 (j : Nat) : Int32 := ([8, 7, 7, 24, 200, 60, 200, 200, 9, 7, 9] : List Int32).getD j 0
theorem en_a1 : er_A 11 en_c1.2.2.2.1 en_v1 := by
  have key : ∀ j, j < 11 → ((((ex_pg en_c1.2.2.2.1 j) % 4294967296 : Nat) : Int) ≤ (en_v1 j).toInt + 2147483648 ∧ (en_v1 j).toInt + 2147483648 ≤ (((ex_pg en_c1.2.2.2.1 j) / 4294967296 : Nat) : Int)) := by decide +kernel
  exact key
theorem en_t1 {args : Array Value} {s : State} {A : Nat → Prop} (hs : ∀ w ∈ flatC (Jvm.Cond.and given_1 narrow_1), w.before args s = true) (hA : ∀ a : Nat, a < s.heap.size → ¬ A a) : ∃ t : Nat, (Jvm.Term.static "WarmNight$Carriage" "MOST" "[I").eval args s none [] s = some (.ref t) ∧ va_T .int t 11 (fun j => .int (en_v1 j)) A s s.heap := by
  refine va_Tof (by decide) (hs _ (by decide +kernel)) (va_eqt (z := 11) (hs (Jvm.Cond.eq (Jvm.Term.length (Jvm.Term.static "WarmNight$Carriage" "MOST" "[I")) (Jvm.Term.int (11 : Int32))) (by decide +kernel))) (fun j hj => ?_) hA
  match j, hj with
    | 0, _ => exact va_eqt (z := 8) (hs (Jvm.Cond.eq (Jvm.Term.elem (Jvm.Term.static "WarmNight$Carriage" "MOST" "[I") (Jvm.Term.int (0 : Int32))) (Jvm.Term.int (8 : Int32))) (by decide +kernel))
    | 1, _ => exact va_eqt (z := 7) (hs (Jvm.Cond.eq (Jvm.Term.elem (Jvm.Term.static "WarmNight$Carriage" "MOST" "[I") (Jvm.Term.int (1 : Int32))) (Jvm.Term.int (7 : Int32))) (by decide +kernel))
    | 2, _ => exact va_eqt (z := 7) (hs (Jvm.Cond.eq (Jvm.Term.elem (Jvm.Term.static "WarmNight$Carriage" "MOST" "[I") (Jvm.Term.int (2 : Int32))) (Jvm.Term.int (7 : Int32))) (by decide +kernel))
    | 3, _ => exact va_eqt (z := 24) (hs (Jvm.Cond.eq (Jvm.Term.elem (Jvm.Term.static "WarmNight$Carriage" "MOST" "[I") (Jvm.Term.int (3 : Int32))) (Jvm.Term.int (24 : Int32))) (by decide +kernel))
    | 4, _ => exact va_eqt (z := 200) (hs (Jvm.Cond.eq (Jvm.Term.elem (Jvm.Term.static "WarmNight$Carriage" "MOST" "[I") (Jvm.Term.int (4 : Int32))) (Jvm.Term.int (200 : Int32))) (by decide +kernel))
    | 5, _ => exact va_eqt (z := 60) (hs (Jvm.Cond.eq (Jvm.Term.elem (Jvm.Term.static "WarmNight$Carriage" "MOST" "[I") (Jvm.Term.int (5 : Int32))) (Jvm.Term.int (60 : Int32))) (by decide +kernel))
    | 6, _ => exact va_eqt (z := 200) (hs (Jvm.Cond.eq (Jvm.Term.elem (Jvm.Term.static "WarmNight$Carriage" "MOST" "[I") (Jvm.Term.int (6 : Int32))) (Jvm.Term.int (200 : Int32))) (by decide +kernel))
    | 7, _ => exact va_eqt (z := 200) (hs (Jvm.Cond.eq (Jvm.Term.elem (Jvm.Term.static "WarmNight$Carriage" "MOST" "[I") (Jvm.Term.int (7 : Int32))) (Jvm.Term.int (200 : Int32))) (by decide +kernel))
    | 8, _ => exact va_eqt (z := 9) (hs (Jvm.Cond.eq (Jvm.Term.elem (Jvm.Term.static "WarmNight$Carriage" "MOST" "[I") (Jvm.Term.int (8 : Int32))) (Jvm.Term.int (9 : Int32))) (by decide +kernel))
    | 9, _ => exact va_eqt (z := 7) (hs (Jvm.Cond.eq (Jvm.Term.elem (Jvm.Term.static "WarmNight$Carriage" "MOST" "[I") (Jvm.Term.int (9 : Int32))) (Jvm.Term.int (7 : Int32))) (by decide +kernel))
    | 10, _ => exact va_eqt (z := 9) (hs (Jvm.Cond.eq (Jvm.Term.elem (Jvm.Term.static "WarmNight$Carriage" "MOST" "[I") (Jvm.Term.int (10 : Int32))) (Jvm.Term.int (9 : Int32))) (by decide +kernel))
    | j + 11, hj => omega
def en_c2 : ex_C := ((nat_lit 0), (nat_lit 0), (nat_lit 11), (nat_lit 0x80000001800000018000000180000001800000028000000280000028800000288000003c8000003c800000088000000880000050800000508000000880000008800000038000000380000000800000008000000480000004), [])
def en_v2 (j : Nat) : Int32 := ([4, 0, 3, 8, 80, 8, 60, 40, 2, 1, 1] : List Int32).getD j 0
theorem en_a2 : er_A 11 en_c2.2.2.2.1 en_v2 := by
  have key : ∀ j, j < 11 → ((((ex_pg en_c2.2.2.2.1 j) % 4294967296 : Nat) : Int) ≤ (en_v2 j).toInt + 2147483648 ∧ (en_v2 j).toInt + 2147483648 ≤ (((ex_pg en_c2.2.2.2.1 j) / 4294967296 : Nat) : Int)) := by decide +kernel
  exact key
theorem en_t2 {args : Array Value} {s : State} {A : Nat → Prop} (hs : ∀ w ∈ flatC (Jvm.Cond.and given_1 narrow_1), w.before args s = true) (hA : ∀ a : Nat, a < s.heap.size → ¬ A a) : ∃ t : Nat, (Jvm.Term.static "WarmNight$Carriage" "AT_FIRST" "[I").eval args s none [] s = some (.ref t) ∧ va_T .int t 11 (fun j => .int (en_v2 j)) A s s.heap := by
  refine va_Tof (by decide) (hs _ (by decide +kernel)) (va_eqt (z := 11) (hs (Jvm.Cond.eq (Jvm.Term.length (Jvm.Term.static "WarmNight$Carriage" "AT_FIRST" "[I")) (Jvm.Term.int (11 : Int32))) (by decide +kernel))) (fun j hj => ?_) hA
  match j, hj with
    | 0, _ => exact va_eqt (z := 4) (hs (Jvm.Cond.eq (Jvm.Term.elem (Jvm.Term.static "WarmNight$Carriage" "AT_FIRST" "[I") (Jvm.Term.int (0 : Int32))) (Jvm.Term.int (4 : Int32))) (by decide +kernel))
    | 1, _ => exact va_eqt (z := 0) (hs (Jvm.Cond.eq (Jvm.Term.elem (Jvm.Term.static "WarmNight$Carriage" "AT_FIRST" "[I") (Jvm.Term.int (1 : Int32))) (Jvm.Term.int (0 : Int32))) (by decide +kernel))
    | 2, _ => exact va_eqt (z := 3) (hs (Jvm.Cond.eq (Jvm.Term.elem (Jvm.Term.static "WarmNight$Carriage" "AT_FIRST" "[I") (Jvm.Term.int (2 : Int32))) (Jvm.Term.int (3 : Int32))) (by decide +kernel))
    | 3, _ => exact va_eqt (z := 8) (hs (Jvm.Cond.eq (Jvm.Term.elem (Jvm.Term.static "WarmNight$Carriage" "AT_FIRST" "[I") (Jvm.Term.int (3 : Int32))) (Jvm.Term.int (8 : Int32))) (by decide +kernel))
    | 4, _ => exact va_eqt (z := 80) (hs (Jvm.Cond.eq (Jvm.Term.elem (Jvm.Term.static "WarmNight$Carriage" "AT_FIRST" "[I") (Jvm.Term.int (4 : Int32))) (Jvm.Term.int (80 : Int32))) (by decide +kernel))
    | 5, _ => exact va_eqt (z := 8) (hs (Jvm.Cond.eq (Jvm.Term.elem (Jvm.Term.static "WarmNight$Carriage" "AT_FIRST" "[I") (Jvm.Term.int (5 : Int32))) (Jvm.Term.int (8 : Int32))) (by decide +kernel))
    | 6, _ => exact va_eqt (z := 60) (hs (Jvm.Cond.eq (Jvm.Term.elem (Jvm.Term.static "WarmNight$Carriage" "AT_FIRST" "[I") (Jvm.Term.int (6 : Int32))) (Jvm.Term.int (60 : Int32))) (by decide +kernel))
    | 7, _ => exact va_eqt (z := 40) (hs (Jvm.Cond.eq (Jvm.Term.elem (Jvm.Term.static "WarmNight$Carriage" "AT_FIRST" "[I") (Jvm.Term.int (7 : Int32))) (Jvm.Term.int (40 : Int32))) (by decide +kernel))
    | 8, _ => exact va_eqt (z := 2) (hs (Jvm.Cond.eq (Jvm.Term.elem (Jvm.Term.static "WarmNight$Carriage" "AT_FIRST" "[I") (Jvm.Term.int (8 : Int32))) (Jvm.Term.int (2 : Int32))) (by decide +kernel))
    | 9, _ => exact va_eqt (z := 1) (hs (Jvm.Cond.eq (Jvm.Term.elem (Jvm.Term.static "WarmNight$Carriage" "AT_FIRST" "[I") (Jvm.Term.int (9 : Int32))) (Jvm.Term.int (1 : Int32))) (by decide +kernel))
    | 10, _ => exact va_eqt (z := 1) (hs (Jvm.Cond.eq (Jvm.Term.elem (Jvm.Term.static "WarmNight$Carriage" "AT_FIRST" "[I") (Jvm.Term.int (10 : Int32))) (Jvm.Term.int (1 : Int32))) (by decide +kernel))
    | j + 11, hj => omega
def en_c3 : ex_C := ((nat_lit 0), (nat_lit 0), (nat_lit 10), (nat_lit 0x8000000180000001800000038000000380000001800000018000000580000005800000028000000280000003800000038000000180000001800000028000000280000004800000048000000280000002), [])
def en_v3 (j : Nat) : Int32 := ([2, 4, 2, 1, 3, 2, 5, 1, 3, 1] : List Int32).getD j 0
theorem en_a3 : er_A 10 en_c3.2.2.2.1 en_v3 := by
  have key : ∀ j, j < 10 → ((((ex_pg en_c3.2.2.2.1 j) % 4294967296 : Nat) : Int) ≤ (en_v3 j).toInt + 2147483648 ∧ (en_v3 j).toInt + 2147483648 ≤ (((ex_pg en_c3.2.2.2.1 j) / 4294967296 : Nat) : Int)) := by decide +kernel
  exact key
theorem en_t3 {args : Array Value} {s : State} {A : Nat → Prop} (hs : ∀ w ∈ flatC (Jvm.Cond.and given_1 narrow_1), w.before args s = true) (hA : ∀ a : Nat, a < s.heap.size → ¬ A a) : ∃ t : Nat, (Jvm.Term.static "WarmNight$Text" "NUMBERS_OF" "[I").eval args s none [] s = some (.ref t) ∧ va_T .int t 10 (fun j => .int (en_v3 j)) A s s.heap := by
  refine va_Tof (by decide) (hs _ (by decide +kernel)) (va_eqt (z := 10) (hs (Jvm.Cond.eq (Jvm.Term.length (Jvm.Term.static "WarmNight$Text" "NUMBERS_OF" "[I")) (Jvm.Term.int (10 : Int32))) (by decide +kernel))) (fun j hj => ?_) hA
  match j, hj with
    | 0, _ => exact va_eqt (z := 2) (hs (Jvm.Cond.eq (Jvm.Term.elem (Jvm.Term.static "WarmNight$Text" "NUMBERS_OF" "[I") (Jvm.Term.int (0 : Int32))) (Jvm.Term.int (2 : Int32))) (by decide +kernel))
    | 1, _ => exact va_eqt (z := 4) (hs (Jvm.Cond.eq (Jvm.Term.elem (Jvm.Term.static "WarmNight$Text" "NUMBERS_OF" "[I") (Jvm.Term.int (1 : Int32))) (Jvm.Term.int (4 : Int32))) (by decide +kernel))
    | 2, _ => exact va_eqt (z := 2) (hs (Jvm.Cond.eq (Jvm.Term.elem (Jvm.Term.static "WarmNight$Text" "NUMBERS_OF" "[I") (Jvm.Term.int (2 : Int32))) (Jvm.Term.int (2 : Int32))) (by decide +kernel))
    | 3, _ => exact va_eqt (z := 1) (hs (Jvm.Cond.eq (Jvm.Term.elem (Jvm.Term.static "WarmNight$Text" "NUMBERS_OF" "[I") (Jvm.Term.int (3 : Int32))) (Jvm.Term.int (1 : Int32))) (by decide +kernel))
    | 4, _ => exact va_eqt (z := 3) (hs (Jvm.Cond.eq (Jvm.Term.elem (Jvm.Term.static "WarmNight$Text" "NUMBERS_OF" "[I") (Jvm.Term.int (4 : Int32))) (Jvm.Term.int (3 : Int32))) (by decide +kernel))
    | 5, _ => exact va_eqt (z := 2) (hs (Jvm.Cond.eq (Jvm.Term.elem (Jvm.Term.static "WarmNight$Text" "NUMBERS_OF" "[I") (Jvm.Term.int (5 : Int32))) (Jvm.Term.int (2 : Int32))) (by decide +kernel))
    | 6, _ => exact va_eqt (z := 5) (hs (Jvm.Cond.eq (Jvm.Term.elem (Jvm.Term.static "WarmNight$Text" "NUMBERS_OF" "[I") (Jvm.Term.int (6 : Int32))) (Jvm.Term.int (5 : Int32))) (by decide +kernel))
    | 7, _ => exact va_eqt (z := 1) (hs (Jvm.Cond.eq (Jvm.Term.elem (Jvm.Term.static "WarmNight$Text" "NUMBERS_OF" "[I") (Jvm.Term.int (7 : Int32))) (Jvm.Term.int (1 : Int32))) (by decide +kernel))
    | 8, _ => exact va_eqt (z := 3) (hs (Jvm.Cond.eq (Jvm.Term.elem (Jvm.Term.static "WarmNight$Text" "NUMBERS_OF" "[I") (Jvm.Term.int (8 : Int32))) (Jvm.Term.int (3 : Int32))) (by decide +kernel))
    | 9, _ => exact va_eqt (z := 1) (hs (Jvm.Cond.eq (Jvm.Term.elem (Jvm.Term.static "WarmNight$Text" "NUMBERS_OF" "[I") (Jvm.Term.int (9 : Int32))) (Jvm.Term.int (1 : Int32))) (by decide +kernel))
    | j + 10, hj => omega
def en_vs (j : Nat) : Int32 := ([112, 117, 116, 32, 32, 99, 101, 108, 108, 32, 112, 97, 115, 115, 32, 104, 97, 110, 103, 32, 99, 111, 108, 100, 32, 104, 101, 108, 112, 32, 109, 97, 110, 32, 32, 99, 111, 97, 116, 32, 98, 114, 101, 97, 107, 111, 112, 101, 110, 32] : List Int32).getD j 0
theorem en_ts {args : Array Value} {s : State} {A : Nat → Prop} (hs : ∀ w ∈ flatC (Jvm.Cond.and given_1 narrow_1), w.before args s = true) (hA : ∀ a : Nat, a < s.heap.size → ¬ A a) : ∃ t : Nat, (Jvm.Term.field (Jvm.Term.string "WarmNight$Text" (66 : Nat)) "java/lang/String" "value" "[B").eval args s none [] s = some (.ref t) ∧ va_T .byte t 50 (fun j => .int (en_vs j)) A s s.heap := by
  refine va_Tof (by decide) (hs _ (by decide +kernel)) (va_eqt (z := 50) (hs (Jvm.Cond.eq (Jvm.Term.length (Jvm.Term.field (Jvm.Term.string "WarmNight$Text" (66 : Nat)) "java/lang/String" "value" "[B")) (Jvm.Term.int (50 : Int32))) (by decide +kernel))) (fun j hj => ?_) hA
  match j, hj with
    | 0, _ => exact va_eqt (z := 112) (hs (Jvm.Cond.eq (Jvm.Term.elem (Jvm.Term.field (Jvm.Term.string "WarmNight$Text" (66 : Nat)) "java/lang/String" "value" "[B") (Jvm.Term.int (0 : Int32))) (Jvm.Term.int (112 : Int32))) (by decide +kernel))
    | 1, _ => exact va_eqt (z := 117) (hs (Jvm.Cond.eq (Jvm.Term.elem (Jvm.Term.field (Jvm.Term.string "WarmNight$Text" (66 : Nat)) "java/lang/String" "value" "[B") (Jvm.Term.int (1 : Int32))) (Jvm.Term.int (117 : Int32))) (by decide +kernel))
    | 2, _ => exact va_eqt (z := 116) (hs (Jvm.Cond.eq (Jvm.Term.elem (Jvm.Term.field (Jvm.Term.string "WarmNight$Text" (66 : Nat)) "java/lang/String" "value" "[B") (Jvm.Term.int (2 : Int32))) (Jvm.Term.int (116 : Int32))) (by decide +kernel))
    | 3, _ => exact va_eqt (z := 32) (hs (Jvm.Cond.eq (Jvm.Term.elem (Jvm.Term.field (Jvm.Term.string "WarmNight$Text" (66 : Nat)) "java/lang/String" "value" "[B") (Jvm.Term.int (3 : Int32))) (Jvm.Term.int (32 : Int32))) (by decide +kernel))
    | 4, _ => exact va_eqt (z := 32) (hs (Jvm.Cond.eq (Jvm.Term.elem (Jvm.Term.field (Jvm.Term.string "WarmNight$Text" (66 : Nat)) "java/lang/String" "value" "[B") (Jvm.Term.int (4 : Int32))) (Jvm.Term.int (32 : Int32))) (by decide +kernel))
    | 5, _ => exact va_eqt (z := 99) (hs (Jvm.Cond.eq (Jvm.Term.elem (Jvm.Term.field (Jvm.Term.string "WarmNight$Text" (66 : Nat)) "java/lang/String" "value" "[B") (Jvm.Term.int (5 : Int32))) (Jvm.Term.int (99 : Int32))) (by decide +kernel))
    | 6, _ => exact va_eqt (z := 101) (hs (Jvm.Cond.eq (Jvm.Term.elem (Jvm.Term.field (Jvm.Term.string "WarmNight$Text" (66 : Nat)) "java/lang/String" "value" "[B") (Jvm.Term.int (6 : Int32))) (Jvm.Term.int (101 : Int32))) (by decide +kernel))
    | 7, _ => exact va_eqt (z := 108) (hs (Jvm.Cond.eq (Jvm.Term.elem (Jvm.Term.field (Jvm.Term.string "WarmNight$Text" (66 : Nat)) "java/lang/String" "value" "[B") (Jvm.Term.int (7 : Int32))) (Jvm.Term.int (108 : Int32))) (by decide +kernel))
    | 8, _ => exact va_eqt (z := 108) (hs (Jvm.Cond.eq (Jvm.Term.elem (Jvm.Term.field (Jvm.Term.string "WarmNight$Text" (66 : Nat)) "java/lang/String" "value" "[B") (Jvm.Term.int (8 : Int32))) (Jvm.Term.int (108 : Int32))) (by decide +kernel))
    | 9, _ => exact va_eqt (z := 32) (hs (Jvm.Cond.eq (Jvm.Term.elem (Jvm.Term.field (Jvm.Term.string "WarmNight$Text" (66 : Nat)) "java/lang/String" "value" "[B") (Jvm.Term.int (9 : Int32))) (Jvm.Term.int (32 : Int32))) (by decide +kernel))
    | 10, _ => exact va_eqt (z := 112) (hs (Jvm.Cond.eq (Jvm.Term.elem (Jvm.Term.field (Jvm.Term.string "WarmNight$Text" (66 : Nat)) "java/lang/String" "value" "[B") (Jvm.Term.int (10 : Int32))) (Jvm.Term.int (112 : Int32))) (by decide +kernel))
    | 11, _ => exact va_eqt (z := 97) (hs (Jvm.Cond.eq (Jvm.Term.elem (Jvm.Term.field (Jvm.Term.string "WarmNight$Text" (66 : Nat)) "java/lang/String" "value" "[B") (Jvm.Term.int (11 : Int32))) (Jvm.Term.int (97 : Int32))) (by decide +kernel))
    | 12, _ => exact va_eqt (z := 115) (hs (Jvm.Cond.eq (Jvm.Term.elem (Jvm.Term.field (Jvm.Term.string "WarmNight$Text" (66 : Nat)) "java/lang/String" "value" "[B") (Jvm.Term.int (12 : Int32))) (Jvm.Term.int (115 : Int32))) (by decide +kernel))
    | 13, _ => exact va_eqt (z := 115) (hs (Jvm.Cond.eq (Jvm.Term.elem (Jvm.Term.field (Jvm.Term.string "WarmNight$Text" (66 : Nat)) "java/lang/String" "value" "[B") (Jvm.Term.int (13 : Int32))) (Jvm.Term.int (115 : Int32))) (by decide +kernel))
    | 14, _ => exact va_eqt (z := 32) (hs (Jvm.Cond.eq (Jvm.Term.elem (Jvm.Term.field (Jvm.Term.string "WarmNight$Text" (66 : Nat)) "java/lang/String" "value" "[B") (Jvm.Term.int (14 : Int32))) (Jvm.Term.int (32 : Int32))) (by decide +kernel))
    | 15, _ => exact va_eqt (z := 104) (hs (Jvm.Cond.eq (Jvm.Term.elem (Jvm.Term.field (Jvm.Term.string "WarmNight$Text" (66 : Nat)) "java/lang/String" "value" "[B") (Jvm.Term.int (15 : Int32))) (Jvm.Term.int (104 : Int32))) (by decide +kernel))
    | 16, _ => exact va_eqt (z := 97) (hs (Jvm.Cond.eq (Jvm.Term.elem (Jvm.Term.field (Jvm.Term.string "WarmNight$Text" (66 : Nat)) "java/lang/String" "value" "[B") (Jvm.Term.int (16 : Int32))) (Jvm.Term.int (97 : Int32))) (by decide +kernel))
    | 17, _ => exact va_eqt (z := 110) (hs (Jvm.Cond.eq (Jvm.Term.elem (Jvm.Term.field (Jvm.Term.string "WarmNight$Text" (66 : Nat)) "java/lang/String" "value" "[B") (Jvm.Term.int (17 : Int32))) (Jvm.Term.int (110 : Int32))) (by decide +kernel))
    | 18, _ => exact va_eqt (z := 103) (hs (Jvm.Cond.eq (Jvm.Term.elem (Jvm.Term.field (Jvm.Term.string "WarmNight$Text" (66 : Nat)) "java/lang/String" "value" "[B") (Jvm.Term.int (18 : Int32))) (Jvm.Term.int (103 : Int32))) (by decide +kernel))
    | 19, _ => exact va_eqt (z := 32) (hs (Jvm.Cond.eq (Jvm.Term.elem (Jvm.Term.field (Jvm.Term.string "WarmNight$Text" (66 : Nat)) "java/lang/String" "value" "[B") (Jvm.Term.int (19 : Int32))) (Jvm.Term.int (32 : Int32))) (by decide +kernel))
    | 20, _ => exact va_eqt (z := 99) (hs (Jvm.Cond.eq (Jvm.Term.elem (Jvm.Term.field (Jvm.Term.string "WarmNight$Text" (66 : Nat)) "java/lang/String" "value" "[B") (Jvm.Term.int (20 : Int32))) (Jvm.Term.int (99 : Int32))) (by decide +kernel))
    | 21, _ => exact va_eqt (z := 111) (hs (Jvm.Cond.eq (Jvm.Term.elem (Jvm.Term.field (Jvm.Term.string "WarmNight$Text" (66 : Nat)) "java/lang/String" "value" "[B") (Jvm.Term.int (21 : Int32))) (Jvm.Term.int (111 : Int32))) (by decide +kernel))
    | 22, _ => exact va_eqt (z := 108) (hs (Jvm.Cond.eq (Jvm.Term.elem (Jvm.Term.field (Jvm.Term.string "WarmNight$Text" (66 : Nat)) "java/lang/String" "value" "[B") (Jvm.Term.int (22 : Int32))) (Jvm.Term.int (108 : Int32))) (by decide +kernel))
    | 23, _ => exact va_eqt (z := 100) (hs (Jvm.Cond.eq (Jvm.Term.elem (Jvm.Term.field (Jvm.Term.string "WarmNight$Text" (66 : Nat)) "java/lang/String" "value" "[B") (Jvm.Term.int (23 : Int32))) (Jvm.Term.int (100 : Int32))) (by decide +kernel))
    | 24, _ => exact va_eqt (z := 32) (hs (Jvm.Cond.eq (Jvm.Term.elem (Jvm.Term.field (Jvm.Term.string "WarmNight$Text" (66 : Nat)) "java/lang/String" "value" "[B") (Jvm.Term.int (24 : Int32))) (Jvm.Term.int (32 : Int32))) (by decide +kernel))
    | 25, _ => exact va_eqt (z := 104) (hs (Jvm.Cond.eq (Jvm.Term.elem (Jvm.Term.field (Jvm.Term.string "WarmNight$Text" (66 : Nat)) "java/lang/String" "value" "[B") (Jvm.Term.int (25 : Int32))) (Jvm.Term.int (104 : Int32))) (by decide +kernel))
    | 26, _ => exact va_eqt (z := 101) (hs (Jvm.Cond.eq (Jvm.Term.elem (Jvm.Term.field (Jvm.Term.string "WarmNight$Text" (66 : Nat)) "java/lang/String" "value" "[B") (Jvm.Term.int (26 : Int32))) (Jvm.Term.int (101 : Int32))) (by decide +kernel))
    | 27, _ => exact va_eqt (z := 108) (hs (Jvm.Cond.eq (Jvm.Term.elem (Jvm.Term.field (Jvm.Term.string "WarmNight$Text" (66 : Nat)) "java/lang/String" "value" "[B") (Jvm.Term.int (27 : Int32))) (Jvm.Term.int (108 : Int32))) (by decide +kernel))
    | 28, _ => exact va_eqt (z := 112) (hs (Jvm.Cond.eq (Jvm.Term.elem (Jvm.Term.field (Jvm.Term.string "WarmNight$Text" (66 : Nat)) "java/lang/String" "value" "[B") (Jvm.Term.int (28 : Int32))) (Jvm.Term.int (112 : Int32))) (by decide +kernel))
    | 29, _ => exact va_eqt (z := 32) (hs (Jvm.Cond.eq (Jvm.Term.elem (Jvm.Term.field (Jvm.Term.string "WarmNight$Text" (66 : Nat)) "java/lang/String" "value" "[B") (Jvm.Term.int (29 : Int32))) (Jvm.Term.int (32 : Int32))) (by decide +kernel))
    | 30, _ => exact va_eqt (z := 109) (hs (Jvm.Cond.eq (Jvm.Term.elem (Jvm.Term.field (Jvm.Term.string "WarmNight$Text" (66 : Nat)) "java/lang/String" "value" "[B") (Jvm.Term.int (30 : Int32))) (Jvm.Term.int (109 : Int32))) (by decide +kernel))
    | 31, _ => exact va_eqt (z := 97) (hs (Jvm.Cond.eq (Jvm.Term.elem (Jvm.Term.field (Jvm.Term.string "WarmNight$Text" (66 : Nat)) "java/lang/String" "value" "[B") (Jvm.Term.int (31 : Int32))) (Jvm.Term.int (97 : Int32))) (by decide +kernel))
    | 32, _ => exact va_eqt (z := 110) (hs (Jvm.Cond.eq (Jvm.Term.elem (Jvm.Term.field (Jvm.Term.string "WarmNight$Text" (66 : Nat)) "java/lang/String" "value" "[B") (Jvm.Term.int (32 : Int32))) (Jvm.Term.int (110 : Int32))) (by decide +kernel))
    | 33, _ => exact va_eqt (z := 32) (hs (Jvm.Cond.eq (Jvm.Term.elem (Jvm.Term.field (Jvm.Term.string "WarmNight$Text" (66 : Nat)) "java/lang/String" "value" "[B") (Jvm.Term.int (33 : Int32))) (Jvm.Term.int (32 : Int32))) (by decide +kernel))
    | 34, _ => exact va_eqt (z := 32) (hs (Jvm.Cond.eq (Jvm.Term.elem (Jvm.Term.field (Jvm.Term.string "WarmNight$Text" (66 : Nat)) "java/lang/String" "value" "[B") (Jvm.Term.int (34 : Int32))) (Jvm.Term.int (32 : Int32))) (by decide +kernel))
    | 35, _ => exact va_eqt (z := 99) (hs (Jvm.Cond.eq (Jvm.Term.elem (Jvm.Term.field (Jvm.Term.string "WarmNight$Text" (66 : Nat)) "java/lang/String" "value" "[B") (Jvm.Term.int (35 : Int32))) (Jvm.Term.int (99 : Int32))) (by decide +kernel))
    | 36, _ => exact va_eqt (z := 111) (hs (Jvm.Cond.eq (Jvm.Term.elem (Jvm.Term.field (Jvm.Term.string "WarmNight$Text" (66 : Nat)) "java/lang/String" "value" "[B") (Jvm.Term.int (36 : Int32))) (Jvm.Term.int (111 : Int32))) (by decide +kernel))
    | 37, _ => exact va_eqt (z := 97) (hs (Jvm.Cond.eq (Jvm.Term.elem (Jvm.Term.field (Jvm.Term.string "WarmNight$Text" (66 : Nat)) "java/lang/String" "value" "[B") (Jvm.Term.int (37 : Int32))) (Jvm.Term.int (97 : Int32))) (by decide +kernel))
    | 38, _ => exact va_eqt (z := 116) (hs (Jvm.Cond.eq (Jvm.Term.elem (Jvm.Term.field (Jvm.Term.string "WarmNight$Text" (66 : Nat)) "java/lang/String" "value" "[B") (Jvm.Term.int (38 : Int32))) (Jvm.Term.int (116 : Int32))) (by decide +kernel))
    | 39, _ => exact va_eqt (z := 32) (hs (Jvm.Cond.eq (Jvm.Term.elem (Jvm.Term.field (Jvm.Term.string "WarmNight$Text" (66 : Nat)) "java/lang/String" "value" "[B") (Jvm.Term.int (39 : Int32))) (Jvm.Term.int (32 : Int32))) (by decide +kernel))
    | 40, _ => exact va_eqt (z := 98) (hs (Jvm.Cond.eq (Jvm.Term.elem (Jvm.Term.field (Jvm.Term.string "WarmNight$Text" (66 : Nat)) "java/lang/String" "value" "[B") (Jvm.Term.int (40 : Int32))) (Jvm.Term.int (98 : Int32))) (by decide +kernel))
    | 41, _ => exact va_eqt (z := 114) (hs (Jvm.Cond.eq (Jvm.Term.elem (Jvm.Term.field (Jvm.Term.string "WarmNight$Text" (66 : Nat)) "java/lang/String" "value" "[B") (Jvm.Term.int (41 : Int32))) (Jvm.Term.int (114 : Int32))) (by decide +kernel))
    | 42, _ => exact va_eqt (z := 101) (hs (Jvm.Cond.eq (Jvm.Term.elem (Jvm.Term.field (Jvm.Term.string "WarmNight$Text" (66 : Nat)) "java/lang/String" "value" "[B") (Jvm.Term.int (42 : Int32))) (Jvm.Term.int (101 : Int32))) (by decide +kernel))
    | 43, _ => exact va_eqt (z := 97) (hs (Jvm.Cond.eq (Jvm.Term.elem (Jvm.Term.field (Jvm.Term.string "WarmNight$Text" (66 : Nat)) "java/lang/String" "value" "[B") (Jvm.Term.int (43 : Int32))) (Jvm.Term.int (97 : Int32))) (by decide +kernel))
    | 44, _ => exact va_eqt (z := 107) (hs (Jvm.Cond.eq (Jvm.Term.elem (Jvm.Term.field (Jvm.Term.string "WarmNight$Text" (66 : Nat)) "java/lang/String" "value" "[B") (Jvm.Term.int (44 : Int32))) (Jvm.Term.int (107 : Int32))) (by decide +kernel))
    | 45, _ => exact va_eqt (z := 111) (hs (Jvm.Cond.eq (Jvm.Term.elem (Jvm.Term.field (Jvm.Term.string "WarmNight$Text" (66 : Nat)) "java/lang/String" "value" "[B") (Jvm.Term.int (45 : Int32))) (Jvm.Term.int (111 : Int32))) (by decide +kernel))
    | 46, _ => exact va_eqt (z := 112) (hs (Jvm.Cond.eq (Jvm.Term.elem (Jvm.Term.field (Jvm.Term.string "WarmNight$Text" (66 : Nat)) "java/lang/String" "value" "[B") (Jvm.Term.int (46 : Int32))) (Jvm.Term.int (112 : Int32))) (by decide +kernel))
    | 47, _ => exact va_eqt (z := 101) (hs (Jvm.Cond.eq (Jvm.Term.elem (Jvm.Term.field (Jvm.Term.string "WarmNight$Text" (66 : Nat)) "java/lang/String" "value" "[B") (Jvm.Term.int (47 : Int32))) (Jvm.Term.int (101 : Int32))) (by decide +kernel))
    | 48, _ => exact va_eqt (z := 110) (hs (Jvm.Cond.eq (Jvm.Term.elem (Jvm.Term.field (Jvm.Term.string "WarmNight$Text" (66 : Nat)) "java/lang/String" "value" "[B") (Jvm.Term.int (48 : Int32))) (Jvm.Term.int (110 : Int32))) (by decide +kernel))
    | 49, _ => exact va_eqt (z := 32) (hs (Jvm.Cond.eq (Jvm.Term.elem (Jvm.Term.field (Jvm.Term.string "WarmNight$Text" (66 : Nat)) "java/lang/String" "value" "[B") (Jvm.Term.int (49 : Int32))) (Jvm.Term.int (32 : Int32))) (by decide +kernel))
    | j + 50, hj => omega
theorem en_str {args : Array Value} {s : State} {A : Nat → Prop} (hts : ∀ w ∈ lw_tbl, w.before args s = true) (hs : ∀ w ∈ flatC (Jvm.Cond.and given_1 narrow_1), w.before args s = true) (hA : ∀ a : Nat, a < s.heap.size → ¬ A a) : es_E A s := by
  obtain ⟨a, c, cA, kA, q1, q2, q3, q4, q5, q6, -⟩ := Cond.exactly_spec (args := args) (first := s) (o := none) (s := s) (idx := []) (t := Jvm.Term.string "WarmNight$Text" (66 : Nat)) (cls := "java/lang/String") (hs _ (by decide +kernel))
  obtain ⟨t, ht, hT⟩ := en_ts hs hA
  refine ⟨a, t, vk_R.of (A := args) (hts (Jvm.Cond.stringRef "WarmNight$Text" 66 es_tx) (by decide +kernel)) q1, ⟨cA, q3, q5, by rw [q6]; exact q2, hA a (Array.getElem?_eq_some_iff.mp q3).1⟩, vk_OFof q1 (va_eqt (z := 0) (hs (Jvm.Cond.eq (Jvm.Term.field (Jvm.Term.string "WarmNight$Text" (66 : Nat)) "java/lang/String" "coder" "B") (Jvm.Term.int (0 : Int32))) (by decide +kernel))) hA, vk_OFof q1 ht hA, ⟨_, hT⟩, ?_, ?_⟩
  · exact va_Zof (hts (Jvm.Cond.laysStatic "java/lang/String" "COMPACT_STRINGS" "Z") (by decide +kernel)) (hts (Jvm.Cond.initialized "java/lang/String") (by decide +kernel)) (va_eqi (hs (Jvm.Cond.eq (Jvm.Term.static "java/lang/String" "COMPACT_STRINGS" "Z") (Jvm.Term.int (1 : Int32))) (by decide +kernel))) hA
  · exact va_Zqof (hts (Jvm.Cond.laysStatic "jdk/internal/util/Preconditions" "SIOOBE_FORMATTER" "Ljava/util/function/BiFunction;") (by decide +kernel)) (hts (Jvm.Cond.initialized "jdk/internal/util/Preconditions") (by decide +kernel)) (hs (Jvm.Cond.isRef (Jvm.Term.static "jdk/internal/util/Preconditions" "SIOOBE_FORMATTER" "Ljava/util/function/BiFunction;")) (by decide +kernel)) hA
theorem en_cl {args : Array Value} {s : State} (hts : ∀ w ∈ lw_tbl, w.before args s = true) : ∀ (c : Nat) (q : vw_C), ec_cl[c]? = some q → ∃ (cC : ClassId) (iS : Nat → Nat), u_Kn s q.1 q.2.1 q.2.2 cC iS := by
  intro c q h
  match c, q, h with
  | 0, q, h => cases h; exact u_known hts (fun w hw => (List.mem_filter.mp (ec_c0.1 w hw)).1) (hts (Jvm.Cond.instantiable "WarmNight$Carriage" 20) (by decide +kernel))
  | 1, q, h => cases h; exact u_known hts (fun w hw => (List.mem_filter.mp (ec_c1.1 w hw)).1) (hts (Jvm.Cond.instantiable "WarmNight$Early" 0) (by decide +kernel))
  | 2, q, h => cases h; exact u_known hts (fun w hw => (List.mem_filter.mp (ec_c2.1 w hw)).1) (hts (Jvm.Cond.instantiable "WarmNight$Even" 0) (by decide +kernel))
  | 3, q, h => cases h; exact u_known hts (fun w hw => (List.mem_filter.mp (ec_c3.1 w hw)).1) (hts (Jvm.Cond.instantiable "WarmNight$Half" 0) (by decide +kernel))
  | 4, q, h => cases h; exact u_known hts (fun w hw => (List.mem_filter.mp (ec_c4.1 w hw)).1) (hts (Jvm.Cond.instantiable "WarmNight$Late" 0) (by decide +kernel))
  | 5, q, h => cases h; exact u_known hts (fun w hw => (List.mem_filter.mp (ec_c5.1 w hw)).1) (hts (Jvm.Cond.instantiable "WarmNight$Night" 16) (by decide +kernel))
  | 6, q, h => cases h; exact u_known hts (fun w hw => (List.mem_filter.mp (ec_c6.1 w hw)).1) (hts (Jvm.Cond.instantiable "WarmNight$Planned" 0) (by decide +kernel))
  | 7, q, h => cases h; exact u_known hts (fun w hw => (List.mem_filter.mp (ec_c7.1 w hw)).1) (hts (Jvm.Cond.instantiable "WarmNight$Search" 7) (by decide +kernel))
  | 8, q, h => cases h; exact u_known hts (fun w hw => (List.mem_filter.mp (ec_c8.1 w hw)).1) (hts (Jvm.Cond.instantiable "WarmNight$Sharing" 8) (by decide +kernel))
  | 9, q, h => cases h; exact u_known hts (fun w hw => (List.mem_filter.mp (ec_c9.1 w hw)).1) (hts (Jvm.Cond.instantiable "WarmNight$Text" 6) (by decide +kernel))
  | 10, q, h => cases h; exact u_known hts (fun w hw => (List.mem_filter.mp (ec_c10.1 w hw)).1) (hts (Jvm.Cond.instantiable "WarmNight$Turn" 0) (by decide +kernel))
  | 11, q, h => cases h; exact u_known hts (fun w hw => (List.mem_filter.mp (ec_c11.1 w hw)).1) (hts (Jvm.Cond.instantiable "WarmNight" 11) (by decide +kernel))
  | 12, q, h => cases h; exact u_known hts (fun w hw => (List.mem_filter.mp (ec_c12.1 w hw)).1) (hts (Jvm.Cond.instantiable "WarmNightModel" 33) (by decide +kernel))
  | c + 13, q, h => cases h
theorem en_D {args : Array Value} {s : State} (hts : ∀ w ∈ lw_tbl, w.before args s = true) : ∃ D : va_G, ∀ (c : Nat) (q : vw_C), ec_cl[c]? = some q → u_Kn s q.1 q.2.1 q.2.2 (D.1 c) (D.2 c) := by
  have h : ∀ c : Nat, ∃ d : ClassId × (Nat → Nat), ∀ q, ec_cl[c]? = some q → u_Kn s q.1 q.2.1 q.2.2 d.1 d.2 := by
    intro c
    cases hc : ec_cl[c]? with
    | none => exact ⟨((0 : Nat), fun _ => 0), fun q hq => by cases hq⟩
    | some q =>
      obtain ⟨cC, iS, hk⟩ := en_cl hts c q hc
      exact ⟨(cC, iS), fun r hr => by cases hr; exact hk⟩
  exact ⟨(fun c => (Classical.choose (h c)).1, fun c => (Classical.choose (h c)).2), fun c q hq => Classical.choose_spec (h c) q hq⟩
theorem en_mk {args : Array Value} {s : State} (hts : ∀ w ∈ lw_tbl, w.before args s = true) : er_mk s :=
  ⟨er_ov.of (args := args) (hts _ (by decide +kernel)), va_AO.of (hts (Jvm.Cond.arrayOver (.object "WarmNight$Carriage")) (by decide +kernel)), va_AO.of (hts (Jvm.Cond.arrayOver (.object "WarmNight$Even")) (by decide +kernel)), fun q hq => va_Nw.of rfl (hts (Jvm.Cond.castable q.1 q.2) ((by decide +kernel : ∀ q ∈ ec_cast, Jvm.Cond.castable q.1 q.2 ∈ lw_tbl) q hq))⟩
theorem en_tau {args : Array Value} {s : State} (hts : ∀ w ∈ lw_tbl, w.before args s = true) : ∃ τ : Nat → ClassId, ∀ (k : Nat) (q : ClassId × FieldType), (ec_tys τ)[k]? = some q → ArrOfT s q.1 q.2 ∧ va_RA s q.1 q.2 := by
  obtain ⟨c0, k0, p0, a0, b0, d0⟩ := Cond.arrayClass_spec (hts (Jvm.Cond.arrayClass .int) (by decide +kernel))
  obtain ⟨c1, k1, p1, a1, b1, d1⟩ := Cond.arrayClass_spec (hts (Jvm.Cond.arrayClass .boolean) (by decide +kernel))
  obtain ⟨⟨p2, c2, k2, a2, -, b2, d2, e2⟩, h3, h4, -⟩ := en_mk hts
  obtain ⟨p3, c3, k3, a3, -, b3, d3, e3⟩ := Cond.arrayOver_spec h3
  obtain ⟨p4, c4, k4, a4, -, b4, d4, e4⟩ := Cond.arrayOver_spec h4
  refine ⟨fun i => match i with | 0 => c0 | 1 => c1 | 2 => c2 | 3 => c3 | _ => c4, fun k q hq => ?_⟩
  match k, q, hq with
  | 0, q, hq => cases hq; exact ⟨fun n z => ⟨fun k h => (by cases h), k0, b0, p0, d0⟩, a0⟩
  | 1, q, hq => cases hq; exact ⟨fun n z => ⟨fun k h => (by cases h), k1, b1, p1, d1⟩, a1⟩
  | 2, q, hq => cases hq; exact ⟨fun n z => ⟨fun k h => (by cases h), k2, b2, p2, d2⟩, e2⟩
  | 3, q, hq => cases hq; exact ⟨fun n z => ⟨fun k h => (by cases h), k3, b3, p3, d3⟩, k3, p3, b3, d3, a3, e3⟩
  | 4, q, hq => cases hq; exact ⟨fun n z => ⟨fun k h => (by cases h), k4, b4, p4, d4⟩, k4, p4, b4, d4, a4, e4⟩
  | k + 5, q, hq => cases hq
/-- the five cells that nobody writes -/
def en_ro (L B : Nat) : List ex_C := [en_c0, en_c1, en_c2, en_c3, (nat_lit 0, nat_lit 0, L, B, [])]
/-- at the law's entry -/
theorem en_E {s : State} {b L : Nat} {xs : Nat → Int32} (hts : ∀ w ∈ lw_tbl, w.before #[Value.ref b] s = true) (hX : va_X b L xs s s.heap) (hb : b < s.heap.size) (hgv : (Jvm.Cond.and given_1 narrow_1).before #[Value.ref b] s = true) :
    ∃ (D : va_G) (τ : Nat → ClassId) (sa : List Nat), sa[4]? = some b ∧ sa.length = 5 ∧ ∀ B : Nat, er_A L B xs → er_E D τ sa (en_ro L B) (fun q => s.heap.size ≤ q) s := by
  have hs := flat_of_before _ hgv
  have hA : ∀ a : Nat, a < s.heap.size → ¬ s.heap.size ≤ a := fun a h => Nat.not_le.mpr h
  obtain ⟨D, hD⟩ := en_D hts
  obtain ⟨τ, hτ⟩ := en_tau hts
  obtain ⟨t0, e0, f0⟩ := en_t0 (A := fun q => s.heap.size ≤ q) hs hA
  obtain ⟨t1, e1, f1⟩ := en_t1 (A := fun q => s.heap.size ≤ q) hs hA
  obtain ⟨t2, e2, f2⟩ := en_t2 (A := fun q => s.heap.size ≤ q) hs hA
  obtain ⟨t3, e3, f3⟩ := en_t3 (A := fun q => s.heap.size ≤ q) hs hA
  refine ⟨D, τ, [t0, t1, t2, t3, b], rfl, rfl, fun B hB => ⟨⟨hD, hτ⟩, rfl, fun q c hq hc => ?_, fun i x hx => ?_, fun q hq => ?_, ⟨fun q hq => hq, fun q c hc => ?_⟩, en_mk hts, en_str hts hs hA⟩⟩
  · match q, hq, hc with
    | 0, _, hc => cases hc; exact ⟨rfl, t0, en_v0, rfl, f0, en_a0⟩
    | 1, _, hc => cases hc; exact ⟨rfl, t1, en_v1, rfl, f1, en_a1⟩
    | 2, _, hc => cases hc; exact ⟨rfl, t2, en_v2, rfl, f2, en_a2⟩
    | 3, _, hc => cases hc; exact ⟨rfl, t3, en_v3, rfl, f3, en_a3⟩
    | 4, _, hc =>
      cases hc
      refine ⟨rfl, b, xs, rfl, ?_, hB⟩
      obtain ⟨scr, h1, h2, h3, h4, h5⟩ := hX
      exact ⟨scr, h1, h2, h3, Nat.le_of_eq h4.symm, by rw [h4], h5, hA b hb⟩
    | q + 5, hq, _ => omega
  · match i, x, hx with
    | 0, x, hx => cases hx; exact ⟨t0, rfl, va_Zref (hts (Jvm.Cond.laysStatic "WarmNight$Carriage" "LEAST" "[I") (by decide +kernel)) (hts (Jvm.Cond.initialized "WarmNight$Carriage") (by decide +kernel)) e0 hA⟩
    | 1, x, hx => cases hx; exact ⟨t1, rfl, va_Zref (hts (Jvm.Cond.laysStatic "WarmNight$Carriage" "MOST" "[I") (by decide +kernel)) (hts (Jvm.Cond.initialized "WarmNight$Carriage") (by decide +kernel)) e1 hA⟩
    | 2, x, hx => cases hx; exact ⟨t2, rfl, va_Zref (hts (Jvm.Cond.laysStatic "WarmNight$Carriage" "AT_FIRST" "[I") (by decide +kernel)) (hts (Jvm.Cond.initialized "WarmNight$Carriage") (by decide +kernel)) e2 hA⟩
    | 3, x, hx => cases hx; exact ⟨t3, rfl, va_Zref (hts (Jvm.Cond.laysStatic "WarmNight$Text" "NUMBERS_OF" "[I") (by decide +kernel)) (hts (Jvm.Cond.initialized "WarmNight$Text") (by decide +kernel)) e3 hA⟩
    | i + 4, x, hx => cases hx
  · exact va_Nw.of rfl (hts (.methodLinkNest q.1 q.2.1 q.2.2.1 q.2.2.2) ((by decide +kernel : ∀ q ∈ ec_nest, Jvm.Cond.methodLinkNest q.1 q.2.1 q.2.2.1 q.2.2.2 ∈ lw_tbl) q hq))
  · match q, hc with
    | 0, hc => exact hc
    | 1, hc => exact hc
    | 2, hc => exact hc
    | 3, hc => exact hc
    | q + 4, hc => cases hc -- ec_stat
