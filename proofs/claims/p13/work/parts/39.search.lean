/-! Search, reset, become, from INV to INV. Printed by wip/p3/rows4.py. -/
def ec_goOn8 : ex_E := ([.inr (.inr (.inl (some (nat_lit 288)))), .inl (Int.ofNat (nat_lit 8)), .inr (.inr (.inr (.inl ((Int.negSucc (nat_lit 2147483647)), (Int.ofNat (nat_lit 2147483647))))))], ei_h0, none, ei_h0, (nat_lit 1))
def ec_goOn8_Y : List ex_Y := []
def eq_L55 : List (Nat × List ex_E) := [((nat_lit 44), [ec_step7]), ((nat_lit 57), [ec_goOn8])]
def ec_goOn7 : ex_E := ([.inr (.inr (.inl (some (nat_lit 288)))), .inl (Int.ofNat (nat_lit 7)), .inr (.inr (.inr (.inl ((Int.negSucc (nat_lit 2147483647)), (Int.ofNat (nat_lit 2147483647))))))], ei_h0, none, ei_h0, (nat_lit 3))
def ec_goOn7_Y0 : List ex_Y := [(((nat_lit 93), [some (.inr (.inr (.inl (some (nat_lit 288))))), some (.inl (Int.ofNat (nat_lit 7))), some (.inr (.inr (.inr (.inl ((Int.negSucc (nat_lit 2147483647)), (Int.ofNat (nat_lit 2147483647))))))), some (.inl (Int.ofNat (nat_lit 0)))], [], ei_h0, (nat_lit 0), (nat_lit 0)), [(nat_lit 0)]),
  (((nat_lit 93), [some (.inr (.inr (.inl (some (nat_lit 288))))), some (.inl (Int.ofNat (nat_lit 7))), some (.inr (.inr (.inr (.inl ((Int.negSucc (nat_lit 2147483647)), (Int.ofNat (nat_lit 2147483647))))))), some (.inl (Int.ofNat (nat_lit 1)))], [], ei_h0, (nat_lit 0), (nat_lit 0)), [(nat_lit 0)]),
  (((nat_lit 93), [some (.inr (.inr (.inl (some (nat_lit 288))))), some (.inl (Int.ofNat (nat_lit 7))), some (.inr (.inr (.inr (.inl ((Int.negSucc (nat_lit 2147483647)), (Int.ofNat (nat_lit 2147483647))))))), some (.inl (Int.ofNat (nat_lit 2)))], [], ei_h0, (nat_lit 0), (nat_lit 0)), [(nat_lit 0)]),
  (((nat_lit 93), [some (.inr (.inr (.inl (some (nat_lit 288))))), some (.inl (Int.ofNat (nat_lit 7))), some (.inr (.inr (.inr (.inl ((Int.negSucc (nat_lit 2147483647)), (Int.ofNat (nat_lit 2147483647))))))), some (.inl (Int.ofNat (nat_lit 3)))], [], ei_h0, (nat_lit 0), (nat_lit 0)), [])]
def ec_goOn7_A0 : List ex_Y := []
def ec_goOn7_Y : List ex_Y := ec_goOn7_Y0 ++ ec_goOn7_A0
def eq_L56 : List (Nat × List ex_E) := [((nat_lit 44), [ec_step6]), ((nat_lit 57), [ec_goOn7])]
def ec_goOn6 : ex_E := ([.inr (.inr (.inl (some (nat_lit 288)))), .inl (Int.ofNat (nat_lit 6)), .inr (.inr (.inr (.inl ((Int.negSucc (nat_lit 2147483647)), (Int.ofNat (nat_lit 2147483647))))))], ei_h0, none, ei_h0, (nat_lit 4))
def ec_goOn6_Y0 : List ex_Y := [(((nat_lit 93), [some (.inr (.inr (.inl (some (nat_lit 288))))), some (.inl (Int.ofNat (nat_lit 6))), some (.inr (.inr (.inr (.inl ((Int.negSucc (nat_lit 2147483647)), (Int.ofNat (nat_lit 2147483647))))))), some (.inl (Int.ofNat (nat_lit 0)))], [], ei_h0, (nat_lit 0), (nat_lit 0)), [(nat_lit 0)]),
  (((nat_lit 93), [some (.inr (.inr (.inl (some (nat_lit 288))))), some (.inl (Int.ofNat (nat_lit 6))), some (.inr (.inr (.inr (.inl ((Int.negSucc (nat_lit 2147483647)), (Int.ofNat (nat_lit 2147483647))))))), some (.inl (Int.ofNat (nat_lit 1)))], [], ei_h0, (nat_lit 0), (nat_lit 0)), [(nat_lit 0)]),
  (((nat_lit 93), [some (.inr (.inr (.inl (some (nat_lit 288))))), some (.inl (Int.ofNat (nat_lit 6))), some (.inr (.inr (.inr (.inl ((Int.negSucc (nat_lit 2147483647)), (Int.ofNat (nat_lit 2147483647))))))), some (.inl (Int.ofNat (nat_lit 2)))], [], ei_h0, (nat_lit 0), (nat_lit 0)), [(nat_lit 0)]),
  (((nat_lit 93), [some (.inr (.inr (.inl (some (nat_lit 288))))), some (.inl (Int.ofNat (nat_lit 6))), some (.inr (.inr (.inr (.inl ((Int.negSucc (nat_lit 2147483647)), (Int.ofNat (nat_lit 2147483647))))))), some (.inl (Int.ofNat (nat_lit 3)))], [], ei_h0, (nat_lit 0), (nat_lit 0)), [])]
def ec_goOn6_A0 : List ex_Y := []
def ec_goOn6_Y : List ex_Y := ec_goOn6_Y0 ++ ec_goOn6_A0
def eq_L57 : List (Nat × List ex_E) := [((nat_lit 44), [ec_step5]), ((nat_lit 57), [ec_goOn6])]
def ec_goOn5 : ex_E := ([.inr (.inr (.inl (some (nat_lit 288)))), .inl (Int.ofNat (nat_lit 5)), .inr (.inr (.inr (.inl ((Int.negSucc (nat_lit 2147483647)), (Int.ofNat (nat_lit 2147483647))))))], ei_h0, none, ei_h0, (nat_lit 5))
def ec_goOn5_Y0 : List ex_Y := [(((nat_lit 93), [some (.inr (.inr (.inl (some (nat_lit 288))))), some (.inl (Int.ofNat (nat_lit 5))), some (.inr (.inr (.inr (.inl ((Int.negSucc (nat_lit 2147483647)), (Int.ofNat (nat_lit 2147483647))))))), some (.inl (Int.ofNat (nat_lit 0)))], [], ei_h0, (nat_lit 0), (nat_lit 0)), [(nat_lit 0)]),
  (((nat_lit 93), [some (.inr (.inr (.inl (some (nat_lit 288))))), some (.inl (Int.ofNat (nat_lit 5))), some (.inr (.inr (.inr (.inl ((Int.negSucc (nat_lit 2147483647)), (Int.ofNat (nat_lit 2147483647))))))), some (.inl (Int.ofNat (nat_lit 1)))], [], ei_h0, (nat_lit 0), (nat_lit 0)), [(nat_lit 0)]),
  (((nat_lit 93), [some (.inr (.inr (.inl (some (nat_lit 288))))), some (.inl (Int.ofNat (nat_lit 5))), some (.inr (.inr (.inr (.inl ((Int.negSucc (nat_lit 2147483647)), (Int.ofNat (nat_lit 2147483647))))))), some (.inl (Int.ofNat (nat_lit 2)))], [], ei_h0, (nat_lit 0), (nat_lit 0)), [(nat_lit 0)]),
  (((nat_lit 93), [some (.inr (.inr (.inl (some (nat_lit 288))))), some (.inl (Int.ofNat (nat_lit 5))), some (.inr (.inr (.inr (.inl ((Int.negSucc (nat_lit 2147483647)), (Int.ofNat (nat_lit 2147483647))))))), some (.inl (Int.ofNat (nat_lit 3)))], [], ei_h0, (nat_lit 0), (nat_lit 0)), [])]
def ec_goOn5_A0 : List ex_Y := []
def ec_goOn5_Y : List ex_Y := ec_goOn5_Y0 ++ ec_goOn5_A0
def eq_L58 : List (Nat × List ex_E) := [((nat_lit 44), [ec_step4]), ((nat_lit 57), [ec_goOn5])]
def ec_goOn4 : ex_E := ([.inr (.inr (.inl (some (nat_lit 288)))), .inl (Int.ofNat (nat_lit 4)), .inr (.inr (.inr (.inl ((Int.negSucc (nat_lit 2147483647)), (Int.ofNat (nat_lit 2147483647))))))], ei_h0, none, ei_h0, (nat_lit 6))
def ec_goOn4_Y0 : List ex_Y := [(((nat_lit 93), [some (.inr (.inr (.inl (some (nat_lit 288))))), some (.inl (Int.ofNat (nat_lit 4))), some (.inr (.inr (.inr (.inl ((Int.negSucc (nat_lit 2147483647)), (Int.ofNat (nat_lit 2147483647))))))), some (.inl (Int.ofNat (nat_lit 0)))], [], ei_h0, (nat_lit 0), (nat_lit 0)), [(nat_lit 0)]),
  (((nat_lit 93), [some (.inr (.inr (.inl (some (nat_lit 288))))), some (.inl (Int.ofNat (nat_lit 4))), some (.inr (.inr (.inr (.inl ((Int.negSucc (nat_lit 2147483647)), (Int.ofNat (nat_lit 2147483647))))))), some (.inl (Int.ofNat (nat_lit 1)))], [], ei_h0, (nat_lit 0), (nat_lit 0)), [(nat_lit 0)]),
  (((nat_lit 93), [some (.inr (.inr (.inl (some (nat_lit 288))))), some (.inl (Int.ofNat (nat_lit 4))), some (.inr (.inr (.inr (.inl ((Int.negSucc (nat_lit 2147483647)), (Int.ofNat (nat_lit 2147483647))))))), some (.inl (Int.ofNat (nat_lit 2)))], [], ei_h0, (nat_lit 0), (nat_lit 0)), [(nat_lit 0)]),
  (((nat_lit 93), [some (.inr (.inr (.inl (some (nat_lit 288))))), some (.inl (Int.ofNat (nat_lit 4))), some (.inr (.inr (.inr (.inl ((Int.negSucc (nat_lit 2147483647)), (Int.ofNat (nat_lit 2147483647))))))), some (.inl (Int.ofNat (nat_lit 3)))], [], ei_h0, (nat_lit 0), (nat_lit 0)), [])]
def ec_goOn4_A0 : List ex_Y := []
def ec_goOn4_Y : List ex_Y := ec_goOn4_Y0 ++ ec_goOn4_A0
def eq_L59 : List (Nat × List ex_E) := [((nat_lit 44), [ec_step3]), ((nat_lit 57), [ec_goOn4])]
def ec_goOn3 : ex_E := ([.inr (.inr (.inl (some (nat_lit 288)))), .inl (Int.ofNat (nat_lit 3)), .inr (.inr (.inr (.inl ((Int.negSucc (nat_lit 2147483647)), (Int.ofNat (nat_lit 2147483647))))))], ei_h0, none, ei_h0, (nat_lit 7))
def ec_goOn3_Y0 : List ex_Y := [(((nat_lit 93), [some (.inr (.inr (.inl (some (nat_lit 288))))), some (.inl (Int.ofNat (nat_lit 3))), some (.inr (.inr (.inr (.inl ((Int.negSucc (nat_lit 2147483647)), (Int.ofNat (nat_lit 2147483647))))))), some (.inl (Int.ofNat (nat_lit 0)))], [], ei_h0, (nat_lit 0), (nat_lit 0)), [(nat_lit 0)]),
  (((nat_lit 93), [some (.inr (.inr (.inl (some (nat_lit 288))))), some (.inl (Int.ofNat (nat_lit 3))), some (.inr (.inr (.inr (.inl ((Int.negSucc (nat_lit 2147483647)), (Int.ofNat (nat_lit 2147483647))))))), some (.inl (Int.ofNat (nat_lit 1)))], [], ei_h0, (nat_lit 0), (nat_lit 0)), [(nat_lit 0)]),
  (((nat_lit 93), [some (.inr (.inr (.inl (some (nat_lit 288))))), some (.inl (Int.ofNat (nat_lit 3))), some (.inr (.inr (.inr (.inl ((Int.negSucc (nat_lit 2147483647)), (Int.ofNat (nat_lit 2147483647))))))), some (.inl (Int.ofNat (nat_lit 2)))], [], ei_h0, (nat_lit 0), (nat_lit 0)), [(nat_lit 0)]),
  (((nat_lit 93), [some (.inr (.inr (.inl (some (nat_lit 288))))), some (.inl (Int.ofNat (nat_lit 3))), some (.inr (.inr (.inr (.inl ((Int.negSucc (nat_lit 2147483647)), (Int.ofNat (nat_lit 2147483647))))))), some (.inl (Int.ofNat (nat_lit 3)))], [], ei_h0, (nat_lit 0), (nat_lit 0)), [])]
def ec_goOn3_A0 : List ex_Y := []
def ec_goOn3_Y : List ex_Y := ec_goOn3_Y0 ++ ec_goOn3_A0
def eq_L60 : List (Nat × List ex_E) := [((nat_lit 44), [ec_step2]), ((nat_lit 57), [ec_goOn3])]
def ec_goOn2 : ex_E := ([.inr (.inr (.inl (some (nat_lit 288)))), .inl (Int.ofNat (nat_lit 2)), .inr (.inr (.inr (.inl ((Int.negSucc (nat_lit 2147483647)), (Int.ofNat (nat_lit 2147483647))))))], ei_h0, none, ei_h0, (nat_lit 8))
def ec_goOn2_Y0 : List ex_Y := [(((nat_lit 93), [some (.inr (.inr (.inl (some (nat_lit 288))))), some (.inl (Int.ofNat (nat_lit 2))), some (.inr (.inr (.inr (.inl ((Int.negSucc (nat_lit 2147483647)), (Int.ofNat (nat_lit 2147483647))))))), some (.inl (Int.ofNat (nat_lit 0)))], [], ei_h0, (nat_lit 0), (nat_lit 0)), [(nat_lit 0)]),
  (((nat_lit 93), [some (.inr (.inr (.inl (some (nat_lit 288))))), some (.inl (Int.ofNat (nat_lit 2))), some (.inr (.inr (.inr (.inl ((Int.negSucc (nat_lit 2147483647)), (Int.ofNat (nat_lit 2147483647))))))), some (.inl (Int.ofNat (nat_lit 1)))], [], ei_h0, (nat_lit 0), (nat_lit 0)), [(nat_lit 0)]),
  (((nat_lit 93), [some (.inr (.inr (.inl (some (nat_lit 288))))), some (.inl (Int.ofNat (nat_lit 2))), some (.inr (.inr (.inr (.inl ((Int.negSucc (nat_lit 2147483647)), (Int.ofNat (nat_lit 2147483647))))))), some (.inl (Int.ofNat (nat_lit 2)))], [], ei_h0, (nat_lit 0), (nat_lit 0)), [(nat_lit 0)]),
  (((nat_lit 93), [some (.inr (.inr (.inl (some (nat_lit 288))))), some (.inl (Int.ofNat (nat_lit 2))), some (.inr (.inr (.inr (.inl ((Int.negSucc (nat_lit 2147483647)), (Int.ofNat (nat_lit 2147483647))))))), some (.inl (Int.ofNat (nat_lit 3)))], [], ei_h0, (nat_lit 0), (nat_lit 0)), [])]
def ec_goOn2_A0 : List ex_Y := []
def ec_goOn2_Y : List ex_Y := ec_goOn2_Y0 ++ ec_goOn2_A0
def eq_L61 : List (Nat × List ex_E) := [((nat_lit 44), [ec_step1]), ((nat_lit 57), [ec_goOn2])]
def ec_goOn1 : ex_E := ([.inr (.inr (.inl (some (nat_lit 288)))), .inl (Int.ofNat (nat_lit 1)), .inr (.inr (.inr (.inl ((Int.negSucc (nat_lit 2147483647)), (Int.ofNat (nat_lit 2147483647))))))], ei_h0, none, ei_h0, (nat_lit 9))
def ec_goOn1_Y0 : List ex_Y := [(((nat_lit 93), [some (.inr (.inr (.inl (some (nat_lit 288))))), some (.inl (Int.ofNat (nat_lit 1))), some (.inr (.inr (.inr (.inl ((Int.negSucc (nat_lit 2147483647)), (Int.ofNat (nat_lit 2147483647))))))), some (.inl (Int.ofNat (nat_lit 0)))], [], ei_h0, (nat_lit 0), (nat_lit 0)), [(nat_lit 0)]),
  (((nat_lit 93), [some (.inr (.inr (.inl (some (nat_lit 288))))), some (.inl (Int.ofNat (nat_lit 1))), some (.inr (.inr (.inr (.inl ((Int.negSucc (nat_lit 2147483647)), (Int.ofNat (nat_lit 2147483647))))))), some (.inl (Int.ofNat (nat_lit 1)))], [], ei_h0, (nat_lit 0), (nat_lit 0)), [(nat_lit 0)]),
  (((nat_lit 93), [some (.inr (.inr (.inl (some (nat_lit 288))))), some (.inl (Int.ofNat (nat_lit 1))), some (.inr (.inr (.inr (.inl ((Int.negSucc (nat_lit 2147483647)), (Int.ofNat (nat_lit 2147483647))))))), some (.inl (Int.ofNat (nat_lit 2)))], [], ei_h0, (nat_lit 0), (nat_lit 0)), [(nat_lit 0)]),
  (((nat_lit 93), [some (.inr (.inr (.inl (some (nat_lit 288))))), some (.inl (Int.ofNat (nat_lit 1))), some (.inr (.inr (.inr (.inl ((Int.negSucc (nat_lit 2147483647)), (Int.ofNat (nat_lit 2147483647))))))), some (.inl (Int.ofNat (nat_lit 3)))], [], ei_h0, (nat_lit 0), (nat_lit 0)), [])]
def ec_goOn1_A0 : List ex_Y := []
def ec_goOn1_Y : List ex_Y := ec_goOn1_Y0 ++ ec_goOn1_A0
def eq_L62 : List (Nat × List ex_E) := [((nat_lit 44), [ec_step0]), ((nat_lit 57), [ec_goOn1])]
def ec_goOn0 : ex_E := ([.inr (.inr (.inl (some (nat_lit 288)))), .inl (Int.ofNat (nat_lit 0)), .inr (.inr (.inr (.inl ((Int.negSucc (nat_lit 2147483647)), (Int.ofNat (nat_lit 2147483647))))))], ei_h0, none, ei_h0, (nat_lit 10))
def ec_goOn0_Y0 : List ex_Y := [(((nat_lit 93), [some (.inr (.inr (.inl (some (nat_lit 288))))), some (.inl (Int.ofNat (nat_lit 0))), some (.inr (.inr (.inr (.inl ((Int.negSucc (nat_lit 2147483647)), (Int.ofNat (nat_lit 2147483647))))))), some (.inl (Int.ofNat (nat_lit 0)))], [], ei_h0, (nat_lit 0), (nat_lit 0)), [(nat_lit 0)]),
  (((nat_lit 93), [some (.inr (.inr (.inl (some (nat_lit 288))))), some (.inl (Int.ofNat (nat_lit 0))), some (.inr (.inr (.inr (.inl ((Int.negSucc (nat_lit 2147483647)), (Int.ofNat (nat_lit 2147483647))))))), some (.inl (Int.ofNat (nat_lit 1)))], [], ei_h0, (nat_lit 0), (nat_lit 0)), [(nat_lit 0)]),
  (((nat_lit 93), [some (.inr (.inr (.inl (some (nat_lit 288))))), some (.inl (Int.ofNat (nat_lit 0))), some (.inr (.inr (.inr (.inl ((Int.negSucc (nat_lit 2147483647)), (Int.ofNat (nat_lit 2147483647))))))), some (.inl (Int.ofNat (nat_lit 2)))], [], ei_h0, (nat_lit 0), (nat_lit 0)), [(nat_lit 0)]),
  (((nat_lit 93), [some (.inr (.inr (.inl (some (nat_lit 288))))), some (.inl (Int.ofNat (nat_lit 0))), some (.inr (.inr (.inr (.inl ((Int.negSucc (nat_lit 2147483647)), (Int.ofNat (nat_lit 2147483647))))))), some (.inl (Int.ofNat (nat_lit 3)))], [], ei_h0, (nat_lit 0), (nat_lit 0)), [])]
def ec_goOn0_A0 : List ex_Y := []
def ec_goOn0_Y : List ex_Y := ec_goOn0_Y0 ++ ec_goOn0_A0
def eq_L63 : List (Nat × List ex_E) := [((nat_lit 42), [ec_prepare5]), ((nat_lit 57), [ec_goOn0])]
def ec_find : ex_E := ([.inr (.inr (.inl (some (nat_lit 288)))), .inr (.inr (.inl (some (nat_lit 344))))], ei_h0, none, ei_h0, (nat_lit 11))
def ec_find_Y : List ex_Y := []
def ec_reset25 : ex_E := ([.inr (.inr (.inl (some (nat_lit 25))))], ei_h0, none, ei_h0, (nat_lit 1))
def ec_reset25_Y0 : List ex_Y := [(((nat_lit 16), [some (.inr (.inr (.inl (some (nat_lit 25))))), some (.inl (Int.ofNat (nat_lit 0)))], [], ei_h0, (nat_lit 0), (nat_lit 0)), [(nat_lit 0)]),
  (((nat_lit 16), [some (.inr (.inr (.inl (some (nat_lit 25))))), some (.inl (Int.ofNat (nat_lit 1)))], [], ei_h0, (nat_lit 0), (nat_lit 0)), [(nat_lit 0)]),
  (((nat_lit 16), [some (.inr (.inr (.inl (some (nat_lit 25))))), some (.inl (Int.ofNat (nat_lit 2)))], [], ei_h0, (nat_lit 0), (nat_lit 0)), [(nat_lit 0)]),
  (((nat_lit 16), [some (.inr (.inr (.inl (some (nat_lit 25))))), some (.inl (Int.ofNat (nat_lit 3)))], [], ei_h0, (nat_lit 0), (nat_lit 0)), [(nat_lit 0)]),
  (((nat_lit 16), [some (.inr (.inr (.inl (some (nat_lit 25))))), some (.inl (Int.ofNat (nat_lit 4)))], [], ei_h0, (nat_lit 0), (nat_lit 0)), [(nat_lit 0)]),
  (((nat_lit 16), [some (.inr (.inr (.inl (some (nat_lit 25))))), some (.inl (Int.ofNat (nat_lit 5)))], [], ei_h0, (nat_lit 0), (nat_lit 0)), [(nat_lit 0)]),
  (((nat_lit 16), [some (.inr (.inr (.inl (some (nat_lit 25))))), some (.inl (Int.ofNat (nat_lit 6)))], [], ei_h0, (nat_lit 0), (nat_lit 0)), [(nat_lit 0)]),
  (((nat_lit 16), [some (.inr (.inr (.inl (some (nat_lit 25))))), some (.inl (Int.ofNat (nat_lit 7)))], [], ei_h0, (nat_lit 0), (nat_lit 0)), [(nat_lit 0)]),
  (((nat_lit 16), [some (.inr (.inr (.inl (some (nat_lit 25))))), some (.inl (Int.ofNat (nat_lit 8)))], [], ei_h0, (nat_lit 0), (nat_lit 0)), [(nat_lit 0)]),
  (((nat_lit 71), [some (.inr (.inr (.inl (some (nat_lit 25))))), some (.inl (Int.ofNat (nat_lit 0)))], [], ei_h0, (nat_lit 0), (nat_lit 0)), [(nat_lit 0)]),
  (((nat_lit 71), [some (.inr (.inr (.inl (some (nat_lit 25))))), some (.inl (Int.ofNat (nat_lit 1)))], [], ei_h0, (nat_lit 0), (nat_lit 0)), [(nat_lit 0)]),
  (((nat_lit 71), [some (.inr (.inr (.inl (some (nat_lit 25))))), some (.inl (Int.ofNat (nat_lit 2)))], [], ei_h0, (nat_lit 0), (nat_lit 0)), [(nat_lit 0)]),
  (((nat_lit 71), [some (.inr (.inr (.inl (some (nat_lit 25))))), some (.inl (Int.ofNat (nat_lit 3)))], [], ei_h0, (nat_lit 0), (nat_lit 0)), [(nat_lit 0)]),
  (((nat_lit 71), [some (.inr (.inr (.inl (some (nat_lit 25))))), some (.inl (Int.ofNat (nat_lit 4)))], [], ei_h0, (nat_lit 0), (nat_lit 0)), [(nat_lit 0)]),
  (((nat_lit 71), [some (.inr (.inr (.inl (some (nat_lit 25))))), some (.inl (Int.ofNat (nat_lit 5)))], [], ei_h0, (nat_lit 0), (nat_lit 0)), [(nat_lit 0)]),
  (((nat_lit 71), [some (.inr (.inr (.inl (some (nat_lit 25))))), some (.inl (Int.ofNat (nat_lit 6)))], [], ei_h0, (nat_lit 0), (nat_lit 0)), [(nat_lit 0)]),
  (((nat_lit 71), [some (.inr (.inr (.inl (some (nat_lit 25))))), some (.inl (Int.ofNat (nat_lit 7)))], [], ei_h0, (nat_lit 0), (nat_lit 0)), [(nat_lit 0)]),
  (((nat_lit 71), [some (.inr (.inr (.inl (some (nat_lit 25))))), some (.inl (Int.ofNat (nat_lit 8)))], [], ei_h0, (nat_lit 0), (nat_lit 0)), [(nat_lit 0)]),
  (((nat_lit 71), [some (.inr (.inr (.inl (some (nat_lit 25))))), some (.inl (Int.ofNat (nat_lit 9)))], [], ei_h0, (nat_lit 0), (nat_lit 0)), [(nat_lit 0)]),
  (((nat_lit 71), [some (.inr (.inr (.inl (some (nat_lit 25))))), some (.inl (Int.ofNat (nat_lit 10)))], [], ei_h0, (nat_lit 0), (nat_lit 0)), [(nat_lit 0)]),
  (((nat_lit 71), [some (.inr (.inr (.inl (some (nat_lit 25))))), some (.inl (Int.ofNat (nat_lit 11)))], [], ei_h0, (nat_lit 0), (nat_lit 0)), [(nat_lit 0)]),
  (((nat_lit 71), [some (.inr (.inr (.inl (some (nat_lit 25))))), some (.inl (Int.ofNat (nat_lit 12)))], [], ei_h0, (nat_lit 0), (nat_lit 0)), [(nat_lit 0)]),
  (((nat_lit 71), [some (.inr (.inr (.inl (some (nat_lit 25))))), some (.inl (Int.ofNat (nat_lit 13)))], [], ei_h0, (nat_lit 0), (nat_lit 0)), [(nat_lit 0)]),
  (((nat_lit 71), [some (.inr (.inr (.inl (some (nat_lit 25))))), some (.inl (Int.ofNat (nat_lit 14)))], [], ei_h0, (nat_lit 0), (nat_lit 0)), [(nat_lit 0)]),
  (((nat_lit 71), [some (.inr (.inr (.inl (some (nat_lit 25))))), some (.inl (Int.ofNat (nat_lit 15)))], [], ei_h0, (nat_lit 0), (nat_lit 0)), [(nat_lit 0)]),
  (((nat_lit 71), [some (.inr (.inr (.inl (some (nat_lit 25))))), some (.inl (Int.ofNat (nat_lit 16)))], [], ei_h0, (nat_lit 0), (nat_lit 0)), [(nat_lit 0)]),
  (((nat_lit 71), [some (.inr (.inr (.inl (some (nat_lit 25))))), some (.inl (Int.ofNat (nat_lit 17)))], [], ei_h0, (nat_lit 0), (nat_lit 0)), [(nat_lit 0)]),
  (((nat_lit 71), [some (.inr (.inr (.inl (some (nat_lit 25))))), some (.inl (Int.ofNat (nat_lit 18)))], [], ei_h0, (nat_lit 0), (nat_lit 0)), [(nat_lit 0)]),
  (((nat_lit 71), [some (.inr (.inr (.inl (some (nat_lit 25))))), some (.inl (Int.ofNat (nat_lit 19)))], [], ei_h0, (nat_lit 0), (nat_lit 0)), [(nat_lit 0)]),
  (((nat_lit 71), [some (.inr (.inr (.inl (some (nat_lit 25))))), some (.inl (Int.ofNat (nat_lit 20)))], [], ei_h0, (nat_lit 0), (nat_lit 0)), [(nat_lit 0)]),
  (((nat_lit 71), [some (.inr (.inr (.inl (some (nat_lit 25))))), some (.inl (Int.ofNat (nat_lit 21)))], [], ei_h0, (nat_lit 0), (nat_lit 0)), [(nat_lit 0)]),
  (((nat_lit 71), [some (.inr (.inr (.inl (some (nat_lit 25))))), some (.inl (Int.ofNat (nat_lit 22)))], [], ei_h0, (nat_lit 0), (nat_lit 0)), [(nat_lit 0)]),
  (((nat_lit 71), [some (.inr (.inr (.inl (some (nat_lit 25))))), some (.inl (Int.ofNat (nat_lit 23)))], [], ei_h0, (nat_lit 0), (nat_lit 0)), [(nat_lit 0)]),
  (((nat_lit 71), [some (.inr (.inr (.inl (some (nat_lit 25))))), some (.inl (Int.ofNat (nat_lit 24)))], [], ei_h0, (nat_lit 0), (nat_lit 0)), [])]
def ec_reset25_A0 : List ex_Y := []
def ec_reset25_Y : List ex_Y := ec_reset25_Y0 ++ ec_reset25_A0
def ec_become6_25 : ex_E := ([.inr (.inr (.inl (some (nat_lit 6)))), .inr (.inr (.inl (some (nat_lit 25))))], ei_h0, none, ei_h0, (nat_lit 1))
def ec_become6_25_Y0 : List ex_Y := [(((nat_lit 197), [some (.inr (.inr (.inl (some (nat_lit 6))))), some (.inr (.inr (.inl (some (nat_lit 25))))), some (.inl (Int.ofNat (nat_lit 0)))], [], ei_h0, (nat_lit 0), (nat_lit 0)), [(nat_lit 0)]),
  (((nat_lit 197), [some (.inr (.inr (.inl (some (nat_lit 6))))), some (.inr (.inr (.inl (some (nat_lit 25))))), some (.inl (Int.ofNat (nat_lit 1)))], [], ei_h0, (nat_lit 0), (nat_lit 0)), [(nat_lit 0)]),
  (((nat_lit 197), [some (.inr (.inr (.inl (some (nat_lit 6))))), some (.inr (.inr (.inl (some (nat_lit 25))))), some (.inl (Int.ofNat (nat_lit 2)))], [], ei_h0, (nat_lit 0), (nat_lit 0)), [(nat_lit 0)]),
  (((nat_lit 197), [some (.inr (.inr (.inl (some (nat_lit 6))))), some (.inr (.inr (.inl (some (nat_lit 25))))), some (.inl (Int.ofNat (nat_lit 3)))], [], ei_h0, (nat_lit 0), (nat_lit 0)), [(nat_lit 0)]),
  (((nat_lit 197), [some (.inr (.inr (.inl (some (nat_lit 6))))), some (.inr (.inr (.inl (some (nat_lit 25))))), some (.inl (Int.ofNat (nat_lit 4)))], [], ei_h0, (nat_lit 0), (nat_lit 0)), [])]
def ec_become6_25_A0 : List ex_Y := []
def ec_become6_25_Y : List ex_Y := ec_become6_25_Y0 ++ ec_become6_25_A0
def ec_become301_6 : ex_E := ([.inr (.inr (.inl (some (nat_lit 301)))), .inr (.inr (.inl (some (nat_lit 6))))], ei_h0, none, ei_h0, (nat_lit 1))
def ec_become301_6_Y0 : List ex_Y := [(((nat_lit 197), [some (.inr (.inr (.inl (some (nat_lit 301))))), some (.inr (.inr (.inl (some (nat_lit 6))))), some (.inl (Int.ofNat (nat_lit 0)))], [], ei_h0, (nat_lit 0), (nat_lit 0)), [(nat_lit 0)]),
  (((nat_lit 197), [some (.inr (.inr (.inl (some (nat_lit 301))))), some (.inr (.inr (.inl (some (nat_lit 6))))), some (.inl (Int.ofNat (nat_lit 1)))], [], ei_h0, (nat_lit 0), (nat_lit 0)), [(nat_lit 0)]),
  (((nat_lit 197), [some (.inr (.inr (.inl (some (nat_lit 301))))), some (.inr (.inr (.inl (some (nat_lit 6))))), some (.inl (Int.ofNat (nat_lit 2)))], [], ei_h0, (nat_lit 0), (nat_lit 0)), [(nat_lit 0)]),
  (((nat_lit 197), [some (.inr (.inr (.inl (some (nat_lit 301))))), some (.inr (.inr (.inl (some (nat_lit 6))))), some (.inl (Int.ofNat (nat_lit 3)))], [], ei_h0, (nat_lit 0), (nat_lit 0)), [(nat_lit 0)]),
  (((nat_lit 197), [some (.inr (.inr (.inl (some (nat_lit 301))))), some (.inr (.inr (.inl (some (nat_lit 6))))), some (.inl (Int.ofNat (nat_lit 4)))], [], ei_h0, (nat_lit 0), (nat_lit 0)), [])]
def ec_become301_6_A0 : List ex_Y := []
def ec_become301_6_Y : List ex_Y := ec_become301_6_Y0 ++ ec_become301_6_A0
def ec_become320_6 : ex_E := ([.inr (.inr (.inl (some (nat_lit 320)))), .inr (.inr (.inl (some (nat_lit 6))))], ei_h0, none, ei_h0, (nat_lit 1))
def ec_become320_6_Y0 : List ex_Y := [(((nat_lit 197), [some (.inr (.inr (.inl (some (nat_lit 320))))), some (.inr (.inr (.inl (some (nat_lit 6))))), some (.inl (Int.ofNat (nat_lit 0)))], [], ei_h0, (nat_lit 0), (nat_lit 0)), [(nat_lit 0)]),
  (((nat_lit 197), [some (.inr (.inr (.inl (some (nat_lit 320))))), some (.inr (.inr (.inl (some (nat_lit 6))))), some (.inl (Int.ofNat (nat_lit 1)))], [], ei_h0, (nat_lit 0), (nat_lit 0)), [(nat_lit 0)]),
  (((nat_lit 197), [some (.inr (.inr (.inl (some (nat_lit 320))))), some (.inr (.inr (.inl (some (nat_lit 6))))), some (.inl (Int.ofNat (nat_lit 2)))], [], ei_h0, (nat_lit 0), (nat_lit 0)), [(nat_lit 0)]),
  (((nat_lit 197), [some (.inr (.inr (.inl (some (nat_lit 320))))), some (.inr (.inr (.inl (some (nat_lit 6))))), some (.inl (Int.ofNat (nat_lit 3)))], [], ei_h0, (nat_lit 0), (nat_lit 0)), [(nat_lit 0)]),
  (((nat_lit 197), [some (.inr (.inr (.inl (some (nat_lit 320))))), some (.inr (.inr (.inl (some (nat_lit 6))))), some (.inl (Int.ofNat (nat_lit 4)))], [], ei_h0, (nat_lit 0), (nat_lit 0)), [])]
def ec_become320_6_A0 : List ex_Y := []
def ec_become320_6_Y : List ex_Y := ec_become320_6_Y0 ++ ec_become320_6_A0
def ec_become6_301 : ex_E := ([.inr (.inr (.inl (some (nat_lit 6)))), .inr (.inr (.inl (some (nat_lit 301))))], ei_h0, none, ei_h0, (nat_lit 1))
def ec_become6_301_Y0 : List ex_Y := [(((nat_lit 197), [some (.inr (.inr (.inl (some (nat_lit 6))))), some (.inr (.inr (.inl (some (nat_lit 301))))), some (.inl (Int.ofNat (nat_lit 0)))], [], ei_h0, (nat_lit 0), (nat_lit 0)), [(nat_lit 0)]),
  (((nat_lit 197), [some (.inr (.inr (.inl (some (nat_lit 6))))), some (.inr (.inr (.inl (some (nat_lit 301))))), some (.inl (Int.ofNat (nat_lit 1)))], [], ei_h0, (nat_lit 0), (nat_lit 0)), [(nat_lit 0)]),
  (((nat_lit 197), [some (.inr (.inr (.inl (some (nat_lit 6))))), some (.inr (.inr (.inl (some (nat_lit 301))))), some (.inl (Int.ofNat (nat_lit 2)))], [], ei_h0, (nat_lit 0), (nat_lit 0)), [(nat_lit 0)]),
  (((nat_lit 197), [some (.inr (.inr (.inl (some (nat_lit 6))))), some (.inr (.inr (.inl (some (nat_lit 301))))), some (.inl (Int.ofNat (nat_lit 3)))], [], ei_h0, (nat_lit 0), (nat_lit 0)), [(nat_lit 0)]),
  (((nat_lit 197), [some (.inr (.inr (.inl (some (nat_lit 6))))), some (.inr (.inr (.inl (some (nat_lit 301))))), some (.inl (Int.ofNat (nat_lit 4)))], [], ei_h0, (nat_lit 0), (nat_lit 0)), [])]
def ec_become6_301_A0 : List ex_Y := []
def ec_become6_301_Y : List ex_Y := ec_become6_301_Y0 ++ ec_become6_301_A0
def ec_become6_320 : ex_E := ([.inr (.inr (.inl (some (nat_lit 6)))), .inr (.inr (.inl (some (nat_lit 320))))], ei_h0, none, ei_h0, (nat_lit 1))
def ec_become6_320_Y0 : List ex_Y := [(((nat_lit 197), [some (.inr (.inr (.inl (some (nat_lit 6))))), some (.inr (.inr (.inl (some (nat_lit 320))))), some (.inl (Int.ofNat (nat_lit 0)))], [], ei_h0, (nat_lit 0), (nat_lit 0)), [(nat_lit 0)]),
  (((nat_lit 197), [some (.inr (.inr (.inl (some (nat_lit 6))))), some (.inr (.inr (.inl (some (nat_lit 320))))), some (.inl (Int.ofNat (nat_lit 1)))], [], ei_h0, (nat_lit 0), (nat_lit 0)), [(nat_lit 0)]),
  (((nat_lit 197), [some (.inr (.inr (.inl (some (nat_lit 6))))), some (.inr (.inr (.inl (some (nat_lit 320))))), some (.inl (Int.ofNat (nat_lit 2)))], [], ei_h0, (nat_lit 0), (nat_lit 0)), [(nat_lit 0)]),
  (((nat_lit 197), [some (.inr (.inr (.inl (some (nat_lit 6))))), some (.inr (.inr (.inl (some (nat_lit 320))))), some (.inl (Int.ofNat (nat_lit 3)))], [], ei_h0, (nat_lit 0), (nat_lit 0)), [(nat_lit 0)]),
  (((nat_lit 197), [some (.inr (.inr (.inl (some (nat_lit 6))))), some (.inr (.inr (.inl (some (nat_lit 320))))), some (.inl (Int.ofNat (nat_lit 4)))], [], ei_h0, (nat_lit 0), (nat_lit 0)), [])]
def ec_become6_320_A0 : List ex_Y := []
def ec_become6_320_Y : List ex_Y := ec_become6_320_Y0 ++ ec_become6_320_A0
theorem ec_goOn8_l : ex_links (ex_runS ei_L0 (nat_lit 1) eu_57 none (ex_K none ei_h0)) [] ec_goOn8_Y = true := by decide +kernel
theorem ec_goOn8_e : ex_locs ec_goOn8.1 (nat_lit 4) (fun q => ex_runS ei_L0 (nat_lit 1) eu_57 none (ex_K none ei_h0) (ex_pick ec_goOn8_Y []) (0, q, [], ei_h0, 0, 0)) = true := by decide +kernel
theorem ec_goOn8_k {l : Launch} {D : va_G} {τ : Nat → ClassId} {sa : List Nat} {A : Nat → Prop} (hmn : em_mna) : em_E l D τ sa A em_inf (nat_lit 57) ec_goOn8 := em_ofD hmn (ei_L0_k hmn) (tb := eu_57) (nl := (nat_lit 4)) (ret := none) rfl ec_goOn8_e (fun own mn by' hT y hy => ex_links_ok (fun Ss S => ex_runS_ok hmn (ei_L0_k hmn) hT Ss S) (fun _ h => absurd h List.not_mem_nil) _ ec_goOn8_l y (by rw [List.append_nil]; exact hy))
theorem eq_L55_k {l : Launch} {D : va_G} {τ : Nat → ClassId} {sa : List Nat} {A : Nat → Prop} (hmn : em_mna) : em_L l D τ sa A em_inf eq_L55 := (List.forall_mem_cons.mpr ⟨(List.forall_mem_cons.mpr ⟨ec_step7_k hmn, (fun _ h => absurd h List.not_mem_nil)⟩), (List.forall_mem_cons.mpr ⟨(List.forall_mem_cons.mpr ⟨ec_goOn8_k hmn, (fun _ h => absurd h List.not_mem_nil)⟩), (fun _ h => absurd h List.not_mem_nil)⟩)⟩)
theorem ec_goOn7_l0 : ex_links (ex_runS eq_L55 (nat_lit 3) eu_57 none (ex_K none ei_h0)) ec_goOn7_A0 ec_goOn7_Y0 = true := by decide +kernel
theorem ec_goOn7_e : ex_locs ec_goOn7.1 (nat_lit 4) (fun q => ex_runS eq_L55 (nat_lit 3) eu_57 none (ex_K none ei_h0) (ex_pick ec_goOn7_Y [(nat_lit 0)]) (0, q, [], ei_h0, 0, 0)) = true := by decide +kernel
theorem ec_goOn7_k {l : Launch} {D : va_G} {τ : Nat → ClassId} {sa : List Nat} {A : Nat → Prop} (hmn : em_mna) : em_E l D τ sa A em_inf (nat_lit 57) ec_goOn7 := em_ofD hmn (eq_L55_k hmn) (tb := eu_57) (nl := (nat_lit 4)) (ret := none) rfl ec_goOn7_e (fun own mn by' hT y hy => by
  have hr := fun (Ss : List ex_S) (S : ex_S) => ex_runS_ok (own := own) (mname := mn) (bytes := by') (nL := (nat_lit 4)) (dd := (nat_lit 3)) (ret := none) (K := (ex_K none ei_h0)) hmn (eq_L55_k (l := l) (D := D) (τ := τ) (sa := sa) (A := A) hmn) hT Ss S
  exact (ex_links_ok hr (fun _ h => absurd h List.not_mem_nil) _ ec_goOn7_l0) y hy)
theorem eq_L56_k {l : Launch} {D : va_G} {τ : Nat → ClassId} {sa : List Nat} {A : Nat → Prop} (hmn : em_mna) : em_L l D τ sa A em_inf eq_L56 := (List.forall_mem_cons.mpr ⟨(List.forall_mem_cons.mpr ⟨ec_step6_k hmn, (fun _ h => absurd h List.not_mem_nil)⟩), (List.forall_mem_cons.mpr ⟨(List.forall_mem_cons.mpr ⟨ec_goOn7_k hmn, (fun _ h => absurd h List.not_mem_nil)⟩), (fun _ h => absurd h List.not_mem_nil)⟩)⟩)
theorem ec_goOn6_l0 : ex_links (ex_runS eq_L56 (nat_lit 4) eu_57 none (ex_K none ei_h0)) ec_goOn6_A0 ec_goOn6_Y0 = true := by decide +kernel
theorem ec_goOn6_e : ex_locs ec_goOn6.1 (nat_lit 4) (fun q => ex_runS eq_L56 (nat_lit 4) eu_57 none (ex_K none ei_h0) (ex_pick ec_goOn6_Y [(nat_lit 0)]) (0, q, [], ei_h0, 0, 0)) = true := by decide +kernel
theorem ec_goOn6_k {l : Launch} {D : va_G} {τ : Nat → ClassId} {sa : List Nat} {A : Nat → Prop} (hmn : em_mna) : em_E l D τ sa A em_inf (nat_lit 57) ec_goOn6 := em_ofD hmn (eq_L56_k hmn) (tb := eu_57) (nl := (nat_lit 4)) (ret := none) rfl ec_goOn6_e (fun own mn by' hT y hy => by
  have hr := fun (Ss : List ex_S) (S : ex_S) => ex_runS_ok (own := own) (mname := mn) (bytes := by') (nL := (nat_lit 4)) (dd := (nat_lit 4)) (ret := none) (K := (ex_K none ei_h0)) hmn (eq_L56_k (l := l) (D := D) (τ := τ) (sa := sa) (A := A) hmn) hT Ss S
  exact (ex_links_ok hr (fun _ h => absurd h List.not_mem_nil) _ ec_goOn6_l0) y hy)
theorem eq_L57_k {l : Launch} {D : va_G} {τ : Nat → ClassId} {sa : List Nat} {A : Nat → Prop} (hmn : em_mna) : em_L l D τ sa A em_inf eq_L57 := (List.forall_mem_cons.mpr ⟨(List.forall_mem_cons.mpr ⟨ec_step5_k hmn, (fun _ h => absurd h List.not_mem_nil)⟩), (List.forall_mem_cons.mpr ⟨(List.forall_mem_cons.mpr ⟨ec_goOn6_k hmn, (fun _ h => absurd h List.not_mem_nil)⟩), (fun _ h => absurd h List.not_mem_nil)⟩)⟩)
theorem ec_goOn5_l0 : ex_links (ex_runS eq_L57 (nat_lit 5) eu_57 none (ex_K none ei_h0)) ec_goOn5_A0 ec_goOn5_Y0 = true := by decide +kernel
theorem ec_goOn5_e : ex_locs ec_goOn5.1 (nat_lit 4) (fun q => ex_runS eq_L57 (nat_lit 5) eu_57 none (ex_K none ei_h0) (ex_pick ec_goOn5_Y [(nat_lit 0)]) (0, q, [], ei_h0, 0, 0)) = true := by decide +kernel
theorem ec_goOn5_k {l : Launch} {D : va_G} {τ : Nat → ClassId} {sa : List Nat} {A : Nat → Prop} (hmn : em_mna) : em_E l D τ sa A em_inf (nat_lit 57) ec_goOn5 := em_ofD hmn (eq_L57_k hmn) (tb := eu_57) (nl := (nat_lit 4)) (ret := none) rfl ec_goOn5_e (fun own mn by' hT y hy => by
  have hr := fun (Ss : List ex_S) (S : ex_S) => ex_runS_ok (own := own) (mname := mn) (bytes := by') (nL := (nat_lit 4)) (dd := (nat_lit 5)) (ret := none) (K := (ex_K none ei_h0)) hmn (eq_L57_k (l := l) (D := D) (τ := τ) (sa := sa) (A := A) hmn) hT Ss S
  exact (ex_links_ok hr (fun _ h => absurd h List.not_mem_nil) _ ec_goOn5_l0) y hy)
theorem eq_L58_k {l : Launch} {D : va_G} {τ : Nat → ClassId} {sa : List Nat} {A : Nat → Prop} (hmn : em_mna) : em_L l D τ sa A em_inf eq_L58 := (List.forall_mem_cons.mpr ⟨(List.forall_mem_cons.mpr ⟨ec_step4_k hmn, (fun _ h => absurd h List.not_mem_nil)⟩), (List.forall_mem_cons.mpr ⟨(List.forall_mem_cons.mpr ⟨ec_goOn5_k hmn, (fun _ h => absurd h List.not_mem_nil)⟩), (fun _ h => absurd h List.not_mem_nil)⟩)⟩)
theorem ec_goOn4_l0 : ex_links (ex_runS eq_L58 (nat_lit 6) eu_57 none (ex_K none ei_h0)) ec_goOn4_A0 ec_goOn4_Y0 = true := by decide +kernel
theorem ec_goOn4_e : ex_locs ec_goOn4.1 (nat_lit 4) (fun q => ex_runS eq_L58 (nat_lit 6) eu_57 none (ex_K none ei_h0) (ex_pick ec_goOn4_Y [(nat_lit 0)]) (0, q, [], ei_h0, 0, 0)) = true := by decide +kernel
theorem ec_goOn4_k {l : Launch} {D : va_G} {τ : Nat → ClassId} {sa : List Nat} {A : Nat → Prop} (hmn : em_mna) : em_E l D τ sa A em_inf (nat_lit 57) ec_goOn4 := em_ofD hmn (eq_L58_k hmn) (tb := eu_57) (nl := (nat_lit 4)) (ret := none) rfl ec_goOn4_e (fun own mn by' hT y hy => by
  have hr := fun (Ss : List ex_S) (S : ex_S) => ex_runS_ok (own := own) (mname := mn) (bytes := by') (nL := (nat_lit 4)) (dd := (nat_lit 6)) (ret := none) (K := (ex_K none ei_h0)) hmn (eq_L58_k (l := l) (D := D) (τ := τ) (sa := sa) (A := A) hmn) hT Ss S
  exact (ex_links_ok hr (fun _ h => absurd h List.not_mem_nil) _ ec_goOn4_l0) y hy)
theorem eq_L59_k {l : Launch} {D : va_G} {τ : Nat → ClassId} {sa : List Nat} {A : Nat → Prop} (hmn : em_mna) : em_L l D τ sa A em_inf eq_L59 := (List.forall_mem_cons.mpr ⟨(List.forall_mem_cons.mpr ⟨ec_step3_k hmn, (fun _ h => absurd h List.not_mem_nil)⟩), (List.forall_mem_cons.mpr ⟨(List.forall_mem_cons.mpr ⟨ec_goOn4_k hmn, (fun _ h => absurd h List.not_mem_nil)⟩), (fun _ h => absurd h List.not_mem_nil)⟩)⟩)
theorem ec_goOn3_l0 : ex_links (ex_runS eq_L59 (nat_lit 7) eu_57 none (ex_K none ei_h0)) ec_goOn3_A0 ec_goOn3_Y0 = true := by decide +kernel
theorem ec_goOn3_e : ex_locs ec_goOn3.1 (nat_lit 4) (fun q => ex_runS eq_L59 (nat_lit 7) eu_57 none (ex_K none ei_h0) (ex_pick ec_goOn3_Y [(nat_lit 0)]) (0, q, [], ei_h0, 0, 0)) = true := by decide +kernel
theorem ec_goOn3_k {l : Launch} {D : va_G} {τ : Nat → ClassId} {sa : List Nat} {A : Nat → Prop} (hmn : em_mna) : em_E l D τ sa A em_inf (nat_lit 57) ec_goOn3 := em_ofD hmn (eq_L59_k hmn) (tb := eu_57) (nl := (nat_lit 4)) (ret := none) rfl ec_goOn3_e (fun own mn by' hT y hy => by
  have hr := fun (Ss : List ex_S) (S : ex_S) => ex_runS_ok (own := own) (mname := mn) (bytes := by') (nL := (nat_lit 4)) (dd := (nat_lit 7)) (ret := none) (K := (ex_K none ei_h0)) hmn (eq_L59_k (l := l) (D := D) (τ := τ) (sa := sa) (A := A) hmn) hT Ss S
  exact (ex_links_ok hr (fun _ h => absurd h List.not_mem_nil) _ ec_goOn3_l0) y hy)
theorem eq_L60_k {l : Launch} {D : va_G} {τ : Nat → ClassId} {sa : List Nat} {A : Nat → Prop} (hmn : em_mna) : em_L l D τ sa A em_inf eq_L60 := (List.forall_mem_cons.mpr ⟨(List.forall_mem_cons.mpr ⟨ec_step2_k hmn, (fun _ h => absurd h List.not_mem_nil)⟩), (List.forall_mem_cons.mpr ⟨(List.forall_mem_cons.mpr ⟨ec_goOn3_k hmn, (fun _ h => absurd h List.not_mem_nil)⟩), (fun _ h => absurd h List.not_mem_nil)⟩)⟩)
theorem ec_goOn2_l0 : ex_links (ex_runS eq_L60 (nat_lit 8) eu_57 none (ex_K none ei_h0)) ec_goOn2_A0 ec_goOn2_Y0 = true := by decide +kernel
theorem ec_goOn2_e : ex_locs ec_goOn2.1 (nat_lit 4) (fun q => ex_runS eq_L60 (nat_lit 8) eu_57 none (ex_K none ei_h0) (ex_pick ec_goOn2_Y [(nat_lit 0)]) (0, q, [], ei_h0, 0, 0)) = true := by decide +kernel
theorem ec_goOn2_k {l : Launch} {D : va_G} {τ : Nat → ClassId} {sa : List Nat} {A : Nat → Prop} (hmn : em_mna) : em_E l D τ sa A em_inf (nat_lit 57) ec_goOn2 := em_ofD hmn (eq_L60_k hmn) (tb := eu_57) (nl := (nat_lit 4)) (ret := none) rfl ec_goOn2_e (fun own mn by' hT y hy => by
  have hr := fun (Ss : List ex_S) (S : ex_S) => ex_runS_ok (own := own) (mname := mn) (bytes := by') (nL := (nat_lit 4)) (dd := (nat_lit 8)) (ret := none) (K := (ex_K none ei_h0)) hmn (eq_L60_k (l := l) (D := D) (τ := τ) (sa := sa) (A := A) hmn) hT Ss S
  exact (ex_links_ok hr (fun _ h => absurd h List.not_mem_nil) _ ec_goOn2_l0) y hy)
theorem eq_L61_k {l : Launch} {D : va_G} {τ : Nat → ClassId} {sa : List Nat} {A : Nat → Prop} (hmn : em_mna) : em_L l D τ sa A em_inf eq_L61 := (List.forall_mem_cons.mpr ⟨(List.forall_mem_cons.mpr ⟨ec_step1_k hmn, (fun _ h => absurd h List.not_mem_nil)⟩), (List.forall_mem_cons.mpr ⟨(List.forall_mem_cons.mpr ⟨ec_goOn2_k hmn, (fun _ h => absurd h List.not_mem_nil)⟩), (fun _ h => absurd h List.not_mem_nil)⟩)⟩)
theorem ec_goOn1_l0 : ex_links (ex_runS eq_L61 (nat_lit 9) eu_57 none (ex_K none ei_h0)) ec_goOn1_A0 ec_goOn1_Y0 = true := by decide +kernel
theorem ec_goOn1_e : ex_locs ec_goOn1.1 (nat_lit 4) (fun q => ex_runS eq_L61 (nat_lit 9) eu_57 none (ex_K none ei_h0) (ex_pick ec_goOn1_Y [(nat_lit 0)]) (0, q, [], ei_h0, 0, 0)) = true := by decide +kernel
theorem ec_goOn1_k {l : Launch} {D : va_G} {τ : Nat → ClassId} {sa : List Nat} {A : Nat → Prop} (hmn : em_mna) : em_E l D τ sa A em_inf (nat_lit 57) ec_goOn1 := em_ofD hmn (eq_L61_k hmn) (tb := eu_57) (nl := (nat_lit 4)) (ret := none) rfl ec_goOn1_e (fun own mn by' hT y hy => by
  have hr := fun (Ss : List ex_S) (S : ex_S) => ex_runS_ok (own := own) (mname := mn) (bytes := by') (nL := (nat_lit 4)) (dd := (nat_lit 9)) (ret := none) (K := (ex_K none ei_h0)) hmn (eq_L61_k (l := l) (D := D) (τ := τ) (sa := sa) (A := A) hmn) hT Ss S
  exact (ex_links_ok hr (fun _ h => absurd h List.not_mem_nil) _ ec_goOn1_l0) y hy)
theorem eq_L62_k {l : Launch} {D : va_G} {τ : Nat → ClassId} {sa : List Nat} {A : Nat → Prop} (hmn : em_mna) : em_L l D τ sa A em_inf eq_L62 := (List.forall_mem_cons.mpr ⟨(List.forall_mem_cons.mpr ⟨ec_step0_k hmn, (fun _ h => absurd h List.not_mem_nil)⟩), (List.forall_mem_cons.mpr ⟨(List.forall_mem_cons.mpr ⟨ec_goOn1_k hmn, (fun _ h => absurd h List.not_mem_nil)⟩), (fun _ h => absurd h List.not_mem_nil)⟩)⟩)
theorem ec_goOn0_l0 : ex_links (ex_runS eq_L62 (nat_lit 10) eu_57 none (ex_K none ei_h0)) ec_goOn0_A0 ec_goOn0_Y0 = true := by decide +kernel
theorem ec_goOn0_e : ex_locs ec_goOn0.1 (nat_lit 4) (fun q => ex_runS eq_L62 (nat_lit 10) eu_57 none (ex_K none ei_h0) (ex_pick ec_goOn0_Y [(nat_lit 0)]) (0, q, [], ei_h0, 0, 0)) = true := by decide +kernel
theorem ec_goOn0_k {l : Launch} {D : va_G} {τ : Nat → ClassId} {sa : List Nat} {A : Nat → Prop} (hmn : em_mna) : em_E l D τ sa A em_inf (nat_lit 57) ec_goOn0 := em_ofD hmn (eq_L62_k hmn) (tb := eu_57) (nl := (nat_lit 4)) (ret := none) rfl ec_goOn0_e (fun own mn by' hT y hy => by
  have hr := fun (Ss : List ex_S) (S : ex_S) => ex_runS_ok (own := own) (mname := mn) (bytes := by') (nL := (nat_lit 4)) (dd := (nat_lit 10)) (ret := none) (K := (ex_K none ei_h0)) hmn (eq_L62_k (l := l) (D := D) (τ := τ) (sa := sa) (A := A) hmn) hT Ss S
  exact (ex_links_ok hr (fun _ h => absurd h List.not_mem_nil) _ ec_goOn0_l0) y hy)
theorem eq_L63_k {l : Launch} {D : va_G} {τ : Nat → ClassId} {sa : List Nat} {A : Nat → Prop} (hmn : em_mna) : em_L l D τ sa A em_inf eq_L63 := (List.forall_mem_cons.mpr ⟨(List.forall_mem_cons.mpr ⟨ec_prepare5_k hmn, (fun _ h => absurd h List.not_mem_nil)⟩), (List.forall_mem_cons.mpr ⟨(List.forall_mem_cons.mpr ⟨ec_goOn0_k hmn, (fun _ h => absurd h List.not_mem_nil)⟩), (fun _ h => absurd h List.not_mem_nil)⟩)⟩)
theorem ec_find_l : ex_links (ex_runS eq_L63 (nat_lit 11) eu_55 none (ex_K none ei_h0)) [] ec_find_Y = true := by decide +kernel
theorem ec_find_e : ex_locs ec_find.1 (nat_lit 2) (fun q => ex_runS eq_L63 (nat_lit 11) eu_55 none (ex_K none ei_h0) (ex_pick ec_find_Y []) (0, q, [], ei_h0, 0, 0)) = true := by decide +kernel
theorem ec_find_k {l : Launch} {D : va_G} {τ : Nat → ClassId} {sa : List Nat} {A : Nat → Prop} (hmn : em_mna) : em_E l D τ sa A em_inf (nat_lit 55) ec_find := em_ofD hmn (eq_L63_k hmn) (tb := eu_55) (nl := (nat_lit 2)) (ret := none) rfl ec_find_e (fun own mn by' hT y hy => ex_links_ok (fun Ss S => ex_runS_ok hmn (eq_L63_k hmn) hT Ss S) (fun _ h => absurd h List.not_mem_nil) _ ec_find_l y (by rw [List.append_nil]; exact hy))
theorem ec_reset25_l0 : ex_links (ex_runS ei_L0 (nat_lit 1) eu_1 none (ex_K none ei_h0)) ec_reset25_A0 ec_reset25_Y0 = true := by decide +kernel
theorem ec_reset25_e : ex_locs ec_reset25.1 (nat_lit 2) (fun q => ex_runS ei_L0 (nat_lit 1) eu_1 none (ex_K none ei_h0) (ex_pick ec_reset25_Y [(nat_lit 0)]) (0, q, [], ei_h0, 0, 0)) = true := by decide +kernel
theorem ec_reset25_k {l : Launch} {D : va_G} {τ : Nat → ClassId} {sa : List Nat} {A : Nat → Prop} (hmn : em_mna) : em_E l D τ sa A em_inf (nat_lit 1) ec_reset25 := em_ofD hmn (ei_L0_k hmn) (tb := eu_1) (nl := (nat_lit 2)) (ret := none) rfl ec_reset25_e (fun own mn by' hT y hy => by
  have hr := fun (Ss : List ex_S) (S : ex_S) => ex_runS_ok (own := own) (mname := mn) (bytes := by') (nL := (nat_lit 2)) (dd := (nat_lit 1)) (ret := none) (K := (ex_K none ei_h0)) hmn (ei_L0_k (l := l) (D := D) (τ := τ) (sa := sa) (A := A) hmn) hT Ss S
  exact (ex_links_ok hr (fun _ h => absurd h List.not_mem_nil) _ ec_reset25_l0) y hy)
theorem ec_become6_25_l0 : ex_links (ex_runS ei_L0 (nat_lit 1) eu_2 none (ex_K none ei_h0)) ec_become6_25_A0 ec_become6_25_Y0 = true := by decide +kernel
theorem ec_become6_25_e : ex_locs ec_become6_25.1 (nat_lit 3) (fun q => ex_runS ei_L0 (nat_lit 1) eu_2 none (ex_K none ei_h0) (ex_pick ec_become6_25_Y [(nat_lit 0)]) (0, q, [], ei_h0, 0, 0)) = true := by decide +kernel
theorem ec_become6_25_k {l : Launch} {D : va_G} {τ : Nat → ClassId} {sa : List Nat} {A : Nat → Prop} (hmn : em_mna) : em_E l D τ sa A em_inf (nat_lit 2) ec_become6_25 := em_ofD hmn (ei_L0_k hmn) (tb := eu_2) (nl := (nat_lit 3)) (ret := none) rfl ec_become6_25_e (fun own mn by' hT y hy => by
  have hr := fun (Ss : List ex_S) (S : ex_S) => ex_runS_ok (own := own) (mname := mn) (bytes := by') (nL := (nat_lit 3)) (dd := (nat_lit 1)) (ret := none) (K := (ex_K none ei_h0)) hmn (ei_L0_k (l := l) (D := D) (τ := τ) (sa := sa) (A := A) hmn) hT Ss S
  exact (ex_links_ok hr (fun _ h => absurd h List.not_mem_nil) _ ec_become6_25_l0) y hy)
theorem ec_become301_6_l0 : ex_links (ex_runS ei_L0 (nat_lit 1) eu_2 none (ex_K none ei_h0)) ec_become301_6_A0 ec_become301_6_Y0 = true := by decide +kernel
theorem ec_become301_6_e : ex_locs ec_become301_6.1 (nat_lit 3) (fun q => ex_runS ei_L0 (nat_lit 1) eu_2 none (ex_K none ei_h0) (ex_pick ec_become301_6_Y [(nat_lit 0)]) (0, q, [], ei_h0, 0, 0)) = true := by decide +kernel
theorem ec_become301_6_k {l : Launch} {D : va_G} {τ : Nat → ClassId} {sa : List Nat} {A : Nat → Prop} (hmn : em_mna) : em_E l D τ sa A em_inf (nat_lit 2) ec_become301_6 := em_ofD hmn (ei_L0_k hmn) (tb := eu_2) (nl := (nat_lit 3)) (ret := none) rfl ec_become301_6_e (fun own mn by' hT y hy => by
  have hr := fun (Ss : List ex_S) (S : ex_S) => ex_runS_ok (own := own) (mname := mn) (bytes := by') (nL := (nat_lit 3)) (dd := (nat_lit 1)) (ret := none) (K := (ex_K none ei_h0)) hmn (ei_L0_k (l := l) (D := D) (τ := τ) (sa := sa) (A := A) hmn) hT Ss S
  exact (ex_links_ok hr (fun _ h => absurd h List.not_mem_nil) _ ec_become301_6_l0) y hy)
theorem ec_become320_6_l0 : ex_links (ex_runS ei_L0 (nat_lit 1) eu_2 none (ex_K none ei_h0)) ec_become320_6_A0 ec_become320_6_Y0 = true := by decide +kernel
theorem ec_become320_6_e : ex_locs ec_become320_6.1 (nat_lit 3) (fun q => ex_runS ei_L0 (nat_lit 1) eu_2 none (ex_K none ei_h0) (ex_pick ec_become320_6_Y [(nat_lit 0)]) (0, q, [], ei_h0, 0, 0)) = true := by decide +kernel
theorem ec_become320_6_k {l : Launch} {D : va_G} {τ : Nat → ClassId} {sa : List Nat} {A : Nat → Prop} (hmn : em_mna) : em_E l D τ sa A em_inf (nat_lit 2) ec_become320_6 := em_ofD hmn (ei_L0_k hmn) (tb := eu_2) (nl := (nat_lit 3)) (ret := none) rfl ec_become320_6_e (fun own mn by' hT y hy => by
  have hr := fun (Ss : List ex_S) (S : ex_S) => ex_runS_ok (own := own) (mname := mn) (bytes := by') (nL := (nat_lit 3)) (dd := (nat_lit 1)) (ret := none) (K := (ex_K none ei_h0)) hmn (ei_L0_k (l := l) (D := D) (τ := τ) (sa := sa) (A := A) hmn) hT Ss S
  exact (ex_links_ok hr (fun _ h => absurd h List.not_mem_nil) _ ec_become320_6_l0) y hy)
theorem ec_become6_301_l0 : ex_links (ex_runS ei_L0 (nat_lit 1) eu_2 none (ex_K none ei_h0)) ec_become6_301_A0 ec_become6_301_Y0 = true := by decide +kernel
theorem ec_become6_301_e : ex_locs ec_become6_301.1 (nat_lit 3) (fun q => ex_runS ei_L0 (nat_lit 1) eu_2 none (ex_K none ei_h0) (ex_pick ec_become6_301_Y [(nat_lit 0)]) (0, q, [], ei_h0, 0, 0)) = true := by decide +kernel
theorem ec_become6_301_k {l : Launch} {D : va_G} {τ : Nat → ClassId} {sa : List Nat} {A : Nat → Prop} (hmn : em_mna) : em_E l D τ sa A em_inf (nat_lit 2) ec_become6_301 := em_ofD hmn (ei_L0_k hmn) (tb := eu_2) (nl := (nat_lit 3)) (ret := none) rfl ec_become6_301_e (fun own mn by' hT y hy => by
  have hr := fun (Ss : List ex_S) (S : ex_S) => ex_runS_ok (own := own) (mname := mn) (bytes := by') (nL := (nat_lit 3)) (dd := (nat_lit 1)) (ret := none) (K := (ex_K none ei_h0)) hmn (ei_L0_k (l := l) (D := D) (τ := τ) (sa := sa) (A := A) hmn) hT Ss S
  exact (ex_links_ok hr (fun _ h => absurd h List.not_mem_nil) _ ec_become6_301_l0) y hy)
theorem ec_become6_320_l0 : ex_links (ex_runS ei_L0 (nat_lit 1) eu_2 none (ex_K none ei_h0)) ec_become6_320_A0 ec_become6_320_Y0 = true := by decide +kernel
theorem ec_become6_320_e : ex_locs ec_become6_320.1 (nat_lit 3) (fun q => ex_runS ei_L0 (nat_lit 1) eu_2 none (ex_K none ei_h0) (ex_pick ec_become6_320_Y [(nat_lit 0)]) (0, q, [], ei_h0, 0, 0)) = true := by decide +kernel
theorem ec_become6_320_k {l : Launch} {D : va_G} {τ : Nat → ClassId} {sa : List Nat} {A : Nat → Prop} (hmn : em_mna) : em_E l D τ sa A em_inf (nat_lit 2) ec_become6_320 := em_ofD hmn (ei_L0_k hmn) (tb := eu_2) (nl := (nat_lit 3)) (ret := none) rfl ec_become6_320_e (fun own mn by' hT y hy => by
  have hr := fun (Ss : List ex_S) (S : ex_S) => ex_runS_ok (own := own) (mname := mn) (bytes := by') (nL := (nat_lit 3)) (dd := (nat_lit 1)) (ret := none) (K := (ex_K none ei_h0)) hmn (ei_L0_k (l := l) (D := D) (τ := τ) (sa := sa) (A := A) hmn) hT Ss S
  exact (ex_links_ok hr (fun _ h => absurd h List.not_mem_nil) _ ec_become6_320_l0) y hy)
