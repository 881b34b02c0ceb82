/-! Night.judge, from INV to INV. Printed by wip/p3/rows3.py. -/
def ec_judge0 : ex_E := ([.inr (.inr (.inl (some (nat_lit 101)))), .inl (Int.ofNat (nat_lit 0))], ei_h0, none, ei_h0, (nat_lit 1))
def ec_judge0_Y0 : List ex_Y := [(((nat_lit 30), [some (.inr (.inr (.inl (some (nat_lit 101))))), some (.inl (Int.ofNat (nat_lit 0))), some (.inl (Int.ofNat (nat_lit 0))), none], [], ei_h0, (nat_lit 0), (nat_lit 0)), [(nat_lit 0)]),
  (((nat_lit 30), [some (.inr (.inr (.inl (some (nat_lit 101))))), some (.inl (Int.ofNat (nat_lit 0))), some (.inl (Int.ofNat (nat_lit 1))), none], [], ei_h0, (nat_lit 0), (nat_lit 0)), [(nat_lit 0)]),
  (((nat_lit 30), [some (.inr (.inr (.inl (some (nat_lit 101))))), some (.inl (Int.ofNat (nat_lit 0))), some (.inl (Int.ofNat (nat_lit 2))), none], [], ei_h0, (nat_lit 0), (nat_lit 0)), [(nat_lit 0)]),
  (((nat_lit 30), [some (.inr (.inr (.inl (some (nat_lit 101))))), some (.inl (Int.ofNat (nat_lit 0))), some (.inl (Int.ofNat (nat_lit 3))), none], [], ei_h0, (nat_lit 0), (nat_lit 0)), [(nat_lit 0)]),
  (((nat_lit 30), [some (.inr (.inr (.inl (some (nat_lit 101))))), some (.inl (Int.ofNat (nat_lit 0))), some (.inl (Int.ofNat (nat_lit 4))), none], [], ei_h0, (nat_lit 0), (nat_lit 0)), [(nat_lit 0)]),
  (((nat_lit 30), [some (.inr (.inr (.inl (some (nat_lit 101))))), some (.inl (Int.ofNat (nat_lit 0))), some (.inl (Int.ofNat (nat_lit 5))), none], [], ei_h0, (nat_lit 0), (nat_lit 0)), [(nat_lit 0)]),
  (((nat_lit 30), [some (.inr (.inr (.inl (some (nat_lit 101))))), some (.inl (Int.ofNat (nat_lit 0))), some (.inl (Int.ofNat (nat_lit 6))), none], [], ei_h0, (nat_lit 0), (nat_lit 0)), [(nat_lit 0)]),
  (((nat_lit 30), [some (.inr (.inr (.inl (some (nat_lit 101))))), some (.inl (Int.ofNat (nat_lit 0))), some (.inl (Int.ofNat (nat_lit 7))), none], [], ei_h0, (nat_lit 0), (nat_lit 0)), [(nat_lit 0)]),
  (((nat_lit 30), [some (.inr (.inr (.inl (some (nat_lit 101))))), some (.inl (Int.ofNat (nat_lit 0))), some (.inl (Int.ofNat (nat_lit 8))), none], [], ei_h0, (nat_lit 0), (nat_lit 0)), [])]
def ec_judge0_A0 : List ex_Y := []
def ec_judge0_Y : List ex_Y := ec_judge0_Y0 ++ ec_judge0_A0
def ec_judge1 : ex_E := ([.inr (.inr (.inl (some (nat_lit 101)))), .inl (Int.ofNat (nat_lit 1))], ei_h0, none, ei_h0, (nat_lit 1))
def ec_judge1_Y0 : List ex_Y := [(((nat_lit 30), [some (.inr (.inr (.inl (some (nat_lit 101))))), some (.inl (Int.ofNat (nat_lit 1))), some (.inl (Int.ofNat (nat_lit 0))), none], [], ei_h0, (nat_lit 0), (nat_lit 0)), [(nat_lit 0)]),
  (((nat_lit 30), [some (.inr (.inr (.inl (some (nat_lit 101))))), some (.inl (Int.ofNat (nat_lit 1))), some (.inl (Int.ofNat (nat_lit 1))), none], [], ei_h0, (nat_lit 0), (nat_lit 0)), [(nat_lit 0)]),
  (((nat_lit 30), [some (.inr (.inr (.inl (some (nat_lit 101))))), some (.inl (Int.ofNat (nat_lit 1))), some (.inl (Int.ofNat (nat_lit 2))), none], [], ei_h0, (nat_lit 0), (nat_lit 0)), [(nat_lit 0)]),
  (((nat_lit 30), [some (.inr (.inr (.inl (some (nat_lit 101))))), some (.inl (Int.ofNat (nat_lit 1))), some (.inl (Int.ofNat (nat_lit 3))), none], [], ei_h0, (nat_lit 0), (nat_lit 0)), [(nat_lit 0)]),
  (((nat_lit 30), [some (.inr (.inr (.inl (some (nat_lit 101))))), some (.inl (Int.ofNat (nat_lit 1))), some (.inl (Int.ofNat (nat_lit 4))), none], [], ei_h0, (nat_lit 0), (nat_lit 0)), [(nat_lit 0)]),
  (((nat_lit 30), [some (.inr (.inr (.inl (some (nat_lit 101))))), some (.inl (Int.ofNat (nat_lit 1))), some (.inl (Int.ofNat (nat_lit 5))), none], [], ei_h0, (nat_lit 0), (nat_lit 0)), [(nat_lit 0)]),
  (((nat_lit 30), [some (.inr (.inr (.inl (some (nat_lit 101))))), some (.inl (Int.ofNat (nat_lit 1))), some (.inl (Int.ofNat (nat_lit 6))), none], [], ei_h0, (nat_lit 0), (nat_lit 0)), [(nat_lit 0)]),
  (((nat_lit 30), [some (.inr (.inr (.inl (some (nat_lit 101))))), some (.inl (Int.ofNat (nat_lit 1))), some (.inl (Int.ofNat (nat_lit 7))), none], [], ei_h0, (nat_lit 0), (nat_lit 0)), [(nat_lit 0)]),
  (((nat_lit 30), [some (.inr (.inr (.inl (some (nat_lit 101))))), some (.inl (Int.ofNat (nat_lit 1))), some (.inl (Int.ofNat (nat_lit 8))), none], [], ei_h0, (nat_lit 0), (nat_lit 0)), [])]
def ec_judge1_A0 : List ex_Y := []
def ec_judge1_Y : List ex_Y := ec_judge1_Y0 ++ ec_judge1_A0
def ec_judge2 : ex_E := ([.inr (.inr (.inl (some (nat_lit 101)))), .inl (Int.ofNat (nat_lit 2))], ei_h0, none, ei_h0, (nat_lit 1))
def ec_judge2_Y0 : List ex_Y := [(((nat_lit 30), [some (.inr (.inr (.inl (some (nat_lit 101))))), some (.inl (Int.ofNat (nat_lit 2))), some (.inl (Int.ofNat (nat_lit 0))), none], [], ei_h0, (nat_lit 0), (nat_lit 0)), [(nat_lit 0)]),
  (((nat_lit 30), [some (.inr (.inr (.inl (some (nat_lit 101))))), some (.inl (Int.ofNat (nat_lit 2))), some (.inl (Int.ofNat (nat_lit 1))), none], [], ei_h0, (nat_lit 0), (nat_lit 0)), [(nat_lit 0)]),
  (((nat_lit 30), [some (.inr (.inr (.inl (some (nat_lit 101))))), some (.inl (Int.ofNat (nat_lit 2))), some (.inl (Int.ofNat (nat_lit 2))), none], [], ei_h0, (nat_lit 0), (nat_lit 0)), [(nat_lit 0)]),
  (((nat_lit 30), [some (.inr (.inr (.inl (some (nat_lit 101))))), some (.inl (Int.ofNat (nat_lit 2))), some (.inl (Int.ofNat (nat_lit 3))), none], [], ei_h0, (nat_lit 0), (nat_lit 0)), [(nat_lit 0)]),
  (((nat_lit 30), [some (.inr (.inr (.inl (some (nat_lit 101))))), some (.inl (Int.ofNat (nat_lit 2))), some (.inl (Int.ofNat (nat_lit 4))), none], [], ei_h0, (nat_lit 0), (nat_lit 0)), [(nat_lit 0)]),
  (((nat_lit 30), [some (.inr (.inr (.inl (some (nat_lit 101))))), some (.inl (Int.ofNat (nat_lit 2))), some (.inl (Int.ofNat (nat_lit 5))), none], [], ei_h0, (nat_lit 0), (nat_lit 0)), [(nat_lit 0)]),
  (((nat_lit 30), [some (.inr (.inr (.inl (some (nat_lit 101))))), some (.inl (Int.ofNat (nat_lit 2))), some (.inl (Int.ofNat (nat_lit 6))), none], [], ei_h0, (nat_lit 0), (nat_lit 0)), [(nat_lit 0)]),
  (((nat_lit 30), [some (.inr (.inr (.inl (some (nat_lit 101))))), some (.inl (Int.ofNat (nat_lit 2))), some (.inl (Int.ofNat (nat_lit 7))), none], [], ei_h0, (nat_lit 0), (nat_lit 0)), [(nat_lit 0)]),
  (((nat_lit 30), [some (.inr (.inr (.inl (some (nat_lit 101))))), some (.inl (Int.ofNat (nat_lit 2))), some (.inl (Int.ofNat (nat_lit 8))), none], [], ei_h0, (nat_lit 0), (nat_lit 0)), [])]
def ec_judge2_A0 : List ex_Y := []
def ec_judge2_Y : List ex_Y := ec_judge2_Y0 ++ ec_judge2_A0
def ec_judge3 : ex_E := ([.inr (.inr (.inl (some (nat_lit 101)))), .inl (Int.ofNat (nat_lit 3))], ei_h0, none, ei_h0, (nat_lit 1))
def ec_judge3_Y0 : List ex_Y := [(((nat_lit 30), [some (.inr (.inr (.inl (some (nat_lit 101))))), some (.inl (Int.ofNat (nat_lit 3))), some (.inl (Int.ofNat (nat_lit 0))), none], [], ei_h0, (nat_lit 0), (nat_lit 0)), [(nat_lit 0)]),
  (((nat_lit 30), [some (.inr (.inr (.inl (some (nat_lit 101))))), some (.inl (Int.ofNat (nat_lit 3))), some (.inl (Int.ofNat (nat_lit 1))), none], [], ei_h0, (nat_lit 0), (nat_lit 0)), [(nat_lit 0)]),
  (((nat_lit 30), [some (.inr (.inr (.inl (some (nat_lit 101))))), some (.inl (Int.ofNat (nat_lit 3))), some (.inl (Int.ofNat (nat_lit 2))), none], [], ei_h0, (nat_lit 0), (nat_lit 0)), [(nat_lit 0)]),
  (((nat_lit 30), [some (.inr (.inr (.inl (some (nat_lit 101))))), some (.inl (Int.ofNat (nat_lit 3))), some (.inl (Int.ofNat (nat_lit 3))), none], [], ei_h0, (nat_lit 0), (nat_lit 0)), [(nat_lit 0)]),
  (((nat_lit 30), [some (.inr (.inr (.inl (some (nat_lit 101))))), some (.inl (Int.ofNat (nat_lit 3))), some (.inl (Int.ofNat (nat_lit 4))), none], [], ei_h0, (nat_lit 0), (nat_lit 0)), [(nat_lit 0)]),
  (((nat_lit 30), [some (.inr (.inr (.inl (some (nat_lit 101))))), some (.inl (Int.ofNat (nat_lit 3))), some (.inl (Int.ofNat (nat_lit 5))), none], [], ei_h0, (nat_lit 0), (nat_lit 0)), [(nat_lit 0)]),
  (((nat_lit 30), [some (.inr (.inr (.inl (some (nat_lit 101))))), some (.inl (Int.ofNat (nat_lit 3))), some (.inl (Int.ofNat (nat_lit 6))), none], [], ei_h0, (nat_lit 0), (nat_lit 0)), [(nat_lit 0)]),
  (((nat_lit 30), [some (.inr (.inr (.inl (some (nat_lit 101))))), some (.inl (Int.ofNat (nat_lit 3))), some (.inl (Int.ofNat (nat_lit 7))), none], [], ei_h0, (nat_lit 0), (nat_lit 0)), [(nat_lit 0)]),
  (((nat_lit 30), [some (.inr (.inr (.inl (some (nat_lit 101))))), some (.inl (Int.ofNat (nat_lit 3))), some (.inl (Int.ofNat (nat_lit 8))), none], [], ei_h0, (nat_lit 0), (nat_lit 0)), [])]
def ec_judge3_A0 : List ex_Y := []
def ec_judge3_Y : List ex_Y := ec_judge3_Y0 ++ ec_judge3_A0
def ec_judge4 : ex_E := ([.inr (.inr (.inl (some (nat_lit 101)))), .inl (Int.ofNat (nat_lit 4))], ei_h0, none, ei_h0, (nat_lit 1))
def ec_judge4_Y0 : List ex_Y := [(((nat_lit 30), [some (.inr (.inr (.inl (some (nat_lit 101))))), some (.inl (Int.ofNat (nat_lit 4))), some (.inl (Int.ofNat (nat_lit 0))), none], [], ei_h0, (nat_lit 0), (nat_lit 0)), [(nat_lit 0)]),
  (((nat_lit 30), [some (.inr (.inr (.inl (some (nat_lit 101))))), some (.inl (Int.ofNat (nat_lit 4))), some (.inl (Int.ofNat (nat_lit 1))), none], [], ei_h0, (nat_lit 0), (nat_lit 0)), [(nat_lit 0)]),
  (((nat_lit 30), [some (.inr (.inr (.inl (some (nat_lit 101))))), some (.inl (Int.ofNat (nat_lit 4))), some (.inl (Int.ofNat (nat_lit 2))), none], [], ei_h0, (nat_lit 0), (nat_lit 0)), [(nat_lit 0)]),
  (((nat_lit 30), [some (.inr (.inr (.inl (some (nat_lit 101))))), some (.inl (Int.ofNat (nat_lit 4))), some (.inl (Int.ofNat (nat_lit 3))), none], [], ei_h0, (nat_lit 0), (nat_lit 0)), [(nat_lit 0)]),
  (((nat_lit 30), [some (.inr (.inr (.inl (some (nat_lit 101))))), some (.inl (Int.ofNat (nat_lit 4))), some (.inl (Int.ofNat (nat_lit 4))), none], [], ei_h0, (nat_lit 0), (nat_lit 0)), [(nat_lit 0)]),
  (((nat_lit 30), [some (.inr (.inr (.inl (some (nat_lit 101))))), some (.inl (Int.ofNat (nat_lit 4))), some (.inl (Int.ofNat (nat_lit 5))), none], [], ei_h0, (nat_lit 0), (nat_lit 0)), [(nat_lit 0)]),
  (((nat_lit 30), [some (.inr (.inr (.inl (some (nat_lit 101))))), some (.inl (Int.ofNat (nat_lit 4))), some (.inl (Int.ofNat (nat_lit 6))), none], [], ei_h0, (nat_lit 0), (nat_lit 0)), [(nat_lit 0)]),
  (((nat_lit 30), [some (.inr (.inr (.inl (some (nat_lit 101))))), some (.inl (Int.ofNat (nat_lit 4))), some (.inl (Int.ofNat (nat_lit 7))), none], [], ei_h0, (nat_lit 0), (nat_lit 0)), [(nat_lit 0)]),
  (((nat_lit 30), [some (.inr (.inr (.inl (some (nat_lit 101))))), some (.inl (Int.ofNat (nat_lit 4))), some (.inl (Int.ofNat (nat_lit 8))), none], [], ei_h0, (nat_lit 0), (nat_lit 0)), [])]
def ec_judge4_A0 : List ex_Y := []
def ec_judge4_Y : List ex_Y := ec_judge4_Y0 ++ ec_judge4_A0
def ec_judge5 : ex_E := ([.inr (.inr (.inl (some (nat_lit 101)))), .inl (Int.ofNat (nat_lit 5))], ei_h0, none, ei_h0, (nat_lit 1))
def ec_judge5_Y0 : List ex_Y := [(((nat_lit 30), [some (.inr (.inr (.inl (some (nat_lit 101))))), some (.inl (Int.ofNat (nat_lit 5))), some (.inl (Int.ofNat (nat_lit 0))), none], [], ei_h0, (nat_lit 0), (nat_lit 0)), [(nat_lit 0)]),
  (((nat_lit 30), [some (.inr (.inr (.inl (some (nat_lit 101))))), some (.inl (Int.ofNat (nat_lit 5))), some (.inl (Int.ofNat (nat_lit 1))), none], [], ei_h0, (nat_lit 0), (nat_lit 0)), [(nat_lit 0)]),
  (((nat_lit 30), [some (.inr (.inr (.inl (some (nat_lit 101))))), some (.inl (Int.ofNat (nat_lit 5))), some (.inl (Int.ofNat (nat_lit 2))), none], [], ei_h0, (nat_lit 0), (nat_lit 0)), [(nat_lit 0)]),
  (((nat_lit 30), [some (.inr (.inr (.inl (some (nat_lit 101))))), some (.inl (Int.ofNat (nat_lit 5))), some (.inl (Int.ofNat (nat_lit 3))), none], [], ei_h0, (nat_lit 0), (nat_lit 0)), [(nat_lit 0)]),
  (((nat_lit 30), [some (.inr (.inr (.inl (some (nat_lit 101))))), some (.inl (Int.ofNat (nat_lit 5))), some (.inl (Int.ofNat (nat_lit 4))), none], [], ei_h0, (nat_lit 0), (nat_lit 0)), [(nat_lit 0)]),
  (((nat_lit 30), [some (.inr (.inr (.inl (some (nat_lit 101))))), some (.inl (Int.ofNat (nat_lit 5))), some (.inl (Int.ofNat (nat_lit 5))), none], [], ei_h0, (nat_lit 0), (nat_lit 0)), [(nat_lit 0)]),
  (((nat_lit 30), [some (.inr (.inr (.inl (some (nat_lit 101))))), some (.inl (Int.ofNat (nat_lit 5))), some (.inl (Int.ofNat (nat_lit 6))), none], [], ei_h0, (nat_lit 0), (nat_lit 0)), [(nat_lit 0)]),
  (((nat_lit 30), [some (.inr (.inr (.inl (some (nat_lit 101))))), some (.inl (Int.ofNat (nat_lit 5))), some (.inl (Int.ofNat (nat_lit 7))), none], [], ei_h0, (nat_lit 0), (nat_lit 0)), [(nat_lit 0)]),
  (((nat_lit 30), [some (.inr (.inr (.inl (some (nat_lit 101))))), some (.inl (Int.ofNat (nat_lit 5))), some (.inl (Int.ofNat (nat_lit 8))), none], [], ei_h0, (nat_lit 0), (nat_lit 0)), [])]
def ec_judge5_A0 : List ex_Y := []
def ec_judge5_Y : List ex_Y := ec_judge5_Y0 ++ ec_judge5_A0
def ec_judge6 : ex_E := ([.inr (.inr (.inl (some (nat_lit 101)))), .inl (Int.ofNat (nat_lit 6))], ei_h0, none, ei_h0, (nat_lit 1))
def ec_judge6_Y0 : List ex_Y := [(((nat_lit 30), [some (.inr (.inr (.inl (some (nat_lit 101))))), some (.inl (Int.ofNat (nat_lit 6))), some (.inl (Int.ofNat (nat_lit 0))), none], [], ei_h0, (nat_lit 0), (nat_lit 0)), [(nat_lit 0)]),
  (((nat_lit 30), [some (.inr (.inr (.inl (some (nat_lit 101))))), some (.inl (Int.ofNat (nat_lit 6))), some (.inl (Int.ofNat (nat_lit 1))), none], [], ei_h0, (nat_lit 0), (nat_lit 0)), [(nat_lit 0)]),
  (((nat_lit 30), [some (.inr (.inr (.inl (some (nat_lit 101))))), some (.inl (Int.ofNat (nat_lit 6))), some (.inl (Int.ofNat (nat_lit 2))), none], [], ei_h0, (nat_lit 0), (nat_lit 0)), [(nat_lit 0)]),
  (((nat_lit 30), [some (.inr (.inr (.inl (some (nat_lit 101))))), some (.inl (Int.ofNat (nat_lit 6))), some (.inl (Int.ofNat (nat_lit 3))), none], [], ei_h0, (nat_lit 0), (nat_lit 0)), [(nat_lit 0)]),
  (((nat_lit 30), [some (.inr (.inr (.inl (some (nat_lit 101))))), some (.inl (Int.ofNat (nat_lit 6))), some (.inl (Int.ofNat (nat_lit 4))), none], [], ei_h0, (nat_lit 0), (nat_lit 0)), [(nat_lit 0)]),
  (((nat_lit 30), [some (.inr (.inr (.inl (some (nat_lit 101))))), some (.inl (Int.ofNat (nat_lit 6))), some (.inl (Int.ofNat (nat_lit 5))), none], [], ei_h0, (nat_lit 0), (nat_lit 0)), [(nat_lit 0)]),
  (((nat_lit 30), [some (.inr (.inr (.inl (some (nat_lit 101))))), some (.inl (Int.ofNat (nat_lit 6))), some (.inl (Int.ofNat (nat_lit 6))), none], [], ei_h0, (nat_lit 0), (nat_lit 0)), [(nat_lit 0)]),
  (((nat_lit 30), [some (.inr (.inr (.inl (some (nat_lit 101))))), some (.inl (Int.ofNat (nat_lit 6))), some (.inl (Int.ofNat (nat_lit 7))), none], [], ei_h0, (nat_lit 0), (nat_lit 0)), [(nat_lit 0)]),
  (((nat_lit 30), [some (.inr (.inr (.inl (some (nat_lit 101))))), some (.inl (Int.ofNat (nat_lit 6))), some (.inl (Int.ofNat (nat_lit 8))), none], [], ei_h0, (nat_lit 0), (nat_lit 0)), [])]
def ec_judge6_A0 : List ex_Y := []
def ec_judge6_Y : List ex_Y := ec_judge6_Y0 ++ ec_judge6_A0
def ec_judge7 : ex_E := ([.inr (.inr (.inl (some (nat_lit 101)))), .inl (Int.ofNat (nat_lit 7))], ei_h0, none, ei_h0, (nat_lit 1))
def ec_judge7_Y0 : List ex_Y := [(((nat_lit 30), [some (.inr (.inr (.inl (some (nat_lit 101))))), some (.inl (Int.ofNat (nat_lit 7))), some (.inl (Int.ofNat (nat_lit 0))), none], [], ei_h0, (nat_lit 0), (nat_lit 0)), [(nat_lit 0)]),
  (((nat_lit 30), [some (.inr (.inr (.inl (some (nat_lit 101))))), some (.inl (Int.ofNat (nat_lit 7))), some (.inl (Int.ofNat (nat_lit 1))), none], [], ei_h0, (nat_lit 0), (nat_lit 0)), [(nat_lit 0)]),
  (((nat_lit 30), [some (.inr (.inr (.inl (some (nat_lit 101))))), some (.inl (Int.ofNat (nat_lit 7))), some (.inl (Int.ofNat (nat_lit 2))), none], [], ei_h0, (nat_lit 0), (nat_lit 0)), [(nat_lit 0)]),
  (((nat_lit 30), [some (.inr (.inr (.inl (some (nat_lit 101))))), some (.inl (Int.ofNat (nat_lit 7))), some (.inl (Int.ofNat (nat_lit 3))), none], [], ei_h0, (nat_lit 0), (nat_lit 0)), [(nat_lit 0)]),
  (((nat_lit 30), [some (.inr (.inr (.inl (some (nat_lit 101))))), some (.inl (Int.ofNat (nat_lit 7))), some (.inl (Int.ofNat (nat_lit 4))), none], [], ei_h0, (nat_lit 0), (nat_lit 0)), [(nat_lit 0)]),
  (((nat_lit 30), [some (.inr (.inr (.inl (some (nat_lit 101))))), some (.inl (Int.ofNat (nat_lit 7))), some (.inl (Int.ofNat (nat_lit 5))), none], [], ei_h0, (nat_lit 0), (nat_lit 0)), [(nat_lit 0)]),
  (((nat_lit 30), [some (.inr (.inr (.inl (some (nat_lit 101))))), some (.inl (Int.ofNat (nat_lit 7))), some (.inl (Int.ofNat (nat_lit 6))), none], [], ei_h0, (nat_lit 0), (nat_lit 0)), [(nat_lit 0)]),
  (((nat_lit 30), [some (.inr (.inr (.inl (some (nat_lit 101))))), some (.inl (Int.ofNat (nat_lit 7))), some (.inl (Int.ofNat (nat_lit 7))), none], [], ei_h0, (nat_lit 0), (nat_lit 0)), [(nat_lit 0)]),
  (((nat_lit 30), [some (.inr (.inr (.inl (some (nat_lit 101))))), some (.inl (Int.ofNat (nat_lit 7))), some (.inl (Int.ofNat (nat_lit 8))), none], [], ei_h0, (nat_lit 0), (nat_lit 0)), [])]
def ec_judge7_A0 : List ex_Y := []
def ec_judge7_Y : List ex_Y := ec_judge7_Y0 ++ ec_judge7_A0
def ec_judge8 : ex_E := ([.inr (.inr (.inl (some (nat_lit 101)))), .inl (Int.ofNat (nat_lit 8))], ei_h0, none, ei_h0, (nat_lit 1))
def ec_judge8_Y0 : List ex_Y := [(((nat_lit 30), [some (.inr (.inr (.inl (some (nat_lit 101))))), some (.inl (Int.ofNat (nat_lit 8))), some (.inl (Int.ofNat (nat_lit 0))), none], [], ei_h0, (nat_lit 0), (nat_lit 0)), [(nat_lit 0)]),
  (((nat_lit 30), [some (.inr (.inr (.inl (some (nat_lit 101))))), some (.inl (Int.ofNat (nat_lit 8))), some (.inl (Int.ofNat (nat_lit 1))), none], [], ei_h0, (nat_lit 0), (nat_lit 0)), [(nat_lit 0)]),
  (((nat_lit 30), [some (.inr (.inr (.inl (some (nat_lit 101))))), some (.inl (Int.ofNat (nat_lit 8))), some (.inl (Int.ofNat (nat_lit 2))), none], [], ei_h0, (nat_lit 0), (nat_lit 0)), [(nat_lit 0)]),
  (((nat_lit 30), [some (.inr (.inr (.inl (some (nat_lit 101))))), some (.inl (Int.ofNat (nat_lit 8))), some (.inl (Int.ofNat (nat_lit 3))), none], [], ei_h0, (nat_lit 0), (nat_lit 0)), [(nat_lit 0)]),
  (((nat_lit 30), [some (.inr (.inr (.inl (some (nat_lit 101))))), some (.inl (Int.ofNat (nat_lit 8))), some (.inl (Int.ofNat (nat_lit 4))), none], [], ei_h0, (nat_lit 0), (nat_lit 0)), [(nat_lit 0)]),
  (((nat_lit 30), [some (.inr (.inr (.inl (some (nat_lit 101))))), some (.inl (Int.ofNat (nat_lit 8))), some (.inl (Int.ofNat (nat_lit 5))), none], [], ei_h0, (nat_lit 0), (nat_lit 0)), [(nat_lit 0)]),
  (((nat_lit 30), [some (.inr (.inr (.inl (some (nat_lit 101))))), some (.inl (Int.ofNat (nat_lit 8))), some (.inl (Int.ofNat (nat_lit 6))), none], [], ei_h0, (nat_lit 0), (nat_lit 0)), [(nat_lit 0)]),
  (((nat_lit 30), [some (.inr (.inr (.inl (some (nat_lit 101))))), some (.inl (Int.ofNat (nat_lit 8))), some (.inl (Int.ofNat (nat_lit 7))), none], [], ei_h0, (nat_lit 0), (nat_lit 0)), [(nat_lit 0)]),
  (((nat_lit 30), [some (.inr (.inr (.inl (some (nat_lit 101))))), some (.inl (Int.ofNat (nat_lit 8))), some (.inl (Int.ofNat (nat_lit 8))), none], [], ei_h0, (nat_lit 0), (nat_lit 0)), [])]
def ec_judge8_A0 : List ex_Y := []
def ec_judge8_Y : List ex_Y := ec_judge8_Y0 ++ ec_judge8_A0
def ec_judge9 : ex_E := ([.inr (.inr (.inl (some (nat_lit 101)))), .inl (Int.ofNat (nat_lit 9))], ei_h0, none, ei_h0, (nat_lit 1))
def ec_judge9_Y0 : List ex_Y := [(((nat_lit 30), [some (.inr (.inr (.inl (some (nat_lit 101))))), some (.inl (Int.ofNat (nat_lit 9))), some (.inl (Int.ofNat (nat_lit 0))), none], [], ei_h0, (nat_lit 0), (nat_lit 0)), [(nat_lit 0)]),
  (((nat_lit 30), [some (.inr (.inr (.inl (some (nat_lit 101))))), some (.inl (Int.ofNat (nat_lit 9))), some (.inl (Int.ofNat (nat_lit 1))), none], [], ei_h0, (nat_lit 0), (nat_lit 0)), [(nat_lit 0)]),
  (((nat_lit 30), [some (.inr (.inr (.inl (some (nat_lit 101))))), some (.inl (Int.ofNat (nat_lit 9))), some (.inl (Int.ofNat (nat_lit 2))), none], [], ei_h0, (nat_lit 0), (nat_lit 0)), [(nat_lit 0)]),
  (((nat_lit 30), [some (.inr (.inr (.inl (some (nat_lit 101))))), some (.inl (Int.ofNat (nat_lit 9))), some (.inl (Int.ofNat (nat_lit 3))), none], [], ei_h0, (nat_lit 0), (nat_lit 0)), [(nat_lit 0)]),
  (((nat_lit 30), [some (.inr (.inr (.inl (some (nat_lit 101))))), some (.inl (Int.ofNat (nat_lit 9))), some (.inl (Int.ofNat (nat_lit 4))), none], [], ei_h0, (nat_lit 0), (nat_lit 0)), [(nat_lit 0)]),
  (((nat_lit 30), [some (.inr (.inr (.inl (some (nat_lit 101))))), some (.inl (Int.ofNat (nat_lit 9))), some (.inl (Int.ofNat (nat_lit 5))), none], [], ei_h0, (nat_lit 0), (nat_lit 0)), [(nat_lit 0)]),
  (((nat_lit 30), [some (.inr (.inr (.inl (some (nat_lit 101))))), some (.inl (Int.ofNat (nat_lit 9))), some (.inl (Int.ofNat (nat_lit 6))), none], [], ei_h0, (nat_lit 0), (nat_lit 0)), [(nat_lit 0)]),
  (((nat_lit 30), [some (.inr (.inr (.inl (some (nat_lit 101))))), some (.inl (Int.ofNat (nat_lit 9))), some (.inl (Int.ofNat (nat_lit 7))), none], [], ei_h0, (nat_lit 0), (nat_lit 0)), [(nat_lit 0)]),
  (((nat_lit 30), [some (.inr (.inr (.inl (some (nat_lit 101))))), some (.inl (Int.ofNat (nat_lit 9))), some (.inl (Int.ofNat (nat_lit 8))), none], [], ei_h0, (nat_lit 0), (nat_lit 0)), [])]
def ec_judge9_A0 : List ex_Y := []
def ec_judge9_Y : List ex_Y := ec_judge9_Y0 ++ ec_judge9_A0
def ec_judge10 : ex_E := ([.inr (.inr (.inl (some (nat_lit 101)))), .inl (Int.ofNat (nat_lit 10))], ei_h0, none, ei_h0, (nat_lit 1))
def ec_judge10_Y0 : List ex_Y := [(((nat_lit 30), [some (.inr (.inr (.inl (some (nat_lit 101))))), some (.inl (Int.ofNat (nat_lit 10))), some (.inl (Int.ofNat (nat_lit 0))), none], [], ei_h0, (nat_lit 0), (nat_lit 0)), [(nat_lit 0)]),
  (((nat_lit 30), [some (.inr (.inr (.inl (some (nat_lit 101))))), some (.inl (Int.ofNat (nat_lit 10))), some (.inl (Int.ofNat (nat_lit 1))), none], [], ei_h0, (nat_lit 0), (nat_lit 0)), [(nat_lit 0)]),
  (((nat_lit 30), [some (.inr (.inr (.inl (some (nat_lit 101))))), some (.inl (Int.ofNat (nat_lit 10))), some (.inl (Int.ofNat (nat_lit 2))), none], [], ei_h0, (nat_lit 0), (nat_lit 0)), [(nat_lit 0)]),
  (((nat_lit 30), [some (.inr (.inr (.inl (some (nat_lit 101))))), some (.inl (Int.ofNat (nat_lit 10))), some (.inl (Int.ofNat (nat_lit 3))), none], [], ei_h0, (nat_lit 0), (nat_lit 0)), [(nat_lit 0)]),
  (((nat_lit 30), [some (.inr (.inr (.inl (some (nat_lit 101))))), some (.inl (Int.ofNat (nat_lit 10))), some (.inl (Int.ofNat (nat_lit 4))), none], [], ei_h0, (nat_lit 0), (nat_lit 0)), [(nat_lit 0)]),
  (((nat_lit 30), [some (.inr (.inr (.inl (some (nat_lit 101))))), some (.inl (Int.ofNat (nat_lit 10))), some (.inl (Int.ofNat (nat_lit 5))), none], [], ei_h0, (nat_lit 0), (nat_lit 0)), [(nat_lit 0)]),
  (((nat_lit 30), [some (.inr (.inr (.inl (some (nat_lit 101))))), some (.inl (Int.ofNat (nat_lit 10))), some (.inl (Int.ofNat (nat_lit 6))), none], [], ei_h0, (nat_lit 0), (nat_lit 0)), [(nat_lit 0)]),
  (((nat_lit 30), [some (.inr (.inr (.inl (some (nat_lit 101))))), some (.inl (Int.ofNat (nat_lit 10))), some (.inl (Int.ofNat (nat_lit 7))), none], [], ei_h0, (nat_lit 0), (nat_lit 0)), [(nat_lit 0)]),
  (((nat_lit 30), [some (.inr (.inr (.inl (some (nat_lit 101))))), some (.inl (Int.ofNat (nat_lit 10))), some (.inl (Int.ofNat (nat_lit 8))), none], [], ei_h0, (nat_lit 0), (nat_lit 0)), [])]
def ec_judge10_A0 : List ex_Y := []
def ec_judge10_Y : List ex_Y := ec_judge10_Y0 ++ ec_judge10_A0
def ec_judge11 : ex_E := ([.inr (.inr (.inl (some (nat_lit 101)))), .inl (Int.ofNat (nat_lit 11))], ei_h0, none, ei_h0, (nat_lit 1))
def ec_judge11_Y0 : List ex_Y := [(((nat_lit 30), [some (.inr (.inr (.inl (some (nat_lit 101))))), some (.inl (Int.ofNat (nat_lit 11))), some (.inl (Int.ofNat (nat_lit 0))), none], [], ei_h0, (nat_lit 0), (nat_lit 0)), [(nat_lit 0)]),
  (((nat_lit 30), [some (.inr (.inr (.inl (some (nat_lit 101))))), some (.inl (Int.ofNat (nat_lit 11))), some (.inl (Int.ofNat (nat_lit 1))), none], [], ei_h0, (nat_lit 0), (nat_lit 0)), [(nat_lit 0)]),
  (((nat_lit 30), [some (.inr (.inr (.inl (some (nat_lit 101))))), some (.inl (Int.ofNat (nat_lit 11))), some (.inl (Int.ofNat (nat_lit 2))), none], [], ei_h0, (nat_lit 0), (nat_lit 0)), [(nat_lit 0)]),
  (((nat_lit 30), [some (.inr (.inr (.inl (some (nat_lit 101))))), some (.inl (Int.ofNat (nat_lit 11))), some (.inl (Int.ofNat (nat_lit 3))), none], [], ei_h0, (nat_lit 0), (nat_lit 0)), [(nat_lit 0)]),
  (((nat_lit 30), [some (.inr (.inr (.inl (some (nat_lit 101))))), some (.inl (Int.ofNat (nat_lit 11))), some (.inl (Int.ofNat (nat_lit 4))), none], [], ei_h0, (nat_lit 0), (nat_lit 0)), [(nat_lit 0)]),
  (((nat_lit 30), [some (.inr (.inr (.inl (some (nat_lit 101))))), some (.inl (Int.ofNat (nat_lit 11))), some (.inl (Int.ofNat (nat_lit 5))), none], [], ei_h0, (nat_lit 0), (nat_lit 0)), [(nat_lit 0)]),
  (((nat_lit 30), [some (.inr (.inr (.inl (some (nat_lit 101))))), some (.inl (Int.ofNat (nat_lit 11))), some (.inl (Int.ofNat (nat_lit 6))), none], [], ei_h0, (nat_lit 0), (nat_lit 0)), [(nat_lit 0)]),
  (((nat_lit 30), [some (.inr (.inr (.inl (some (nat_lit 101))))), some (.inl (Int.ofNat (nat_lit 11))), some (.inl (Int.ofNat (nat_lit 7))), none], [], ei_h0, (nat_lit 0), (nat_lit 0)), [(nat_lit 0)]),
  (((nat_lit 30), [some (.inr (.inr (.inl (some (nat_lit 101))))), some (.inl (Int.ofNat (nat_lit 11))), some (.inl (Int.ofNat (nat_lit 8))), none], [], ei_h0, (nat_lit 0), (nat_lit 0)), [])]
def ec_judge11_A0 : List ex_Y := []
def ec_judge11_Y : List ex_Y := ec_judge11_Y0 ++ ec_judge11_A0
def ec_judge12 : ex_E := ([.inr (.inr (.inl (some (nat_lit 101)))), .inl (Int.ofNat (nat_lit 12))], ei_h0, none, ei_h0, (nat_lit 1))
def ec_judge12_Y0 : List ex_Y := [(((nat_lit 30), [some (.inr (.inr (.inl (some (nat_lit 101))))), some (.inl (Int.ofNat (nat_lit 12))), some (.inl (Int.ofNat (nat_lit 0))), none], [], ei_h0, (nat_lit 0), (nat_lit 0)), [(nat_lit 0)]),
  (((nat_lit 30), [some (.inr (.inr (.inl (some (nat_lit 101))))), some (.inl (Int.ofNat (nat_lit 12))), some (.inl (Int.ofNat (nat_lit 1))), none], [], ei_h0, (nat_lit 0), (nat_lit 0)), [(nat_lit 0)]),
  (((nat_lit 30), [some (.inr (.inr (.inl (some (nat_lit 101))))), some (.inl (Int.ofNat (nat_lit 12))), some (.inl (Int.ofNat (nat_lit 2))), none], [], ei_h0, (nat_lit 0), (nat_lit 0)), [(nat_lit 0)]),
  (((nat_lit 30), [some (.inr (.inr (.inl (some (nat_lit 101))))), some (.inl (Int.ofNat (nat_lit 12))), some (.inl (Int.ofNat (nat_lit 3))), none], [], ei_h0, (nat_lit 0), (nat_lit 0)), [(nat_lit 0)]),
  (((nat_lit 30), [some (.inr (.inr (.inl (some (nat_lit 101))))), some (.inl (Int.ofNat (nat_lit 12))), some (.inl (Int.ofNat (nat_lit 4))), none], [], ei_h0, (nat_lit 0), (nat_lit 0)), [(nat_lit 0)]),
  (((nat_lit 30), [some (.inr (.inr (.inl (some (nat_lit 101))))), some (.inl (Int.ofNat (nat_lit 12))), some (.inl (Int.ofNat (nat_lit 5))), none], [], ei_h0, (nat_lit 0), (nat_lit 0)), [(nat_lit 0)]),
  (((nat_lit 30), [some (.inr (.inr (.inl (some (nat_lit 101))))), some (.inl (Int.ofNat (nat_lit 12))), some (.inl (Int.ofNat (nat_lit 6))), none], [], ei_h0, (nat_lit 0), (nat_lit 0)), [(nat_lit 0)]),
  (((nat_lit 30), [some (.inr (.inr (.inl (some (nat_lit 101))))), some (.inl (Int.ofNat (nat_lit 12))), some (.inl (Int.ofNat (nat_lit 7))), none], [], ei_h0, (nat_lit 0), (nat_lit 0)), [(nat_lit 0)]),
  (((nat_lit 30), [some (.inr (.inr (.inl (some (nat_lit 101))))), some (.inl (Int.ofNat (nat_lit 12))), some (.inl (Int.ofNat (nat_lit 8))), none], [], ei_h0, (nat_lit 0), (nat_lit 0)), [])]
def ec_judge12_A0 : List ex_Y := []
def ec_judge12_Y : List ex_Y := ec_judge12_Y0 ++ ec_judge12_A0
def ec_judge13 : ex_E := ([.inr (.inr (.inl (some (nat_lit 101)))), .inl (Int.ofNat (nat_lit 13))], ei_h0, none, ei_h0, (nat_lit 1))
def ec_judge13_Y0 : List ex_Y := [(((nat_lit 30), [some (.inr (.inr (.inl (some (nat_lit 101))))), some (.inl (Int.ofNat (nat_lit 13))), some (.inl (Int.ofNat (nat_lit 0))), none], [], ei_h0, (nat_lit 0), (nat_lit 0)), [(nat_lit 0)]),
  (((nat_lit 30), [some (.inr (.inr (.inl (some (nat_lit 101))))), some (.inl (Int.ofNat (nat_lit 13))), some (.inl (Int.ofNat (nat_lit 1))), none], [], ei_h0, (nat_lit 0), (nat_lit 0)), [(nat_lit 0)]),
  (((nat_lit 30), [some (.inr (.inr (.inl (some (nat_lit 101))))), some (.inl (Int.ofNat (nat_lit 13))), some (.inl (Int.ofNat (nat_lit 2))), none], [], ei_h0, (nat_lit 0), (nat_lit 0)), [(nat_lit 0)]),
  (((nat_lit 30), [some (.inr (.inr (.inl (some (nat_lit 101))))), some (.inl (Int.ofNat (nat_lit 13))), some (.inl (Int.ofNat (nat_lit 3))), none], [], ei_h0, (nat_lit 0), (nat_lit 0)), [(nat_lit 0)]),
  (((nat_lit 30), [some (.inr (.inr (.inl (some (nat_lit 101))))), some (.inl (Int.ofNat (nat_lit 13))), some (.inl (Int.ofNat (nat_lit 4))), none], [], ei_h0, (nat_lit 0), (nat_lit 0)), [(nat_lit 0)]),
  (((nat_lit 30), [some (.inr (.inr (.inl (some (nat_lit 101))))), some (.inl (Int.ofNat (nat_lit 13))), some (.inl (Int.ofNat (nat_lit 5))), none], [], ei_h0, (nat_lit 0), (nat_lit 0)), [(nat_lit 0)]),
  (((nat_lit 30), [some (.inr (.inr (.inl (some (nat_lit 101))))), some (.inl (Int.ofNat (nat_lit 13))), some (.inl (Int.ofNat (nat_lit 6))), none], [], ei_h0, (nat_lit 0), (nat_lit 0)), [(nat_lit 0)]),
  (((nat_lit 30), [some (.inr (.inr (.inl (some (nat_lit 101))))), some (.inl (Int.ofNat (nat_lit 13))), some (.inl (Int.ofNat (nat_lit 7))), none], [], ei_h0, (nat_lit 0), (nat_lit 0)), [(nat_lit 0)]),
  (((nat_lit 30), [some (.inr (.inr (.inl (some (nat_lit 101))))), some (.inl (Int.ofNat (nat_lit 13))), some (.inl (Int.ofNat (nat_lit 8))), none], [], ei_h0, (nat_lit 0), (nat_lit 0)), [])]
def ec_judge13_A0 : List ex_Y := []
def ec_judge13_Y : List ex_Y := ec_judge13_Y0 ++ ec_judge13_A0
def ec_judge14 : ex_E := ([.inr (.inr (.inl (some (nat_lit 101)))), .inl (Int.ofNat (nat_lit 14))], ei_h0, none, ei_h0, (nat_lit 1))
def ec_judge14_Y0 : List ex_Y := [(((nat_lit 30), [some (.inr (.inr (.inl (some (nat_lit 101))))), some (.inl (Int.ofNat (nat_lit 14))), some (.inl (Int.ofNat (nat_lit 0))), none], [], ei_h0, (nat_lit 0), (nat_lit 0)), [(nat_lit 0)]),
  (((nat_lit 30), [some (.inr (.inr (.inl (some (nat_lit 101))))), some (.inl (Int.ofNat (nat_lit 14))), some (.inl (Int.ofNat (nat_lit 1))), none], [], ei_h0, (nat_lit 0), (nat_lit 0)), [(nat_lit 0)]),
  (((nat_lit 30), [some (.inr (.inr (.inl (some (nat_lit 101))))), some (.inl (Int.ofNat (nat_lit 14))), some (.inl (Int.ofNat (nat_lit 2))), none], [], ei_h0, (nat_lit 0), (nat_lit 0)), [(nat_lit 0)]),
  (((nat_lit 30), [some (.inr (.inr (.inl (some (nat_lit 101))))), some (.inl (Int.ofNat (nat_lit 14))), some (.inl (Int.ofNat (nat_lit 3))), none], [], ei_h0, (nat_lit 0), (nat_lit 0)), [(nat_lit 0)]),
  (((nat_lit 30), [some (.inr (.inr (.inl (some (nat_lit 101))))), some (.inl (Int.ofNat (nat_lit 14))), some (.inl (Int.ofNat (nat_lit 4))), none], [], ei_h0, (nat_lit 0), (nat_lit 0)), [(nat_lit 0)]),
  (((nat_lit 30), [some (.inr (.inr (.inl (some (nat_lit 101))))), some (.inl (Int.ofNat (nat_lit 14))), some (.inl (Int.ofNat (nat_lit 5))), none], [], ei_h0, (nat_lit 0), (nat_lit 0)), [(nat_lit 0)]),
  (((nat_lit 30), [some (.inr (.inr (.inl (some (nat_lit 101))))), some (.inl (Int.ofNat (nat_lit 14))), some (.inl (Int.ofNat (nat_lit 6))), none], [], ei_h0, (nat_lit 0), (nat_lit 0)), [(nat_lit 0)]),
  (((nat_lit 30), [some (.inr (.inr (.inl (some (nat_lit 101))))), some (.inl (Int.ofNat (nat_lit 14))), some (.inl (Int.ofNat (nat_lit 7))), none], [], ei_h0, (nat_lit 0), (nat_lit 0)), [(nat_lit 0)]),
  (((nat_lit 30), [some (.inr (.inr (.inl (some (nat_lit 101))))), some (.inl (Int.ofNat (nat_lit 14))), some (.inl (Int.ofNat (nat_lit 8))), none], [], ei_h0, (nat_lit 0), (nat_lit 0)), [])]
def ec_judge14_A0 : List ex_Y := []
def ec_judge14_Y : List ex_Y := ec_judge14_Y0 ++ ec_judge14_A0
def ec_judge15 : ex_E := ([.inr (.inr (.inl (some (nat_lit 101)))), .inl (Int.ofNat (nat_lit 15))], ei_h0, none, ei_h0, (nat_lit 1))
def ec_judge15_Y0 : List ex_Y := [(((nat_lit 30), [some (.inr (.inr (.inl (some (nat_lit 101))))), some (.inl (Int.ofNat (nat_lit 15))), some (.inl (Int.ofNat (nat_lit 0))), none], [], ei_h0, (nat_lit 0), (nat_lit 0)), [(nat_lit 0)]),
  (((nat_lit 30), [some (.inr (.inr (.inl (some (nat_lit 101))))), some (.inl (Int.ofNat (nat_lit 15))), some (.inl (Int.ofNat (nat_lit 1))), none], [], ei_h0, (nat_lit 0), (nat_lit 0)), [(nat_lit 0)]),
  (((nat_lit 30), [some (.inr (.inr (.inl (some (nat_lit 101))))), some (.inl (Int.ofNat (nat_lit 15))), some (.inl (Int.ofNat (nat_lit 2))), none], [], ei_h0, (nat_lit 0), (nat_lit 0)), [(nat_lit 0)]),
  (((nat_lit 30), [some (.inr (.inr (.inl (some (nat_lit 101))))), some (.inl (Int.ofNat (nat_lit 15))), some (.inl (Int.ofNat (nat_lit 3))), none], [], ei_h0, (nat_lit 0), (nat_lit 0)), [(nat_lit 0)]),
  (((nat_lit 30), [some (.inr (.inr (.inl (some (nat_lit 101))))), some (.inl (Int.ofNat (nat_lit 15))), some (.inl (Int.ofNat (nat_lit 4))), none], [], ei_h0, (nat_lit 0), (nat_lit 0)), [(nat_lit 0)]),
  (((nat_lit 30), [some (.inr (.inr (.inl (some (nat_lit 101))))), some (.inl (Int.ofNat (nat_lit 15))), some (.inl (Int.ofNat (nat_lit 5))), none], [], ei_h0, (nat_lit 0), (nat_lit 0)), [(nat_lit 0)]),
  (((nat_lit 30), [some (.inr (.inr (.inl (some (nat_lit 101))))), some (.inl (Int.ofNat (nat_lit 15))), some (.inl (Int.ofNat (nat_lit 6))), none], [], ei_h0, (nat_lit 0), (nat_lit 0)), [(nat_lit 0)]),
  (((nat_lit 30), [some (.inr (.inr (.inl (some (nat_lit 101))))), some (.inl (Int.ofNat (nat_lit 15))), some (.inl (Int.ofNat (nat_lit 7))), none], [], ei_h0, (nat_lit 0), (nat_lit 0)), [(nat_lit 0)]),
  (((nat_lit 30), [some (.inr (.inr (.inl (some (nat_lit 101))))), some (.inl (Int.ofNat (nat_lit 15))), some (.inl (Int.ofNat (nat_lit 8))), none], [], ei_h0, (nat_lit 0), (nat_lit 0)), [])]
def ec_judge15_A0 : List ex_Y := []
def ec_judge15_Y : List ex_Y := ec_judge15_Y0 ++ ec_judge15_A0
def ec_judge16 : ex_E := ([.inr (.inr (.inl (some (nat_lit 101)))), .inl (Int.ofNat (nat_lit 16))], ei_h0, none, ei_h0, (nat_lit 1))
def ec_judge16_Y0 : List ex_Y := [(((nat_lit 30), [some (.inr (.inr (.inl (some (nat_lit 101))))), some (.inl (Int.ofNat (nat_lit 16))), some (.inl (Int.ofNat (nat_lit 0))), none], [], ei_h0, (nat_lit 0), (nat_lit 0)), [(nat_lit 0)]),
  (((nat_lit 30), [some (.inr (.inr (.inl (some (nat_lit 101))))), some (.inl (Int.ofNat (nat_lit 16))), some (.inl (Int.ofNat (nat_lit 1))), none], [], ei_h0, (nat_lit 0), (nat_lit 0)), [(nat_lit 0)]),
  (((nat_lit 30), [some (.inr (.inr (.inl (some (nat_lit 101))))), some (.inl (Int.ofNat (nat_lit 16))), some (.inl (Int.ofNat (nat_lit 2))), none], [], ei_h0, (nat_lit 0), (nat_lit 0)), [(nat_lit 0)]),
  (((nat_lit 30), [some (.inr (.inr (.inl (some (nat_lit 101))))), some (.inl (Int.ofNat (nat_lit 16))), some (.inl (Int.ofNat (nat_lit 3))), none], [], ei_h0, (nat_lit 0), (nat_lit 0)), [(nat_lit 0)]),
  (((nat_lit 30), [some (.inr (.inr (.inl (some (nat_lit 101))))), some (.inl (Int.ofNat (nat_lit 16))), some (.inl (Int.ofNat (nat_lit 4))), none], [], ei_h0, (nat_lit 0), (nat_lit 0)), [(nat_lit 0)]),
  (((nat_lit 30), [some (.inr (.inr (.inl (some (nat_lit 101))))), some (.inl (Int.ofNat (nat_lit 16))), some (.inl (Int.ofNat (nat_lit 5))), none], [], ei_h0, (nat_lit 0), (nat_lit 0)), [(nat_lit 0)]),
  (((nat_lit 30), [some (.inr (.inr (.inl (some (nat_lit 101))))), some (.inl (Int.ofNat (nat_lit 16))), some (.inl (Int.ofNat (nat_lit 6))), none], [], ei_h0, (nat_lit 0), (nat_lit 0)), [(nat_lit 0)]),
  (((nat_lit 30), [some (.inr (.inr (.inl (some (nat_lit 101))))), some (.inl (Int.ofNat (nat_lit 16))), some (.inl (Int.ofNat (nat_lit 7))), none], [], ei_h0, (nat_lit 0), (nat_lit 0)), [(nat_lit 0)]),
  (((nat_lit 30), [some (.inr (.inr (.inl (some (nat_lit 101))))), some (.inl (Int.ofNat (nat_lit 16))), some (.inl (Int.ofNat (nat_lit 8))), none], [], ei_h0, (nat_lit 0), (nat_lit 0)), [])]
def ec_judge16_A0 : List ex_Y := []
def ec_judge16_Y : List ex_Y := ec_judge16_Y0 ++ ec_judge16_A0
def ec_judge17 : ex_E := ([.inr (.inr (.inl (some (nat_lit 101)))), .inl (Int.ofNat (nat_lit 17))], ei_h0, none, ei_h0, (nat_lit 1))
def ec_judge17_Y0 : List ex_Y := [(((nat_lit 30), [some (.inr (.inr (.inl (some (nat_lit 101))))), some (.inl (Int.ofNat (nat_lit 17))), some (.inl (Int.ofNat (nat_lit 0))), none], [], ei_h0, (nat_lit 0), (nat_lit 0)), [(nat_lit 0)]),
  (((nat_lit 30), [some (.inr (.inr (.inl (some (nat_lit 101))))), some (.inl (Int.ofNat (nat_lit 17))), some (.inl (Int.ofNat (nat_lit 1))), none], [], ei_h0, (nat_lit 0), (nat_lit 0)), [(nat_lit 0)]),
  (((nat_lit 30), [some (.inr (.inr (.inl (some (nat_lit 101))))), some (.inl (Int.ofNat (nat_lit 17))), some (.inl (Int.ofNat (nat_lit 2))), none], [], ei_h0, (nat_lit 0), (nat_lit 0)), [(nat_lit 0)]),
  (((nat_lit 30), [some (.inr (.inr (.inl (some (nat_lit 101))))), some (.inl (Int.ofNat (nat_lit 17))), some (.inl (Int.ofNat (nat_lit 3))), none], [], ei_h0, (nat_lit 0), (nat_lit 0)), [(nat_lit 0)]),
  (((nat_lit 30), [some (.inr (.inr (.inl (some (nat_lit 101))))), some (.inl (Int.ofNat (nat_lit 17))), some (.inl (Int.ofNat (nat_lit 4))), none], [], ei_h0, (nat_lit 0), (nat_lit 0)), [(nat_lit 0)]),
  (((nat_lit 30), [some (.inr (.inr (.inl (some (nat_lit 101))))), some (.inl (Int.ofNat (nat_lit 17))), some (.inl (Int.ofNat (nat_lit 5))), none], [], ei_h0, (nat_lit 0), (nat_lit 0)), [(nat_lit 0)]),
  (((nat_lit 30), [some (.inr (.inr (.inl (some (nat_lit 101))))), some (.inl (Int.ofNat (nat_lit 17))), some (.inl (Int.ofNat (nat_lit 6))), none], [], ei_h0, (nat_lit 0), (nat_lit 0)), [(nat_lit 0)]),
  (((nat_lit 30), [some (.inr (.inr (.inl (some (nat_lit 101))))), some (.inl (Int.ofNat (nat_lit 17))), some (.inl (Int.ofNat (nat_lit 7))), none], [], ei_h0, (nat_lit 0), (nat_lit 0)), [(nat_lit 0)]),
  (((nat_lit 30), [some (.inr (.inr (.inl (some (nat_lit 101))))), some (.inl (Int.ofNat (nat_lit 17))), some (.inl (Int.ofNat (nat_lit 8))), none], [], ei_h0, (nat_lit 0), (nat_lit 0)), [])]
def ec_judge17_A0 : List ex_Y := []
def ec_judge17_Y : List ex_Y := ec_judge17_Y0 ++ ec_judge17_A0
def ec_judge18 : ex_E := ([.inr (.inr (.inl (some (nat_lit 101)))), .inl (Int.ofNat (nat_lit 18))], ei_h0, none, ei_h0, (nat_lit 1))
def ec_judge18_Y0 : List ex_Y := [(((nat_lit 30), [some (.inr (.inr (.inl (some (nat_lit 101))))), some (.inl (Int.ofNat (nat_lit 18))), some (.inl (Int.ofNat (nat_lit 0))), none], [], ei_h0, (nat_lit 0), (nat_lit 0)), [(nat_lit 0)]),
  (((nat_lit 30), [some (.inr (.inr (.inl (some (nat_lit 101))))), some (.inl (Int.ofNat (nat_lit 18))), some (.inl (Int.ofNat (nat_lit 1))), none], [], ei_h0, (nat_lit 0), (nat_lit 0)), [(nat_lit 0)]),
  (((nat_lit 30), [some (.inr (.inr (.inl (some (nat_lit 101))))), some (.inl (Int.ofNat (nat_lit 18))), some (.inl (Int.ofNat (nat_lit 2))), none], [], ei_h0, (nat_lit 0), (nat_lit 0)), [(nat_lit 0)]),
  (((nat_lit 30), [some (.inr (.inr (.inl (some (nat_lit 101))))), some (.inl (Int.ofNat (nat_lit 18))), some (.inl (Int.ofNat (nat_lit 3))), none], [], ei_h0, (nat_lit 0), (nat_lit 0)), [(nat_lit 0)]),
  (((nat_lit 30), [some (.inr (.inr (.inl (some (nat_lit 101))))), some (.inl (Int.ofNat (nat_lit 18))), some (.inl (Int.ofNat (nat_lit 4))), none], [], ei_h0, (nat_lit 0), (nat_lit 0)), [(nat_lit 0)]),
  (((nat_lit 30), [some (.inr (.inr (.inl (some (nat_lit 101))))), some (.inl (Int.ofNat (nat_lit 18))), some (.inl (Int.ofNat (nat_lit 5))), none], [], ei_h0, (nat_lit 0), (nat_lit 0)), [(nat_lit 0)]),
  (((nat_lit 30), [some (.inr (.inr (.inl (some (nat_lit 101))))), some (.inl (Int.ofNat (nat_lit 18))), some (.inl (Int.ofNat (nat_lit 6))), none], [], ei_h0, (nat_lit 0), (nat_lit 0)), [(nat_lit 0)]),
  (((nat_lit 30), [some (.inr (.inr (.inl (some (nat_lit 101))))), some (.inl (Int.ofNat (nat_lit 18))), some (.inl (Int.ofNat (nat_lit 7))), none], [], ei_h0, (nat_lit 0), (nat_lit 0)), [(nat_lit 0)]),
  (((nat_lit 30), [some (.inr (.inr (.inl (some (nat_lit 101))))), some (.inl (Int.ofNat (nat_lit 18))), some (.inl (Int.ofNat (nat_lit 8))), none], [], ei_h0, (nat_lit 0), (nat_lit 0)), [])]
def ec_judge18_A0 : List ex_Y := []
def ec_judge18_Y : List ex_Y := ec_judge18_Y0 ++ ec_judge18_A0
def ec_judge19 : ex_E := ([.inr (.inr (.inl (some (nat_lit 101)))), .inl (Int.ofNat (nat_lit 19))], ei_h0, none, ei_h0, (nat_lit 1))
def ec_judge19_Y0 : List ex_Y := [(((nat_lit 30), [some (.inr (.inr (.inl (some (nat_lit 101))))), some (.inl (Int.ofNat (nat_lit 19))), some (.inl (Int.ofNat (nat_lit 0))), none], [], ei_h0, (nat_lit 0), (nat_lit 0)), [(nat_lit 0)]),
  (((nat_lit 30), [some (.inr (.inr (.inl (some (nat_lit 101))))), some (.inl (Int.ofNat (nat_lit 19))), some (.inl (Int.ofNat (nat_lit 1))), none], [], ei_h0, (nat_lit 0), (nat_lit 0)), [(nat_lit 0)]),
  (((nat_lit 30), [some (.inr (.inr (.inl (some (nat_lit 101))))), some (.inl (Int.ofNat (nat_lit 19))), some (.inl (Int.ofNat (nat_lit 2))), none], [], ei_h0, (nat_lit 0), (nat_lit 0)), [(nat_lit 0)]),
  (((nat_lit 30), [some (.inr (.inr (.inl (some (nat_lit 101))))), some (.inl (Int.ofNat (nat_lit 19))), some (.inl (Int.ofNat (nat_lit 3))), none], [], ei_h0, (nat_lit 0), (nat_lit 0)), [(nat_lit 0)]),
  (((nat_lit 30), [some (.inr (.inr (.inl (some (nat_lit 101))))), some (.inl (Int.ofNat (nat_lit 19))), some (.inl (Int.ofNat (nat_lit 4))), none], [], ei_h0, (nat_lit 0), (nat_lit 0)), [(nat_lit 0)]),
  (((nat_lit 30), [some (.inr (.inr (.inl (some (nat_lit 101))))), some (.inl (Int.ofNat (nat_lit 19))), some (.inl (Int.ofNat (nat_lit 5))), none], [], ei_h0, (nat_lit 0), (nat_lit 0)), [(nat_lit 0)]),
  (((nat_lit 30), [some (.inr (.inr (.inl (some (nat_lit 101))))), some (.inl (Int.ofNat (nat_lit 19))), some (.inl (Int.ofNat (nat_lit 6))), none], [], ei_h0, (nat_lit 0), (nat_lit 0)), [(nat_lit 0)]),
  (((nat_lit 30), [some (.inr (.inr (.inl (some (nat_lit 101))))), some (.inl (Int.ofNat (nat_lit 19))), some (.inl (Int.ofNat (nat_lit 7))), none], [], ei_h0, (nat_lit 0), (nat_lit 0)), [(nat_lit 0)]),
  (((nat_lit 30), [some (.inr (.inr (.inl (some (nat_lit 101))))), some (.inl (Int.ofNat (nat_lit 19))), some (.inl (Int.ofNat (nat_lit 8))), none], [], ei_h0, (nat_lit 0), (nat_lit 0)), [])]
def ec_judge19_A0 : List ex_Y := []
def ec_judge19_Y : List ex_Y := ec_judge19_Y0 ++ ec_judge19_A0
def ec_judge20 : ex_E := ([.inr (.inr (.inl (some (nat_lit 101)))), .inl (Int.ofNat (nat_lit 20))], ei_h0, none, ei_h0, (nat_lit 1))
def ec_judge20_Y0 : List ex_Y := [(((nat_lit 30), [some (.inr (.inr (.inl (some (nat_lit 101))))), some (.inl (Int.ofNat (nat_lit 20))), some (.inl (Int.ofNat (nat_lit 0))), none], [], ei_h0, (nat_lit 0), (nat_lit 0)), [(nat_lit 0)]),
  (((nat_lit 30), [some (.inr (.inr (.inl (some (nat_lit 101))))), some (.inl (Int.ofNat (nat_lit 20))), some (.inl (Int.ofNat (nat_lit 1))), none], [], ei_h0, (nat_lit 0), (nat_lit 0)), [(nat_lit 0)]),
  (((nat_lit 30), [some (.inr (.inr (.inl (some (nat_lit 101))))), some (.inl (Int.ofNat (nat_lit 20))), some (.inl (Int.ofNat (nat_lit 2))), none], [], ei_h0, (nat_lit 0), (nat_lit 0)), [(nat_lit 0)]),
  (((nat_lit 30), [some (.inr (.inr (.inl (some (nat_lit 101))))), some (.inl (Int.ofNat (nat_lit 20))), some (.inl (Int.ofNat (nat_lit 3))), none], [], ei_h0, (nat_lit 0), (nat_lit 0)), [(nat_lit 0)]),
  (((nat_lit 30), [some (.inr (.inr (.inl (some (nat_lit 101))))), some (.inl (Int.ofNat (nat_lit 20))), some (.inl (Int.ofNat (nat_lit 4))), none], [], ei_h0, (nat_lit 0), (nat_lit 0)), [(nat_lit 0)]),
  (((nat_lit 30), [some (.inr (.inr (.inl (some (nat_lit 101))))), some (.inl (Int.ofNat (nat_lit 20))), some (.inl (Int.ofNat (nat_lit 5))), none], [], ei_h0, (nat_lit 0), (nat_lit 0)), [(nat_lit 0)]),
  (((nat_lit 30), [some (.inr (.inr (.inl (some (nat_lit 101))))), some (.inl (Int.ofNat (nat_lit 20))), some (.inl (Int.ofNat (nat_lit 6))), none], [], ei_h0, (nat_lit 0), (nat_lit 0)), [(nat_lit 0)]),
  (((nat_lit 30), [some (.inr (.inr (.inl (some (nat_lit 101))))), some (.inl (Int.ofNat (nat_lit 20))), some (.inl (Int.ofNat (nat_lit 7))), none], [], ei_h0, (nat_lit 0), (nat_lit 0)), [(nat_lit 0)]),
  (((nat_lit 30), [some (.inr (.inr (.inl (some (nat_lit 101))))), some (.inl (Int.ofNat (nat_lit 20))), some (.inl (Int.ofNat (nat_lit 8))), none], [], ei_h0, (nat_lit 0), (nat_lit 0)), [])]
def ec_judge20_A0 : List ex_Y := []
def ec_judge20_Y : List ex_Y := ec_judge20_Y0 ++ ec_judge20_A0
def ec_judge21 : ex_E := ([.inr (.inr (.inl (some (nat_lit 101)))), .inl (Int.ofNat (nat_lit 21))], ei_h0, none, ei_h0, (nat_lit 1))
def ec_judge21_Y0 : List ex_Y := [(((nat_lit 30), [some (.inr (.inr (.inl (some (nat_lit 101))))), some (.inl (Int.ofNat (nat_lit 21))), some (.inl (Int.ofNat (nat_lit 0))), none], [], ei_h0, (nat_lit 0), (nat_lit 0)), [(nat_lit 0)]),
  (((nat_lit 30), [some (.inr (.inr (.inl (some (nat_lit 101))))), some (.inl (Int.ofNat (nat_lit 21))), some (.inl (Int.ofNat (nat_lit 1))), none], [], ei_h0, (nat_lit 0), (nat_lit 0)), [(nat_lit 0)]),
  (((nat_lit 30), [some (.inr (.inr (.inl (some (nat_lit 101))))), some (.inl (Int.ofNat (nat_lit 21))), some (.inl (Int.ofNat (nat_lit 2))), none], [], ei_h0, (nat_lit 0), (nat_lit 0)), [(nat_lit 0)]),
  (((nat_lit 30), [some (.inr (.inr (.inl (some (nat_lit 101))))), some (.inl (Int.ofNat (nat_lit 21))), some (.inl (Int.ofNat (nat_lit 3))), none], [], ei_h0, (nat_lit 0), (nat_lit 0)), [(nat_lit 0)]),
  (((nat_lit 30), [some (.inr (.inr (.inl (some (nat_lit 101))))), some (.inl (Int.ofNat (nat_lit 21))), some (.inl (Int.ofNat (nat_lit 4))), none], [], ei_h0, (nat_lit 0), (nat_lit 0)), [(nat_lit 0)]),
  (((nat_lit 30), [some (.inr (.inr (.inl (some (nat_lit 101))))), some (.inl (Int.ofNat (nat_lit 21))), some (.inl (Int.ofNat (nat_lit 5))), none], [], ei_h0, (nat_lit 0), (nat_lit 0)), [(nat_lit 0)]),
  (((nat_lit 30), [some (.inr (.inr (.inl (some (nat_lit 101))))), some (.inl (Int.ofNat (nat_lit 21))), some (.inl (Int.ofNat (nat_lit 6))), none], [], ei_h0, (nat_lit 0), (nat_lit 0)), [(nat_lit 0)]),
  (((nat_lit 30), [some (.inr (.inr (.inl (some (nat_lit 101))))), some (.inl (Int.ofNat (nat_lit 21))), some (.inl (Int.ofNat (nat_lit 7))), none], [], ei_h0, (nat_lit 0), (nat_lit 0)), [(nat_lit 0)]),
  (((nat_lit 30), [some (.inr (.inr (.inl (some (nat_lit 101))))), some (.inl (Int.ofNat (nat_lit 21))), some (.inl (Int.ofNat (nat_lit 8))), none], [], ei_h0, (nat_lit 0), (nat_lit 0)), [])]
def ec_judge21_A0 : List ex_Y := []
def ec_judge21_Y : List ex_Y := ec_judge21_Y0 ++ ec_judge21_A0
def ec_judge22 : ex_E := ([.inr (.inr (.inl (some (nat_lit 101)))), .inl (Int.ofNat (nat_lit 22))], ei_h0, none, ei_h0, (nat_lit 1))
def ec_judge22_Y0 : List ex_Y := [(((nat_lit 30), [some (.inr (.inr (.inl (some (nat_lit 101))))), some (.inl (Int.ofNat (nat_lit 22))), some (.inl (Int.ofNat (nat_lit 0))), none], [], ei_h0, (nat_lit 0), (nat_lit 0)), [(nat_lit 0)]),
  (((nat_lit 30), [some (.inr (.inr (.inl (some (nat_lit 101))))), some (.inl (Int.ofNat (nat_lit 22))), some (.inl (Int.ofNat (nat_lit 1))), none], [], ei_h0, (nat_lit 0), (nat_lit 0)), [(nat_lit 0)]),
  (((nat_lit 30), [some (.inr (.inr (.inl (some (nat_lit 101))))), some (.inl (Int.ofNat (nat_lit 22))), some (.inl (Int.ofNat (nat_lit 2))), none], [], ei_h0, (nat_lit 0), (nat_lit 0)), [(nat_lit 0)]),
  (((nat_lit 30), [some (.inr (.inr (.inl (some (nat_lit 101))))), some (.inl (Int.ofNat (nat_lit 22))), some (.inl (Int.ofNat (nat_lit 3))), none], [], ei_h0, (nat_lit 0), (nat_lit 0)), [(nat_lit 0)]),
  (((nat_lit 30), [some (.inr (.inr (.inl (some (nat_lit 101))))), some (.inl (Int.ofNat (nat_lit 22))), some (.inl (Int.ofNat (nat_lit 4))), none], [], ei_h0, (nat_lit 0), (nat_lit 0)), [(nat_lit 0)]),
  (((nat_lit 30), [some (.inr (.inr (.inl (some (nat_lit 101))))), some (.inl (Int.ofNat (nat_lit 22))), some (.inl (Int.ofNat (nat_lit 5))), none], [], ei_h0, (nat_lit 0), (nat_lit 0)), [(nat_lit 0)]),
  (((nat_lit 30), [some (.inr (.inr (.inl (some (nat_lit 101))))), some (.inl (Int.ofNat (nat_lit 22))), some (.inl (Int.ofNat (nat_lit 6))), none], [], ei_h0, (nat_lit 0), (nat_lit 0)), [(nat_lit 0)]),
  (((nat_lit 30), [some (.inr (.inr (.inl (some (nat_lit 101))))), some (.inl (Int.ofNat (nat_lit 22))), some (.inl (Int.ofNat (nat_lit 7))), none], [], ei_h0, (nat_lit 0), (nat_lit 0)), [(nat_lit 0)]),
  (((nat_lit 30), [some (.inr (.inr (.inl (some (nat_lit 101))))), some (.inl (Int.ofNat (nat_lit 22))), some (.inl (Int.ofNat (nat_lit 8))), none], [], ei_h0, (nat_lit 0), (nat_lit 0)), [])]
def ec_judge22_A0 : List ex_Y := []
def ec_judge22_Y : List ex_Y := ec_judge22_Y0 ++ ec_judge22_A0
def ec_judge23 : ex_E := ([.inr (.inr (.inl (some (nat_lit 101)))), .inl (Int.ofNat (nat_lit 23))], ei_h0, none, ei_h0, (nat_lit 1))
def ec_judge23_Y0 : List ex_Y := [(((nat_lit 30), [some (.inr (.inr (.inl (some (nat_lit 101))))), some (.inl (Int.ofNat (nat_lit 23))), some (.inl (Int.ofNat (nat_lit 0))), none], [], ei_h0, (nat_lit 0), (nat_lit 0)), [(nat_lit 0)]),
  (((nat_lit 30), [some (.inr (.inr (.inl (some (nat_lit 101))))), some (.inl (Int.ofNat (nat_lit 23))), some (.inl (Int.ofNat (nat_lit 1))), none], [], ei_h0, (nat_lit 0), (nat_lit 0)), [(nat_lit 0)]),
  (((nat_lit 30), [some (.inr (.inr (.inl (some (nat_lit 101))))), some (.inl (Int.ofNat (nat_lit 23))), some (.inl (Int.ofNat (nat_lit 2))), none], [], ei_h0, (nat_lit 0), (nat_lit 0)), [(nat_lit 0)]),
  (((nat_lit 30), [some (.inr (.inr (.inl (some (nat_lit 101))))), some (.inl (Int.ofNat (nat_lit 23))), some (.inl (Int.ofNat (nat_lit 3))), none], [], ei_h0, (nat_lit 0), (nat_lit 0)), [(nat_lit 0)]),
  (((nat_lit 30), [some (.inr (.inr (.inl (some (nat_lit 101))))), some (.inl (Int.ofNat (nat_lit 23))), some (.inl (Int.ofNat (nat_lit 4))), none], [], ei_h0, (nat_lit 0), (nat_lit 0)), [(nat_lit 0)]),
  (((nat_lit 30), [some (.inr (.inr (.inl (some (nat_lit 101))))), some (.inl (Int.ofNat (nat_lit 23))), some (.inl (Int.ofNat (nat_lit 5))), none], [], ei_h0, (nat_lit 0), (nat_lit 0)), [(nat_lit 0)]),
  (((nat_lit 30), [some (.inr (.inr (.inl (some (nat_lit 101))))), some (.inl (Int.ofNat (nat_lit 23))), some (.inl (Int.ofNat (nat_lit 6))), none], [], ei_h0, (nat_lit 0), (nat_lit 0)), [(nat_lit 0)]),
  (((nat_lit 30), [some (.inr (.inr (.inl (some (nat_lit 101))))), some (.inl (Int.ofNat (nat_lit 23))), some (.inl (Int.ofNat (nat_lit 7))), none], [], ei_h0, (nat_lit 0), (nat_lit 0)), [(nat_lit 0)]),
  (((nat_lit 30), [some (.inr (.inr (.inl (some (nat_lit 101))))), some (.inl (Int.ofNat (nat_lit 23))), some (.inl (Int.ofNat (nat_lit 8))), none], [], ei_h0, (nat_lit 0), (nat_lit 0)), [])]
def ec_judge23_A0 : List ex_Y := []
def ec_judge23_Y : List ex_Y := ec_judge23_Y0 ++ ec_judge23_A0
theorem ec_judge0_l0 : ex_links (ex_runS ei_L0 (nat_lit 1) eu_46 none (ex_K none ei_h0)) ec_judge0_A0 ec_judge0_Y0 = true := by decide +kernel
theorem ec_judge0_e : ex_locs ec_judge0.1 (nat_lit 4) (fun q => ex_runS ei_L0 (nat_lit 1) eu_46 none (ex_K none ei_h0) (ex_pick ec_judge0_Y [(nat_lit 0)]) (0, q, [], ei_h0, 0, 0)) = true := by decide +kernel
theorem ec_judge0_k {l : Launch} {D : va_G} {τ : Nat → ClassId} {sa : List Nat} {A : Nat → Prop} (hmn : em_mna) : em_E l D τ sa A em_inf (nat_lit 46) ec_judge0 := em_ofD hmn (ei_L0_k hmn) (tb := eu_46) (nl := (nat_lit 4)) (ret := none) rfl ec_judge0_e (fun own mn by' hT y hy => by
  have hr := fun (Ss : List ex_S) (S : ex_S) => ex_runS_ok (own := own) (mname := mn) (bytes := by') (nL := (nat_lit 4)) (dd := (nat_lit 1)) (ret := none) (K := (ex_K none ei_h0)) hmn (ei_L0_k (l := l) (D := D) (τ := τ) (sa := sa) (A := A) hmn) hT Ss S
  exact (ex_links_ok hr (fun _ h => absurd h List.not_mem_nil) _ ec_judge0_l0) y hy)
theorem ec_judge1_l0 : ex_links (ex_runS ei_L0 (nat_lit 1) eu_46 none (ex_K none ei_h0)) ec_judge1_A0 ec_judge1_Y0 = true := by decide +kernel
theorem ec_judge1_e : ex_locs ec_judge1.1 (nat_lit 4) (fun q => ex_runS ei_L0 (nat_lit 1) eu_46 none (ex_K none ei_h0) (ex_pick ec_judge1_Y [(nat_lit 0)]) (0, q, [], ei_h0, 0, 0)) = true := by decide +kernel
theorem ec_judge1_k {l : Launch} {D : va_G} {τ : Nat → ClassId} {sa : List Nat} {A : Nat → Prop} (hmn : em_mna) : em_E l D τ sa A em_inf (nat_lit 46) ec_judge1 := em_ofD hmn (ei_L0_k hmn) (tb := eu_46) (nl := (nat_lit 4)) (ret := none) rfl ec_judge1_e (fun own mn by' hT y hy => by
  have hr := fun (Ss : List ex_S) (S : ex_S) => ex_runS_ok (own := own) (mname := mn) (bytes := by') (nL := (nat_lit 4)) (dd := (nat_lit 1)) (ret := none) (K := (ex_K none ei_h0)) hmn (ei_L0_k (l := l) (D := D) (τ := τ) (sa := sa) (A := A) hmn) hT Ss S
  exact (ex_links_ok hr (fun _ h => absurd h List.not_mem_nil) _ ec_judge1_l0) y hy)
theorem ec_judge2_l0 : ex_links (ex_runS ei_L0 (nat_lit 1) eu_46 none (ex_K none ei_h0)) ec_judge2_A0 ec_judge2_Y0 = true := by decide +kernel
theorem ec_judge2_e : ex_locs ec_judge2.1 (nat_lit 4) (fun q => ex_runS ei_L0 (nat_lit 1) eu_46 none (ex_K none ei_h0) (ex_pick ec_judge2_Y [(nat_lit 0)]) (0, q, [], ei_h0, 0, 0)) = true := by decide +kernel
theorem ec_judge2_k {l : Launch} {D : va_G} {τ : Nat → ClassId} {sa : List Nat} {A : Nat → Prop} (hmn : em_mna) : em_E l D τ sa A em_inf (nat_lit 46) ec_judge2 := em_ofD hmn (ei_L0_k hmn) (tb := eu_46) (nl := (nat_lit 4)) (ret := none) rfl ec_judge2_e (fun own mn by' hT y hy => by
  have hr := fun (Ss : List ex_S) (S : ex_S) => ex_runS_ok (own := own) (mname := mn) (bytes := by') (nL := (nat_lit 4)) (dd := (nat_lit 1)) (ret := none) (K := (ex_K none ei_h0)) hmn (ei_L0_k (l := l) (D := D) (τ := τ) (sa := sa) (A := A) hmn) hT Ss S
  exact (ex_links_ok hr (fun _ h => absurd h List.not_mem_nil) _ ec_judge2_l0) y hy)
theorem ec_judge3_l0 : ex_links (ex_runS ei_L0 (nat_lit 1) eu_46 none (ex_K none ei_h0)) ec_judge3_A0 ec_judge3_Y0 = true := by decide +kernel
theorem ec_judge3_e : ex_locs ec_judge3.1 (nat_lit 4) (fun q => ex_runS ei_L0 (nat_lit 1) eu_46 none (ex_K none ei_h0) (ex_pick ec_judge3_Y [(nat_lit 0)]) (0, q, [], ei_h0, 0, 0)) = true := by decide +kernel
theorem ec_judge3_k {l : Launch} {D : va_G} {τ : Nat → ClassId} {sa : List Nat} {A : Nat → Prop} (hmn : em_mna) : em_E l D τ sa A em_inf (nat_lit 46) ec_judge3 := em_ofD hmn (ei_L0_k hmn) (tb := eu_46) (nl := (nat_lit 4)) (ret := none) rfl ec_judge3_e (fun own mn by' hT y hy => by
  have hr := fun (Ss : List ex_S) (S : ex_S) => ex_runS_ok (own := own) (mname := mn) (bytes := by') (nL := (nat_lit 4)) (dd := (nat_lit 1)) (ret := none) (K := (ex_K none ei_h0)) hmn (ei_L0_k (l := l) (D := D) (τ := τ) (sa := sa) (A := A) hmn) hT Ss S
  exact (ex_links_ok hr (fun _ h => absurd h List.not_mem_nil) _ ec_judge3_l0) y hy)
theorem ec_judge4_l0 : ex_links (ex_runS ei_L0 (nat_lit 1) eu_46 none (ex_K none ei_h0)) ec_judge4_A0 ec_judge4_Y0 = true := by decide +kernel
theorem ec_judge4_e : ex_locs ec_judge4.1 (nat_lit 4) (fun q => ex_runS ei_L0 (nat_lit 1) eu_46 none (ex_K none ei_h0) (ex_pick ec_judge4_Y [(nat_lit 0)]) (0, q, [], ei_h0, 0, 0)) = true := by decide +kernel
theorem ec_judge4_k {l : Launch} {D : va_G} {τ : Nat → ClassId} {sa : List Nat} {A : Nat → Prop} (hmn : em_mna) : em_E l D τ sa A em_inf (nat_lit 46) ec_judge4 := em_ofD hmn (ei_L0_k hmn) (tb := eu_46) (nl := (nat_lit 4)) (ret := none) rfl ec_judge4_e (fun own mn by' hT y hy => by
  have hr := fun (Ss : List ex_S) (S : ex_S) => ex_runS_ok (own := own) (mname := mn) (bytes := by') (nL := (nat_lit 4)) (dd := (nat_lit 1)) (ret := none) (K := (ex_K none ei_h0)) hmn (ei_L0_k (l := l) (D := D) (τ := τ) (sa := sa) (A := A) hmn) hT Ss S
  exact (ex_links_ok hr (fun _ h => absurd h List.not_mem_nil) _ ec_judge4_l0) y hy)
theorem ec_judge5_l0 : ex_links (ex_runS ei_L0 (nat_lit 1) eu_46 none (ex_K none ei_h0)) ec_judge5_A0 ec_judge5_Y0 = true := by decide +kernel
theorem ec_judge5_e : ex_locs ec_judge5.1 (nat_lit 4) (fun q => ex_runS ei_L0 (nat_lit 1) eu_46 none (ex_K none ei_h0) (ex_pick ec_judge5_Y [(nat_lit 0)]) (0, q, [], ei_h0, 0, 0)) = true := by decide +kernel
theorem ec_judge5_k {l : Launch} {D : va_G} {τ : Nat → ClassId} {sa : List Nat} {A : Nat → Prop} (hmn : em_mna) : em_E l D τ sa A em_inf (nat_lit 46) ec_judge5 := em_ofD hmn (ei_L0_k hmn) (tb := eu_46) (nl := (nat_lit 4)) (ret := none) rfl ec_judge5_e (fun own mn by' hT y hy => by
  have hr := fun (Ss : List ex_S) (S : ex_S) => ex_runS_ok (own := own) (mname := mn) (bytes := by') (nL := (nat_lit 4)) (dd := (nat_lit 1)) (ret := none) (K := (ex_K none ei_h0)) hmn (ei_L0_k (l := l) (D := D) (τ := τ) (sa := sa) (A := A) hmn) hT Ss S
  exact (ex_links_ok hr (fun _ h => absurd h List.not_mem_nil) _ ec_judge5_l0) y hy)
theorem ec_judge6_l0 : ex_links (ex_runS ei_L0 (nat_lit 1) eu_46 none (ex_K none ei_h0)) ec_judge6_A0 ec_judge6_Y0 = true := by decide +kernel
theorem ec_judge6_e : ex_locs ec_judge6.1 (nat_lit 4) (fun q => ex_runS ei_L0 (nat_lit 1) eu_46 none (ex_K none ei_h0) (ex_pick ec_judge6_Y [(nat_lit 0)]) (0, q, [], ei_h0, 0, 0)) = true := by decide +kernel
theorem ec_judge6_k {l : Launch} {D : va_G} {τ : Nat → ClassId} {sa : List Nat} {A : Nat → Prop} (hmn : em_mna) : em_E l D τ sa A em_inf (nat_lit 46) ec_judge6 := em_ofD hmn (ei_L0_k hmn) (tb := eu_46) (nl := (nat_lit 4)) (ret := none) rfl ec_judge6_e (fun own mn by' hT y hy => by
  have hr := fun (Ss : List ex_S) (S : ex_S) => ex_runS_ok (own := own) (mname := mn) (bytes := by') (nL := (nat_lit 4)) (dd := (nat_lit 1)) (ret := none) (K := (ex_K none ei_h0)) hmn (ei_L0_k (l := l) (D := D) (τ := τ) (sa := sa) (A := A) hmn) hT Ss S
  exact (ex_links_ok hr (fun _ h => absurd h List.not_mem_nil) _ ec_judge6_l0) y hy)
theorem ec_judge7_l0 : ex_links (ex_runS ei_L0 (nat_lit 1) eu_46 none (ex_K none ei_h0)) ec_judge7_A0 ec_judge7_Y0 = true := by decide +kernel
theorem ec_judge7_e : ex_locs ec_judge7.1 (nat_lit 4) (fun q => ex_runS ei_L0 (nat_lit 1) eu_46 none (ex_K none ei_h0) (ex_pick ec_judge7_Y [(nat_lit 0)]) (0, q, [], ei_h0, 0, 0)) = true := by decide +kernel
theorem ec_judge7_k {l : Launch} {D : va_G} {τ : Nat → ClassId} {sa : List Nat} {A : Nat → Prop} (hmn : em_mna) : em_E l D τ sa A em_inf (nat_lit 46) ec_judge7 := em_ofD hmn (ei_L0_k hmn) (tb := eu_46) (nl := (nat_lit 4)) (ret := none) rfl ec_judge7_e (fun own mn by' hT y hy => by
  have hr := fun (Ss : List ex_S) (S : ex_S) => ex_runS_ok (own := own) (mname := mn) (bytes := by') (nL := (nat_lit 4)) (dd := (nat_lit 1)) (ret := none) (K := (ex_K none ei_h0)) hmn (ei_L0_k (l := l) (D := D) (τ := τ) (sa := sa) (A := A) hmn) hT Ss S
  exact (ex_links_ok hr (fun _ h => absurd h List.not_mem_nil) _ ec_judge7_l0) y hy)
theorem ec_judge8_l0 : ex_links (ex_runS ei_L0 (nat_lit 1) eu_46 none (ex_K none ei_h0)) ec_judge8_A0 ec_judge8_Y0 = true := by decide +kernel
theorem ec_judge8_e : ex_locs ec_judge8.1 (nat_lit 4) (fun q => ex_runS ei_L0 (nat_lit 1) eu_46 none (ex_K none ei_h0) (ex_pick ec_judge8_Y [(nat_lit 0)]) (0, q, [], ei_h0, 0, 0)) = true := by decide +kernel
theorem ec_judge8_k {l : Launch} {D : va_G} {τ : Nat → ClassId} {sa : List Nat} {A : Nat → Prop} (hmn : em_mna) : em_E l D τ sa A em_inf (nat_lit 46) ec_judge8 := em_ofD hmn (ei_L0_k hmn) (tb := eu_46) (nl := (nat_lit 4)) (ret := none) rfl ec_judge8_e (fun own mn by' hT y hy => by
  have hr := fun (Ss : List ex_S) (S : ex_S) => ex_runS_ok (own := own) (mname := mn) (bytes := by') (nL := (nat_lit 4)) (dd := (nat_lit 1)) (ret := none) (K := (ex_K none ei_h0)) hmn (ei_L0_k (l := l) (D := D) (τ := τ) (sa := sa) (A := A) hmn) hT Ss S
  exact (ex_links_ok hr (fun _ h => absurd h List.not_mem_nil) _ ec_judge8_l0) y hy)
theorem ec_judge9_l0 : ex_links (ex_runS ei_L0 (nat_lit 1) eu_46 none (ex_K none ei_h0)) ec_judge9_A0 ec_judge9_Y0 = true := by decide +kernel
theorem ec_judge9_e : ex_locs ec_judge9.1 (nat_lit 4) (fun q => ex_runS ei_L0 (nat_lit 1) eu_46 none (ex_K none ei_h0) (ex_pick ec_judge9_Y [(nat_lit 0)]) (0, q, [], ei_h0, 0, 0)) = true := by decide +kernel
theorem ec_judge9_k {l : Launch} {D : va_G} {τ : Nat → ClassId} {sa : List Nat} {A : Nat → Prop} (hmn : em_mna) : em_E l D τ sa A em_inf (nat_lit 46) ec_judge9 := em_ofD hmn (ei_L0_k hmn) (tb := eu_46) (nl := (nat_lit 4)) (ret := none) rfl ec_judge9_e (fun own mn by' hT y hy => by
  have hr := fun (Ss : List ex_S) (S : ex_S) => ex_runS_ok (own := own) (mname := mn) (bytes := by') (nL := (nat_lit 4)) (dd := (nat_lit 1)) (ret := none) (K := (ex_K none ei_h0)) hmn (ei_L0_k (l := l) (D := D) (τ := τ) (sa := sa) (A := A) hmn) hT Ss S
  exact (ex_links_ok hr (fun _ h => absurd h List.not_mem_nil) _ ec_judge9_l0) y hy)
theorem ec_judge10_l0 : ex_links (ex_runS ei_L0 (nat_lit 1) eu_46 none (ex_K none ei_h0)) ec_judge10_A0 ec_judge10_Y0 = true := by decide +kernel
theorem ec_judge10_e : ex_locs ec_judge10.1 (nat_lit 4) (fun q => ex_runS ei_L0 (nat_lit 1) eu_46 none (ex_K none ei_h0) (ex_pick ec_judge10_Y [(nat_lit 0)]) (0, q, [], ei_h0, 0, 0)) = true := by decide +kernel
theorem ec_judge10_k {l : Launch} {D : va_G} {τ : Nat → ClassId} {sa : List Nat} {A : Nat → Prop} (hmn : em_mna) : em_E l D τ sa A em_inf (nat_lit 46) ec_judge10 := em_ofD hmn (ei_L0_k hmn) (tb := eu_46) (nl := (nat_lit 4)) (ret := none) rfl ec_judge10_e (fun own mn by' hT y hy => by
  have hr := fun (Ss : List ex_S) (S : ex_S) => ex_runS_ok (own := own) (mname := mn) (bytes := by') (nL := (nat_lit 4)) (dd := (nat_lit 1)) (ret := none) (K := (ex_K none ei_h0)) hmn (ei_L0_k (l := l) (D := D) (τ := τ) (sa := sa) (A := A) hmn) hT Ss S
  exact (ex_links_ok hr (fun _ h => absurd h List.not_mem_nil) _ ec_judge10_l0) y hy)
theorem ec_judge11_l0 : ex_links (ex_runS ei_L0 (nat_lit 1) eu_46 none (ex_K none ei_h0)) ec_judge11_A0 ec_judge11_Y0 = true := by decide +kernel
theorem ec_judge11_e : ex_locs ec_judge11.1 (nat_lit 4) (fun q => ex_runS ei_L0 (nat_lit 1) eu_46 none (ex_K none ei_h0) (ex_pick ec_judge11_Y [(nat_lit 0)]) (0, q, [], ei_h0, 0, 0)) = true := by decide +kernel
theorem ec_judge11_k {l : Launch} {D : va_G} {τ : Nat → ClassId} {sa : List Nat} {A : Nat → Prop} (hmn : em_mna) : em_E l D τ sa A em_inf (nat_lit 46) ec_judge11 := em_ofD hmn (ei_L0_k hmn) (tb := eu_46) (nl := (nat_lit 4)) (ret := none) rfl ec_judge11_e (fun own mn by' hT y hy => by
  have hr := fun (Ss : List ex_S) (S : ex_S) => ex_runS_ok (own := own) (mname := mn) (bytes := by') (nL := (nat_lit 4)) (dd := (nat_lit 1)) (ret := none) (K := (ex_K none ei_h0)) hmn (ei_L0_k (l := l) (D := D) (τ := τ) (sa := sa) (A := A) hmn) hT Ss S
  exact (ex_links_ok hr (fun _ h => absurd h List.not_mem_nil) _ ec_judge11_l0) y hy)
theorem ec_judge12_l0 : ex_links (ex_runS ei_L0 (nat_lit 1) eu_46 none (ex_K none ei_h0)) ec_judge12_A0 ec_judge12_Y0 = true := by decide +kernel
theorem ec_judge12_e : ex_locs ec_judge12.1 (nat_lit 4) (fun q => ex_runS ei_L0 (nat_lit 1) eu_46 none (ex_K none ei_h0) (ex_pick ec_judge12_Y [(nat_lit 0)]) (0, q, [], ei_h0, 0, 0)) = true := by decide +kernel
theorem ec_judge12_k {l : Launch} {D : va_G} {τ : Nat → ClassId} {sa : List Nat} {A : Nat → Prop} (hmn : em_mna) : em_E l D τ sa A em_inf (nat_lit 46) ec_judge12 := em_ofD hmn (ei_L0_k hmn) (tb := eu_46) (nl := (nat_lit 4)) (ret := none) rfl ec_judge12_e (fun own mn by' hT y hy => by
  have hr := fun (Ss : List ex_S) (S : ex_S) => ex_runS_ok (own := own) (mname := mn) (bytes := by') (nL := (nat_lit 4)) (dd := (nat_lit 1)) (ret := none) (K := (ex_K none ei_h0)) hmn (ei_L0_k (l := l) (D := D) (τ := τ) (sa := sa) (A := A) hmn) hT Ss S
  exact (ex_links_ok hr (fun _ h => absurd h List.not_mem_nil) _ ec_judge12_l0) y hy)
theorem ec_judge13_l0 : ex_links (ex_runS ei_L0 (nat_lit 1) eu_46 none (ex_K none ei_h0)) ec_judge13_A0 ec_judge13_Y0 = true := by decide +kernel
theorem ec_judge13_e : ex_locs ec_judge13.1 (nat_lit 4) (fun q => ex_runS ei_L0 (nat_lit 1) eu_46 none (ex_K none ei_h0) (ex_pick ec_judge13_Y [(nat_lit 0)]) (0, q, [], ei_h0, 0, 0)) = true := by decide +kernel
theorem ec_judge13_k {l : Launch} {D : va_G} {τ : Nat → ClassId} {sa : List Nat} {A : Nat → Prop} (hmn : em_mna) : em_E l D τ sa A em_inf (nat_lit 46) ec_judge13 := em_ofD hmn (ei_L0_k hmn) (tb := eu_46) (nl := (nat_lit 4)) (ret := none) rfl ec_judge13_e (fun own mn by' hT y hy => by
  have hr := fun (Ss : List ex_S) (S : ex_S) => ex_runS_ok (own := own) (mname := mn) (bytes := by') (nL := (nat_lit 4)) (dd := (nat_lit 1)) (ret := none) (K := (ex_K none ei_h0)) hmn (ei_L0_k (l := l) (D := D) (τ := τ) (sa := sa) (A := A) hmn) hT Ss S
  exact (ex_links_ok hr (fun _ h => absurd h List.not_mem_nil) _ ec_judge13_l0) y hy)
theorem ec_judge14_l0 : ex_links (ex_runS ei_L0 (nat_lit 1) eu_46 none (ex_K none ei_h0)) ec_judge14_A0 ec_judge14_Y0 = true := by decide +kernel
theorem ec_judge14_e : ex_locs ec_judge14.1 (nat_lit 4) (fun q => ex_runS ei_L0 (nat_lit 1) eu_46 none (ex_K none ei_h0) (ex_pick ec_judge14_Y [(nat_lit 0)]) (0, q, [], ei_h0, 0, 0)) = true := by decide +kernel
theorem ec_judge14_k {l : Launch} {D : va_G} {τ : Nat → ClassId} {sa : List Nat} {A : Nat → Prop} (hmn : em_mna) : em_E l D τ sa A em_inf (nat_lit 46) ec_judge14 := em_ofD hmn (ei_L0_k hmn) (tb := eu_46) (nl := (nat_lit 4)) (ret := none) rfl ec_judge14_e (fun own mn by' hT y hy => by
  have hr := fun (Ss : List ex_S) (S : ex_S) => ex_runS_ok (own := own) (mname := mn) (bytes := by') (nL := (nat_lit 4)) (dd := (nat_lit 1)) (ret := none) (K := (ex_K none ei_h0)) hmn (ei_L0_k (l := l) (D := D) (τ := τ) (sa := sa) (A := A) hmn) hT Ss S
  exact (ex_links_ok hr (fun _ h => absurd h List.not_mem_nil) _ ec_judge14_l0) y hy)
theorem ec_judge15_l0 : ex_links (ex_runS ei_L0 (nat_lit 1) eu_46 none (ex_K none ei_h0)) ec_judge15_A0 ec_judge15_Y0 = true := by decide +kernel
theorem ec_judge15_e : ex_locs ec_judge15.1 (nat_lit 4) (fun q => ex_runS ei_L0 (nat_lit 1) eu_46 none (ex_K none ei_h0) (ex_pick ec_judge15_Y [(nat_lit 0)]) (0, q, [], ei_h0, 0, 0)) = true := by decide +kernel
theorem ec_judge15_k {l : Launch} {D : va_G} {τ : Nat → ClassId} {sa : List Nat} {A : Nat → Prop} (hmn : em_mna) : em_E l D τ sa A em_inf (nat_lit 46) ec_judge15 := em_ofD hmn (ei_L0_k hmn) (tb := eu_46) (nl := (nat_lit 4)) (ret := none) rfl ec_judge15_e (fun own mn by' hT y hy => by
  have hr := fun (Ss : List ex_S) (S : ex_S) => ex_runS_ok (own := own) (mname := mn) (bytes := by') (nL := (nat_lit 4)) (dd := (nat_lit 1)) (ret := none) (K := (ex_K none ei_h0)) hmn (ei_L0_k (l := l) (D := D) (τ := τ) (sa := sa) (A := A) hmn) hT Ss S
  exact (ex_links_ok hr (fun _ h => absurd h List.not_mem_nil) _ ec_judge15_l0) y hy)
theorem ec_judge16_l0 : ex_links (ex_runS ei_L0 (nat_lit 1) eu_46 none (ex_K none ei_h0)) ec_judge16_A0 ec_judge16_Y0 = true := by decide +kernel
theorem ec_judge16_e : ex_locs ec_judge16.1 (nat_lit 4) (fun q => ex_runS ei_L0 (nat_lit 1) eu_46 none (ex_K none ei_h0) (ex_pick ec_judge16_Y [(nat_lit 0)]) (0, q, [], ei_h0, 0, 0)) = true := by decide +kernel
theorem ec_judge16_k {l : Launch} {D : va_G} {τ : Nat → ClassId} {sa : List Nat} {A : Nat → Prop} (hmn : em_mna) : em_E l D τ sa A em_inf (nat_lit 46) ec_judge16 := em_ofD hmn (ei_L0_k hmn) (tb := eu_46) (nl := (nat_lit 4)) (ret := none) rfl ec_judge16_e (fun own mn by' hT y hy => by
  have hr := fun (Ss : List ex_S) (S : ex_S) => ex_runS_ok (own := own) (mname := mn) (bytes := by') (nL := (nat_lit 4)) (dd := (nat_lit 1)) (ret := none) (K := (ex_K none ei_h0)) hmn (ei_L0_k (l := l) (D := D) (τ := τ) (sa := sa) (A := A) hmn) hT Ss S
  exact (ex_links_ok hr (fun _ h => absurd h List.not_mem_nil) _ ec_judge16_l0) y hy)
theorem ec_judge17_l0 : ex_links (ex_runS ei_L0 (nat_lit 1) eu_46 none (ex_K none ei_h0)) ec_judge17_A0 ec_judge17_Y0 = true := by decide +kernel
theorem ec_judge17_e : ex_locs ec_judge17.1 (nat_lit 4) (fun q => ex_runS ei_L0 (nat_lit 1) eu_46 none (ex_K none ei_h0) (ex_pick ec_judge17_Y [(nat_lit 0)]) (0, q, [], ei_h0, 0, 0)) = true := by decide +kernel
theorem ec_judge17_k {l : Launch} {D : va_G} {τ : Nat → ClassId} {sa : List Nat} {A : Nat → Prop} (hmn : em_mna) : em_E l D τ sa A em_inf (nat_lit 46) ec_judge17 := em_ofD hmn (ei_L0_k hmn) (tb := eu_46) (nl := (nat_lit 4)) (ret := none) rfl ec_judge17_e (fun own mn by' hT y hy => by
  have hr := fun (Ss : List ex_S) (S : ex_S) => ex_runS_ok (own := own) (mname := mn) (bytes := by') (nL := (nat_lit 4)) (dd := (nat_lit 1)) (ret := none) (K := (ex_K none ei_h0)) hmn (ei_L0_k (l := l) (D := D) (τ := τ) (sa := sa) (A := A) hmn) hT Ss S
  exact (ex_links_ok hr (fun _ h => absurd h List.not_mem_nil) _ ec_judge17_l0) y hy)
theorem ec_judge18_l0 : ex_links (ex_runS ei_L0 (nat_lit 1) eu_46 none (ex_K none ei_h0)) ec_judge18_A0 ec_judge18_Y0 = true := by decide +kernel
theorem ec_judge18_e : ex_locs ec_judge18.1 (nat_lit 4) (fun q => ex_runS ei_L0 (nat_lit 1) eu_46 none (ex_K none ei_h0) (ex_pick ec_judge18_Y [(nat_lit 0)]) (0, q, [], ei_h0, 0, 0)) = true := by decide +kernel
theorem ec_judge18_k {l : Launch} {D : va_G} {τ : Nat → ClassId} {sa : List Nat} {A : Nat → Prop} (hmn : em_mna) : em_E l D τ sa A em_inf (nat_lit 46) ec_judge18 := em_ofD hmn (ei_L0_k hmn) (tb := eu_46) (nl := (nat_lit 4)) (ret := none) rfl ec_judge18_e (fun own mn by' hT y hy => by
  have hr := fun (Ss : List ex_S) (S : ex_S) => ex_runS_ok (own := own) (mname := mn) (bytes := by') (nL := (nat_lit 4)) (dd := (nat_lit 1)) (ret := none) (K := (ex_K none ei_h0)) hmn (ei_L0_k (l := l) (D := D) (τ := τ) (sa := sa) (A := A) hmn) hT Ss S
  exact (ex_links_ok hr (fun _ h => absurd h List.not_mem_nil) _ ec_judge18_l0) y hy)
theorem ec_judge19_l0 : ex_links (ex_runS ei_L0 (nat_lit 1) eu_46 none (ex_K none ei_h0)) ec_judge19_A0 ec_judge19_Y0 = true := by decide +kernel
theorem ec_judge19_e : ex_locs ec_judge19.1 (nat_lit 4) (fun q => ex_runS ei_L0 (nat_lit 1) eu_46 none (ex_K none ei_h0) (ex_pick ec_judge19_Y [(nat_lit 0)]) (0, q, [], ei_h0, 0, 0)) = true := by decide +kernel
theorem ec_judge19_k {l : Launch} {D : va_G} {τ : Nat → ClassId} {sa : List Nat} {A : Nat → Prop} (hmn : em_mna) : em_E l D τ sa A em_inf (nat_lit 46) ec_judge19 := em_ofD hmn (ei_L0_k hmn) (tb := eu_46) (nl := (nat_lit 4)) (ret := none) rfl ec_judge19_e (fun own mn by' hT y hy => by
  have hr := fun (Ss : List ex_S) (S : ex_S) => ex_runS_ok (own := own) (mname := mn) (bytes := by') (nL := (nat_lit 4)) (dd := (nat_lit 1)) (ret := none) (K := (ex_K none ei_h0)) hmn (ei_L0_k (l := l) (D := D) (τ := τ) (sa := sa) (A := A) hmn) hT Ss S
  exact (ex_links_ok hr (fun _ h => absurd h List.not_mem_nil) _ ec_judge19_l0) y hy)
theorem ec_judge20_l0 : ex_links (ex_runS ei_L0 (nat_lit 1) eu_46 none (ex_K none ei_h0)) ec_judge20_A0 ec_judge20_Y0 = true := by decide +kernel
theorem ec_judge20_e : ex_locs ec_judge20.1 (nat_lit 4) (fun q => ex_runS ei_L0 (nat_lit 1) eu_46 none (ex_K none ei_h0) (ex_pick ec_judge20_Y [(nat_lit 0)]) (0, q, [], ei_h0, 0, 0)) = true := by decide +kernel
theorem ec_judge20_k {l : Launch} {D : va_G} {τ : Nat → ClassId} {sa : List Nat} {A : Nat → Prop} (hmn : em_mna) : em_E l D τ sa A em_inf (nat_lit 46) ec_judge20 := em_ofD hmn (ei_L0_k hmn) (tb := eu_46) (nl := (nat_lit 4)) (ret := none) rfl ec_judge20_e (fun own mn by' hT y hy => by
  have hr := fun (Ss : List ex_S) (S : ex_S) => ex_runS_ok (own := own) (mname := mn) (bytes := by') (nL := (nat_lit 4)) (dd := (nat_lit 1)) (ret := none) (K := (ex_K none ei_h0)) hmn (ei_L0_k (l := l) (D := D) (τ := τ) (sa := sa) (A := A) hmn) hT Ss S
  exact (ex_links_ok hr (fun _ h => absurd h List.not_mem_nil) _ ec_judge20_l0) y hy)
theorem ec_judge21_l0 : ex_links (ex_runS ei_L0 (nat_lit 1) eu_46 none (ex_K none ei_h0)) ec_judge21_A0 ec_judge21_Y0 = true := by decide +kernel
theorem ec_judge21_e : ex_locs ec_judge21.1 (nat_lit 4) (fun q => ex_runS ei_L0 (nat_lit 1) eu_46 none (ex_K none ei_h0) (ex_pick ec_judge21_Y [(nat_lit 0)]) (0, q, [], ei_h0, 0, 0)) = true := by decide +kernel
theorem ec_judge21_k {l : Launch} {D : va_G} {τ : Nat → ClassId} {sa : List Nat} {A : Nat → Prop} (hmn : em_mna) : em_E l D τ sa A em_inf (nat_lit 46) ec_judge21 := em_ofD hmn (ei_L0_k hmn) (tb := eu_46) (nl := (nat_lit 4)) (ret := none) rfl ec_judge21_e (fun own mn by' hT y hy => by
  have hr := fun (Ss : List ex_S) (S : ex_S) => ex_runS_ok (own := own) (mname := mn) (bytes := by') (nL := (nat_lit 4)) (dd := (nat_lit 1)) (ret := none) (K := (ex_K none ei_h0)) hmn (ei_L0_k (l := l) (D := D) (τ := τ) (sa := sa) (A := A) hmn) hT Ss S
  exact (ex_links_ok hr (fun _ h => absurd h List.not_mem_nil) _ ec_judge21_l0) y hy)
theorem ec_judge22_l0 : ex_links (ex_runS ei_L0 (nat_lit 1) eu_46 none (ex_K none ei_h0)) ec_judge22_A0 ec_judge22_Y0 = true := by decide +kernel
theorem ec_judge22_e : ex_locs ec_judge22.1 (nat_lit 4) (fun q => ex_runS ei_L0 (nat_lit 1) eu_46 none (ex_K none ei_h0) (ex_pick ec_judge22_Y [(nat_lit 0)]) (0, q, [], ei_h0, 0, 0)) = true := by decide +kernel
theorem ec_judge22_k {l : Launch} {D : va_G} {τ : Nat → ClassId} {sa : List Nat} {A : Nat → Prop} (hmn : em_mna) : em_E l D τ sa A em_inf (nat_lit 46) ec_judge22 := em_ofD hmn (ei_L0_k hmn) (tb := eu_46) (nl := (nat_lit 4)) (ret := none) rfl ec_judge22_e (fun own mn by' hT y hy => by
  have hr := fun (Ss : List ex_S) (S : ex_S) => ex_runS_ok (own := own) (mname := mn) (bytes := by') (nL := (nat_lit 4)) (dd := (nat_lit 1)) (ret := none) (K := (ex_K none ei_h0)) hmn (ei_L0_k (l := l) (D := D) (τ := τ) (sa := sa) (A := A) hmn) hT Ss S
  exact (ex_links_ok hr (fun _ h => absurd h List.not_mem_nil) _ ec_judge22_l0) y hy)
theorem ec_judge23_l0 : ex_links (ex_runS ei_L0 (nat_lit 1) eu_46 none (ex_K none ei_h0)) ec_judge23_A0 ec_judge23_Y0 = true := by decide +kernel
theorem ec_judge23_e : ex_locs ec_judge23.1 (nat_lit 4) (fun q => ex_runS ei_L0 (nat_lit 1) eu_46 none (ex_K none ei_h0) (ex_pick ec_judge23_Y [(nat_lit 0)]) (0, q, [], ei_h0, 0, 0)) = true := by decide +kernel
theorem ec_judge23_k {l : Launch} {D : va_G} {τ : Nat → ClassId} {sa : List Nat} {A : Nat → Prop} (hmn : em_mna) : em_E l D τ sa A em_inf (nat_lit 46) ec_judge23 := em_ofD hmn (ei_L0_k hmn) (tb := eu_46) (nl := (nat_lit 4)) (ret := none) rfl ec_judge23_e (fun own mn by' hT y hy => by
  have hr := fun (Ss : List ex_S) (S : ex_S) => ex_runS_ok (own := own) (mname := mn) (bytes := by') (nL := (nat_lit 4)) (dd := (nat_lit 1)) (ret := none) (K := (ex_K none ei_h0)) hmn (ei_L0_k (l := l) (D := D) (τ := τ) (sa := sa) (A := A) hmn) hT Ss S
  exact (ex_links_ok hr (fun _ h => absurd h List.not_mem_nil) _ ec_judge23_l0) y hy)
