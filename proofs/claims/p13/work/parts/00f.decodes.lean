/-! Each method's table, decoded. Printed by wip/p1/gen17.py. -/
/-- an instruction's length -/
def ek_ln (ins : Instr) (len : Nat) : Bool := match ins with
  | .aload _ => Nat.beq len 2
  | .anewarray _ => Nat.beq len 3
  | .astore _ => Nat.beq len 2
  | .bipush _ => Nat.beq len 2
  | .getfield _ => Nat.beq len 3
  | .getstatic _ => Nat.beq len 3
  | .goto _ => Nat.beq len 3
  | .if_icmp _ _ => Nat.beq len 3
  | .ifCond _ _ => Nat.beq len 3
  | .iinc _ _ => Nat.beq len 3
  | .iload _ => Nat.beq len 2
  | .invokespecial _ => Nat.beq len 3
  | .invokestatic _ => Nat.beq len 3
  | .invokevirtual _ => Nat.beq len 3
  | .istore _ => Nat.beq len 2
  | .ldc _ => Nat.beq len 2
  | .ldc_w _ => Nat.beq len 3
  | .ldc2_w _ => Nat.beq len 3
  | .lload _ => Nat.beq len 2
  | .lstore _ => Nat.beq len 2
  | .multianewarray _ _ => Nat.beq len 4
  | .new _ => Nat.beq len 3
  | .newarray _ => Nat.beq len 2
  | .putfield _ => Nat.beq len 3
  | .sipush _ => Nat.beq len 3
  | .tableswitch _ _ _ _ => true
  | _ => Nat.beq len 1
def ek_d (bytes : ByteArray) (x : ex_I) : Bool := decide (decode bytes x.1 = .ok (x.2.1, x.2.2.1)) && ek_ln x.2.1 x.2.2.1
theorem ed_0 : (et_0.all fun ch => ch.all fun x => ek_d prog_2_method_1_code x) = true := by decide +kernel
theorem ed_1 : (et_1.all fun ch => ch.all fun x => ek_d prog_2_method_2_code x) = true := by decide +kernel
theorem ed_2 : (et_2.all fun ch => ch.all fun x => ek_d prog_2_method_3_code x) = true := by decide +kernel
theorem ed_3 : (et_3.all fun ch => ch.all fun x => ek_d prog_2_method_4_code x) = true := by decide +kernel
theorem ed_4 : (et_4.all fun ch => ch.all fun x => ek_d prog_2_method_5_code x) = true := by decide +kernel
theorem ed_5 : (et_5.all fun ch => ch.all fun x => ek_d prog_2_method_6_code x) = true := by decide +kernel
theorem ed_6 : (et_6.all fun ch => ch.all fun x => ek_d prog_2_method_7_code x) = true := by decide +kernel
theorem ed_7 : (et_7.all fun ch => ch.all fun x => ek_d prog_2_method_8_code x) = true := by decide +kernel
theorem ed_8 : (et_8.all fun ch => ch.all fun x => ek_d prog_2_method_9_code x) = true := by decide +kernel
theorem ed_9 : (et_9.all fun ch => ch.all fun x => ek_d prog_2_method_10_code x) = true := by decide +kernel
theorem ed_10 : (et_10.all fun ch => ch.all fun x => ek_d prog_2_method_11_code x) = true := by decide +kernel
theorem ed_11 : (et_11.all fun ch => ch.all fun x => ek_d prog_2_method_12_code x) = true := by decide +kernel
theorem ed_12 : (et_12.all fun ch => ch.all fun x => ek_d prog_2_method_13_code x) = true := by decide +kernel
theorem ed_13 : (et_13.all fun ch => ch.all fun x => ek_d prog_2_method_14_code x) = true := by decide +kernel
theorem ed_14 : (et_14.all fun ch => ch.all fun x => ek_d prog_2_method_15_code x) = true := by decide +kernel
theorem ed_15 : (et_15.all fun ch => ch.all fun x => ek_d prog_2_method_16_code x) = true := by decide +kernel
theorem ed_16 : (et_16.all fun ch => ch.all fun x => ek_d prog_2_method_17_code x) = true := by decide +kernel
theorem ed_17 : (et_17.all fun ch => ch.all fun x => ek_d prog_2_method_18_code x) = true := by decide +kernel
theorem ed_18 : (et_18.all fun ch => ch.all fun x => ek_d prog_2_method_19_code x) = true := by decide +kernel
theorem ed_19 : (et_19.all fun ch => ch.all fun x => ek_d prog_2_method_20_code x) = true := by decide +kernel
theorem ed_20 : (et_20.all fun ch => ch.all fun x => ek_d prog_2_method_21_code x) = true := by decide +kernel
theorem ed_21 : (et_21.all fun ch => ch.all fun x => ek_d prog_2_method_22_code x) = true := by decide +kernel
theorem ed_22 : (et_22.all fun ch => ch.all fun x => ek_d prog_2_method_23_code x) = true := by decide +kernel
theorem ed_23 : (et_23.all fun ch => ch.all fun x => ek_d prog_2_method_24_code x) = true := by decide +kernel
theorem ed_24 : (et_24.all fun ch => ch.all fun x => ek_d prog_2_method_25_code x) = true := by decide +kernel
theorem ed_25 : (et_25.all fun ch => ch.all fun x => ek_d prog_2_method_26_code x) = true := by decide +kernel
theorem ed_26 : (et_26.all fun ch => ch.all fun x => ek_d prog_2_method_27_code x) = true := by decide +kernel
theorem ed_27 : (et_27.all fun ch => ch.all fun x => ek_d prog_2_method_28_code x) = true := by decide +kernel
theorem ed_28 : (et_28.all fun ch => ch.all fun x => ek_d prog_3_method_1_code x) = true := by decide +kernel
theorem ed_29 : (et_29.all fun ch => ch.all fun x => ek_d prog_3_method_2_code x) = true := by decide +kernel
theorem ed_30 : (et_30.all fun ch => ch.all fun x => ek_d prog_4_method_1_code x) = true := by decide +kernel
theorem ed_31 : (et_31.all fun ch => ch.all fun x => ek_d prog_4_method_2_code x) = true := by decide +kernel
theorem ed_32 : (et_32.all fun ch => ch.all fun x => ek_d prog_4_method_3_code x) = true := by decide +kernel
theorem ed_33 : (et_33.all fun ch => ch.all fun x => ek_d prog_4_method_4_code x) = true := by decide +kernel
theorem ed_34 : (et_34.all fun ch => ch.all fun x => ek_d prog_5_method_1_code x) = true := by decide +kernel
theorem ed_35 : (et_35.all fun ch => ch.all fun x => ek_d prog_5_method_2_code x) = true := by decide +kernel
theorem ed_36 : (et_36.all fun ch => ch.all fun x => ek_d prog_5_method_3_code x) = true := by decide +kernel
theorem ed_37 : (et_37.all fun ch => ch.all fun x => ek_d prog_5_method_4_code x) = true := by decide +kernel
theorem ed_38 : (et_38.all fun ch => ch.all fun x => ek_d prog_6_method_1_code x) = true := by decide +kernel
theorem ed_39 : (et_39.all fun ch => ch.all fun x => ek_d prog_6_method_2_code x) = true := by decide +kernel
theorem ed_40 : (et_40.all fun ch => ch.all fun x => ek_d prog_7_method_1_code x) = true := by decide +kernel
theorem ed_41 : (et_41.all fun ch => ch.all fun x => ek_d prog_7_method_2_code x) = true := by decide +kernel
theorem ed_42 : (et_42.all fun ch => ch.all fun x => ek_d prog_7_method_3_code x) = true := by decide +kernel
theorem ed_43 : (et_43.all fun ch => ch.all fun x => ek_d prog_7_method_4_code x) = true := by decide +kernel
theorem ed_44 : (et_44.all fun ch => ch.all fun x => ek_d prog_7_method_5_code x) = true := by decide +kernel
theorem ed_45 : (et_45.all fun ch => ch.all fun x => ek_d prog_7_method_6_code x) = true := by decide +kernel
theorem ed_46 : (et_46.all fun ch => ch.all fun x => ek_d prog_7_method_7_code x) = true := by decide +kernel
theorem ed_47 : (et_47.all fun ch => ch.all fun x => ek_d prog_7_method_8_code x) = true := by decide +kernel
theorem ed_48 : (et_48.all fun ch => ch.all fun x => ek_d prog_7_method_9_code x) = true := by decide +kernel
theorem ed_49 : (et_49.all fun ch => ch.all fun x => ek_d prog_7_method_10_code x) = true := by decide +kernel
theorem ed_50 : (et_50.all fun ch => ch.all fun x => ek_d prog_7_method_11_code x) = true := by decide +kernel
theorem ed_51 : (et_51.all fun ch => ch.all fun x => ek_d prog_7_method_12_code x) = true := by decide +kernel
theorem ed_52 : (et_52.all fun ch => ch.all fun x => ek_d prog_8_method_1_code x) = true := by decide +kernel
theorem ed_53 : (et_53.all fun ch => ch.all fun x => ek_d prog_8_method_2_code x) = true := by decide +kernel
theorem ed_54 : (et_54.all fun ch => ch.all fun x => ek_d prog_9_method_1_code x) = true := by decide +kernel
theorem ed_55 : (et_55.all fun ch => ch.all fun x => ek_d prog_9_method_2_code x) = true := by decide +kernel
theorem ed_56 : (et_56.all fun ch => ch.all fun x => ek_d prog_9_method_3_code x) = true := by decide +kernel
theorem ed_57 : (et_57.all fun ch => ch.all fun x => ek_d prog_9_method_4_code x) = true := by decide +kernel
theorem ed_58 : (et_58.all fun ch => ch.all fun x => ek_d prog_9_method_5_code x) = true := by decide +kernel
theorem ed_59 : (et_59.all fun ch => ch.all fun x => ek_d prog_10_method_1_code x) = true := by decide +kernel
theorem ed_60 : (et_60.all fun ch => ch.all fun x => ek_d prog_10_method_2_code x) = true := by decide +kernel
theorem ed_61 : (et_61.all fun ch => ch.all fun x => ek_d prog_10_method_3_code x) = true := by decide +kernel
theorem ed_62 : (et_62.all fun ch => ch.all fun x => ek_d prog_10_method_4_code x) = true := by decide +kernel
theorem ed_63 : (et_63.all fun ch => ch.all fun x => ek_d prog_10_method_5_code x) = true := by decide +kernel
theorem ed_64 : (et_64.all fun ch => ch.all fun x => ek_d prog_10_method_6_code x) = true := by decide +kernel
theorem ed_65 : (et_65.all fun ch => ch.all fun x => ek_d prog_10_method_7_code x) = true := by decide +kernel
theorem ed_66 : (et_66.all fun ch => ch.all fun x => ek_d prog_10_method_8_code x) = true := by decide +kernel
theorem ed_67 : (et_67.all fun ch => ch.all fun x => ek_d prog_10_method_9_code x) = true := by decide +kernel
theorem ed_68 : (et_68.all fun ch => ch.all fun x => ek_d prog_10_method_10_code x) = true := by decide +kernel
theorem ed_69 : (et_69.all fun ch => ch.all fun x => ek_d prog_10_method_11_code x) = true := by decide +kernel
theorem ed_70 : (et_70.all fun ch => ch.all fun x => ek_d prog_11_method_1_code x) = true := by decide +kernel
theorem ed_71 : (et_71.all fun ch => ch.all fun x => ek_d prog_11_method_2_code x) = true := by decide +kernel
theorem ed_72 : (et_72.all fun ch => ch.all fun x => ek_d prog_11_method_3_code x) = true := by decide +kernel
theorem ed_73 : (et_73.all fun ch => ch.all fun x => ek_d prog_11_method_4_code x) = true := by decide +kernel
theorem ed_74 : (et_74.all fun ch => ch.all fun x => ek_d prog_11_method_5_code x) = true := by decide +kernel
theorem ed_75 : (et_75.all fun ch => ch.all fun x => ek_d prog_11_method_6_code x) = true := by decide +kernel
theorem ed_76 : (et_76.all fun ch => ch.all fun x => ek_d prog_11_method_7_code x) = true := by decide +kernel
theorem ed_77 : (et_77.all fun ch => ch.all fun x => ek_d prog_11_method_8_code x) = true := by decide +kernel
theorem ed_78 : (et_78.all fun ch => ch.all fun x => ek_d prog_11_method_9_code x) = true := by decide +kernel
theorem ed_79 : (et_79.all fun ch => ch.all fun x => ek_d prog_11_method_10_code x) = true := by decide +kernel
theorem ed_80 : (et_80.all fun ch => ch.all fun x => ek_d prog_11_method_11_code x) = true := by decide +kernel
theorem ed_81 : (et_81.all fun ch => ch.all fun x => ek_d prog_11_method_12_code x) = true := by decide +kernel
theorem ed_82 : (et_82.all fun ch => ch.all fun x => ek_d prog_12_method_1_code x) = true := by decide +kernel
theorem ed_83 : (et_83.all fun ch => ch.all fun x => ek_d prog_12_method_2_code x) = true := by decide +kernel
theorem ed_84 : (et_84.all fun ch => ch.all fun x => ek_d prog_1_method_1_code x) = true := by decide +kernel
theorem ed_85 : (et_85.all fun ch => ch.all fun x => ek_d prog_1_method_2_code x) = true := by decide +kernel
theorem ed_86 : (et_86.all fun ch => ch.all fun x => ek_d prog_1_method_3_code x) = true := by decide +kernel
theorem ed_87 : (et_87.all fun ch => ch.all fun x => ek_d prog_1_method_4_code x) = true := by decide +kernel
theorem ed_88 : (et_88.all fun ch => ch.all fun x => ek_d prog_1_method_5_code x) = true := by decide +kernel
theorem ed_89 : (et_89.all fun ch => ch.all fun x => ek_d prog_1_method_6_code x) = true := by decide +kernel
theorem ed_90 : (et_90.all fun ch => ch.all fun x => ek_d prog_1_method_7_code x) = true := by decide +kernel
theorem ed_91 : (et_91.all fun ch => ch.all fun x => ek_d prog_1_method_8_code x) = true := by decide +kernel
theorem ed_92 : (et_92.all fun ch => ch.all fun x => ek_d prog_1_method_9_code x) = true := by decide +kernel
theorem ed_93 : (et_93.all fun ch => ch.all fun x => ek_d prog_1_method_10_code x) = true := by decide +kernel
theorem ed_94 : (et_94.all fun ch => ch.all fun x => ek_d prog_1_method_11_code x) = true := by decide +kernel
theorem ed_95 : (et_95.all fun ch => ch.all fun x => ek_d prog_1_method_12_code x) = true := by decide +kernel
theorem ed_96 : (et_96.all fun ch => ch.all fun x => ek_d prog_1_method_13_code x) = true := by decide +kernel
theorem ed_97 : (et_97.all fun ch => ch.all fun x => ek_d prog_1_method_14_code x) = true := by decide +kernel
theorem ed_98 : (et_98.all fun ch => ch.all fun x => ek_d prog_1_method_15_code x) = true := by decide +kernel
theorem ed_99 : (et_99.all fun ch => ch.all fun x => ek_d prog_1_method_16_code x) = true := by decide +kernel
theorem ed_100 : (et_100.all fun ch => ch.all fun x => ek_d prog_1_method_17_code x) = true := by decide +kernel
theorem ed_101 : (et_101.all fun ch => ch.all fun x => ek_d prog_1_method_18_code x) = true := by decide +kernel
theorem ed_102 : (et_102.all fun ch => ch.all fun x => ek_d prog_1_method_19_code x) = true := by decide +kernel
theorem ed_103 : (et_103.all fun ch => ch.all fun x => ek_d prog_1_method_20_code x) = true := by decide +kernel
theorem ed_104 : (et_104.all fun ch => ch.all fun x => ek_d prog_1_method_21_code x) = true := by decide +kernel
theorem ed_105 : (et_105.all fun ch => ch.all fun x => ek_d prog_1_method_22_code x) = true := by decide +kernel
theorem ed_106 : (et_106.all fun ch => ch.all fun x => ek_d prog_1_method_23_code x) = true := by decide +kernel
theorem ed_107 : (et_107.all fun ch => ch.all fun x => ek_d prog_1_method_24_code x) = true := by decide +kernel
theorem ed_108 : (et_108.all fun ch => ch.all fun x => ek_d prog_1_method_25_code x) = true := by decide +kernel
theorem ed_109 : (et_109.all fun ch => ch.all fun x => ek_d prog_1_method_26_code x) = true := by decide +kernel
theorem ed_110 : (et_110.all fun ch => ch.all fun x => ek_d prog_1_method_27_code x) = true := by decide +kernel
theorem ed_111 : (et_111.all fun ch => ch.all fun x => ek_d prog_1_method_28_code x) = true := by decide +kernel
theorem ed_112 : (et_112.all fun ch => ch.all fun x => ek_d prog_1_method_29_code x) = true := by decide +kernel
theorem ed_113 : (et_113.all fun ch => ch.all fun x => ek_d prog_1_method_30_code x) = true := by decide +kernel
theorem ed_114 : (et_114.all fun ch => ch.all fun x => ek_d prog_1_method_31_code x) = true := by decide +kernel
theorem ed_115 : (et_115.all fun ch => ch.all fun x => ek_d prog_1_method_32_code x) = true := by decide +kernel
theorem ed_116 : (et_116.all fun ch => ch.all fun x => ek_d prog_1_method_33_code x) = true := by decide +kernel
theorem ed_117 : (et_117.all fun ch => ch.all fun x => ek_d prog_1_method_34_code x) = true := by decide +kernel
theorem ed_118 : (et_118.all fun ch => ch.all fun x => ek_d prog_1_method_35_code x) = true := by decide +kernel
theorem ed_119 : (et_119.all fun ch => ch.all fun x => ek_d prog_1_method_36_code x) = true := by decide +kernel
theorem ed_120 : (et_120.all fun ch => ch.all fun x => ek_d prog_1_method_37_code x) = true := by decide +kernel
theorem ed_121 : (et_121.all fun ch => ch.all fun x => ek_d prog_1_method_38_code x) = true := by decide +kernel
theorem ed_122 : (et_122.all fun ch => ch.all fun x => ek_d prog_1_method_39_code x) = true := by decide +kernel
theorem ed_123 : (et_123.all fun ch => ch.all fun x => ek_d prog_1_method_40_code x) = true := by decide +kernel
theorem ed_124 : (et_124.all fun ch => ch.all fun x => ek_d prog_1_method_41_code x) = true := by decide +kernel
theorem ed_125 : (et_125.all fun ch => ch.all fun x => ek_d prog_1_method_42_code x) = true := by decide +kernel
theorem ed_126 : (et_126.all fun ch => ch.all fun x => ek_d prog_14_method_2_code x) = true := by decide +kernel
theorem ed_127 : (et_127.all fun ch => ch.all fun x => ek_d prog_14_method_3_code x) = true := by decide +kernel
theorem ed_128 : (et_128.all fun ch => ch.all fun x => ek_d prog_14_method_4_code x) = true := by decide +kernel
theorem ed_129 : (et_129.all fun ch => ch.all fun x => ek_d prog_14_method_5_code x) = true := by decide +kernel
theorem ed_130 : (et_130.all fun ch => ch.all fun x => ek_d prog_14_method_6_code x) = true := by decide +kernel
theorem ed_131 : (et_131.all fun ch => ch.all fun x => ek_d prog_14_method_7_code x) = true := by decide +kernel
theorem ed_132 : (et_132.all fun ch => ch.all fun x => ek_d prog_14_method_8_code x) = true := by decide +kernel
theorem ed_133 : (et_133.all fun ch => ch.all fun x => ek_d prog_14_method_9_code x) = true := by decide +kernel
theorem ed_134 : (et_134.all fun ch => ch.all fun x => ek_d prog_14_method_10_code x) = true := by decide +kernel
theorem ed_135 : (et_135.all fun ch => ch.all fun x => ek_d prog_14_method_11_code x) = true := by decide +kernel
theorem ed_136 : (et_136.all fun ch => ch.all fun x => ek_d prog_14_method_12_code x) = true := by decide +kernel
theorem ed_137 : (et_137.all fun ch => ch.all fun x => ek_d prog_14_method_13_code x) = true := by decide +kernel
theorem ed_138 : (et_138.all fun ch => ch.all fun x => ek_d prog_14_method_14_code x) = true := by decide +kernel
theorem ed_139 : (et_139.all fun ch => ch.all fun x => ek_d prog_14_method_15_code x) = true := by decide +kernel
theorem ed_140 : (et_140.all fun ch => ch.all fun x => ek_d prog_14_method_16_code x) = true := by decide +kernel
theorem ed_141 : (et_141.all fun ch => ch.all fun x => ek_d prog_14_method_17_code x) = true := by decide +kernel
theorem ed_142 : (et_142.all fun ch => ch.all fun x => ek_d prog_14_method_18_code x) = true := by decide +kernel
theorem ed_143 : (et_143.all fun ch => ch.all fun x => ek_d prog_14_method_19_code x) = true := by decide +kernel
theorem ed_144 : (et_144.all fun ch => ch.all fun x => ek_d prog_14_method_20_code x) = true := by decide +kernel
theorem ed_145 : (et_145.all fun ch => ch.all fun x => ek_d prog_14_method_21_code x) = true := by decide +kernel
theorem ed_146 : (et_146.all fun ch => ch.all fun x => ek_d prog_14_method_22_code x) = true := by decide +kernel
theorem ed_147 : (et_147.all fun ch => ch.all fun x => ek_d prog_14_method_23_code x) = true := by decide +kernel
theorem ed_148 : (et_148.all fun ch => ch.all fun x => ek_d prog_14_method_24_code x) = true := by decide +kernel
theorem ed_149 : (et_149.all fun ch => ch.all fun x => ek_d prog_14_method_25_code x) = true := by decide +kernel
theorem ed_150 : (et_150.all fun ch => ch.all fun x => ek_d prog_14_method_26_code x) = true := by decide +kernel
theorem ed_151 : (et_151.all fun ch => ch.all fun x => ek_d prog_14_method_27_code x) = true := by decide +kernel
theorem ed_152 : (et_152.all fun ch => ch.all fun x => ek_d prog_14_method_28_code x) = true := by decide +kernel
theorem ed_153 : (et_153.all fun ch => ch.all fun x => ek_d prog_14_method_29_code x) = true := by decide +kernel
theorem ed_154 : (et_154.all fun ch => ch.all fun x => ek_d prog_14_method_30_code x) = true := by decide +kernel
theorem ed_155 : (et_155.all fun ch => ch.all fun x => ek_d prog_14_method_31_code x) = true := by decide +kernel
theorem ed_156 : (et_156.all fun ch => ch.all fun x => ek_d prog_14_method_32_code x) = true := by decide +kernel
theorem ed_157 : (et_157.all fun ch => ch.all fun x => ek_d prog_14_method_33_code x) = true := by decide +kernel
theorem ed_158 : (et_158.all fun ch => ch.all fun x => ek_d prog_14_method_34_code x) = true := by decide +kernel
theorem ed_159 : (et_159.all fun ch => ch.all fun x => ek_d prog_14_method_35_code x) = true := by decide +kernel
theorem ed_160 : (et_160.all fun ch => ch.all fun x => ek_d prog_14_method_36_code x) = true := by decide +kernel
theorem ed_161 : (et_161.all fun ch => ch.all fun x => ek_d prog_14_method_37_code x) = true := by decide +kernel
theorem ed_162 : (et_162.all fun ch => ch.all fun x => ek_d prog_14_method_38_code x) = true := by decide +kernel
theorem ed_163 : (et_163.all fun ch => ch.all fun x => ek_d prog_14_method_39_code x) = true := by decide +kernel
theorem ed_164 : (et_164.all fun ch => ch.all fun x => ek_d prog_14_method_40_code x) = true := by decide +kernel
theorem ed_165 : (et_165.all fun ch => ch.all fun x => ek_d prog_14_method_41_code x) = true := by decide +kernel
theorem ed_166 : (et_166.all fun ch => ch.all fun x => ek_d prog_14_method_42_code x) = true := by decide +kernel
theorem ed_167 : (et_167.all fun ch => ch.all fun x => ek_d prog_14_method_43_code x) = true := by decide +kernel
theorem ed_168 : (et_168.all fun ch => ch.all fun x => ek_d prog_14_method_44_code x) = true := by decide +kernel
theorem ed_169 : (et_169.all fun ch => ch.all fun x => ek_d prog_14_method_45_code x) = true := by decide +kernel
theorem ed_170 : (et_170.all fun ch => ch.all fun x => ek_d prog_14_method_46_code x) = true := by decide +kernel
theorem ed_171 : (et_171.all fun ch => ch.all fun x => ek_d prog_14_method_47_code x) = true := by decide +kernel
theorem ed_172 : (et_172.all fun ch => ch.all fun x => ek_d prog_14_method_48_code x) = true := by decide +kernel
theorem ed_173 : (et_173.all fun ch => ch.all fun x => ek_d prog_14_method_49_code x) = true := by decide +kernel
theorem ed_174 : (et_174.all fun ch => ch.all fun x => ek_d prog_14_method_50_code x) = true := by decide +kernel
theorem ed_175 : (et_175.all fun ch => ch.all fun x => ek_d prog_14_method_51_code x) = true := by decide +kernel
theorem ed_176 : (et_176.all fun ch => ch.all fun x => ek_d prog_14_method_52_code x) = true := by decide +kernel
theorem ed_177 : (et_177.all fun ch => ch.all fun x => ek_d prog_14_method_53_code x) = true := by decide +kernel
theorem ed_178 : (et_178.all fun ch => ch.all fun x => ek_d prog_14_method_54_code x) = true := by decide +kernel
theorem ed_179 : (et_179.all fun ch => ch.all fun x => ek_d prog_14_method_55_code x) = true := by decide +kernel
theorem ed_180 : (et_180.all fun ch => ch.all fun x => ek_d prog_14_method_56_code x) = true := by decide +kernel
theorem ed_181 : (et_181.all fun ch => ch.all fun x => ek_d prog_14_method_57_code x) = true := by decide +kernel
theorem ed_182 : (et_182.all fun ch => ch.all fun x => ek_d prog_14_method_58_code x) = true := by decide +kernel
theorem ed_183 : (et_183.all fun ch => ch.all fun x => ek_d prog_14_method_59_code x) = true := by decide +kernel
theorem ed_184 : (et_184.all fun ch => ch.all fun x => ek_d prog_14_method_60_code x) = true := by decide +kernel
theorem ed_185 : (et_185.all fun ch => ch.all fun x => ek_d prog_14_method_61_code x) = true := by decide +kernel
theorem ed_186 : (et_186.all fun ch => ch.all fun x => ek_d prog_14_method_62_code x) = true := by decide +kernel
theorem ed_187 : (et_187.all fun ch => ch.all fun x => ek_d prog_14_method_63_code x) = true := by decide +kernel
theorem ed_188 : (et_188.all fun ch => ch.all fun x => ek_d prog_14_method_64_code x) = true := by decide +kernel
theorem ed_189 : (et_189.all fun ch => ch.all fun x => ek_d prog_14_method_65_code x) = true := by decide +kernel
theorem ed_190 : (et_190.all fun ch => ch.all fun x => ek_d prog_14_method_66_code x) = true := by decide +kernel
theorem ed_191 : (et_191.all fun ch => ch.all fun x => ek_d prog_14_method_67_code x) = true := by decide +kernel
theorem ed_192 : (et_192.all fun ch => ch.all fun x => ek_d prog_14_method_68_code x) = true := by decide +kernel
theorem ed_193 : (et_193.all fun ch => ch.all fun x => ek_d prog_14_method_69_code x) = true := by decide +kernel
theorem ed_194 : (et_194.all fun ch => ch.all fun x => ek_d prog_14_method_70_code x) = true := by decide +kernel
theorem ed_195 : (et_195.all fun ch => ch.all fun x => ek_d prog_14_method_71_code x) = true := by decide +kernel
theorem ed_196 : (et_196.all fun ch => ch.all fun x => ek_d prog_14_method_72_code x) = true := by decide +kernel
theorem ed_197 : (et_197.all fun ch => ch.all fun x => ek_d prog_14_method_73_code x) = true := by decide +kernel
theorem ed_198 : (et_198.all fun ch => ch.all fun x => ek_d prog_14_method_74_code x) = true := by decide +kernel
theorem ed_199 : (et_199.all fun ch => ch.all fun x => ek_d prog_14_method_75_code x) = true := by decide +kernel
theorem ed_200 : (et_200.all fun ch => ch.all fun x => ek_d prog_14_method_76_code x) = true := by decide +kernel
theorem ed_201 : (et_201.all fun ch => ch.all fun x => ek_d prog_14_method_77_code x) = true := by decide +kernel
theorem ed_202 : (et_202.all fun ch => ch.all fun x => ek_d prog_14_method_78_code x) = true := by decide +kernel
theorem ed_203 : (et_203.all fun ch => ch.all fun x => ek_d prog_14_method_79_code x) = true := by decide +kernel
theorem ed_204 : (et_204.all fun ch => ch.all fun x => ek_d prog_15_method_49_code x) = true := by decide +kernel
theorem ed_205 : (et_205.all fun ch => ch.all fun x => ek_d prog_16_method_50_code x) = true := by decide +kernel
theorem ed_206 : (et_206.all fun ch => ch.all fun x => ek_d prog_16_method_59_code x) = true := by decide +kernel
theorem ed_207 : (et_207.all fun ch => ch.all fun x => ek_d prog_16_method_65_code x) = true := by decide +kernel
theorem ed_208 : (et_208.all fun ch => ch.all fun x => ek_d prog_16_method_69_code x) = true := by decide +kernel
