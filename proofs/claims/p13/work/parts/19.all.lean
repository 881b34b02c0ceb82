/-! All methods at once; words that any method may need. Printed by wip/p1/gen19.py. -/
theorem ew_1118 : Jvm.Cond.arrayClass .int ∈ eg_T := eg_m1 131 (by decide +kernel) rfl
theorem ew_1119 : Jvm.Cond.arrayClass .boolean ∈ eg_T := eg_m1 161 (by decide +kernel) rfl
theorem ew_1120 : Jvm.Cond.native ⟨"java/lang/System", "arraycopy", "(Ljava/lang/Object;ILjava/lang/Object;II)V"⟩ ∈ eg_T := eg_m1 45 (by decide +kernel) rfl
theorem ew_1121 : Jvm.Cond.static ⟨"java/lang/System", "arraycopy", "(Ljava/lang/Object;ILjava/lang/Object;II)V"⟩ ∈ eg_T := eg_m1 44 (by decide +kernel) rfl
theorem ew_1122 : Jvm.Cond.initialized "java/lang/System" ∈ eg_T := eg_m1 3 (by decide +kernel) rfl
theorem ew_1123 : Jvm.Cond.instanceMethod ⟨"java/lang/Object", "<init>", "()V"⟩ ∈ eg_T := eg_m1 27 (by decide +kernel) rfl
/-- the runner's own form of an instruction -/
noncomputable def ef_h (ins : Instr) (a : Nat) : ex_D := match ins with
  | .invokevirtual i => (match et_vt[a]? with | some row => ex_iv row | none => ex_disp (.invokevirtual i))
  | ins => ex_disp ins
noncomputable def ef (x : ex_I) : ex_J := (x.1, ef_h x.2.1 x.2.2.2.1, x.2.2.2.1, x.2.2.2.2.1, x.2.2.2.2.2)
theorem ex_iv_ok {vt : List (List (Nat × Nat))} {a : Nat} {row : List (Nat × Nat)} (h : vt[a]? = some row) (cls lim ret go cal nat K pc b z ls st hp ce sl) : ex_iv row cls vt lim ret go cal nat K pc a b z ls st hp ce sl = eh_invokevirtual cls vt lim ret go cal nat K pc a b z ls st hp ce sl := by
  have h1 : ∀ k : List (Nat × Nat) → Bool, ex_get vt a k = k row := fun k => ex_get_eq vt a k row h
  have h2 : ∀ k : List (Nat × Nat) → Bool, ex_get [row] 0 k = k row := fun k => rfl
  show eh_invokevirtual cls [row] lim ret go cal nat K pc 0 b z ls st hp ce sl = _
  unfold eh_invokevirtual
  simp only [h1, h2]
theorem ef_h_ok (ins : Instr) (a : Nat) (cls lim ret go cal nat K pc b z ls st hp ce sl) : ef_h ins a cls et_vt lim ret go cal nat K pc a b z ls st hp ce sl = true → ex_disp ins cls et_vt lim ret go cal nat K pc a b z ls st hp ce sl = true := by
  unfold ef_h
  split
  · cases hrow : et_vt[a]? with
    | none => exact id
    | some row =>
      intro hk
      replace hk : ex_iv row cls et_vt lim ret go cal nat K pc a b z ls st hp ce sl = true := hk
      rw [ex_iv_ok hrow] at hk
      exact hk
  · exact id
theorem ef_ok {inf : List (MethodName × ByteArray × Nat × Option FieldType)} {cls : List (List ex_V)} {own mname : String} {bytes : ByteArray} {x : ex_I} (h : ek_ok inf cls et_vt own mname bytes x) : ek_J inf cls et_vt own mname bytes (ef x) :=
  ⟨x.2.1, x.2.2.1, x.2.2.2.1, fun lim ret go cal nat K pc b z ls st hp ce sl hk => ef_h_ok _ _ _ _ _ _ _ _ _ _ _ _ _ _ _ _ _ hk, h⟩
theorem ef_all {inf : List (MethodName × ByteArray × Nat × Option FieldType)} {cls : List (List ex_V)} {own mname : String} {bytes : ByteArray} {tb : List (List ex_I)} {tu : List (List ex_J)} (e : tu.flatten = tb.flatten.map ef) (h : ∀ ch ∈ tb, ∀ x ∈ ch, ek_ok inf cls et_vt own mname bytes x) : ∀ ch ∈ tu, ∀ x ∈ ch, ek_J inf cls et_vt own mname bytes x := by
  intro ch hch x hx
  have hm : x ∈ tu.flatten := List.mem_flatten.mpr ⟨ch, hch, hx⟩
  rw [e] at hm
  obtain ⟨y, hy, rfl⟩ := List.mem_map.mp hm
  obtain ⟨r, hr, hyr⟩ := List.mem_flatten.mp hy
  exact ef_ok (h r hr y hyr)
def eo_P (mi : Nat) : Prop := ∀ (tb : List (List ex_J)) (nl : Nat) (ret : Option FieldType) (mc sc : Nat), ex_at2 eu_ms mi = some (tb, nl, ret, mc, sc) → ∃ (y : MethodName) (bytes : ByteArray), em_inf[mi]? = some (y, bytes, nl, ret) ∧ plainFor y = true ∧ nl ≤ 45 ∧ ∀ ch ∈ tb, ∀ x ∈ ch, ek_J em_inf et_cls et_vt y.cls y.name bytes x
set_option maxRecDepth 100000 in
theorem eq_0 : eu_0.flatten = et_0.flatten.map ef := rfl
set_option maxRecDepth 100000 in
theorem eq_1 : eu_1.flatten = et_1.flatten.map ef := rfl
set_option maxRecDepth 100000 in
theorem eq_2 : eu_2.flatten = et_2.flatten.map ef := rfl
set_option maxRecDepth 100000 in
theorem eq_3 : eu_3.flatten = et_3.flatten.map ef := rfl
set_option maxRecDepth 100000 in
theorem eq_4 : eu_4.flatten = et_4.flatten.map ef := rfl
set_option maxRecDepth 100000 in
theorem eq_5 : eu_5.flatten = et_5.flatten.map ef := rfl
set_option maxRecDepth 100000 in
theorem eq_6 : eu_6.flatten = et_6.flatten.map ef := rfl
set_option maxRecDepth 100000 in
theorem eq_7 : eu_7.flatten = et_7.flatten.map ef := rfl
set_option maxRecDepth 100000 in
theorem eq_8 : eu_8.flatten = et_8.flatten.map ef := rfl
set_option maxRecDepth 100000 in
theorem eq_9 : eu_9.flatten = et_9.flatten.map ef := rfl
set_option maxRecDepth 100000 in
theorem eq_10 : eu_10.flatten = et_10.flatten.map ef := rfl
set_option maxRecDepth 100000 in
theorem eq_11 : eu_11.flatten = et_11.flatten.map ef := rfl
set_option maxRecDepth 100000 in
theorem eq_12 : eu_12.flatten = et_12.flatten.map ef := rfl
set_option maxRecDepth 100000 in
theorem eq_13 : eu_13.flatten = et_13.flatten.map ef := rfl
set_option maxRecDepth 100000 in
theorem eq_14 : eu_14.flatten = et_14.flatten.map ef := rfl
set_option maxRecDepth 100000 in
theorem eq_15 : eu_15.flatten = et_15.flatten.map ef := rfl
set_option maxRecDepth 100000 in
theorem eq_16 : eu_16.flatten = et_16.flatten.map ef := rfl
set_option maxRecDepth 100000 in
theorem eq_17 : eu_17.flatten = et_17.flatten.map ef := rfl
set_option maxRecDepth 100000 in
theorem eq_18 : eu_18.flatten = et_18.flatten.map ef := rfl
set_option maxRecDepth 100000 in
theorem eq_19 : eu_19.flatten = et_19.flatten.map ef := rfl
set_option maxRecDepth 100000 in
theorem eq_20 : eu_20.flatten = et_20.flatten.map ef := rfl
set_option maxRecDepth 100000 in
theorem eq_21 : eu_21.flatten = et_21.flatten.map ef := rfl
set_option maxRecDepth 100000 in
theorem eq_22 : eu_22.flatten = et_22.flatten.map ef := rfl
set_option maxRecDepth 100000 in
theorem eq_23 : eu_23.flatten = et_23.flatten.map ef := rfl
set_option maxRecDepth 100000 in
theorem eq_24 : eu_24.flatten = et_24.flatten.map ef := rfl
set_option maxRecDepth 100000 in
theorem eq_25 : eu_25.flatten = et_25.flatten.map ef := rfl
set_option maxRecDepth 100000 in
theorem eq_26 : eu_26.flatten = et_26.flatten.map ef := rfl
set_option maxRecDepth 100000 in
theorem eq_27 : eu_27.flatten = et_27.flatten.map ef := rfl
set_option maxRecDepth 100000 in
theorem eq_28 : eu_28.flatten = et_28.flatten.map ef := rfl
set_option maxRecDepth 100000 in
theorem eq_29 : eu_29.flatten = et_29.flatten.map ef := rfl
set_option maxRecDepth 100000 in
theorem eq_30 : eu_30.flatten = et_30.flatten.map ef := rfl
set_option maxRecDepth 100000 in
theorem eq_31 : eu_31.flatten = et_31.flatten.map ef := rfl
set_option maxRecDepth 100000 in
theorem eq_32 : eu_32.flatten = et_32.flatten.map ef := rfl
set_option maxRecDepth 100000 in
theorem eq_33 : eu_33.flatten = et_33.flatten.map ef := rfl
set_option maxRecDepth 100000 in
theorem eq_34 : eu_34.flatten = et_34.flatten.map ef := rfl
set_option maxRecDepth 100000 in
theorem eq_35 : eu_35.flatten = et_35.flatten.map ef := rfl
set_option maxRecDepth 100000 in
theorem eq_36 : eu_36.flatten = et_36.flatten.map ef := rfl
set_option maxRecDepth 100000 in
theorem eq_37 : eu_37.flatten = et_37.flatten.map ef := rfl
set_option maxRecDepth 100000 in
theorem eq_38 : eu_38.flatten = et_38.flatten.map ef := rfl
set_option maxRecDepth 100000 in
theorem eq_39 : eu_39.flatten = et_39.flatten.map ef := rfl
set_option maxRecDepth 100000 in
theorem eq_40 : eu_40.flatten = et_40.flatten.map ef := rfl
set_option maxRecDepth 100000 in
theorem eq_41 : eu_41.flatten = et_41.flatten.map ef := rfl
set_option maxRecDepth 100000 in
theorem eq_42 : eu_42.flatten = et_42.flatten.map ef := rfl
set_option maxRecDepth 100000 in
theorem eq_43 : eu_43.flatten = et_43.flatten.map ef := rfl
set_option maxRecDepth 100000 in
theorem eq_44 : eu_44.flatten = et_44.flatten.map ef := rfl
set_option maxRecDepth 100000 in
theorem eq_45 : eu_45.flatten = et_45.flatten.map ef := rfl
set_option maxRecDepth 100000 in
theorem eq_46 : eu_46.flatten = et_46.flatten.map ef := rfl
set_option maxRecDepth 100000 in
theorem eq_47 : eu_47.flatten = et_47.flatten.map ef := rfl
set_option maxRecDepth 100000 in
theorem eq_48 : eu_48.flatten = et_48.flatten.map ef := rfl
set_option maxRecDepth 100000 in
theorem eq_49 : eu_49.flatten = et_49.flatten.map ef := rfl
set_option maxRecDepth 100000 in
theorem eq_50 : eu_50.flatten = et_50.flatten.map ef := rfl
set_option maxRecDepth 100000 in
theorem eq_51 : eu_51.flatten = et_51.flatten.map ef := rfl
set_option maxRecDepth 100000 in
theorem eq_52 : eu_52.flatten = et_52.flatten.map ef := rfl
set_option maxRecDepth 100000 in
theorem eq_53 : eu_53.flatten = et_53.flatten.map ef := rfl
set_option maxRecDepth 100000 in
theorem eq_54 : eu_54.flatten = et_54.flatten.map ef := rfl
set_option maxRecDepth 100000 in
theorem eq_55 : eu_55.flatten = et_55.flatten.map ef := rfl
set_option maxRecDepth 100000 in
theorem eq_56 : eu_56.flatten = et_56.flatten.map ef := rfl
set_option maxRecDepth 100000 in
theorem eq_57 : eu_57.flatten = et_57.flatten.map ef := rfl
set_option maxRecDepth 100000 in
theorem eq_58 : eu_58.flatten = et_58.flatten.map ef := rfl
set_option maxRecDepth 100000 in
theorem eq_59 : eu_59.flatten = et_59.flatten.map ef := rfl
set_option maxRecDepth 100000 in
theorem eq_60 : eu_60.flatten = et_60.flatten.map ef := rfl
set_option maxRecDepth 100000 in
theorem eq_61 : eu_61.flatten = et_61.flatten.map ef := rfl
set_option maxRecDepth 100000 in
theorem eq_62 : eu_62.flatten = et_62.flatten.map ef := rfl
set_option maxRecDepth 100000 in
theorem eq_63 : eu_63.flatten = et_63.flatten.map ef := rfl
set_option maxRecDepth 100000 in
theorem eq_64 : eu_64.flatten = et_64.flatten.map ef := rfl
set_option maxRecDepth 100000 in
theorem eq_65 : eu_65.flatten = et_65.flatten.map ef := rfl
set_option maxRecDepth 100000 in
theorem eq_66 : eu_66.flatten = et_66.flatten.map ef := rfl
set_option maxRecDepth 100000 in
theorem eq_67 : eu_67.flatten = et_67.flatten.map ef := rfl
set_option maxRecDepth 100000 in
theorem eq_68 : eu_68.flatten = et_68.flatten.map ef := rfl
set_option maxRecDepth 100000 in
theorem eq_69 : eu_69.flatten = et_69.flatten.map ef := rfl
set_option maxRecDepth 100000 in
theorem eq_70 : eu_70.flatten = et_70.flatten.map ef := rfl
set_option maxRecDepth 100000 in
theorem eq_71 : eu_71.flatten = et_71.flatten.map ef := rfl
set_option maxRecDepth 100000 in
theorem eq_72 : eu_72.flatten = et_72.flatten.map ef := rfl
set_option maxRecDepth 100000 in
theorem eq_73 : eu_73.flatten = et_73.flatten.map ef := rfl
set_option maxRecDepth 100000 in
theorem eq_74 : eu_74.flatten = et_74.flatten.map ef := rfl
set_option maxRecDepth 100000 in
theorem eq_75 : eu_75.flatten = et_75.flatten.map ef := rfl
set_option maxRecDepth 100000 in
theorem eq_76 : eu_76.flatten = et_76.flatten.map ef := rfl
set_option maxRecDepth 100000 in
theorem eq_77 : eu_77.flatten = et_77.flatten.map ef := rfl
set_option maxRecDepth 100000 in
theorem eq_78 : eu_78.flatten = et_78.flatten.map ef := rfl
set_option maxRecDepth 100000 in
theorem eq_79 : eu_79.flatten = et_79.flatten.map ef := rfl
set_option maxRecDepth 100000 in
theorem eq_80 : eu_80.flatten = et_80.flatten.map ef := rfl
set_option maxRecDepth 100000 in
theorem eq_81 : eu_81.flatten = et_81.flatten.map ef := rfl
set_option maxRecDepth 100000 in
theorem eq_82 : eu_82.flatten = et_82.flatten.map ef := rfl
set_option maxRecDepth 100000 in
theorem eq_83 : eu_83.flatten = et_83.flatten.map ef := rfl
set_option maxRecDepth 100000 in
theorem eq_84 : eu_84.flatten = et_84.flatten.map ef := rfl
set_option maxRecDepth 100000 in
theorem eq_85 : eu_85.flatten = et_85.flatten.map ef := rfl
set_option maxRecDepth 100000 in
theorem eq_86 : eu_86.flatten = et_86.flatten.map ef := rfl
set_option maxRecDepth 100000 in
theorem eq_87 : eu_87.flatten = et_87.flatten.map ef := rfl
set_option maxRecDepth 100000 in
theorem eq_88 : eu_88.flatten = et_88.flatten.map ef := rfl
set_option maxRecDepth 100000 in
theorem eq_89 : eu_89.flatten = et_89.flatten.map ef := rfl
set_option maxRecDepth 100000 in
theorem eq_90 : eu_90.flatten = et_90.flatten.map ef := rfl
set_option maxRecDepth 100000 in
theorem eq_91 : eu_91.flatten = et_91.flatten.map ef := rfl
set_option maxRecDepth 100000 in
theorem eq_92 : eu_92.flatten = et_92.flatten.map ef := rfl
set_option maxRecDepth 100000 in
theorem eq_93 : eu_93.flatten = et_93.flatten.map ef := rfl
set_option maxRecDepth 100000 in
theorem eq_94 : eu_94.flatten = et_94.flatten.map ef := rfl
set_option maxRecDepth 100000 in
theorem eq_95 : eu_95.flatten = et_95.flatten.map ef := rfl
set_option maxRecDepth 100000 in
theorem eq_96 : eu_96.flatten = et_96.flatten.map ef := rfl
set_option maxRecDepth 100000 in
theorem eq_97 : eu_97.flatten = et_97.flatten.map ef := rfl
set_option maxRecDepth 100000 in
theorem eq_98 : eu_98.flatten = et_98.flatten.map ef := rfl
set_option maxRecDepth 100000 in
theorem eq_99 : eu_99.flatten = et_99.flatten.map ef := rfl
set_option maxRecDepth 100000 in
theorem eq_100 : eu_100.flatten = et_100.flatten.map ef := rfl
set_option maxRecDepth 100000 in
theorem eq_101 : eu_101.flatten = et_101.flatten.map ef := rfl
set_option maxRecDepth 100000 in
theorem eq_102 : eu_102.flatten = et_102.flatten.map ef := rfl
set_option maxRecDepth 100000 in
theorem eq_103 : eu_103.flatten = et_103.flatten.map ef := rfl
set_option maxRecDepth 100000 in
theorem eq_104 : eu_104.flatten = et_104.flatten.map ef := rfl
set_option maxRecDepth 100000 in
theorem eq_105 : eu_105.flatten = et_105.flatten.map ef := rfl
set_option maxRecDepth 100000 in
theorem eq_106 : eu_106.flatten = et_106.flatten.map ef := rfl
set_option maxRecDepth 100000 in
theorem eq_107 : eu_107.flatten = et_107.flatten.map ef := rfl
set_option maxRecDepth 100000 in
theorem eq_108 : eu_108.flatten = et_108.flatten.map ef := rfl
set_option maxRecDepth 100000 in
theorem eq_109 : eu_109.flatten = et_109.flatten.map ef := rfl
set_option maxRecDepth 100000 in
theorem eq_110 : eu_110.flatten = et_110.flatten.map ef := rfl
set_option maxRecDepth 100000 in
theorem eq_111 : eu_111.flatten = et_111.flatten.map ef := rfl
set_option maxRecDepth 100000 in
theorem eq_112 : eu_112.flatten = et_112.flatten.map ef := rfl
set_option maxRecDepth 100000 in
theorem eq_113 : eu_113.flatten = et_113.flatten.map ef := rfl
set_option maxRecDepth 100000 in
theorem eq_114 : eu_114.flatten = et_114.flatten.map ef := rfl
set_option maxRecDepth 100000 in
theorem eq_115 : eu_115.flatten = et_115.flatten.map ef := rfl
set_option maxRecDepth 100000 in
theorem eq_116 : eu_116.flatten = et_116.flatten.map ef := rfl
set_option maxRecDepth 100000 in
theorem eq_117 : eu_117.flatten = et_117.flatten.map ef := rfl
set_option maxRecDepth 100000 in
theorem eq_118 : eu_118.flatten = et_118.flatten.map ef := rfl
set_option maxRecDepth 100000 in
theorem eq_119 : eu_119.flatten = et_119.flatten.map ef := rfl
set_option maxRecDepth 100000 in
theorem eq_120 : eu_120.flatten = et_120.flatten.map ef := rfl
set_option maxRecDepth 100000 in
theorem eq_121 : eu_121.flatten = et_121.flatten.map ef := rfl
set_option maxRecDepth 100000 in
theorem eq_122 : eu_122.flatten = et_122.flatten.map ef := rfl
set_option maxRecDepth 100000 in
theorem eq_123 : eu_123.flatten = et_123.flatten.map ef := rfl
set_option maxRecDepth 100000 in
theorem eq_124 : eu_124.flatten = et_124.flatten.map ef := rfl
set_option maxRecDepth 100000 in
theorem eq_125 : eu_125.flatten = et_125.flatten.map ef := rfl
set_option maxRecDepth 100000 in
theorem eq_126 : eu_126.flatten = et_126.flatten.map ef := rfl
set_option maxRecDepth 100000 in
theorem eq_127 : eu_127.flatten = et_127.flatten.map ef := rfl
set_option maxRecDepth 100000 in
theorem eq_128 : eu_128.flatten = et_128.flatten.map ef := rfl
set_option maxRecDepth 100000 in
theorem eq_129 : eu_129.flatten = et_129.flatten.map ef := rfl
set_option maxRecDepth 100000 in
theorem eq_130 : eu_130.flatten = et_130.flatten.map ef := rfl
set_option maxRecDepth 100000 in
theorem eq_131 : eu_131.flatten = et_131.flatten.map ef := rfl
set_option maxRecDepth 100000 in
theorem eq_132 : eu_132.flatten = et_132.flatten.map ef := rfl
set_option maxRecDepth 100000 in
theorem eq_133 : eu_133.flatten = et_133.flatten.map ef := rfl
set_option maxRecDepth 100000 in
theorem eq_134 : eu_134.flatten = et_134.flatten.map ef := rfl
set_option maxRecDepth 100000 in
theorem eq_135 : eu_135.flatten = et_135.flatten.map ef := rfl
set_option maxRecDepth 100000 in
theorem eq_136 : eu_136.flatten = et_136.flatten.map ef := rfl
set_option maxRecDepth 100000 in
theorem eq_137 : eu_137.flatten = et_137.flatten.map ef := rfl
set_option maxRecDepth 100000 in
theorem eq_138 : eu_138.flatten = et_138.flatten.map ef := rfl
set_option maxRecDepth 100000 in
theorem eq_139 : eu_139.flatten = et_139.flatten.map ef := rfl
set_option maxRecDepth 100000 in
theorem eq_140 : eu_140.flatten = et_140.flatten.map ef := rfl
set_option maxRecDepth 100000 in
theorem eq_141 : eu_141.flatten = et_141.flatten.map ef := rfl
set_option maxRecDepth 100000 in
theorem eq_142 : eu_142.flatten = et_142.flatten.map ef := rfl
set_option maxRecDepth 100000 in
theorem eq_143 : eu_143.flatten = et_143.flatten.map ef := rfl
set_option maxRecDepth 100000 in
theorem eq_144 : eu_144.flatten = et_144.flatten.map ef := rfl
set_option maxRecDepth 100000 in
theorem eq_145 : eu_145.flatten = et_145.flatten.map ef := rfl
set_option maxRecDepth 100000 in
theorem eq_146 : eu_146.flatten = et_146.flatten.map ef := rfl
set_option maxRecDepth 100000 in
theorem eq_147 : eu_147.flatten = et_147.flatten.map ef := rfl
set_option maxRecDepth 100000 in
theorem eq_148 : eu_148.flatten = et_148.flatten.map ef := rfl
set_option maxRecDepth 100000 in
theorem eq_149 : eu_149.flatten = et_149.flatten.map ef := rfl
set_option maxRecDepth 100000 in
theorem eq_150 : eu_150.flatten = et_150.flatten.map ef := rfl
set_option maxRecDepth 100000 in
theorem eq_151 : eu_151.flatten = et_151.flatten.map ef := rfl
set_option maxRecDepth 100000 in
theorem eq_152 : eu_152.flatten = et_152.flatten.map ef := rfl
set_option maxRecDepth 100000 in
theorem eq_153 : eu_153.flatten = et_153.flatten.map ef := rfl
set_option maxRecDepth 100000 in
theorem eq_154 : eu_154.flatten = et_154.flatten.map ef := rfl
set_option maxRecDepth 100000 in
theorem eq_155 : eu_155.flatten = et_155.flatten.map ef := rfl
set_option maxRecDepth 100000 in
theorem eq_156 : eu_156.flatten = et_156.flatten.map ef := rfl
set_option maxRecDepth 100000 in
theorem eq_157 : eu_157.flatten = et_157.flatten.map ef := rfl
set_option maxRecDepth 100000 in
theorem eq_158 : eu_158.flatten = et_158.flatten.map ef := rfl
set_option maxRecDepth 100000 in
theorem eq_159 : eu_159.flatten = et_159.flatten.map ef := rfl
set_option maxRecDepth 100000 in
theorem eq_160 : eu_160.flatten = et_160.flatten.map ef := rfl
set_option maxRecDepth 100000 in
theorem eq_161 : eu_161.flatten = et_161.flatten.map ef := rfl
set_option maxRecDepth 100000 in
theorem eq_162 : eu_162.flatten = et_162.flatten.map ef := rfl
set_option maxRecDepth 100000 in
theorem eq_163 : eu_163.flatten = et_163.flatten.map ef := rfl
set_option maxRecDepth 100000 in
theorem eq_164 : eu_164.flatten = et_164.flatten.map ef := rfl
set_option maxRecDepth 100000 in
theorem eq_165 : eu_165.flatten = et_165.flatten.map ef := rfl
set_option maxRecDepth 100000 in
theorem eq_166 : eu_166.flatten = et_166.flatten.map ef := rfl
set_option maxRecDepth 100000 in
theorem eq_167 : eu_167.flatten = et_167.flatten.map ef := rfl
set_option maxRecDepth 100000 in
theorem eq_168 : eu_168.flatten = et_168.flatten.map ef := rfl
set_option maxRecDepth 100000 in
theorem eq_169 : eu_169.flatten = et_169.flatten.map ef := rfl
set_option maxRecDepth 100000 in
theorem eq_170 : eu_170.flatten = et_170.flatten.map ef := rfl
set_option maxRecDepth 100000 in
theorem eq_171 : eu_171.flatten = et_171.flatten.map ef := rfl
set_option maxRecDepth 100000 in
theorem eq_172 : eu_172.flatten = et_172.flatten.map ef := rfl
set_option maxRecDepth 100000 in
theorem eq_173 : eu_173.flatten = et_173.flatten.map ef := rfl
set_option maxRecDepth 100000 in
theorem eq_174 : eu_174.flatten = et_174.flatten.map ef := rfl
set_option maxRecDepth 100000 in
theorem eq_175 : eu_175.flatten = et_175.flatten.map ef := rfl
set_option maxRecDepth 100000 in
theorem eq_176 : eu_176.flatten = et_176.flatten.map ef := rfl
set_option maxRecDepth 100000 in
theorem eq_177 : eu_177.flatten = et_177.flatten.map ef := rfl
set_option maxRecDepth 100000 in
theorem eq_178 : eu_178.flatten = et_178.flatten.map ef := rfl
set_option maxRecDepth 100000 in
theorem eq_179 : eu_179.flatten = et_179.flatten.map ef := rfl
set_option maxRecDepth 100000 in
theorem eq_180 : eu_180.flatten = et_180.flatten.map ef := rfl
set_option maxRecDepth 100000 in
theorem eq_181 : eu_181.flatten = et_181.flatten.map ef := rfl
set_option maxRecDepth 100000 in
theorem eq_182 : eu_182.flatten = et_182.flatten.map ef := rfl
set_option maxRecDepth 100000 in
theorem eq_183 : eu_183.flatten = et_183.flatten.map ef := rfl
set_option maxRecDepth 100000 in
theorem eq_184 : eu_184.flatten = et_184.flatten.map ef := rfl
set_option maxRecDepth 100000 in
theorem eq_185 : eu_185.flatten = et_185.flatten.map ef := rfl
set_option maxRecDepth 100000 in
theorem eq_186 : eu_186.flatten = et_186.flatten.map ef := rfl
set_option maxRecDepth 100000 in
theorem eq_187 : eu_187.flatten = et_187.flatten.map ef := rfl
set_option maxRecDepth 100000 in
theorem eq_188 : eu_188.flatten = et_188.flatten.map ef := rfl
set_option maxRecDepth 100000 in
theorem eq_189 : eu_189.flatten = et_189.flatten.map ef := rfl
set_option maxRecDepth 100000 in
theorem eq_190 : eu_190.flatten = et_190.flatten.map ef := rfl
set_option maxRecDepth 100000 in
theorem eq_191 : eu_191.flatten = et_191.flatten.map ef := rfl
set_option maxRecDepth 100000 in
theorem eq_192 : eu_192.flatten = et_192.flatten.map ef := rfl
set_option maxRecDepth 100000 in
theorem eq_193 : eu_193.flatten = et_193.flatten.map ef := rfl
set_option maxRecDepth 100000 in
theorem eq_194 : eu_194.flatten = et_194.flatten.map ef := rfl
set_option maxRecDepth 100000 in
theorem eq_195 : eu_195.flatten = et_195.flatten.map ef := rfl
set_option maxRecDepth 100000 in
theorem eq_196 : eu_196.flatten = et_196.flatten.map ef := rfl
set_option maxRecDepth 100000 in
theorem eq_197 : eu_197.flatten = et_197.flatten.map ef := rfl
set_option maxRecDepth 100000 in
theorem eq_198 : eu_198.flatten = et_198.flatten.map ef := rfl
set_option maxRecDepth 100000 in
theorem eq_199 : eu_199.flatten = et_199.flatten.map ef := rfl
set_option maxRecDepth 100000 in
theorem eq_200 : eu_200.flatten = et_200.flatten.map ef := rfl
set_option maxRecDepth 100000 in
theorem eq_201 : eu_201.flatten = et_201.flatten.map ef := rfl
set_option maxRecDepth 100000 in
theorem eq_202 : eu_202.flatten = et_202.flatten.map ef := rfl
set_option maxRecDepth 100000 in
theorem eq_203 : eu_203.flatten = et_203.flatten.map ef := rfl
set_option maxRecDepth 100000 in
theorem eq_204 : eu_204.flatten = et_204.flatten.map ef := rfl
set_option maxRecDepth 100000 in
theorem eq_205 : eu_205.flatten = et_205.flatten.map ef := rfl
set_option maxRecDepth 100000 in
theorem eq_206 : eu_206.flatten = et_206.flatten.map ef := rfl
set_option maxRecDepth 100000 in
theorem eq_207 : eu_207.flatten = et_207.flatten.map ef := rfl
set_option maxRecDepth 100000 in
theorem eq_208 : eu_208.flatten = et_208.flatten.map ef := rfl
set_option maxRecDepth 100000 in
theorem eq_law : eu_law.flatten = et_law.flatten.map ef := rfl
theorem eo_0 : eo_P 0 := fun tb nl ret mc sc h => by cases h; exact ⟨_, _, rfl, by decide +kernel, by decide, ef_all eq_0 em_0⟩
theorem eo_1 : eo_P 1 := fun tb nl ret mc sc h => by cases h; exact ⟨_, _, rfl, by decide +kernel, by decide, ef_all eq_1 em_1⟩
theorem eo_2 : eo_P 2 := fun tb nl ret mc sc h => by cases h; exact ⟨_, _, rfl, by decide +kernel, by decide, ef_all eq_2 em_2⟩
theorem eo_3 : eo_P 3 := fun tb nl ret mc sc h => by cases h; exact ⟨_, _, rfl, by decide +kernel, by decide, ef_all eq_3 em_3⟩
theorem eo_4 : eo_P 4 := fun tb nl ret mc sc h => by cases h; exact ⟨_, _, rfl, by decide +kernel, by decide, ef_all eq_4 em_4⟩
theorem eo_5 : eo_P 5 := fun tb nl ret mc sc h => by cases h; exact ⟨_, _, rfl, by decide +kernel, by decide, ef_all eq_5 em_5⟩
theorem eo_6 : eo_P 6 := fun tb nl ret mc sc h => by cases h; exact ⟨_, _, rfl, by decide +kernel, by decide, ef_all eq_6 em_6⟩
theorem eo_7 : eo_P 7 := fun tb nl ret mc sc h => by cases h; exact ⟨_, _, rfl, by decide +kernel, by decide, ef_all eq_7 em_7⟩
theorem eo_8 : eo_P 8 := fun tb nl ret mc sc h => by cases h; exact ⟨_, _, rfl, by decide +kernel, by decide, ef_all eq_8 em_8⟩
theorem eo_9 : eo_P 9 := fun tb nl ret mc sc h => by cases h; exact ⟨_, _, rfl, by decide +kernel, by decide, ef_all eq_9 em_9⟩
theorem eo_10 : eo_P 10 := fun tb nl ret mc sc h => by cases h; exact ⟨_, _, rfl, by decide +kernel, by decide, ef_all eq_10 em_10⟩
theorem eo_11 : eo_P 11 := fun tb nl ret mc sc h => by cases h; exact ⟨_, _, rfl, by decide +kernel, by decide, ef_all eq_11 em_11⟩
theorem eo_12 : eo_P 12 := fun tb nl ret mc sc h => by cases h; exact ⟨_, _, rfl, by decide +kernel, by decide, ef_all eq_12 em_12⟩
theorem eo_13 : eo_P 13 := fun tb nl ret mc sc h => by cases h; exact ⟨_, _, rfl, by decide +kernel, by decide, ef_all eq_13 em_13⟩
theorem eo_14 : eo_P 14 := fun tb nl ret mc sc h => by cases h; exact ⟨_, _, rfl, by decide +kernel, by decide, ef_all eq_14 em_14⟩
theorem eo_15 : eo_P 15 := fun tb nl ret mc sc h => by cases h; exact ⟨_, _, rfl, by decide +kernel, by decide, ef_all eq_15 em_15⟩
theorem eo_16 : eo_P 16 := fun tb nl ret mc sc h => by cases h; exact ⟨_, _, rfl, by decide +kernel, by decide, ef_all eq_16 em_16⟩
theorem eo_17 : eo_P 17 := fun tb nl ret mc sc h => by cases h; exact ⟨_, _, rfl, by decide +kernel, by decide, ef_all eq_17 em_17⟩
theorem eo_18 : eo_P 18 := fun tb nl ret mc sc h => by cases h; exact ⟨_, _, rfl, by decide +kernel, by decide, ef_all eq_18 em_18⟩
theorem eo_19 : eo_P 19 := fun tb nl ret mc sc h => by cases h; exact ⟨_, _, rfl, by decide +kernel, by decide, ef_all eq_19 em_19⟩
theorem eo_20 : eo_P 20 := fun tb nl ret mc sc h => by cases h; exact ⟨_, _, rfl, by decide +kernel, by decide, ef_all eq_20 em_20⟩
theorem eo_21 : eo_P 21 := fun tb nl ret mc sc h => by cases h; exact ⟨_, _, rfl, by decide +kernel, by decide, ef_all eq_21 em_21⟩
theorem eo_22 : eo_P 22 := fun tb nl ret mc sc h => by cases h; exact ⟨_, _, rfl, by decide +kernel, by decide, ef_all eq_22 em_22⟩
theorem eo_23 : eo_P 23 := fun tb nl ret mc sc h => by cases h; exact ⟨_, _, rfl, by decide +kernel, by decide, ef_all eq_23 em_23⟩
theorem eo_24 : eo_P 24 := fun tb nl ret mc sc h => by cases h; exact ⟨_, _, rfl, by decide +kernel, by decide, ef_all eq_24 em_24⟩
theorem eo_25 : eo_P 25 := fun tb nl ret mc sc h => by cases h; exact ⟨_, _, rfl, by decide +kernel, by decide, ef_all eq_25 em_25⟩
theorem eo_26 : eo_P 26 := fun tb nl ret mc sc h => by cases h; exact ⟨_, _, rfl, by decide +kernel, by decide, ef_all eq_26 em_26⟩
theorem eo_27 : eo_P 27 := fun tb nl ret mc sc h => by cases h; exact ⟨_, _, rfl, by decide +kernel, by decide, ef_all eq_27 em_27⟩
theorem eo_28 : eo_P 28 := fun tb nl ret mc sc h => by cases h; exact ⟨_, _, rfl, by decide +kernel, by decide, ef_all eq_28 em_28⟩
theorem eo_29 : eo_P 29 := fun tb nl ret mc sc h => by cases h; exact ⟨_, _, rfl, by decide +kernel, by decide, ef_all eq_29 em_29⟩
theorem eo_30 : eo_P 30 := fun tb nl ret mc sc h => by cases h; exact ⟨_, _, rfl, by decide +kernel, by decide, ef_all eq_30 em_30⟩
theorem eo_31 : eo_P 31 := fun tb nl ret mc sc h => by cases h; exact ⟨_, _, rfl, by decide +kernel, by decide, ef_all eq_31 em_31⟩
theorem eo_32 : eo_P 32 := fun tb nl ret mc sc h => by cases h; exact ⟨_, _, rfl, by decide +kernel, by decide, ef_all eq_32 em_32⟩
theorem eo_33 : eo_P 33 := fun tb nl ret mc sc h => by cases h; exact ⟨_, _, rfl, by decide +kernel, by decide, ef_all eq_33 em_33⟩
theorem eo_34 : eo_P 34 := fun tb nl ret mc sc h => by cases h; exact ⟨_, _, rfl, by decide +kernel, by decide, ef_all eq_34 em_34⟩
theorem eo_35 : eo_P 35 := fun tb nl ret mc sc h => by cases h; exact ⟨_, _, rfl, by decide +kernel, by decide, ef_all eq_35 em_35⟩
theorem eo_36 : eo_P 36 := fun tb nl ret mc sc h => by cases h; exact ⟨_, _, rfl, by decide +kernel, by decide, ef_all eq_36 em_36⟩
theorem eo_37 : eo_P 37 := fun tb nl ret mc sc h => by cases h; exact ⟨_, _, rfl, by decide +kernel, by decide, ef_all eq_37 em_37⟩
theorem eo_38 : eo_P 38 := fun tb nl ret mc sc h => by cases h; exact ⟨_, _, rfl, by decide +kernel, by decide, ef_all eq_38 em_38⟩
theorem eo_39 : eo_P 39 := fun tb nl ret mc sc h => by cases h; exact ⟨_, _, rfl, by decide +kernel, by decide, ef_all eq_39 em_39⟩
theorem eo_40 : eo_P 40 := fun tb nl ret mc sc h => by cases h; exact ⟨_, _, rfl, by decide +kernel, by decide, ef_all eq_40 em_40⟩
theorem eo_41 : eo_P 41 := fun tb nl ret mc sc h => by cases h; exact ⟨_, _, rfl, by decide +kernel, by decide, ef_all eq_41 em_41⟩
theorem eo_42 : eo_P 42 := fun tb nl ret mc sc h => by cases h; exact ⟨_, _, rfl, by decide +kernel, by decide, ef_all eq_42 em_42⟩
theorem eo_43 : eo_P 43 := fun tb nl ret mc sc h => by cases h; exact ⟨_, _, rfl, by decide +kernel, by decide, ef_all eq_43 em_43⟩
theorem eo_44 : eo_P 44 := fun tb nl ret mc sc h => by cases h; exact ⟨_, _, rfl, by decide +kernel, by decide, ef_all eq_44 em_44⟩
theorem eo_45 : eo_P 45 := fun tb nl ret mc sc h => by cases h; exact ⟨_, _, rfl, by decide +kernel, by decide, ef_all eq_45 em_45⟩
theorem eo_46 : eo_P 46 := fun tb nl ret mc sc h => by cases h; exact ⟨_, _, rfl, by decide +kernel, by decide, ef_all eq_46 em_46⟩
theorem eo_47 : eo_P 47 := fun tb nl ret mc sc h => by cases h; exact ⟨_, _, rfl, by decide +kernel, by decide, ef_all eq_47 em_47⟩
theorem eo_48 : eo_P 48 := fun tb nl ret mc sc h => by cases h; exact ⟨_, _, rfl, by decide +kernel, by decide, ef_all eq_48 em_48⟩
theorem eo_49 : eo_P 49 := fun tb nl ret mc sc h => by cases h; exact ⟨_, _, rfl, by decide +kernel, by decide, ef_all eq_49 em_49⟩
theorem eo_50 : eo_P 50 := fun tb nl ret mc sc h => by cases h; exact ⟨_, _, rfl, by decide +kernel, by decide, ef_all eq_50 em_50⟩
theorem eo_51 : eo_P 51 := fun tb nl ret mc sc h => by cases h; exact ⟨_, _, rfl, by decide +kernel, by decide, ef_all eq_51 em_51⟩
theorem eo_52 : eo_P 52 := fun tb nl ret mc sc h => by cases h; exact ⟨_, _, rfl, by decide +kernel, by decide, ef_all eq_52 em_52⟩
theorem eo_53 : eo_P 53 := fun tb nl ret mc sc h => by cases h; exact ⟨_, _, rfl, by decide +kernel, by decide, ef_all eq_53 em_53⟩
theorem eo_54 : eo_P 54 := fun tb nl ret mc sc h => by cases h; exact ⟨_, _, rfl, by decide +kernel, by decide, ef_all eq_54 em_54⟩
theorem eo_55 : eo_P 55 := fun tb nl ret mc sc h => by cases h; exact ⟨_, _, rfl, by decide +kernel, by decide, ef_all eq_55 em_55⟩
theorem eo_56 : eo_P 56 := fun tb nl ret mc sc h => by cases h; exact ⟨_, _, rfl, by decide +kernel, by decide, ef_all eq_56 em_56⟩
theorem eo_57 : eo_P 57 := fun tb nl ret mc sc h => by cases h; exact ⟨_, _, rfl, by decide +kernel, by decide, ef_all eq_57 em_57⟩
theorem eo_58 : eo_P 58 := fun tb nl ret mc sc h => by cases h; exact ⟨_, _, rfl, by decide +kernel, by decide, ef_all eq_58 em_58⟩
theorem eo_59 : eo_P 59 := fun tb nl ret mc sc h => by cases h; exact ⟨_, _, rfl, by decide +kernel, by decide, ef_all eq_59 em_59⟩
theorem eo_60 : eo_P 60 := fun tb nl ret mc sc h => by cases h; exact ⟨_, _, rfl, by decide +kernel, by decide, ef_all eq_60 em_60⟩
theorem eo_61 : eo_P 61 := fun tb nl ret mc sc h => by cases h; exact ⟨_, _, rfl, by decide +kernel, by decide, ef_all eq_61 em_61⟩
theorem eo_62 : eo_P 62 := fun tb nl ret mc sc h => by cases h; exact ⟨_, _, rfl, by decide +kernel, by decide, ef_all eq_62 em_62⟩
theorem eo_63 : eo_P 63 := fun tb nl ret mc sc h => by cases h; exact ⟨_, _, rfl, by decide +kernel, by decide, ef_all eq_63 em_63⟩
theorem eo_64 : eo_P 64 := fun tb nl ret mc sc h => by cases h; exact ⟨_, _, rfl, by decide +kernel, by decide, ef_all eq_64 em_64⟩
theorem eo_65 : eo_P 65 := fun tb nl ret mc sc h => by cases h; exact ⟨_, _, rfl, by decide +kernel, by decide, ef_all eq_65 em_65⟩
theorem eo_66 : eo_P 66 := fun tb nl ret mc sc h => by cases h; exact ⟨_, _, rfl, by decide +kernel, by decide, ef_all eq_66 em_66⟩
theorem eo_67 : eo_P 67 := fun tb nl ret mc sc h => by cases h; exact ⟨_, _, rfl, by decide +kernel, by decide, ef_all eq_67 em_67⟩
theorem eo_68 : eo_P 68 := fun tb nl ret mc sc h => by cases h; exact ⟨_, _, rfl, by decide +kernel, by decide, ef_all eq_68 em_68⟩
theorem eo_69 : eo_P 69 := fun tb nl ret mc sc h => by cases h; exact ⟨_, _, rfl, by decide +kernel, by decide, ef_all eq_69 em_69⟩
theorem eo_70 : eo_P 70 := fun tb nl ret mc sc h => by cases h; exact ⟨_, _, rfl, by decide +kernel, by decide, ef_all eq_70 em_70⟩
theorem eo_71 : eo_P 71 := fun tb nl ret mc sc h => by cases h; exact ⟨_, _, rfl, by decide +kernel, by decide, ef_all eq_71 em_71⟩
theorem eo_72 : eo_P 72 := fun tb nl ret mc sc h => by cases h; exact ⟨_, _, rfl, by decide +kernel, by decide, ef_all eq_72 em_72⟩
theorem eo_73 : eo_P 73 := fun tb nl ret mc sc h => by cases h; exact ⟨_, _, rfl, by decide +kernel, by decide, ef_all eq_73 em_73⟩
theorem eo_74 : eo_P 74 := fun tb nl ret mc sc h => by cases h; exact ⟨_, _, rfl, by decide +kernel, by decide, ef_all eq_74 em_74⟩
theorem eo_75 : eo_P 75 := fun tb nl ret mc sc h => by cases h; exact ⟨_, _, rfl, by decide +kernel, by decide, ef_all eq_75 em_75⟩
theorem eo_76 : eo_P 76 := fun tb nl ret mc sc h => by cases h; exact ⟨_, _, rfl, by decide +kernel, by decide, ef_all eq_76 em_76⟩
theorem eo_77 : eo_P 77 := fun tb nl ret mc sc h => by cases h; exact ⟨_, _, rfl, by decide +kernel, by decide, ef_all eq_77 em_77⟩
theorem eo_78 : eo_P 78 := fun tb nl ret mc sc h => by cases h; exact ⟨_, _, rfl, by decide +kernel, by decide, ef_all eq_78 em_78⟩
theorem eo_79 : eo_P 79 := fun tb nl ret mc sc h => by cases h; exact ⟨_, _, rfl, by decide +kernel, by decide, ef_all eq_79 em_79⟩
theorem eo_80 : eo_P 80 := fun tb nl ret mc sc h => by cases h; exact ⟨_, _, rfl, by decide +kernel, by decide, ef_all eq_80 em_80⟩
theorem eo_81 : eo_P 81 := fun tb nl ret mc sc h => by cases h; exact ⟨_, _, rfl, by decide +kernel, by decide, ef_all eq_81 em_81⟩
theorem eo_82 : eo_P 82 := fun tb nl ret mc sc h => by cases h; exact ⟨_, _, rfl, by decide +kernel, by decide, ef_all eq_82 em_82⟩
theorem eo_83 : eo_P 83 := fun tb nl ret mc sc h => by cases h; exact ⟨_, _, rfl, by decide +kernel, by decide, ef_all eq_83 em_83⟩
theorem eo_84 : eo_P 84 := fun tb nl ret mc sc h => by cases h; exact ⟨_, _, rfl, by decide +kernel, by decide, ef_all eq_84 em_84⟩
theorem eo_85 : eo_P 85 := fun tb nl ret mc sc h => by cases h; exact ⟨_, _, rfl, by decide +kernel, by decide, ef_all eq_85 em_85⟩
theorem eo_86 : eo_P 86 := fun tb nl ret mc sc h => by cases h; exact ⟨_, _, rfl, by decide +kernel, by decide, ef_all eq_86 em_86⟩
theorem eo_87 : eo_P 87 := fun tb nl ret mc sc h => by cases h; exact ⟨_, _, rfl, by decide +kernel, by decide, ef_all eq_87 em_87⟩
theorem eo_88 : eo_P 88 := fun tb nl ret mc sc h => by cases h; exact ⟨_, _, rfl, by decide +kernel, by decide, ef_all eq_88 em_88⟩
theorem eo_89 : eo_P 89 := fun tb nl ret mc sc h => by cases h; exact ⟨_, _, rfl, by decide +kernel, by decide, ef_all eq_89 em_89⟩
theorem eo_90 : eo_P 90 := fun tb nl ret mc sc h => by cases h; exact ⟨_, _, rfl, by decide +kernel, by decide, ef_all eq_90 em_90⟩
theorem eo_91 : eo_P 91 := fun tb nl ret mc sc h => by cases h; exact ⟨_, _, rfl, by decide +kernel, by decide, ef_all eq_91 em_91⟩
theorem eo_92 : eo_P 92 := fun tb nl ret mc sc h => by cases h; exact ⟨_, _, rfl, by decide +kernel, by decide, ef_all eq_92 em_92⟩
theorem eo_93 : eo_P 93 := fun tb nl ret mc sc h => by cases h; exact ⟨_, _, rfl, by decide +kernel, by decide, ef_all eq_93 em_93⟩
theorem eo_94 : eo_P 94 := fun tb nl ret mc sc h => by cases h; exact ⟨_, _, rfl, by decide +kernel, by decide, ef_all eq_94 em_94⟩
theorem eo_95 : eo_P 95 := fun tb nl ret mc sc h => by cases h; exact ⟨_, _, rfl, by decide +kernel, by decide, ef_all eq_95 em_95⟩
theorem eo_96 : eo_P 96 := fun tb nl ret mc sc h => by cases h; exact ⟨_, _, rfl, by decide +kernel, by decide, ef_all eq_96 em_96⟩
theorem eo_97 : eo_P 97 := fun tb nl ret mc sc h => by cases h; exact ⟨_, _, rfl, by decide +kernel, by decide, ef_all eq_97 em_97⟩
theorem eo_98 : eo_P 98 := fun tb nl ret mc sc h => by cases h; exact ⟨_, _, rfl, by decide +kernel, by decide, ef_all eq_98 em_98⟩
theorem eo_99 : eo_P 99 := fun tb nl ret mc sc h => by cases h; exact ⟨_, _, rfl, by decide +kernel, by decide, ef_all eq_99 em_99⟩
theorem eo_100 : eo_P 100 := fun tb nl ret mc sc h => by cases h; exact ⟨_, _, rfl, by decide +kernel, by decide, ef_all eq_100 em_100⟩
theorem eo_101 : eo_P 101 := fun tb nl ret mc sc h => by cases h; exact ⟨_, _, rfl, by decide +kernel, by decide, ef_all eq_101 em_101⟩
theorem eo_102 : eo_P 102 := fun tb nl ret mc sc h => by cases h; exact ⟨_, _, rfl, by decide +kernel, by decide, ef_all eq_102 em_102⟩
theorem eo_103 : eo_P 103 := fun tb nl ret mc sc h => by cases h; exact ⟨_, _, rfl, by decide +kernel, by decide, ef_all eq_103 em_103⟩
theorem eo_104 : eo_P 104 := fun tb nl ret mc sc h => by cases h; exact ⟨_, _, rfl, by decide +kernel, by decide, ef_all eq_104 em_104⟩
theorem eo_105 : eo_P 105 := fun tb nl ret mc sc h => by cases h; exact ⟨_, _, rfl, by decide +kernel, by decide, ef_all eq_105 em_105⟩
theorem eo_106 : eo_P 106 := fun tb nl ret mc sc h => by cases h; exact ⟨_, _, rfl, by decide +kernel, by decide, ef_all eq_106 em_106⟩
theorem eo_107 : eo_P 107 := fun tb nl ret mc sc h => by cases h; exact ⟨_, _, rfl, by decide +kernel, by decide, ef_all eq_107 em_107⟩
theorem eo_108 : eo_P 108 := fun tb nl ret mc sc h => by cases h; exact ⟨_, _, rfl, by decide +kernel, by decide, ef_all eq_108 em_108⟩
theorem eo_109 : eo_P 109 := fun tb nl ret mc sc h => by cases h; exact ⟨_, _, rfl, by decide +kernel, by decide, ef_all eq_109 em_109⟩
theorem eo_110 : eo_P 110 := fun tb nl ret mc sc h => by cases h; exact ⟨_, _, rfl, by decide +kernel, by decide, ef_all eq_110 em_110⟩
theorem eo_111 : eo_P 111 := fun tb nl ret mc sc h => by cases h; exact ⟨_, _, rfl, by decide +kernel, by decide, ef_all eq_111 em_111⟩
theorem eo_112 : eo_P 112 := fun tb nl ret mc sc h => by cases h; exact ⟨_, _, rfl, by decide +kernel, by decide, ef_all eq_112 em_112⟩
theorem eo_113 : eo_P 113 := fun tb nl ret mc sc h => by cases h; exact ⟨_, _, rfl, by decide +kernel, by decide, ef_all eq_113 em_113⟩
theorem eo_114 : eo_P 114 := fun tb nl ret mc sc h => by cases h; exact ⟨_, _, rfl, by decide +kernel, by decide, ef_all eq_114 em_114⟩
theorem eo_115 : eo_P 115 := fun tb nl ret mc sc h => by cases h; exact ⟨_, _, rfl, by decide +kernel, by decide, ef_all eq_115 em_115⟩
theorem eo_116 : eo_P 116 := fun tb nl ret mc sc h => by cases h; exact ⟨_, _, rfl, by decide +kernel, by decide, ef_all eq_116 em_116⟩
theorem eo_117 : eo_P 117 := fun tb nl ret mc sc h => by cases h; exact ⟨_, _, rfl, by decide +kernel, by decide, ef_all eq_117 em_117⟩
theorem eo_118 : eo_P 118 := fun tb nl ret mc sc h => by cases h; exact ⟨_, _, rfl, by decide +kernel, by decide, ef_all eq_118 em_118⟩
theorem eo_119 : eo_P 119 := fun tb nl ret mc sc h => by cases h; exact ⟨_, _, rfl, by decide +kernel, by decide, ef_all eq_119 em_119⟩
theorem eo_120 : eo_P 120 := fun tb nl ret mc sc h => by cases h; exact ⟨_, _, rfl, by decide +kernel, by decide, ef_all eq_120 em_120⟩
theorem eo_121 : eo_P 121 := fun tb nl ret mc sc h => by cases h; exact ⟨_, _, rfl, by decide +kernel, by decide, ef_all eq_121 em_121⟩
theorem eo_122 : eo_P 122 := fun tb nl ret mc sc h => by cases h; exact ⟨_, _, rfl, by decide +kernel, by decide, ef_all eq_122 em_122⟩
theorem eo_123 : eo_P 123 := fun tb nl ret mc sc h => by cases h; exact ⟨_, _, rfl, by decide +kernel, by decide, ef_all eq_123 em_123⟩
theorem eo_124 : eo_P 124 := fun tb nl ret mc sc h => by cases h; exact ⟨_, _, rfl, by decide +kernel, by decide, ef_all eq_124 em_124⟩
theorem eo_125 : eo_P 125 := fun tb nl ret mc sc h => by cases h; exact ⟨_, _, rfl, by decide +kernel, by decide, ef_all eq_125 em_125⟩
theorem eo_126 : eo_P 126 := fun tb nl ret mc sc h => by cases h; exact ⟨_, _, rfl, by decide +kernel, by decide, ef_all eq_126 em_126⟩
theorem eo_127 : eo_P 127 := fun tb nl ret mc sc h => by cases h; exact ⟨_, _, rfl, by decide +kernel, by decide, ef_all eq_127 em_127⟩
theorem eo_128 : eo_P 128 := fun tb nl ret mc sc h => by cases h; exact ⟨_, _, rfl, by decide +kernel, by decide, ef_all eq_128 em_128⟩
theorem eo_129 : eo_P 129 := fun tb nl ret mc sc h => by cases h; exact ⟨_, _, rfl, by decide +kernel, by decide, ef_all eq_129 em_129⟩
theorem eo_130 : eo_P 130 := fun tb nl ret mc sc h => by cases h; exact ⟨_, _, rfl, by decide +kernel, by decide, ef_all eq_130 em_130⟩
theorem eo_131 : eo_P 131 := fun tb nl ret mc sc h => by cases h; exact ⟨_, _, rfl, by decide +kernel, by decide, ef_all eq_131 em_131⟩
theorem eo_132 : eo_P 132 := fun tb nl ret mc sc h => by cases h; exact ⟨_, _, rfl, by decide +kernel, by decide, ef_all eq_132 em_132⟩
theorem eo_133 : eo_P 133 := fun tb nl ret mc sc h => by cases h; exact ⟨_, _, rfl, by decide +kernel, by decide, ef_all eq_133 em_133⟩
theorem eo_134 : eo_P 134 := fun tb nl ret mc sc h => by cases h; exact ⟨_, _, rfl, by decide +kernel, by decide, ef_all eq_134 em_134⟩
theorem eo_135 : eo_P 135 := fun tb nl ret mc sc h => by cases h; exact ⟨_, _, rfl, by decide +kernel, by decide, ef_all eq_135 em_135⟩
theorem eo_136 : eo_P 136 := fun tb nl ret mc sc h => by cases h; exact ⟨_, _, rfl, by decide +kernel, by decide, ef_all eq_136 em_136⟩
theorem eo_137 : eo_P 137 := fun tb nl ret mc sc h => by cases h; exact ⟨_, _, rfl, by decide +kernel, by decide, ef_all eq_137 em_137⟩
theorem eo_138 : eo_P 138 := fun tb nl ret mc sc h => by cases h; exact ⟨_, _, rfl, by decide +kernel, by decide, ef_all eq_138 em_138⟩
theorem eo_139 : eo_P 139 := fun tb nl ret mc sc h => by cases h; exact ⟨_, _, rfl, by decide +kernel, by decide, ef_all eq_139 em_139⟩
theorem eo_140 : eo_P 140 := fun tb nl ret mc sc h => by cases h; exact ⟨_, _, rfl, by decide +kernel, by decide, ef_all eq_140 em_140⟩
theorem eo_141 : eo_P 141 := fun tb nl ret mc sc h => by cases h; exact ⟨_, _, rfl, by decide +kernel, by decide, ef_all eq_141 em_141⟩
theorem eo_142 : eo_P 142 := fun tb nl ret mc sc h => by cases h; exact ⟨_, _, rfl, by decide +kernel, by decide, ef_all eq_142 em_142⟩
theorem eo_143 : eo_P 143 := fun tb nl ret mc sc h => by cases h; exact ⟨_, _, rfl, by decide +kernel, by decide, ef_all eq_143 em_143⟩
theorem eo_144 : eo_P 144 := fun tb nl ret mc sc h => by cases h; exact ⟨_, _, rfl, by decide +kernel, by decide, ef_all eq_144 em_144⟩
theorem eo_145 : eo_P 145 := fun tb nl ret mc sc h => by cases h; exact ⟨_, _, rfl, by decide +kernel, by decide, ef_all eq_145 em_145⟩
theorem eo_146 : eo_P 146 := fun tb nl ret mc sc h => by cases h; exact ⟨_, _, rfl, by decide +kernel, by decide, ef_all eq_146 em_146⟩
theorem eo_147 : eo_P 147 := fun tb nl ret mc sc h => by cases h; exact ⟨_, _, rfl, by decide +kernel, by decide, ef_all eq_147 em_147⟩
theorem eo_148 : eo_P 148 := fun tb nl ret mc sc h => by cases h; exact ⟨_, _, rfl, by decide +kernel, by decide, ef_all eq_148 em_148⟩
theorem eo_149 : eo_P 149 := fun tb nl ret mc sc h => by cases h; exact ⟨_, _, rfl, by decide +kernel, by decide, ef_all eq_149 em_149⟩
theorem eo_150 : eo_P 150 := fun tb nl ret mc sc h => by cases h; exact ⟨_, _, rfl, by decide +kernel, by decide, ef_all eq_150 em_150⟩
theorem eo_151 : eo_P 151 := fun tb nl ret mc sc h => by cases h; exact ⟨_, _, rfl, by decide +kernel, by decide, ef_all eq_151 em_151⟩
theorem eo_152 : eo_P 152 := fun tb nl ret mc sc h => by cases h; exact ⟨_, _, rfl, by decide +kernel, by decide, ef_all eq_152 em_152⟩
theorem eo_153 : eo_P 153 := fun tb nl ret mc sc h => by cases h; exact ⟨_, _, rfl, by decide +kernel, by decide, ef_all eq_153 em_153⟩
theorem eo_154 : eo_P 154 := fun tb nl ret mc sc h => by cases h; exact ⟨_, _, rfl, by decide +kernel, by decide, ef_all eq_154 em_154⟩
theorem eo_155 : eo_P 155 := fun tb nl ret mc sc h => by cases h; exact ⟨_, _, rfl, by decide +kernel, by decide, ef_all eq_155 em_155⟩
theorem eo_156 : eo_P 156 := fun tb nl ret mc sc h => by cases h; exact ⟨_, _, rfl, by decide +kernel, by decide, ef_all eq_156 em_156⟩
theorem eo_157 : eo_P 157 := fun tb nl ret mc sc h => by cases h; exact ⟨_, _, rfl, by decide +kernel, by decide, ef_all eq_157 em_157⟩
theorem eo_158 : eo_P 158 := fun tb nl ret mc sc h => by cases h; exact ⟨_, _, rfl, by decide +kernel, by decide, ef_all eq_158 em_158⟩
theorem eo_159 : eo_P 159 := fun tb nl ret mc sc h => by cases h; exact ⟨_, _, rfl, by decide +kernel, by decide, ef_all eq_159 em_159⟩
theorem eo_160 : eo_P 160 := fun tb nl ret mc sc h => by cases h; exact ⟨_, _, rfl, by decide +kernel, by decide, ef_all eq_160 em_160⟩
theorem eo_161 : eo_P 161 := fun tb nl ret mc sc h => by cases h; exact ⟨_, _, rfl, by decide +kernel, by decide, ef_all eq_161 em_161⟩
theorem eo_162 : eo_P 162 := fun tb nl ret mc sc h => by cases h; exact ⟨_, _, rfl, by decide +kernel, by decide, ef_all eq_162 em_162⟩
theorem eo_163 : eo_P 163 := fun tb nl ret mc sc h => by cases h; exact ⟨_, _, rfl, by decide +kernel, by decide, ef_all eq_163 em_163⟩
theorem eo_164 : eo_P 164 := fun tb nl ret mc sc h => by cases h; exact ⟨_, _, rfl, by decide +kernel, by decide, ef_all eq_164 em_164⟩
theorem eo_165 : eo_P 165 := fun tb nl ret mc sc h => by cases h; exact ⟨_, _, rfl, by decide +kernel, by decide, ef_all eq_165 em_165⟩
theorem eo_166 : eo_P 166 := fun tb nl ret mc sc h => by cases h; exact ⟨_, _, rfl, by decide +kernel, by decide, ef_all eq_166 em_166⟩
theorem eo_167 : eo_P 167 := fun tb nl ret mc sc h => by cases h; exact ⟨_, _, rfl, by decide +kernel, by decide, ef_all eq_167 em_167⟩
theorem eo_168 : eo_P 168 := fun tb nl ret mc sc h => by cases h; exact ⟨_, _, rfl, by decide +kernel, by decide, ef_all eq_168 em_168⟩
theorem eo_169 : eo_P 169 := fun tb nl ret mc sc h => by cases h; exact ⟨_, _, rfl, by decide +kernel, by decide, ef_all eq_169 em_169⟩
theorem eo_170 : eo_P 170 := fun tb nl ret mc sc h => by cases h; exact ⟨_, _, rfl, by decide +kernel, by decide, ef_all eq_170 em_170⟩
theorem eo_171 : eo_P 171 := fun tb nl ret mc sc h => by cases h; exact ⟨_, _, rfl, by decide +kernel, by decide, ef_all eq_171 em_171⟩
theorem eo_172 : eo_P 172 := fun tb nl ret mc sc h => by cases h; exact ⟨_, _, rfl, by decide +kernel, by decide, ef_all eq_172 em_172⟩
theorem eo_173 : eo_P 173 := fun tb nl ret mc sc h => by cases h; exact ⟨_, _, rfl, by decide +kernel, by decide, ef_all eq_173 em_173⟩
theorem eo_174 : eo_P 174 := fun tb nl ret mc sc h => by cases h; exact ⟨_, _, rfl, by decide +kernel, by decide, ef_all eq_174 em_174⟩
theorem eo_175 : eo_P 175 := fun tb nl ret mc sc h => by cases h; exact ⟨_, _, rfl, by decide +kernel, by decide, ef_all eq_175 em_175⟩
theorem eo_176 : eo_P 176 := fun tb nl ret mc sc h => by cases h; exact ⟨_, _, rfl, by decide +kernel, by decide, ef_all eq_176 em_176⟩
theorem eo_177 : eo_P 177 := fun tb nl ret mc sc h => by cases h; exact ⟨_, _, rfl, by decide +kernel, by decide, ef_all eq_177 em_177⟩
theorem eo_178 : eo_P 178 := fun tb nl ret mc sc h => by cases h; exact ⟨_, _, rfl, by decide +kernel, by decide, ef_all eq_178 em_178⟩
theorem eo_179 : eo_P 179 := fun tb nl ret mc sc h => by cases h; exact ⟨_, _, rfl, by decide +kernel, by decide, ef_all eq_179 em_179⟩
theorem eo_180 : eo_P 180 := fun tb nl ret mc sc h => by cases h; exact ⟨_, _, rfl, by decide +kernel, by decide, ef_all eq_180 em_180⟩
theorem eo_181 : eo_P 181 := fun tb nl ret mc sc h => by cases h; exact ⟨_, _, rfl, by decide +kernel, by decide, ef_all eq_181 em_181⟩
theorem eo_182 : eo_P 182 := fun tb nl ret mc sc h => by cases h; exact ⟨_, _, rfl, by decide +kernel, by decide, ef_all eq_182 em_182⟩
theorem eo_183 : eo_P 183 := fun tb nl ret mc sc h => by cases h; exact ⟨_, _, rfl, by decide +kernel, by decide, ef_all eq_183 em_183⟩
theorem eo_184 : eo_P 184 := fun tb nl ret mc sc h => by cases h; exact ⟨_, _, rfl, by decide +kernel, by decide, ef_all eq_184 em_184⟩
theorem eo_185 : eo_P 185 := fun tb nl ret mc sc h => by cases h; exact ⟨_, _, rfl, by decide +kernel, by decide, ef_all eq_185 em_185⟩
theorem eo_186 : eo_P 186 := fun tb nl ret mc sc h => by cases h; exact ⟨_, _, rfl, by decide +kernel, by decide, ef_all eq_186 em_186⟩
theorem eo_187 : eo_P 187 := fun tb nl ret mc sc h => by cases h; exact ⟨_, _, rfl, by decide +kernel, by decide, ef_all eq_187 em_187⟩
theorem eo_188 : eo_P 188 := fun tb nl ret mc sc h => by cases h; exact ⟨_, _, rfl, by decide +kernel, by decide, ef_all eq_188 em_188⟩
theorem eo_189 : eo_P 189 := fun tb nl ret mc sc h => by cases h; exact ⟨_, _, rfl, by decide +kernel, by decide, ef_all eq_189 em_189⟩
theorem eo_190 : eo_P 190 := fun tb nl ret mc sc h => by cases h; exact ⟨_, _, rfl, by decide +kernel, by decide, ef_all eq_190 em_190⟩
theorem eo_191 : eo_P 191 := fun tb nl ret mc sc h => by cases h; exact ⟨_, _, rfl, by decide +kernel, by decide, ef_all eq_191 em_191⟩
theorem eo_192 : eo_P 192 := fun tb nl ret mc sc h => by cases h; exact ⟨_, _, rfl, by decide +kernel, by decide, ef_all eq_192 em_192⟩
theorem eo_193 : eo_P 193 := fun tb nl ret mc sc h => by cases h; exact ⟨_, _, rfl, by decide +kernel, by decide, ef_all eq_193 em_193⟩
theorem eo_194 : eo_P 194 := fun tb nl ret mc sc h => by cases h; exact ⟨_, _, rfl, by decide +kernel, by decide, ef_all eq_194 em_194⟩
theorem eo_195 : eo_P 195 := fun tb nl ret mc sc h => by cases h; exact ⟨_, _, rfl, by decide +kernel, by decide, ef_all eq_195 em_195⟩
theorem eo_196 : eo_P 196 := fun tb nl ret mc sc h => by cases h; exact ⟨_, _, rfl, by decide +kernel, by decide, ef_all eq_196 em_196⟩
theorem eo_197 : eo_P 197 := fun tb nl ret mc sc h => by cases h; exact ⟨_, _, rfl, by decide +kernel, by decide, ef_all eq_197 em_197⟩
theorem eo_198 : eo_P 198 := fun tb nl ret mc sc h => by cases h; exact ⟨_, _, rfl, by decide +kernel, by decide, ef_all eq_198 em_198⟩
theorem eo_199 : eo_P 199 := fun tb nl ret mc sc h => by cases h; exact ⟨_, _, rfl, by decide +kernel, by decide, ef_all eq_199 em_199⟩
theorem eo_200 : eo_P 200 := fun tb nl ret mc sc h => by cases h; exact ⟨_, _, rfl, by decide +kernel, by decide, ef_all eq_200 em_200⟩
theorem eo_201 : eo_P 201 := fun tb nl ret mc sc h => by cases h; exact ⟨_, _, rfl, by decide +kernel, by decide, ef_all eq_201 em_201⟩
theorem eo_202 : eo_P 202 := fun tb nl ret mc sc h => by cases h; exact ⟨_, _, rfl, by decide +kernel, by decide, ef_all eq_202 em_202⟩
theorem eo_203 : eo_P 203 := fun tb nl ret mc sc h => by cases h; exact ⟨_, _, rfl, by decide +kernel, by decide, ef_all eq_203 em_203⟩
theorem eo_204 : eo_P 204 := fun tb nl ret mc sc h => by cases h; exact ⟨_, _, rfl, by decide +kernel, by decide, ef_all eq_204 em_204⟩
theorem eo_205 : eo_P 205 := fun tb nl ret mc sc h => by cases h; exact ⟨_, _, rfl, by decide +kernel, by decide, ef_all eq_205 em_205⟩
theorem eo_206 : eo_P 206 := fun tb nl ret mc sc h => by cases h; exact ⟨_, _, rfl, by decide +kernel, by decide, ef_all eq_206 em_206⟩
theorem eo_207 : eo_P 207 := fun tb nl ret mc sc h => by cases h; exact ⟨_, _, rfl, by decide +kernel, by decide, ef_all eq_207 em_207⟩
theorem eo_208 : eo_P 208 := fun tb nl ret mc sc h => by cases h; exact ⟨_, _, rfl, by decide +kernel, by decide, ef_all eq_208 em_208⟩
theorem eo_209 : eo_P 209 := fun tb nl ret mc sc h => by cases h
theorem eo_210 : eo_P 210 := fun tb nl ret mc sc h => by cases h
theorem eo_211 : eo_P 211 := fun tb nl ret mc sc h => by cases h
theorem eo_212 : eo_P 212 := fun tb nl ret mc sc h => by cases h
theorem eo_213 : eo_P 213 := fun tb nl ret mc sc h => by cases h
theorem eo_214 : eo_P 214 := fun tb nl ret mc sc h => by cases h
theorem eo_215 : eo_P 215 := fun tb nl ret mc sc h => by cases h
theorem eo_216 : eo_P 216 := fun tb nl ret mc sc h => by cases h
theorem eo_217 : eo_P 217 := fun tb nl ret mc sc h => by cases h
theorem eo_218 : eo_P 218 := fun tb nl ret mc sc h => by cases h
theorem eo_219 : eo_P 219 := fun tb nl ret mc sc h => by cases h
theorem eo_220 : eo_P 220 := fun tb nl ret mc sc h => by cases h
theorem eo_221 : eo_P 221 := fun tb nl ret mc sc h => by cases h
theorem eo_222 : eo_P 222 := fun tb nl ret mc sc h => by cases h
theorem eo_223 : eo_P 223 := fun tb nl ret mc sc h => by cases h
set_option maxRecDepth 100000 in
theorem eo_all : ∀ a, a < 224 → eo_P a := lt_s (lt_s (lt_s (lt_s (lt_s (lt_s (lt_s (lt_s (lt_s (lt_s (lt_s (lt_s (lt_s (lt_s (lt_s (lt_s (lt_s (lt_s (lt_s (lt_s (lt_s (lt_s (lt_s (lt_s (lt_s (lt_s (lt_s (lt_s (lt_s (lt_s (lt_s (lt_s (lt_s (lt_s (lt_s (lt_s (lt_s (lt_s (lt_s (lt_s (lt_s (lt_s (lt_s (lt_s (lt_s (lt_s (lt_s (lt_s (lt_s (lt_s (lt_s (lt_s (lt_s (lt_s (lt_s (lt_s (lt_s (lt_s (lt_s (lt_s (lt_s (lt_s (lt_s (lt_s (lt_s (lt_s (lt_s (lt_s (lt_s (lt_s (lt_s (lt_s (lt_s (lt_s (lt_s (lt_s (lt_s (lt_s (lt_s (lt_s (lt_s (lt_s (lt_s (lt_s (lt_s (lt_s (lt_s (lt_s (lt_s (lt_s (lt_s (lt_s (lt_s (lt_s (lt_s (lt_s (lt_s (lt_s (lt_s (lt_s (lt_s (lt_s (lt_s (lt_s (lt_s (lt_s (lt_s (lt_s (lt_s (lt_s (lt_s (lt_s (lt_s (lt_s (lt_s (lt_s (lt_s (lt_s (lt_s (lt_s (lt_s (lt_s (lt_s (lt_s (lt_s (lt_s (lt_s (lt_s (lt_s (lt_s (lt_s (lt_s (lt_s (lt_s (lt_s (lt_s (lt_s (lt_s (lt_s (lt_s (lt_s (lt_s (lt_s (lt_s (lt_s (lt_s (lt_s (lt_s (lt_s (lt_s (lt_s (lt_s (lt_s (lt_s (lt_s (lt_s (lt_s (lt_s (lt_s (lt_s (lt_s (lt_s (lt_s (lt_s (lt_s (lt_s (lt_s (lt_s (lt_s (lt_s (lt_s (lt_s (lt_s (lt_s (lt_s (lt_s (lt_s (lt_s (lt_s (lt_s (lt_s (lt_s (lt_s (lt_s (lt_s (lt_s (lt_s (lt_s (lt_s (lt_s (lt_s (lt_s (lt_s (lt_s (lt_s (lt_s (lt_s (lt_s (lt_s (lt_s (lt_s (lt_s (lt_s (lt_s (lt_s (lt_s (lt_s (lt_s (lt_s (lt_s (lt_s (lt_s (lt_s (lt_s (lt_s (lt_s (lt_s (lt_s (lt_s (lt_s (lt_s (lt_s (lt_s (lt_s lt_0 eo_0) eo_1) eo_2) eo_3) eo_4) eo_5) eo_6) eo_7) eo_8) eo_9) eo_10) eo_11) eo_12) eo_13) eo_14) eo_15) eo_16) eo_17) eo_18) eo_19) eo_20) eo_21) eo_22) eo_23) eo_24) eo_25) eo_26) eo_27) eo_28) eo_29) eo_30) eo_31) eo_32) eo_33) eo_34) eo_35) eo_36) eo_37) eo_38) eo_39) eo_40) eo_41) eo_42) eo_43) eo_44) eo_45) eo_46) eo_47) eo_48) eo_49) eo_50) eo_51) eo_52) eo_53) eo_54) eo_55) eo_56) eo_57) eo_58) eo_59) eo_60) eo_61) eo_62) eo_63) eo_64) eo_65) eo_66) eo_67) eo_68) eo_69) eo_70) eo_71) eo_72) eo_73) eo_74) eo_75) eo_76) eo_77) eo_78) eo_79) eo_80) eo_81) eo_82) eo_83) eo_84) eo_85) eo_86) eo_87) eo_88) eo_89) eo_90) eo_91) eo_92) eo_93) eo_94) eo_95) eo_96) eo_97) eo_98) eo_99) eo_100) eo_101) eo_102) eo_103) eo_104) eo_105) eo_106) eo_107) eo_108) eo_109) eo_110) eo_111) eo_112) eo_113) eo_114) eo_115) eo_116) eo_117) eo_118) eo_119) eo_120) eo_121) eo_122) eo_123) eo_124) eo_125) eo_126) eo_127) eo_128) eo_129) eo_130) eo_131) eo_132) eo_133) eo_134) eo_135) eo_136) eo_137) eo_138) eo_139) eo_140) eo_141) eo_142) eo_143) eo_144) eo_145) eo_146) eo_147) eo_148) eo_149) eo_150) eo_151) eo_152) eo_153) eo_154) eo_155) eo_156) eo_157) eo_158) eo_159) eo_160) eo_161) eo_162) eo_163) eo_164) eo_165) eo_166) eo_167) eo_168) eo_169) eo_170) eo_171) eo_172) eo_173) eo_174) eo_175) eo_176) eo_177) eo_178) eo_179) eo_180) eo_181) eo_182) eo_183) eo_184) eo_185) eo_186) eo_187) eo_188) eo_189) eo_190) eo_191) eo_192) eo_193) eo_194) eo_195) eo_196) eo_197) eo_198) eo_199) eo_200) eo_201) eo_202) eo_203) eo_204) eo_205) eo_206) eo_207) eo_208) eo_209) eo_210) eo_211) eo_212) eo_213) eo_214) eo_215) eo_216) eo_217) eo_218) eo_219) eo_220) eo_221) eo_222) eo_223
theorem eo_ok : em_OK em_inf et_cls et_vt eu_ms := by
  intro mi tb nl ret mc sc h
  have hl : mi / 16 < 14 := by
    unfold ex_at2 at h
    cases hr : eu_ms[mi / 16]? with
    | none => rw [hr] at h; cases h
    | some r => exact (List.getElem?_eq_some_iff.mp hr).1
  exact eo_all mi (by omega) tb nl ret mc sc h
theorem eo_law : ∀ ch ∈ eu_law, ∀ x ∈ ch, ek_J em_inf et_cls et_vt "WarmNightLaw" "law" code x := ef_all eq_law em_law
theorem eo_glob : ek_glob := ⟨ew_1118, ew_1119, ew_1120, ew_1121, ew_1122, ew_1123, eg_m1 28 (by decide +kernel) rfl, by decide +kernel⟩
