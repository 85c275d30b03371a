/-! The links of this program: all of them hold. -/
theorem tb_L0 (b : Bool) : ∀ e ∈ tb_k0, pm_okL tb_Tg tb_cl tb_me tb_nw tb_ao (tb_zs b) tb_tx "ChoirShip" e.1 e.2 := by
  intro e he
  simp only [tb_k0, List.mem_cons, List.not_mem_nil, or_false] at he
  rcases he with rfl | rfl | rfl | rfl | rfl | rfl | rfl | rfl | rfl | rfl | rfl | rfl | rfl | rfl | rfl | rfl | rfl | rfl | rfl | rfl | rfl | rfl | rfl | rfl | rfl | rfl | rfl | rfl | rfl | rfl | rfl | rfl | rfl | rfl | rfl | rfl | rfl | rfl | rfl | rfl | rfl | rfl | rfl | rfl | rfl | rfl | rfl | rfl | rfl | rfl | rfl | rfl | rfl | rfl | rfl | rfl | rfl | rfl | rfl | rfl | rfl | rfl | rfl | rfl | rfl | rfl | rfl | rfl | rfl | rfl | rfl | rfl | rfl | rfl | rfl | rfl | rfl | rfl | rfl | rfl | rfl | rfl | rfl | rfl | rfl | rfl | rfl | rfl | rfl | rfl | rfl | rfl | rfl | rfl | rfl | rfl | rfl | rfl | rfl | rfl | rfl | rfl
  · exact tb_l0_1 b
  · exact tb_l0_7 b
  · exact tb_l0_9 b
  · exact tb_l0_10 b
  · exact tb_l0_16 b
  · exact tb_l0_18 b
  · exact tb_l0_22 b
  · exact tb_l0_26 b
  · exact tb_l0_28 b
  · exact tb_l0_32 b
  · exact tb_l0_34 b
  · exact tb_l0_38 b
  · exact tb_l0_40 b
  · exact tb_l0_41 b
  · exact tb_l0_45 b
  · exact tb_l0_47 b
  · exact tb_l0_48 b
  · exact tb_l0_52 b
  · exact tb_l0_56 b
  · exact tb_l0_57 b
  · exact tb_l0_58 b
  · exact tb_l0_61 b
  · exact tb_l0_65 b
  · exact tb_l0_68 b
  · exact tb_l0_72 b
  · exact tb_l0_76 b
  · exact tb_l0_80 b
  · exact tb_l0_83 b
  · exact tb_l0_87 b
  · exact tb_l0_91 b
  · exact tb_l0_94 b
  · exact tb_l0_99 b
  · exact tb_l0_102 b
  · exact tb_l0_105 b
  · exact tb_l0_108 b
  · exact tb_l0_109 b
  · exact tb_l0_113 b
  · exact tb_l0_116 b
  · exact tb_l0_119 b
  · exact tb_l0_122 b
  · exact tb_l0_126 b
  · exact tb_l0_129 b
  · exact tb_l0_132 b
  · exact tb_l0_135 b
  · exact tb_l0_139 b
  · exact tb_l0_142 b
  · exact tb_l0_145 b
  · exact tb_l0_147 b
  · exact tb_l0_150 b
  · exact tb_l0_153 b
  · exact tb_l0_156 b
  · exact tb_l0_160 b
  · exact tb_l0_164 b
  · exact tb_l0_167 b
  · exact tb_l0_171 b
  · exact tb_l0_174 b
  · exact tb_l0_177 b
  · exact tb_l0_181 b
  · exact tb_l0_184 b
  · exact tb_l0_187 b
  · exact tb_l0_190 b
  · exact tb_l0_194 b
  · exact tb_l0_197 b
  · exact tb_l0_203 b
  · exact tb_l0_206 b
  · exact tb_l0_209 b
  · exact tb_l0_213 b
  · exact tb_l0_216 b
  · exact tb_l0_220 b
  · exact tb_l0_224 b
  · exact tb_l0_228 b
  · exact tb_l0_231 b
  · exact tb_l0_234 b
  · exact tb_l0_237 b
  · exact tb_l0_241 b
  · exact tb_l0_244 b
  · exact tb_l0_247 b
  · exact tb_l0_250 b
  · exact tb_l0_253 b
  · exact tb_l0_256 b
  · exact tb_l0_259 b
  · exact tb_l0_263 b
  · exact tb_l0_266 b
  · exact tb_l0_269 b
  · exact tb_l0_272 b
  · exact tb_l0_276 b
  · exact tb_l0_279 b
  · exact tb_l0_282 b
  · exact tb_l0_285 b
  · exact tb_l0_288 b
  · exact tb_l0_291 b
  · exact tb_l0_294 b
  · exact tb_l0_297 b
  · exact tb_l0_301 b
  · exact tb_l0_304 b
  · exact tb_l0_307 b
  · exact tb_l0_310 b
  · exact tb_l0_313 b
  · exact tb_l0_316 b
  · exact tb_l0_320 b
  · exact tb_l0_324 b
  · exact tb_l0_327 b
theorem tb_L1 (b : Bool) : ∀ e ∈ tb_k1, pm_okL tb_Tg tb_cl tb_me tb_nw tb_ao (tb_zs b) tb_tx "ChoirShip$Asker" e.1 e.2 := by
  intro e he
  simp only [tb_k1, List.mem_cons, List.not_mem_nil, or_false] at he
  rcases he with rfl | rfl | rfl | rfl | rfl | rfl | rfl | rfl | rfl | rfl | rfl | rfl | rfl | rfl | rfl | rfl | rfl | rfl | rfl | rfl | rfl | rfl | rfl | rfl | rfl | rfl | rfl | rfl | rfl | rfl | rfl | rfl | rfl | rfl | rfl | rfl | rfl | rfl | rfl | rfl | rfl | rfl | rfl | rfl | rfl | rfl | rfl | rfl | rfl | rfl | rfl | rfl | rfl | rfl | rfl | rfl | rfl | rfl | rfl | rfl | rfl | rfl | rfl | rfl | rfl | rfl | rfl | rfl | rfl | rfl | rfl | rfl | rfl | rfl | rfl | rfl | rfl | rfl
  · exact tb_l1_3 b
  · exact tb_l1_9 b
  · exact tb_l1_11 b
  · exact tb_l1_12 b
  · exact tb_l1_18 b
  · exact tb_l1_20 b
  · exact tb_l1_21 b
  · exact tb_l1_25 b
  · exact tb_l1_29 b
  · exact tb_l1_33 b
  · exact tb_l1_36 b
  · exact tb_l1_39 b
  · exact tb_l1_42 b
  · exact tb_l1_45 b
  · exact tb_l1_48 b
  · exact tb_l1_51 b
  · exact tb_l1_54 b
  · exact tb_l1_57 b
  · exact tb_l1_60 b
  · exact tb_l1_63 b
  · exact tb_l1_66 b
  · exact tb_l1_69 b
  · exact tb_l1_72 b
  · exact tb_l1_75 b
  · exact tb_l1_78 b
  · exact tb_l1_80 b
  · exact tb_l1_81 b
  · exact tb_l1_85 b
  · exact tb_l1_89 b
  · exact tb_l1_92 b
  · exact tb_l1_96 b
  · exact tb_l1_100 b
  · exact tb_l1_104 b
  · exact tb_l1_107 b
  · exact tb_l1_111 b
  · exact tb_l1_112 b
  · exact tb_l1_116 b
  · exact tb_l1_119 b
  · exact tb_l1_123 b
  · exact tb_l1_126 b
  · exact tb_l1_132 b
  · exact tb_l1_136 b
  · exact tb_l1_140 b
  · exact tb_l1_145 b
  · exact tb_l1_148 b
  · exact tb_l1_151 b
  · exact tb_l1_156 b
  · exact tb_l1_158 b
  · exact tb_l1_161 b
  · exact tb_l1_164 b
  · exact tb_l1_168 b
  · exact tb_l1_171 b
  · exact tb_l1_175 b
  · exact tb_l1_181 b
  · exact tb_l1_185 b
  · exact tb_l1_188 b
  · exact tb_l1_193 b
  · exact tb_l1_196 b
  · exact tb_l1_200 b
  · exact tb_l1_204 b
  · exact tb_l1_206 b
  · exact tb_l1_209 b
  · exact tb_l1_215 b
  · exact tb_l1_218 b
  · exact tb_l1_221 b
  · exact tb_l1_225 b
  · exact tb_l1_228 b
  · exact tb_l1_229 b
  · exact tb_l1_233 b
  · exact tb_l1_236 b
  · exact tb_l1_240 b
  · exact tb_l1_243 b
  · exact tb_l1_246 b
  · exact tb_l1_250 b
  · exact tb_l1_253 b
  · exact tb_l1_255 b
  · exact tb_l1_257 b
  · exact tb_l1_259 b
theorem tb_L2 (b : Bool) : ∀ e ∈ tb_k2, pm_okL tb_Tg tb_cl tb_me tb_nw tb_ao (tb_zs b) tb_tx "ChoirShip$Choir" e.1 e.2 := by
  intro e he
  simp only [tb_k2, List.mem_cons, List.not_mem_nil, or_false] at he
  rcases he with rfl | rfl | rfl | rfl | rfl | rfl | rfl | rfl | rfl | rfl | rfl | rfl | rfl | rfl | rfl | rfl | rfl | rfl | rfl | rfl | rfl | rfl | rfl | rfl | rfl | rfl
  · exact tb_l2_3 b
  · exact tb_l2_9 b
  · exact tb_l2_15 b
  · exact tb_l2_17 b
  · exact tb_l2_18 b
  · exact tb_l2_22 b
  · exact tb_l2_26 b
  · exact tb_l2_29 b
  · exact tb_l2_33 b
  · exact tb_l2_36 b
  · exact tb_l2_42 b
  · exact tb_l2_47 b
  · exact tb_l2_51 b
  · exact tb_l2_52 b
  · exact tb_l2_56 b
  · exact tb_l2_59 b
  · exact tb_l2_63 b
  · exact tb_l2_67 b
  · exact tb_l2_70 b
  · exact tb_l2_74 b
  · exact tb_l2_76 b
  · exact tb_l2_79 b
  · exact tb_l2_84 b
  · exact tb_l2_87 b
  · exact tb_l2_90 b
  · exact tb_l2_95 b
theorem tb_L3 (b : Bool) : ∀ e ∈ tb_k3, pm_okL tb_Tg tb_cl tb_me tb_nw tb_ao (tb_zs b) tb_tx "ChoirShip$Hands" e.1 e.2 := by
  intro e he
  simp only [tb_k3, List.mem_cons, List.not_mem_nil, or_false] at he
  rcases he with rfl | rfl | rfl | rfl | rfl | rfl | rfl | rfl | rfl | rfl | rfl | rfl | rfl | rfl | rfl | rfl
  · exact tb_l3_3 b
  · exact tb_l3_9 b
  · exact tb_l3_15 b
  · exact tb_l3_18 b
  · exact tb_l3_21 b
  · exact tb_l3_24 b
  · exact tb_l3_27 b
  · exact tb_l3_31 b
  · exact tb_l3_34 b
  · exact tb_l3_40 b
  · exact tb_l3_46 b
  · exact tb_l3_52 b
  · exact tb_l3_55 b
  · exact tb_l3_60 b
  · exact tb_l3_64 b
  · exact tb_l3_67 b
theorem tb_L4 (b : Bool) : ∀ e ∈ tb_k4, pm_okL tb_Tg tb_cl tb_me tb_nw tb_ao (tb_zs b) tb_tx "ChoirShip$Past" e.1 e.2 := by
  intro e he
  simp only [tb_k4, List.mem_cons, List.not_mem_nil, or_false] at he
  rcases he with rfl | rfl | rfl | rfl | rfl | rfl | rfl | rfl
  · exact tb_l4_3 b
  · exact tb_l4_9 b
  · exact tb_l4_11 b
  · exact tb_l4_17 b
  · exact tb_l4_21 b
  · exact tb_l4_24 b
  · exact tb_l4_25 b
  · exact tb_l4_29 b
theorem tb_L5 (b : Bool) : ∀ e ∈ tb_k5, pm_okL tb_Tg tb_cl tb_me tb_nw tb_ao (tb_zs b) tb_tx "ChoirShip$Rows" e.1 e.2 := by
  intro e he
  simp only [tb_k5, List.mem_cons, List.not_mem_nil, or_false] at he
  rcases he with rfl | rfl | rfl | rfl | rfl | rfl | rfl | rfl | rfl | rfl | rfl | rfl | rfl | rfl | rfl | rfl | rfl | rfl | rfl | rfl | rfl
  · exact tb_l5_3 b
  · exact tb_l5_9 b
  · exact tb_l5_15 b
  · exact tb_l5_19 b
  · exact tb_l5_22 b
  · exact tb_l5_25 b
  · exact tb_l5_29 b
  · exact tb_l5_33 b
  · exact tb_l5_36 b
  · exact tb_l5_42 b
  · exact tb_l5_44 b
  · exact tb_l5_48 b
  · exact tb_l5_51 b
  · exact tb_l5_52 b
  · exact tb_l5_56 b
  · exact tb_l5_59 b
  · exact tb_l5_62 b
  · exact tb_l5_66 b
  · exact tb_l5_69 b
  · exact tb_l5_72 b
  · exact tb_l5_76 b
theorem tb_L6 (b : Bool) : ∀ e ∈ tb_k6, pm_okL tb_Tg tb_cl tb_me tb_nw tb_ao (tb_zs b) tb_tx "ChoirShip$Rule" e.1 e.2 := by
  intro e he
  simp only [tb_k6, List.mem_cons, List.not_mem_nil, or_false] at he
  rcases he with rfl | rfl | rfl | rfl | rfl | rfl | rfl | rfl | rfl | rfl | rfl | rfl | rfl | rfl | rfl | rfl | rfl | rfl | rfl | rfl | rfl | rfl | rfl | rfl | rfl | rfl | rfl | rfl | rfl | rfl | rfl | rfl | rfl | rfl | rfl | rfl | rfl | rfl | rfl | rfl | rfl | rfl | rfl | rfl | rfl | rfl | rfl | rfl | rfl | rfl | rfl | rfl | rfl | rfl
  · exact tb_l6_3 b
  · exact tb_l6_11 b
  · exact tb_l6_15 b
  · exact tb_l6_19 b
  · exact tb_l6_22 b
  · exact tb_l6_26 b
  · exact tb_l6_29 b
  · exact tb_l6_34 b
  · exact tb_l6_36 b
  · exact tb_l6_40 b
  · exact tb_l6_43 b
  · exact tb_l6_47 b
  · exact tb_l6_50 b
  · exact tb_l6_54 b
  · exact tb_l6_56 b
  · exact tb_l6_60 b
  · exact tb_l6_64 b
  · exact tb_l6_67 b
  · exact tb_l6_71 b
  · exact tb_l6_74 b
  · exact tb_l6_76 b
  · exact tb_l6_78 b
  · exact tb_l6_80 b
  · exact tb_l6_83 b
  · exact tb_l6_86 b
  · exact tb_l6_89 b
  · exact tb_l6_92 b
  · exact tb_l6_94 b
  · exact tb_l6_98 b
  · exact tb_l6_99 b
  · exact tb_l6_103 b
  · exact tb_l6_107 b
  · exact tb_l6_111 b
  · exact tb_l6_115 b
  · exact tb_l6_120 b
  · exact tb_l6_123 b
  · exact tb_l6_126 b
  · exact tb_l6_131 b
  · exact tb_l6_134 b
  · exact tb_l6_137 b
  · exact tb_l6_143 b
  · exact tb_l6_146 b
  · exact tb_l6_149 b
  · exact tb_l6_153 b
  · exact tb_l6_157 b
  · exact tb_l6_161 b
  · exact tb_l6_164 b
  · exact tb_l6_167 b
  · exact tb_l6_171 b
  · exact tb_l6_173 b
  · exact tb_l6_176 b
  · exact tb_l6_179 b
  · exact tb_l6_182 b
  · exact tb_l6_185 b
theorem tb_L7 (b : Bool) : ∀ e ∈ tb_k7, pm_okL tb_Tg tb_cl tb_me tb_nw tb_ao (tb_zs b) tb_tx "ChoirShip$Ship" e.1 e.2 := by
  intro e he
  simp only [tb_k7, List.mem_cons, List.not_mem_nil, or_false] at he
  rcases he with rfl | rfl | rfl | rfl | rfl | rfl | rfl | rfl | rfl | rfl | rfl | rfl | rfl | rfl | rfl | rfl | rfl | rfl | rfl | rfl | rfl | rfl | rfl | rfl | rfl | rfl | rfl | rfl | rfl | rfl | rfl | rfl | rfl | rfl | rfl | rfl | rfl | rfl | rfl | rfl | rfl | rfl
  · exact tb_l7_3 b
  · exact tb_l7_9 b
  · exact tb_l7_15 b
  · exact tb_l7_18 b
  · exact tb_l7_21 b
  · exact tb_l7_24 b
  · exact tb_l7_28 b
  · exact tb_l7_31 b
  · exact tb_l7_34 b
  · exact tb_l7_37 b
  · exact tb_l7_40 b
  · exact tb_l7_43 b
  · exact tb_l7_46 b
  · exact tb_l7_49 b
  · exact tb_l7_52 b
  · exact tb_l7_56 b
  · exact tb_l7_60 b
  · exact tb_l7_66 b
  · exact tb_l7_70 b
  · exact tb_l7_73 b
  · exact tb_l7_77 b
  · exact tb_l7_80 b
  · exact tb_l7_84 b
  · exact tb_l7_90 b
  · exact tb_l7_95 b
  · exact tb_l7_99 b
  · exact tb_l7_102 b
  · exact tb_l7_105 b
  · exact tb_l7_108 b
  · exact tb_l7_111 b
  · exact tb_l7_114 b
  · exact tb_l7_116 b
  · exact tb_l7_120 b
  · exact tb_l7_123 b
  · exact tb_l7_127 b
  · exact tb_l7_130 b
  · exact tb_l7_133 b
  · exact tb_l7_136 b
  · exact tb_l7_140 b
  · exact tb_l7_143 b
  · exact tb_l7_147 b
  · exact tb_l7_150 b
theorem tb_L8 (b : Bool) : ∀ e ∈ tb_k8, pm_okL tb_Tg tb_cl tb_me tb_nw tb_ao (tb_zs b) tb_tx "ChoirShip$Tape" e.1 e.2 := by
  intro e he
  simp only [tb_k8, List.mem_cons, List.not_mem_nil, or_false] at he
  rcases he with rfl | rfl | rfl | rfl | rfl | rfl | rfl | rfl | rfl | rfl | rfl | rfl | rfl | rfl
  · exact tb_l8_3 b
  · exact tb_l8_9 b
  · exact tb_l8_15 b
  · exact tb_l8_19 b
  · exact tb_l8_22 b
  · exact tb_l8_25 b
  · exact tb_l8_28 b
  · exact tb_l8_31 b
  · exact tb_l8_34 b
  · exact tb_l8_37 b
  · exact tb_l8_40 b
  · exact tb_l8_44 b
  · exact tb_l8_47 b
  · exact tb_l8_52 b
theorem tb_L9 (b : Bool) : ∀ e ∈ tb_k9, pm_okL tb_Tg tb_cl tb_me tb_nw tb_ao (tb_zs b) tb_tx "ChoirShip$World" e.1 e.2 := by
  intro e he
  simp only [tb_k9, List.mem_cons, List.not_mem_nil, or_false] at he
  rcases he with rfl | rfl | rfl | rfl | rfl | rfl | rfl | rfl | rfl | rfl | rfl | rfl | rfl
  · exact tb_l9_3 b
  · exact tb_l9_9 b
  · exact tb_l9_11 b
  · exact tb_l9_12 b
  · exact tb_l9_18 b
  · exact tb_l9_22 b
  · exact tb_l9_26 b
  · exact tb_l9_29 b
  · exact tb_l9_32 b
  · exact tb_l9_36 b
  · exact tb_l9_40 b
  · exact tb_l9_44 b
  · exact tb_l9_50 b
theorem tb_L10 (b : Bool) : ∀ e ∈ tb_k10, pm_okL tb_Tg tb_cl tb_me tb_nw tb_ao (tb_zs b) tb_tx "ChoirShipLaw" e.1 e.2 := by
  intro e he
  simp only [tb_k10, List.mem_cons, List.not_mem_nil, or_false] at he
  rcases he with rfl | rfl | rfl | rfl | rfl | rfl | rfl | rfl | rfl | rfl | rfl | rfl | rfl | rfl | rfl | rfl | rfl | rfl | rfl | rfl | rfl | rfl | rfl | rfl | rfl | rfl | rfl | rfl | rfl | rfl | rfl | rfl | rfl | rfl | rfl | rfl | rfl | rfl | rfl | rfl | rfl | rfl | rfl | rfl | rfl | rfl | rfl | rfl | rfl | rfl | rfl | rfl | rfl | rfl | rfl | rfl | rfl | rfl | rfl | rfl | rfl | rfl | rfl | rfl | rfl | rfl | rfl | rfl
  · exact tb_l10_7 b
  · exact tb_l10_9 b
  · exact tb_l10_10 b
  · exact tb_l10_12 b
  · exact tb_l10_13 b
  · exact tb_l10_17 b
  · exact tb_l10_18 b
  · exact tb_l10_22 b
  · exact tb_l10_23 b
  · exact tb_l10_27 b
  · exact tb_l10_28 b
  · exact tb_l10_31 b
  · exact tb_l10_32 b
  · exact tb_l10_36 b
  · exact tb_l10_37 b
  · exact tb_l10_40 b
  · exact tb_l10_41 b
  · exact tb_l10_44 b
  · exact tb_l10_45 b
  · exact tb_l10_48 b
  · exact tb_l10_49 b
  · exact tb_l10_52 b
  · exact tb_l10_53 b
  · exact tb_l10_56 b
  · exact tb_l10_57 b
  · exact tb_l10_61 b
  · exact tb_l10_62 b
  · exact tb_l10_65 b
  · exact tb_l10_66 b
  · exact tb_l10_69 b
  · exact tb_l10_70 b
  · exact tb_l10_73 b
  · exact tb_l10_74 b
  · exact tb_l10_77 b
  · exact tb_l10_78 b
  · exact tb_l10_81 b
  · exact tb_l10_82 b
  · exact tb_l10_85 b
  · exact tb_l10_86 b
  · exact tb_l10_89 b
  · exact tb_l10_90 b
  · exact tb_l10_93 b
  · exact tb_l10_94 b
  · exact tb_l10_97 b
  · exact tb_l10_98 b
  · exact tb_l10_101 b
  · exact tb_l10_102 b
  · exact tb_l10_105 b
  · exact tb_l10_106 b
  · exact tb_l10_109 b
  · exact tb_l10_110 b
  · exact tb_l10_114 b
  · exact tb_l10_115 b
  · exact tb_l10_119 b
  · exact tb_l10_120 b
  · exact tb_l10_123 b
  · exact tb_l10_124 b
  · exact tb_l10_127 b
  · exact tb_l10_128 b
  · exact tb_l10_131 b
  · exact tb_l10_132 b
  · exact tb_l10_136 b
  · exact tb_l10_137 b
  · exact tb_l10_140 b
  · exact tb_l10_141 b
  · exact tb_l10_144 b
  · exact tb_l10_145 b
  · exact tb_l10_148 b
theorem tb_L11 (b : Bool) : ∀ e ∈ tb_k11, pm_okL tb_Tg tb_cl tb_me tb_nw tb_ao (tb_zs b) tb_tx "ChoirShipModel" e.1 e.2 := by
  intro e he
  simp only [tb_k11, List.mem_cons, List.not_mem_nil, or_false] at he
  rcases he with rfl | rfl | rfl | rfl | rfl | rfl | rfl | rfl | rfl | rfl | rfl | rfl | rfl | rfl | rfl | rfl | rfl | rfl | rfl | rfl | rfl | rfl | rfl | rfl | rfl | rfl | rfl | rfl | rfl | rfl | rfl | rfl | rfl | rfl | rfl | rfl | rfl | rfl | rfl | rfl | rfl | rfl | rfl | rfl | rfl | rfl | rfl | rfl | rfl | rfl | rfl | rfl | rfl | rfl | rfl | rfl | rfl | rfl | rfl | rfl | rfl | rfl | rfl | rfl | rfl | rfl | rfl | rfl | rfl | rfl | rfl | rfl | rfl | rfl | rfl | rfl | rfl | rfl | rfl | rfl | rfl | rfl | rfl | rfl | rfl | rfl | rfl | rfl | rfl | rfl | rfl | rfl | rfl | rfl | rfl | rfl | rfl | rfl | rfl | rfl | rfl | rfl | rfl | rfl | rfl | rfl | rfl | rfl | rfl | rfl | rfl | rfl | rfl | rfl | rfl | rfl | rfl | rfl | rfl | rfl | rfl | rfl | rfl | rfl | rfl | rfl | rfl | rfl | rfl | rfl | rfl | rfl | rfl | rfl | rfl | rfl | rfl | rfl | rfl | rfl | rfl | rfl | rfl | rfl | rfl | rfl | rfl | rfl | rfl
  · exact tb_l11_1 b
  · exact tb_l11_7 b
  · exact tb_l11_13 b
  · exact tb_l11_17 b
  · exact tb_l11_20 b
  · exact tb_l11_23 b
  · exact tb_l11_26 b
  · exact tb_l11_29 b
  · exact tb_l11_32 b
  · exact tb_l11_36 b
  · exact tb_l11_39 b
  · exact tb_l11_42 b
  · exact tb_l11_45 b
  · exact tb_l11_48 b
  · exact tb_l11_51 b
  · exact tb_l11_54 b
  · exact tb_l11_57 b
  · exact tb_l11_60 b
  · exact tb_l11_63 b
  · exact tb_l11_66 b
  · exact tb_l11_69 b
  · exact tb_l11_73 b
  · exact tb_l11_77 b
  · exact tb_l11_81 b
  · exact tb_l11_84 b
  · exact tb_l11_87 b
  · exact tb_l11_91 b
  · exact tb_l11_95 b
  · exact tb_l11_99 b
  · exact tb_l11_102 b
  · exact tb_l11_105 b
  · exact tb_l11_109 b
  · exact tb_l11_112 b
  · exact tb_l11_116 b
  · exact tb_l11_118 b
  · exact tb_l11_120 b
  · exact tb_l11_122 b
  · exact tb_l11_124 b
  · exact tb_l11_126 b
  · exact tb_l11_128 b
  · exact tb_l11_130 b
  · exact tb_l11_132 b
  · exact tb_l11_134 b
  · exact tb_l11_136 b
  · exact tb_l11_138 b
  · exact tb_l11_141 b
  · exact tb_l11_144 b
  · exact tb_l11_147 b
  · exact tb_l11_150 b
  · exact tb_l11_154 b
  · exact tb_l11_158 b
  · exact tb_l11_159 b
  · exact tb_l11_162 b
  · exact tb_l11_165 b
  · exact tb_l11_168 b
  · exact tb_l11_172 b
  · exact tb_l11_175 b
  · exact tb_l11_178 b
  · exact tb_l11_180 b
  · exact tb_l11_183 b
  · exact tb_l11_186 b
  · exact tb_l11_189 b
  · exact tb_l11_192 b
  · exact tb_l11_195 b
  · exact tb_l11_198 b
  · exact tb_l11_200 b
  · exact tb_l11_202 b
  · exact tb_l11_204 b
  · exact tb_l11_207 b
  · exact tb_l11_210 b
  · exact tb_l11_214 b
  · exact tb_l11_216 b
  · exact tb_l11_219 b
  · exact tb_l11_222 b
  · exact tb_l11_224 b
  · exact tb_l11_227 b
  · exact tb_l11_230 b
  · exact tb_l11_232 b
  · exact tb_l11_234 b
  · exact tb_l11_237 b
  · exact tb_l11_240 b
  · exact tb_l11_243 b
  · exact tb_l11_246 b
  · exact tb_l11_249 b
  · exact tb_l11_252 b
  · exact tb_l11_255 b
  · exact tb_l11_258 b
  · exact tb_l11_262 b
  · exact tb_l11_266 b
  · exact tb_l11_270 b
  · exact tb_l11_273 b
  · exact tb_l11_277 b
  · exact tb_l11_280 b
  · exact tb_l11_283 b
  · exact tb_l11_286 b
  · exact tb_l11_288 b
  · exact tb_l11_291 b
  · exact tb_l11_293 b
  · exact tb_l11_296 b
  · exact tb_l11_299 b
  · exact tb_l11_302 b
  · exact tb_l11_305 b
  · exact tb_l11_308 b
  · exact tb_l11_311 b
  · exact tb_l11_315 b
  · exact tb_l11_318 b
  · exact tb_l11_321 b
  · exact tb_l11_324 b
  · exact tb_l11_327 b
  · exact tb_l11_330 b
  · exact tb_l11_333 b
  · exact tb_l11_336 b
  · exact tb_l11_339 b
  · exact tb_l11_342 b
  · exact tb_l11_345 b
  · exact tb_l11_348 b
  · exact tb_l11_351 b
  · exact tb_l11_354 b
  · exact tb_l11_356 b
  · exact tb_l11_359 b
  · exact tb_l11_361 b
  · exact tb_l11_364 b
  · exact tb_l11_367 b
  · exact tb_l11_371 b
  · exact tb_l11_374 b
  · exact tb_l11_376 b
  · exact tb_l11_379 b
  · exact tb_l11_383 b
  · exact tb_l11_386 b
  · exact tb_l11_389 b
  · exact tb_l11_393 b
  · exact tb_l11_396 b
  · exact tb_l11_398 b
  · exact tb_l11_401 b
  · exact tb_l11_404 b
  · exact tb_l11_407 b
  · exact tb_l11_410 b
  · exact tb_l11_413 b
  · exact tb_l11_416 b
  · exact tb_l11_419 b
  · exact tb_l11_423 b
  · exact tb_l11_425 b
  · exact tb_l11_427 b
  · exact tb_l11_429 b
  · exact tb_l11_431 b
  · exact tb_l11_433 b
  · exact tb_l11_435 b
  · exact tb_l11_437 b
  · exact tb_l11_440 b
theorem tb_L12 (b : Bool) : ∀ e ∈ tb_k12, pm_okL tb_Tg tb_cl tb_me tb_nw tb_ao (tb_zs b) tb_tx "java/lang/Integer" e.1 e.2 := by
  intro e he
  simp only [tb_k12, List.mem_cons, List.not_mem_nil, or_false] at he
  rcases he with rfl | rfl | rfl
  · exact tb_l12_265 b
  · exact tb_l12_266 b
  · exact tb_l12_267 b
theorem tb_L13 (b : Bool) : ∀ e ∈ tb_k13, pm_okL tb_Tg tb_cl tb_me tb_nw tb_ao (tb_zs b) tb_tx "java/lang/String" e.1 e.2 := by
  intro e he
  simp only [tb_k13, List.mem_cons, List.not_mem_nil, or_false] at he
  rcases he with rfl | rfl | rfl | rfl | rfl | rfl | rfl | rfl
  · exact tb_l13_9 b
  · exact tb_l13_15 b
  · exact tb_l13_38 b
  · exact tb_l13_335 b
  · exact tb_l13_492 b
  · exact tb_l13_495 b
  · exact tb_l13_498 b
  · exact tb_l13_1059 b
theorem tb_L14 (b : Bool) : ∀ e ∈ tb_k14, pm_okL tb_Tg tb_cl tb_me tb_nw tb_ao (tb_zs b) tb_tx "java/lang/StringLatin1" e.1 e.2 := by
  intro e he
  simp only [tb_k14, List.mem_cons, List.not_mem_nil, or_false] at he
  rcases he with rfl
  · exact tb_l14_9 b
theorem tb_L15 (b : Bool) : ∀ e ∈ tb_k15, pm_okL tb_Tg tb_cl tb_me tb_nw tb_ao (tb_zs b) tb_tx "java/lang/StringUTF16" e.1 e.2 := by
  intro e he
  simp only [tb_k15, List.mem_cons, List.not_mem_nil, or_false] at he
  rcases he with rfl | rfl | rfl | rfl
  · exact tb_l15_48 b
  · exact tb_l15_67 b
  · exact tb_l15_71 b
  · exact tb_l15_414 b
theorem tb_fi_ok {P : Nat → pm_Lk → Prop} {x : Nat} (h0 : P x (0, 0, 0, 0, 0)) : ∀ {r : List (Nat × pm_Lk)}, (∀ e ∈ r, P e.1 e.2) → P x (tb_fi x r)
  | [], _ => h0
  | e :: r, h => by
    unfold tb_fi
    split
    · rename_i q; exact q ▸ h e List.mem_cons_self
    · exact tb_fi_ok h0 (fun e he => h e (List.mem_cons_of_mem _ he))
theorem tb_0 (b : Bool) (own : String) (x : Nat) : pm_okL tb_Tg tb_cl tb_me tb_nw tb_ao (tb_zs b) tb_tx own x (0, 0, 0, 0, 0) := trivial
/-- by the owner's number -/
theorem tb_LL (b : Bool) (x : Nat) : ∀ c : Nat, pm_okL tb_Tg tb_cl tb_me tb_nw tb_ao (tb_zs b) tb_tx (tb_ow.getD c "") x (tb_fi x (tb_kk.getD c []))
  | 0 => tb_fi_ok (P := fun x l => pm_okL tb_Tg tb_cl tb_me tb_nw tb_ao (tb_zs b) tb_tx "ChoirShip" x l) (tb_0 b _ _) (tb_L0 b)
  | 1 => tb_fi_ok (P := fun x l => pm_okL tb_Tg tb_cl tb_me tb_nw tb_ao (tb_zs b) tb_tx "ChoirShip$Asker" x l) (tb_0 b _ _) (tb_L1 b)
  | 2 => tb_fi_ok (P := fun x l => pm_okL tb_Tg tb_cl tb_me tb_nw tb_ao (tb_zs b) tb_tx "ChoirShip$Choir" x l) (tb_0 b _ _) (tb_L2 b)
  | 3 => tb_fi_ok (P := fun x l => pm_okL tb_Tg tb_cl tb_me tb_nw tb_ao (tb_zs b) tb_tx "ChoirShip$Hands" x l) (tb_0 b _ _) (tb_L3 b)
  | 4 => tb_fi_ok (P := fun x l => pm_okL tb_Tg tb_cl tb_me tb_nw tb_ao (tb_zs b) tb_tx "ChoirShip$Past" x l) (tb_0 b _ _) (tb_L4 b)
  | 5 => tb_fi_ok (P := fun x l => pm_okL tb_Tg tb_cl tb_me tb_nw tb_ao (tb_zs b) tb_tx "ChoirShip$Rows" x l) (tb_0 b _ _) (tb_L5 b)
  | 6 => tb_fi_ok (P := fun x l => pm_okL tb_Tg tb_cl tb_me tb_nw tb_ao (tb_zs b) tb_tx "ChoirShip$Rule" x l) (tb_0 b _ _) (tb_L6 b)
  | 7 => tb_fi_ok (P := fun x l => pm_okL tb_Tg tb_cl tb_me tb_nw tb_ao (tb_zs b) tb_tx "ChoirShip$Ship" x l) (tb_0 b _ _) (tb_L7 b)
  | 8 => tb_fi_ok (P := fun x l => pm_okL tb_Tg tb_cl tb_me tb_nw tb_ao (tb_zs b) tb_tx "ChoirShip$Tape" x l) (tb_0 b _ _) (tb_L8 b)
  | 9 => tb_fi_ok (P := fun x l => pm_okL tb_Tg tb_cl tb_me tb_nw tb_ao (tb_zs b) tb_tx "ChoirShip$World" x l) (tb_0 b _ _) (tb_L9 b)
  | 10 => tb_fi_ok (P := fun x l => pm_okL tb_Tg tb_cl tb_me tb_nw tb_ao (tb_zs b) tb_tx "ChoirShipLaw" x l) (tb_0 b _ _) (tb_L10 b)
  | 11 => tb_fi_ok (P := fun x l => pm_okL tb_Tg tb_cl tb_me tb_nw tb_ao (tb_zs b) tb_tx "ChoirShipModel" x l) (tb_0 b _ _) (tb_L11 b)
  | 12 => tb_fi_ok (P := fun x l => pm_okL tb_Tg tb_cl tb_me tb_nw tb_ao (tb_zs b) tb_tx "java/lang/Integer" x l) (tb_0 b _ _) (tb_L12 b)
  | 13 => tb_fi_ok (P := fun x l => pm_okL tb_Tg tb_cl tb_me tb_nw tb_ao (tb_zs b) tb_tx "java/lang/String" x l) (tb_0 b _ _) (tb_L13 b)
  | 14 => tb_fi_ok (P := fun x l => pm_okL tb_Tg tb_cl tb_me tb_nw tb_ao (tb_zs b) tb_tx "java/lang/StringLatin1" x l) (tb_0 b _ _) (tb_L14 b)
  | 15 => tb_fi_ok (P := fun x l => pm_okL tb_Tg tb_cl tb_me tb_nw tb_ao (tb_zs b) tb_tx "java/lang/StringUTF16" x l) (tb_0 b _ _) (tb_L15 b)
  | _ + 16 => trivial
theorem tb_own : ∀ i, i < 272 → tb_cn.getD i 99 < 16 → (tb_me i).1.1.cls = tb_ow.getD (tb_cn.getD i 99) "" := by decide +kernel
theorem tb_cnl : tb_cn.length = 272 := by decide +kernel
theorem tb_okL (b : Bool) : ∀ i x, pm_okL tb_Tg tb_cl tb_me tb_nw tb_ao (tb_zs b) tb_tx (tb_me i).1.1.cls x (tb_lk b i x) := by
  intro i x
  unfold tb_lk
  split
  · rename_i hq
    obtain ⟨h1, rfl⟩ := hq
    have hi : i < 272 := by
      rcases Nat.lt_or_ge i 272 with h | h
      · exact h
      · rw [List.getD_eq_getElem?_getD, List.getElem?_eq_none (by rw [tb_cnl]; exact h)] at h1; cases h1
    rw [tb_own i hi (by rw [h1]; decide), h1]
    cases b
    · exact ⟨"jdk/internal/util/Preconditions", "SIOOBE_FORMATTER", "Ljava/util/function/BiFunction;", by decide +kernel, tb_in 619 (by decide +kernel) (by decide +kernel)⟩
    · exact ⟨"jdk/internal/util/Preconditions", "SIOOBE_FORMATTER", "Ljava/util/function/BiFunction;", by decide +kernel, tb_in 619 (by decide +kernel) (by decide +kernel)⟩
  · rcases Nat.lt_or_ge (tb_cn.getD i 99) 16 with hc | hc
    · have hi : i < 272 := by
        rcases Nat.lt_or_ge i 272 with h | h
        · exact h
        · rw [List.getD_eq_getElem?_getD, List.getElem?_eq_none (by rw [tb_cnl]; exact h)] at hc; exact absurd hc (by decide)
      rw [tb_own i hi hc]
      exact tb_LL b x _
    · have : tb_kk.getD (tb_cn.getD i 99) [] = [] := by
        rw [List.getD_eq_getElem?_getD, List.getElem?_eq_none (by simpa [tb_kk] using hc)]; rfl
      rw [this]
      trivial
