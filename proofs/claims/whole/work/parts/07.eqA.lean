/-! equations of the methods, printed by program (wip/whole/gen/eqs.py) -/
theorem c_0 : h_cd 0 = (k_0, 1) := rfl
theorem c_1 : h_cd 1 = (k_1, 1) := rfl
theorem c_2 : h_cd 2 = (k_2, 2) := rfl
theorem c_3 : h_cd 3 = (k_3, 2) := rfl
theorem c_4 : h_cd 4 = (k_4, 4) := rfl
theorem c_5 : h_cd 5 = (k_5, 7) := rfl
theorem c_6 : h_cd 6 = (k_6, 2) := rfl
theorem c_7 : h_cd 7 = (k_7, 7) := rfl
theorem c_8 : h_cd 8 = (k_8, 14) := rfl
theorem c_9 : h_cd 9 = (k_9, 4) := rfl
theorem c_10 : h_cd 10 = (k_10, 1) := rfl
theorem c_11 : h_cd 11 = (k_11, 1) := rfl
theorem c_12 : h_cd 12 = (k_12, 1) := rfl
theorem c_13 : h_cd 13 = (k_13, 1) := rfl
theorem c_14 : h_cd 14 = (k_14, 2) := rfl
theorem c_15 : h_cd 15 = (k_15, 2) := rfl
theorem c_16 : h_cd 16 = (k_16, 2) := rfl
theorem c_17 : h_cd 17 = (k_17, 4) := rfl
theorem c_18 : h_cd 18 = (k_18, 3) := rfl
theorem c_19 : h_cd 19 = (k_19, 3) := rfl
theorem c_20 : h_cd 20 = (k_20, 1) := rfl
theorem c_21 : h_cd 21 = (k_21, 3) := rfl
theorem c_22 : h_cd 22 = (k_22, 1) := rfl
theorem c_23 : h_cd 23 = (k_23, 5) := rfl
theorem c_24 : h_cd 24 = (k_24, 2) := rfl
theorem c_25 : h_cd 25 = (k_25, 4) := rfl
theorem c_26 : h_cd 26 = (k_26, 1) := rfl
theorem c_27 : h_cd 27 = (k_27, 6) := rfl
theorem c_28 : h_cd 28 = (k_28, 2) := rfl
theorem c_29 : h_cd 29 = (k_29, 5) := rfl
theorem c_30 : h_cd 30 = (k_30, 5) := rfl
theorem c_31 : h_cd 31 = (k_31, 6) := rfl
theorem c_32 : h_cd 32 = (k_32, 6) := rfl
theorem c_33 : h_cd 33 = (k_33, 5) := rfl
theorem c_34 : h_cd 34 = (k_34, 4) := rfl
theorem c_35 : h_cd 35 = (k_35, 5) := rfl
theorem c_36 : h_cd 36 = (k_36, 2) := rfl
theorem c_37 : h_cd 37 = (k_37, 2) := rfl
theorem c_38 : h_cd 38 = (k_38, 7) := rfl
theorem c_39 : h_cd 39 = (k_39, 4) := rfl
theorem c_40 : h_cd 40 = (k_40, 4) := rfl
theorem c_41 : h_cd 41 = (k_41, 10) := rfl
theorem c_42 : h_cd 42 = (k_42, 4) := rfl
theorem c_43 : h_cd 43 = (k_43, 10) := rfl
theorem c_44 : h_cd 44 = (k_44, 4) := rfl
theorem c_45 : h_cd 45 = (k_45, 4) := rfl
theorem c_46 : h_cd 46 = (k_46, 7) := rfl
theorem c_47 : h_cd 47 = (k_47, 10) := rfl
theorem c_48 : h_cd 48 = (k_48, 8) := rfl
theorem c_49 : h_cd 49 = (k_49, 7) := rfl
theorem c_50 : h_cd 50 = (k_50, 8) := rfl
theorem c_51 : h_cd 51 = (k_51, 7) := rfl
theorem c_52 : h_cd 52 = (k_52, 6) := rfl
theorem c_53 : h_cd 53 = (k_53, 5) := rfl
theorem c_54 : h_cd 54 = (k_54, 4) := rfl
theorem c_55 : h_cd 55 = (k_55, 6) := rfl
theorem c_56 : h_cd 56 = (k_56, 6) := rfl
theorem c_57 : h_cd 57 = (k_57, 2) := rfl
theorem c_58 : h_cd 58 = (k_58, 2) := rfl
theorem c_59 : h_cd 59 = (k_59, 3) := rfl
theorem c_60 : h_cd 60 = (k_60, 6) := rfl
theorem c_61 : h_cd 61 = (k_61, 6) := rfl
theorem c_62 : h_cd 62 = (k_62, 3) := rfl
theorem c_63 : h_cd 63 = (k_63, 4) := rfl
theorem c_64 : h_cd 64 = (k_64, 4) := rfl
theorem c_65 : h_cd 65 = (k_65, 4) := rfl
theorem c_66 : h_cd 66 = (k_66, 5) := rfl
theorem c_67 : h_cd 67 = (k_67, 8) := rfl
theorem c_68 : h_cd 68 = (k_68, 5) := rfl
theorem c_69 : h_cd 69 = (k_69, 6) := rfl
theorem c_70 : h_cd 70 = (k_70, 2) := rfl
theorem c_71 : h_cd 71 = (k_71, 1) := rfl
theorem c_72 : h_cd 72 = (k_72, 6) := rfl
theorem c_73 : h_cd 73 = (k_73, 2) := rfl
theorem c_74 : h_cd 74 = (k_74, 1) := rfl
theorem c_75 : h_cd 75 = (k_75, 2) := rfl
theorem c_76 : h_cd 76 = (k_76, 2) := rfl
theorem c_77 : h_cd 77 = (k_77, 1) := rfl
theorem c_78 : h_cd 78 = (k_78, 7) := rfl
theorem c_79 : h_cd 79 = (k_79, 2) := rfl
theorem c_80 : h_cd 80 = (k_80, 1) := rfl
theorem c_81 : h_cd 81 = (k_81, 1) := rfl
theorem c_82 : h_cd 82 = (k_82, 1) := rfl
theorem c_83 : h_cd 83 = (k_83, 1) := rfl
theorem c_84 : h_cd 84 = (k_84, 1) := rfl
theorem c_85 : h_cd 85 = (k_85, 1) := rfl
theorem c_86 : h_cd 86 = (k_86, 2) := rfl
theorem c_87 : h_cd 87 = (k_87, 1) := rfl
theorem c_88 : h_cd 88 = (k_88, 1) := rfl
theorem c_89 : h_cd 89 = (k_89, 1) := rfl
theorem c_90 : h_cd 90 = (k_90, 5) := rfl
theorem c_91 : h_cd 91 = (k_91, 10) := rfl
theorem c_92 : h_cd 92 = (k_92, 3) := rfl
theorem c_93 : h_cd 93 = (k_93, 3) := rfl
theorem c_94 : h_cd 94 = (k_94, 2) := rfl
theorem c_95 : h_cd 95 = (k_95, 5) := rfl
theorem c_96 : h_cd 96 = (k_96, 4) := rfl
theorem c_97 : h_cd 97 = (k_97, 5) := rfl
theorem c_98 : h_cd 98 = (k_98, 7) := rfl
theorem c_99 : h_cd 99 = (k_99, 8) := rfl
theorem c_100 : h_cd 100 = (k_100, 7) := rfl
theorem c_101 : h_cd 101 = (k_101, 6) := rfl
theorem c_102 : h_cd 102 = (k_102, 2) := rfl
theorem c_103 : h_cd 103 = (k_103, 2) := rfl
theorem c_104 : h_cd 104 = (k_104, 2) := rfl
theorem c_105 : h_cd 105 = (k_105, 2) := rfl
theorem c_106 : h_cd 106 = (k_106, 2) := rfl
theorem c_107 : h_cd 107 = (k_107, 2) := rfl
theorem c_108 : h_cd 108 = (k_108, 3) := rfl
theorem c_109 : h_cd 109 = (k_109, 5) := rfl
theorem c_110 : h_cd 110 = (k_110, 2) := rfl
theorem c_111 : h_cd 111 = (k_111, 2) := rfl
theorem c_112 : h_cd 112 = (k_112, 4) := rfl
theorem c_113 : h_cd 113 = (k_113, 12) := rfl
theorem c_114 : h_cd 114 = (k_114, 5) := rfl
theorem c_115 : h_cd 115 = (k_115, 4) := rfl
theorem c_116 : h_cd 116 = (k_116, 1) := rfl
theorem c_117 : h_cd 117 = (k_117, 6) := rfl
theorem c_118 : h_cd 118 = (k_118, 6) := rfl
theorem c_119 : h_cd 119 = (k_119, 3) := rfl
theorem c_120 : h_cd 120 = (k_120, 2) := rfl
theorem c_121 : h_cd 121 = (k_121, 2) := rfl
theorem c_122 : h_cd 122 = (k_122, 1) := rfl
theorem c_123 : h_cd 123 = (k_123, 1) := rfl
theorem c_124 : h_cd 124 = (k_124, 7) := rfl
theorem c_125 : h_cd 125 = (k_125, 3) := rfl
theorem c_126 : h_cd 126 = (k_126, 3) := rfl
theorem c_127 : h_cd 127 = (k_127, 3) := rfl
theorem c_128 : h_cd 128 = (k_128, 4) := rfl
theorem c_129 : h_cd 129 = (k_129, 4) := rfl
theorem c_130 : h_cd 130 = (k_130, 2) := rfl
theorem c_131 : h_cd 131 = (k_131, 2) := rfl
theorem c_132 : h_cd 132 = (k_132, 4) := rfl
theorem c_133 : h_cd 133 = (k_133, 2) := rfl
theorem c_134 : h_cd 134 = (k_134, 3) := rfl
theorem c_135 : h_cd 135 = (k_135, 5) := rfl
theorem c_136 : h_cd 136 = (k_136, 3) := rfl
theorem c_137 : h_cd 137 = (k_137, 5) := rfl
theorem c_138 : h_cd 138 = (k_138, 2) := rfl
theorem c_139 : h_cd 139 = (k_139, 3) := rfl
theorem c_140 : h_cd 140 = (k_140, 7) := rfl
theorem c_141 : h_cd 141 = (k_141, 6) := rfl
theorem c_142 : h_cd 142 = (k_142, 3) := rfl
theorem c_143 : h_cd 143 = (k_143, 5) := rfl
theorem c_144 : h_cd 144 = (k_144, 5) := rfl
theorem c_145 : h_cd 145 = (k_145, 4) := rfl
theorem c_146 : h_cd 146 = (k_146, 3) := rfl
theorem c_147 : h_cd 147 = (k_147, 5) := rfl
theorem c_148 : h_cd 148 = (k_148, 7) := rfl
theorem c_149 : h_cd 149 = (k_149, 5) := rfl
theorem c_150 : h_cd 150 = (k_150, 3) := rfl
theorem c_151 : h_cd 151 = (k_151, 4) := rfl
theorem c_152 : h_cd 152 = (k_152, 5) := rfl
theorem c_153 : h_cd 153 = (k_153, 4) := rfl
theorem c_154 : h_cd 154 = (k_154, 7) := rfl
theorem c_155 : h_cd 155 = (k_155, 3) := rfl
theorem c_156 : h_cd 156 = (k_156, 4) := rfl
theorem c_157 : h_cd 157 = (k_157, 1) := rfl
theorem c_158 : h_cd 158 = (k_158, 1) := rfl
theorem c_159 : h_cd 159 = (k_159, 7) := rfl
theorem c_160 : h_cd 160 = (k_160, 3) := rfl
theorem c_161 : h_cd 161 = (k_161, 1) := rfl
theorem c_162 : h_cd 162 = (k_162, 3) := rfl
theorem c_163 : h_cd 163 = (k_163, 6) := rfl
theorem c_164 : h_cd 164 = (k_164, 4) := rfl
theorem c_165 : h_cd 165 = (k_165, 4) := rfl
theorem c_166 : h_cd 166 = (k_166, 1) := rfl
theorem c_167 : h_cd 167 = (k_167, 1) := rfl
theorem c_168 : h_cd 168 = (k_168, 2) := rfl
theorem c_169 : h_cd 169 = (k_169, 5) := rfl
theorem c_170 : h_cd 170 = (k_170, 6) := rfl
theorem c_171 : h_cd 171 = (k_171, 3) := rfl
theorem c_172 : h_cd 172 = (k_172, 3) := rfl
theorem c_173 : h_cd 173 = (k_173, 6) := rfl
theorem c_174 : h_cd 174 = (k_174, 4) := rfl
theorem c_175 : h_cd 175 = (k_175, 5) := rfl
theorem c_176 : h_cd 176 = (k_176, 3) := rfl
theorem c_177 : h_cd 177 = (k_177, 6) := rfl
theorem c_178 : h_cd 178 = (k_178, 3) := rfl
theorem c_179 : h_cd 179 = (k_179, 4) := rfl
theorem c_180 : h_cd 180 = (k_180, 4) := rfl
theorem c_181 : h_cd 181 = (k_181, 1) := rfl
theorem c_182 : h_cd 182 = (k_182, 1) := rfl
theorem c_183 : h_cd 183 = (k_183, 4) := rfl
theorem c_184 : h_cd 184 = (k_184, 4) := rfl
/- 0: GranuleHall$Digest.<init>()V -/
set_option maxRecDepth 20000 in
theorem e_0_0 (a0 : Nat) (M : mM) : ev 0 0 [some (.inr a0)] [] M = if ¬ a0 = 0 ∧ ([] : List mV).length ≤ 8 then (if ¬ (48 : Int32) < 0 ∧ 48 ≤ 100000 then (if h_k (h_al M 9 48) a0 = 1 then (if ¬ (64 : Int32) < 0 ∧ 64 ≤ 100000 then (if h_k (h_al (h_sr (h_al M 9 48) a0 0 (h_n M + 1)) 9 64) a0 = 1 then (if ¬ (8 : Int32) < 0 ∧ 8 ≤ 100000 then (if h_k (h_al (h_sr (h_al (h_sr (h_al M 9 48) a0 0 (h_n M + 1)) 9 64) a0 1 (h_n (h_sr (h_al M 9 48) a0 0 (h_n M + 1)) + 1)) 9 8) a0 = 1 then (some (none, h_sr (h_al (h_sr (h_al (h_sr (h_al M 9 48) a0 0 (h_n M + 1)) 9 64) a0 1 (h_n (h_sr (h_al M 9 48) a0 0 (h_n M + 1)) + 1)) 9 8) a0 2 (h_n (h_sr (h_al (h_sr (h_al M 9 48) a0 0 (h_n M + 1)) 9 64) a0 1 (h_n (h_sr (h_al M 9 48) a0 0 (h_n M + 1)) + 1)) + 1))) else none) else none) else none) else none) else none) else none) else none := by
  refine (ev_ns c_0 1 (ip' := 1) (ls' := [some (.inr a0)]) (st' := [.inr a0]) (M' := M) rfl).trans ?_
  refine (ev_g (¬ a0 = 0 ∧ ([] : List mV).length ≤ 8) (ip' := 2) (ls' := [some (.inr a0)]) (st' := []) (M' := M) c_0 rfl).trans (t_i ?_ rfl)
  refine (ev_ns c_0 2 (ip' := 4) (ls' := [some (.inr a0)]) (st' := [.inl 48, .inr a0]) (M' := M) rfl).trans ?_
  refine (ev_g (¬ (48 : Int32) < 0 ∧ 48 ≤ 100000) (ip' := 5) (ls' := [some (.inr a0)]) (st' := [.inr (h_n M + 1), .inr a0]) (M' := h_al M 9 48) c_0 rfl).trans (t_i ?_ rfl)
  refine (ev_g (h_k (h_al M 9 48) a0 = 1) (ip' := 6) (ls' := [some (.inr a0)]) (st' := []) (M' := h_sr (h_al M 9 48) a0 0 (h_n M + 1)) c_0 rfl).trans (t_i ?_ rfl)
  refine (ev_ns c_0 2 (ip' := 8) (ls' := [some (.inr a0)]) (st' := [.inl 64, .inr a0]) (M' := h_sr (h_al M 9 48) a0 0 (h_n M + 1)) rfl).trans ?_
  refine (ev_g (¬ (64 : Int32) < 0 ∧ 64 ≤ 100000) (ip' := 9) (ls' := [some (.inr a0)]) (st' := [.inr (h_n (h_sr (h_al M 9 48) a0 0 (h_n M + 1)) + 1), .inr a0]) (M' := h_al (h_sr (h_al M 9 48) a0 0 (h_n M + 1)) 9 64) c_0 rfl).trans (t_i ?_ rfl)
  refine (ev_g (h_k (h_al (h_sr (h_al M 9 48) a0 0 (h_n M + 1)) 9 64) a0 = 1) (ip' := 10) (ls' := [some (.inr a0)]) (st' := []) (M' := h_sr (h_al (h_sr (h_al M 9 48) a0 0 (h_n M + 1)) 9 64) a0 1 (h_n (h_sr (h_al M 9 48) a0 0 (h_n M + 1)) + 1)) c_0 rfl).trans (t_i ?_ rfl)
  refine (ev_ns c_0 2 (ip' := 12) (ls' := [some (.inr a0)]) (st' := [.inl 8, .inr a0]) (M' := h_sr (h_al (h_sr (h_al M 9 48) a0 0 (h_n M + 1)) 9 64) a0 1 (h_n (h_sr (h_al M 9 48) a0 0 (h_n M + 1)) + 1)) rfl).trans ?_
  refine (ev_g (¬ (8 : Int32) < 0 ∧ 8 ≤ 100000) (ip' := 13) (ls' := [some (.inr a0)]) (st' := [.inr (h_n (h_sr (h_al (h_sr (h_al M 9 48) a0 0 (h_n M + 1)) 9 64) a0 1 (h_n (h_sr (h_al M 9 48) a0 0 (h_n M + 1)) + 1)) + 1), .inr a0]) (M' := h_al (h_sr (h_al (h_sr (h_al M 9 48) a0 0 (h_n M + 1)) 9 64) a0 1 (h_n (h_sr (h_al M 9 48) a0 0 (h_n M + 1)) + 1)) 9 8) c_0 rfl).trans (t_i ?_ rfl)
  refine (ev_g (h_k (h_al (h_sr (h_al (h_sr (h_al M 9 48) a0 0 (h_n M + 1)) 9 64) a0 1 (h_n (h_sr (h_al M 9 48) a0 0 (h_n M + 1)) + 1)) 9 8) a0 = 1) (ip' := 14) (ls' := [some (.inr a0)]) (st' := []) (M' := h_sr (h_al (h_sr (h_al (h_sr (h_al M 9 48) a0 0 (h_n M + 1)) 9 64) a0 1 (h_n (h_sr (h_al M 9 48) a0 0 (h_n M + 1)) + 1)) 9 8) a0 2 (h_n (h_sr (h_al (h_sr (h_al M 9 48) a0 0 (h_n M + 1)) 9 64) a0 1 (h_n (h_sr (h_al M 9 48) a0 0 (h_n M + 1)) + 1)) + 1)) c_0 rfl).trans (t_i ?_ rfl)
  exact ev_d c_0 rfl
/- 1: GranuleHall$Digest.start()V -/
set_option maxRecDepth 20000 in
theorem e_1_0 (a0 : Nat) (M : mM) : ev 1 0 [some (.inr a0)] [] M = if h_k M a0 = 1 then (some (none, h_si M a0 3 0)) else none := by
  refine (ev_ns c_1 2 (ip' := 2) (ls' := [some (.inr a0)]) (st' := [.inl 0, .inr a0]) (M' := M) rfl).trans ?_
  refine (ev_g (h_k M a0 = 1) (ip' := 3) (ls' := [some (.inr a0)]) (st' := []) (M' := h_si M a0 3 0) c_1 rfl).trans (t_i ?_ rfl)
  exact ev_d c_1 rfl
/- 2: GranuleHall$Digest.startWith([I)V -/
set_option maxRecDepth 20000 in
theorem e_2_0 (a0 : Nat) (a1 : Nat) (M : mM) : ev 2 0 [some (.inr a0), some (.inr a1)] [] M = if (a_rec M 1 [.inr a0] = true ∧ ([] : List mV).length ≤ 8) then (c_V (ev 1 0 [some (.inr a0)] [] M) fun M_1 => if (a_rec M_1 1 [.inr a0, .inr a1, .inl 8] = true ∧ ([] : List mV).length ≤ 8) then (c_V (ev 4 0 [some (.inr a0), some (.inr a1), some (.inl 8), none] [] M_1) fun M_2 => some (none, M_2)) else none) else none := by
  refine (ev_ns c_2 1 (ip' := 1) (ls' := [some (.inr a0), some (.inr a1)]) (st' := [.inr a0]) (M' := M) rfl).trans ?_
  refine (ev_gV (a_rec M 1 [.inr a0] = true ∧ ([] : List mV).length ≤ 8) (as := [.inr a0]) (rr := []) c_2 c_1 rfl).trans (t_i (t_cV ?_) rfl)
  intro M_1
  refine (ev_ns c_2 3 (ip' := 5) (ls' := [some (.inr a0), some (.inr a1)]) (st' := [.inl 8, .inr a1, .inr a0]) (M' := M_1) rfl).trans ?_
  refine (ev_gV (a_rec M_1 1 [.inr a0, .inr a1, .inl 8] = true ∧ ([] : List mV).length ≤ 8) (as := [.inr a0, .inr a1, .inl 8]) (rr := []) c_2 c_4 rfl).trans (t_i (t_cV ?_) rfl)
  intro M_2
  exact ev_d c_2 rfl
/- 3: GranuleHall$Digest.take(I)V -/
set_option maxRecDepth 20000 in
theorem e_3_0 (a0 : Nat) (i1 : Int32) (M : mM) : ev 3 0 [some (.inr a0), some (.inl i1)] [] M = if h_k M a0 = 1 then (if (45 : Int32) ≤ (h_i M a0 3) then (some (none, M)) else (if h_k M a0 = 1 then (if h_k M a0 = 1 then (if h_k M (h_r M a0 0) = 9 ∧ h_in (h_i M a0 3) (h_l M (h_r M a0 0)) then (if h_k (h_si M (h_r M a0 0) ((h_i M a0 3)).toNatClampNeg i1) a0 = 1 then (if h_k (h_si M (h_r M a0 0) ((h_i M a0 3)).toNatClampNeg i1) a0 = 1 then (some (none, h_si (h_si M (h_r M a0 0) ((h_i M a0 3)).toNatClampNeg i1) a0 3 ((h_i (h_si M (h_r M a0 0) ((h_i M a0 3)).toNatClampNeg i1) a0 3) + 1))) else none) else none) else none) else none) else none)) else none := by
  refine (ev_ns c_3 1 (ip' := 1) (ls' := [some (.inr a0), some (.inl i1)]) (st' := [.inr a0]) (M' := M) rfl).trans ?_
  refine (ev_g (h_k M a0 = 1) (ip' := 2) (ls' := [some (.inr a0), some (.inl i1)]) (st' := [.inl (h_i M a0 3)]) (M' := M) c_3 rfl).trans (t_i ?_ rfl)
  refine (ev_ns c_3 1 (ip' := 3) (ls' := [some (.inr a0), some (.inl i1)]) (st' := [.inl 45, .inl (h_i M a0 3)]) (M' := M) rfl).trans ?_
  refine (ev_i ((45 : Int32) ≤ (h_i M a0 3)) (i1 := 16) (l1 := [some (.inr a0), some (.inl i1)]) (s1 := []) (M1 := M) (i2 := 4) (l2 := [some (.inr a0), some (.inl i1)]) (s2 := []) (M2 := M) c_3 rfl).trans (t_i ?_ ?_)
  · skip
    exact ev_d c_3 rfl
  · skip
    refine (ev_ns c_3 1 (ip' := 5) (ls' := [some (.inr a0), some (.inl i1)]) (st' := [.inr a0]) (M' := M) rfl).trans ?_
    refine (ev_g (h_k M a0 = 1) (ip' := 6) (ls' := [some (.inr a0), some (.inl i1)]) (st' := [.inr (h_r M a0 0)]) (M' := M) c_3 rfl).trans (t_i ?_ rfl)
    refine (ev_ns c_3 1 (ip' := 7) (ls' := [some (.inr a0), some (.inl i1)]) (st' := [.inr a0, .inr (h_r M a0 0)]) (M' := M) rfl).trans ?_
    refine (ev_g (h_k M a0 = 1) (ip' := 8) (ls' := [some (.inr a0), some (.inl i1)]) (st' := [.inl (h_i M a0 3), .inr (h_r M a0 0)]) (M' := M) c_3 rfl).trans (t_i ?_ rfl)
    refine (ev_ns c_3 1 (ip' := 9) (ls' := [some (.inr a0), some (.inl i1)]) (st' := [.inl i1, .inl (h_i M a0 3), .inr (h_r M a0 0)]) (M' := M) rfl).trans ?_
    refine (ev_g (h_k M (h_r M a0 0) = 9 ∧ h_in (h_i M a0 3) (h_l M (h_r M a0 0))) (ip' := 10) (ls' := [some (.inr a0), some (.inl i1)]) (st' := []) (M' := h_si M (h_r M a0 0) ((h_i M a0 3)).toNatClampNeg i1) c_3 rfl).trans (t_i ?_ rfl)
    refine (ev_ns c_3 2 (ip' := 12) (ls' := [some (.inr a0), some (.inl i1)]) (st' := [.inr a0, .inr a0]) (M' := h_si M (h_r M a0 0) ((h_i M a0 3)).toNatClampNeg i1) rfl).trans ?_
    refine (ev_g (h_k (h_si M (h_r M a0 0) ((h_i M a0 3)).toNatClampNeg i1) a0 = 1) (ip' := 13) (ls' := [some (.inr a0), some (.inl i1)]) (st' := [.inl (h_i (h_si M (h_r M a0 0) ((h_i M a0 3)).toNatClampNeg i1) a0 3), .inr a0]) (M' := h_si M (h_r M a0 0) ((h_i M a0 3)).toNatClampNeg i1) c_3 rfl).trans (t_i ?_ rfl)
    refine (ev_ns c_3 2 (ip' := 15) (ls' := [some (.inr a0), some (.inl i1)]) (st' := [.inl ((h_i (h_si M (h_r M a0 0) ((h_i M a0 3)).toNatClampNeg i1) a0 3) + 1), .inr a0]) (M' := h_si M (h_r M a0 0) ((h_i M a0 3)).toNatClampNeg i1) rfl).trans ?_
    refine (ev_g (h_k (h_si M (h_r M a0 0) ((h_i M a0 3)).toNatClampNeg i1) a0 = 1) (ip' := 16) (ls' := [some (.inr a0), some (.inl i1)]) (st' := []) (M' := h_si (h_si M (h_r M a0 0) ((h_i M a0 3)).toNatClampNeg i1) a0 3 ((h_i (h_si M (h_r M a0 0) ((h_i M a0 3)).toNatClampNeg i1) a0 3) + 1)) c_3 rfl).trans (t_i ?_ rfl)
    exact ev_d c_3 rfl
/- 4: GranuleHall$Digest.takeRow([II)V -/
set_option maxRecDepth 20000 in
theorem e_4_0 (a0 : Nat) (a1 : Nat) (i2 : Int32) (M : mM) : ev 4 0 [some (.inr a0), some (.inr a1), some (.inl i2), none] [] M = ev 4 2 [some (.inr a0), some (.inr a1), some (.inl i2), some (.inl 0)] [] M := by
  exact ev_ns c_4 2 (ip' := 2) (ls' := [some (.inr a0), some (.inr a1), some (.inl i2), some (.inl 0)]) (st' := []) (M' := M) rfl
set_option maxRecDepth 20000 in
theorem e_4_2 (a0 : Nat) (a1 : Nat) (i2 : Int32) (i3 : Int32) (M : mM) : ev 4 2 [some (.inr a0), some (.inr a1), some (.inl i2), some (.inl i3)] [] M = if i2 ≤ i3 then (some (none, M)) else (if 9 ≤ h_k M a1 ∧ h_k M a1 ≤ 13 then (if (Int32.ofNat (h_l M a1)) ≤ i3 then (some (none, M)) else (if (h_k M a1 = 9 ∨ h_k M a1 = 14) ∧ h_in i3 (h_l M a1) then (if (a_rec M 1 [.inr a0, .inl (h_i M a1 (i3).toNatClampNeg)] = true ∧ ([] : List mV).length ≤ 8) then (c_V (ev 3 0 [some (.inr a0), some (.inl (h_i M a1 (i3).toNatClampNeg))] [] M) fun M_1 => ev 4 2 [some (.inr a0), some (.inr a1), some (.inl i2), some (.inl (i3 + 1))] [] M_1) else none) else none)) else none) := by
  refine (ev_ns c_4 2 (ip' := 4) (ls' := [some (.inr a0), some (.inr a1), some (.inl i2), some (.inl i3)]) (st' := [.inl i2, .inl i3]) (M' := M) rfl).trans ?_
  refine (ev_i (i2 ≤ i3) (i1 := 16) (l1 := [some (.inr a0), some (.inr a1), some (.inl i2), some (.inl i3)]) (s1 := []) (M1 := M) (i2 := 5) (l2 := [some (.inr a0), some (.inr a1), some (.inl i2), some (.inl i3)]) (s2 := []) (M2 := M) c_4 rfl).trans (t_i ?_ ?_)
  · skip
    exact ev_d c_4 rfl
  · skip
    refine (ev_ns c_4 2 (ip' := 7) (ls' := [some (.inr a0), some (.inr a1), some (.inl i2), some (.inl i3)]) (st' := [.inr a1, .inl i3]) (M' := M) rfl).trans ?_
    refine (ev_g (9 ≤ h_k M a1 ∧ h_k M a1 ≤ 13) (ip' := 8) (ls' := [some (.inr a0), some (.inr a1), some (.inl i2), some (.inl i3)]) (st' := [.inl (Int32.ofNat (h_l M a1)), .inl i3]) (M' := M) c_4 rfl).trans (t_i ?_ rfl)
    refine (ev_i ((Int32.ofNat (h_l M a1)) ≤ i3) (i1 := 16) (l1 := [some (.inr a0), some (.inr a1), some (.inl i2), some (.inl i3)]) (s1 := []) (M1 := M) (i2 := 9) (l2 := [some (.inr a0), some (.inr a1), some (.inl i2), some (.inl i3)]) (s2 := []) (M2 := M) c_4 rfl).trans (t_i ?_ ?_)
    · skip
      exact ev_d c_4 rfl
    · skip
      refine (ev_ns c_4 3 (ip' := 12) (ls' := [some (.inr a0), some (.inr a1), some (.inl i2), some (.inl i3)]) (st' := [.inl i3, .inr a1, .inr a0]) (M' := M) rfl).trans ?_
      refine (ev_g ((h_k M a1 = 9 ∨ h_k M a1 = 14) ∧ h_in i3 (h_l M a1)) (ip' := 13) (ls' := [some (.inr a0), some (.inr a1), some (.inl i2), some (.inl i3)]) (st' := [.inl (h_i M a1 (i3).toNatClampNeg), .inr a0]) (M' := M) c_4 rfl).trans (t_i ?_ rfl)
      refine (ev_gV (a_rec M 1 [.inr a0, .inl (h_i M a1 (i3).toNatClampNeg)] = true ∧ ([] : List mV).length ≤ 8) (as := [.inr a0, .inl (h_i M a1 (i3).toNatClampNeg)]) (rr := []) c_4 c_3 rfl).trans (t_i (t_cV ?_) rfl)
      intro M_1
      exact ev_ns c_4 2 (ip' := 2) (ls' := [some (.inr a0), some (.inr a1), some (.inl i2), some (.inl (i3 + 1))]) (st' := []) (M' := M_1) rfl
/- 5: GranuleHall$Digest.finish([III)V -/
set_option maxRecDepth 20000 in
theorem e_5_0 (a0 : Nat) (a1 : Nat) (i2 : Int32) (i3 : Int32) (M : mM) : ev 5 0 [some (.inr a0), some (.inr a1), some (.inl i2), some (.inl i3), none, none, none] [] M = if h_k M a0 = 1 then (if h_k M a0 = 1 then (if ¬ 16 = 0 then (if h_k M a0 = 1 then (ev 5 19 [some (.inr a0), some (.inr a1), some (.inl i2), some (.inl i3), some (.inl ((h_i M a0 3) * 32)), some (.inl (((((h_i M a0 3) + 2) / 16) * 16) + 16)), some (.inl (h_i M a0 3))] [] M) else none) else none) else none) else none := by
  refine (ev_ns c_5 1 (ip' := 1) (ls' := [some (.inr a0), some (.inr a1), some (.inl i2), some (.inl i3), none, none, none]) (st' := [.inr a0]) (M' := M) rfl).trans ?_
  refine (ev_g (h_k M a0 = 1) (ip' := 2) (ls' := [some (.inr a0), some (.inr a1), some (.inl i2), some (.inl i3), none, none, none]) (st' := [.inl (h_i M a0 3)]) (M' := M) c_5 rfl).trans (t_i ?_ rfl)
  refine (ev_ns c_5 4 (ip' := 6) (ls' := [some (.inr a0), some (.inr a1), some (.inl i2), some (.inl i3), some (.inl ((h_i M a0 3) * 32)), none, none]) (st' := [.inr a0]) (M' := M) rfl).trans ?_
  refine (ev_g (h_k M a0 = 1) (ip' := 7) (ls' := [some (.inr a0), some (.inr a1), some (.inl i2), some (.inl i3), some (.inl ((h_i M a0 3) * 32)), none, none]) (st' := [.inl (h_i M a0 3)]) (M' := M) c_5 rfl).trans (t_i ?_ rfl)
  refine (ev_ns c_5 3 (ip' := 10) (ls' := [some (.inr a0), some (.inr a1), some (.inl i2), some (.inl i3), some (.inl ((h_i M a0 3) * 32)), none, none]) (st' := [.inl 16, .inl ((h_i M a0 3) + 2)]) (M' := M) rfl).trans ?_
  refine (ev_g (¬ 16 = 0) (ip' := 11) (ls' := [some (.inr a0), some (.inr a1), some (.inl i2), some (.inl i3), some (.inl ((h_i M a0 3) * 32)), none, none]) (st' := [.inl (((h_i M a0 3) + 2) / 16)]) (M' := M) c_5 rfl).trans (t_i ?_ rfl)
  refine (ev_ns c_5 6 (ip' := 17) (ls' := [some (.inr a0), some (.inr a1), some (.inl i2), some (.inl i3), some (.inl ((h_i M a0 3) * 32)), some (.inl (((((h_i M a0 3) + 2) / 16) * 16) + 16)), none]) (st' := [.inr a0]) (M' := M) rfl).trans ?_
  refine (ev_g (h_k M a0 = 1) (ip' := 18) (ls' := [some (.inr a0), some (.inr a1), some (.inl i2), some (.inl i3), some (.inl ((h_i M a0 3) * 32)), some (.inl (((((h_i M a0 3) + 2) / 16) * 16) + 16)), none]) (st' := [.inl (h_i M a0 3)]) (M' := M) c_5 rfl).trans (t_i ?_ rfl)
  exact ev_ns c_5 1 (ip' := 19) (ls' := [some (.inr a0), some (.inr a1), some (.inl i2), some (.inl i3), some (.inl ((h_i M a0 3) * 32)), some (.inl (((((h_i M a0 3) + 2) / 16) * 16) + 16)), some (.inl (h_i M a0 3))]) (st' := []) (M' := M) rfl
set_option maxRecDepth 20000 in
theorem e_5_19 (a0 : Nat) (a1 : Nat) (i2 : Int32) (i3 : Int32) (i4 : Int32) (i5 : Int32) (i6 : Int32) (M : mM) : ev 5 19 [some (.inr a0), some (.inr a1), some (.inl i2), some (.inl i3), some (.inl i4), some (.inl i5), some (.inl i6)] [] M = if i5 ≤ i6 then (ev 5 32 [some (.inr a0), some (.inr a1), some (.inl i2), some (.inl i3), some (.inl i4), some (.inl i5), some (.inl i6)] [] M) else (if (48 : Int32) ≤ i6 then (ev 5 32 [some (.inr a0), some (.inr a1), some (.inl i2), some (.inl i3), some (.inl i4), some (.inl i5), some (.inl i6)] [] M) else (if h_k M a0 = 1 then (if h_k M (h_r M a0 0) = 9 ∧ h_in i6 (h_l M (h_r M a0 0)) then (ev 5 19 [some (.inr a0), some (.inr a1), some (.inl i2), some (.inl i3), some (.inl i4), some (.inl i5), some (.inl (i6 + 1))] [] (h_si M (h_r M a0 0) (i6).toNatClampNeg 0)) else none) else none)) := by
  refine (ev_ns c_5 2 (ip' := 21) (ls' := [some (.inr a0), some (.inr a1), some (.inl i2), some (.inl i3), some (.inl i4), some (.inl i5), some (.inl i6)]) (st' := [.inl i5, .inl i6]) (M' := M) rfl).trans ?_
  refine (ev_i (i5 ≤ i6) (i1 := 32) (l1 := [some (.inr a0), some (.inr a1), some (.inl i2), some (.inl i3), some (.inl i4), some (.inl i5), some (.inl i6)]) (s1 := []) (M1 := M) (i2 := 22) (l2 := [some (.inr a0), some (.inr a1), some (.inl i2), some (.inl i3), some (.inl i4), some (.inl i5), some (.inl i6)]) (s2 := []) (M2 := M) c_5 rfl).trans (t_i ?_ ?_)
  · skip
    exact rfl
  · skip
    refine (ev_ns c_5 2 (ip' := 24) (ls' := [some (.inr a0), some (.inr a1), some (.inl i2), some (.inl i3), some (.inl i4), some (.inl i5), some (.inl i6)]) (st' := [.inl 48, .inl i6]) (M' := M) rfl).trans ?_
    refine (ev_i ((48 : Int32) ≤ i6) (i1 := 32) (l1 := [some (.inr a0), some (.inr a1), some (.inl i2), some (.inl i3), some (.inl i4), some (.inl i5), some (.inl i6)]) (s1 := []) (M1 := M) (i2 := 25) (l2 := [some (.inr a0), some (.inr a1), some (.inl i2), some (.inl i3), some (.inl i4), some (.inl i5), some (.inl i6)]) (s2 := []) (M2 := M) c_5 rfl).trans (t_i ?_ ?_)
    · skip
      exact rfl
    · skip
      refine (ev_ns c_5 1 (ip' := 26) (ls' := [some (.inr a0), some (.inr a1), some (.inl i2), some (.inl i3), some (.inl i4), some (.inl i5), some (.inl i6)]) (st' := [.inr a0]) (M' := M) rfl).trans ?_
      refine (ev_g (h_k M a0 = 1) (ip' := 27) (ls' := [some (.inr a0), some (.inr a1), some (.inl i2), some (.inl i3), some (.inl i4), some (.inl i5), some (.inl i6)]) (st' := [.inr (h_r M a0 0)]) (M' := M) c_5 rfl).trans (t_i ?_ rfl)
      refine (ev_ns c_5 2 (ip' := 29) (ls' := [some (.inr a0), some (.inr a1), some (.inl i2), some (.inl i3), some (.inl i4), some (.inl i5), some (.inl i6)]) (st' := [.inl 0, .inl i6, .inr (h_r M a0 0)]) (M' := M) rfl).trans ?_
      refine (ev_g (h_k M (h_r M a0 0) = 9 ∧ h_in i6 (h_l M (h_r M a0 0))) (ip' := 30) (ls' := [some (.inr a0), some (.inr a1), some (.inl i2), some (.inl i3), some (.inl i4), some (.inl i5), some (.inl i6)]) (st' := []) (M' := h_si M (h_r M a0 0) (i6).toNatClampNeg 0) c_5 rfl).trans (t_i ?_ rfl)
      exact ev_ns c_5 2 (ip' := 19) (ls' := [some (.inr a0), some (.inr a1), some (.inl i2), some (.inl i3), some (.inl i4), some (.inl i5), some (.inl (i6 + 1))]) (st' := []) (M' := h_si M (h_r M a0 0) (i6).toNatClampNeg 0) rfl
set_option maxRecDepth 20000 in
theorem e_5_32 (a0 : Nat) (a1 : Nat) (i2 : Int32) (i3 : Int32) (i4 : Int32) (i5 : Int32) (i6 : Int32) (M : mM) : ev 5 32 [some (.inr a0), some (.inr a1), some (.inl i2), some (.inl i3), some (.inl i4), some (.inl i5), some (.inl i6)] [] M = if h_k M a0 = 1 then (if h_k M a0 = 1 then (if h_k M (h_r M a0 0) = 9 ∧ h_in (h_i M a0 3) (h_l M (h_r M a0 0)) then (if h_k (h_si M (h_r M a0 0) ((h_i M a0 3)).toNatClampNeg (-2147483648)) a0 = 1 then (if h_k (h_si M (h_r M a0 0) ((h_i M a0 3)).toNatClampNeg (-2147483648)) (h_r (h_si M (h_r M a0 0) ((h_i M a0 3)).toNatClampNeg (-2147483648)) a0 0) = 9 ∧ h_in (i5 - 1) (h_l (h_si M (h_r M a0 0) ((h_i M a0 3)).toNatClampNeg (-2147483648)) (h_r (h_si M (h_r M a0 0) ((h_i M a0 3)).toNatClampNeg (-2147483648)) a0 0)) then (if h_k (h_si (h_si M (h_r M a0 0) ((h_i M a0 3)).toNatClampNeg (-2147483648)) (h_r (h_si M (h_r M a0 0) ((h_i M a0 3)).toNatClampNeg (-2147483648)) a0 0) ((i5 - 1)).toNatClampNeg i4) a0 = 1 then (if ((h_k (h_si (h_si M (h_r M a0 0) ((h_i M a0 3)).toNatClampNeg (-2147483648)) (h_r (h_si M (h_r M a0 0) ((h_i M a0 3)).toNatClampNeg (-2147483648)) a0 0) ((i5 - 1)).toNatClampNeg i4) 1 = 9 ∨ h_k (h_si (h_si M (h_r M a0 0) ((h_i M a0 3)).toNatClampNeg (-2147483648)) (h_r (h_si M (h_r M a0 0) ((h_i M a0 3)).toNatClampNeg (-2147483648)) a0 0) ((i5 - 1)).toNatClampNeg i4) 1 = 14) ∧ h_k (h_si (h_si M (h_r M a0 0) ((h_i M a0 3)).toNatClampNeg (-2147483648)) (h_r (h_si M (h_r M a0 0) ((h_i M a0 3)).toNatClampNeg (-2147483648)) a0 0) ((i5 - 1)).toNatClampNeg i4) (h_r (h_si (h_si M (h_r M a0 0) ((h_i M a0 3)).toNatClampNeg (-2147483648)) (h_r (h_si M (h_r M a0 0) ((h_i M a0 3)).toNatClampNeg (-2147483648)) a0 0) ((i5 - 1)).toNatClampNeg i4) a0 2) = 9) ∧ (¬ (0 : Int32) < 0 ∧ ¬ (0 : Int32) < 0 ∧ ¬ (8 : Int32) < 0) ∧ (0 + 8 ≤ h_l (h_si (h_si M (h_r M a0 0) ((h_i M a0 3)).toNatClampNeg (-2147483648)) (h_r (h_si M (h_r M a0 0) ((h_i M a0 3)).toNatClampNeg (-2147483648)) a0 0) ((i5 - 1)).toNatClampNeg i4) 1 ∧ 0 + 8 ≤ h_l (h_si (h_si M (h_r M a0 0) ((h_i M a0 3)).toNatClampNeg (-2147483648)) (h_r (h_si M (h_r M a0 0) ((h_i M a0 3)).toNatClampNeg (-2147483648)) a0 0) ((i5 - 1)).toNatClampNeg i4) (h_r (h_si (h_si M (h_r M a0 0) ((h_i M a0 3)).toNatClampNeg (-2147483648)) (h_r (h_si M (h_r M a0 0) ((h_i M a0 3)).toNatClampNeg (-2147483648)) a0 0) ((i5 - 1)).toNatClampNeg i4) a0 2)) ∧ ([] : List mV).length ≤ 8 then (ev 5 54 [some (.inr a0), some (.inr a1), some (.inl i2), some (.inl i3), some (.inl i4), some (.inl i5), some (.inl 0)] [] (h_cp (h_si (h_si M (h_r M a0 0) ((h_i M a0 3)).toNatClampNeg (-2147483648)) (h_r (h_si M (h_r M a0 0) ((h_i M a0 3)).toNatClampNeg (-2147483648)) a0 0) ((i5 - 1)).toNatClampNeg i4) 1 0 (h_r (h_si (h_si M (h_r M a0 0) ((h_i M a0 3)).toNatClampNeg (-2147483648)) (h_r (h_si M (h_r M a0 0) ((h_i M a0 3)).toNatClampNeg (-2147483648)) a0 0) ((i5 - 1)).toNatClampNeg i4) a0 2) 0 8)) else none) else none) else none) else none) else none) else none) else none := by
  refine (ev_ns c_5 1 (ip' := 33) (ls' := [some (.inr a0), some (.inr a1), some (.inl i2), some (.inl i3), some (.inl i4), some (.inl i5), some (.inl i6)]) (st' := [.inr a0]) (M' := M) rfl).trans ?_
  refine (ev_g (h_k M a0 = 1) (ip' := 34) (ls' := [some (.inr a0), some (.inr a1), some (.inl i2), some (.inl i3), some (.inl i4), some (.inl i5), some (.inl i6)]) (st' := [.inr (h_r M a0 0)]) (M' := M) c_5 rfl).trans (t_i ?_ rfl)
  refine (ev_ns c_5 1 (ip' := 35) (ls' := [some (.inr a0), some (.inr a1), some (.inl i2), some (.inl i3), some (.inl i4), some (.inl i5), some (.inl i6)]) (st' := [.inr a0, .inr (h_r M a0 0)]) (M' := M) rfl).trans ?_
  refine (ev_g (h_k M a0 = 1) (ip' := 36) (ls' := [some (.inr a0), some (.inr a1), some (.inl i2), some (.inl i3), some (.inl i4), some (.inl i5), some (.inl i6)]) (st' := [.inl (h_i M a0 3), .inr (h_r M a0 0)]) (M' := M) c_5 rfl).trans (t_i ?_ rfl)
  refine (ev_ns c_5 1 (ip' := 37) (ls' := [some (.inr a0), some (.inr a1), some (.inl i2), some (.inl i3), some (.inl i4), some (.inl i5), some (.inl i6)]) (st' := [.inl (-2147483648), .inl (h_i M a0 3), .inr (h_r M a0 0)]) (M' := M) rfl).trans ?_
  refine (ev_g (h_k M (h_r M a0 0) = 9 ∧ h_in (h_i M a0 3) (h_l M (h_r M a0 0))) (ip' := 38) (ls' := [some (.inr a0), some (.inr a1), some (.inl i2), some (.inl i3), some (.inl i4), some (.inl i5), some (.inl i6)]) (st' := []) (M' := h_si M (h_r M a0 0) ((h_i M a0 3)).toNatClampNeg (-2147483648)) c_5 rfl).trans (t_i ?_ rfl)
  refine (ev_ns c_5 1 (ip' := 39) (ls' := [some (.inr a0), some (.inr a1), some (.inl i2), some (.inl i3), some (.inl i4), some (.inl i5), some (.inl i6)]) (st' := [.inr a0]) (M' := h_si M (h_r M a0 0) ((h_i M a0 3)).toNatClampNeg (-2147483648)) rfl).trans ?_
  refine (ev_g (h_k (h_si M (h_r M a0 0) ((h_i M a0 3)).toNatClampNeg (-2147483648)) a0 = 1) (ip' := 40) (ls' := [some (.inr a0), some (.inr a1), some (.inl i2), some (.inl i3), some (.inl i4), some (.inl i5), some (.inl i6)]) (st' := [.inr (h_r (h_si M (h_r M a0 0) ((h_i M a0 3)).toNatClampNeg (-2147483648)) a0 0)]) (M' := h_si M (h_r M a0 0) ((h_i M a0 3)).toNatClampNeg (-2147483648)) c_5 rfl).trans (t_i ?_ rfl)
  refine (ev_ns c_5 4 (ip' := 44) (ls' := [some (.inr a0), some (.inr a1), some (.inl i2), some (.inl i3), some (.inl i4), some (.inl i5), some (.inl i6)]) (st' := [.inl i4, .inl (i5 - 1), .inr (h_r (h_si M (h_r M a0 0) ((h_i M a0 3)).toNatClampNeg (-2147483648)) a0 0)]) (M' := h_si M (h_r M a0 0) ((h_i M a0 3)).toNatClampNeg (-2147483648)) rfl).trans ?_
  refine (ev_g (h_k (h_si M (h_r M a0 0) ((h_i M a0 3)).toNatClampNeg (-2147483648)) (h_r (h_si M (h_r M a0 0) ((h_i M a0 3)).toNatClampNeg (-2147483648)) a0 0) = 9 ∧ h_in (i5 - 1) (h_l (h_si M (h_r M a0 0) ((h_i M a0 3)).toNatClampNeg (-2147483648)) (h_r (h_si M (h_r M a0 0) ((h_i M a0 3)).toNatClampNeg (-2147483648)) a0 0))) (ip' := 45) (ls' := [some (.inr a0), some (.inr a1), some (.inl i2), some (.inl i3), some (.inl i4), some (.inl i5), some (.inl i6)]) (st' := []) (M' := h_si (h_si M (h_r M a0 0) ((h_i M a0 3)).toNatClampNeg (-2147483648)) (h_r (h_si M (h_r M a0 0) ((h_i M a0 3)).toNatClampNeg (-2147483648)) a0 0) ((i5 - 1)).toNatClampNeg i4) c_5 rfl).trans (t_i ?_ rfl)
  refine (ev_ns c_5 3 (ip' := 48) (ls' := [some (.inr a0), some (.inr a1), some (.inl i2), some (.inl i3), some (.inl i4), some (.inl i5), some (.inl i6)]) (st' := [.inr a0, .inl 0, .inr 1]) (M' := h_si (h_si M (h_r M a0 0) ((h_i M a0 3)).toNatClampNeg (-2147483648)) (h_r (h_si M (h_r M a0 0) ((h_i M a0 3)).toNatClampNeg (-2147483648)) a0 0) ((i5 - 1)).toNatClampNeg i4) rfl).trans ?_
  refine (ev_g (h_k (h_si (h_si M (h_r M a0 0) ((h_i M a0 3)).toNatClampNeg (-2147483648)) (h_r (h_si M (h_r M a0 0) ((h_i M a0 3)).toNatClampNeg (-2147483648)) a0 0) ((i5 - 1)).toNatClampNeg i4) a0 = 1) (ip' := 49) (ls' := [some (.inr a0), some (.inr a1), some (.inl i2), some (.inl i3), some (.inl i4), some (.inl i5), some (.inl i6)]) (st' := [.inr (h_r (h_si (h_si M (h_r M a0 0) ((h_i M a0 3)).toNatClampNeg (-2147483648)) (h_r (h_si M (h_r M a0 0) ((h_i M a0 3)).toNatClampNeg (-2147483648)) a0 0) ((i5 - 1)).toNatClampNeg i4) a0 2), .inl 0, .inr 1]) (M' := h_si (h_si M (h_r M a0 0) ((h_i M a0 3)).toNatClampNeg (-2147483648)) (h_r (h_si M (h_r M a0 0) ((h_i M a0 3)).toNatClampNeg (-2147483648)) a0 0) ((i5 - 1)).toNatClampNeg i4) c_5 rfl).trans (t_i ?_ rfl)
  refine (ev_ns c_5 2 (ip' := 51) (ls' := [some (.inr a0), some (.inr a1), some (.inl i2), some (.inl i3), some (.inl i4), some (.inl i5), some (.inl i6)]) (st' := [.inl 8, .inl 0, .inr (h_r (h_si (h_si M (h_r M a0 0) ((h_i M a0 3)).toNatClampNeg (-2147483648)) (h_r (h_si M (h_r M a0 0) ((h_i M a0 3)).toNatClampNeg (-2147483648)) a0 0) ((i5 - 1)).toNatClampNeg i4) a0 2), .inl 0, .inr 1]) (M' := h_si (h_si M (h_r M a0 0) ((h_i M a0 3)).toNatClampNeg (-2147483648)) (h_r (h_si M (h_r M a0 0) ((h_i M a0 3)).toNatClampNeg (-2147483648)) a0 0) ((i5 - 1)).toNatClampNeg i4) rfl).trans ?_
  refine (ev_g (((h_k (h_si (h_si M (h_r M a0 0) ((h_i M a0 3)).toNatClampNeg (-2147483648)) (h_r (h_si M (h_r M a0 0) ((h_i M a0 3)).toNatClampNeg (-2147483648)) a0 0) ((i5 - 1)).toNatClampNeg i4) 1 = 9 ∨ h_k (h_si (h_si M (h_r M a0 0) ((h_i M a0 3)).toNatClampNeg (-2147483648)) (h_r (h_si M (h_r M a0 0) ((h_i M a0 3)).toNatClampNeg (-2147483648)) a0 0) ((i5 - 1)).toNatClampNeg i4) 1 = 14) ∧ h_k (h_si (h_si M (h_r M a0 0) ((h_i M a0 3)).toNatClampNeg (-2147483648)) (h_r (h_si M (h_r M a0 0) ((h_i M a0 3)).toNatClampNeg (-2147483648)) a0 0) ((i5 - 1)).toNatClampNeg i4) (h_r (h_si (h_si M (h_r M a0 0) ((h_i M a0 3)).toNatClampNeg (-2147483648)) (h_r (h_si M (h_r M a0 0) ((h_i M a0 3)).toNatClampNeg (-2147483648)) a0 0) ((i5 - 1)).toNatClampNeg i4) a0 2) = 9) ∧ (¬ (0 : Int32) < 0 ∧ ¬ (0 : Int32) < 0 ∧ ¬ (8 : Int32) < 0) ∧ (0 + 8 ≤ h_l (h_si (h_si M (h_r M a0 0) ((h_i M a0 3)).toNatClampNeg (-2147483648)) (h_r (h_si M (h_r M a0 0) ((h_i M a0 3)).toNatClampNeg (-2147483648)) a0 0) ((i5 - 1)).toNatClampNeg i4) 1 ∧ 0 + 8 ≤ h_l (h_si (h_si M (h_r M a0 0) ((h_i M a0 3)).toNatClampNeg (-2147483648)) (h_r (h_si M (h_r M a0 0) ((h_i M a0 3)).toNatClampNeg (-2147483648)) a0 0) ((i5 - 1)).toNatClampNeg i4) (h_r (h_si (h_si M (h_r M a0 0) ((h_i M a0 3)).toNatClampNeg (-2147483648)) (h_r (h_si M (h_r M a0 0) ((h_i M a0 3)).toNatClampNeg (-2147483648)) a0 0) ((i5 - 1)).toNatClampNeg i4) a0 2)) ∧ ([] : List mV).length ≤ 8) (ip' := 52) (ls' := [some (.inr a0), some (.inr a1), some (.inl i2), some (.inl i3), some (.inl i4), some (.inl i5), some (.inl i6)]) (st' := []) (M' := h_cp (h_si (h_si M (h_r M a0 0) ((h_i M a0 3)).toNatClampNeg (-2147483648)) (h_r (h_si M (h_r M a0 0) ((h_i M a0 3)).toNatClampNeg (-2147483648)) a0 0) ((i5 - 1)).toNatClampNeg i4) 1 0 (h_r (h_si (h_si M (h_r M a0 0) ((h_i M a0 3)).toNatClampNeg (-2147483648)) (h_r (h_si M (h_r M a0 0) ((h_i M a0 3)).toNatClampNeg (-2147483648)) a0 0) ((i5 - 1)).toNatClampNeg i4) a0 2) 0 8) c_5 rfl).trans (t_i ?_ rfl)
  exact ev_ns c_5 2 (ip' := 54) (ls' := [some (.inr a0), some (.inr a1), some (.inl i2), some (.inl i3), some (.inl i4), some (.inl i5), some (.inl 0)]) (st' := []) (M' := h_cp (h_si (h_si M (h_r M a0 0) ((h_i M a0 3)).toNatClampNeg (-2147483648)) (h_r (h_si M (h_r M a0 0) ((h_i M a0 3)).toNatClampNeg (-2147483648)) a0 0) ((i5 - 1)).toNatClampNeg i4) 1 0 (h_r (h_si (h_si M (h_r M a0 0) ((h_i M a0 3)).toNatClampNeg (-2147483648)) (h_r (h_si M (h_r M a0 0) ((h_i M a0 3)).toNatClampNeg (-2147483648)) a0 0) ((i5 - 1)).toNatClampNeg i4) a0 2) 0 8) rfl
set_option maxRecDepth 20000 in
theorem e_5_54 (a0 : Nat) (a1 : Nat) (i2 : Int32) (i3 : Int32) (i4 : Int32) (i5 : Int32) (i6 : Int32) (M : mM) : ev 5 54 [some (.inr a0), some (.inr a1), some (.inl i2), some (.inl i3), some (.inl i4), some (.inl i5), some (.inl i6)] [] M = if i5 ≤ i6 then (if h_k M a0 = 1 then (if ((h_k M (h_r M a0 2) = 9 ∨ h_k M (h_r M a0 2) = 14) ∧ h_k M a1 = 9) ∧ (¬ (0 : Int32) < 0 ∧ ¬ i2 < 0 ∧ ¬ i3 < 0) ∧ (0 + (i3).toNatClampNeg ≤ h_l M (h_r M a0 2) ∧ (i2).toNatClampNeg + (i3).toNatClampNeg ≤ h_l M a1) ∧ ([] : List mV).length ≤ 8 then (some (none, h_cp M (h_r M a0 2) 0 a1 (i2).toNatClampNeg (i3).toNatClampNeg)) else none) else none) else (if (a_rec M 1 [.inr a0, .inl i6] = true ∧ ([] : List mV).length ≤ 8) then (c_V (ev 7 0 [some (.inr a0), some (.inl i6), none, none, none, none, none] [] M) fun M_1 => if (a_rec M_1 1 [.inr a0] = true ∧ ([] : List mV).length ≤ 8) then (c_V (ev 8 0 [some (.inr a0), none, none, none, none, none, none, none, none, none, none, none, none, none] [] M_1) fun M_2 => ev 5 54 [some (.inr a0), some (.inr a1), some (.inl i2), some (.inl i3), some (.inl i4), some (.inl i5), some (.inl (i6 + 16))] [] M_2) else none) else none) := by
  refine (ev_ns c_5 2 (ip' := 56) (ls' := [some (.inr a0), some (.inr a1), some (.inl i2), some (.inl i3), some (.inl i4), some (.inl i5), some (.inl i6)]) (st' := [.inl i5, .inl i6]) (M' := M) rfl).trans ?_
  refine (ev_i (i5 ≤ i6) (i1 := 64) (l1 := [some (.inr a0), some (.inr a1), some (.inl i2), some (.inl i3), some (.inl i4), some (.inl i5), some (.inl i6)]) (s1 := []) (M1 := M) (i2 := 57) (l2 := [some (.inr a0), some (.inr a1), some (.inl i2), some (.inl i3), some (.inl i4), some (.inl i5), some (.inl i6)]) (s2 := []) (M2 := M) c_5 rfl).trans (t_i ?_ ?_)
  · skip
    refine (ev_ns c_5 1 (ip' := 65) (ls' := [some (.inr a0), some (.inr a1), some (.inl i2), some (.inl i3), some (.inl i4), some (.inl i5), some (.inl i6)]) (st' := [.inr a0]) (M' := M) rfl).trans ?_
    refine (ev_g (h_k M a0 = 1) (ip' := 66) (ls' := [some (.inr a0), some (.inr a1), some (.inl i2), some (.inl i3), some (.inl i4), some (.inl i5), some (.inl i6)]) (st' := [.inr (h_r M a0 2)]) (M' := M) c_5 rfl).trans (t_i ?_ rfl)
    refine (ev_ns c_5 4 (ip' := 70) (ls' := [some (.inr a0), some (.inr a1), some (.inl i2), some (.inl i3), some (.inl i4), some (.inl i5), some (.inl i6)]) (st' := [.inl i3, .inl i2, .inr a1, .inl 0, .inr (h_r M a0 2)]) (M' := M) rfl).trans ?_
    refine (ev_g (((h_k M (h_r M a0 2) = 9 ∨ h_k M (h_r M a0 2) = 14) ∧ h_k M a1 = 9) ∧ (¬ (0 : Int32) < 0 ∧ ¬ i2 < 0 ∧ ¬ i3 < 0) ∧ (0 + (i3).toNatClampNeg ≤ h_l M (h_r M a0 2) ∧ (i2).toNatClampNeg + (i3).toNatClampNeg ≤ h_l M a1) ∧ ([] : List mV).length ≤ 8) (ip' := 71) (ls' := [some (.inr a0), some (.inr a1), some (.inl i2), some (.inl i3), some (.inl i4), some (.inl i5), some (.inl i6)]) (st' := []) (M' := h_cp M (h_r M a0 2) 0 a1 (i2).toNatClampNeg (i3).toNatClampNeg) c_5 rfl).trans (t_i ?_ rfl)
    exact ev_d c_5 rfl
  · skip
    refine (ev_ns c_5 2 (ip' := 59) (ls' := [some (.inr a0), some (.inr a1), some (.inl i2), some (.inl i3), some (.inl i4), some (.inl i5), some (.inl i6)]) (st' := [.inl i6, .inr a0]) (M' := M) rfl).trans ?_
    refine (ev_gV (a_rec M 1 [.inr a0, .inl i6] = true ∧ ([] : List mV).length ≤ 8) (as := [.inr a0, .inl i6]) (rr := []) c_5 c_7 rfl).trans (t_i (t_cV ?_) rfl)
    intro M_1
    refine (ev_ns c_5 1 (ip' := 61) (ls' := [some (.inr a0), some (.inr a1), some (.inl i2), some (.inl i3), some (.inl i4), some (.inl i5), some (.inl i6)]) (st' := [.inr a0]) (M' := M_1) rfl).trans ?_
    refine (ev_gV (a_rec M_1 1 [.inr a0] = true ∧ ([] : List mV).length ≤ 8) (as := [.inr a0]) (rr := []) c_5 c_8 rfl).trans (t_i (t_cV ?_) rfl)
    intro M_2
    exact ev_ns c_5 2 (ip' := 54) (ls' := [some (.inr a0), some (.inr a1), some (.inl i2), some (.inl i3), some (.inl i4), some (.inl i5), some (.inl (i6 + 16))]) (st' := []) (M' := M_2) rfl
/- 6: GranuleHall$Digest.turned(II)I -/
set_option maxRecDepth 20000 in
theorem e_6_0 (i0 : Int32) (i1 : Int32) (M : mM) : ev 6 0 [some (.inl i0), some (.inl i1)] [] M = some (some (.inl (((i0).toUInt32 >>> ((i1).toUInt32 &&& Int32.toUInt32 31)).toInt32 ||| (i0 <<< ((32 - i1) &&& 31)))), M) := by
  refine (ev_ns c_6 9 (ip' := 9) (ls' := [some (.inl i0), some (.inl i1)]) (st' := [.inl (((i0).toUInt32 >>> ((i1).toUInt32 &&& Int32.toUInt32 31)).toInt32 ||| (i0 <<< ((32 - i1) &&& 31)))]) (M' := M) rfl).trans ?_
  exact ev_d c_6 rfl
/- 7: GranuleHall$Digest.spread(I)V -/
set_option maxRecDepth 20000 in
theorem e_7_0 (a0 : Nat) (i1 : Int32) (M : mM) : ev 7 0 [some (.inr a0), some (.inl i1), none, none, none, none, none] [] M = if h_k M a0 = 1 then (if h_k M a0 = 1 then (if ((h_k M (h_r M a0 0) = 9 ∨ h_k M (h_r M a0 0) = 14) ∧ h_k M (h_r M a0 1) = 9) ∧ (¬ i1 < 0 ∧ ¬ (0 : Int32) < 0 ∧ ¬ (16 : Int32) < 0) ∧ ((i1).toNatClampNeg + 16 ≤ h_l M (h_r M a0 0) ∧ 0 + 16 ≤ h_l M (h_r M a0 1)) ∧ ([] : List mV).length ≤ 8 then (ev 7 10 [some (.inr a0), some (.inl i1), some (.inl 16), none, none, none, none] [] (h_cp M (h_r M a0 0) (i1).toNatClampNeg (h_r M a0 1) 0 16)) else none) else none) else none := by
  refine (ev_ns c_7 1 (ip' := 1) (ls' := [some (.inr a0), some (.inl i1), none, none, none, none, none]) (st' := [.inr a0]) (M' := M) rfl).trans ?_
  refine (ev_g (h_k M a0 = 1) (ip' := 2) (ls' := [some (.inr a0), some (.inl i1), none, none, none, none, none]) (st' := [.inr (h_r M a0 0)]) (M' := M) c_7 rfl).trans (t_i ?_ rfl)
  refine (ev_ns c_7 2 (ip' := 4) (ls' := [some (.inr a0), some (.inl i1), none, none, none, none, none]) (st' := [.inr a0, .inl i1, .inr (h_r M a0 0)]) (M' := M) rfl).trans ?_
  refine (ev_g (h_k M a0 = 1) (ip' := 5) (ls' := [some (.inr a0), some (.inl i1), none, none, none, none, none]) (st' := [.inr (h_r M a0 1), .inl i1, .inr (h_r M a0 0)]) (M' := M) c_7 rfl).trans (t_i ?_ rfl)
  refine (ev_ns c_7 2 (ip' := 7) (ls' := [some (.inr a0), some (.inl i1), none, none, none, none, none]) (st' := [.inl 16, .inl 0, .inr (h_r M a0 1), .inl i1, .inr (h_r M a0 0)]) (M' := M) rfl).trans ?_
  refine (ev_g (((h_k M (h_r M a0 0) = 9 ∨ h_k M (h_r M a0 0) = 14) ∧ h_k M (h_r M a0 1) = 9) ∧ (¬ i1 < 0 ∧ ¬ (0 : Int32) < 0 ∧ ¬ (16 : Int32) < 0) ∧ ((i1).toNatClampNeg + 16 ≤ h_l M (h_r M a0 0) ∧ 0 + 16 ≤ h_l M (h_r M a0 1)) ∧ ([] : List mV).length ≤ 8) (ip' := 8) (ls' := [some (.inr a0), some (.inl i1), none, none, none, none, none]) (st' := []) (M' := h_cp M (h_r M a0 0) (i1).toNatClampNeg (h_r M a0 1) 0 16) c_7 rfl).trans (t_i ?_ rfl)
  exact ev_ns c_7 2 (ip' := 10) (ls' := [some (.inr a0), some (.inl i1), some (.inl 16), none, none, none, none]) (st' := []) (M' := h_cp M (h_r M a0 0) (i1).toNatClampNeg (h_r M a0 1) 0 16) rfl
set_option maxRecDepth 20000 in
theorem e_7_10 (a0 : Nat) (i1 : Int32) (i2 : Int32) (o3 : Option mV) (o4 : Option mV) (o5 : Option mV) (o6 : Option mV) (M : mM) : ev 7 10 [some (.inr a0), some (.inl i1), some (.inl i2), o3, o4, o5, o6] [] M = if (64 : Int32) ≤ i2 then (some (none, M)) else (if h_k M a0 = 1 then (if (h_k M (h_r M a0 1) = 9 ∨ h_k M (h_r M a0 1) = 14) ∧ h_in (i2 - 2) (h_l M (h_r M a0 1)) then (if h_k M a0 = 1 then (if (h_k M (h_r M a0 1) = 9 ∨ h_k M (h_r M a0 1) = 14) ∧ h_in (i2 - 15) (h_l M (h_r M a0 1)) then (if (a_rec M 0 [.inl (h_i M (h_r M a0 1) ((i2 - 2)).toNatClampNeg), .inl 17] = true ∧ ([] : List mV).length ≤ 8) then (c_I (ev 6 0 [some (.inl (h_i M (h_r M a0 1) ((i2 - 2)).toNatClampNeg)), some (.inl 17)] [] M) fun v_2 M_1 => if (a_rec M_1 0 [.inl (h_i M (h_r M a0 1) ((i2 - 2)).toNatClampNeg), .inl 19] = true ∧ ([.inl v_2] : List mV).length ≤ 8) then (c_I (ev 6 0 [some (.inl (h_i M (h_r M a0 1) ((i2 - 2)).toNatClampNeg)), some (.inl 19)] [] M_1) fun v_4 M_3 => if (a_rec M_3 0 [.inl (h_i M (h_r M a0 1) ((i2 - 15)).toNatClampNeg), .inl 7] = true ∧ ([] : List mV).length ≤ 8) then (c_I (ev 6 0 [some (.inl (h_i M (h_r M a0 1) ((i2 - 15)).toNatClampNeg)), some (.inl 7)] [] M_3) fun v_6 M_5 => if (a_rec M_5 0 [.inl (h_i M (h_r M a0 1) ((i2 - 15)).toNatClampNeg), .inl 18] = true ∧ ([.inl v_6] : List mV).length ≤ 8) then (c_I (ev 6 0 [some (.inl (h_i M (h_r M a0 1) ((i2 - 15)).toNatClampNeg)), some (.inl 18)] [] M_5) fun v_8 M_7 => if h_k M_7 a0 = 1 then (if h_k M_7 a0 = 1 then (if (h_k M_7 (h_r M_7 a0 1) = 9 ∨ h_k M_7 (h_r M_7 a0 1) = 14) ∧ h_in (i2 - 7) (h_l M_7 (h_r M_7 a0 1)) then (if h_k M_7 a0 = 1 then (if (h_k M_7 (h_r M_7 a0 1) = 9 ∨ h_k M_7 (h_r M_7 a0 1) = 14) ∧ h_in (i2 - 16) (h_l M_7 (h_r M_7 a0 1)) then (if h_k M_7 (h_r M_7 a0 1) = 9 ∧ h_in i2 (h_l M_7 (h_r M_7 a0 1)) then (ev 7 10 [some (.inr a0), some (.inl i1), some (.inl (i2 + 1)), some (.inl (h_i M (h_r M a0 1) ((i2 - 2)).toNatClampNeg)), some (.inl (h_i M (h_r M a0 1) ((i2 - 15)).toNatClampNeg)), some (.inl ((v_2 ^^^ v_4) ^^^ (((h_i M (h_r M a0 1) ((i2 - 2)).toNatClampNeg)).toUInt32 >>> (((10 : Int32)).toUInt32 &&& Int32.toUInt32 31)).toInt32)), some (.inl ((v_6 ^^^ v_8) ^^^ (((h_i M (h_r M a0 1) ((i2 - 15)).toNatClampNeg)).toUInt32 >>> (((3 : Int32)).toUInt32 &&& Int32.toUInt32 31)).toInt32))] [] (h_si M_7 (h_r M_7 a0 1) (i2).toNatClampNeg (((((v_2 ^^^ v_4) ^^^ (((h_i M (h_r M a0 1) ((i2 - 2)).toNatClampNeg)).toUInt32 >>> (((10 : Int32)).toUInt32 &&& Int32.toUInt32 31)).toInt32) + (h_i M_7 (h_r M_7 a0 1) ((i2 - 7)).toNatClampNeg)) + ((v_6 ^^^ v_8) ^^^ (((h_i M (h_r M a0 1) ((i2 - 15)).toNatClampNeg)).toUInt32 >>> (((3 : Int32)).toUInt32 &&& Int32.toUInt32 31)).toInt32)) + (h_i M_7 (h_r M_7 a0 1) ((i2 - 16)).toNatClampNeg)))) else none) else none) else none) else none) else none) else none) else none) else none) else none) else none) else none) else none) else none) else none) := by
  refine (ev_ns c_7 2 (ip' := 12) (ls' := [some (.inr a0), some (.inl i1), some (.inl i2), o3, o4, o5, o6]) (st' := [.inl 64, .inl i2]) (M' := M) rfl).trans ?_
  refine (ev_i ((64 : Int32) ≤ i2) (i1 := 74) (l1 := [some (.inr a0), some (.inl i1), some (.inl i2), o3, o4, o5, o6]) (s1 := []) (M1 := M) (i2 := 13) (l2 := [some (.inr a0), some (.inl i1), some (.inl i2), o3, o4, o5, o6]) (s2 := []) (M2 := M) c_7 rfl).trans (t_i ?_ ?_)
  · skip
    exact ev_d c_7 rfl
  · skip
    refine (ev_ns c_7 1 (ip' := 14) (ls' := [some (.inr a0), some (.inl i1), some (.inl i2), o3, o4, o5, o6]) (st' := [.inr a0]) (M' := M) rfl).trans ?_
    refine (ev_g (h_k M a0 = 1) (ip' := 15) (ls' := [some (.inr a0), some (.inl i1), some (.inl i2), o3, o4, o5, o6]) (st' := [.inr (h_r M a0 1)]) (M' := M) c_7 rfl).trans (t_i ?_ rfl)
    refine (ev_ns c_7 3 (ip' := 18) (ls' := [some (.inr a0), some (.inl i1), some (.inl i2), o3, o4, o5, o6]) (st' := [.inl (i2 - 2), .inr (h_r M a0 1)]) (M' := M) rfl).trans ?_
    refine (ev_g ((h_k M (h_r M a0 1) = 9 ∨ h_k M (h_r M a0 1) = 14) ∧ h_in (i2 - 2) (h_l M (h_r M a0 1))) (ip' := 19) (ls' := [some (.inr a0), some (.inl i1), some (.inl i2), o3, o4, o5, o6]) (st' := [.inl (h_i M (h_r M a0 1) ((i2 - 2)).toNatClampNeg)]) (M' := M) c_7 rfl).trans (t_i ?_ rfl)
    refine (ev_ns c_7 2 (ip' := 21) (ls' := [some (.inr a0), some (.inl i1), some (.inl i2), some (.inl (h_i M (h_r M a0 1) ((i2 - 2)).toNatClampNeg)), o4, o5, o6]) (st' := [.inr a0]) (M' := M) rfl).trans ?_
    refine (ev_g (h_k M a0 = 1) (ip' := 22) (ls' := [some (.inr a0), some (.inl i1), some (.inl i2), some (.inl (h_i M (h_r M a0 1) ((i2 - 2)).toNatClampNeg)), o4, o5, o6]) (st' := [.inr (h_r M a0 1)]) (M' := M) c_7 rfl).trans (t_i ?_ rfl)
    refine (ev_ns c_7 3 (ip' := 25) (ls' := [some (.inr a0), some (.inl i1), some (.inl i2), some (.inl (h_i M (h_r M a0 1) ((i2 - 2)).toNatClampNeg)), o4, o5, o6]) (st' := [.inl (i2 - 15), .inr (h_r M a0 1)]) (M' := M) rfl).trans ?_
    refine (ev_g ((h_k M (h_r M a0 1) = 9 ∨ h_k M (h_r M a0 1) = 14) ∧ h_in (i2 - 15) (h_l M (h_r M a0 1))) (ip' := 26) (ls' := [some (.inr a0), some (.inl i1), some (.inl i2), some (.inl (h_i M (h_r M a0 1) ((i2 - 2)).toNatClampNeg)), o4, o5, o6]) (st' := [.inl (h_i M (h_r M a0 1) ((i2 - 15)).toNatClampNeg)]) (M' := M) c_7 rfl).trans (t_i ?_ rfl)
    refine (ev_ns c_7 3 (ip' := 29) (ls' := [some (.inr a0), some (.inl i1), some (.inl i2), some (.inl (h_i M (h_r M a0 1) ((i2 - 2)).toNatClampNeg)), some (.inl (h_i M (h_r M a0 1) ((i2 - 15)).toNatClampNeg)), o5, o6]) (st' := [.inl 17, .inl (h_i M (h_r M a0 1) ((i2 - 2)).toNatClampNeg)]) (M' := M) rfl).trans ?_
    refine (ev_gI (a_rec M 0 [.inl (h_i M (h_r M a0 1) ((i2 - 2)).toNatClampNeg), .inl 17] = true ∧ ([] : List mV).length ≤ 8) (as := [.inl (h_i M (h_r M a0 1) ((i2 - 2)).toNatClampNeg), .inl 17]) (rr := []) c_7 c_6 rfl).trans (t_i (t_cI ?_) rfl)
    intro v_2 M_1
    refine (ev_ns c_7 2 (ip' := 32) (ls' := [some (.inr a0), some (.inl i1), some (.inl i2), some (.inl (h_i M (h_r M a0 1) ((i2 - 2)).toNatClampNeg)), some (.inl (h_i M (h_r M a0 1) ((i2 - 15)).toNatClampNeg)), o5, o6]) (st' := [.inl 19, .inl (h_i M (h_r M a0 1) ((i2 - 2)).toNatClampNeg), .inl v_2]) (M' := M_1) rfl).trans ?_
    refine (ev_gI (a_rec M_1 0 [.inl (h_i M (h_r M a0 1) ((i2 - 2)).toNatClampNeg), .inl 19] = true ∧ ([.inl v_2] : List mV).length ≤ 8) (as := [.inl (h_i M (h_r M a0 1) ((i2 - 2)).toNatClampNeg), .inl 19]) (rr := [.inl v_2]) c_7 c_6 rfl).trans (t_i (t_cI ?_) rfl)
    intro v_4 M_3
    refine (ev_ns c_7 8 (ip' := 41) (ls' := [some (.inr a0), some (.inl i1), some (.inl i2), some (.inl (h_i M (h_r M a0 1) ((i2 - 2)).toNatClampNeg)), some (.inl (h_i M (h_r M a0 1) ((i2 - 15)).toNatClampNeg)), some (.inl ((v_2 ^^^ v_4) ^^^ (((h_i M (h_r M a0 1) ((i2 - 2)).toNatClampNeg)).toUInt32 >>> (((10 : Int32)).toUInt32 &&& Int32.toUInt32 31)).toInt32)), o6]) (st' := [.inl 7, .inl (h_i M (h_r M a0 1) ((i2 - 15)).toNatClampNeg)]) (M' := M_3) rfl).trans ?_
    refine (ev_gI (a_rec M_3 0 [.inl (h_i M (h_r M a0 1) ((i2 - 15)).toNatClampNeg), .inl 7] = true ∧ ([] : List mV).length ≤ 8) (as := [.inl (h_i M (h_r M a0 1) ((i2 - 15)).toNatClampNeg), .inl 7]) (rr := []) c_7 c_6 rfl).trans (t_i (t_cI ?_) rfl)
    intro v_6 M_5
    refine (ev_ns c_7 2 (ip' := 44) (ls' := [some (.inr a0), some (.inl i1), some (.inl i2), some (.inl (h_i M (h_r M a0 1) ((i2 - 2)).toNatClampNeg)), some (.inl (h_i M (h_r M a0 1) ((i2 - 15)).toNatClampNeg)), some (.inl ((v_2 ^^^ v_4) ^^^ (((h_i M (h_r M a0 1) ((i2 - 2)).toNatClampNeg)).toUInt32 >>> (((10 : Int32)).toUInt32 &&& Int32.toUInt32 31)).toInt32)), o6]) (st' := [.inl 18, .inl (h_i M (h_r M a0 1) ((i2 - 15)).toNatClampNeg), .inl v_6]) (M' := M_5) rfl).trans ?_
    refine (ev_gI (a_rec M_5 0 [.inl (h_i M (h_r M a0 1) ((i2 - 15)).toNatClampNeg), .inl 18] = true ∧ ([.inl v_6] : List mV).length ≤ 8) (as := [.inl (h_i M (h_r M a0 1) ((i2 - 15)).toNatClampNeg), .inl 18]) (rr := [.inl v_6]) c_7 c_6 rfl).trans (t_i (t_cI ?_) rfl)
    intro v_8 M_7
    refine (ev_ns c_7 7 (ip' := 52) (ls' := [some (.inr a0), some (.inl i1), some (.inl i2), some (.inl (h_i M (h_r M a0 1) ((i2 - 2)).toNatClampNeg)), some (.inl (h_i M (h_r M a0 1) ((i2 - 15)).toNatClampNeg)), some (.inl ((v_2 ^^^ v_4) ^^^ (((h_i M (h_r M a0 1) ((i2 - 2)).toNatClampNeg)).toUInt32 >>> (((10 : Int32)).toUInt32 &&& Int32.toUInt32 31)).toInt32)), some (.inl ((v_6 ^^^ v_8) ^^^ (((h_i M (h_r M a0 1) ((i2 - 15)).toNatClampNeg)).toUInt32 >>> (((3 : Int32)).toUInt32 &&& Int32.toUInt32 31)).toInt32))]) (st' := [.inr a0]) (M' := M_7) rfl).trans ?_
    refine (ev_g (h_k M_7 a0 = 1) (ip' := 53) (ls' := [some (.inr a0), some (.inl i1), some (.inl i2), some (.inl (h_i M (h_r M a0 1) ((i2 - 2)).toNatClampNeg)), some (.inl (h_i M (h_r M a0 1) ((i2 - 15)).toNatClampNeg)), some (.inl ((v_2 ^^^ v_4) ^^^ (((h_i M (h_r M a0 1) ((i2 - 2)).toNatClampNeg)).toUInt32 >>> (((10 : Int32)).toUInt32 &&& Int32.toUInt32 31)).toInt32)), some (.inl ((v_6 ^^^ v_8) ^^^ (((h_i M (h_r M a0 1) ((i2 - 15)).toNatClampNeg)).toUInt32 >>> (((3 : Int32)).toUInt32 &&& Int32.toUInt32 31)).toInt32))]) (st' := [.inr (h_r M_7 a0 1)]) (M' := M_7) c_7 rfl).trans (t_i ?_ rfl)
    refine (ev_ns c_7 3 (ip' := 56) (ls' := [some (.inr a0), some (.inl i1), some (.inl i2), some (.inl (h_i M (h_r M a0 1) ((i2 - 2)).toNatClampNeg)), some (.inl (h_i M (h_r M a0 1) ((i2 - 15)).toNatClampNeg)), some (.inl ((v_2 ^^^ v_4) ^^^ (((h_i M (h_r M a0 1) ((i2 - 2)).toNatClampNeg)).toUInt32 >>> (((10 : Int32)).toUInt32 &&& Int32.toUInt32 31)).toInt32)), some (.inl ((v_6 ^^^ v_8) ^^^ (((h_i M (h_r M a0 1) ((i2 - 15)).toNatClampNeg)).toUInt32 >>> (((3 : Int32)).toUInt32 &&& Int32.toUInt32 31)).toInt32))]) (st' := [.inr a0, .inl ((v_2 ^^^ v_4) ^^^ (((h_i M (h_r M a0 1) ((i2 - 2)).toNatClampNeg)).toUInt32 >>> (((10 : Int32)).toUInt32 &&& Int32.toUInt32 31)).toInt32), .inl i2, .inr (h_r M_7 a0 1)]) (M' := M_7) rfl).trans ?_
    refine (ev_g (h_k M_7 a0 = 1) (ip' := 57) (ls' := [some (.inr a0), some (.inl i1), some (.inl i2), some (.inl (h_i M (h_r M a0 1) ((i2 - 2)).toNatClampNeg)), some (.inl (h_i M (h_r M a0 1) ((i2 - 15)).toNatClampNeg)), some (.inl ((v_2 ^^^ v_4) ^^^ (((h_i M (h_r M a0 1) ((i2 - 2)).toNatClampNeg)).toUInt32 >>> (((10 : Int32)).toUInt32 &&& Int32.toUInt32 31)).toInt32)), some (.inl ((v_6 ^^^ v_8) ^^^ (((h_i M (h_r M a0 1) ((i2 - 15)).toNatClampNeg)).toUInt32 >>> (((3 : Int32)).toUInt32 &&& Int32.toUInt32 31)).toInt32))]) (st' := [.inr (h_r M_7 a0 1), .inl ((v_2 ^^^ v_4) ^^^ (((h_i M (h_r M a0 1) ((i2 - 2)).toNatClampNeg)).toUInt32 >>> (((10 : Int32)).toUInt32 &&& Int32.toUInt32 31)).toInt32), .inl i2, .inr (h_r M_7 a0 1)]) (M' := M_7) c_7 rfl).trans (t_i ?_ rfl)
    refine (ev_ns c_7 3 (ip' := 60) (ls' := [some (.inr a0), some (.inl i1), some (.inl i2), some (.inl (h_i M (h_r M a0 1) ((i2 - 2)).toNatClampNeg)), some (.inl (h_i M (h_r M a0 1) ((i2 - 15)).toNatClampNeg)), some (.inl ((v_2 ^^^ v_4) ^^^ (((h_i M (h_r M a0 1) ((i2 - 2)).toNatClampNeg)).toUInt32 >>> (((10 : Int32)).toUInt32 &&& Int32.toUInt32 31)).toInt32)), some (.inl ((v_6 ^^^ v_8) ^^^ (((h_i M (h_r M a0 1) ((i2 - 15)).toNatClampNeg)).toUInt32 >>> (((3 : Int32)).toUInt32 &&& Int32.toUInt32 31)).toInt32))]) (st' := [.inl (i2 - 7), .inr (h_r M_7 a0 1), .inl ((v_2 ^^^ v_4) ^^^ (((h_i M (h_r M a0 1) ((i2 - 2)).toNatClampNeg)).toUInt32 >>> (((10 : Int32)).toUInt32 &&& Int32.toUInt32 31)).toInt32), .inl i2, .inr (h_r M_7 a0 1)]) (M' := M_7) rfl).trans ?_
    refine (ev_g ((h_k M_7 (h_r M_7 a0 1) = 9 ∨ h_k M_7 (h_r M_7 a0 1) = 14) ∧ h_in (i2 - 7) (h_l M_7 (h_r M_7 a0 1))) (ip' := 61) (ls' := [some (.inr a0), some (.inl i1), some (.inl i2), some (.inl (h_i M (h_r M a0 1) ((i2 - 2)).toNatClampNeg)), some (.inl (h_i M (h_r M a0 1) ((i2 - 15)).toNatClampNeg)), some (.inl ((v_2 ^^^ v_4) ^^^ (((h_i M (h_r M a0 1) ((i2 - 2)).toNatClampNeg)).toUInt32 >>> (((10 : Int32)).toUInt32 &&& Int32.toUInt32 31)).toInt32)), some (.inl ((v_6 ^^^ v_8) ^^^ (((h_i M (h_r M a0 1) ((i2 - 15)).toNatClampNeg)).toUInt32 >>> (((3 : Int32)).toUInt32 &&& Int32.toUInt32 31)).toInt32))]) (st' := [.inl (h_i M_7 (h_r M_7 a0 1) ((i2 - 7)).toNatClampNeg), .inl ((v_2 ^^^ v_4) ^^^ (((h_i M (h_r M a0 1) ((i2 - 2)).toNatClampNeg)).toUInt32 >>> (((10 : Int32)).toUInt32 &&& Int32.toUInt32 31)).toInt32), .inl i2, .inr (h_r M_7 a0 1)]) (M' := M_7) c_7 rfl).trans (t_i ?_ rfl)
    refine (ev_ns c_7 4 (ip' := 65) (ls' := [some (.inr a0), some (.inl i1), some (.inl i2), some (.inl (h_i M (h_r M a0 1) ((i2 - 2)).toNatClampNeg)), some (.inl (h_i M (h_r M a0 1) ((i2 - 15)).toNatClampNeg)), some (.inl ((v_2 ^^^ v_4) ^^^ (((h_i M (h_r M a0 1) ((i2 - 2)).toNatClampNeg)).toUInt32 >>> (((10 : Int32)).toUInt32 &&& Int32.toUInt32 31)).toInt32)), some (.inl ((v_6 ^^^ v_8) ^^^ (((h_i M (h_r M a0 1) ((i2 - 15)).toNatClampNeg)).toUInt32 >>> (((3 : Int32)).toUInt32 &&& Int32.toUInt32 31)).toInt32))]) (st' := [.inr a0, .inl ((((v_2 ^^^ v_4) ^^^ (((h_i M (h_r M a0 1) ((i2 - 2)).toNatClampNeg)).toUInt32 >>> (((10 : Int32)).toUInt32 &&& Int32.toUInt32 31)).toInt32) + (h_i M_7 (h_r M_7 a0 1) ((i2 - 7)).toNatClampNeg)) + ((v_6 ^^^ v_8) ^^^ (((h_i M (h_r M a0 1) ((i2 - 15)).toNatClampNeg)).toUInt32 >>> (((3 : Int32)).toUInt32 &&& Int32.toUInt32 31)).toInt32)), .inl i2, .inr (h_r M_7 a0 1)]) (M' := M_7) rfl).trans ?_
    refine (ev_g (h_k M_7 a0 = 1) (ip' := 66) (ls' := [some (.inr a0), some (.inl i1), some (.inl i2), some (.inl (h_i M (h_r M a0 1) ((i2 - 2)).toNatClampNeg)), some (.inl (h_i M (h_r M a0 1) ((i2 - 15)).toNatClampNeg)), some (.inl ((v_2 ^^^ v_4) ^^^ (((h_i M (h_r M a0 1) ((i2 - 2)).toNatClampNeg)).toUInt32 >>> (((10 : Int32)).toUInt32 &&& Int32.toUInt32 31)).toInt32)), some (.inl ((v_6 ^^^ v_8) ^^^ (((h_i M (h_r M a0 1) ((i2 - 15)).toNatClampNeg)).toUInt32 >>> (((3 : Int32)).toUInt32 &&& Int32.toUInt32 31)).toInt32))]) (st' := [.inr (h_r M_7 a0 1), .inl ((((v_2 ^^^ v_4) ^^^ (((h_i M (h_r M a0 1) ((i2 - 2)).toNatClampNeg)).toUInt32 >>> (((10 : Int32)).toUInt32 &&& Int32.toUInt32 31)).toInt32) + (h_i M_7 (h_r M_7 a0 1) ((i2 - 7)).toNatClampNeg)) + ((v_6 ^^^ v_8) ^^^ (((h_i M (h_r M a0 1) ((i2 - 15)).toNatClampNeg)).toUInt32 >>> (((3 : Int32)).toUInt32 &&& Int32.toUInt32 31)).toInt32)), .inl i2, .inr (h_r M_7 a0 1)]) (M' := M_7) c_7 rfl).trans (t_i ?_ rfl)
    refine (ev_ns c_7 3 (ip' := 69) (ls' := [some (.inr a0), some (.inl i1), some (.inl i2), some (.inl (h_i M (h_r M a0 1) ((i2 - 2)).toNatClampNeg)), some (.inl (h_i M (h_r M a0 1) ((i2 - 15)).toNatClampNeg)), some (.inl ((v_2 ^^^ v_4) ^^^ (((h_i M (h_r M a0 1) ((i2 - 2)).toNatClampNeg)).toUInt32 >>> (((10 : Int32)).toUInt32 &&& Int32.toUInt32 31)).toInt32)), some (.inl ((v_6 ^^^ v_8) ^^^ (((h_i M (h_r M a0 1) ((i2 - 15)).toNatClampNeg)).toUInt32 >>> (((3 : Int32)).toUInt32 &&& Int32.toUInt32 31)).toInt32))]) (st' := [.inl (i2 - 16), .inr (h_r M_7 a0 1), .inl ((((v_2 ^^^ v_4) ^^^ (((h_i M (h_r M a0 1) ((i2 - 2)).toNatClampNeg)).toUInt32 >>> (((10 : Int32)).toUInt32 &&& Int32.toUInt32 31)).toInt32) + (h_i M_7 (h_r M_7 a0 1) ((i2 - 7)).toNatClampNeg)) + ((v_6 ^^^ v_8) ^^^ (((h_i M (h_r M a0 1) ((i2 - 15)).toNatClampNeg)).toUInt32 >>> (((3 : Int32)).toUInt32 &&& Int32.toUInt32 31)).toInt32)), .inl i2, .inr (h_r M_7 a0 1)]) (M' := M_7) rfl).trans ?_
    refine (ev_g ((h_k M_7 (h_r M_7 a0 1) = 9 ∨ h_k M_7 (h_r M_7 a0 1) = 14) ∧ h_in (i2 - 16) (h_l M_7 (h_r M_7 a0 1))) (ip' := 70) (ls' := [some (.inr a0), some (.inl i1), some (.inl i2), some (.inl (h_i M (h_r M a0 1) ((i2 - 2)).toNatClampNeg)), some (.inl (h_i M (h_r M a0 1) ((i2 - 15)).toNatClampNeg)), some (.inl ((v_2 ^^^ v_4) ^^^ (((h_i M (h_r M a0 1) ((i2 - 2)).toNatClampNeg)).toUInt32 >>> (((10 : Int32)).toUInt32 &&& Int32.toUInt32 31)).toInt32)), some (.inl ((v_6 ^^^ v_8) ^^^ (((h_i M (h_r M a0 1) ((i2 - 15)).toNatClampNeg)).toUInt32 >>> (((3 : Int32)).toUInt32 &&& Int32.toUInt32 31)).toInt32))]) (st' := [.inl (h_i M_7 (h_r M_7 a0 1) ((i2 - 16)).toNatClampNeg), .inl ((((v_2 ^^^ v_4) ^^^ (((h_i M (h_r M a0 1) ((i2 - 2)).toNatClampNeg)).toUInt32 >>> (((10 : Int32)).toUInt32 &&& Int32.toUInt32 31)).toInt32) + (h_i M_7 (h_r M_7 a0 1) ((i2 - 7)).toNatClampNeg)) + ((v_6 ^^^ v_8) ^^^ (((h_i M (h_r M a0 1) ((i2 - 15)).toNatClampNeg)).toUInt32 >>> (((3 : Int32)).toUInt32 &&& Int32.toUInt32 31)).toInt32)), .inl i2, .inr (h_r M_7 a0 1)]) (M' := M_7) c_7 rfl).trans (t_i ?_ rfl)
    refine (ev_ns c_7 1 (ip' := 71) (ls' := [some (.inr a0), some (.inl i1), some (.inl i2), some (.inl (h_i M (h_r M a0 1) ((i2 - 2)).toNatClampNeg)), some (.inl (h_i M (h_r M a0 1) ((i2 - 15)).toNatClampNeg)), some (.inl ((v_2 ^^^ v_4) ^^^ (((h_i M (h_r M a0 1) ((i2 - 2)).toNatClampNeg)).toUInt32 >>> (((10 : Int32)).toUInt32 &&& Int32.toUInt32 31)).toInt32)), some (.inl ((v_6 ^^^ v_8) ^^^ (((h_i M (h_r M a0 1) ((i2 - 15)).toNatClampNeg)).toUInt32 >>> (((3 : Int32)).toUInt32 &&& Int32.toUInt32 31)).toInt32))]) (st' := [.inl (((((v_2 ^^^ v_4) ^^^ (((h_i M (h_r M a0 1) ((i2 - 2)).toNatClampNeg)).toUInt32 >>> (((10 : Int32)).toUInt32 &&& Int32.toUInt32 31)).toInt32) + (h_i M_7 (h_r M_7 a0 1) ((i2 - 7)).toNatClampNeg)) + ((v_6 ^^^ v_8) ^^^ (((h_i M (h_r M a0 1) ((i2 - 15)).toNatClampNeg)).toUInt32 >>> (((3 : Int32)).toUInt32 &&& Int32.toUInt32 31)).toInt32)) + (h_i M_7 (h_r M_7 a0 1) ((i2 - 16)).toNatClampNeg)), .inl i2, .inr (h_r M_7 a0 1)]) (M' := M_7) rfl).trans ?_
    refine (ev_g (h_k M_7 (h_r M_7 a0 1) = 9 ∧ h_in i2 (h_l M_7 (h_r M_7 a0 1))) (ip' := 72) (ls' := [some (.inr a0), some (.inl i1), some (.inl i2), some (.inl (h_i M (h_r M a0 1) ((i2 - 2)).toNatClampNeg)), some (.inl (h_i M (h_r M a0 1) ((i2 - 15)).toNatClampNeg)), some (.inl ((v_2 ^^^ v_4) ^^^ (((h_i M (h_r M a0 1) ((i2 - 2)).toNatClampNeg)).toUInt32 >>> (((10 : Int32)).toUInt32 &&& Int32.toUInt32 31)).toInt32)), some (.inl ((v_6 ^^^ v_8) ^^^ (((h_i M (h_r M a0 1) ((i2 - 15)).toNatClampNeg)).toUInt32 >>> (((3 : Int32)).toUInt32 &&& Int32.toUInt32 31)).toInt32))]) (st' := []) (M' := h_si M_7 (h_r M_7 a0 1) (i2).toNatClampNeg (((((v_2 ^^^ v_4) ^^^ (((h_i M (h_r M a0 1) ((i2 - 2)).toNatClampNeg)).toUInt32 >>> (((10 : Int32)).toUInt32 &&& Int32.toUInt32 31)).toInt32) + (h_i M_7 (h_r M_7 a0 1) ((i2 - 7)).toNatClampNeg)) + ((v_6 ^^^ v_8) ^^^ (((h_i M (h_r M a0 1) ((i2 - 15)).toNatClampNeg)).toUInt32 >>> (((3 : Int32)).toUInt32 &&& Int32.toUInt32 31)).toInt32)) + (h_i M_7 (h_r M_7 a0 1) ((i2 - 16)).toNatClampNeg))) c_7 rfl).trans (t_i ?_ rfl)
    exact ev_ns c_7 2 (ip' := 10) (ls' := [some (.inr a0), some (.inl i1), some (.inl (i2 + 1)), some (.inl (h_i M (h_r M a0 1) ((i2 - 2)).toNatClampNeg)), some (.inl (h_i M (h_r M a0 1) ((i2 - 15)).toNatClampNeg)), some (.inl ((v_2 ^^^ v_4) ^^^ (((h_i M (h_r M a0 1) ((i2 - 2)).toNatClampNeg)).toUInt32 >>> (((10 : Int32)).toUInt32 &&& Int32.toUInt32 31)).toInt32)), some (.inl ((v_6 ^^^ v_8) ^^^ (((h_i M (h_r M a0 1) ((i2 - 15)).toNatClampNeg)).toUInt32 >>> (((3 : Int32)).toUInt32 &&& Int32.toUInt32 31)).toInt32))]) (st' := []) (M' := h_si M_7 (h_r M_7 a0 1) (i2).toNatClampNeg (((((v_2 ^^^ v_4) ^^^ (((h_i M (h_r M a0 1) ((i2 - 2)).toNatClampNeg)).toUInt32 >>> (((10 : Int32)).toUInt32 &&& Int32.toUInt32 31)).toInt32) + (h_i M_7 (h_r M_7 a0 1) ((i2 - 7)).toNatClampNeg)) + ((v_6 ^^^ v_8) ^^^ (((h_i M (h_r M a0 1) ((i2 - 15)).toNatClampNeg)).toUInt32 >>> (((3 : Int32)).toUInt32 &&& Int32.toUInt32 31)).toInt32)) + (h_i M_7 (h_r M_7 a0 1) ((i2 - 16)).toNatClampNeg))) rfl
/- 8: GranuleHall$Digest.mix()V -/
set_option maxRecDepth 20000 in
theorem e_8_0 (a0 : Nat) (M : mM) : ev 8 0 [some (.inr a0), none, none, none, none, none, none, none, none, none, none, none, none, none] [] M = if h_k M a0 = 1 then (if (h_k M (h_r M a0 2) = 9 ∨ h_k M (h_r M a0 2) = 14) ∧ h_in 0 (h_l M (h_r M a0 2)) then (if h_k M a0 = 1 then (if (h_k M (h_r M a0 2) = 9 ∨ h_k M (h_r M a0 2) = 14) ∧ h_in 1 (h_l M (h_r M a0 2)) then (if h_k M a0 = 1 then (if (h_k M (h_r M a0 2) = 9 ∨ h_k M (h_r M a0 2) = 14) ∧ h_in 2 (h_l M (h_r M a0 2)) then (if h_k M a0 = 1 then (if (h_k M (h_r M a0 2) = 9 ∨ h_k M (h_r M a0 2) = 14) ∧ h_in 3 (h_l M (h_r M a0 2)) then (if h_k M a0 = 1 then (if (h_k M (h_r M a0 2) = 9 ∨ h_k M (h_r M a0 2) = 14) ∧ h_in 4 (h_l M (h_r M a0 2)) then (if h_k M a0 = 1 then (if (h_k M (h_r M a0 2) = 9 ∨ h_k M (h_r M a0 2) = 14) ∧ h_in 5 (h_l M (h_r M a0 2)) then (if h_k M a0 = 1 then (if (h_k M (h_r M a0 2) = 9 ∨ h_k M (h_r M a0 2) = 14) ∧ h_in 6 (h_l M (h_r M a0 2)) then (if h_k M a0 = 1 then (if (h_k M (h_r M a0 2) = 9 ∨ h_k M (h_r M a0 2) = 14) ∧ h_in 7 (h_l M (h_r M a0 2)) then (ev 8 42 [some (.inr a0), some (.inl (h_i M (h_r M a0 2) 0)), some (.inl (h_i M (h_r M a0 2) 1)), some (.inl (h_i M (h_r M a0 2) 2)), some (.inl (h_i M (h_r M a0 2) 3)), some (.inl (h_i M (h_r M a0 2) 4)), some (.inl (h_i M (h_r M a0 2) 5)), some (.inl (h_i M (h_r M a0 2) 6)), some (.inl (h_i M (h_r M a0 2) 7)), some (.inl 0), none, none, none, none] [] M) else none) else none) else none) else none) else none) else none) else none) else none) else none) else none) else none) else none) else none) else none) else none) else none := by
  refine (ev_ns c_8 1 (ip' := 1) (ls' := [some (.inr a0), none, none, none, none, none, none, none, none, none, none, none, none, none]) (st' := [.inr a0]) (M' := M) rfl).trans ?_
  refine (ev_g (h_k M a0 = 1) (ip' := 2) (ls' := [some (.inr a0), none, none, none, none, none, none, none, none, none, none, none, none, none]) (st' := [.inr (h_r M a0 2)]) (M' := M) c_8 rfl).trans (t_i ?_ rfl)
  refine (ev_ns c_8 1 (ip' := 3) (ls' := [some (.inr a0), none, none, none, none, none, none, none, none, none, none, none, none, none]) (st' := [.inl 0, .inr (h_r M a0 2)]) (M' := M) rfl).trans ?_
  refine (ev_g ((h_k M (h_r M a0 2) = 9 ∨ h_k M (h_r M a0 2) = 14) ∧ h_in 0 (h_l M (h_r M a0 2))) (ip' := 4) (ls' := [some (.inr a0), none, none, none, none, none, none, none, none, none, none, none, none, none]) (st' := [.inl (h_i M (h_r M a0 2) 0)]) (M' := M) c_8 rfl).trans (t_i ?_ rfl)
  refine (ev_ns c_8 2 (ip' := 6) (ls' := [some (.inr a0), some (.inl (h_i M (h_r M a0 2) 0)), none, none, none, none, none, none, none, none, none, none, none, none]) (st' := [.inr a0]) (M' := M) rfl).trans ?_
  refine (ev_g (h_k M a0 = 1) (ip' := 7) (ls' := [some (.inr a0), some (.inl (h_i M (h_r M a0 2) 0)), none, none, none, none, none, none, none, none, none, none, none, none]) (st' := [.inr (h_r M a0 2)]) (M' := M) c_8 rfl).trans (t_i ?_ rfl)
  refine (ev_ns c_8 1 (ip' := 8) (ls' := [some (.inr a0), some (.inl (h_i M (h_r M a0 2) 0)), none, none, none, none, none, none, none, none, none, none, none, none]) (st' := [.inl 1, .inr (h_r M a0 2)]) (M' := M) rfl).trans ?_
  refine (ev_g ((h_k M (h_r M a0 2) = 9 ∨ h_k M (h_r M a0 2) = 14) ∧ h_in 1 (h_l M (h_r M a0 2))) (ip' := 9) (ls' := [some (.inr a0), some (.inl (h_i M (h_r M a0 2) 0)), none, none, none, none, none, none, none, none, none, none, none, none]) (st' := [.inl (h_i M (h_r M a0 2) 1)]) (M' := M) c_8 rfl).trans (t_i ?_ rfl)
  refine (ev_ns c_8 2 (ip' := 11) (ls' := [some (.inr a0), some (.inl (h_i M (h_r M a0 2) 0)), some (.inl (h_i M (h_r M a0 2) 1)), none, none, none, none, none, none, none, none, none, none, none]) (st' := [.inr a0]) (M' := M) rfl).trans ?_
  refine (ev_g (h_k M a0 = 1) (ip' := 12) (ls' := [some (.inr a0), some (.inl (h_i M (h_r M a0 2) 0)), some (.inl (h_i M (h_r M a0 2) 1)), none, none, none, none, none, none, none, none, none, none, none]) (st' := [.inr (h_r M a0 2)]) (M' := M) c_8 rfl).trans (t_i ?_ rfl)
  refine (ev_ns c_8 1 (ip' := 13) (ls' := [some (.inr a0), some (.inl (h_i M (h_r M a0 2) 0)), some (.inl (h_i M (h_r M a0 2) 1)), none, none, none, none, none, none, none, none, none, none, none]) (st' := [.inl 2, .inr (h_r M a0 2)]) (M' := M) rfl).trans ?_
  refine (ev_g ((h_k M (h_r M a0 2) = 9 ∨ h_k M (h_r M a0 2) = 14) ∧ h_in 2 (h_l M (h_r M a0 2))) (ip' := 14) (ls' := [some (.inr a0), some (.inl (h_i M (h_r M a0 2) 0)), some (.inl (h_i M (h_r M a0 2) 1)), none, none, none, none, none, none, none, none, none, none, none]) (st' := [.inl (h_i M (h_r M a0 2) 2)]) (M' := M) c_8 rfl).trans (t_i ?_ rfl)
  refine (ev_ns c_8 2 (ip' := 16) (ls' := [some (.inr a0), some (.inl (h_i M (h_r M a0 2) 0)), some (.inl (h_i M (h_r M a0 2) 1)), some (.inl (h_i M (h_r M a0 2) 2)), none, none, none, none, none, none, none, none, none, none]) (st' := [.inr a0]) (M' := M) rfl).trans ?_
  refine (ev_g (h_k M a0 = 1) (ip' := 17) (ls' := [some (.inr a0), some (.inl (h_i M (h_r M a0 2) 0)), some (.inl (h_i M (h_r M a0 2) 1)), some (.inl (h_i M (h_r M a0 2) 2)), none, none, none, none, none, none, none, none, none, none]) (st' := [.inr (h_r M a0 2)]) (M' := M) c_8 rfl).trans (t_i ?_ rfl)
  refine (ev_ns c_8 1 (ip' := 18) (ls' := [some (.inr a0), some (.inl (h_i M (h_r M a0 2) 0)), some (.inl (h_i M (h_r M a0 2) 1)), some (.inl (h_i M (h_r M a0 2) 2)), none, none, none, none, none, none, none, none, none, none]) (st' := [.inl 3, .inr (h_r M a0 2)]) (M' := M) rfl).trans ?_
  refine (ev_g ((h_k M (h_r M a0 2) = 9 ∨ h_k M (h_r M a0 2) = 14) ∧ h_in 3 (h_l M (h_r M a0 2))) (ip' := 19) (ls' := [some (.inr a0), some (.inl (h_i M (h_r M a0 2) 0)), some (.inl (h_i M (h_r M a0 2) 1)), some (.inl (h_i M (h_r M a0 2) 2)), none, none, none, none, none, none, none, none, none, none]) (st' := [.inl (h_i M (h_r M a0 2) 3)]) (M' := M) c_8 rfl).trans (t_i ?_ rfl)
  refine (ev_ns c_8 2 (ip' := 21) (ls' := [some (.inr a0), some (.inl (h_i M (h_r M a0 2) 0)), some (.inl (h_i M (h_r M a0 2) 1)), some (.inl (h_i M (h_r M a0 2) 2)), some (.inl (h_i M (h_r M a0 2) 3)), none, none, none, none, none, none, none, none, none]) (st' := [.inr a0]) (M' := M) rfl).trans ?_
  refine (ev_g (h_k M a0 = 1) (ip' := 22) (ls' := [some (.inr a0), some (.inl (h_i M (h_r M a0 2) 0)), some (.inl (h_i M (h_r M a0 2) 1)), some (.inl (h_i M (h_r M a0 2) 2)), some (.inl (h_i M (h_r M a0 2) 3)), none, none, none, none, none, none, none, none, none]) (st' := [.inr (h_r M a0 2)]) (M' := M) c_8 rfl).trans (t_i ?_ rfl)
  refine (ev_ns c_8 1 (ip' := 23) (ls' := [some (.inr a0), some (.inl (h_i M (h_r M a0 2) 0)), some (.inl (h_i M (h_r M a0 2) 1)), some (.inl (h_i M (h_r M a0 2) 2)), some (.inl (h_i M (h_r M a0 2) 3)), none, none, none, none, none, none, none, none, none]) (st' := [.inl 4, .inr (h_r M a0 2)]) (M' := M) rfl).trans ?_
  refine (ev_g ((h_k M (h_r M a0 2) = 9 ∨ h_k M (h_r M a0 2) = 14) ∧ h_in 4 (h_l M (h_r M a0 2))) (ip' := 24) (ls' := [some (.inr a0), some (.inl (h_i M (h_r M a0 2) 0)), some (.inl (h_i M (h_r M a0 2) 1)), some (.inl (h_i M (h_r M a0 2) 2)), some (.inl (h_i M (h_r M a0 2) 3)), none, none, none, none, none, none, none, none, none]) (st' := [.inl (h_i M (h_r M a0 2) 4)]) (M' := M) c_8 rfl).trans (t_i ?_ rfl)
  refine (ev_ns c_8 2 (ip' := 26) (ls' := [some (.inr a0), some (.inl (h_i M (h_r M a0 2) 0)), some (.inl (h_i M (h_r M a0 2) 1)), some (.inl (h_i M (h_r M a0 2) 2)), some (.inl (h_i M (h_r M a0 2) 3)), some (.inl (h_i M (h_r M a0 2) 4)), none, none, none, none, none, none, none, none]) (st' := [.inr a0]) (M' := M) rfl).trans ?_
  refine (ev_g (h_k M a0 = 1) (ip' := 27) (ls' := [some (.inr a0), some (.inl (h_i M (h_r M a0 2) 0)), some (.inl (h_i M (h_r M a0 2) 1)), some (.inl (h_i M (h_r M a0 2) 2)), some (.inl (h_i M (h_r M a0 2) 3)), some (.inl (h_i M (h_r M a0 2) 4)), none, none, none, none, none, none, none, none]) (st' := [.inr (h_r M a0 2)]) (M' := M) c_8 rfl).trans (t_i ?_ rfl)
  refine (ev_ns c_8 1 (ip' := 28) (ls' := [some (.inr a0), some (.inl (h_i M (h_r M a0 2) 0)), some (.inl (h_i M (h_r M a0 2) 1)), some (.inl (h_i M (h_r M a0 2) 2)), some (.inl (h_i M (h_r M a0 2) 3)), some (.inl (h_i M (h_r M a0 2) 4)), none, none, none, none, none, none, none, none]) (st' := [.inl 5, .inr (h_r M a0 2)]) (M' := M) rfl).trans ?_
  refine (ev_g ((h_k M (h_r M a0 2) = 9 ∨ h_k M (h_r M a0 2) = 14) ∧ h_in 5 (h_l M (h_r M a0 2))) (ip' := 29) (ls' := [some (.inr a0), some (.inl (h_i M (h_r M a0 2) 0)), some (.inl (h_i M (h_r M a0 2) 1)), some (.inl (h_i M (h_r M a0 2) 2)), some (.inl (h_i M (h_r M a0 2) 3)), some (.inl (h_i M (h_r M a0 2) 4)), none, none, none, none, none, none, none, none]) (st' := [.inl (h_i M (h_r M a0 2) 5)]) (M' := M) c_8 rfl).trans (t_i ?_ rfl)
  refine (ev_ns c_8 2 (ip' := 31) (ls' := [some (.inr a0), some (.inl (h_i M (h_r M a0 2) 0)), some (.inl (h_i M (h_r M a0 2) 1)), some (.inl (h_i M (h_r M a0 2) 2)), some (.inl (h_i M (h_r M a0 2) 3)), some (.inl (h_i M (h_r M a0 2) 4)), some (.inl (h_i M (h_r M a0 2) 5)), none, none, none, none, none, none, none]) (st' := [.inr a0]) (M' := M) rfl).trans ?_
  refine (ev_g (h_k M a0 = 1) (ip' := 32) (ls' := [some (.inr a0), some (.inl (h_i M (h_r M a0 2) 0)), some (.inl (h_i M (h_r M a0 2) 1)), some (.inl (h_i M (h_r M a0 2) 2)), some (.inl (h_i M (h_r M a0 2) 3)), some (.inl (h_i M (h_r M a0 2) 4)), some (.inl (h_i M (h_r M a0 2) 5)), none, none, none, none, none, none, none]) (st' := [.inr (h_r M a0 2)]) (M' := M) c_8 rfl).trans (t_i ?_ rfl)
  refine (ev_ns c_8 1 (ip' := 33) (ls' := [some (.inr a0), some (.inl (h_i M (h_r M a0 2) 0)), some (.inl (h_i M (h_r M a0 2) 1)), some (.inl (h_i M (h_r M a0 2) 2)), some (.inl (h_i M (h_r M a0 2) 3)), some (.inl (h_i M (h_r M a0 2) 4)), some (.inl (h_i M (h_r M a0 2) 5)), none, none, none, none, none, none, none]) (st' := [.inl 6, .inr (h_r M a0 2)]) (M' := M) rfl).trans ?_
  refine (ev_g ((h_k M (h_r M a0 2) = 9 ∨ h_k M (h_r M a0 2) = 14) ∧ h_in 6 (h_l M (h_r M a0 2))) (ip' := 34) (ls' := [some (.inr a0), some (.inl (h_i M (h_r M a0 2) 0)), some (.inl (h_i M (h_r M a0 2) 1)), some (.inl (h_i M (h_r M a0 2) 2)), some (.inl (h_i M (h_r M a0 2) 3)), some (.inl (h_i M (h_r M a0 2) 4)), some (.inl (h_i M (h_r M a0 2) 5)), none, none, none, none, none, none, none]) (st' := [.inl (h_i M (h_r M a0 2) 6)]) (M' := M) c_8 rfl).trans (t_i ?_ rfl)
  refine (ev_ns c_8 2 (ip' := 36) (ls' := [some (.inr a0), some (.inl (h_i M (h_r M a0 2) 0)), some (.inl (h_i M (h_r M a0 2) 1)), some (.inl (h_i M (h_r M a0 2) 2)), some (.inl (h_i M (h_r M a0 2) 3)), some (.inl (h_i M (h_r M a0 2) 4)), some (.inl (h_i M (h_r M a0 2) 5)), some (.inl (h_i M (h_r M a0 2) 6)), none, none, none, none, none, none]) (st' := [.inr a0]) (M' := M) rfl).trans ?_
  refine (ev_g (h_k M a0 = 1) (ip' := 37) (ls' := [some (.inr a0), some (.inl (h_i M (h_r M a0 2) 0)), some (.inl (h_i M (h_r M a0 2) 1)), some (.inl (h_i M (h_r M a0 2) 2)), some (.inl (h_i M (h_r M a0 2) 3)), some (.inl (h_i M (h_r M a0 2) 4)), some (.inl (h_i M (h_r M a0 2) 5)), some (.inl (h_i M (h_r M a0 2) 6)), none, none, none, none, none, none]) (st' := [.inr (h_r M a0 2)]) (M' := M) c_8 rfl).trans (t_i ?_ rfl)
  refine (ev_ns c_8 1 (ip' := 38) (ls' := [some (.inr a0), some (.inl (h_i M (h_r M a0 2) 0)), some (.inl (h_i M (h_r M a0 2) 1)), some (.inl (h_i M (h_r M a0 2) 2)), some (.inl (h_i M (h_r M a0 2) 3)), some (.inl (h_i M (h_r M a0 2) 4)), some (.inl (h_i M (h_r M a0 2) 5)), some (.inl (h_i M (h_r M a0 2) 6)), none, none, none, none, none, none]) (st' := [.inl 7, .inr (h_r M a0 2)]) (M' := M) rfl).trans ?_
  refine (ev_g ((h_k M (h_r M a0 2) = 9 ∨ h_k M (h_r M a0 2) = 14) ∧ h_in 7 (h_l M (h_r M a0 2))) (ip' := 39) (ls' := [some (.inr a0), some (.inl (h_i M (h_r M a0 2) 0)), some (.inl (h_i M (h_r M a0 2) 1)), some (.inl (h_i M (h_r M a0 2) 2)), some (.inl (h_i M (h_r M a0 2) 3)), some (.inl (h_i M (h_r M a0 2) 4)), some (.inl (h_i M (h_r M a0 2) 5)), some (.inl (h_i M (h_r M a0 2) 6)), none, none, none, none, none, none]) (st' := [.inl (h_i M (h_r M a0 2) 7)]) (M' := M) c_8 rfl).trans (t_i ?_ rfl)
  exact ev_ns c_8 3 (ip' := 42) (ls' := [some (.inr a0), some (.inl (h_i M (h_r M a0 2) 0)), some (.inl (h_i M (h_r M a0 2) 1)), some (.inl (h_i M (h_r M a0 2) 2)), some (.inl (h_i M (h_r M a0 2) 3)), some (.inl (h_i M (h_r M a0 2) 4)), some (.inl (h_i M (h_r M a0 2) 5)), some (.inl (h_i M (h_r M a0 2) 6)), some (.inl (h_i M (h_r M a0 2) 7)), some (.inl 0), none, none, none, none]) (st' := []) (M' := M) rfl
set_option maxRecDepth 20000 in
theorem e_8_42 (a0 : Nat) (i1 : Int32) (i2 : Int32) (i3 : Int32) (i4 : Int32) (i5 : Int32) (i6 : Int32) (i7 : Int32) (i8 : Int32) (i9 : Int32) (o10 : Option mV) (o11 : Option mV) (o12 : Option mV) (o13 : Option mV) (M : mM) : ev 8 42 [some (.inr a0), some (.inl i1), some (.inl i2), some (.inl i3), some (.inl i4), some (.inl i5), some (.inl i6), some (.inl i7), some (.inl i8), some (.inl i9), o10, o11, o12, o13] [] M = if (64 : Int32) ≤ i9 then (if h_k M a0 = 1 then (if (h_k M (h_r M a0 2) = 9 ∨ h_k M (h_r M a0 2) = 14) ∧ h_in 0 (h_l M (h_r M a0 2)) then (if h_k M (h_r M a0 2) = 9 ∧ h_in 0 (h_l M (h_r M a0 2)) then (if h_k (h_si M (h_r M a0 2) 0 ((h_i M (h_r M a0 2) 0) + i1)) a0 = 1 then (if (h_k (h_si M (h_r M a0 2) 0 ((h_i M (h_r M a0 2) 0) + i1)) (h_r (h_si M (h_r M a0 2) 0 ((h_i M (h_r M a0 2) 0) + i1)) a0 2) = 9 ∨ h_k (h_si M (h_r M a0 2) 0 ((h_i M (h_r M a0 2) 0) + i1)) (h_r (h_si M (h_r M a0 2) 0 ((h_i M (h_r M a0 2) 0) + i1)) a0 2) = 14) ∧ h_in 1 (h_l (h_si M (h_r M a0 2) 0 ((h_i M (h_r M a0 2) 0) + i1)) (h_r (h_si M (h_r M a0 2) 0 ((h_i M (h_r M a0 2) 0) + i1)) a0 2)) then (if h_k (h_si M (h_r M a0 2) 0 ((h_i M (h_r M a0 2) 0) + i1)) (h_r (h_si M (h_r M a0 2) 0 ((h_i M (h_r M a0 2) 0) + i1)) a0 2) = 9 ∧ h_in 1 (h_l (h_si M (h_r M a0 2) 0 ((h_i M (h_r M a0 2) 0) + i1)) (h_r (h_si M (h_r M a0 2) 0 ((h_i M (h_r M a0 2) 0) + i1)) a0 2)) then (if h_k (h_si (h_si M (h_r M a0 2) 0 ((h_i M (h_r M a0 2) 0) + i1)) (h_r (h_si M (h_r M a0 2) 0 ((h_i M (h_r M a0 2) 0) + i1)) a0 2) 1 ((h_i (h_si M (h_r M a0 2) 0 ((h_i M (h_r M a0 2) 0) + i1)) (h_r (h_si M (h_r M a0 2) 0 ((h_i M (h_r M a0 2) 0) + i1)) a0 2) 1) + i2)) a0 = 1 then (if (h_k (h_si (h_si M (h_r M a0 2) 0 ((h_i M (h_r M a0 2) 0) + i1)) (h_r (h_si M (h_r M a0 2) 0 ((h_i M (h_r M a0 2) 0) + i1)) a0 2) 1 ((h_i (h_si M (h_r M a0 2) 0 ((h_i M (h_r M a0 2) 0) + i1)) (h_r (h_si M (h_r M a0 2) 0 ((h_i M (h_r M a0 2) 0) + i1)) a0 2) 1) + i2)) (h_r (h_si (h_si M (h_r M a0 2) 0 ((h_i M (h_r M a0 2) 0) + i1)) (h_r (h_si M (h_r M a0 2) 0 ((h_i M (h_r M a0 2) 0) + i1)) a0 2) 1 ((h_i (h_si M (h_r M a0 2) 0 ((h_i M (h_r M a0 2) 0) + i1)) (h_r (h_si M (h_r M a0 2) 0 ((h_i M (h_r M a0 2) 0) + i1)) a0 2) 1) + i2)) a0 2) = 9 ∨ h_k (h_si (h_si M (h_r M a0 2) 0 ((h_i M (h_r M a0 2) 0) + i1)) (h_r (h_si M (h_r M a0 2) 0 ((h_i M (h_r M a0 2) 0) + i1)) a0 2) 1 ((h_i (h_si M (h_r M a0 2) 0 ((h_i M (h_r M a0 2) 0) + i1)) (h_r (h_si M (h_r M a0 2) 0 ((h_i M (h_r M a0 2) 0) + i1)) a0 2) 1) + i2)) (h_r (h_si (h_si M (h_r M a0 2) 0 ((h_i M (h_r M a0 2) 0) + i1)) (h_r (h_si M (h_r M a0 2) 0 ((h_i M (h_r M a0 2) 0) + i1)) a0 2) 1 ((h_i (h_si M (h_r M a0 2) 0 ((h_i M (h_r M a0 2) 0) + i1)) (h_r (h_si M (h_r M a0 2) 0 ((h_i M (h_r M a0 2) 0) + i1)) a0 2) 1) + i2)) a0 2) = 14) ∧ h_in 2 (h_l (h_si (h_si M (h_r M a0 2) 0 ((h_i M (h_r M a0 2) 0) + i1)) (h_r (h_si M (h_r M a0 2) 0 ((h_i M (h_r M a0 2) 0) + i1)) a0 2) 1 ((h_i (h_si M (h_r M a0 2) 0 ((h_i M (h_r M a0 2) 0) + i1)) (h_r (h_si M (h_r M a0 2) 0 ((h_i M (h_r M a0 2) 0) + i1)) a0 2) 1) + i2)) (h_r (h_si (h_si M (h_r M a0 2) 0 ((h_i M (h_r M a0 2) 0) + i1)) (h_r (h_si M (h_r M a0 2) 0 ((h_i M (h_r M a0 2) 0) + i1)) a0 2) 1 ((h_i (h_si M (h_r M a0 2) 0 ((h_i M (h_r M a0 2) 0) + i1)) (h_r (h_si M (h_r M a0 2) 0 ((h_i M (h_r M a0 2) 0) + i1)) a0 2) 1) + i2)) a0 2)) then (if h_k (h_si (h_si M (h_r M a0 2) 0 ((h_i M (h_r M a0 2) 0) + i1)) (h_r (h_si M (h_r M a0 2) 0 ((h_i M (h_r M a0 2) 0) + i1)) a0 2) 1 ((h_i (h_si M (h_r M a0 2) 0 ((h_i M (h_r M a0 2) 0) + i1)) (h_r (h_si M (h_r M a0 2) 0 ((h_i M (h_r M a0 2) 0) + i1)) a0 2) 1) + i2)) (h_r (h_si (h_si M (h_r M a0 2) 0 ((h_i M (h_r M a0 2) 0) + i1)) (h_r (h_si M (h_r M a0 2) 0 ((h_i M (h_r M a0 2) 0) + i1)) a0 2) 1 ((h_i (h_si M (h_r M a0 2) 0 ((h_i M (h_r M a0 2) 0) + i1)) (h_r (h_si M (h_r M a0 2) 0 ((h_i M (h_r M a0 2) 0) + i1)) a0 2) 1) + i2)) a0 2) = 9 ∧ h_in 2 (h_l (h_si (h_si M (h_r M a0 2) 0 ((h_i M (h_r M a0 2) 0) + i1)) (h_r (h_si M (h_r M a0 2) 0 ((h_i M (h_r M a0 2) 0) + i1)) a0 2) 1 ((h_i (h_si M (h_r M a0 2) 0 ((h_i M (h_r M a0 2) 0) + i1)) (h_r (h_si M (h_r M a0 2) 0 ((h_i M (h_r M a0 2) 0) + i1)) a0 2) 1) + i2)) (h_r (h_si (h_si M (h_r M a0 2) 0 ((h_i M (h_r M a0 2) 0) + i1)) (h_r (h_si M (h_r M a0 2) 0 ((h_i M (h_r M a0 2) 0) + i1)) a0 2) 1 ((h_i (h_si M (h_r M a0 2) 0 ((h_i M (h_r M a0 2) 0) + i1)) (h_r (h_si M (h_r M a0 2) 0 ((h_i M (h_r M a0 2) 0) + i1)) a0 2) 1) + i2)) a0 2)) then (ev 8 152 [some (.inr a0), some (.inl i1), some (.inl i2), some (.inl i3), some (.inl i4), some (.inl i5), some (.inl i6), some (.inl i7), some (.inl i8), some (.inl i9), o10, o11, o12, o13] [] (h_si (h_si (h_si M (h_r M a0 2) 0 ((h_i M (h_r M a0 2) 0) + i1)) (h_r (h_si M (h_r M a0 2) 0 ((h_i M (h_r M a0 2) 0) + i1)) a0 2) 1 ((h_i (h_si M (h_r M a0 2) 0 ((h_i M (h_r M a0 2) 0) + i1)) (h_r (h_si M (h_r M a0 2) 0 ((h_i M (h_r M a0 2) 0) + i1)) a0 2) 1) + i2)) (h_r (h_si (h_si M (h_r M a0 2) 0 ((h_i M (h_r M a0 2) 0) + i1)) (h_r (h_si M (h_r M a0 2) 0 ((h_i M (h_r M a0 2) 0) + i1)) a0 2) 1 ((h_i (h_si M (h_r M a0 2) 0 ((h_i M (h_r M a0 2) 0) + i1)) (h_r (h_si M (h_r M a0 2) 0 ((h_i M (h_r M a0 2) 0) + i1)) a0 2) 1) + i2)) a0 2) 2 ((h_i (h_si (h_si M (h_r M a0 2) 0 ((h_i M (h_r M a0 2) 0) + i1)) (h_r (h_si M (h_r M a0 2) 0 ((h_i M (h_r M a0 2) 0) + i1)) a0 2) 1 ((h_i (h_si M (h_r M a0 2) 0 ((h_i M (h_r M a0 2) 0) + i1)) (h_r (h_si M (h_r M a0 2) 0 ((h_i M (h_r M a0 2) 0) + i1)) a0 2) 1) + i2)) (h_r (h_si (h_si M (h_r M a0 2) 0 ((h_i M (h_r M a0 2) 0) + i1)) (h_r (h_si M (h_r M a0 2) 0 ((h_i M (h_r M a0 2) 0) + i1)) a0 2) 1 ((h_i (h_si M (h_r M a0 2) 0 ((h_i M (h_r M a0 2) 0) + i1)) (h_r (h_si M (h_r M a0 2) 0 ((h_i M (h_r M a0 2) 0) + i1)) a0 2) 1) + i2)) a0 2) 2) + i3))) else none) else none) else none) else none) else none) else none) else none) else none) else none) else (if (a_rec M 0 [.inl i5, .inl 6] = true ∧ ([] : List mV).length ≤ 8) then (c_I (ev 6 0 [some (.inl i5), some (.inl 6)] [] M) fun v_2 M_1 => if (a_rec M_1 0 [.inl i5, .inl 11] = true ∧ ([.inl v_2] : List mV).length ≤ 8) then (c_I (ev 6 0 [some (.inl i5), some (.inl 11)] [] M_1) fun v_4 M_3 => if (a_rec M_3 0 [.inl i5, .inl 25] = true ∧ ([.inl (v_2 ^^^ v_4)] : List mV).length ≤ 8) then (c_I (ev 6 0 [some (.inl i5), some (.inl 25)] [] M_3) fun v_6 M_5 => if (h_k M_5 2 = 9 ∨ h_k M_5 2 = 14) ∧ h_in i9 (h_l M_5 2) then (if h_k M_5 a0 = 1 then (if (h_k M_5 (h_r M_5 a0 1) = 9 ∨ h_k M_5 (h_r M_5 a0 1) = 14) ∧ h_in i9 (h_l M_5 (h_r M_5 a0 1)) then (if (a_rec M_5 0 [.inl i1, .inl 2] = true ∧ ([] : List mV).length ≤ 8) then (c_I (ev 6 0 [some (.inl i1), some (.inl 2)] [] M_5) fun v_8 M_7 => if (a_rec M_7 0 [.inl i1, .inl 13] = true ∧ ([.inl v_8] : List mV).length ≤ 8) then (c_I (ev 6 0 [some (.inl i1), some (.inl 13)] [] M_7) fun v_10 M_9 => if (a_rec M_9 0 [.inl i1, .inl 22] = true ∧ ([.inl (v_8 ^^^ v_10)] : List mV).length ≤ 8) then (c_I (ev 6 0 [some (.inl i1), some (.inl 22)] [] M_9) fun v_12 M_11 => ev 8 42 [some (.inr a0), some (.inl (((((i8 + ((v_2 ^^^ v_4) ^^^ v_6)) + ((i5 &&& i6) ^^^ ((i5 ^^^ (-1)) &&& i7))) + (h_i M_5 2 (i9).toNatClampNeg)) + (h_i M_5 (h_r M_5 a0 1) (i9).toNatClampNeg)) + (((v_8 ^^^ v_10) ^^^ v_12) + (((i1 &&& i2) ^^^ (i1 &&& i3)) ^^^ (i2 &&& i3))))), some (.inl i1), some (.inl i2), some (.inl i3), some (.inl (i4 + ((((i8 + ((v_2 ^^^ v_4) ^^^ v_6)) + ((i5 &&& i6) ^^^ ((i5 ^^^ (-1)) &&& i7))) + (h_i M_5 2 (i9).toNatClampNeg)) + (h_i M_5 (h_r M_5 a0 1) (i9).toNatClampNeg)))), some (.inl i5), some (.inl i6), some (.inl i7), some (.inl (i9 + 1)), some (.inl ((v_2 ^^^ v_4) ^^^ v_6)), some (.inl ((((i8 + ((v_2 ^^^ v_4) ^^^ v_6)) + ((i5 &&& i6) ^^^ ((i5 ^^^ (-1)) &&& i7))) + (h_i M_5 2 (i9).toNatClampNeg)) + (h_i M_5 (h_r M_5 a0 1) (i9).toNatClampNeg))), some (.inl ((v_8 ^^^ v_10) ^^^ v_12)), some (.inl (((v_8 ^^^ v_10) ^^^ v_12) + (((i1 &&& i2) ^^^ (i1 &&& i3)) ^^^ (i2 &&& i3))))] [] M_11) else none) else none) else none) else none) else none) else none) else none) else none) else none) := by
  refine (ev_ns c_8 2 (ip' := 44) (ls' := [some (.inr a0), some (.inl i1), some (.inl i2), some (.inl i3), some (.inl i4), some (.inl i5), some (.inl i6), some (.inl i7), some (.inl i8), some (.inl i9), o10, o11, o12, o13]) (st' := [.inl 64, .inl i9]) (M' := M) rfl).trans ?_
  refine (ev_i ((64 : Int32) ≤ i9) (i1 := 128) (l1 := [some (.inr a0), some (.inl i1), some (.inl i2), some (.inl i3), some (.inl i4), some (.inl i5), some (.inl i6), some (.inl i7), some (.inl i8), some (.inl i9), o10, o11, o12, o13]) (s1 := []) (M1 := M) (i2 := 45) (l2 := [some (.inr a0), some (.inl i1), some (.inl i2), some (.inl i3), some (.inl i4), some (.inl i5), some (.inl i6), some (.inl i7), some (.inl i8), some (.inl i9), o10, o11, o12, o13]) (s2 := []) (M2 := M) c_8 rfl).trans (t_i ?_ ?_)
  · skip
    refine (ev_ns c_8 1 (ip' := 129) (ls' := [some (.inr a0), some (.inl i1), some (.inl i2), some (.inl i3), some (.inl i4), some (.inl i5), some (.inl i6), some (.inl i7), some (.inl i8), some (.inl i9), o10, o11, o12, o13]) (st' := [.inr a0]) (M' := M) rfl).trans ?_
    refine (ev_g (h_k M a0 = 1) (ip' := 130) (ls' := [some (.inr a0), some (.inl i1), some (.inl i2), some (.inl i3), some (.inl i4), some (.inl i5), some (.inl i6), some (.inl i7), some (.inl i8), some (.inl i9), o10, o11, o12, o13]) (st' := [.inr (h_r M a0 2)]) (M' := M) c_8 rfl).trans (t_i ?_ rfl)
    refine (ev_ns c_8 2 (ip' := 132) (ls' := [some (.inr a0), some (.inl i1), some (.inl i2), some (.inl i3), some (.inl i4), some (.inl i5), some (.inl i6), some (.inl i7), some (.inl i8), some (.inl i9), o10, o11, o12, o13]) (st' := [.inl 0, .inr (h_r M a0 2), .inl 0, .inr (h_r M a0 2)]) (M' := M) rfl).trans ?_
    refine (ev_g ((h_k M (h_r M a0 2) = 9 ∨ h_k M (h_r M a0 2) = 14) ∧ h_in 0 (h_l M (h_r M a0 2))) (ip' := 133) (ls' := [some (.inr a0), some (.inl i1), some (.inl i2), some (.inl i3), some (.inl i4), some (.inl i5), some (.inl i6), some (.inl i7), some (.inl i8), some (.inl i9), o10, o11, o12, o13]) (st' := [.inl (h_i M (h_r M a0 2) 0), .inl 0, .inr (h_r M a0 2)]) (M' := M) c_8 rfl).trans (t_i ?_ rfl)
    refine (ev_ns c_8 2 (ip' := 135) (ls' := [some (.inr a0), some (.inl i1), some (.inl i2), some (.inl i3), some (.inl i4), some (.inl i5), some (.inl i6), some (.inl i7), some (.inl i8), some (.inl i9), o10, o11, o12, o13]) (st' := [.inl ((h_i M (h_r M a0 2) 0) + i1), .inl 0, .inr (h_r M a0 2)]) (M' := M) rfl).trans ?_
    refine (ev_g (h_k M (h_r M a0 2) = 9 ∧ h_in 0 (h_l M (h_r M a0 2))) (ip' := 136) (ls' := [some (.inr a0), some (.inl i1), some (.inl i2), some (.inl i3), some (.inl i4), some (.inl i5), some (.inl i6), some (.inl i7), some (.inl i8), some (.inl i9), o10, o11, o12, o13]) (st' := []) (M' := h_si M (h_r M a0 2) 0 ((h_i M (h_r M a0 2) 0) + i1)) c_8 rfl).trans (t_i ?_ rfl)
    refine (ev_ns c_8 1 (ip' := 137) (ls' := [some (.inr a0), some (.inl i1), some (.inl i2), some (.inl i3), some (.inl i4), some (.inl i5), some (.inl i6), some (.inl i7), some (.inl i8), some (.inl i9), o10, o11, o12, o13]) (st' := [.inr a0]) (M' := h_si M (h_r M a0 2) 0 ((h_i M (h_r M a0 2) 0) + i1)) rfl).trans ?_
    refine (ev_g (h_k (h_si M (h_r M a0 2) 0 ((h_i M (h_r M a0 2) 0) + i1)) a0 = 1) (ip' := 138) (ls' := [some (.inr a0), some (.inl i1), some (.inl i2), some (.inl i3), some (.inl i4), some (.inl i5), some (.inl i6), some (.inl i7), some (.inl i8), some (.inl i9), o10, o11, o12, o13]) (st' := [.inr (h_r (h_si M (h_r M a0 2) 0 ((h_i M (h_r M a0 2) 0) + i1)) a0 2)]) (M' := h_si M (h_r M a0 2) 0 ((h_i M (h_r M a0 2) 0) + i1)) c_8 rfl).trans (t_i ?_ rfl)
    refine (ev_ns c_8 2 (ip' := 140) (ls' := [some (.inr a0), some (.inl i1), some (.inl i2), some (.inl i3), some (.inl i4), some (.inl i5), some (.inl i6), some (.inl i7), some (.inl i8), some (.inl i9), o10, o11, o12, o13]) (st' := [.inl 1, .inr (h_r (h_si M (h_r M a0 2) 0 ((h_i M (h_r M a0 2) 0) + i1)) a0 2), .inl 1, .inr (h_r (h_si M (h_r M a0 2) 0 ((h_i M (h_r M a0 2) 0) + i1)) a0 2)]) (M' := h_si M (h_r M a0 2) 0 ((h_i M (h_r M a0 2) 0) + i1)) rfl).trans ?_
    refine (ev_g ((h_k (h_si M (h_r M a0 2) 0 ((h_i M (h_r M a0 2) 0) + i1)) (h_r (h_si M (h_r M a0 2) 0 ((h_i M (h_r M a0 2) 0) + i1)) a0 2) = 9 ∨ h_k (h_si M (h_r M a0 2) 0 ((h_i M (h_r M a0 2) 0) + i1)) (h_r (h_si M (h_r M a0 2) 0 ((h_i M (h_r M a0 2) 0) + i1)) a0 2) = 14) ∧ h_in 1 (h_l (h_si M (h_r M a0 2) 0 ((h_i M (h_r M a0 2) 0) + i1)) (h_r (h_si M (h_r M a0 2) 0 ((h_i M (h_r M a0 2) 0) + i1)) a0 2))) (ip' := 141) (ls' := [some (.inr a0), some (.inl i1), some (.inl i2), some (.inl i3), some (.inl i4), some (.inl i5), some (.inl i6), some (.inl i7), some (.inl i8), some (.inl i9), o10, o11, o12, o13]) (st' := [.inl (h_i (h_si M (h_r M a0 2) 0 ((h_i M (h_r M a0 2) 0) + i1)) (h_r (h_si M (h_r M a0 2) 0 ((h_i M (h_r M a0 2) 0) + i1)) a0 2) 1), .inl 1, .inr (h_r (h_si M (h_r M a0 2) 0 ((h_i M (h_r M a0 2) 0) + i1)) a0 2)]) (M' := h_si M (h_r M a0 2) 0 ((h_i M (h_r M a0 2) 0) + i1)) c_8 rfl).trans (t_i ?_ rfl)
    refine (ev_ns c_8 2 (ip' := 143) (ls' := [some (.inr a0), some (.inl i1), some (.inl i2), some (.inl i3), some (.inl i4), some (.inl i5), some (.inl i6), some (.inl i7), some (.inl i8), some (.inl i9), o10, o11, o12, o13]) (st' := [.inl ((h_i (h_si M (h_r M a0 2) 0 ((h_i M (h_r M a0 2) 0) + i1)) (h_r (h_si M (h_r M a0 2) 0 ((h_i M (h_r M a0 2) 0) + i1)) a0 2) 1) + i2), .inl 1, .inr (h_r (h_si M (h_r M a0 2) 0 ((h_i M (h_r M a0 2) 0) + i1)) a0 2)]) (M' := h_si M (h_r M a0 2) 0 ((h_i M (h_r M a0 2) 0) + i1)) rfl).trans ?_
    refine (ev_g (h_k (h_si M (h_r M a0 2) 0 ((h_i M (h_r M a0 2) 0) + i1)) (h_r (h_si M (h_r M a0 2) 0 ((h_i M (h_r M a0 2) 0) + i1)) a0 2) = 9 ∧ h_in 1 (h_l (h_si M (h_r M a0 2) 0 ((h_i M (h_r M a0 2) 0) + i1)) (h_r (h_si M (h_r M a0 2) 0 ((h_i M (h_r M a0 2) 0) + i1)) a0 2))) (ip' := 144) (ls' := [some (.inr a0), some (.inl i1), some (.inl i2), some (.inl i3), some (.inl i4), some (.inl i5), some (.inl i6), some (.inl i7), some (.inl i8), some (.inl i9), o10, o11, o12, o13]) (st' := []) (M' := h_si (h_si M (h_r M a0 2) 0 ((h_i M (h_r M a0 2) 0) + i1)) (h_r (h_si M (h_r M a0 2) 0 ((h_i M (h_r M a0 2) 0) + i1)) a0 2) 1 ((h_i (h_si M (h_r M a0 2) 0 ((h_i M (h_r M a0 2) 0) + i1)) (h_r (h_si M (h_r M a0 2) 0 ((h_i M (h_r M a0 2) 0) + i1)) a0 2) 1) + i2)) c_8 rfl).trans (t_i ?_ rfl)
    refine (ev_ns c_8 1 (ip' := 145) (ls' := [some (.inr a0), some (.inl i1), some (.inl i2), some (.inl i3), some (.inl i4), some (.inl i5), some (.inl i6), some (.inl i7), some (.inl i8), some (.inl i9), o10, o11, o12, o13]) (st' := [.inr a0]) (M' := h_si (h_si M (h_r M a0 2) 0 ((h_i M (h_r M a0 2) 0) + i1)) (h_r (h_si M (h_r M a0 2) 0 ((h_i M (h_r M a0 2) 0) + i1)) a0 2) 1 ((h_i (h_si M (h_r M a0 2) 0 ((h_i M (h_r M a0 2) 0) + i1)) (h_r (h_si M (h_r M a0 2) 0 ((h_i M (h_r M a0 2) 0) + i1)) a0 2) 1) + i2)) rfl).trans ?_
    refine (ev_g (h_k (h_si (h_si M (h_r M a0 2) 0 ((h_i M (h_r M a0 2) 0) + i1)) (h_r (h_si M (h_r M a0 2) 0 ((h_i M (h_r M a0 2) 0) + i1)) a0 2) 1 ((h_i (h_si M (h_r M a0 2) 0 ((h_i M (h_r M a0 2) 0) + i1)) (h_r (h_si M (h_r M a0 2) 0 ((h_i M (h_r M a0 2) 0) + i1)) a0 2) 1) + i2)) a0 = 1) (ip' := 146) (ls' := [some (.inr a0), some (.inl i1), some (.inl i2), some (.inl i3), some (.inl i4), some (.inl i5), some (.inl i6), some (.inl i7), some (.inl i8), some (.inl i9), o10, o11, o12, o13]) (st' := [.inr (h_r (h_si (h_si M (h_r M a0 2) 0 ((h_i M (h_r M a0 2) 0) + i1)) (h_r (h_si M (h_r M a0 2) 0 ((h_i M (h_r M a0 2) 0) + i1)) a0 2) 1 ((h_i (h_si M (h_r M a0 2) 0 ((h_i M (h_r M a0 2) 0) + i1)) (h_r (h_si M (h_r M a0 2) 0 ((h_i M (h_r M a0 2) 0) + i1)) a0 2) 1) + i2)) a0 2)]) (M' := h_si (h_si M (h_r M a0 2) 0 ((h_i M (h_r M a0 2) 0) + i1)) (h_r (h_si M (h_r M a0 2) 0 ((h_i M (h_r M a0 2) 0) + i1)) a0 2) 1 ((h_i (h_si M (h_r M a0 2) 0 ((h_i M (h_r M a0 2) 0) + i1)) (h_r (h_si M (h_r M a0 2) 0 ((h_i M (h_r M a0 2) 0) + i1)) a0 2) 1) + i2)) c_8 rfl).trans (t_i ?_ rfl)
    refine (ev_ns c_8 2 (ip' := 148) (ls' := [some (.inr a0), some (.inl i1), some (.inl i2), some (.inl i3), some (.inl i4), some (.inl i5), some (.inl i6), some (.inl i7), some (.inl i8), some (.inl i9), o10, o11, o12, o13]) (st' := [.inl 2, .inr (h_r (h_si (h_si M (h_r M a0 2) 0 ((h_i M (h_r M a0 2) 0) + i1)) (h_r (h_si M (h_r M a0 2) 0 ((h_i M (h_r M a0 2) 0) + i1)) a0 2) 1 ((h_i (h_si M (h_r M a0 2) 0 ((h_i M (h_r M a0 2) 0) + i1)) (h_r (h_si M (h_r M a0 2) 0 ((h_i M (h_r M a0 2) 0) + i1)) a0 2) 1) + i2)) a0 2), .inl 2, .inr (h_r (h_si (h_si M (h_r M a0 2) 0 ((h_i M (h_r M a0 2) 0) + i1)) (h_r (h_si M (h_r M a0 2) 0 ((h_i M (h_r M a0 2) 0) + i1)) a0 2) 1 ((h_i (h_si M (h_r M a0 2) 0 ((h_i M (h_r M a0 2) 0) + i1)) (h_r (h_si M (h_r M a0 2) 0 ((h_i M (h_r M a0 2) 0) + i1)) a0 2) 1) + i2)) a0 2)]) (M' := h_si (h_si M (h_r M a0 2) 0 ((h_i M (h_r M a0 2) 0) + i1)) (h_r (h_si M (h_r M a0 2) 0 ((h_i M (h_r M a0 2) 0) + i1)) a0 2) 1 ((h_i (h_si M (h_r M a0 2) 0 ((h_i M (h_r M a0 2) 0) + i1)) (h_r (h_si M (h_r M a0 2) 0 ((h_i M (h_r M a0 2) 0) + i1)) a0 2) 1) + i2)) rfl).trans ?_
    refine (ev_g ((h_k (h_si (h_si M (h_r M a0 2) 0 ((h_i M (h_r M a0 2) 0) + i1)) (h_r (h_si M (h_r M a0 2) 0 ((h_i M (h_r M a0 2) 0) + i1)) a0 2) 1 ((h_i (h_si M (h_r M a0 2) 0 ((h_i M (h_r M a0 2) 0) + i1)) (h_r (h_si M (h_r M a0 2) 0 ((h_i M (h_r M a0 2) 0) + i1)) a0 2) 1) + i2)) (h_r (h_si (h_si M (h_r M a0 2) 0 ((h_i M (h_r M a0 2) 0) + i1)) (h_r (h_si M (h_r M a0 2) 0 ((h_i M (h_r M a0 2) 0) + i1)) a0 2) 1 ((h_i (h_si M (h_r M a0 2) 0 ((h_i M (h_r M a0 2) 0) + i1)) (h_r (h_si M (h_r M a0 2) 0 ((h_i M (h_r M a0 2) 0) + i1)) a0 2) 1) + i2)) a0 2) = 9 ∨ h_k (h_si (h_si M (h_r M a0 2) 0 ((h_i M (h_r M a0 2) 0) + i1)) (h_r (h_si M (h_r M a0 2) 0 ((h_i M (h_r M a0 2) 0) + i1)) a0 2) 1 ((h_i (h_si M (h_r M a0 2) 0 ((h_i M (h_r M a0 2) 0) + i1)) (h_r (h_si M (h_r M a0 2) 0 ((h_i M (h_r M a0 2) 0) + i1)) a0 2) 1) + i2)) (h_r (h_si (h_si M (h_r M a0 2) 0 ((h_i M (h_r M a0 2) 0) + i1)) (h_r (h_si M (h_r M a0 2) 0 ((h_i M (h_r M a0 2) 0) + i1)) a0 2) 1 ((h_i (h_si M (h_r M a0 2) 0 ((h_i M (h_r M a0 2) 0) + i1)) (h_r (h_si M (h_r M a0 2) 0 ((h_i M (h_r M a0 2) 0) + i1)) a0 2) 1) + i2)) a0 2) = 14) ∧ h_in 2 (h_l (h_si (h_si M (h_r M a0 2) 0 ((h_i M (h_r M a0 2) 0) + i1)) (h_r (h_si M (h_r M a0 2) 0 ((h_i M (h_r M a0 2) 0) + i1)) a0 2) 1 ((h_i (h_si M (h_r M a0 2) 0 ((h_i M (h_r M a0 2) 0) + i1)) (h_r (h_si M (h_r M a0 2) 0 ((h_i M (h_r M a0 2) 0) + i1)) a0 2) 1) + i2)) (h_r (h_si (h_si M (h_r M a0 2) 0 ((h_i M (h_r M a0 2) 0) + i1)) (h_r (h_si M (h_r M a0 2) 0 ((h_i M (h_r M a0 2) 0) + i1)) a0 2) 1 ((h_i (h_si M (h_r M a0 2) 0 ((h_i M (h_r M a0 2) 0) + i1)) (h_r (h_si M (h_r M a0 2) 0 ((h_i M (h_r M a0 2) 0) + i1)) a0 2) 1) + i2)) a0 2))) (ip' := 149) (ls' := [some (.inr a0), some (.inl i1), some (.inl i2), some (.inl i3), some (.inl i4), some (.inl i5), some (.inl i6), some (.inl i7), some (.inl i8), some (.inl i9), o10, o11, o12, o13]) (st' := [.inl (h_i (h_si (h_si M (h_r M a0 2) 0 ((h_i M (h_r M a0 2) 0) + i1)) (h_r (h_si M (h_r M a0 2) 0 ((h_i M (h_r M a0 2) 0) + i1)) a0 2) 1 ((h_i (h_si M (h_r M a0 2) 0 ((h_i M (h_r M a0 2) 0) + i1)) (h_r (h_si M (h_r M a0 2) 0 ((h_i M (h_r M a0 2) 0) + i1)) a0 2) 1) + i2)) (h_r (h_si (h_si M (h_r M a0 2) 0 ((h_i M (h_r M a0 2) 0) + i1)) (h_r (h_si M (h_r M a0 2) 0 ((h_i M (h_r M a0 2) 0) + i1)) a0 2) 1 ((h_i (h_si M (h_r M a0 2) 0 ((h_i M (h_r M a0 2) 0) + i1)) (h_r (h_si M (h_r M a0 2) 0 ((h_i M (h_r M a0 2) 0) + i1)) a0 2) 1) + i2)) a0 2) 2), .inl 2, .inr (h_r (h_si (h_si M (h_r M a0 2) 0 ((h_i M (h_r M a0 2) 0) + i1)) (h_r (h_si M (h_r M a0 2) 0 ((h_i M (h_r M a0 2) 0) + i1)) a0 2) 1 ((h_i (h_si M (h_r M a0 2) 0 ((h_i M (h_r M a0 2) 0) + i1)) (h_r (h_si M (h_r M a0 2) 0 ((h_i M (h_r M a0 2) 0) + i1)) a0 2) 1) + i2)) a0 2)]) (M' := h_si (h_si M (h_r M a0 2) 0 ((h_i M (h_r M a0 2) 0) + i1)) (h_r (h_si M (h_r M a0 2) 0 ((h_i M (h_r M a0 2) 0) + i1)) a0 2) 1 ((h_i (h_si M (h_r M a0 2) 0 ((h_i M (h_r M a0 2) 0) + i1)) (h_r (h_si M (h_r M a0 2) 0 ((h_i M (h_r M a0 2) 0) + i1)) a0 2) 1) + i2)) c_8 rfl).trans (t_i ?_ rfl)
    refine (ev_ns c_8 2 (ip' := 151) (ls' := [some (.inr a0), some (.inl i1), some (.inl i2), some (.inl i3), some (.inl i4), some (.inl i5), some (.inl i6), some (.inl i7), some (.inl i8), some (.inl i9), o10, o11, o12, o13]) (st' := [.inl ((h_i (h_si (h_si M (h_r M a0 2) 0 ((h_i M (h_r M a0 2) 0) + i1)) (h_r (h_si M (h_r M a0 2) 0 ((h_i M (h_r M a0 2) 0) + i1)) a0 2) 1 ((h_i (h_si M (h_r M a0 2) 0 ((h_i M (h_r M a0 2) 0) + i1)) (h_r (h_si M (h_r M a0 2) 0 ((h_i M (h_r M a0 2) 0) + i1)) a0 2) 1) + i2)) (h_r (h_si (h_si M (h_r M a0 2) 0 ((h_i M (h_r M a0 2) 0) + i1)) (h_r (h_si M (h_r M a0 2) 0 ((h_i M (h_r M a0 2) 0) + i1)) a0 2) 1 ((h_i (h_si M (h_r M a0 2) 0 ((h_i M (h_r M a0 2) 0) + i1)) (h_r (h_si M (h_r M a0 2) 0 ((h_i M (h_r M a0 2) 0) + i1)) a0 2) 1) + i2)) a0 2) 2) + i3), .inl 2, .inr (h_r (h_si (h_si M (h_r M a0 2) 0 ((h_i M (h_r M a0 2) 0) + i1)) (h_r (h_si M (h_r M a0 2) 0 ((h_i M (h_r M a0 2) 0) + i1)) a0 2) 1 ((h_i (h_si M (h_r M a0 2) 0 ((h_i M (h_r M a0 2) 0) + i1)) (h_r (h_si M (h_r M a0 2) 0 ((h_i M (h_r M a0 2) 0) + i1)) a0 2) 1) + i2)) a0 2)]) (M' := h_si (h_si M (h_r M a0 2) 0 ((h_i M (h_r M a0 2) 0) + i1)) (h_r (h_si M (h_r M a0 2) 0 ((h_i M (h_r M a0 2) 0) + i1)) a0 2) 1 ((h_i (h_si M (h_r M a0 2) 0 ((h_i M (h_r M a0 2) 0) + i1)) (h_r (h_si M (h_r M a0 2) 0 ((h_i M (h_r M a0 2) 0) + i1)) a0 2) 1) + i2)) rfl).trans ?_
    refine (ev_g (h_k (h_si (h_si M (h_r M a0 2) 0 ((h_i M (h_r M a0 2) 0) + i1)) (h_r (h_si M (h_r M a0 2) 0 ((h_i M (h_r M a0 2) 0) + i1)) a0 2) 1 ((h_i (h_si M (h_r M a0 2) 0 ((h_i M (h_r M a0 2) 0) + i1)) (h_r (h_si M (h_r M a0 2) 0 ((h_i M (h_r M a0 2) 0) + i1)) a0 2) 1) + i2)) (h_r (h_si (h_si M (h_r M a0 2) 0 ((h_i M (h_r M a0 2) 0) + i1)) (h_r (h_si M (h_r M a0 2) 0 ((h_i M (h_r M a0 2) 0) + i1)) a0 2) 1 ((h_i (h_si M (h_r M a0 2) 0 ((h_i M (h_r M a0 2) 0) + i1)) (h_r (h_si M (h_r M a0 2) 0 ((h_i M (h_r M a0 2) 0) + i1)) a0 2) 1) + i2)) a0 2) = 9 ∧ h_in 2 (h_l (h_si (h_si M (h_r M a0 2) 0 ((h_i M (h_r M a0 2) 0) + i1)) (h_r (h_si M (h_r M a0 2) 0 ((h_i M (h_r M a0 2) 0) + i1)) a0 2) 1 ((h_i (h_si M (h_r M a0 2) 0 ((h_i M (h_r M a0 2) 0) + i1)) (h_r (h_si M (h_r M a0 2) 0 ((h_i M (h_r M a0 2) 0) + i1)) a0 2) 1) + i2)) (h_r (h_si (h_si M (h_r M a0 2) 0 ((h_i M (h_r M a0 2) 0) + i1)) (h_r (h_si M (h_r M a0 2) 0 ((h_i M (h_r M a0 2) 0) + i1)) a0 2) 1 ((h_i (h_si M (h_r M a0 2) 0 ((h_i M (h_r M a0 2) 0) + i1)) (h_r (h_si M (h_r M a0 2) 0 ((h_i M (h_r M a0 2) 0) + i1)) a0 2) 1) + i2)) a0 2))) (ip' := 152) (ls' := [some (.inr a0), some (.inl i1), some (.inl i2), some (.inl i3), some (.inl i4), some (.inl i5), some (.inl i6), some (.inl i7), some (.inl i8), some (.inl i9), o10, o11, o12, o13]) (st' := []) (M' := h_si (h_si (h_si M (h_r M a0 2) 0 ((h_i M (h_r M a0 2) 0) + i1)) (h_r (h_si M (h_r M a0 2) 0 ((h_i M (h_r M a0 2) 0) + i1)) a0 2) 1 ((h_i (h_si M (h_r M a0 2) 0 ((h_i M (h_r M a0 2) 0) + i1)) (h_r (h_si M (h_r M a0 2) 0 ((h_i M (h_r M a0 2) 0) + i1)) a0 2) 1) + i2)) (h_r (h_si (h_si M (h_r M a0 2) 0 ((h_i M (h_r M a0 2) 0) + i1)) (h_r (h_si M (h_r M a0 2) 0 ((h_i M (h_r M a0 2) 0) + i1)) a0 2) 1 ((h_i (h_si M (h_r M a0 2) 0 ((h_i M (h_r M a0 2) 0) + i1)) (h_r (h_si M (h_r M a0 2) 0 ((h_i M (h_r M a0 2) 0) + i1)) a0 2) 1) + i2)) a0 2) 2 ((h_i (h_si (h_si M (h_r M a0 2) 0 ((h_i M (h_r M a0 2) 0) + i1)) (h_r (h_si M (h_r M a0 2) 0 ((h_i M (h_r M a0 2) 0) + i1)) a0 2) 1 ((h_i (h_si M (h_r M a0 2) 0 ((h_i M (h_r M a0 2) 0) + i1)) (h_r (h_si M (h_r M a0 2) 0 ((h_i M (h_r M a0 2) 0) + i1)) a0 2) 1) + i2)) (h_r (h_si (h_si M (h_r M a0 2) 0 ((h_i M (h_r M a0 2) 0) + i1)) (h_r (h_si M (h_r M a0 2) 0 ((h_i M (h_r M a0 2) 0) + i1)) a0 2) 1 ((h_i (h_si M (h_r M a0 2) 0 ((h_i M (h_r M a0 2) 0) + i1)) (h_r (h_si M (h_r M a0 2) 0 ((h_i M (h_r M a0 2) 0) + i1)) a0 2) 1) + i2)) a0 2) 2) + i3)) c_8 rfl).trans (t_i ?_ rfl)
    exact rfl
  · skip
    refine (ev_ns c_8 2 (ip' := 47) (ls' := [some (.inr a0), some (.inl i1), some (.inl i2), some (.inl i3), some (.inl i4), some (.inl i5), some (.inl i6), some (.inl i7), some (.inl i8), some (.inl i9), o10, o11, o12, o13]) (st' := [.inl 6, .inl i5]) (M' := M) rfl).trans ?_
    refine (ev_gI (a_rec M 0 [.inl i5, .inl 6] = true ∧ ([] : List mV).length ≤ 8) (as := [.inl i5, .inl 6]) (rr := []) c_8 c_6 rfl).trans (t_i (t_cI ?_) rfl)
    intro v_2 M_1
    refine (ev_ns c_8 2 (ip' := 50) (ls' := [some (.inr a0), some (.inl i1), some (.inl i2), some (.inl i3), some (.inl i4), some (.inl i5), some (.inl i6), some (.inl i7), some (.inl i8), some (.inl i9), o10, o11, o12, o13]) (st' := [.inl 11, .inl i5, .inl v_2]) (M' := M_1) rfl).trans ?_
    refine (ev_gI (a_rec M_1 0 [.inl i5, .inl 11] = true ∧ ([.inl v_2] : List mV).length ≤ 8) (as := [.inl i5, .inl 11]) (rr := [.inl v_2]) c_8 c_6 rfl).trans (t_i (t_cI ?_) rfl)
    intro v_4 M_3
    refine (ev_ns c_8 3 (ip' := 54) (ls' := [some (.inr a0), some (.inl i1), some (.inl i2), some (.inl i3), some (.inl i4), some (.inl i5), some (.inl i6), some (.inl i7), some (.inl i8), some (.inl i9), o10, o11, o12, o13]) (st' := [.inl 25, .inl i5, .inl (v_2 ^^^ v_4)]) (M' := M_3) rfl).trans ?_
    refine (ev_gI (a_rec M_3 0 [.inl i5, .inl 25] = true ∧ ([.inl (v_2 ^^^ v_4)] : List mV).length ≤ 8) (as := [.inl i5, .inl 25]) (rr := [.inl (v_2 ^^^ v_4)]) c_8 c_6 rfl).trans (t_i (t_cI ?_) rfl)
    intro v_6 M_5
    refine (ev_ns c_8 17 (ip' := 72) (ls' := [some (.inr a0), some (.inl i1), some (.inl i2), some (.inl i3), some (.inl i4), some (.inl i5), some (.inl i6), some (.inl i7), some (.inl i8), some (.inl i9), some (.inl ((v_2 ^^^ v_4) ^^^ v_6)), o11, o12, o13]) (st' := [.inl i9, .inr 2, .inl ((i8 + ((v_2 ^^^ v_4) ^^^ v_6)) + ((i5 &&& i6) ^^^ ((i5 ^^^ (-1)) &&& i7)))]) (M' := M_5) rfl).trans ?_
    refine (ev_g ((h_k M_5 2 = 9 ∨ h_k M_5 2 = 14) ∧ h_in i9 (h_l M_5 2)) (ip' := 73) (ls' := [some (.inr a0), some (.inl i1), some (.inl i2), some (.inl i3), some (.inl i4), some (.inl i5), some (.inl i6), some (.inl i7), some (.inl i8), some (.inl i9), some (.inl ((v_2 ^^^ v_4) ^^^ v_6)), o11, o12, o13]) (st' := [.inl (h_i M_5 2 (i9).toNatClampNeg), .inl ((i8 + ((v_2 ^^^ v_4) ^^^ v_6)) + ((i5 &&& i6) ^^^ ((i5 ^^^ (-1)) &&& i7)))]) (M' := M_5) c_8 rfl).trans (t_i ?_ rfl)
    refine (ev_ns c_8 2 (ip' := 75) (ls' := [some (.inr a0), some (.inl i1), some (.inl i2), some (.inl i3), some (.inl i4), some (.inl i5), some (.inl i6), some (.inl i7), some (.inl i8), some (.inl i9), some (.inl ((v_2 ^^^ v_4) ^^^ v_6)), o11, o12, o13]) (st' := [.inr a0, .inl (((i8 + ((v_2 ^^^ v_4) ^^^ v_6)) + ((i5 &&& i6) ^^^ ((i5 ^^^ (-1)) &&& i7))) + (h_i M_5 2 (i9).toNatClampNeg))]) (M' := M_5) rfl).trans ?_
    refine (ev_g (h_k M_5 a0 = 1) (ip' := 76) (ls' := [some (.inr a0), some (.inl i1), some (.inl i2), some (.inl i3), some (.inl i4), some (.inl i5), some (.inl i6), some (.inl i7), some (.inl i8), some (.inl i9), some (.inl ((v_2 ^^^ v_4) ^^^ v_6)), o11, o12, o13]) (st' := [.inr (h_r M_5 a0 1), .inl (((i8 + ((v_2 ^^^ v_4) ^^^ v_6)) + ((i5 &&& i6) ^^^ ((i5 ^^^ (-1)) &&& i7))) + (h_i M_5 2 (i9).toNatClampNeg))]) (M' := M_5) c_8 rfl).trans (t_i ?_ rfl)
    refine (ev_ns c_8 1 (ip' := 77) (ls' := [some (.inr a0), some (.inl i1), some (.inl i2), some (.inl i3), some (.inl i4), some (.inl i5), some (.inl i6), some (.inl i7), some (.inl i8), some (.inl i9), some (.inl ((v_2 ^^^ v_4) ^^^ v_6)), o11, o12, o13]) (st' := [.inl i9, .inr (h_r M_5 a0 1), .inl (((i8 + ((v_2 ^^^ v_4) ^^^ v_6)) + ((i5 &&& i6) ^^^ ((i5 ^^^ (-1)) &&& i7))) + (h_i M_5 2 (i9).toNatClampNeg))]) (M' := M_5) rfl).trans ?_
    refine (ev_g ((h_k M_5 (h_r M_5 a0 1) = 9 ∨ h_k M_5 (h_r M_5 a0 1) = 14) ∧ h_in i9 (h_l M_5 (h_r M_5 a0 1))) (ip' := 78) (ls' := [some (.inr a0), some (.inl i1), some (.inl i2), some (.inl i3), some (.inl i4), some (.inl i5), some (.inl i6), some (.inl i7), some (.inl i8), some (.inl i9), some (.inl ((v_2 ^^^ v_4) ^^^ v_6)), o11, o12, o13]) (st' := [.inl (h_i M_5 (h_r M_5 a0 1) (i9).toNatClampNeg), .inl (((i8 + ((v_2 ^^^ v_4) ^^^ v_6)) + ((i5 &&& i6) ^^^ ((i5 ^^^ (-1)) &&& i7))) + (h_i M_5 2 (i9).toNatClampNeg))]) (M' := M_5) c_8 rfl).trans (t_i ?_ rfl)
    refine (ev_ns c_8 4 (ip' := 82) (ls' := [some (.inr a0), some (.inl i1), some (.inl i2), some (.inl i3), some (.inl i4), some (.inl i5), some (.inl i6), some (.inl i7), some (.inl i8), some (.inl i9), some (.inl ((v_2 ^^^ v_4) ^^^ v_6)), some (.inl ((((i8 + ((v_2 ^^^ v_4) ^^^ v_6)) + ((i5 &&& i6) ^^^ ((i5 ^^^ (-1)) &&& i7))) + (h_i M_5 2 (i9).toNatClampNeg)) + (h_i M_5 (h_r M_5 a0 1) (i9).toNatClampNeg))), o12, o13]) (st' := [.inl 2, .inl i1]) (M' := M_5) rfl).trans ?_
    refine (ev_gI (a_rec M_5 0 [.inl i1, .inl 2] = true ∧ ([] : List mV).length ≤ 8) (as := [.inl i1, .inl 2]) (rr := []) c_8 c_6 rfl).trans (t_i (t_cI ?_) rfl)
    intro v_8 M_7
    refine (ev_ns c_8 2 (ip' := 85) (ls' := [some (.inr a0), some (.inl i1), some (.inl i2), some (.inl i3), some (.inl i4), some (.inl i5), some (.inl i6), some (.inl i7), some (.inl i8), some (.inl i9), some (.inl ((v_2 ^^^ v_4) ^^^ v_6)), some (.inl ((((i8 + ((v_2 ^^^ v_4) ^^^ v_6)) + ((i5 &&& i6) ^^^ ((i5 ^^^ (-1)) &&& i7))) + (h_i M_5 2 (i9).toNatClampNeg)) + (h_i M_5 (h_r M_5 a0 1) (i9).toNatClampNeg))), o12, o13]) (st' := [.inl 13, .inl i1, .inl v_8]) (M' := M_7) rfl).trans ?_
    refine (ev_gI (a_rec M_7 0 [.inl i1, .inl 13] = true ∧ ([.inl v_8] : List mV).length ≤ 8) (as := [.inl i1, .inl 13]) (rr := [.inl v_8]) c_8 c_6 rfl).trans (t_i (t_cI ?_) rfl)
    intro v_10 M_9
    refine (ev_ns c_8 3 (ip' := 89) (ls' := [some (.inr a0), some (.inl i1), some (.inl i2), some (.inl i3), some (.inl i4), some (.inl i5), some (.inl i6), some (.inl i7), some (.inl i8), some (.inl i9), some (.inl ((v_2 ^^^ v_4) ^^^ v_6)), some (.inl ((((i8 + ((v_2 ^^^ v_4) ^^^ v_6)) + ((i5 &&& i6) ^^^ ((i5 ^^^ (-1)) &&& i7))) + (h_i M_5 2 (i9).toNatClampNeg)) + (h_i M_5 (h_r M_5 a0 1) (i9).toNatClampNeg))), o12, o13]) (st' := [.inl 22, .inl i1, .inl (v_8 ^^^ v_10)]) (M' := M_9) rfl).trans ?_
    refine (ev_gI (a_rec M_9 0 [.inl i1, .inl 22] = true ∧ ([.inl (v_8 ^^^ v_10)] : List mV).length ≤ 8) (as := [.inl i1, .inl 22]) (rr := [.inl (v_8 ^^^ v_10)]) c_8 c_6 rfl).trans (t_i (t_cI ?_) rfl)
    intro v_12 M_11
    exact ev_ns c_8 38 (ip' := 42) (ls' := [some (.inr a0), some (.inl (((((i8 + ((v_2 ^^^ v_4) ^^^ v_6)) + ((i5 &&& i6) ^^^ ((i5 ^^^ (-1)) &&& i7))) + (h_i M_5 2 (i9).toNatClampNeg)) + (h_i M_5 (h_r M_5 a0 1) (i9).toNatClampNeg)) + (((v_8 ^^^ v_10) ^^^ v_12) + (((i1 &&& i2) ^^^ (i1 &&& i3)) ^^^ (i2 &&& i3))))), some (.inl i1), some (.inl i2), some (.inl i3), some (.inl (i4 + ((((i8 + ((v_2 ^^^ v_4) ^^^ v_6)) + ((i5 &&& i6) ^^^ ((i5 ^^^ (-1)) &&& i7))) + (h_i M_5 2 (i9).toNatClampNeg)) + (h_i M_5 (h_r M_5 a0 1) (i9).toNatClampNeg)))), some (.inl i5), some (.inl i6), some (.inl i7), some (.inl (i9 + 1)), some (.inl ((v_2 ^^^ v_4) ^^^ v_6)), some (.inl ((((i8 + ((v_2 ^^^ v_4) ^^^ v_6)) + ((i5 &&& i6) ^^^ ((i5 ^^^ (-1)) &&& i7))) + (h_i M_5 2 (i9).toNatClampNeg)) + (h_i M_5 (h_r M_5 a0 1) (i9).toNatClampNeg))), some (.inl ((v_8 ^^^ v_10) ^^^ v_12)), some (.inl (((v_8 ^^^ v_10) ^^^ v_12) + (((i1 &&& i2) ^^^ (i1 &&& i3)) ^^^ (i2 &&& i3))))]) (st' := []) (M' := M_11) rfl
set_option maxRecDepth 20000 in
theorem e_8_152 (a0 : Nat) (i1 : Int32) (i2 : Int32) (i3 : Int32) (i4 : Int32) (i5 : Int32) (i6 : Int32) (i7 : Int32) (i8 : Int32) (i9 : Int32) (o10 : Option mV) (o11 : Option mV) (o12 : Option mV) (o13 : Option mV) (M : mM) : ev 8 152 [some (.inr a0), some (.inl i1), some (.inl i2), some (.inl i3), some (.inl i4), some (.inl i5), some (.inl i6), some (.inl i7), some (.inl i8), some (.inl i9), o10, o11, o12, o13] [] M = if h_k M a0 = 1 then (if (h_k M (h_r M a0 2) = 9 ∨ h_k M (h_r M a0 2) = 14) ∧ h_in 3 (h_l M (h_r M a0 2)) then (if h_k M (h_r M a0 2) = 9 ∧ h_in 3 (h_l M (h_r M a0 2)) then (if h_k (h_si M (h_r M a0 2) 3 ((h_i M (h_r M a0 2) 3) + i4)) a0 = 1 then (if (h_k (h_si M (h_r M a0 2) 3 ((h_i M (h_r M a0 2) 3) + i4)) (h_r (h_si M (h_r M a0 2) 3 ((h_i M (h_r M a0 2) 3) + i4)) a0 2) = 9 ∨ h_k (h_si M (h_r M a0 2) 3 ((h_i M (h_r M a0 2) 3) + i4)) (h_r (h_si M (h_r M a0 2) 3 ((h_i M (h_r M a0 2) 3) + i4)) a0 2) = 14) ∧ h_in 4 (h_l (h_si M (h_r M a0 2) 3 ((h_i M (h_r M a0 2) 3) + i4)) (h_r (h_si M (h_r M a0 2) 3 ((h_i M (h_r M a0 2) 3) + i4)) a0 2)) then (if h_k (h_si M (h_r M a0 2) 3 ((h_i M (h_r M a0 2) 3) + i4)) (h_r (h_si M (h_r M a0 2) 3 ((h_i M (h_r M a0 2) 3) + i4)) a0 2) = 9 ∧ h_in 4 (h_l (h_si M (h_r M a0 2) 3 ((h_i M (h_r M a0 2) 3) + i4)) (h_r (h_si M (h_r M a0 2) 3 ((h_i M (h_r M a0 2) 3) + i4)) a0 2)) then (if h_k (h_si (h_si M (h_r M a0 2) 3 ((h_i M (h_r M a0 2) 3) + i4)) (h_r (h_si M (h_r M a0 2) 3 ((h_i M (h_r M a0 2) 3) + i4)) a0 2) 4 ((h_i (h_si M (h_r M a0 2) 3 ((h_i M (h_r M a0 2) 3) + i4)) (h_r (h_si M (h_r M a0 2) 3 ((h_i M (h_r M a0 2) 3) + i4)) a0 2) 4) + i5)) a0 = 1 then (if (h_k (h_si (h_si M (h_r M a0 2) 3 ((h_i M (h_r M a0 2) 3) + i4)) (h_r (h_si M (h_r M a0 2) 3 ((h_i M (h_r M a0 2) 3) + i4)) a0 2) 4 ((h_i (h_si M (h_r M a0 2) 3 ((h_i M (h_r M a0 2) 3) + i4)) (h_r (h_si M (h_r M a0 2) 3 ((h_i M (h_r M a0 2) 3) + i4)) a0 2) 4) + i5)) (h_r (h_si (h_si M (h_r M a0 2) 3 ((h_i M (h_r M a0 2) 3) + i4)) (h_r (h_si M (h_r M a0 2) 3 ((h_i M (h_r M a0 2) 3) + i4)) a0 2) 4 ((h_i (h_si M (h_r M a0 2) 3 ((h_i M (h_r M a0 2) 3) + i4)) (h_r (h_si M (h_r M a0 2) 3 ((h_i M (h_r M a0 2) 3) + i4)) a0 2) 4) + i5)) a0 2) = 9 ∨ h_k (h_si (h_si M (h_r M a0 2) 3 ((h_i M (h_r M a0 2) 3) + i4)) (h_r (h_si M (h_r M a0 2) 3 ((h_i M (h_r M a0 2) 3) + i4)) a0 2) 4 ((h_i (h_si M (h_r M a0 2) 3 ((h_i M (h_r M a0 2) 3) + i4)) (h_r (h_si M (h_r M a0 2) 3 ((h_i M (h_r M a0 2) 3) + i4)) a0 2) 4) + i5)) (h_r (h_si (h_si M (h_r M a0 2) 3 ((h_i M (h_r M a0 2) 3) + i4)) (h_r (h_si M (h_r M a0 2) 3 ((h_i M (h_r M a0 2) 3) + i4)) a0 2) 4 ((h_i (h_si M (h_r M a0 2) 3 ((h_i M (h_r M a0 2) 3) + i4)) (h_r (h_si M (h_r M a0 2) 3 ((h_i M (h_r M a0 2) 3) + i4)) a0 2) 4) + i5)) a0 2) = 14) ∧ h_in 5 (h_l (h_si (h_si M (h_r M a0 2) 3 ((h_i M (h_r M a0 2) 3) + i4)) (h_r (h_si M (h_r M a0 2) 3 ((h_i M (h_r M a0 2) 3) + i4)) a0 2) 4 ((h_i (h_si M (h_r M a0 2) 3 ((h_i M (h_r M a0 2) 3) + i4)) (h_r (h_si M (h_r M a0 2) 3 ((h_i M (h_r M a0 2) 3) + i4)) a0 2) 4) + i5)) (h_r (h_si (h_si M (h_r M a0 2) 3 ((h_i M (h_r M a0 2) 3) + i4)) (h_r (h_si M (h_r M a0 2) 3 ((h_i M (h_r M a0 2) 3) + i4)) a0 2) 4 ((h_i (h_si M (h_r M a0 2) 3 ((h_i M (h_r M a0 2) 3) + i4)) (h_r (h_si M (h_r M a0 2) 3 ((h_i M (h_r M a0 2) 3) + i4)) a0 2) 4) + i5)) a0 2)) then (if h_k (h_si (h_si M (h_r M a0 2) 3 ((h_i M (h_r M a0 2) 3) + i4)) (h_r (h_si M (h_r M a0 2) 3 ((h_i M (h_r M a0 2) 3) + i4)) a0 2) 4 ((h_i (h_si M (h_r M a0 2) 3 ((h_i M (h_r M a0 2) 3) + i4)) (h_r (h_si M (h_r M a0 2) 3 ((h_i M (h_r M a0 2) 3) + i4)) a0 2) 4) + i5)) (h_r (h_si (h_si M (h_r M a0 2) 3 ((h_i M (h_r M a0 2) 3) + i4)) (h_r (h_si M (h_r M a0 2) 3 ((h_i M (h_r M a0 2) 3) + i4)) a0 2) 4 ((h_i (h_si M (h_r M a0 2) 3 ((h_i M (h_r M a0 2) 3) + i4)) (h_r (h_si M (h_r M a0 2) 3 ((h_i M (h_r M a0 2) 3) + i4)) a0 2) 4) + i5)) a0 2) = 9 ∧ h_in 5 (h_l (h_si (h_si M (h_r M a0 2) 3 ((h_i M (h_r M a0 2) 3) + i4)) (h_r (h_si M (h_r M a0 2) 3 ((h_i M (h_r M a0 2) 3) + i4)) a0 2) 4 ((h_i (h_si M (h_r M a0 2) 3 ((h_i M (h_r M a0 2) 3) + i4)) (h_r (h_si M (h_r M a0 2) 3 ((h_i M (h_r M a0 2) 3) + i4)) a0 2) 4) + i5)) (h_r (h_si (h_si M (h_r M a0 2) 3 ((h_i M (h_r M a0 2) 3) + i4)) (h_r (h_si M (h_r M a0 2) 3 ((h_i M (h_r M a0 2) 3) + i4)) a0 2) 4 ((h_i (h_si M (h_r M a0 2) 3 ((h_i M (h_r M a0 2) 3) + i4)) (h_r (h_si M (h_r M a0 2) 3 ((h_i M (h_r M a0 2) 3) + i4)) a0 2) 4) + i5)) a0 2)) then (ev 8 176 [some (.inr a0), some (.inl i1), some (.inl i2), some (.inl i3), some (.inl i4), some (.inl i5), some (.inl i6), some (.inl i7), some (.inl i8), some (.inl i9), o10, o11, o12, o13] [] (h_si (h_si (h_si M (h_r M a0 2) 3 ((h_i M (h_r M a0 2) 3) + i4)) (h_r (h_si M (h_r M a0 2) 3 ((h_i M (h_r M a0 2) 3) + i4)) a0 2) 4 ((h_i (h_si M (h_r M a0 2) 3 ((h_i M (h_r M a0 2) 3) + i4)) (h_r (h_si M (h_r M a0 2) 3 ((h_i M (h_r M a0 2) 3) + i4)) a0 2) 4) + i5)) (h_r (h_si (h_si M (h_r M a0 2) 3 ((h_i M (h_r M a0 2) 3) + i4)) (h_r (h_si M (h_r M a0 2) 3 ((h_i M (h_r M a0 2) 3) + i4)) a0 2) 4 ((h_i (h_si M (h_r M a0 2) 3 ((h_i M (h_r M a0 2) 3) + i4)) (h_r (h_si M (h_r M a0 2) 3 ((h_i M (h_r M a0 2) 3) + i4)) a0 2) 4) + i5)) a0 2) 5 ((h_i (h_si (h_si M (h_r M a0 2) 3 ((h_i M (h_r M a0 2) 3) + i4)) (h_r (h_si M (h_r M a0 2) 3 ((h_i M (h_r M a0 2) 3) + i4)) a0 2) 4 ((h_i (h_si M (h_r M a0 2) 3 ((h_i M (h_r M a0 2) 3) + i4)) (h_r (h_si M (h_r M a0 2) 3 ((h_i M (h_r M a0 2) 3) + i4)) a0 2) 4) + i5)) (h_r (h_si (h_si M (h_r M a0 2) 3 ((h_i M (h_r M a0 2) 3) + i4)) (h_r (h_si M (h_r M a0 2) 3 ((h_i M (h_r M a0 2) 3) + i4)) a0 2) 4 ((h_i (h_si M (h_r M a0 2) 3 ((h_i M (h_r M a0 2) 3) + i4)) (h_r (h_si M (h_r M a0 2) 3 ((h_i M (h_r M a0 2) 3) + i4)) a0 2) 4) + i5)) a0 2) 5) + i6))) else none) else none) else none) else none) else none) else none) else none) else none) else none := by
  refine (ev_ns c_8 1 (ip' := 153) (ls' := [some (.inr a0), some (.inl i1), some (.inl i2), some (.inl i3), some (.inl i4), some (.inl i5), some (.inl i6), some (.inl i7), some (.inl i8), some (.inl i9), o10, o11, o12, o13]) (st' := [.inr a0]) (M' := M) rfl).trans ?_
  refine (ev_g (h_k M a0 = 1) (ip' := 154) (ls' := [some (.inr a0), some (.inl i1), some (.inl i2), some (.inl i3), some (.inl i4), some (.inl i5), some (.inl i6), some (.inl i7), some (.inl i8), some (.inl i9), o10, o11, o12, o13]) (st' := [.inr (h_r M a0 2)]) (M' := M) c_8 rfl).trans (t_i ?_ rfl)
  refine (ev_ns c_8 2 (ip' := 156) (ls' := [some (.inr a0), some (.inl i1), some (.inl i2), some (.inl i3), some (.inl i4), some (.inl i5), some (.inl i6), some (.inl i7), some (.inl i8), some (.inl i9), o10, o11, o12, o13]) (st' := [.inl 3, .inr (h_r M a0 2), .inl 3, .inr (h_r M a0 2)]) (M' := M) rfl).trans ?_
  refine (ev_g ((h_k M (h_r M a0 2) = 9 ∨ h_k M (h_r M a0 2) = 14) ∧ h_in 3 (h_l M (h_r M a0 2))) (ip' := 157) (ls' := [some (.inr a0), some (.inl i1), some (.inl i2), some (.inl i3), some (.inl i4), some (.inl i5), some (.inl i6), some (.inl i7), some (.inl i8), some (.inl i9), o10, o11, o12, o13]) (st' := [.inl (h_i M (h_r M a0 2) 3), .inl 3, .inr (h_r M a0 2)]) (M' := M) c_8 rfl).trans (t_i ?_ rfl)
  refine (ev_ns c_8 2 (ip' := 159) (ls' := [some (.inr a0), some (.inl i1), some (.inl i2), some (.inl i3), some (.inl i4), some (.inl i5), some (.inl i6), some (.inl i7), some (.inl i8), some (.inl i9), o10, o11, o12, o13]) (st' := [.inl ((h_i M (h_r M a0 2) 3) + i4), .inl 3, .inr (h_r M a0 2)]) (M' := M) rfl).trans ?_
  refine (ev_g (h_k M (h_r M a0 2) = 9 ∧ h_in 3 (h_l M (h_r M a0 2))) (ip' := 160) (ls' := [some (.inr a0), some (.inl i1), some (.inl i2), some (.inl i3), some (.inl i4), some (.inl i5), some (.inl i6), some (.inl i7), some (.inl i8), some (.inl i9), o10, o11, o12, o13]) (st' := []) (M' := h_si M (h_r M a0 2) 3 ((h_i M (h_r M a0 2) 3) + i4)) c_8 rfl).trans (t_i ?_ rfl)
  refine (ev_ns c_8 1 (ip' := 161) (ls' := [some (.inr a0), some (.inl i1), some (.inl i2), some (.inl i3), some (.inl i4), some (.inl i5), some (.inl i6), some (.inl i7), some (.inl i8), some (.inl i9), o10, o11, o12, o13]) (st' := [.inr a0]) (M' := h_si M (h_r M a0 2) 3 ((h_i M (h_r M a0 2) 3) + i4)) rfl).trans ?_
  refine (ev_g (h_k (h_si M (h_r M a0 2) 3 ((h_i M (h_r M a0 2) 3) + i4)) a0 = 1) (ip' := 162) (ls' := [some (.inr a0), some (.inl i1), some (.inl i2), some (.inl i3), some (.inl i4), some (.inl i5), some (.inl i6), some (.inl i7), some (.inl i8), some (.inl i9), o10, o11, o12, o13]) (st' := [.inr (h_r (h_si M (h_r M a0 2) 3 ((h_i M (h_r M a0 2) 3) + i4)) a0 2)]) (M' := h_si M (h_r M a0 2) 3 ((h_i M (h_r M a0 2) 3) + i4)) c_8 rfl).trans (t_i ?_ rfl)
  refine (ev_ns c_8 2 (ip' := 164) (ls' := [some (.inr a0), some (.inl i1), some (.inl i2), some (.inl i3), some (.inl i4), some (.inl i5), some (.inl i6), some (.inl i7), some (.inl i8), some (.inl i9), o10, o11, o12, o13]) (st' := [.inl 4, .inr (h_r (h_si M (h_r M a0 2) 3 ((h_i M (h_r M a0 2) 3) + i4)) a0 2), .inl 4, .inr (h_r (h_si M (h_r M a0 2) 3 ((h_i M (h_r M a0 2) 3) + i4)) a0 2)]) (M' := h_si M (h_r M a0 2) 3 ((h_i M (h_r M a0 2) 3) + i4)) rfl).trans ?_
  refine (ev_g ((h_k (h_si M (h_r M a0 2) 3 ((h_i M (h_r M a0 2) 3) + i4)) (h_r (h_si M (h_r M a0 2) 3 ((h_i M (h_r M a0 2) 3) + i4)) a0 2) = 9 ∨ h_k (h_si M (h_r M a0 2) 3 ((h_i M (h_r M a0 2) 3) + i4)) (h_r (h_si M (h_r M a0 2) 3 ((h_i M (h_r M a0 2) 3) + i4)) a0 2) = 14) ∧ h_in 4 (h_l (h_si M (h_r M a0 2) 3 ((h_i M (h_r M a0 2) 3) + i4)) (h_r (h_si M (h_r M a0 2) 3 ((h_i M (h_r M a0 2) 3) + i4)) a0 2))) (ip' := 165) (ls' := [some (.inr a0), some (.inl i1), some (.inl i2), some (.inl i3), some (.inl i4), some (.inl i5), some (.inl i6), some (.inl i7), some (.inl i8), some (.inl i9), o10, o11, o12, o13]) (st' := [.inl (h_i (h_si M (h_r M a0 2) 3 ((h_i M (h_r M a0 2) 3) + i4)) (h_r (h_si M (h_r M a0 2) 3 ((h_i M (h_r M a0 2) 3) + i4)) a0 2) 4), .inl 4, .inr (h_r (h_si M (h_r M a0 2) 3 ((h_i M (h_r M a0 2) 3) + i4)) a0 2)]) (M' := h_si M (h_r M a0 2) 3 ((h_i M (h_r M a0 2) 3) + i4)) c_8 rfl).trans (t_i ?_ rfl)
  refine (ev_ns c_8 2 (ip' := 167) (ls' := [some (.inr a0), some (.inl i1), some (.inl i2), some (.inl i3), some (.inl i4), some (.inl i5), some (.inl i6), some (.inl i7), some (.inl i8), some (.inl i9), o10, o11, o12, o13]) (st' := [.inl ((h_i (h_si M (h_r M a0 2) 3 ((h_i M (h_r M a0 2) 3) + i4)) (h_r (h_si M (h_r M a0 2) 3 ((h_i M (h_r M a0 2) 3) + i4)) a0 2) 4) + i5), .inl 4, .inr (h_r (h_si M (h_r M a0 2) 3 ((h_i M (h_r M a0 2) 3) + i4)) a0 2)]) (M' := h_si M (h_r M a0 2) 3 ((h_i M (h_r M a0 2) 3) + i4)) rfl).trans ?_
  refine (ev_g (h_k (h_si M (h_r M a0 2) 3 ((h_i M (h_r M a0 2) 3) + i4)) (h_r (h_si M (h_r M a0 2) 3 ((h_i M (h_r M a0 2) 3) + i4)) a0 2) = 9 ∧ h_in 4 (h_l (h_si M (h_r M a0 2) 3 ((h_i M (h_r M a0 2) 3) + i4)) (h_r (h_si M (h_r M a0 2) 3 ((h_i M (h_r M a0 2) 3) + i4)) a0 2))) (ip' := 168) (ls' := [some (.inr a0), some (.inl i1), some (.inl i2), some (.inl i3), some (.inl i4), some (.inl i5), some (.inl i6), some (.inl i7), some (.inl i8), some (.inl i9), o10, o11, o12, o13]) (st' := []) (M' := h_si (h_si M (h_r M a0 2) 3 ((h_i M (h_r M a0 2) 3) + i4)) (h_r (h_si M (h_r M a0 2) 3 ((h_i M (h_r M a0 2) 3) + i4)) a0 2) 4 ((h_i (h_si M (h_r M a0 2) 3 ((h_i M (h_r M a0 2) 3) + i4)) (h_r (h_si M (h_r M a0 2) 3 ((h_i M (h_r M a0 2) 3) + i4)) a0 2) 4) + i5)) c_8 rfl).trans (t_i ?_ rfl)
  refine (ev_ns c_8 1 (ip' := 169) (ls' := [some (.inr a0), some (.inl i1), some (.inl i2), some (.inl i3), some (.inl i4), some (.inl i5), some (.inl i6), some (.inl i7), some (.inl i8), some (.inl i9), o10, o11, o12, o13]) (st' := [.inr a0]) (M' := h_si (h_si M (h_r M a0 2) 3 ((h_i M (h_r M a0 2) 3) + i4)) (h_r (h_si M (h_r M a0 2) 3 ((h_i M (h_r M a0 2) 3) + i4)) a0 2) 4 ((h_i (h_si M (h_r M a0 2) 3 ((h_i M (h_r M a0 2) 3) + i4)) (h_r (h_si M (h_r M a0 2) 3 ((h_i M (h_r M a0 2) 3) + i4)) a0 2) 4) + i5)) rfl).trans ?_
  refine (ev_g (h_k (h_si (h_si M (h_r M a0 2) 3 ((h_i M (h_r M a0 2) 3) + i4)) (h_r (h_si M (h_r M a0 2) 3 ((h_i M (h_r M a0 2) 3) + i4)) a0 2) 4 ((h_i (h_si M (h_r M a0 2) 3 ((h_i M (h_r M a0 2) 3) + i4)) (h_r (h_si M (h_r M a0 2) 3 ((h_i M (h_r M a0 2) 3) + i4)) a0 2) 4) + i5)) a0 = 1) (ip' := 170) (ls' := [some (.inr a0), some (.inl i1), some (.inl i2), some (.inl i3), some (.inl i4), some (.inl i5), some (.inl i6), some (.inl i7), some (.inl i8), some (.inl i9), o10, o11, o12, o13]) (st' := [.inr (h_r (h_si (h_si M (h_r M a0 2) 3 ((h_i M (h_r M a0 2) 3) + i4)) (h_r (h_si M (h_r M a0 2) 3 ((h_i M (h_r M a0 2) 3) + i4)) a0 2) 4 ((h_i (h_si M (h_r M a0 2) 3 ((h_i M (h_r M a0 2) 3) + i4)) (h_r (h_si M (h_r M a0 2) 3 ((h_i M (h_r M a0 2) 3) + i4)) a0 2) 4) + i5)) a0 2)]) (M' := h_si (h_si M (h_r M a0 2) 3 ((h_i M (h_r M a0 2) 3) + i4)) (h_r (h_si M (h_r M a0 2) 3 ((h_i M (h_r M a0 2) 3) + i4)) a0 2) 4 ((h_i (h_si M (h_r M a0 2) 3 ((h_i M (h_r M a0 2) 3) + i4)) (h_r (h_si M (h_r M a0 2) 3 ((h_i M (h_r M a0 2) 3) + i4)) a0 2) 4) + i5)) c_8 rfl).trans (t_i ?_ rfl)
  refine (ev_ns c_8 2 (ip' := 172) (ls' := [some (.inr a0), some (.inl i1), some (.inl i2), some (.inl i3), some (.inl i4), some (.inl i5), some (.inl i6), some (.inl i7), some (.inl i8), some (.inl i9), o10, o11, o12, o13]) (st' := [.inl 5, .inr (h_r (h_si (h_si M (h_r M a0 2) 3 ((h_i M (h_r M a0 2) 3) + i4)) (h_r (h_si M (h_r M a0 2) 3 ((h_i M (h_r M a0 2) 3) + i4)) a0 2) 4 ((h_i (h_si M (h_r M a0 2) 3 ((h_i M (h_r M a0 2) 3) + i4)) (h_r (h_si M (h_r M a0 2) 3 ((h_i M (h_r M a0 2) 3) + i4)) a0 2) 4) + i5)) a0 2), .inl 5, .inr (h_r (h_si (h_si M (h_r M a0 2) 3 ((h_i M (h_r M a0 2) 3) + i4)) (h_r (h_si M (h_r M a0 2) 3 ((h_i M (h_r M a0 2) 3) + i4)) a0 2) 4 ((h_i (h_si M (h_r M a0 2) 3 ((h_i M (h_r M a0 2) 3) + i4)) (h_r (h_si M (h_r M a0 2) 3 ((h_i M (h_r M a0 2) 3) + i4)) a0 2) 4) + i5)) a0 2)]) (M' := h_si (h_si M (h_r M a0 2) 3 ((h_i M (h_r M a0 2) 3) + i4)) (h_r (h_si M (h_r M a0 2) 3 ((h_i M (h_r M a0 2) 3) + i4)) a0 2) 4 ((h_i (h_si M (h_r M a0 2) 3 ((h_i M (h_r M a0 2) 3) + i4)) (h_r (h_si M (h_r M a0 2) 3 ((h_i M (h_r M a0 2) 3) + i4)) a0 2) 4) + i5)) rfl).trans ?_
  refine (ev_g ((h_k (h_si (h_si M (h_r M a0 2) 3 ((h_i M (h_r M a0 2) 3) + i4)) (h_r (h_si M (h_r M a0 2) 3 ((h_i M (h_r M a0 2) 3) + i4)) a0 2) 4 ((h_i (h_si M (h_r M a0 2) 3 ((h_i M (h_r M a0 2) 3) + i4)) (h_r (h_si M (h_r M a0 2) 3 ((h_i M (h_r M a0 2) 3) + i4)) a0 2) 4) + i5)) (h_r (h_si (h_si M (h_r M a0 2) 3 ((h_i M (h_r M a0 2) 3) + i4)) (h_r (h_si M (h_r M a0 2) 3 ((h_i M (h_r M a0 2) 3) + i4)) a0 2) 4 ((h_i (h_si M (h_r M a0 2) 3 ((h_i M (h_r M a0 2) 3) + i4)) (h_r (h_si M (h_r M a0 2) 3 ((h_i M (h_r M a0 2) 3) + i4)) a0 2) 4) + i5)) a0 2) = 9 ∨ h_k (h_si (h_si M (h_r M a0 2) 3 ((h_i M (h_r M a0 2) 3) + i4)) (h_r (h_si M (h_r M a0 2) 3 ((h_i M (h_r M a0 2) 3) + i4)) a0 2) 4 ((h_i (h_si M (h_r M a0 2) 3 ((h_i M (h_r M a0 2) 3) + i4)) (h_r (h_si M (h_r M a0 2) 3 ((h_i M (h_r M a0 2) 3) + i4)) a0 2) 4) + i5)) (h_r (h_si (h_si M (h_r M a0 2) 3 ((h_i M (h_r M a0 2) 3) + i4)) (h_r (h_si M (h_r M a0 2) 3 ((h_i M (h_r M a0 2) 3) + i4)) a0 2) 4 ((h_i (h_si M (h_r M a0 2) 3 ((h_i M (h_r M a0 2) 3) + i4)) (h_r (h_si M (h_r M a0 2) 3 ((h_i M (h_r M a0 2) 3) + i4)) a0 2) 4) + i5)) a0 2) = 14) ∧ h_in 5 (h_l (h_si (h_si M (h_r M a0 2) 3 ((h_i M (h_r M a0 2) 3) + i4)) (h_r (h_si M (h_r M a0 2) 3 ((h_i M (h_r M a0 2) 3) + i4)) a0 2) 4 ((h_i (h_si M (h_r M a0 2) 3 ((h_i M (h_r M a0 2) 3) + i4)) (h_r (h_si M (h_r M a0 2) 3 ((h_i M (h_r M a0 2) 3) + i4)) a0 2) 4) + i5)) (h_r (h_si (h_si M (h_r M a0 2) 3 ((h_i M (h_r M a0 2) 3) + i4)) (h_r (h_si M (h_r M a0 2) 3 ((h_i M (h_r M a0 2) 3) + i4)) a0 2) 4 ((h_i (h_si M (h_r M a0 2) 3 ((h_i M (h_r M a0 2) 3) + i4)) (h_r (h_si M (h_r M a0 2) 3 ((h_i M (h_r M a0 2) 3) + i4)) a0 2) 4) + i5)) a0 2))) (ip' := 173) (ls' := [some (.inr a0), some (.inl i1), some (.inl i2), some (.inl i3), some (.inl i4), some (.inl i5), some (.inl i6), some (.inl i7), some (.inl i8), some (.inl i9), o10, o11, o12, o13]) (st' := [.inl (h_i (h_si (h_si M (h_r M a0 2) 3 ((h_i M (h_r M a0 2) 3) + i4)) (h_r (h_si M (h_r M a0 2) 3 ((h_i M (h_r M a0 2) 3) + i4)) a0 2) 4 ((h_i (h_si M (h_r M a0 2) 3 ((h_i M (h_r M a0 2) 3) + i4)) (h_r (h_si M (h_r M a0 2) 3 ((h_i M (h_r M a0 2) 3) + i4)) a0 2) 4) + i5)) (h_r (h_si (h_si M (h_r M a0 2) 3 ((h_i M (h_r M a0 2) 3) + i4)) (h_r (h_si M (h_r M a0 2) 3 ((h_i M (h_r M a0 2) 3) + i4)) a0 2) 4 ((h_i (h_si M (h_r M a0 2) 3 ((h_i M (h_r M a0 2) 3) + i4)) (h_r (h_si M (h_r M a0 2) 3 ((h_i M (h_r M a0 2) 3) + i4)) a0 2) 4) + i5)) a0 2) 5), .inl 5, .inr (h_r (h_si (h_si M (h_r M a0 2) 3 ((h_i M (h_r M a0 2) 3) + i4)) (h_r (h_si M (h_r M a0 2) 3 ((h_i M (h_r M a0 2) 3) + i4)) a0 2) 4 ((h_i (h_si M (h_r M a0 2) 3 ((h_i M (h_r M a0 2) 3) + i4)) (h_r (h_si M (h_r M a0 2) 3 ((h_i M (h_r M a0 2) 3) + i4)) a0 2) 4) + i5)) a0 2)]) (M' := h_si (h_si M (h_r M a0 2) 3 ((h_i M (h_r M a0 2) 3) + i4)) (h_r (h_si M (h_r M a0 2) 3 ((h_i M (h_r M a0 2) 3) + i4)) a0 2) 4 ((h_i (h_si M (h_r M a0 2) 3 ((h_i M (h_r M a0 2) 3) + i4)) (h_r (h_si M (h_r M a0 2) 3 ((h_i M (h_r M a0 2) 3) + i4)) a0 2) 4) + i5)) c_8 rfl).trans (t_i ?_ rfl)
  refine (ev_ns c_8 2 (ip' := 175) (ls' := [some (.inr a0), some (.inl i1), some (.inl i2), some (.inl i3), some (.inl i4), some (.inl i5), some (.inl i6), some (.inl i7), some (.inl i8), some (.inl i9), o10, o11, o12, o13]) (st' := [.inl ((h_i (h_si (h_si M (h_r M a0 2) 3 ((h_i M (h_r M a0 2) 3) + i4)) (h_r (h_si M (h_r M a0 2) 3 ((h_i M (h_r M a0 2) 3) + i4)) a0 2) 4 ((h_i (h_si M (h_r M a0 2) 3 ((h_i M (h_r M a0 2) 3) + i4)) (h_r (h_si M (h_r M a0 2) 3 ((h_i M (h_r M a0 2) 3) + i4)) a0 2) 4) + i5)) (h_r (h_si (h_si M (h_r M a0 2) 3 ((h_i M (h_r M a0 2) 3) + i4)) (h_r (h_si M (h_r M a0 2) 3 ((h_i M (h_r M a0 2) 3) + i4)) a0 2) 4 ((h_i (h_si M (h_r M a0 2) 3 ((h_i M (h_r M a0 2) 3) + i4)) (h_r (h_si M (h_r M a0 2) 3 ((h_i M (h_r M a0 2) 3) + i4)) a0 2) 4) + i5)) a0 2) 5) + i6), .inl 5, .inr (h_r (h_si (h_si M (h_r M a0 2) 3 ((h_i M (h_r M a0 2) 3) + i4)) (h_r (h_si M (h_r M a0 2) 3 ((h_i M (h_r M a0 2) 3) + i4)) a0 2) 4 ((h_i (h_si M (h_r M a0 2) 3 ((h_i M (h_r M a0 2) 3) + i4)) (h_r (h_si M (h_r M a0 2) 3 ((h_i M (h_r M a0 2) 3) + i4)) a0 2) 4) + i5)) a0 2)]) (M' := h_si (h_si M (h_r M a0 2) 3 ((h_i M (h_r M a0 2) 3) + i4)) (h_r (h_si M (h_r M a0 2) 3 ((h_i M (h_r M a0 2) 3) + i4)) a0 2) 4 ((h_i (h_si M (h_r M a0 2) 3 ((h_i M (h_r M a0 2) 3) + i4)) (h_r (h_si M (h_r M a0 2) 3 ((h_i M (h_r M a0 2) 3) + i4)) a0 2) 4) + i5)) rfl).trans ?_
  refine (ev_g (h_k (h_si (h_si M (h_r M a0 2) 3 ((h_i M (h_r M a0 2) 3) + i4)) (h_r (h_si M (h_r M a0 2) 3 ((h_i M (h_r M a0 2) 3) + i4)) a0 2) 4 ((h_i (h_si M (h_r M a0 2) 3 ((h_i M (h_r M a0 2) 3) + i4)) (h_r (h_si M (h_r M a0 2) 3 ((h_i M (h_r M a0 2) 3) + i4)) a0 2) 4) + i5)) (h_r (h_si (h_si M (h_r M a0 2) 3 ((h_i M (h_r M a0 2) 3) + i4)) (h_r (h_si M (h_r M a0 2) 3 ((h_i M (h_r M a0 2) 3) + i4)) a0 2) 4 ((h_i (h_si M (h_r M a0 2) 3 ((h_i M (h_r M a0 2) 3) + i4)) (h_r (h_si M (h_r M a0 2) 3 ((h_i M (h_r M a0 2) 3) + i4)) a0 2) 4) + i5)) a0 2) = 9 ∧ h_in 5 (h_l (h_si (h_si M (h_r M a0 2) 3 ((h_i M (h_r M a0 2) 3) + i4)) (h_r (h_si M (h_r M a0 2) 3 ((h_i M (h_r M a0 2) 3) + i4)) a0 2) 4 ((h_i (h_si M (h_r M a0 2) 3 ((h_i M (h_r M a0 2) 3) + i4)) (h_r (h_si M (h_r M a0 2) 3 ((h_i M (h_r M a0 2) 3) + i4)) a0 2) 4) + i5)) (h_r (h_si (h_si M (h_r M a0 2) 3 ((h_i M (h_r M a0 2) 3) + i4)) (h_r (h_si M (h_r M a0 2) 3 ((h_i M (h_r M a0 2) 3) + i4)) a0 2) 4 ((h_i (h_si M (h_r M a0 2) 3 ((h_i M (h_r M a0 2) 3) + i4)) (h_r (h_si M (h_r M a0 2) 3 ((h_i M (h_r M a0 2) 3) + i4)) a0 2) 4) + i5)) a0 2))) (ip' := 176) (ls' := [some (.inr a0), some (.inl i1), some (.inl i2), some (.inl i3), some (.inl i4), some (.inl i5), some (.inl i6), some (.inl i7), some (.inl i8), some (.inl i9), o10, o11, o12, o13]) (st' := []) (M' := h_si (h_si (h_si M (h_r M a0 2) 3 ((h_i M (h_r M a0 2) 3) + i4)) (h_r (h_si M (h_r M a0 2) 3 ((h_i M (h_r M a0 2) 3) + i4)) a0 2) 4 ((h_i (h_si M (h_r M a0 2) 3 ((h_i M (h_r M a0 2) 3) + i4)) (h_r (h_si M (h_r M a0 2) 3 ((h_i M (h_r M a0 2) 3) + i4)) a0 2) 4) + i5)) (h_r (h_si (h_si M (h_r M a0 2) 3 ((h_i M (h_r M a0 2) 3) + i4)) (h_r (h_si M (h_r M a0 2) 3 ((h_i M (h_r M a0 2) 3) + i4)) a0 2) 4 ((h_i (h_si M (h_r M a0 2) 3 ((h_i M (h_r M a0 2) 3) + i4)) (h_r (h_si M (h_r M a0 2) 3 ((h_i M (h_r M a0 2) 3) + i4)) a0 2) 4) + i5)) a0 2) 5 ((h_i (h_si (h_si M (h_r M a0 2) 3 ((h_i M (h_r M a0 2) 3) + i4)) (h_r (h_si M (h_r M a0 2) 3 ((h_i M (h_r M a0 2) 3) + i4)) a0 2) 4 ((h_i (h_si M (h_r M a0 2) 3 ((h_i M (h_r M a0 2) 3) + i4)) (h_r (h_si M (h_r M a0 2) 3 ((h_i M (h_r M a0 2) 3) + i4)) a0 2) 4) + i5)) (h_r (h_si (h_si M (h_r M a0 2) 3 ((h_i M (h_r M a0 2) 3) + i4)) (h_r (h_si M (h_r M a0 2) 3 ((h_i M (h_r M a0 2) 3) + i4)) a0 2) 4 ((h_i (h_si M (h_r M a0 2) 3 ((h_i M (h_r M a0 2) 3) + i4)) (h_r (h_si M (h_r M a0 2) 3 ((h_i M (h_r M a0 2) 3) + i4)) a0 2) 4) + i5)) a0 2) 5) + i6)) c_8 rfl).trans (t_i ?_ rfl)
  exact rfl
set_option maxRecDepth 20000 in
theorem e_8_176 (a0 : Nat) (i1 : Int32) (i2 : Int32) (i3 : Int32) (i4 : Int32) (i5 : Int32) (i6 : Int32) (i7 : Int32) (i8 : Int32) (i9 : Int32) (o10 : Option mV) (o11 : Option mV) (o12 : Option mV) (o13 : Option mV) (M : mM) : ev 8 176 [some (.inr a0), some (.inl i1), some (.inl i2), some (.inl i3), some (.inl i4), some (.inl i5), some (.inl i6), some (.inl i7), some (.inl i8), some (.inl i9), o10, o11, o12, o13] [] M = if h_k M a0 = 1 then (if (h_k M (h_r M a0 2) = 9 ∨ h_k M (h_r M a0 2) = 14) ∧ h_in 6 (h_l M (h_r M a0 2)) then (if h_k M (h_r M a0 2) = 9 ∧ h_in 6 (h_l M (h_r M a0 2)) then (if h_k (h_si M (h_r M a0 2) 6 ((h_i M (h_r M a0 2) 6) + i7)) a0 = 1 then (if (h_k (h_si M (h_r M a0 2) 6 ((h_i M (h_r M a0 2) 6) + i7)) (h_r (h_si M (h_r M a0 2) 6 ((h_i M (h_r M a0 2) 6) + i7)) a0 2) = 9 ∨ h_k (h_si M (h_r M a0 2) 6 ((h_i M (h_r M a0 2) 6) + i7)) (h_r (h_si M (h_r M a0 2) 6 ((h_i M (h_r M a0 2) 6) + i7)) a0 2) = 14) ∧ h_in 7 (h_l (h_si M (h_r M a0 2) 6 ((h_i M (h_r M a0 2) 6) + i7)) (h_r (h_si M (h_r M a0 2) 6 ((h_i M (h_r M a0 2) 6) + i7)) a0 2)) then (if h_k (h_si M (h_r M a0 2) 6 ((h_i M (h_r M a0 2) 6) + i7)) (h_r (h_si M (h_r M a0 2) 6 ((h_i M (h_r M a0 2) 6) + i7)) a0 2) = 9 ∧ h_in 7 (h_l (h_si M (h_r M a0 2) 6 ((h_i M (h_r M a0 2) 6) + i7)) (h_r (h_si M (h_r M a0 2) 6 ((h_i M (h_r M a0 2) 6) + i7)) a0 2)) then (some (none, h_si (h_si M (h_r M a0 2) 6 ((h_i M (h_r M a0 2) 6) + i7)) (h_r (h_si M (h_r M a0 2) 6 ((h_i M (h_r M a0 2) 6) + i7)) a0 2) 7 ((h_i (h_si M (h_r M a0 2) 6 ((h_i M (h_r M a0 2) 6) + i7)) (h_r (h_si M (h_r M a0 2) 6 ((h_i M (h_r M a0 2) 6) + i7)) a0 2) 7) + i8))) else none) else none) else none) else none) else none) else none := by
  refine (ev_ns c_8 1 (ip' := 177) (ls' := [some (.inr a0), some (.inl i1), some (.inl i2), some (.inl i3), some (.inl i4), some (.inl i5), some (.inl i6), some (.inl i7), some (.inl i8), some (.inl i9), o10, o11, o12, o13]) (st' := [.inr a0]) (M' := M) rfl).trans ?_
  refine (ev_g (h_k M a0 = 1) (ip' := 178) (ls' := [some (.inr a0), some (.inl i1), some (.inl i2), some (.inl i3), some (.inl i4), some (.inl i5), some (.inl i6), some (.inl i7), some (.inl i8), some (.inl i9), o10, o11, o12, o13]) (st' := [.inr (h_r M a0 2)]) (M' := M) c_8 rfl).trans (t_i ?_ rfl)
  refine (ev_ns c_8 2 (ip' := 180) (ls' := [some (.inr a0), some (.inl i1), some (.inl i2), some (.inl i3), some (.inl i4), some (.inl i5), some (.inl i6), some (.inl i7), some (.inl i8), some (.inl i9), o10, o11, o12, o13]) (st' := [.inl 6, .inr (h_r M a0 2), .inl 6, .inr (h_r M a0 2)]) (M' := M) rfl).trans ?_
  refine (ev_g ((h_k M (h_r M a0 2) = 9 ∨ h_k M (h_r M a0 2) = 14) ∧ h_in 6 (h_l M (h_r M a0 2))) (ip' := 181) (ls' := [some (.inr a0), some (.inl i1), some (.inl i2), some (.inl i3), some (.inl i4), some (.inl i5), some (.inl i6), some (.inl i7), some (.inl i8), some (.inl i9), o10, o11, o12, o13]) (st' := [.inl (h_i M (h_r M a0 2) 6), .inl 6, .inr (h_r M a0 2)]) (M' := M) c_8 rfl).trans (t_i ?_ rfl)
  refine (ev_ns c_8 2 (ip' := 183) (ls' := [some (.inr a0), some (.inl i1), some (.inl i2), some (.inl i3), some (.inl i4), some (.inl i5), some (.inl i6), some (.inl i7), some (.inl i8), some (.inl i9), o10, o11, o12, o13]) (st' := [.inl ((h_i M (h_r M a0 2) 6) + i7), .inl 6, .inr (h_r M a0 2)]) (M' := M) rfl).trans ?_
  refine (ev_g (h_k M (h_r M a0 2) = 9 ∧ h_in 6 (h_l M (h_r M a0 2))) (ip' := 184) (ls' := [some (.inr a0), some (.inl i1), some (.inl i2), some (.inl i3), some (.inl i4), some (.inl i5), some (.inl i6), some (.inl i7), some (.inl i8), some (.inl i9), o10, o11, o12, o13]) (st' := []) (M' := h_si M (h_r M a0 2) 6 ((h_i M (h_r M a0 2) 6) + i7)) c_8 rfl).trans (t_i ?_ rfl)
  refine (ev_ns c_8 1 (ip' := 185) (ls' := [some (.inr a0), some (.inl i1), some (.inl i2), some (.inl i3), some (.inl i4), some (.inl i5), some (.inl i6), some (.inl i7), some (.inl i8), some (.inl i9), o10, o11, o12, o13]) (st' := [.inr a0]) (M' := h_si M (h_r M a0 2) 6 ((h_i M (h_r M a0 2) 6) + i7)) rfl).trans ?_
  refine (ev_g (h_k (h_si M (h_r M a0 2) 6 ((h_i M (h_r M a0 2) 6) + i7)) a0 = 1) (ip' := 186) (ls' := [some (.inr a0), some (.inl i1), some (.inl i2), some (.inl i3), some (.inl i4), some (.inl i5), some (.inl i6), some (.inl i7), some (.inl i8), some (.inl i9), o10, o11, o12, o13]) (st' := [.inr (h_r (h_si M (h_r M a0 2) 6 ((h_i M (h_r M a0 2) 6) + i7)) a0 2)]) (M' := h_si M (h_r M a0 2) 6 ((h_i M (h_r M a0 2) 6) + i7)) c_8 rfl).trans (t_i ?_ rfl)
  refine (ev_ns c_8 2 (ip' := 188) (ls' := [some (.inr a0), some (.inl i1), some (.inl i2), some (.inl i3), some (.inl i4), some (.inl i5), some (.inl i6), some (.inl i7), some (.inl i8), some (.inl i9), o10, o11, o12, o13]) (st' := [.inl 7, .inr (h_r (h_si M (h_r M a0 2) 6 ((h_i M (h_r M a0 2) 6) + i7)) a0 2), .inl 7, .inr (h_r (h_si M (h_r M a0 2) 6 ((h_i M (h_r M a0 2) 6) + i7)) a0 2)]) (M' := h_si M (h_r M a0 2) 6 ((h_i M (h_r M a0 2) 6) + i7)) rfl).trans ?_
  refine (ev_g ((h_k (h_si M (h_r M a0 2) 6 ((h_i M (h_r M a0 2) 6) + i7)) (h_r (h_si M (h_r M a0 2) 6 ((h_i M (h_r M a0 2) 6) + i7)) a0 2) = 9 ∨ h_k (h_si M (h_r M a0 2) 6 ((h_i M (h_r M a0 2) 6) + i7)) (h_r (h_si M (h_r M a0 2) 6 ((h_i M (h_r M a0 2) 6) + i7)) a0 2) = 14) ∧ h_in 7 (h_l (h_si M (h_r M a0 2) 6 ((h_i M (h_r M a0 2) 6) + i7)) (h_r (h_si M (h_r M a0 2) 6 ((h_i M (h_r M a0 2) 6) + i7)) a0 2))) (ip' := 189) (ls' := [some (.inr a0), some (.inl i1), some (.inl i2), some (.inl i3), some (.inl i4), some (.inl i5), some (.inl i6), some (.inl i7), some (.inl i8), some (.inl i9), o10, o11, o12, o13]) (st' := [.inl (h_i (h_si M (h_r M a0 2) 6 ((h_i M (h_r M a0 2) 6) + i7)) (h_r (h_si M (h_r M a0 2) 6 ((h_i M (h_r M a0 2) 6) + i7)) a0 2) 7), .inl 7, .inr (h_r (h_si M (h_r M a0 2) 6 ((h_i M (h_r M a0 2) 6) + i7)) a0 2)]) (M' := h_si M (h_r M a0 2) 6 ((h_i M (h_r M a0 2) 6) + i7)) c_8 rfl).trans (t_i ?_ rfl)
  refine (ev_ns c_8 2 (ip' := 191) (ls' := [some (.inr a0), some (.inl i1), some (.inl i2), some (.inl i3), some (.inl i4), some (.inl i5), some (.inl i6), some (.inl i7), some (.inl i8), some (.inl i9), o10, o11, o12, o13]) (st' := [.inl ((h_i (h_si M (h_r M a0 2) 6 ((h_i M (h_r M a0 2) 6) + i7)) (h_r (h_si M (h_r M a0 2) 6 ((h_i M (h_r M a0 2) 6) + i7)) a0 2) 7) + i8), .inl 7, .inr (h_r (h_si M (h_r M a0 2) 6 ((h_i M (h_r M a0 2) 6) + i7)) a0 2)]) (M' := h_si M (h_r M a0 2) 6 ((h_i M (h_r M a0 2) 6) + i7)) rfl).trans ?_
  refine (ev_g (h_k (h_si M (h_r M a0 2) 6 ((h_i M (h_r M a0 2) 6) + i7)) (h_r (h_si M (h_r M a0 2) 6 ((h_i M (h_r M a0 2) 6) + i7)) a0 2) = 9 ∧ h_in 7 (h_l (h_si M (h_r M a0 2) 6 ((h_i M (h_r M a0 2) 6) + i7)) (h_r (h_si M (h_r M a0 2) 6 ((h_i M (h_r M a0 2) 6) + i7)) a0 2))) (ip' := 192) (ls' := [some (.inr a0), some (.inl i1), some (.inl i2), some (.inl i3), some (.inl i4), some (.inl i5), some (.inl i6), some (.inl i7), some (.inl i8), some (.inl i9), o10, o11, o12, o13]) (st' := []) (M' := h_si (h_si M (h_r M a0 2) 6 ((h_i M (h_r M a0 2) 6) + i7)) (h_r (h_si M (h_r M a0 2) 6 ((h_i M (h_r M a0 2) 6) + i7)) a0 2) 7 ((h_i (h_si M (h_r M a0 2) 6 ((h_i M (h_r M a0 2) 6) + i7)) (h_r (h_si M (h_r M a0 2) 6 ((h_i M (h_r M a0 2) 6) + i7)) a0 2) 7) + i8)) c_8 rfl).trans (t_i ?_ rfl)
  exact ev_d c_8 rfl
/- 9: GranuleHall$Entry.<init>(III)V -/
set_option maxRecDepth 20000 in
theorem e_9_0 (a0 : Nat) (i1 : Int32) (i2 : Int32) (i3 : Int32) (M : mM) : ev 9 0 [some (.inr a0), some (.inl i1), some (.inl i2), some (.inl i3)] [] M = if ¬ a0 = 0 ∧ ([] : List mV).length ≤ 8 then (if h_k M a0 = 2 then (if h_k (h_si M a0 0 i1) a0 = 2 then (if h_k (h_si (h_si M a0 0 i1) a0 1 i2) a0 = 2 then (some (none, h_si (h_si (h_si M a0 0 i1) a0 1 i2) a0 2 i3)) else none) else none) else none) else none := by
  refine (ev_ns c_9 1 (ip' := 1) (ls' := [some (.inr a0), some (.inl i1), some (.inl i2), some (.inl i3)]) (st' := [.inr a0]) (M' := M) rfl).trans ?_
  refine (ev_g (¬ a0 = 0 ∧ ([] : List mV).length ≤ 8) (ip' := 2) (ls' := [some (.inr a0), some (.inl i1), some (.inl i2), some (.inl i3)]) (st' := []) (M' := M) c_9 rfl).trans (t_i ?_ rfl)
  refine (ev_ns c_9 2 (ip' := 4) (ls' := [some (.inr a0), some (.inl i1), some (.inl i2), some (.inl i3)]) (st' := [.inl i1, .inr a0]) (M' := M) rfl).trans ?_
  refine (ev_g (h_k M a0 = 2) (ip' := 5) (ls' := [some (.inr a0), some (.inl i1), some (.inl i2), some (.inl i3)]) (st' := []) (M' := h_si M a0 0 i1) c_9 rfl).trans (t_i ?_ rfl)
  refine (ev_ns c_9 2 (ip' := 7) (ls' := [some (.inr a0), some (.inl i1), some (.inl i2), some (.inl i3)]) (st' := [.inl i2, .inr a0]) (M' := h_si M a0 0 i1) rfl).trans ?_
  refine (ev_g (h_k (h_si M a0 0 i1) a0 = 2) (ip' := 8) (ls' := [some (.inr a0), some (.inl i1), some (.inl i2), some (.inl i3)]) (st' := []) (M' := h_si (h_si M a0 0 i1) a0 1 i2) c_9 rfl).trans (t_i ?_ rfl)
  refine (ev_ns c_9 2 (ip' := 10) (ls' := [some (.inr a0), some (.inl i1), some (.inl i2), some (.inl i3)]) (st' := [.inl i3, .inr a0]) (M' := h_si (h_si M a0 0 i1) a0 1 i2) rfl).trans ?_
  refine (ev_g (h_k (h_si (h_si M a0 0 i1) a0 1 i2) a0 = 2) (ip' := 11) (ls' := [some (.inr a0), some (.inl i1), some (.inl i2), some (.inl i3)]) (st' := []) (M' := h_si (h_si (h_si M a0 0 i1) a0 1 i2) a0 2 i3) c_9 rfl).trans (t_i ?_ rfl)
  exact ev_d c_9 rfl
/- 10: GranuleHall$Entry.kind()I -/
set_option maxRecDepth 20000 in
theorem e_10_0 (a0 : Nat) (M : mM) : ev 10 0 [some (.inr a0)] [] M = if h_k M a0 = 2 then (if (h_r M a0 3) = 0 then (some (some (.inl 0), M)) else (if h_k M a0 = 2 then (if (h_r M a0 4) = 0 then (ev 10 11 [some (.inr a0)] [.inl 1] M) else (ev 10 11 [some (.inr a0)] [.inl 2] M)) else none)) else none := by
  refine (ev_ns c_10 1 (ip' := 1) (ls' := [some (.inr a0)]) (st' := [.inr a0]) (M' := M) rfl).trans ?_
  refine (ev_g (h_k M a0 = 2) (ip' := 2) (ls' := [some (.inr a0)]) (st' := [.inr (h_r M a0 3)]) (M' := M) c_10 rfl).trans (t_i ?_ rfl)
  refine (ev_i ((h_r M a0 3) = 0) (i1 := 3) (l1 := [some (.inr a0)]) (s1 := []) (M1 := M) (i2 := 5) (l2 := [some (.inr a0)]) (s2 := []) (M2 := M) c_10 rfl).trans (t_i ?_ ?_)
  · skip
    refine (ev_ns c_10 1 (ip' := 4) (ls' := [some (.inr a0)]) (st' := [.inl 0]) (M' := M) rfl).trans ?_
    exact ev_d c_10 rfl
  · skip
    refine (ev_ns c_10 1 (ip' := 6) (ls' := [some (.inr a0)]) (st' := [.inr a0]) (M' := M) rfl).trans ?_
    refine (ev_g (h_k M a0 = 2) (ip' := 7) (ls' := [some (.inr a0)]) (st' := [.inr (h_r M a0 4)]) (M' := M) c_10 rfl).trans (t_i ?_ rfl)
    refine (ev_i ((h_r M a0 4) = 0) (i1 := 8) (l1 := [some (.inr a0)]) (s1 := []) (M1 := M) (i2 := 10) (l2 := [some (.inr a0)]) (s2 := []) (M2 := M) c_10 rfl).trans (t_i ?_ ?_)
    · skip
      exact ev_ns c_10 2 (ip' := 11) (ls' := [some (.inr a0)]) (st' := [.inl 1]) (M' := M) rfl
    · skip
      exact ev_ns c_10 1 (ip' := 11) (ls' := [some (.inr a0)]) (st' := [.inl 2]) (M' := M) rfl
set_option maxRecDepth 20000 in
theorem e_10_11 (a0 : Nat) (s0 : Int32) (M : mM) : ev 10 11 [some (.inr a0)] [.inl s0] M = some (some (.inl s0), M) := by
  exact ev_d c_10 rfl
/- 11: GranuleHall$Entry.isUnassigned()Z -/
set_option maxRecDepth 20000 in
theorem e_11_0 (a0 : Nat) (M : mM) : ev 11 0 [some (.inr a0)] [] M = if h_k M a0 = 2 then (if (h_r M a0 3) = 0 then (ev 11 6 [some (.inr a0)] [.inl 1] M) else (ev 11 6 [some (.inr a0)] [.inl 0] M)) else none := by
  refine (ev_ns c_11 1 (ip' := 1) (ls' := [some (.inr a0)]) (st' := [.inr a0]) (M' := M) rfl).trans ?_
  refine (ev_g (h_k M a0 = 2) (ip' := 2) (ls' := [some (.inr a0)]) (st' := [.inr (h_r M a0 3)]) (M' := M) c_11 rfl).trans (t_i ?_ rfl)
  refine (ev_i ((h_r M a0 3) = 0) (i1 := 3) (l1 := [some (.inr a0)]) (s1 := []) (M1 := M) (i2 := 5) (l2 := [some (.inr a0)]) (s2 := []) (M2 := M) c_11 rfl).trans (t_i ?_ ?_)
  · skip
    exact ev_ns c_11 2 (ip' := 6) (ls' := [some (.inr a0)]) (st' := [.inl 1]) (M' := M) rfl
  · skip
    exact ev_ns c_11 1 (ip' := 6) (ls' := [some (.inr a0)]) (st' := [.inl 0]) (M' := M) rfl
set_option maxRecDepth 20000 in
theorem e_11_6 (a0 : Nat) (s0 : Int32) (M : mM) : ev 11 6 [some (.inr a0)] [.inl s0] M = if s0 = 0 ∨ s0 = 1 then some (some (.inl s0), M) else none := by
  exact ev_gd (s0 = 0 ∨ s0 = 1) c_11 rfl
/- 12: GranuleHall$Entry.isFreePage()Z -/
set_option maxRecDepth 20000 in
theorem e_12_0 (a0 : Nat) (M : mM) : ev 12 0 [some (.inr a0)] [] M = if h_k M a0 = 2 then (if (h_i M a0 0) = 3 then (if h_k M a0 = 2 then (if (h_r M a0 3) = 0 then (ev 12 10 [some (.inr a0)] [.inl 1] M) else (ev 12 9 [some (.inr a0)] [] M)) else none) else (ev 12 9 [some (.inr a0)] [] M)) else none := by
  refine (ev_ns c_12 1 (ip' := 1) (ls' := [some (.inr a0)]) (st' := [.inr a0]) (M' := M) rfl).trans ?_
  refine (ev_g (h_k M a0 = 2) (ip' := 2) (ls' := [some (.inr a0)]) (st' := [.inl (h_i M a0 0)]) (M' := M) c_12 rfl).trans (t_i ?_ rfl)
  refine (ev_ns c_12 1 (ip' := 3) (ls' := [some (.inr a0)]) (st' := [.inl 3, .inl (h_i M a0 0)]) (M' := M) rfl).trans ?_
  refine (ev_i ((h_i M a0 0) = 3) (i1 := 4) (l1 := [some (.inr a0)]) (s1 := []) (M1 := M) (i2 := 9) (l2 := [some (.inr a0)]) (s2 := []) (M2 := M) c_12 rfl).trans (t_i ?_ ?_)
  · skip
    refine (ev_ns c_12 1 (ip' := 5) (ls' := [some (.inr a0)]) (st' := [.inr a0]) (M' := M) rfl).trans ?_
    refine (ev_g (h_k M a0 = 2) (ip' := 6) (ls' := [some (.inr a0)]) (st' := [.inr (h_r M a0 3)]) (M' := M) c_12 rfl).trans (t_i ?_ rfl)
    refine (ev_i ((h_r M a0 3) = 0) (i1 := 7) (l1 := [some (.inr a0)]) (s1 := []) (M1 := M) (i2 := 9) (l2 := [some (.inr a0)]) (s2 := []) (M2 := M) c_12 rfl).trans (t_i ?_ ?_)
    · skip
      exact ev_ns c_12 2 (ip' := 10) (ls' := [some (.inr a0)]) (st' := [.inl 1]) (M' := M) rfl
    · skip
      exact rfl
  · skip
    exact rfl
set_option maxRecDepth 20000 in
theorem e_12_9 (a0 : Nat) (M : mM) : ev 12 9 [some (.inr a0)] [] M = ev 12 10 [some (.inr a0)] [.inl 0] M := by
  exact ev_ns c_12 1 (ip' := 10) (ls' := [some (.inr a0)]) (st' := [.inl 0]) (M' := M) rfl
set_option maxRecDepth 20000 in
theorem e_12_10 (a0 : Nat) (s0 : Int32) (M : mM) : ev 12 10 [some (.inr a0)] [.inl s0] M = if s0 = 0 ∨ s0 = 1 then some (some (.inl s0), M) else none := by
  exact ev_gd (s0 = 0 ∨ s0 = 1) c_12 rfl
/- 13: GranuleHall$Entry.behind()I -/
set_option maxRecDepth 20000 in
theorem e_13_0 (a0 : Nat) (M : mM) : ev 13 0 [some (.inr a0)] [] M = if h_k M a0 = 2 then (if h_k M a0 = 2 then (if (a_rec M 0 [.inl (h_i M a0 0)] = true ∧ ([.inl (h_i M a0 1)] : List mV).length ≤ 8) then (c_I (ev 88 0 [some (.inl (h_i M a0 0))] [] M) fun v_2 M_1 => some (some (.inl ((h_i M a0 1) + v_2)), M_1)) else none) else none) else none := by
  refine (ev_ns c_13 1 (ip' := 1) (ls' := [some (.inr a0)]) (st' := [.inr a0]) (M' := M) rfl).trans ?_
  refine (ev_g (h_k M a0 = 2) (ip' := 2) (ls' := [some (.inr a0)]) (st' := [.inl (h_i M a0 1)]) (M' := M) c_13 rfl).trans (t_i ?_ rfl)
  refine (ev_ns c_13 1 (ip' := 3) (ls' := [some (.inr a0)]) (st' := [.inr a0, .inl (h_i M a0 1)]) (M' := M) rfl).trans ?_
  refine (ev_g (h_k M a0 = 2) (ip' := 4) (ls' := [some (.inr a0)]) (st' := [.inl (h_i M a0 0), .inl (h_i M a0 1)]) (M' := M) c_13 rfl).trans (t_i ?_ rfl)
  refine (ev_gI (a_rec M 0 [.inl (h_i M a0 0)] = true ∧ ([.inl (h_i M a0 1)] : List mV).length ≤ 8) (as := [.inl (h_i M a0 0)]) (rr := [.inl (h_i M a0 1)]) c_13 c_88 rfl).trans (t_i (t_cI ?_) rfl)
  intro v_2 M_1
  refine (ev_ns c_13 1 (ip' := 6) (ls' := [some (.inr a0)]) (st' := [.inl ((h_i M a0 1) + v_2)]) (M' := M_1) rfl).trans ?_
  exact ev_d c_13 rfl
/- 14: GranuleHall$Entry.lead(LGranuleHall$Rtt;)V -/
set_option maxRecDepth 20000 in
theorem e_14_0 (a0 : Nat) (a1 : Nat) (M : mM) : ev 14 0 [some (.inr a0), some (.inr a1)] [] M = if h_k M a1 = 6 then (if h_k M a0 = 2 then (if h_k (h_sr M a0 3 (h_r M a1 0)) a0 = 2 then (if h_k (h_sr (h_sr M a0 3 (h_r M a1 0)) a0 4 a1) a0 = 2 then (some (none, h_si (h_sr (h_sr M a0 3 (h_r M a1 0)) a0 4 a1) a0 2 0)) else none) else none) else none) else none := by
  refine (ev_ns c_14 2 (ip' := 2) (ls' := [some (.inr a0), some (.inr a1)]) (st' := [.inr a1, .inr a0]) (M' := M) rfl).trans ?_
  refine (ev_g (h_k M a1 = 6) (ip' := 3) (ls' := [some (.inr a0), some (.inr a1)]) (st' := [.inr (h_r M a1 0), .inr a0]) (M' := M) c_14 rfl).trans (t_i ?_ rfl)
  refine (ev_g (h_k M a0 = 2) (ip' := 4) (ls' := [some (.inr a0), some (.inr a1)]) (st' := []) (M' := h_sr M a0 3 (h_r M a1 0)) c_14 rfl).trans (t_i ?_ rfl)
  refine (ev_ns c_14 2 (ip' := 6) (ls' := [some (.inr a0), some (.inr a1)]) (st' := [.inr a1, .inr a0]) (M' := h_sr M a0 3 (h_r M a1 0)) rfl).trans ?_
  refine (ev_g (h_k (h_sr M a0 3 (h_r M a1 0)) a0 = 2) (ip' := 7) (ls' := [some (.inr a0), some (.inr a1)]) (st' := []) (M' := h_sr (h_sr M a0 3 (h_r M a1 0)) a0 4 a1) c_14 rfl).trans (t_i ?_ rfl)
  refine (ev_ns c_14 2 (ip' := 9) (ls' := [some (.inr a0), some (.inr a1)]) (st' := [.inl 0, .inr a0]) (M' := h_sr (h_sr M a0 3 (h_r M a1 0)) a0 4 a1) rfl).trans ?_
  refine (ev_g (h_k (h_sr (h_sr M a0 3 (h_r M a1 0)) a0 4 a1) a0 = 2) (ip' := 10) (ls' := [some (.inr a0), some (.inr a1)]) (st' := []) (M' := h_si (h_sr (h_sr M a0 3 (h_r M a1 0)) a0 4 a1) a0 2 0) c_14 rfl).trans (t_i ?_ rfl)
  exact ev_d c_14 rfl
/- 15: GranuleHall$Entry.clear(I)V -/
set_option maxRecDepth 20000 in
theorem e_15_0 (a0 : Nat) (i1 : Int32) (M : mM) : ev 15 0 [some (.inr a0), some (.inl i1)] [] M = if h_k M a0 = 2 then (if h_k (h_sr M a0 3 0) a0 = 2 then (if h_k (h_sr (h_sr M a0 3 0) a0 4 0) a0 = 2 then (some (none, h_si (h_sr (h_sr M a0 3 0) a0 4 0) a0 2 i1)) else none) else none) else none := by
  refine (ev_ns c_15 2 (ip' := 2) (ls' := [some (.inr a0), some (.inl i1)]) (st' := [.inr 0, .inr a0]) (M' := M) rfl).trans ?_
  refine (ev_g (h_k M a0 = 2) (ip' := 3) (ls' := [some (.inr a0), some (.inl i1)]) (st' := []) (M' := h_sr M a0 3 0) c_15 rfl).trans (t_i ?_ rfl)
  refine (ev_ns c_15 2 (ip' := 5) (ls' := [some (.inr a0), some (.inl i1)]) (st' := [.inr 0, .inr a0]) (M' := h_sr M a0 3 0) rfl).trans ?_
  refine (ev_g (h_k (h_sr M a0 3 0) a0 = 2) (ip' := 6) (ls' := [some (.inr a0), some (.inl i1)]) (st' := []) (M' := h_sr (h_sr M a0 3 0) a0 4 0) c_15 rfl).trans (t_i ?_ rfl)
  refine (ev_ns c_15 2 (ip' := 8) (ls' := [some (.inr a0), some (.inl i1)]) (st' := [.inl i1, .inr a0]) (M' := h_sr (h_sr M a0 3 0) a0 4 0) rfl).trans ?_
  refine (ev_g (h_k (h_sr (h_sr M a0 3 0) a0 4 0) a0 = 2) (ip' := 9) (ls' := [some (.inr a0), some (.inl i1)]) (st' := []) (M' := h_si (h_sr (h_sr M a0 3 0) a0 4 0) a0 2 i1) c_15 rfl).trans (t_i ?_ rfl)
  exact ev_d c_15 rfl
/- 16: GranuleHall$Granule.<init>(I)V -/
set_option maxRecDepth 20000 in
theorem e_16_0 (a0 : Nat) (i1 : Int32) (M : mM) : ev 16 0 [some (.inr a0), some (.inl i1)] [] M = if ¬ a0 = 0 ∧ ([] : List mV).length ≤ 8 then (if ¬ (32 : Int32) < 0 ∧ 32 ≤ 100000 then (if h_k (h_al M 9 32) a0 = 3 then (if h_k (h_sr (h_al M 9 32) a0 1 (h_n M + 1)) a0 = 3 then (if h_k (h_si (h_sr (h_al M 9 32) a0 1 (h_n M + 1)) a0 4 (-1)) a0 = 3 then (some (none, h_si (h_si (h_sr (h_al M 9 32) a0 1 (h_n M + 1)) a0 4 (-1)) a0 0 i1)) else none) else none) else none) else none) else none := by
  refine (ev_ns c_16 1 (ip' := 1) (ls' := [some (.inr a0), some (.inl i1)]) (st' := [.inr a0]) (M' := M) rfl).trans ?_
  refine (ev_g (¬ a0 = 0 ∧ ([] : List mV).length ≤ 8) (ip' := 2) (ls' := [some (.inr a0), some (.inl i1)]) (st' := []) (M' := M) c_16 rfl).trans (t_i ?_ rfl)
  refine (ev_ns c_16 2 (ip' := 4) (ls' := [some (.inr a0), some (.inl i1)]) (st' := [.inl 32, .inr a0]) (M' := M) rfl).trans ?_
  refine (ev_g (¬ (32 : Int32) < 0 ∧ 32 ≤ 100000) (ip' := 5) (ls' := [some (.inr a0), some (.inl i1)]) (st' := [.inr (h_n M + 1), .inr a0]) (M' := h_al M 9 32) c_16 rfl).trans (t_i ?_ rfl)
  refine (ev_g (h_k (h_al M 9 32) a0 = 3) (ip' := 6) (ls' := [some (.inr a0), some (.inl i1)]) (st' := []) (M' := h_sr (h_al M 9 32) a0 1 (h_n M + 1)) c_16 rfl).trans (t_i ?_ rfl)
  refine (ev_ns c_16 2 (ip' := 8) (ls' := [some (.inr a0), some (.inl i1)]) (st' := [.inl (-1), .inr a0]) (M' := h_sr (h_al M 9 32) a0 1 (h_n M + 1)) rfl).trans ?_
  refine (ev_g (h_k (h_sr (h_al M 9 32) a0 1 (h_n M + 1)) a0 = 3) (ip' := 9) (ls' := [some (.inr a0), some (.inl i1)]) (st' := []) (M' := h_si (h_sr (h_al M 9 32) a0 1 (h_n M + 1)) a0 4 (-1)) c_16 rfl).trans (t_i ?_ rfl)
  refine (ev_ns c_16 2 (ip' := 11) (ls' := [some (.inr a0), some (.inl i1)]) (st' := [.inl i1, .inr a0]) (M' := h_si (h_sr (h_al M 9 32) a0 1 (h_n M + 1)) a0 4 (-1)) rfl).trans ?_
  refine (ev_g (h_k (h_si (h_sr (h_al M 9 32) a0 1 (h_n M + 1)) a0 4 (-1)) a0 = 3) (ip' := 12) (ls' := [some (.inr a0), some (.inl i1)]) (st' := []) (M' := h_si (h_si (h_sr (h_al M 9 32) a0 1 (h_n M + 1)) a0 4 (-1)) a0 0 i1) c_16 rfl).trans (t_i ?_ rfl)
  exact ev_d c_16 rfl
/- 17: GranuleHall$Granule.become(ILGranuleHall$Realm;I)V -/
set_option maxRecDepth 20000 in
theorem e_17_0 (a0 : Nat) (i1 : Int32) (a2 : Nat) (i3 : Int32) (M : mM) : ev 17 0 [some (.inr a0), some (.inl i1), some (.inr a2), some (.inl i3)] [] M = if h_k M a0 = 3 then (if h_k (h_si M a0 2 i1) a0 = 3 then (if h_k (h_sr (h_si M a0 2 i1) a0 3 a2) a0 = 3 then (if h_k (h_si (h_sr (h_si M a0 2 i1) a0 3 a2) a0 4 i3) a0 = 3 then (if h_k (h_sr (h_si (h_sr (h_si M a0 2 i1) a0 3 a2) a0 4 i3) a0 5 0) a0 = 3 then (if h_k (h_sr (h_sr (h_si (h_sr (h_si M a0 2 i1) a0 3 a2) a0 4 i3) a0 5 0) a0 6 0) a0 = 3 then (if (a_rec (h_sr (h_sr (h_si (h_sr (h_si M a0 2 i1) a0 3 a2) a0 4 i3) a0 5 0) a0 6 0) 0 [.inr (h_r (h_sr (h_sr (h_si (h_sr (h_si M a0 2 i1) a0 3 a2) a0 4 i3) a0 5 0) a0 6 0) a0 1), .inl 0] = true ∧ ([] : List mV).length ≤ 8) then (c_V (ev 183 0 [some (.inr (h_r (h_sr (h_sr (h_si (h_sr (h_si M a0 2 i1) a0 3 a2) a0 4 i3) a0 5 0) a0 6 0) a0 1)), some (.inl 0), none, none] [] (h_sr (h_sr (h_si (h_sr (h_si M a0 2 i1) a0 3 a2) a0 4 i3) a0 5 0) a0 6 0)) fun M_1 => some (none, M_1)) else none) else none) else none) else none) else none) else none) else none := by
  refine (ev_ns c_17 2 (ip' := 2) (ls' := [some (.inr a0), some (.inl i1), some (.inr a2), some (.inl i3)]) (st' := [.inl i1, .inr a0]) (M' := M) rfl).trans ?_
  refine (ev_g (h_k M a0 = 3) (ip' := 3) (ls' := [some (.inr a0), some (.inl i1), some (.inr a2), some (.inl i3)]) (st' := []) (M' := h_si M a0 2 i1) c_17 rfl).trans (t_i ?_ rfl)
  refine (ev_ns c_17 2 (ip' := 5) (ls' := [some (.inr a0), some (.inl i1), some (.inr a2), some (.inl i3)]) (st' := [.inr a2, .inr a0]) (M' := h_si M a0 2 i1) rfl).trans ?_
  refine (ev_g (h_k (h_si M a0 2 i1) a0 = 3) (ip' := 6) (ls' := [some (.inr a0), some (.inl i1), some (.inr a2), some (.inl i3)]) (st' := []) (M' := h_sr (h_si M a0 2 i1) a0 3 a2) c_17 rfl).trans (t_i ?_ rfl)
  refine (ev_ns c_17 2 (ip' := 8) (ls' := [some (.inr a0), some (.inl i1), some (.inr a2), some (.inl i3)]) (st' := [.inl i3, .inr a0]) (M' := h_sr (h_si M a0 2 i1) a0 3 a2) rfl).trans ?_
  refine (ev_g (h_k (h_sr (h_si M a0 2 i1) a0 3 a2) a0 = 3) (ip' := 9) (ls' := [some (.inr a0), some (.inl i1), some (.inr a2), some (.inl i3)]) (st' := []) (M' := h_si (h_sr (h_si M a0 2 i1) a0 3 a2) a0 4 i3) c_17 rfl).trans (t_i ?_ rfl)
  refine (ev_ns c_17 2 (ip' := 11) (ls' := [some (.inr a0), some (.inl i1), some (.inr a2), some (.inl i3)]) (st' := [.inr 0, .inr a0]) (M' := h_si (h_sr (h_si M a0 2 i1) a0 3 a2) a0 4 i3) rfl).trans ?_
  refine (ev_g (h_k (h_si (h_sr (h_si M a0 2 i1) a0 3 a2) a0 4 i3) a0 = 3) (ip' := 12) (ls' := [some (.inr a0), some (.inl i1), some (.inr a2), some (.inl i3)]) (st' := []) (M' := h_sr (h_si (h_sr (h_si M a0 2 i1) a0 3 a2) a0 4 i3) a0 5 0) c_17 rfl).trans (t_i ?_ rfl)
  refine (ev_ns c_17 2 (ip' := 14) (ls' := [some (.inr a0), some (.inl i1), some (.inr a2), some (.inl i3)]) (st' := [.inr 0, .inr a0]) (M' := h_sr (h_si (h_sr (h_si M a0 2 i1) a0 3 a2) a0 4 i3) a0 5 0) rfl).trans ?_
  refine (ev_g (h_k (h_sr (h_si (h_sr (h_si M a0 2 i1) a0 3 a2) a0 4 i3) a0 5 0) a0 = 3) (ip' := 15) (ls' := [some (.inr a0), some (.inl i1), some (.inr a2), some (.inl i3)]) (st' := []) (M' := h_sr (h_sr (h_si (h_sr (h_si M a0 2 i1) a0 3 a2) a0 4 i3) a0 5 0) a0 6 0) c_17 rfl).trans (t_i ?_ rfl)
  refine (ev_ns c_17 1 (ip' := 16) (ls' := [some (.inr a0), some (.inl i1), some (.inr a2), some (.inl i3)]) (st' := [.inr a0]) (M' := h_sr (h_sr (h_si (h_sr (h_si M a0 2 i1) a0 3 a2) a0 4 i3) a0 5 0) a0 6 0) rfl).trans ?_
  refine (ev_g (h_k (h_sr (h_sr (h_si (h_sr (h_si M a0 2 i1) a0 3 a2) a0 4 i3) a0 5 0) a0 6 0) a0 = 3) (ip' := 17) (ls' := [some (.inr a0), some (.inl i1), some (.inr a2), some (.inl i3)]) (st' := [.inr (h_r (h_sr (h_sr (h_si (h_sr (h_si M a0 2 i1) a0 3 a2) a0 4 i3) a0 5 0) a0 6 0) a0 1)]) (M' := h_sr (h_sr (h_si (h_sr (h_si M a0 2 i1) a0 3 a2) a0 4 i3) a0 5 0) a0 6 0) c_17 rfl).trans (t_i ?_ rfl)
  refine (ev_ns c_17 1 (ip' := 18) (ls' := [some (.inr a0), some (.inl i1), some (.inr a2), some (.inl i3)]) (st' := [.inl 0, .inr (h_r (h_sr (h_sr (h_si (h_sr (h_si M a0 2 i1) a0 3 a2) a0 4 i3) a0 5 0) a0 6 0) a0 1)]) (M' := h_sr (h_sr (h_si (h_sr (h_si M a0 2 i1) a0 3 a2) a0 4 i3) a0 5 0) a0 6 0) rfl).trans ?_
  refine (ev_gV (a_rec (h_sr (h_sr (h_si (h_sr (h_si M a0 2 i1) a0 3 a2) a0 4 i3) a0 5 0) a0 6 0) 0 [.inr (h_r (h_sr (h_sr (h_si (h_sr (h_si M a0 2 i1) a0 3 a2) a0 4 i3) a0 5 0) a0 6 0) a0 1), .inl 0] = true ∧ ([] : List mV).length ≤ 8) (as := [.inr (h_r (h_sr (h_sr (h_si (h_sr (h_si M a0 2 i1) a0 3 a2) a0 4 i3) a0 5 0) a0 6 0) a0 1), .inl 0]) (rr := []) c_17 c_183 rfl).trans (t_i (t_cV ?_) rfl)
  intro M_1
  exact ev_d c_17 rfl
/- 18: GranuleHall$Granule.becomeTable(LGranuleHall$Realm;LGranuleHall$Rtt;)V -/
set_option maxRecDepth 20000 in
theorem e_18_0 (a0 : Nat) (a1 : Nat) (a2 : Nat) (M : mM) : ev 18 0 [some (.inr a0), some (.inr a1), some (.inr a2)] [] M = if h_k M a2 = 6 then (if (a_rec M 3 [.inr a0, .inl 4, .inr a1, .inl (h_i M a2 1)] = true ∧ ([] : List mV).length ≤ 8) then (c_V (ev 17 0 [some (.inr a0), some (.inl 4), some (.inr a1), some (.inl (h_i M a2 1))] [] M) fun M_1 => if h_k M_1 a0 = 3 then (some (none, h_sr M_1 a0 6 a2)) else none) else none) else none := by
  refine (ev_ns c_18 4 (ip' := 4) (ls' := [some (.inr a0), some (.inr a1), some (.inr a2)]) (st' := [.inr a2, .inr a1, .inl 4, .inr a0]) (M' := M) rfl).trans ?_
  refine (ev_g (h_k M a2 = 6) (ip' := 5) (ls' := [some (.inr a0), some (.inr a1), some (.inr a2)]) (st' := [.inl (h_i M a2 1), .inr a1, .inl 4, .inr a0]) (M' := M) c_18 rfl).trans (t_i ?_ rfl)
  refine (ev_gV (a_rec M 3 [.inr a0, .inl 4, .inr a1, .inl (h_i M a2 1)] = true ∧ ([] : List mV).length ≤ 8) (as := [.inr a0, .inl 4, .inr a1, .inl (h_i M a2 1)]) (rr := []) c_18 c_17 rfl).trans (t_i (t_cV ?_) rfl)
  intro M_1
  refine (ev_ns c_18 2 (ip' := 8) (ls' := [some (.inr a0), some (.inr a1), some (.inr a2)]) (st' := [.inr a2, .inr a0]) (M' := M_1) rfl).trans ?_
  refine (ev_g (h_k M_1 a0 = 3) (ip' := 9) (ls' := [some (.inr a0), some (.inr a1), some (.inr a2)]) (st' := []) (M' := h_sr M_1 a0 6 a2) c_18 rfl).trans (t_i ?_ rfl)
  exact ev_d c_18 rfl
/- 19: GranuleHall$Granule.becomeRec(LGranuleHall$Rec;I)V -/
set_option maxRecDepth 20000 in
theorem e_19_0 (a0 : Nat) (a1 : Nat) (i2 : Int32) (M : mM) : ev 19 0 [some (.inr a0), some (.inr a1), some (.inl i2)] [] M = if h_k M a1 = 5 then (if (a_rec M 3 [.inr a0, .inl 3, .inr (h_r M a1 1), .inl i2] = true ∧ ([] : List mV).length ≤ 8) then (c_V (ev 17 0 [some (.inr a0), some (.inl 3), some (.inr (h_r M a1 1)), some (.inl i2)] [] M) fun M_1 => if h_k M_1 a0 = 3 then (some (none, h_sr M_1 a0 5 a1)) else none) else none) else none := by
  refine (ev_ns c_19 3 (ip' := 3) (ls' := [some (.inr a0), some (.inr a1), some (.inl i2)]) (st' := [.inr a1, .inl 3, .inr a0]) (M' := M) rfl).trans ?_
  refine (ev_g (h_k M a1 = 5) (ip' := 4) (ls' := [some (.inr a0), some (.inr a1), some (.inl i2)]) (st' := [.inr (h_r M a1 1), .inl 3, .inr a0]) (M' := M) c_19 rfl).trans (t_i ?_ rfl)
  refine (ev_ns c_19 1 (ip' := 5) (ls' := [some (.inr a0), some (.inr a1), some (.inl i2)]) (st' := [.inl i2, .inr (h_r M a1 1), .inl 3, .inr a0]) (M' := M) rfl).trans ?_
  refine (ev_gV (a_rec M 3 [.inr a0, .inl 3, .inr (h_r M a1 1), .inl i2] = true ∧ ([] : List mV).length ≤ 8) (as := [.inr a0, .inl 3, .inr (h_r M a1 1), .inl i2]) (rr := []) c_19 c_17 rfl).trans (t_i (t_cV ?_) rfl)
  intro M_1
  refine (ev_ns c_19 2 (ip' := 8) (ls' := [some (.inr a0), some (.inr a1), some (.inl i2)]) (st' := [.inr a1, .inr a0]) (M' := M_1) rfl).trans ?_
  refine (ev_g (h_k M_1 a0 = 3) (ip' := 9) (ls' := [some (.inr a0), some (.inr a1), some (.inl i2)]) (st' := []) (M' := h_sr M_1 a0 5 a1) c_19 rfl).trans (t_i ?_ rfl)
  exact ev_d c_19 rfl
/- 20: GranuleHall$Granule.ownRealm()LGranuleHall$Realm; -/
set_option maxRecDepth 20000 in
theorem e_20_0 (a0 : Nat) (M : mM) : ev 20 0 [some (.inr a0)] [] M = if h_k M a0 = 3 then (if (h_i M a0 2) = 2 then (if h_k M a0 = 3 then (ev 20 8 [some (.inr a0)] [.inr (h_r M a0 3)] M) else none) else (ev 20 8 [some (.inr a0)] [.inr 0] M)) else none := by
  refine (ev_ns c_20 1 (ip' := 1) (ls' := [some (.inr a0)]) (st' := [.inr a0]) (M' := M) rfl).trans ?_
  refine (ev_g (h_k M a0 = 3) (ip' := 2) (ls' := [some (.inr a0)]) (st' := [.inl (h_i M a0 2)]) (M' := M) c_20 rfl).trans (t_i ?_ rfl)
  refine (ev_ns c_20 1 (ip' := 3) (ls' := [some (.inr a0)]) (st' := [.inl 2, .inl (h_i M a0 2)]) (M' := M) rfl).trans ?_
  refine (ev_i ((h_i M a0 2) = 2) (i1 := 4) (l1 := [some (.inr a0)]) (s1 := []) (M1 := M) (i2 := 7) (l2 := [some (.inr a0)]) (s2 := []) (M2 := M) c_20 rfl).trans (t_i ?_ ?_)
  · skip
    refine (ev_ns c_20 1 (ip' := 5) (ls' := [some (.inr a0)]) (st' := [.inr a0]) (M' := M) rfl).trans ?_
    refine (ev_g (h_k M a0 = 3) (ip' := 6) (ls' := [some (.inr a0)]) (st' := [.inr (h_r M a0 3)]) (M' := M) c_20 rfl).trans (t_i ?_ rfl)
    exact ev_ns c_20 1 (ip' := 8) (ls' := [some (.inr a0)]) (st' := [.inr (h_r M a0 3)]) (M' := M) rfl
  · skip
    exact ev_ns c_20 1 (ip' := 8) (ls' := [some (.inr a0)]) (st' := [.inr 0]) (M' := M) rfl
set_option maxRecDepth 20000 in
theorem e_20_8 (a0 : Nat) (t0 : Nat) (M : mM) : ev 20 8 [some (.inr a0)] [.inr t0] M = some (some (.inr t0), M) := by
  exact ev_d c_20 rfl
/- 21: GranuleHall$Realm.<init>(LGranuleHall$Granule;LGranuleHall$Rtt;)V -/
set_option maxRecDepth 20000 in
theorem e_21_0 (a0 : Nat) (a1 : Nat) (a2 : Nat) (M : mM) : ev 21 0 [some (.inr a0), some (.inr a1), some (.inr a2)] [] M = if ¬ a0 = 0 ∧ ([] : List mV).length ≤ 8 then (if (5 : Int32) = 5 ∧ (8 : Int32) = 8 then (if h_k (h_mn M 5 8) a0 = 4 then (if h_k (h_sr (h_mn M 5 8) a0 2 (h_n M + 1)) a0 = 4 then (if h_k (h_si (h_sr (h_mn M 5 8) a0 2 (h_n M + 1)) a0 3 0) a0 = 4 then (if h_k (h_si (h_si (h_sr (h_mn M 5 8) a0 2 (h_n M + 1)) a0 3 0) a0 6 1) a0 = 4 then (if h_k (h_sr (h_si (h_si (h_sr (h_mn M 5 8) a0 2 (h_n M + 1)) a0 3 0) a0 6 1) a0 0 a1) a0 = 4 then (some (none, h_sr (h_sr (h_si (h_si (h_sr (h_mn M 5 8) a0 2 (h_n M + 1)) a0 3 0) a0 6 1) a0 0 a1) a0 1 a2)) else none) else none) else none) else none) else none) else none) else none := by
  refine (ev_ns c_21 1 (ip' := 1) (ls' := [some (.inr a0), some (.inr a1), some (.inr a2)]) (st' := [.inr a0]) (M' := M) rfl).trans ?_
  refine (ev_g (¬ a0 = 0 ∧ ([] : List mV).length ≤ 8) (ip' := 2) (ls' := [some (.inr a0), some (.inr a1), some (.inr a2)]) (st' := []) (M' := M) c_21 rfl).trans (t_i ?_ rfl)
  refine (ev_ns c_21 3 (ip' := 5) (ls' := [some (.inr a0), some (.inr a1), some (.inr a2)]) (st' := [.inl 8, .inl 5, .inr a0]) (M' := M) rfl).trans ?_
  refine (ev_g ((5 : Int32) = 5 ∧ (8 : Int32) = 8) (ip' := 6) (ls' := [some (.inr a0), some (.inr a1), some (.inr a2)]) (st' := [.inr (h_n M + 1), .inr a0]) (M' := h_mn M 5 8) c_21 rfl).trans (t_i ?_ rfl)
  refine (ev_g (h_k (h_mn M 5 8) a0 = 4) (ip' := 7) (ls' := [some (.inr a0), some (.inr a1), some (.inr a2)]) (st' := []) (M' := h_sr (h_mn M 5 8) a0 2 (h_n M + 1)) c_21 rfl).trans (t_i ?_ rfl)
  refine (ev_ns c_21 2 (ip' := 9) (ls' := [some (.inr a0), some (.inr a1), some (.inr a2)]) (st' := [.inl 0, .inr a0]) (M' := h_sr (h_mn M 5 8) a0 2 (h_n M + 1)) rfl).trans ?_
  refine (ev_g (h_k (h_sr (h_mn M 5 8) a0 2 (h_n M + 1)) a0 = 4) (ip' := 10) (ls' := [some (.inr a0), some (.inr a1), some (.inr a2)]) (st' := []) (M' := h_si (h_sr (h_mn M 5 8) a0 2 (h_n M + 1)) a0 3 0) c_21 rfl).trans (t_i ?_ rfl)
  refine (ev_ns c_21 2 (ip' := 12) (ls' := [some (.inr a0), some (.inr a1), some (.inr a2)]) (st' := [.inl 1, .inr a0]) (M' := h_si (h_sr (h_mn M 5 8) a0 2 (h_n M + 1)) a0 3 0) rfl).trans ?_
  refine (ev_g (h_k (h_si (h_sr (h_mn M 5 8) a0 2 (h_n M + 1)) a0 3 0) a0 = 4) (ip' := 13) (ls' := [some (.inr a0), some (.inr a1), some (.inr a2)]) (st' := []) (M' := h_si (h_si (h_sr (h_mn M 5 8) a0 2 (h_n M + 1)) a0 3 0) a0 6 1) c_21 rfl).trans (t_i ?_ rfl)
  refine (ev_ns c_21 2 (ip' := 15) (ls' := [some (.inr a0), some (.inr a1), some (.inr a2)]) (st' := [.inr a1, .inr a0]) (M' := h_si (h_si (h_sr (h_mn M 5 8) a0 2 (h_n M + 1)) a0 3 0) a0 6 1) rfl).trans ?_
  refine (ev_g (h_k (h_si (h_si (h_sr (h_mn M 5 8) a0 2 (h_n M + 1)) a0 3 0) a0 6 1) a0 = 4) (ip' := 16) (ls' := [some (.inr a0), some (.inr a1), some (.inr a2)]) (st' := []) (M' := h_sr (h_si (h_si (h_sr (h_mn M 5 8) a0 2 (h_n M + 1)) a0 3 0) a0 6 1) a0 0 a1) c_21 rfl).trans (t_i ?_ rfl)
  refine (ev_ns c_21 2 (ip' := 18) (ls' := [some (.inr a0), some (.inr a1), some (.inr a2)]) (st' := [.inr a2, .inr a0]) (M' := h_sr (h_si (h_si (h_sr (h_mn M 5 8) a0 2 (h_n M + 1)) a0 3 0) a0 6 1) a0 0 a1) rfl).trans ?_
  refine (ev_g (h_k (h_sr (h_si (h_si (h_sr (h_mn M 5 8) a0 2 (h_n M + 1)) a0 3 0) a0 6 1) a0 0 a1) a0 = 4) (ip' := 19) (ls' := [some (.inr a0), some (.inr a1), some (.inr a2)]) (st' := []) (M' := h_sr (h_sr (h_si (h_si (h_sr (h_mn M 5 8) a0 2 (h_n M + 1)) a0 3 0) a0 6 1) a0 0 a1) a0 1 a2) c_21 rfl).trans (t_i ?_ rfl)
  exact ev_d c_21 rfl
/- 22: GranuleHall$Realm.rim()[I -/
set_option maxRecDepth 20000 in
theorem e_22_0 (a0 : Nat) (M : mM) : ev 22 0 [some (.inr a0)] [] M = if h_k M a0 = 4 then (if (h_k M (h_r M a0 2) = 11 ∨ h_k M (h_r M a0 2) = 12 ∨ h_k M (h_r M a0 2) = 13) ∧ h_in 0 (h_l M (h_r M a0 2)) then (some (some (.inr (h_r M (h_r M a0 2) 0)), M)) else none) else none := by
  refine (ev_ns c_22 1 (ip' := 1) (ls' := [some (.inr a0)]) (st' := [.inr a0]) (M' := M) rfl).trans ?_
  refine (ev_g (h_k M a0 = 4) (ip' := 2) (ls' := [some (.inr a0)]) (st' := [.inr (h_r M a0 2)]) (M' := M) c_22 rfl).trans (t_i ?_ rfl)
  refine (ev_ns c_22 1 (ip' := 3) (ls' := [some (.inr a0)]) (st' := [.inl 0, .inr (h_r M a0 2)]) (M' := M) rfl).trans ?_
  refine (ev_g ((h_k M (h_r M a0 2) = 11 ∨ h_k M (h_r M a0 2) = 12 ∨ h_k M (h_r M a0 2) = 13) ∧ h_in 0 (h_l M (h_r M a0 2))) (ip' := 4) (ls' := [some (.inr a0)]) (st' := [.inr (h_r M (h_r M a0 2) 0)]) (M' := M) c_22 rfl).trans (t_i ?_ rfl)
  exact ev_d c_22 rfl
/- 23: GranuleHall$Realm.entryAt(II)LGranuleHall$Entry; -/
set_option maxRecDepth 20000 in
theorem e_23_0 (a0 : Nat) (i1 : Int32) (i2 : Int32) (M : mM) : ev 23 0 [some (.inr a0), some (.inl i1), some (.inl i2), none, none] [] M = if h_k M a0 = 4 then (if (a_rec M 6 [.inr (h_r M a0 1), .inl i1] = true ∧ ([] : List mV).length ≤ 8) then (c_R (ev 28 0 [some (.inr (h_r M a0 1)), some (.inl i1)] [] M) fun u_2 M_1 => ev 23 7 [some (.inr a0), some (.inl i1), some (.inl i2), some (.inr u_2), some (.inl 0)] [] M_1) else none) else none := by
  refine (ev_ns c_23 1 (ip' := 1) (ls' := [some (.inr a0), some (.inl i1), some (.inl i2), none, none]) (st' := [.inr a0]) (M' := M) rfl).trans ?_
  refine (ev_g (h_k M a0 = 4) (ip' := 2) (ls' := [some (.inr a0), some (.inl i1), some (.inl i2), none, none]) (st' := [.inr (h_r M a0 1)]) (M' := M) c_23 rfl).trans (t_i ?_ rfl)
  refine (ev_ns c_23 1 (ip' := 3) (ls' := [some (.inr a0), some (.inl i1), some (.inl i2), none, none]) (st' := [.inl i1, .inr (h_r M a0 1)]) (M' := M) rfl).trans ?_
  refine (ev_gR (a_rec M 6 [.inr (h_r M a0 1), .inl i1] = true ∧ ([] : List mV).length ≤ 8) (as := [.inr (h_r M a0 1), .inl i1]) (rr := []) c_23 c_28 rfl).trans (t_i (t_cR ?_) rfl)
  intro u_2 M_1
  exact ev_ns c_23 3 (ip' := 7) (ls' := [some (.inr a0), some (.inl i1), some (.inl i2), some (.inr u_2), some (.inl 0)]) (st' := []) (M' := M_1) rfl
set_option maxRecDepth 20000 in
theorem e_23_7 (a0 : Nat) (i1 : Int32) (i2 : Int32) (a3 : Nat) (i4 : Int32) (M : mM) : ev 23 7 [some (.inr a0), some (.inl i1), some (.inl i2), some (.inr a3), some (.inl i4)] [] M = if i2 ≤ i4 then (ev 23 20 [some (.inr a0), some (.inl i1), some (.inl i2), some (.inr a3), some (.inl i4)] [] M) else (if h_k M a3 = 2 then (if (h_r M a3 4) = 0 then (ev 23 20 [some (.inr a0), some (.inl i1), some (.inl i2), some (.inr a3), some (.inl i4)] [] M) else (if h_k M a3 = 2 then (if (a_rec M 6 [.inr (h_r M a3 4), .inl i1] = true ∧ ([] : List mV).length ≤ 8) then (c_R (ev 28 0 [some (.inr (h_r M a3 4)), some (.inl i1)] [] M) fun u_2 M_1 => ev 23 7 [some (.inr a0), some (.inl i1), some (.inl i2), some (.inr u_2), some (.inl (i4 + 1))] [] M_1) else none) else none)) else none) := by
  refine (ev_ns c_23 2 (ip' := 9) (ls' := [some (.inr a0), some (.inl i1), some (.inl i2), some (.inr a3), some (.inl i4)]) (st' := [.inl i2, .inl i4]) (M' := M) rfl).trans ?_
  refine (ev_i (i2 ≤ i4) (i1 := 20) (l1 := [some (.inr a0), some (.inl i1), some (.inl i2), some (.inr a3), some (.inl i4)]) (s1 := []) (M1 := M) (i2 := 10) (l2 := [some (.inr a0), some (.inl i1), some (.inl i2), some (.inr a3), some (.inl i4)]) (s2 := []) (M2 := M) c_23 rfl).trans (t_i ?_ ?_)
  · skip
    exact rfl
  · skip
    refine (ev_ns c_23 1 (ip' := 11) (ls' := [some (.inr a0), some (.inl i1), some (.inl i2), some (.inr a3), some (.inl i4)]) (st' := [.inr a3]) (M' := M) rfl).trans ?_
    refine (ev_g (h_k M a3 = 2) (ip' := 12) (ls' := [some (.inr a0), some (.inl i1), some (.inl i2), some (.inr a3), some (.inl i4)]) (st' := [.inr (h_r M a3 4)]) (M' := M) c_23 rfl).trans (t_i ?_ rfl)
    refine (ev_i ((h_r M a3 4) = 0) (i1 := 20) (l1 := [some (.inr a0), some (.inl i1), some (.inl i2), some (.inr a3), some (.inl i4)]) (s1 := []) (M1 := M) (i2 := 13) (l2 := [some (.inr a0), some (.inl i1), some (.inl i2), some (.inr a3), some (.inl i4)]) (s2 := []) (M2 := M) c_23 rfl).trans (t_i ?_ ?_)
    · skip
      exact rfl
    · skip
      refine (ev_ns c_23 1 (ip' := 14) (ls' := [some (.inr a0), some (.inl i1), some (.inl i2), some (.inr a3), some (.inl i4)]) (st' := [.inr a3]) (M' := M) rfl).trans ?_
      refine (ev_g (h_k M a3 = 2) (ip' := 15) (ls' := [some (.inr a0), some (.inl i1), some (.inl i2), some (.inr a3), some (.inl i4)]) (st' := [.inr (h_r M a3 4)]) (M' := M) c_23 rfl).trans (t_i ?_ rfl)
      refine (ev_ns c_23 1 (ip' := 16) (ls' := [some (.inr a0), some (.inl i1), some (.inl i2), some (.inr a3), some (.inl i4)]) (st' := [.inl i1, .inr (h_r M a3 4)]) (M' := M) rfl).trans ?_
      refine (ev_gR (a_rec M 6 [.inr (h_r M a3 4), .inl i1] = true ∧ ([] : List mV).length ≤ 8) (as := [.inr (h_r M a3 4), .inl i1]) (rr := []) c_23 c_28 rfl).trans (t_i (t_cR ?_) rfl)
      intro u_2 M_1
      exact ev_ns c_23 3 (ip' := 7) (ls' := [some (.inr a0), some (.inl i1), some (.inl i2), some (.inr u_2), some (.inl (i4 + 1))]) (st' := []) (M' := M_1) rfl
set_option maxRecDepth 20000 in
theorem e_23_20 (a0 : Nat) (i1 : Int32) (i2 : Int32) (a3 : Nat) (i4 : Int32) (M : mM) : ev 23 20 [some (.inr a0), some (.inl i1), some (.inl i2), some (.inr a3), some (.inl i4)] [] M = some (some (.inr a3), M) := by
  refine (ev_ns c_23 1 (ip' := 21) (ls' := [some (.inr a0), some (.inl i1), some (.inl i2), some (.inr a3), some (.inl i4)]) (st' := [.inr a3]) (M' := M) rfl).trans ?_
  exact ev_d c_23 rfl
/- 24: GranuleHall$Realm.leafOf(I)LGranuleHall$Entry; -/
set_option maxRecDepth 20000 in
theorem e_24_0 (a0 : Nat) (i1 : Int32) (M : mM) : ev 24 0 [some (.inr a0), some (.inl i1)] [] M = if (a_rec M 4 [.inr a0, .inl i1, .inl 3] = true ∧ ([] : List mV).length ≤ 8) then (c_R (ev 23 0 [some (.inr a0), some (.inl i1), some (.inl 3), none, none] [] M) fun u_2 M_1 => some (some (.inr u_2), M_1)) else none := by
  refine (ev_ns c_24 3 (ip' := 3) (ls' := [some (.inr a0), some (.inl i1)]) (st' := [.inl 3, .inl i1, .inr a0]) (M' := M) rfl).trans ?_
  refine (ev_gR (a_rec M 4 [.inr a0, .inl i1, .inl 3] = true ∧ ([] : List mV).length ≤ 8) (as := [.inr a0, .inl i1, .inl 3]) (rr := []) c_24 c_23 rfl).trans (t_i (t_cR ?_) rfl)
  intro u_2 M_1
  exact ev_d c_24 rfl
/- 25: GranuleHall$Rec.<init>(LGranuleHall$Granule;LGranuleHall$Realm;Z)V -/
set_option maxRecDepth 20000 in
theorem e_25_0 (a0 : Nat) (a1 : Nat) (a2 : Nat) (i3 : Int32) (M : mM) : ev 25 0 [some (.inr a0), some (.inr a1), some (.inr a2), some (.inl i3)] [] M = if ¬ a0 = 0 ∧ ([] : List mV).length ≤ 8 then (if ¬ (8 : Int32) < 0 ∧ 8 ≤ 100000 then (if h_k (h_al M 9 8) a0 = 5 then (if h_k (h_sr (h_al M 9 8) a0 3 (h_n M + 1)) a0 = 5 then (if h_k (h_si (h_sr (h_al M 9 8) a0 3 (h_n M + 1)) a0 4 0) a0 = 5 then (if h_k (h_sr (h_si (h_sr (h_al M 9 8) a0 3 (h_n M + 1)) a0 4 0) a0 0 a1) a0 = 5 then (if h_k (h_sr (h_sr (h_si (h_sr (h_al M 9 8) a0 3 (h_n M + 1)) a0 4 0) a0 0 a1) a0 1 a2) a0 = 5 ∧ (i3 = 0 ∨ i3 = 1) then (some (none, h_si (h_sr (h_sr (h_si (h_sr (h_al M 9 8) a0 3 (h_n M + 1)) a0 4 0) a0 0 a1) a0 1 a2) a0 2 i3)) else none) else none) else none) else none) else none) else none) else none := by
  refine (ev_ns c_25 1 (ip' := 1) (ls' := [some (.inr a0), some (.inr a1), some (.inr a2), some (.inl i3)]) (st' := [.inr a0]) (M' := M) rfl).trans ?_
  refine (ev_g (¬ a0 = 0 ∧ ([] : List mV).length ≤ 8) (ip' := 2) (ls' := [some (.inr a0), some (.inr a1), some (.inr a2), some (.inl i3)]) (st' := []) (M' := M) c_25 rfl).trans (t_i ?_ rfl)
  refine (ev_ns c_25 2 (ip' := 4) (ls' := [some (.inr a0), some (.inr a1), some (.inr a2), some (.inl i3)]) (st' := [.inl 8, .inr a0]) (M' := M) rfl).trans ?_
  refine (ev_g (¬ (8 : Int32) < 0 ∧ 8 ≤ 100000) (ip' := 5) (ls' := [some (.inr a0), some (.inr a1), some (.inr a2), some (.inl i3)]) (st' := [.inr (h_n M + 1), .inr a0]) (M' := h_al M 9 8) c_25 rfl).trans (t_i ?_ rfl)
  refine (ev_g (h_k (h_al M 9 8) a0 = 5) (ip' := 6) (ls' := [some (.inr a0), some (.inr a1), some (.inr a2), some (.inl i3)]) (st' := []) (M' := h_sr (h_al M 9 8) a0 3 (h_n M + 1)) c_25 rfl).trans (t_i ?_ rfl)
  refine (ev_ns c_25 2 (ip' := 8) (ls' := [some (.inr a0), some (.inr a1), some (.inr a2), some (.inl i3)]) (st' := [.inl 0, .inr a0]) (M' := h_sr (h_al M 9 8) a0 3 (h_n M + 1)) rfl).trans ?_
  refine (ev_g (h_k (h_sr (h_al M 9 8) a0 3 (h_n M + 1)) a0 = 5) (ip' := 9) (ls' := [some (.inr a0), some (.inr a1), some (.inr a2), some (.inl i3)]) (st' := []) (M' := h_si (h_sr (h_al M 9 8) a0 3 (h_n M + 1)) a0 4 0) c_25 rfl).trans (t_i ?_ rfl)
  refine (ev_ns c_25 2 (ip' := 11) (ls' := [some (.inr a0), some (.inr a1), some (.inr a2), some (.inl i3)]) (st' := [.inr a1, .inr a0]) (M' := h_si (h_sr (h_al M 9 8) a0 3 (h_n M + 1)) a0 4 0) rfl).trans ?_
  refine (ev_g (h_k (h_si (h_sr (h_al M 9 8) a0 3 (h_n M + 1)) a0 4 0) a0 = 5) (ip' := 12) (ls' := [some (.inr a0), some (.inr a1), some (.inr a2), some (.inl i3)]) (st' := []) (M' := h_sr (h_si (h_sr (h_al M 9 8) a0 3 (h_n M + 1)) a0 4 0) a0 0 a1) c_25 rfl).trans (t_i ?_ rfl)
  refine (ev_ns c_25 2 (ip' := 14) (ls' := [some (.inr a0), some (.inr a1), some (.inr a2), some (.inl i3)]) (st' := [.inr a2, .inr a0]) (M' := h_sr (h_si (h_sr (h_al M 9 8) a0 3 (h_n M + 1)) a0 4 0) a0 0 a1) rfl).trans ?_
  refine (ev_g (h_k (h_sr (h_si (h_sr (h_al M 9 8) a0 3 (h_n M + 1)) a0 4 0) a0 0 a1) a0 = 5) (ip' := 15) (ls' := [some (.inr a0), some (.inr a1), some (.inr a2), some (.inl i3)]) (st' := []) (M' := h_sr (h_sr (h_si (h_sr (h_al M 9 8) a0 3 (h_n M + 1)) a0 4 0) a0 0 a1) a0 1 a2) c_25 rfl).trans (t_i ?_ rfl)
  refine (ev_ns c_25 2 (ip' := 17) (ls' := [some (.inr a0), some (.inr a1), some (.inr a2), some (.inl i3)]) (st' := [.inl i3, .inr a0]) (M' := h_sr (h_sr (h_si (h_sr (h_al M 9 8) a0 3 (h_n M + 1)) a0 4 0) a0 0 a1) a0 1 a2) rfl).trans ?_
  refine (ev_g (h_k (h_sr (h_sr (h_si (h_sr (h_al M 9 8) a0 3 (h_n M + 1)) a0 4 0) a0 0 a1) a0 1 a2) a0 = 5 ∧ (i3 = 0 ∨ i3 = 1)) (ip' := 18) (ls' := [some (.inr a0), some (.inr a1), some (.inr a2), some (.inl i3)]) (st' := []) (M' := h_si (h_sr (h_sr (h_si (h_sr (h_al M 9 8) a0 3 (h_n M + 1)) a0 4 0) a0 0 a1) a0 1 a2) a0 2 i3) c_25 rfl).trans (t_i ?_ rfl)
  exact ev_d c_25 rfl
/- 26: GranuleHall$Rec.openRun()LGranuleHall$Granule; -/
set_option maxRecDepth 20000 in
theorem e_26_0 (a0 : Nat) (M : mM) : ev 26 0 [some (.inr a0)] [] M = if h_k M a0 = 5 then (if (h_r M a0 9) = 0 then (ev 26 10 [some (.inr a0)] [] M) else (if h_k M a0 = 5 then (if h_k M (h_r M a0 9) = 3 then (if (h_i M (h_r M a0 9) 2) = 0 then (if h_k M a0 = 5 then (ev 26 11 [some (.inr a0)] [.inr (h_r M a0 9)] M) else none) else (ev 26 10 [some (.inr a0)] [] M)) else none) else none)) else none := by
  refine (ev_ns c_26 1 (ip' := 1) (ls' := [some (.inr a0)]) (st' := [.inr a0]) (M' := M) rfl).trans ?_
  refine (ev_g (h_k M a0 = 5) (ip' := 2) (ls' := [some (.inr a0)]) (st' := [.inr (h_r M a0 9)]) (M' := M) c_26 rfl).trans (t_i ?_ rfl)
  refine (ev_i ((h_r M a0 9) = 0) (i1 := 10) (l1 := [some (.inr a0)]) (s1 := []) (M1 := M) (i2 := 3) (l2 := [some (.inr a0)]) (s2 := []) (M2 := M) c_26 rfl).trans (t_i ?_ ?_)
  · skip
    exact rfl
  · skip
    refine (ev_ns c_26 1 (ip' := 4) (ls' := [some (.inr a0)]) (st' := [.inr a0]) (M' := M) rfl).trans ?_
    refine (ev_g (h_k M a0 = 5) (ip' := 5) (ls' := [some (.inr a0)]) (st' := [.inr (h_r M a0 9)]) (M' := M) c_26 rfl).trans (t_i ?_ rfl)
    refine (ev_g (h_k M (h_r M a0 9) = 3) (ip' := 6) (ls' := [some (.inr a0)]) (st' := [.inl (h_i M (h_r M a0 9) 2)]) (M' := M) c_26 rfl).trans (t_i ?_ rfl)
    refine (ev_i ((h_i M (h_r M a0 9) 2) = 0) (i1 := 7) (l1 := [some (.inr a0)]) (s1 := []) (M1 := M) (i2 := 10) (l2 := [some (.inr a0)]) (s2 := []) (M2 := M) c_26 rfl).trans (t_i ?_ ?_)
    · skip
      refine (ev_ns c_26 1 (ip' := 8) (ls' := [some (.inr a0)]) (st' := [.inr a0]) (M' := M) rfl).trans ?_
      refine (ev_g (h_k M a0 = 5) (ip' := 9) (ls' := [some (.inr a0)]) (st' := [.inr (h_r M a0 9)]) (M' := M) c_26 rfl).trans (t_i ?_ rfl)
      exact ev_ns c_26 1 (ip' := 11) (ls' := [some (.inr a0)]) (st' := [.inr (h_r M a0 9)]) (M' := M) rfl
    · skip
      exact rfl
set_option maxRecDepth 20000 in
theorem e_26_10 (a0 : Nat) (M : mM) : ev 26 10 [some (.inr a0)] [] M = ev 26 11 [some (.inr a0)] [.inr 0] M := by
  exact ev_ns c_26 1 (ip' := 11) (ls' := [some (.inr a0)]) (st' := [.inr 0]) (M' := M) rfl
set_option maxRecDepth 20000 in
theorem e_26_11 (a0 : Nat) (t0 : Nat) (M : mM) : ev 26 11 [some (.inr a0)] [.inr t0] M = some (some (.inr t0), M) := by
  exact ev_d c_26 rfl
/- 27: GranuleHall$Rtt.<init>(LGranuleHall$Granule;III)V -/
set_option maxRecDepth 20000 in
theorem e_27_0 (a0 : Nat) (a1 : Nat) (i2 : Int32) (i3 : Int32) (i4 : Int32) (M : mM) : ev 27 0 [some (.inr a0), some (.inr a1), some (.inl i2), some (.inl i3), some (.inl i4), none] [] M = if ¬ a0 = 0 ∧ ([] : List mV).length ≤ 8 then (if ¬ (8 : Int32) < 0 ∧ 8 ≤ 100000 then (if h_k (h_al M 12 8) a0 = 6 then (if h_k (h_sr (h_al M 12 8) a0 2 (h_n M + 1)) a0 = 6 then (if h_k (h_sr (h_sr (h_al M 12 8) a0 2 (h_n M + 1)) a0 0 a1) a0 = 6 then (ev 27 14 [some (.inr a0), some (.inr a1), some (.inl i2), some (.inl i3), some (.inl i4), some (.inl 0)] [] (h_si (h_sr (h_sr (h_al M 12 8) a0 2 (h_n M + 1)) a0 0 a1) a0 1 i2)) else none) else none) else none) else none) else none := by
  refine (ev_ns c_27 1 (ip' := 1) (ls' := [some (.inr a0), some (.inr a1), some (.inl i2), some (.inl i3), some (.inl i4), none]) (st' := [.inr a0]) (M' := M) rfl).trans ?_
  refine (ev_g (¬ a0 = 0 ∧ ([] : List mV).length ≤ 8) (ip' := 2) (ls' := [some (.inr a0), some (.inr a1), some (.inl i2), some (.inl i3), some (.inl i4), none]) (st' := []) (M' := M) c_27 rfl).trans (t_i ?_ rfl)
  refine (ev_ns c_27 2 (ip' := 4) (ls' := [some (.inr a0), some (.inr a1), some (.inl i2), some (.inl i3), some (.inl i4), none]) (st' := [.inl 8, .inr a0]) (M' := M) rfl).trans ?_
  refine (ev_g (¬ (8 : Int32) < 0 ∧ 8 ≤ 100000) (ip' := 5) (ls' := [some (.inr a0), some (.inr a1), some (.inl i2), some (.inl i3), some (.inl i4), none]) (st' := [.inr (h_n M + 1), .inr a0]) (M' := h_al M 12 8) c_27 rfl).trans (t_i ?_ rfl)
  refine (ev_g (h_k (h_al M 12 8) a0 = 6) (ip' := 6) (ls' := [some (.inr a0), some (.inr a1), some (.inl i2), some (.inl i3), some (.inl i4), none]) (st' := []) (M' := h_sr (h_al M 12 8) a0 2 (h_n M + 1)) c_27 rfl).trans (t_i ?_ rfl)
  refine (ev_ns c_27 2 (ip' := 8) (ls' := [some (.inr a0), some (.inr a1), some (.inl i2), some (.inl i3), some (.inl i4), none]) (st' := [.inr a1, .inr a0]) (M' := h_sr (h_al M 12 8) a0 2 (h_n M + 1)) rfl).trans ?_
  refine (ev_g (h_k (h_sr (h_al M 12 8) a0 2 (h_n M + 1)) a0 = 6) (ip' := 9) (ls' := [some (.inr a0), some (.inr a1), some (.inl i2), some (.inl i3), some (.inl i4), none]) (st' := []) (M' := h_sr (h_sr (h_al M 12 8) a0 2 (h_n M + 1)) a0 0 a1) c_27 rfl).trans (t_i ?_ rfl)
  refine (ev_ns c_27 2 (ip' := 11) (ls' := [some (.inr a0), some (.inr a1), some (.inl i2), some (.inl i3), some (.inl i4), none]) (st' := [.inl i2, .inr a0]) (M' := h_sr (h_sr (h_al M 12 8) a0 2 (h_n M + 1)) a0 0 a1) rfl).trans ?_
  refine (ev_g (h_k (h_sr (h_sr (h_al M 12 8) a0 2 (h_n M + 1)) a0 0 a1) a0 = 6) (ip' := 12) (ls' := [some (.inr a0), some (.inr a1), some (.inl i2), some (.inl i3), some (.inl i4), none]) (st' := []) (M' := h_si (h_sr (h_sr (h_al M 12 8) a0 2 (h_n M + 1)) a0 0 a1) a0 1 i2) c_27 rfl).trans (t_i ?_ rfl)
  exact ev_ns c_27 2 (ip' := 14) (ls' := [some (.inr a0), some (.inr a1), some (.inl i2), some (.inl i3), some (.inl i4), some (.inl 0)]) (st' := []) (M' := h_si (h_sr (h_sr (h_al M 12 8) a0 2 (h_n M + 1)) a0 0 a1) a0 1 i2) rfl
set_option maxRecDepth 20000 in
theorem e_27_14 (a0 : Nat) (a1 : Nat) (i2 : Int32) (i3 : Int32) (i4 : Int32) (i5 : Int32) (M : mM) : ev 27 14 [some (.inr a0), some (.inr a1), some (.inl i2), some (.inl i3), some (.inl i4), some (.inl i5)] [] M = if (8 : Int32) ≤ i5 then (some (none, M)) else (if h_k M a0 = 6 then (if (a_rec (h_al M 2 5) 0 [.inl i2] = true ∧ ([.inl i5, .inl i3, .inl i2, .inr (h_n M + 1), .inr (h_n M + 1), .inl i5, .inr (h_r M a0 2)] : List mV).length ≤ 8) then (c_I (ev 88 0 [some (.inl i2)] [] (h_al M 2 5)) fun v_2 M_1 => if (a_rec M_1 2 [.inr (h_n M + 1), .inl i2, .inl (i3 + (i5 * v_2)), .inl i4] = true ∧ ([.inr (h_n M + 1), .inl i5, .inr (h_r M a0 2)] : List mV).length ≤ 8) then (c_V (ev 9 0 [some (.inr (h_n M + 1)), some (.inl i2), some (.inl (i3 + (i5 * v_2))), some (.inl i4)] [] M_1) fun M_3 => if ((h_k M_3 (h_r M a0 2) = 11 ∧ h_k M_3 (h_n M + 1) = 3) ∨ (h_k M_3 (h_r M a0 2) = 12 ∧ h_k M_3 (h_n M + 1) = 2)) ∧ h_in i5 (h_l M_3 (h_r M a0 2)) then (ev 27 14 [some (.inr a0), some (.inr a1), some (.inl i2), some (.inl i3), some (.inl i4), some (.inl (i5 + 1))] [] (h_sr M_3 (h_r M a0 2) (i5).toNatClampNeg (h_n M + 1))) else none) else none) else none) else none) := by
  refine (ev_ns c_27 2 (ip' := 16) (ls' := [some (.inr a0), some (.inr a1), some (.inl i2), some (.inl i3), some (.inl i4), some (.inl i5)]) (st' := [.inl 8, .inl i5]) (M' := M) rfl).trans ?_
  refine (ev_i ((8 : Int32) ≤ i5) (i1 := 34) (l1 := [some (.inr a0), some (.inr a1), some (.inl i2), some (.inl i3), some (.inl i4), some (.inl i5)]) (s1 := []) (M1 := M) (i2 := 17) (l2 := [some (.inr a0), some (.inr a1), some (.inl i2), some (.inl i3), some (.inl i4), some (.inl i5)]) (s2 := []) (M2 := M) c_27 rfl).trans (t_i ?_ ?_)
  · skip
    exact ev_d c_27 rfl
  · skip
    refine (ev_ns c_27 1 (ip' := 18) (ls' := [some (.inr a0), some (.inr a1), some (.inl i2), some (.inl i3), some (.inl i4), some (.inl i5)]) (st' := [.inr a0]) (M' := M) rfl).trans ?_
    refine (ev_g (h_k M a0 = 6) (ip' := 19) (ls' := [some (.inr a0), some (.inr a1), some (.inl i2), some (.inl i3), some (.inl i4), some (.inl i5)]) (st' := [.inr (h_r M a0 2)]) (M' := M) c_27 rfl).trans (t_i ?_ rfl)
    refine (ev_ns c_27 7 (ip' := 26) (ls' := [some (.inr a0), some (.inr a1), some (.inl i2), some (.inl i3), some (.inl i4), some (.inl i5)]) (st' := [.inl i2, .inl i5, .inl i3, .inl i2, .inr (h_n M + 1), .inr (h_n M + 1), .inl i5, .inr (h_r M a0 2)]) (M' := h_al M 2 5) rfl).trans ?_
    refine (ev_gI (a_rec (h_al M 2 5) 0 [.inl i2] = true ∧ ([.inl i5, .inl i3, .inl i2, .inr (h_n M + 1), .inr (h_n M + 1), .inl i5, .inr (h_r M a0 2)] : List mV).length ≤ 8) (as := [.inl i2]) (rr := [.inl i5, .inl i3, .inl i2, .inr (h_n M + 1), .inr (h_n M + 1), .inl i5, .inr (h_r M a0 2)]) c_27 c_88 rfl).trans (t_i (t_cI ?_) rfl)
    intro v_2 M_1
    refine (ev_ns c_27 3 (ip' := 30) (ls' := [some (.inr a0), some (.inr a1), some (.inl i2), some (.inl i3), some (.inl i4), some (.inl i5)]) (st' := [.inl i4, .inl (i3 + (i5 * v_2)), .inl i2, .inr (h_n M + 1), .inr (h_n M + 1), .inl i5, .inr (h_r M a0 2)]) (M' := M_1) rfl).trans ?_
    refine (ev_gV (a_rec M_1 2 [.inr (h_n M + 1), .inl i2, .inl (i3 + (i5 * v_2)), .inl i4] = true ∧ ([.inr (h_n M + 1), .inl i5, .inr (h_r M a0 2)] : List mV).length ≤ 8) (as := [.inr (h_n M + 1), .inl i2, .inl (i3 + (i5 * v_2)), .inl i4]) (rr := [.inr (h_n M + 1), .inl i5, .inr (h_r M a0 2)]) c_27 c_9 rfl).trans (t_i (t_cV ?_) rfl)
    intro M_3
    refine (ev_g (((h_k M_3 (h_r M a0 2) = 11 ∧ h_k M_3 (h_n M + 1) = 3) ∨ (h_k M_3 (h_r M a0 2) = 12 ∧ h_k M_3 (h_n M + 1) = 2)) ∧ h_in i5 (h_l M_3 (h_r M a0 2))) (ip' := 32) (ls' := [some (.inr a0), some (.inr a1), some (.inl i2), some (.inl i3), some (.inl i4), some (.inl i5)]) (st' := []) (M' := h_sr M_3 (h_r M a0 2) (i5).toNatClampNeg (h_n M + 1)) c_27 rfl).trans (t_i ?_ rfl)
    exact ev_ns c_27 2 (ip' := 14) (ls' := [some (.inr a0), some (.inr a1), some (.inl i2), some (.inl i3), some (.inl i4), some (.inl (i5 + 1))]) (st' := []) (M' := h_sr M_3 (h_r M a0 2) (i5).toNatClampNeg (h_n M + 1)) rfl
/- 28: GranuleHall$Rtt.entryOf(I)LGranuleHall$Entry; -/
set_option maxRecDepth 20000 in
theorem e_28_0 (a0 : Nat) (i1 : Int32) (M : mM) : ev 28 0 [some (.inr a0), some (.inl i1)] [] M = if h_k M a0 = 6 then (if h_k M a0 = 6 then (if (a_rec M 0 [.inl (h_i M a0 1)] = true ∧ ([.inl i1, .inr (h_r M a0 2)] : List mV).length ≤ 8) then (c_I (ev 87 0 [some (.inl (h_i M a0 1))] [] M) fun v_2 M_1 => if (h_k M_1 (h_r M a0 2) = 11 ∨ h_k M_1 (h_r M a0 2) = 12 ∨ h_k M_1 (h_r M a0 2) = 13) ∧ h_in ((i1 >>> (v_2 &&& 31)) &&& 7) (h_l M_1 (h_r M a0 2)) then (some (some (.inr (h_r M_1 (h_r M a0 2) (((i1 >>> (v_2 &&& 31)) &&& 7)).toNatClampNeg)), M_1)) else none) else none) else none) else none := by
  refine (ev_ns c_28 1 (ip' := 1) (ls' := [some (.inr a0), some (.inl i1)]) (st' := [.inr a0]) (M' := M) rfl).trans ?_
  refine (ev_g (h_k M a0 = 6) (ip' := 2) (ls' := [some (.inr a0), some (.inl i1)]) (st' := [.inr (h_r M a0 2)]) (M' := M) c_28 rfl).trans (t_i ?_ rfl)
  refine (ev_ns c_28 2 (ip' := 4) (ls' := [some (.inr a0), some (.inl i1)]) (st' := [.inr a0, .inl i1, .inr (h_r M a0 2)]) (M' := M) rfl).trans ?_
  refine (ev_g (h_k M a0 = 6) (ip' := 5) (ls' := [some (.inr a0), some (.inl i1)]) (st' := [.inl (h_i M a0 1), .inl i1, .inr (h_r M a0 2)]) (M' := M) c_28 rfl).trans (t_i ?_ rfl)
  refine (ev_gI (a_rec M 0 [.inl (h_i M a0 1)] = true ∧ ([.inl i1, .inr (h_r M a0 2)] : List mV).length ≤ 8) (as := [.inl (h_i M a0 1)]) (rr := [.inl i1, .inr (h_r M a0 2)]) c_28 c_87 rfl).trans (t_i (t_cI ?_) rfl)
  intro v_2 M_1
  refine (ev_ns c_28 3 (ip' := 9) (ls' := [some (.inr a0), some (.inl i1)]) (st' := [.inl ((i1 >>> (v_2 &&& 31)) &&& 7), .inr (h_r M a0 2)]) (M' := M_1) rfl).trans ?_
  refine (ev_g ((h_k M_1 (h_r M a0 2) = 11 ∨ h_k M_1 (h_r M a0 2) = 12 ∨ h_k M_1 (h_r M a0 2) = 13) ∧ h_in ((i1 >>> (v_2 &&& 31)) &&& 7) (h_l M_1 (h_r M a0 2))) (ip' := 10) (ls' := [some (.inr a0), some (.inl i1)]) (st' := [.inr (h_r M_1 (h_r M a0 2) (((i1 >>> (v_2 &&& 31)) &&& 7)).toNatClampNeg)]) (M' := M_1) c_28 rfl).trans (t_i ?_ rfl)
  exact ev_d c_28 rfl
/- 29: GranuleHall$Rtt.isUnassigned()Z -/
set_option maxRecDepth 20000 in
theorem e_29_0 (a0 : Nat) (M : mM) : ev 29 0 [some (.inr a0), none, none, none, none] [] M = if h_k M a0 = 6 then (if 9 ≤ h_k M (h_r M a0 2) ∧ h_k M (h_r M a0 2) ≤ 13 then (ev 29 8 [some (.inr a0), some (.inr (h_r M a0 2)), some (.inl (Int32.ofNat (h_l M (h_r M a0 2)))), some (.inl 0), none] [] M) else none) else none := by
  refine (ev_ns c_29 1 (ip' := 1) (ls' := [some (.inr a0), none, none, none, none]) (st' := [.inr a0]) (M' := M) rfl).trans ?_
  refine (ev_g (h_k M a0 = 6) (ip' := 2) (ls' := [some (.inr a0), none, none, none, none]) (st' := [.inr (h_r M a0 2)]) (M' := M) c_29 rfl).trans (t_i ?_ rfl)
  refine (ev_ns c_29 2 (ip' := 4) (ls' := [some (.inr a0), some (.inr (h_r M a0 2)), none, none, none]) (st' := [.inr (h_r M a0 2)]) (M' := M) rfl).trans ?_
  refine (ev_g (9 ≤ h_k M (h_r M a0 2) ∧ h_k M (h_r M a0 2) ≤ 13) (ip' := 5) (ls' := [some (.inr a0), some (.inr (h_r M a0 2)), none, none, none]) (st' := [.inl (Int32.ofNat (h_l M (h_r M a0 2)))]) (M' := M) c_29 rfl).trans (t_i ?_ rfl)
  exact ev_ns c_29 3 (ip' := 8) (ls' := [some (.inr a0), some (.inr (h_r M a0 2)), some (.inl (Int32.ofNat (h_l M (h_r M a0 2)))), some (.inl 0), none]) (st' := []) (M' := M) rfl
set_option maxRecDepth 20000 in
theorem e_29_8 (a0 : Nat) (a1 : Nat) (i2 : Int32) (i3 : Int32) (o4 : Option mV) (M : mM) : ev 29 8 [some (.inr a0), some (.inr a1), some (.inl i2), some (.inl i3), o4] [] M = if i2 ≤ i3 then (some (some (.inl 1), M)) else (if (h_k M a1 = 11 ∨ h_k M a1 = 12 ∨ h_k M a1 = 13) ∧ h_in i3 (h_l M a1) then (if (a_rec M 2 [.inr (h_r M a1 (i3).toNatClampNeg)] = true ∧ ([] : List mV).length ≤ 8) then (c_I (ev 11 0 [some (.inr (h_r M a1 (i3).toNatClampNeg))] [] M) fun v_2 M_1 => if v_2 = 0 then (some (some (.inl 0), M_1)) else (ev 29 8 [some (.inr a0), some (.inr a1), some (.inl i2), some (.inl (i3 + 1)), some (.inr (h_r M a1 (i3).toNatClampNeg))] [] M_1)) else none) else none) := by
  refine (ev_ns c_29 2 (ip' := 10) (ls' := [some (.inr a0), some (.inr a1), some (.inl i2), some (.inl i3), o4]) (st' := [.inl i2, .inl i3]) (M' := M) rfl).trans ?_
  refine (ev_i (i2 ≤ i3) (i1 := 22) (l1 := [some (.inr a0), some (.inr a1), some (.inl i2), some (.inl i3), o4]) (s1 := []) (M1 := M) (i2 := 11) (l2 := [some (.inr a0), some (.inr a1), some (.inl i2), some (.inl i3), o4]) (s2 := []) (M2 := M) c_29 rfl).trans (t_i ?_ ?_)
  · skip
    refine (ev_ns c_29 1 (ip' := 23) (ls' := [some (.inr a0), some (.inr a1), some (.inl i2), some (.inl i3), o4]) (st' := [.inl 1]) (M' := M) rfl).trans ?_
    exact ev_d c_29 rfl
  · skip
    refine (ev_ns c_29 2 (ip' := 13) (ls' := [some (.inr a0), some (.inr a1), some (.inl i2), some (.inl i3), o4]) (st' := [.inl i3, .inr a1]) (M' := M) rfl).trans ?_
    refine (ev_g ((h_k M a1 = 11 ∨ h_k M a1 = 12 ∨ h_k M a1 = 13) ∧ h_in i3 (h_l M a1)) (ip' := 14) (ls' := [some (.inr a0), some (.inr a1), some (.inl i2), some (.inl i3), o4]) (st' := [.inr (h_r M a1 (i3).toNatClampNeg)]) (M' := M) c_29 rfl).trans (t_i ?_ rfl)
    refine (ev_ns c_29 2 (ip' := 16) (ls' := [some (.inr a0), some (.inr a1), some (.inl i2), some (.inl i3), some (.inr (h_r M a1 (i3).toNatClampNeg))]) (st' := [.inr (h_r M a1 (i3).toNatClampNeg)]) (M' := M) rfl).trans ?_
    refine (ev_gI (a_rec M 2 [.inr (h_r M a1 (i3).toNatClampNeg)] = true ∧ ([] : List mV).length ≤ 8) (as := [.inr (h_r M a1 (i3).toNatClampNeg)]) (rr := []) c_29 c_11 rfl).trans (t_i (t_cI ?_) rfl)
    intro v_2 M_1
    refine (ev_i (v_2 = 0) (i1 := 18) (l1 := [some (.inr a0), some (.inr a1), some (.inl i2), some (.inl i3), some (.inr (h_r M a1 (i3).toNatClampNeg))]) (s1 := []) (M1 := M_1) (i2 := 20) (l2 := [some (.inr a0), some (.inr a1), some (.inl i2), some (.inl i3), some (.inr (h_r M a1 (i3).toNatClampNeg))]) (s2 := []) (M2 := M_1) c_29 rfl).trans (t_i ?_ ?_)
    · skip
      refine (ev_ns c_29 1 (ip' := 19) (ls' := [some (.inr a0), some (.inr a1), some (.inl i2), some (.inl i3), some (.inr (h_r M a1 (i3).toNatClampNeg))]) (st' := [.inl 0]) (M' := M_1) rfl).trans ?_
      exact ev_d c_29 rfl
    · skip
      exact ev_ns c_29 2 (ip' := 8) (ls' := [some (.inr a0), some (.inr a1), some (.inl i2), some (.inl (i3 + 1)), some (.inr (h_r M a1 (i3).toNatClampNeg))]) (st' := []) (M' := M_1) rfl
/- 30: GranuleHall$Rtt.hasOneRipas()Z -/
set_option maxRecDepth 20000 in
theorem e_30_0 (a0 : Nat) (M : mM) : ev 30 0 [some (.inr a0), none, none, none, none] [] M = if h_k M a0 = 6 then (if 9 ≤ h_k M (h_r M a0 2) ∧ h_k M (h_r M a0 2) ≤ 13 then (ev 30 8 [some (.inr a0), some (.inr (h_r M a0 2)), some (.inl (Int32.ofNat (h_l M (h_r M a0 2)))), some (.inl 0), none] [] M) else none) else none := by
  refine (ev_ns c_30 1 (ip' := 1) (ls' := [some (.inr a0), none, none, none, none]) (st' := [.inr a0]) (M' := M) rfl).trans ?_
  refine (ev_g (h_k M a0 = 6) (ip' := 2) (ls' := [some (.inr a0), none, none, none, none]) (st' := [.inr (h_r M a0 2)]) (M' := M) c_30 rfl).trans (t_i ?_ rfl)
  refine (ev_ns c_30 2 (ip' := 4) (ls' := [some (.inr a0), some (.inr (h_r M a0 2)), none, none, none]) (st' := [.inr (h_r M a0 2)]) (M' := M) rfl).trans ?_
  refine (ev_g (9 ≤ h_k M (h_r M a0 2) ∧ h_k M (h_r M a0 2) ≤ 13) (ip' := 5) (ls' := [some (.inr a0), some (.inr (h_r M a0 2)), none, none, none]) (st' := [.inl (Int32.ofNat (h_l M (h_r M a0 2)))]) (M' := M) c_30 rfl).trans (t_i ?_ rfl)
  exact ev_ns c_30 3 (ip' := 8) (ls' := [some (.inr a0), some (.inr (h_r M a0 2)), some (.inl (Int32.ofNat (h_l M (h_r M a0 2)))), some (.inl 0), none]) (st' := []) (M' := M) rfl
set_option maxRecDepth 20000 in
theorem e_30_8 (a0 : Nat) (a1 : Nat) (i2 : Int32) (i3 : Int32) (o4 : Option mV) (M : mM) : ev 30 8 [some (.inr a0), some (.inr a1), some (.inl i2), some (.inl i3), o4] [] M = if i2 ≤ i3 then (some (some (.inl 1), M)) else (if (h_k M a1 = 11 ∨ h_k M a1 = 12 ∨ h_k M a1 = 13) ∧ h_in i3 (h_l M a1) then (if h_k M (h_r M a1 (i3).toNatClampNeg) = 2 then (if h_k M a0 = 6 then (if (h_k M (h_r M a0 2) = 11 ∨ h_k M (h_r M a0 2) = 12 ∨ h_k M (h_r M a0 2) = 13) ∧ h_in 0 (h_l M (h_r M a0 2)) then (if h_k M (h_r M (h_r M a0 2) 0) = 2 then (if (h_i M (h_r M a1 (i3).toNatClampNeg) 2) = (h_i M (h_r M (h_r M a0 2) 0) 2) then (ev 30 8 [some (.inr a0), some (.inr a1), some (.inl i2), some (.inl (i3 + 1)), some (.inr (h_r M a1 (i3).toNatClampNeg))] [] M) else (some (some (.inl 0), M))) else none) else none) else none) else none) else none) := by
  refine (ev_ns c_30 2 (ip' := 10) (ls' := [some (.inr a0), some (.inr a1), some (.inl i2), some (.inl i3), o4]) (st' := [.inl i2, .inl i3]) (M' := M) rfl).trans ?_
  refine (ev_i (i2 ≤ i3) (i1 := 27) (l1 := [some (.inr a0), some (.inr a1), some (.inl i2), some (.inl i3), o4]) (s1 := []) (M1 := M) (i2 := 11) (l2 := [some (.inr a0), some (.inr a1), some (.inl i2), some (.inl i3), o4]) (s2 := []) (M2 := M) c_30 rfl).trans (t_i ?_ ?_)
  · skip
    refine (ev_ns c_30 1 (ip' := 28) (ls' := [some (.inr a0), some (.inr a1), some (.inl i2), some (.inl i3), o4]) (st' := [.inl 1]) (M' := M) rfl).trans ?_
    exact ev_d c_30 rfl
  · skip
    refine (ev_ns c_30 2 (ip' := 13) (ls' := [some (.inr a0), some (.inr a1), some (.inl i2), some (.inl i3), o4]) (st' := [.inl i3, .inr a1]) (M' := M) rfl).trans ?_
    refine (ev_g ((h_k M a1 = 11 ∨ h_k M a1 = 12 ∨ h_k M a1 = 13) ∧ h_in i3 (h_l M a1)) (ip' := 14) (ls' := [some (.inr a0), some (.inr a1), some (.inl i2), some (.inl i3), o4]) (st' := [.inr (h_r M a1 (i3).toNatClampNeg)]) (M' := M) c_30 rfl).trans (t_i ?_ rfl)
    refine (ev_ns c_30 2 (ip' := 16) (ls' := [some (.inr a0), some (.inr a1), some (.inl i2), some (.inl i3), some (.inr (h_r M a1 (i3).toNatClampNeg))]) (st' := [.inr (h_r M a1 (i3).toNatClampNeg)]) (M' := M) rfl).trans ?_
    refine (ev_g (h_k M (h_r M a1 (i3).toNatClampNeg) = 2) (ip' := 17) (ls' := [some (.inr a0), some (.inr a1), some (.inl i2), some (.inl i3), some (.inr (h_r M a1 (i3).toNatClampNeg))]) (st' := [.inl (h_i M (h_r M a1 (i3).toNatClampNeg) 2)]) (M' := M) c_30 rfl).trans (t_i ?_ rfl)
    refine (ev_ns c_30 1 (ip' := 18) (ls' := [some (.inr a0), some (.inr a1), some (.inl i2), some (.inl i3), some (.inr (h_r M a1 (i3).toNatClampNeg))]) (st' := [.inr a0, .inl (h_i M (h_r M a1 (i3).toNatClampNeg) 2)]) (M' := M) rfl).trans ?_
    refine (ev_g (h_k M a0 = 6) (ip' := 19) (ls' := [some (.inr a0), some (.inr a1), some (.inl i2), some (.inl i3), some (.inr (h_r M a1 (i3).toNatClampNeg))]) (st' := [.inr (h_r M a0 2), .inl (h_i M (h_r M a1 (i3).toNatClampNeg) 2)]) (M' := M) c_30 rfl).trans (t_i ?_ rfl)
    refine (ev_ns c_30 1 (ip' := 20) (ls' := [some (.inr a0), some (.inr a1), some (.inl i2), some (.inl i3), some (.inr (h_r M a1 (i3).toNatClampNeg))]) (st' := [.inl 0, .inr (h_r M a0 2), .inl (h_i M (h_r M a1 (i3).toNatClampNeg) 2)]) (M' := M) rfl).trans ?_
    refine (ev_g ((h_k M (h_r M a0 2) = 11 ∨ h_k M (h_r M a0 2) = 12 ∨ h_k M (h_r M a0 2) = 13) ∧ h_in 0 (h_l M (h_r M a0 2))) (ip' := 21) (ls' := [some (.inr a0), some (.inr a1), some (.inl i2), some (.inl i3), some (.inr (h_r M a1 (i3).toNatClampNeg))]) (st' := [.inr (h_r M (h_r M a0 2) 0), .inl (h_i M (h_r M a1 (i3).toNatClampNeg) 2)]) (M' := M) c_30 rfl).trans (t_i ?_ rfl)
    refine (ev_g (h_k M (h_r M (h_r M a0 2) 0) = 2) (ip' := 22) (ls' := [some (.inr a0), some (.inr a1), some (.inl i2), some (.inl i3), some (.inr (h_r M a1 (i3).toNatClampNeg))]) (st' := [.inl (h_i M (h_r M (h_r M a0 2) 0) 2), .inl (h_i M (h_r M a1 (i3).toNatClampNeg) 2)]) (M' := M) c_30 rfl).trans (t_i ?_ rfl)
    refine (ev_i ((h_i M (h_r M a1 (i3).toNatClampNeg) 2) = (h_i M (h_r M (h_r M a0 2) 0) 2)) (i1 := 25) (l1 := [some (.inr a0), some (.inr a1), some (.inl i2), some (.inl i3), some (.inr (h_r M a1 (i3).toNatClampNeg))]) (s1 := []) (M1 := M) (i2 := 23) (l2 := [some (.inr a0), some (.inr a1), some (.inl i2), some (.inl i3), some (.inr (h_r M a1 (i3).toNatClampNeg))]) (s2 := []) (M2 := M) c_30 rfl).trans (t_i ?_ ?_)
    · skip
      exact ev_ns c_30 2 (ip' := 8) (ls' := [some (.inr a0), some (.inr a1), some (.inl i2), some (.inl (i3 + 1)), some (.inr (h_r M a1 (i3).toNatClampNeg))]) (st' := []) (M' := M) rfl
    · skip
      refine (ev_ns c_30 1 (ip' := 24) (ls' := [some (.inr a0), some (.inr a1), some (.inl i2), some (.inl i3), some (.inr (h_r M a1 (i3).toNatClampNeg))]) (st' := [.inl 0]) (M' := M) rfl).trans ?_
      exact ev_d c_30 rfl
/- 31: GranuleHall$Rtt.ramPages()I -/
set_option maxRecDepth 20000 in
theorem e_31_0 (a0 : Nat) (M : mM) : ev 31 0 [some (.inr a0), none, none, none, none, none] [] M = if h_k M a0 = 6 then (if 9 ≤ h_k M (h_r M a0 2) ∧ h_k M (h_r M a0 2) ≤ 13 then (ev 31 10 [some (.inr a0), some (.inl 0), some (.inr (h_r M a0 2)), some (.inl (Int32.ofNat (h_l M (h_r M a0 2)))), some (.inl 0), none] [] M) else none) else none := by
  refine (ev_ns c_31 3 (ip' := 3) (ls' := [some (.inr a0), some (.inl 0), none, none, none, none]) (st' := [.inr a0]) (M' := M) rfl).trans ?_
  refine (ev_g (h_k M a0 = 6) (ip' := 4) (ls' := [some (.inr a0), some (.inl 0), none, none, none, none]) (st' := [.inr (h_r M a0 2)]) (M' := M) c_31 rfl).trans (t_i ?_ rfl)
  refine (ev_ns c_31 2 (ip' := 6) (ls' := [some (.inr a0), some (.inl 0), some (.inr (h_r M a0 2)), none, none, none]) (st' := [.inr (h_r M a0 2)]) (M' := M) rfl).trans ?_
  refine (ev_g (9 ≤ h_k M (h_r M a0 2) ∧ h_k M (h_r M a0 2) ≤ 13) (ip' := 7) (ls' := [some (.inr a0), some (.inl 0), some (.inr (h_r M a0 2)), none, none, none]) (st' := [.inl (Int32.ofNat (h_l M (h_r M a0 2)))]) (M' := M) c_31 rfl).trans (t_i ?_ rfl)
  exact ev_ns c_31 3 (ip' := 10) (ls' := [some (.inr a0), some (.inl 0), some (.inr (h_r M a0 2)), some (.inl (Int32.ofNat (h_l M (h_r M a0 2)))), some (.inl 0), none]) (st' := []) (M' := M) rfl
set_option maxRecDepth 20000 in
theorem e_31_10 (a0 : Nat) (i1 : Int32) (a2 : Nat) (i3 : Int32) (i4 : Int32) (o5 : Option mV) (M : mM) : ev 31 10 [some (.inr a0), some (.inl i1), some (.inr a2), some (.inl i3), some (.inl i4), o5] [] M = if i3 ≤ i4 then (some (some (.inl i1), M)) else (if (h_k M a2 = 11 ∨ h_k M a2 = 12 ∨ h_k M a2 = 13) ∧ h_in i4 (h_l M a2) then (if h_k M (h_r M a2 (i4).toNatClampNeg) = 2 then (if (h_i M (h_r M a2 (i4).toNatClampNeg) 2) = 1 then (if h_k M a0 = 6 then (if (a_rec M 0 [.inl (h_i M a0 1)] = true ∧ ([.inl i1] : List mV).length ≤ 8) then (c_I (ev 88 0 [some (.inl (h_i M a0 1))] [] M) fun v_2 M_1 => ev 31 27 [some (.inr a0), some (.inl (i1 + v_2)), some (.inr a2), some (.inl i3), some (.inl i4), some (.inr (h_r M a2 (i4).toNatClampNeg))] [] M_1) else none) else none) else (ev 31 27 [some (.inr a0), some (.inl i1), some (.inr a2), some (.inl i3), some (.inl i4), some (.inr (h_r M a2 (i4).toNatClampNeg))] [] M)) else none) else none) := by
  refine (ev_ns c_31 2 (ip' := 12) (ls' := [some (.inr a0), some (.inl i1), some (.inr a2), some (.inl i3), some (.inl i4), o5]) (st' := [.inl i3, .inl i4]) (M' := M) rfl).trans ?_
  refine (ev_i (i3 ≤ i4) (i1 := 29) (l1 := [some (.inr a0), some (.inl i1), some (.inr a2), some (.inl i3), some (.inl i4), o5]) (s1 := []) (M1 := M) (i2 := 13) (l2 := [some (.inr a0), some (.inl i1), some (.inr a2), some (.inl i3), some (.inl i4), o5]) (s2 := []) (M2 := M) c_31 rfl).trans (t_i ?_ ?_)
  · skip
    refine (ev_ns c_31 1 (ip' := 30) (ls' := [some (.inr a0), some (.inl i1), some (.inr a2), some (.inl i3), some (.inl i4), o5]) (st' := [.inl i1]) (M' := M) rfl).trans ?_
    exact ev_d c_31 rfl
  · skip
    refine (ev_ns c_31 2 (ip' := 15) (ls' := [some (.inr a0), some (.inl i1), some (.inr a2), some (.inl i3), some (.inl i4), o5]) (st' := [.inl i4, .inr a2]) (M' := M) rfl).trans ?_
    refine (ev_g ((h_k M a2 = 11 ∨ h_k M a2 = 12 ∨ h_k M a2 = 13) ∧ h_in i4 (h_l M a2)) (ip' := 16) (ls' := [some (.inr a0), some (.inl i1), some (.inr a2), some (.inl i3), some (.inl i4), o5]) (st' := [.inr (h_r M a2 (i4).toNatClampNeg)]) (M' := M) c_31 rfl).trans (t_i ?_ rfl)
    refine (ev_ns c_31 2 (ip' := 18) (ls' := [some (.inr a0), some (.inl i1), some (.inr a2), some (.inl i3), some (.inl i4), some (.inr (h_r M a2 (i4).toNatClampNeg))]) (st' := [.inr (h_r M a2 (i4).toNatClampNeg)]) (M' := M) rfl).trans ?_
    refine (ev_g (h_k M (h_r M a2 (i4).toNatClampNeg) = 2) (ip' := 19) (ls' := [some (.inr a0), some (.inl i1), some (.inr a2), some (.inl i3), some (.inl i4), some (.inr (h_r M a2 (i4).toNatClampNeg))]) (st' := [.inl (h_i M (h_r M a2 (i4).toNatClampNeg) 2)]) (M' := M) c_31 rfl).trans (t_i ?_ rfl)
    refine (ev_ns c_31 1 (ip' := 20) (ls' := [some (.inr a0), some (.inl i1), some (.inr a2), some (.inl i3), some (.inl i4), some (.inr (h_r M a2 (i4).toNatClampNeg))]) (st' := [.inl 1, .inl (h_i M (h_r M a2 (i4).toNatClampNeg) 2)]) (M' := M) rfl).trans ?_
    refine (ev_i ((h_i M (h_r M a2 (i4).toNatClampNeg) 2) = 1) (i1 := 21) (l1 := [some (.inr a0), some (.inl i1), some (.inr a2), some (.inl i3), some (.inl i4), some (.inr (h_r M a2 (i4).toNatClampNeg))]) (s1 := []) (M1 := M) (i2 := 27) (l2 := [some (.inr a0), some (.inl i1), some (.inr a2), some (.inl i3), some (.inl i4), some (.inr (h_r M a2 (i4).toNatClampNeg))]) (s2 := []) (M2 := M) c_31 rfl).trans (t_i ?_ ?_)
    · skip
      refine (ev_ns c_31 2 (ip' := 23) (ls' := [some (.inr a0), some (.inl i1), some (.inr a2), some (.inl i3), some (.inl i4), some (.inr (h_r M a2 (i4).toNatClampNeg))]) (st' := [.inr a0, .inl i1]) (M' := M) rfl).trans ?_
      refine (ev_g (h_k M a0 = 6) (ip' := 24) (ls' := [some (.inr a0), some (.inl i1), some (.inr a2), some (.inl i3), some (.inl i4), some (.inr (h_r M a2 (i4).toNatClampNeg))]) (st' := [.inl (h_i M a0 1), .inl i1]) (M' := M) c_31 rfl).trans (t_i ?_ rfl)
      refine (ev_gI (a_rec M 0 [.inl (h_i M a0 1)] = true ∧ ([.inl i1] : List mV).length ≤ 8) (as := [.inl (h_i M a0 1)]) (rr := [.inl i1]) c_31 c_88 rfl).trans (t_i (t_cI ?_) rfl)
      intro v_2 M_1
      exact ev_ns c_31 2 (ip' := 27) (ls' := [some (.inr a0), some (.inl (i1 + v_2)), some (.inr a2), some (.inl i3), some (.inl i4), some (.inr (h_r M a2 (i4).toNatClampNeg))]) (st' := []) (M' := M_1) rfl
    · skip
      exact rfl
set_option maxRecDepth 20000 in
theorem e_31_27 (a0 : Nat) (i1 : Int32) (a2 : Nat) (i3 : Int32) (i4 : Int32) (a5 : Nat) (M : mM) : ev 31 27 [some (.inr a0), some (.inl i1), some (.inr a2), some (.inl i3), some (.inl i4), some (.inr a5)] [] M = ev 31 10 [some (.inr a0), some (.inl i1), some (.inr a2), some (.inl i3), some (.inl (i4 + 1)), some (.inr a5)] [] M := by
  exact ev_ns c_31 2 (ip' := 10) (ls' := [some (.inr a0), some (.inl i1), some (.inr a2), some (.inl i3), some (.inl (i4 + 1)), some (.inr a5)]) (st' := []) (M' := M) rfl
/- 32: GranuleHall$Rtt.countPlaces()V -/
set_option maxRecDepth 20000 in
theorem e_32_0 (a0 : Nat) (M : mM) : ev 32 0 [some (.inr a0), none, none, none, none, none] [] M = if h_k M a0 = 6 then (if 9 ≤ h_k M (h_r M a0 2) ∧ h_k M (h_r M a0 2) ≤ 13 then (ev 32 8 [some (.inr a0), some (.inr (h_r M a0 2)), some (.inl (Int32.ofNat (h_l M (h_r M a0 2)))), some (.inl 0), none, none] [] M) else none) else none := by
  refine (ev_ns c_32 1 (ip' := 1) (ls' := [some (.inr a0), none, none, none, none, none]) (st' := [.inr a0]) (M' := M) rfl).trans ?_
  refine (ev_g (h_k M a0 = 6) (ip' := 2) (ls' := [some (.inr a0), none, none, none, none, none]) (st' := [.inr (h_r M a0 2)]) (M' := M) c_32 rfl).trans (t_i ?_ rfl)
  refine (ev_ns c_32 2 (ip' := 4) (ls' := [some (.inr a0), some (.inr (h_r M a0 2)), none, none, none, none]) (st' := [.inr (h_r M a0 2)]) (M' := M) rfl).trans ?_
  refine (ev_g (9 ≤ h_k M (h_r M a0 2) ∧ h_k M (h_r M a0 2) ≤ 13) (ip' := 5) (ls' := [some (.inr a0), some (.inr (h_r M a0 2)), none, none, none, none]) (st' := [.inl (Int32.ofNat (h_l M (h_r M a0 2)))]) (M' := M) c_32 rfl).trans (t_i ?_ rfl)
  exact ev_ns c_32 3 (ip' := 8) (ls' := [some (.inr a0), some (.inr (h_r M a0 2)), some (.inl (Int32.ofNat (h_l M (h_r M a0 2)))), some (.inl 0), none, none]) (st' := []) (M' := M) rfl
set_option maxRecDepth 20000 in
theorem e_32_8 (a0 : Nat) (a1 : Nat) (i2 : Int32) (i3 : Int32) (o4 : Option mV) (o5 : Option mV) (M : mM) : ev 32 8 [some (.inr a0), some (.inr a1), some (.inl i2), some (.inl i3), o4, o5] [] M = if i2 ≤ i3 then (some (none, M)) else (if (h_k M a1 = 11 ∨ h_k M a1 = 12 ∨ h_k M a1 = 13) ∧ h_in i3 (h_l M a1) then (if h_k M (h_r M a1 (i3).toNatClampNeg) = 2 then (if (h_r M (h_r M a1 (i3).toNatClampNeg) 3) = 0 then (ev 32 30 [some (.inr a0), some (.inr a1), some (.inl i2), some (.inl i3), some (.inr (h_r M a1 (i3).toNatClampNeg)), some (.inr (h_r M (h_r M a1 (i3).toNatClampNeg) 3))] [] M) else (if h_k M (h_r M a1 (i3).toNatClampNeg) = 2 then (if (h_r M (h_r M a1 (i3).toNatClampNeg) 4) = 0 then (ev 32 30 [some (.inr a0), some (.inr a1), some (.inl i2), some (.inl i3), some (.inr (h_r M a1 (i3).toNatClampNeg)), some (.inr (h_r M (h_r M a1 (i3).toNatClampNeg) 3))] [] M) else (if h_k M (h_r M (h_r M a1 (i3).toNatClampNeg) 3) = 3 then (if h_k M (h_r M (h_r M a1 (i3).toNatClampNeg) 3) = 3 then (ev 32 42 [some (.inr a0), some (.inr a1), some (.inl i2), some (.inl i3), some (.inr (h_r M a1 (i3).toNatClampNeg)), some (.inr (h_r M (h_r M a1 (i3).toNatClampNeg) 3))] [] (h_si M (h_r M (h_r M a1 (i3).toNatClampNeg) 3) 7 ((h_i M (h_r M (h_r M a1 (i3).toNatClampNeg) 3) 7) + 1))) else none) else none)) else none)) else none) else none) := by
  refine (ev_ns c_32 2 (ip' := 10) (ls' := [some (.inr a0), some (.inr a1), some (.inl i2), some (.inl i3), o4, o5]) (st' := [.inl i2, .inl i3]) (M' := M) rfl).trans ?_
  refine (ev_i (i2 ≤ i3) (i1 := 44) (l1 := [some (.inr a0), some (.inr a1), some (.inl i2), some (.inl i3), o4, o5]) (s1 := []) (M1 := M) (i2 := 11) (l2 := [some (.inr a0), some (.inr a1), some (.inl i2), some (.inl i3), o4, o5]) (s2 := []) (M2 := M) c_32 rfl).trans (t_i ?_ ?_)
  · skip
    exact ev_d c_32 rfl
  · skip
    refine (ev_ns c_32 2 (ip' := 13) (ls' := [some (.inr a0), some (.inr a1), some (.inl i2), some (.inl i3), o4, o5]) (st' := [.inl i3, .inr a1]) (M' := M) rfl).trans ?_
    refine (ev_g ((h_k M a1 = 11 ∨ h_k M a1 = 12 ∨ h_k M a1 = 13) ∧ h_in i3 (h_l M a1)) (ip' := 14) (ls' := [some (.inr a0), some (.inr a1), some (.inl i2), some (.inl i3), o4, o5]) (st' := [.inr (h_r M a1 (i3).toNatClampNeg)]) (M' := M) c_32 rfl).trans (t_i ?_ rfl)
    refine (ev_ns c_32 2 (ip' := 16) (ls' := [some (.inr a0), some (.inr a1), some (.inl i2), some (.inl i3), some (.inr (h_r M a1 (i3).toNatClampNeg)), o5]) (st' := [.inr (h_r M a1 (i3).toNatClampNeg)]) (M' := M) rfl).trans ?_
    refine (ev_g (h_k M (h_r M a1 (i3).toNatClampNeg) = 2) (ip' := 17) (ls' := [some (.inr a0), some (.inr a1), some (.inl i2), some (.inl i3), some (.inr (h_r M a1 (i3).toNatClampNeg)), o5]) (st' := [.inr (h_r M (h_r M a1 (i3).toNatClampNeg) 3)]) (M' := M) c_32 rfl).trans (t_i ?_ rfl)
    refine (ev_ns c_32 2 (ip' := 19) (ls' := [some (.inr a0), some (.inr a1), some (.inl i2), some (.inl i3), some (.inr (h_r M a1 (i3).toNatClampNeg)), some (.inr (h_r M (h_r M a1 (i3).toNatClampNeg) 3))]) (st' := [.inr (h_r M (h_r M a1 (i3).toNatClampNeg) 3)]) (M' := M) rfl).trans ?_
    refine (ev_i ((h_r M (h_r M a1 (i3).toNatClampNeg) 3) = 0) (i1 := 30) (l1 := [some (.inr a0), some (.inr a1), some (.inl i2), some (.inl i3), some (.inr (h_r M a1 (i3).toNatClampNeg)), some (.inr (h_r M (h_r M a1 (i3).toNatClampNeg) 3))]) (s1 := []) (M1 := M) (i2 := 20) (l2 := [some (.inr a0), some (.inr a1), some (.inl i2), some (.inl i3), some (.inr (h_r M a1 (i3).toNatClampNeg)), some (.inr (h_r M (h_r M a1 (i3).toNatClampNeg) 3))]) (s2 := []) (M2 := M) c_32 rfl).trans (t_i ?_ ?_)
    · skip
      exact rfl
    · skip
      refine (ev_ns c_32 1 (ip' := 21) (ls' := [some (.inr a0), some (.inr a1), some (.inl i2), some (.inl i3), some (.inr (h_r M a1 (i3).toNatClampNeg)), some (.inr (h_r M (h_r M a1 (i3).toNatClampNeg) 3))]) (st' := [.inr (h_r M a1 (i3).toNatClampNeg)]) (M' := M) rfl).trans ?_
      refine (ev_g (h_k M (h_r M a1 (i3).toNatClampNeg) = 2) (ip' := 22) (ls' := [some (.inr a0), some (.inr a1), some (.inl i2), some (.inl i3), some (.inr (h_r M a1 (i3).toNatClampNeg)), some (.inr (h_r M (h_r M a1 (i3).toNatClampNeg) 3))]) (st' := [.inr (h_r M (h_r M a1 (i3).toNatClampNeg) 4)]) (M' := M) c_32 rfl).trans (t_i ?_ rfl)
      refine (ev_i ((h_r M (h_r M a1 (i3).toNatClampNeg) 4) = 0) (i1 := 30) (l1 := [some (.inr a0), some (.inr a1), some (.inl i2), some (.inl i3), some (.inr (h_r M a1 (i3).toNatClampNeg)), some (.inr (h_r M (h_r M a1 (i3).toNatClampNeg) 3))]) (s1 := []) (M1 := M) (i2 := 23) (l2 := [some (.inr a0), some (.inr a1), some (.inl i2), some (.inl i3), some (.inr (h_r M a1 (i3).toNatClampNeg)), some (.inr (h_r M (h_r M a1 (i3).toNatClampNeg) 3))]) (s2 := []) (M2 := M) c_32 rfl).trans (t_i ?_ ?_)
      · skip
        exact rfl
      · skip
        refine (ev_ns c_32 2 (ip' := 25) (ls' := [some (.inr a0), some (.inr a1), some (.inl i2), some (.inl i3), some (.inr (h_r M a1 (i3).toNatClampNeg)), some (.inr (h_r M (h_r M a1 (i3).toNatClampNeg) 3))]) (st' := [.inr (h_r M (h_r M a1 (i3).toNatClampNeg) 3), .inr (h_r M (h_r M a1 (i3).toNatClampNeg) 3)]) (M' := M) rfl).trans ?_
        refine (ev_g (h_k M (h_r M (h_r M a1 (i3).toNatClampNeg) 3) = 3) (ip' := 26) (ls' := [some (.inr a0), some (.inr a1), some (.inl i2), some (.inl i3), some (.inr (h_r M a1 (i3).toNatClampNeg)), some (.inr (h_r M (h_r M a1 (i3).toNatClampNeg) 3))]) (st' := [.inl (h_i M (h_r M (h_r M a1 (i3).toNatClampNeg) 3) 7), .inr (h_r M (h_r M a1 (i3).toNatClampNeg) 3)]) (M' := M) c_32 rfl).trans (t_i ?_ rfl)
        refine (ev_ns c_32 2 (ip' := 28) (ls' := [some (.inr a0), some (.inr a1), some (.inl i2), some (.inl i3), some (.inr (h_r M a1 (i3).toNatClampNeg)), some (.inr (h_r M (h_r M a1 (i3).toNatClampNeg) 3))]) (st' := [.inl ((h_i M (h_r M (h_r M a1 (i3).toNatClampNeg) 3) 7) + 1), .inr (h_r M (h_r M a1 (i3).toNatClampNeg) 3)]) (M' := M) rfl).trans ?_
        refine (ev_g (h_k M (h_r M (h_r M a1 (i3).toNatClampNeg) 3) = 3) (ip' := 29) (ls' := [some (.inr a0), some (.inr a1), some (.inl i2), some (.inl i3), some (.inr (h_r M a1 (i3).toNatClampNeg)), some (.inr (h_r M (h_r M a1 (i3).toNatClampNeg) 3))]) (st' := []) (M' := h_si M (h_r M (h_r M a1 (i3).toNatClampNeg) 3) 7 ((h_i M (h_r M (h_r M a1 (i3).toNatClampNeg) 3) 7) + 1)) c_32 rfl).trans (t_i ?_ rfl)
        exact ev_ns c_32 1 (ip' := 42) (ls' := [some (.inr a0), some (.inr a1), some (.inl i2), some (.inl i3), some (.inr (h_r M a1 (i3).toNatClampNeg)), some (.inr (h_r M (h_r M a1 (i3).toNatClampNeg) 3))]) (st' := []) (M' := h_si M (h_r M (h_r M a1 (i3).toNatClampNeg) 3) 7 ((h_i M (h_r M (h_r M a1 (i3).toNatClampNeg) 3) 7) + 1)) rfl
set_option maxRecDepth 20000 in
theorem e_32_30 (a0 : Nat) (a1 : Nat) (i2 : Int32) (i3 : Int32) (a4 : Nat) (a5 : Nat) (M : mM) : ev 32 30 [some (.inr a0), some (.inr a1), some (.inl i2), some (.inl i3), some (.inr a4), some (.inr a5)] [] M = if a5 = 0 then (ev 32 42 [some (.inr a0), some (.inr a1), some (.inl i2), some (.inl i3), some (.inr a4), some (.inr a5)] [] M) else (if h_k M a4 = 2 then (if (a_rec M 0 [.inl (h_i M a4 1)] = true ∧ ([] : List mV).length ≤ 8) then (c_I (ev 84 0 [some (.inl (h_i M a4 1))] [] M) fun v_2 M_1 => if v_2 = 0 then (ev 32 42 [some (.inr a0), some (.inr a1), some (.inl i2), some (.inl i3), some (.inr a4), some (.inr a5)] [] M_1) else (if h_k M_1 a5 = 3 then (if h_k M_1 a5 = 3 then (ev 32 42 [some (.inr a0), some (.inr a1), some (.inl i2), some (.inl i3), some (.inr a4), some (.inr a5)] [] (h_si M_1 a5 8 ((h_i M_1 a5 8) + 1))) else none) else none)) else none) else none) := by
  refine (ev_ns c_32 1 (ip' := 31) (ls' := [some (.inr a0), some (.inr a1), some (.inl i2), some (.inl i3), some (.inr a4), some (.inr a5)]) (st' := [.inr a5]) (M' := M) rfl).trans ?_
  refine (ev_i (a5 = 0) (i1 := 42) (l1 := [some (.inr a0), some (.inr a1), some (.inl i2), some (.inl i3), some (.inr a4), some (.inr a5)]) (s1 := []) (M1 := M) (i2 := 32) (l2 := [some (.inr a0), some (.inr a1), some (.inl i2), some (.inl i3), some (.inr a4), some (.inr a5)]) (s2 := []) (M2 := M) c_32 rfl).trans (t_i ?_ ?_)
  · skip
    exact rfl
  · skip
    refine (ev_ns c_32 1 (ip' := 33) (ls' := [some (.inr a0), some (.inr a1), some (.inl i2), some (.inl i3), some (.inr a4), some (.inr a5)]) (st' := [.inr a4]) (M' := M) rfl).trans ?_
    refine (ev_g (h_k M a4 = 2) (ip' := 34) (ls' := [some (.inr a0), some (.inr a1), some (.inl i2), some (.inl i3), some (.inr a4), some (.inr a5)]) (st' := [.inl (h_i M a4 1)]) (M' := M) c_32 rfl).trans (t_i ?_ rfl)
    refine (ev_gI (a_rec M 0 [.inl (h_i M a4 1)] = true ∧ ([] : List mV).length ≤ 8) (as := [.inl (h_i M a4 1)]) (rr := []) c_32 c_84 rfl).trans (t_i (t_cI ?_) rfl)
    intro v_2 M_1
    refine (ev_i (v_2 = 0) (i1 := 42) (l1 := [some (.inr a0), some (.inr a1), some (.inl i2), some (.inl i3), some (.inr a4), some (.inr a5)]) (s1 := []) (M1 := M_1) (i2 := 36) (l2 := [some (.inr a0), some (.inr a1), some (.inl i2), some (.inl i3), some (.inr a4), some (.inr a5)]) (s2 := []) (M2 := M_1) c_32 rfl).trans (t_i ?_ ?_)
    · skip
      exact rfl
    · skip
      refine (ev_ns c_32 2 (ip' := 38) (ls' := [some (.inr a0), some (.inr a1), some (.inl i2), some (.inl i3), some (.inr a4), some (.inr a5)]) (st' := [.inr a5, .inr a5]) (M' := M_1) rfl).trans ?_
      refine (ev_g (h_k M_1 a5 = 3) (ip' := 39) (ls' := [some (.inr a0), some (.inr a1), some (.inl i2), some (.inl i3), some (.inr a4), some (.inr a5)]) (st' := [.inl (h_i M_1 a5 8), .inr a5]) (M' := M_1) c_32 rfl).trans (t_i ?_ rfl)
      refine (ev_ns c_32 2 (ip' := 41) (ls' := [some (.inr a0), some (.inr a1), some (.inl i2), some (.inl i3), some (.inr a4), some (.inr a5)]) (st' := [.inl ((h_i M_1 a5 8) + 1), .inr a5]) (M' := M_1) rfl).trans ?_
      refine (ev_g (h_k M_1 a5 = 3) (ip' := 42) (ls' := [some (.inr a0), some (.inr a1), some (.inl i2), some (.inl i3), some (.inr a4), some (.inr a5)]) (st' := []) (M' := h_si M_1 a5 8 ((h_i M_1 a5 8) + 1)) c_32 rfl).trans (t_i ?_ rfl)
      exact rfl
set_option maxRecDepth 20000 in
theorem e_32_42 (a0 : Nat) (a1 : Nat) (i2 : Int32) (i3 : Int32) (a4 : Nat) (a5 : Nat) (M : mM) : ev 32 42 [some (.inr a0), some (.inr a1), some (.inl i2), some (.inl i3), some (.inr a4), some (.inr a5)] [] M = ev 32 8 [some (.inr a0), some (.inr a1), some (.inl i2), some (.inl (i3 + 1)), some (.inr a4), some (.inr a5)] [] M := by
  exact ev_ns c_32 2 (ip' := 8) (ls' := [some (.inr a0), some (.inr a1), some (.inl i2), some (.inl (i3 + 1)), some (.inr a4), some (.inr a5)]) (st' := []) (M' := M) rfl
/- 33: GranuleHall.<init>(I)V -/
set_option maxRecDepth 20000 in
theorem e_33_0 (a0 : Nat) (i1 : Int32) (M : mM) : ev 33 0 [some (.inr a0), some (.inl i1), none, none, none] [] M = if ¬ a0 = 0 ∧ ([] : List mV).length ≤ 8 then (if (a_rec (h_al M 1 4) 1 [.inr (h_n M + 1)] = true ∧ ([.inr (h_n M + 1), .inr a0] : List mV).length ≤ 8) then (c_V (ev 0 0 [some (.inr (h_n M + 1))] [] (h_al M 1 4)) fun M_1 => if h_k M_1 a0 = 7 then (if ¬ (8 : Int32) < 0 ∧ 8 ≤ 100000 then (if h_k (h_al (h_sr M_1 a0 1 (h_n M + 1)) 9 8) a0 = 7 then (if i1 < 16 then (ev 33 19 [some (.inr a0), some (.inl i1), none, none, none] [] (h_sr (h_al (h_sr M_1 a0 1 (h_n M + 1)) 9 8) a0 2 (h_n (h_sr M_1 a0 1 (h_n M + 1)) + 1))) else (if (96 : Int32) < i1 then (ev 33 19 [some (.inr a0), some (.inl i1), none, none, none] [] (h_sr (h_al (h_sr M_1 a0 1 (h_n M + 1)) 9 8) a0 2 (h_n (h_sr M_1 a0 1 (h_n M + 1)) + 1))) else (ev 33 20 [some (.inr a0), some (.inl i1), none, none, none] [.inl 1] (h_sr (h_al (h_sr M_1 a0 1 (h_n M + 1)) 9 8) a0 2 (h_n (h_sr M_1 a0 1 (h_n M + 1)) + 1))))) else none) else none) else none) else none) else none := by
  refine (ev_ns c_33 1 (ip' := 1) (ls' := [some (.inr a0), some (.inl i1), none, none, none]) (st' := [.inr a0]) (M' := M) rfl).trans ?_
  refine (ev_g (¬ a0 = 0 ∧ ([] : List mV).length ≤ 8) (ip' := 2) (ls' := [some (.inr a0), some (.inl i1), none, none, none]) (st' := []) (M' := M) c_33 rfl).trans (t_i ?_ rfl)
  refine (ev_ns c_33 3 (ip' := 5) (ls' := [some (.inr a0), some (.inl i1), none, none, none]) (st' := [.inr (h_n M + 1), .inr (h_n M + 1), .inr a0]) (M' := h_al M 1 4) rfl).trans ?_
  refine (ev_gV (a_rec (h_al M 1 4) 1 [.inr (h_n M + 1)] = true ∧ ([.inr (h_n M + 1), .inr a0] : List mV).length ≤ 8) (as := [.inr (h_n M + 1)]) (rr := [.inr (h_n M + 1), .inr a0]) c_33 c_0 rfl).trans (t_i (t_cV ?_) rfl)
  intro M_1
  refine (ev_g (h_k M_1 a0 = 7) (ip' := 7) (ls' := [some (.inr a0), some (.inl i1), none, none, none]) (st' := []) (M' := h_sr M_1 a0 1 (h_n M + 1)) c_33 rfl).trans (t_i ?_ rfl)
  refine (ev_ns c_33 2 (ip' := 9) (ls' := [some (.inr a0), some (.inl i1), none, none, none]) (st' := [.inl 8, .inr a0]) (M' := h_sr M_1 a0 1 (h_n M + 1)) rfl).trans ?_
  refine (ev_g (¬ (8 : Int32) < 0 ∧ 8 ≤ 100000) (ip' := 10) (ls' := [some (.inr a0), some (.inl i1), none, none, none]) (st' := [.inr (h_n (h_sr M_1 a0 1 (h_n M + 1)) + 1), .inr a0]) (M' := h_al (h_sr M_1 a0 1 (h_n M + 1)) 9 8) c_33 rfl).trans (t_i ?_ rfl)
  refine (ev_g (h_k (h_al (h_sr M_1 a0 1 (h_n M + 1)) 9 8) a0 = 7) (ip' := 11) (ls' := [some (.inr a0), some (.inl i1), none, none, none]) (st' := []) (M' := h_sr (h_al (h_sr M_1 a0 1 (h_n M + 1)) 9 8) a0 2 (h_n (h_sr M_1 a0 1 (h_n M + 1)) + 1)) c_33 rfl).trans (t_i ?_ rfl)
  refine (ev_ns c_33 2 (ip' := 13) (ls' := [some (.inr a0), some (.inl i1), none, none, none]) (st' := [.inl 16, .inl i1]) (M' := h_sr (h_al (h_sr M_1 a0 1 (h_n M + 1)) 9 8) a0 2 (h_n (h_sr M_1 a0 1 (h_n M + 1)) + 1)) rfl).trans ?_
  refine (ev_i (i1 < 16) (i1 := 19) (l1 := [some (.inr a0), some (.inl i1), none, none, none]) (s1 := []) (M1 := h_sr (h_al (h_sr M_1 a0 1 (h_n M + 1)) 9 8) a0 2 (h_n (h_sr M_1 a0 1 (h_n M + 1)) + 1)) (i2 := 14) (l2 := [some (.inr a0), some (.inl i1), none, none, none]) (s2 := []) (M2 := h_sr (h_al (h_sr M_1 a0 1 (h_n M + 1)) 9 8) a0 2 (h_n (h_sr M_1 a0 1 (h_n M + 1)) + 1)) c_33 rfl).trans (t_i ?_ ?_)
  · skip
    exact rfl
  · skip
    refine (ev_ns c_33 2 (ip' := 16) (ls' := [some (.inr a0), some (.inl i1), none, none, none]) (st' := [.inl 96, .inl i1]) (M' := h_sr (h_al (h_sr M_1 a0 1 (h_n M + 1)) 9 8) a0 2 (h_n (h_sr M_1 a0 1 (h_n M + 1)) + 1)) rfl).trans ?_
    refine (ev_i ((96 : Int32) < i1) (i1 := 19) (l1 := [some (.inr a0), some (.inl i1), none, none, none]) (s1 := []) (M1 := h_sr (h_al (h_sr M_1 a0 1 (h_n M + 1)) 9 8) a0 2 (h_n (h_sr M_1 a0 1 (h_n M + 1)) + 1)) (i2 := 17) (l2 := [some (.inr a0), some (.inl i1), none, none, none]) (s2 := []) (M2 := h_sr (h_al (h_sr M_1 a0 1 (h_n M + 1)) 9 8) a0 2 (h_n (h_sr M_1 a0 1 (h_n M + 1)) + 1)) c_33 rfl).trans (t_i ?_ ?_)
    · skip
      exact rfl
    · skip
      exact ev_ns c_33 2 (ip' := 20) (ls' := [some (.inr a0), some (.inl i1), none, none, none]) (st' := [.inl 1]) (M' := h_sr (h_al (h_sr M_1 a0 1 (h_n M + 1)) 9 8) a0 2 (h_n (h_sr M_1 a0 1 (h_n M + 1)) + 1)) rfl
set_option maxRecDepth 20000 in
theorem e_33_19 (a0 : Nat) (i1 : Int32) (M : mM) : ev 33 19 [some (.inr a0), some (.inl i1), none, none, none] [] M = ev 33 20 [some (.inr a0), some (.inl i1), none, none, none] [.inl 0] M := by
  exact ev_ns c_33 1 (ip' := 20) (ls' := [some (.inr a0), some (.inl i1), none, none, none]) (st' := [.inl 0]) (M' := M) rfl
set_option maxRecDepth 20000 in
theorem e_33_20 (a0 : Nat) (i1 : Int32) (s0 : Int32) (M : mM) : ev 33 20 [some (.inr a0), some (.inl i1), none, none, none] [.inl s0] M = if s0 = 0 then (ev 33 26 [some (.inr a0), some (.inl i1), some (.inl s0), none, none] [.inl 32] M) else (ev 33 26 [some (.inr a0), some (.inl i1), some (.inl s0), none, none] [.inl i1] M) := by
  refine (ev_ns c_33 2 (ip' := 22) (ls' := [some (.inr a0), some (.inl i1), some (.inl s0), none, none]) (st' := [.inl s0]) (M' := M) rfl).trans ?_
  refine (ev_i (s0 = 0) (i1 := 25) (l1 := [some (.inr a0), some (.inl i1), some (.inl s0), none, none]) (s1 := []) (M1 := M) (i2 := 23) (l2 := [some (.inr a0), some (.inl i1), some (.inl s0), none, none]) (s2 := []) (M2 := M) c_33 rfl).trans (t_i ?_ ?_)
  · skip
    exact ev_ns c_33 1 (ip' := 26) (ls' := [some (.inr a0), some (.inl i1), some (.inl s0), none, none]) (st' := [.inl 32]) (M' := M) rfl
  · skip
    exact ev_ns c_33 2 (ip' := 26) (ls' := [some (.inr a0), some (.inl i1), some (.inl s0), none, none]) (st' := [.inl i1]) (M' := M) rfl
set_option maxRecDepth 20000 in
theorem e_33_26 (a0 : Nat) (i1 : Int32) (i2 : Int32) (s0 : Int32) (M : mM) : ev 33 26 [some (.inr a0), some (.inl i1), some (.inl i2), none, none] [.inl s0] M = if ¬ s0 < 0 ∧ (s0).toNatClampNeg ≤ 100000 then (if h_k (h_al M 11 (s0).toNatClampNeg) a0 = 7 then (ev 33 33 [some (.inr a0), some (.inl i1), some (.inl i2), some (.inl s0), some (.inl 0)] [] (h_sr (h_al M 11 (s0).toNatClampNeg) a0 0 (h_n M + 1))) else none) else none := by
  refine (ev_ns c_33 3 (ip' := 29) (ls' := [some (.inr a0), some (.inl i1), some (.inl i2), some (.inl s0), none]) (st' := [.inl s0, .inr a0]) (M' := M) rfl).trans ?_
  refine (ev_g (¬ s0 < 0 ∧ (s0).toNatClampNeg ≤ 100000) (ip' := 30) (ls' := [some (.inr a0), some (.inl i1), some (.inl i2), some (.inl s0), none]) (st' := [.inr (h_n M + 1), .inr a0]) (M' := h_al M 11 (s0).toNatClampNeg) c_33 rfl).trans (t_i ?_ rfl)
  refine (ev_g (h_k (h_al M 11 (s0).toNatClampNeg) a0 = 7) (ip' := 31) (ls' := [some (.inr a0), some (.inl i1), some (.inl i2), some (.inl s0), none]) (st' := []) (M' := h_sr (h_al M 11 (s0).toNatClampNeg) a0 0 (h_n M + 1)) c_33 rfl).trans (t_i ?_ rfl)
  exact ev_ns c_33 2 (ip' := 33) (ls' := [some (.inr a0), some (.inl i1), some (.inl i2), some (.inl s0), some (.inl 0)]) (st' := []) (M' := h_sr (h_al M 11 (s0).toNatClampNeg) a0 0 (h_n M + 1)) rfl
set_option maxRecDepth 20000 in
theorem e_33_33 (a0 : Nat) (i1 : Int32) (i2 : Int32) (i3 : Int32) (i4 : Int32) (M : mM) : ev 33 33 [some (.inr a0), some (.inl i1), some (.inl i2), some (.inl i3), some (.inl i4)] [] M = if i3 ≤ i4 then (some (none, M)) else (if h_k M a0 = 7 then (if (a_rec (h_al M 3 9) 3 [.inr (h_n M + 1), .inl i4] = true ∧ ([.inr (h_n M + 1), .inl i4, .inr (h_r M a0 0)] : List mV).length ≤ 8) then (c_V (ev 16 0 [some (.inr (h_n M + 1)), some (.inl i4)] [] (h_al M 3 9)) fun M_1 => if ((h_k M_1 (h_r M a0 0) = 11 ∧ h_k M_1 (h_n M + 1) = 3) ∨ (h_k M_1 (h_r M a0 0) = 12 ∧ h_k M_1 (h_n M + 1) = 2)) ∧ h_in i4 (h_l M_1 (h_r M a0 0)) then (ev 33 33 [some (.inr a0), some (.inl i1), some (.inl i2), some (.inl i3), some (.inl (i4 + 1))] [] (h_sr M_1 (h_r M a0 0) (i4).toNatClampNeg (h_n M + 1))) else none) else none) else none) := by
  refine (ev_ns c_33 2 (ip' := 35) (ls' := [some (.inr a0), some (.inl i1), some (.inl i2), some (.inl i3), some (.inl i4)]) (st' := [.inl i3, .inl i4]) (M' := M) rfl).trans ?_
  refine (ev_i (i3 ≤ i4) (i1 := 46) (l1 := [some (.inr a0), some (.inl i1), some (.inl i2), some (.inl i3), some (.inl i4)]) (s1 := []) (M1 := M) (i2 := 36) (l2 := [some (.inr a0), some (.inl i1), some (.inl i2), some (.inl i3), some (.inl i4)]) (s2 := []) (M2 := M) c_33 rfl).trans (t_i ?_ ?_)
  · skip
    exact ev_d c_33 rfl
  · skip
    refine (ev_ns c_33 1 (ip' := 37) (ls' := [some (.inr a0), some (.inl i1), some (.inl i2), some (.inl i3), some (.inl i4)]) (st' := [.inr a0]) (M' := M) rfl).trans ?_
    refine (ev_g (h_k M a0 = 7) (ip' := 38) (ls' := [some (.inr a0), some (.inl i1), some (.inl i2), some (.inl i3), some (.inl i4)]) (st' := [.inr (h_r M a0 0)]) (M' := M) c_33 rfl).trans (t_i ?_ rfl)
    refine (ev_ns c_33 4 (ip' := 42) (ls' := [some (.inr a0), some (.inl i1), some (.inl i2), some (.inl i3), some (.inl i4)]) (st' := [.inl i4, .inr (h_n M + 1), .inr (h_n M + 1), .inl i4, .inr (h_r M a0 0)]) (M' := h_al M 3 9) rfl).trans ?_
    refine (ev_gV (a_rec (h_al M 3 9) 3 [.inr (h_n M + 1), .inl i4] = true ∧ ([.inr (h_n M + 1), .inl i4, .inr (h_r M a0 0)] : List mV).length ≤ 8) (as := [.inr (h_n M + 1), .inl i4]) (rr := [.inr (h_n M + 1), .inl i4, .inr (h_r M a0 0)]) c_33 c_16 rfl).trans (t_i (t_cV ?_) rfl)
    intro M_1
    refine (ev_g (((h_k M_1 (h_r M a0 0) = 11 ∧ h_k M_1 (h_n M + 1) = 3) ∨ (h_k M_1 (h_r M a0 0) = 12 ∧ h_k M_1 (h_n M + 1) = 2)) ∧ h_in i4 (h_l M_1 (h_r M a0 0))) (ip' := 44) (ls' := [some (.inr a0), some (.inl i1), some (.inl i2), some (.inl i3), some (.inl i4)]) (st' := []) (M' := h_sr M_1 (h_r M a0 0) (i4).toNatClampNeg (h_n M + 1)) c_33 rfl).trans (t_i ?_ rfl)
    exact ev_ns c_33 2 (ip' := 33) (ls' := [some (.inr a0), some (.inl i1), some (.inl i2), some (.inl i3), some (.inl (i4 + 1))]) (st' := []) (M' := h_sr M_1 (h_r M a0 0) (i4).toNatClampNeg (h_n M + 1)) rfl
/- 34: GranuleHall.load(II)I -/
set_option maxRecDepth 20000 in
theorem e_34_0 (a0 : Nat) (i1 : Int32) (i2 : Int32) (M : mM) : ev 34 0 [some (.inr a0), some (.inl i1), some (.inl i2), none] [] M = if (a_rec M 7 [.inr a0, .inl i1] = true ∧ ([] : List mV).length ≤ 8) then (c_R (ev 79 0 [some (.inr a0), some (.inl i1)] [] M) fun u_2 M_1 => if u_2 = 0 then (ev 34 9 [some (.inr a0), some (.inl i1), some (.inl i2), some (.inr u_2)] [] M_1) else (if (a_rec M_1 0 [.inl i2] = true ∧ ([] : List mV).length ≤ 8) then (c_I (ev 80 0 [some (.inl i2)] [] M_1) fun v_4 M_3 => if v_4 = 0 then (ev 34 9 [some (.inr a0), some (.inl i1), some (.inl i2), some (.inr u_2)] [] M_3) else (if h_k M_3 u_2 = 3 then (if (h_i M_3 u_2 2) = 0 then (if h_k M_3 u_2 = 3 then (if (h_k M_3 (h_r M_3 u_2 1) = 9 ∨ h_k M_3 (h_r M_3 u_2 1) = 14) ∧ h_in i2 (h_l M_3 (h_r M_3 u_2 1)) then (if (a_rec M_3 7 [.inr a0, .inl (h_i M_3 (h_r M_3 u_2 1) (i2).toNatClampNeg)] = true ∧ ([] : List mV).length ≤ 8) then (c_I (ev 73 0 [some (.inr a0), some (.inl (h_i M_3 (h_r M_3 u_2 1) (i2).toNatClampNeg))] [] M_3) fun v_6 M_5 => some (some (.inl v_6), M_5)) else none) else none) else none) else (if (a_rec M_3 7 [.inr a0, .inl 2] = true ∧ ([] : List mV).length ≤ 8) then (c_I (ev 75 0 [some (.inr a0), some (.inl 2)] [] M_3) fun v_8 M_7 => some (some (.inl v_8), M_7)) else none)) else none)) else none)) else none := by
  refine (ev_ns c_34 2 (ip' := 2) (ls' := [some (.inr a0), some (.inl i1), some (.inl i2), none]) (st' := [.inl i1, .inr a0]) (M' := M) rfl).trans ?_
  refine (ev_gR (a_rec M 7 [.inr a0, .inl i1] = true ∧ ([] : List mV).length ≤ 8) (as := [.inr a0, .inl i1]) (rr := []) c_34 c_79 rfl).trans (t_i (t_cR ?_) rfl)
  intro u_2 M_1
  refine (ev_ns c_34 2 (ip' := 5) (ls' := [some (.inr a0), some (.inl i1), some (.inl i2), some (.inr u_2)]) (st' := [.inr u_2]) (M' := M_1) rfl).trans ?_
  refine (ev_i (u_2 = 0) (i1 := 9) (l1 := [some (.inr a0), some (.inl i1), some (.inl i2), some (.inr u_2)]) (s1 := []) (M1 := M_1) (i2 := 6) (l2 := [some (.inr a0), some (.inl i1), some (.inl i2), some (.inr u_2)]) (s2 := []) (M2 := M_1) c_34 rfl).trans (t_i ?_ ?_)
  · skip
    exact rfl
  · skip
    refine (ev_ns c_34 1 (ip' := 7) (ls' := [some (.inr a0), some (.inl i1), some (.inl i2), some (.inr u_2)]) (st' := [.inl i2]) (M' := M_1) rfl).trans ?_
    refine (ev_gI (a_rec M_1 0 [.inl i2] = true ∧ ([] : List mV).length ≤ 8) (as := [.inl i2]) (rr := []) c_34 c_80 rfl).trans (t_i (t_cI ?_) rfl)
    intro v_4 M_3
    refine (ev_i (v_4 = 0) (i1 := 9) (l1 := [some (.inr a0), some (.inl i1), some (.inl i2), some (.inr u_2)]) (s1 := []) (M1 := M_3) (i2 := 13) (l2 := [some (.inr a0), some (.inl i1), some (.inl i2), some (.inr u_2)]) (s2 := []) (M2 := M_3) c_34 rfl).trans (t_i ?_ ?_)
    · skip
      exact rfl
    · skip
      refine (ev_ns c_34 1 (ip' := 14) (ls' := [some (.inr a0), some (.inl i1), some (.inl i2), some (.inr u_2)]) (st' := [.inr u_2]) (M' := M_3) rfl).trans ?_
      refine (ev_g (h_k M_3 u_2 = 3) (ip' := 15) (ls' := [some (.inr a0), some (.inl i1), some (.inl i2), some (.inr u_2)]) (st' := [.inl (h_i M_3 u_2 2)]) (M' := M_3) c_34 rfl).trans (t_i ?_ rfl)
      refine (ev_i ((h_i M_3 u_2 2) = 0) (i1 := 20) (l1 := [some (.inr a0), some (.inl i1), some (.inl i2), some (.inr u_2)]) (s1 := []) (M1 := M_3) (i2 := 16) (l2 := [some (.inr a0), some (.inl i1), some (.inl i2), some (.inr u_2)]) (s2 := []) (M2 := M_3) c_34 rfl).trans (t_i ?_ ?_)
      · skip
        refine (ev_ns c_34 2 (ip' := 22) (ls' := [some (.inr a0), some (.inl i1), some (.inl i2), some (.inr u_2)]) (st' := [.inr u_2, .inr a0]) (M' := M_3) rfl).trans ?_
        refine (ev_g (h_k M_3 u_2 = 3) (ip' := 23) (ls' := [some (.inr a0), some (.inl i1), some (.inl i2), some (.inr u_2)]) (st' := [.inr (h_r M_3 u_2 1), .inr a0]) (M' := M_3) c_34 rfl).trans (t_i ?_ rfl)
        refine (ev_ns c_34 1 (ip' := 24) (ls' := [some (.inr a0), some (.inl i1), some (.inl i2), some (.inr u_2)]) (st' := [.inl i2, .inr (h_r M_3 u_2 1), .inr a0]) (M' := M_3) rfl).trans ?_
        refine (ev_g ((h_k M_3 (h_r M_3 u_2 1) = 9 ∨ h_k M_3 (h_r M_3 u_2 1) = 14) ∧ h_in i2 (h_l M_3 (h_r M_3 u_2 1))) (ip' := 25) (ls' := [some (.inr a0), some (.inl i1), some (.inl i2), some (.inr u_2)]) (st' := [.inl (h_i M_3 (h_r M_3 u_2 1) (i2).toNatClampNeg), .inr a0]) (M' := M_3) c_34 rfl).trans (t_i ?_ rfl)
        refine (ev_gI (a_rec M_3 7 [.inr a0, .inl (h_i M_3 (h_r M_3 u_2 1) (i2).toNatClampNeg)] = true ∧ ([] : List mV).length ≤ 8) (as := [.inr a0, .inl (h_i M_3 (h_r M_3 u_2 1) (i2).toNatClampNeg)]) (rr := []) c_34 c_73 rfl).trans (t_i (t_cI ?_) rfl)
        intro v_6 M_5
        exact ev_d c_34 rfl
      · skip
        refine (ev_ns c_34 2 (ip' := 18) (ls' := [some (.inr a0), some (.inl i1), some (.inl i2), some (.inr u_2)]) (st' := [.inl 2, .inr a0]) (M' := M_3) rfl).trans ?_
        refine (ev_gI (a_rec M_3 7 [.inr a0, .inl 2] = true ∧ ([] : List mV).length ≤ 8) (as := [.inr a0, .inl 2]) (rr := []) c_34 c_75 rfl).trans (t_i (t_cI ?_) rfl)
        intro v_8 M_7
        exact ev_d c_34 rfl
set_option maxRecDepth 20000 in
theorem e_34_9 (a0 : Nat) (i1 : Int32) (i2 : Int32) (a3 : Nat) (M : mM) : ev 34 9 [some (.inr a0), some (.inl i1), some (.inl i2), some (.inr a3)] [] M = if (a_rec M 7 [.inr a0, .inl 1] = true ∧ ([] : List mV).length ≤ 8) then (c_I (ev 75 0 [some (.inr a0), some (.inl 1)] [] M) fun v_2 M_1 => some (some (.inl v_2), M_1)) else none := by
  refine (ev_ns c_34 2 (ip' := 11) (ls' := [some (.inr a0), some (.inl i1), some (.inl i2), some (.inr a3)]) (st' := [.inl 1, .inr a0]) (M' := M) rfl).trans ?_
  refine (ev_gI (a_rec M 7 [.inr a0, .inl 1] = true ∧ ([] : List mV).length ≤ 8) (as := [.inr a0, .inl 1]) (rr := []) c_34 c_75 rfl).trans (t_i (t_cI ?_) rfl)
  intro v_2 M_1
  exact ev_d c_34 rfl
/- 35: GranuleHall.store(III)Z -/
set_option maxRecDepth 20000 in
theorem e_35_0 (a0 : Nat) (i1 : Int32) (i2 : Int32) (i3 : Int32) (M : mM) : ev 35 0 [some (.inr a0), some (.inl i1), some (.inl i2), some (.inl i3), none] [] M = if (a_rec M 7 [.inr a0, .inl i1] = true ∧ ([] : List mV).length ≤ 8) then (c_R (ev 79 0 [some (.inr a0), some (.inl i1)] [] M) fun u_2 M_1 => if u_2 = 0 then (ev 35 9 [some (.inr a0), some (.inl i1), some (.inl i2), some (.inl i3), some (.inr u_2)] [] M_1) else (if (a_rec M_1 0 [.inl i2] = true ∧ ([] : List mV).length ≤ 8) then (c_I (ev 80 0 [some (.inl i2)] [] M_1) fun v_4 M_3 => if v_4 = 0 then (ev 35 9 [some (.inr a0), some (.inl i1), some (.inl i2), some (.inl i3), some (.inr u_2)] [] M_3) else (if h_k M_3 u_2 = 3 then (if (h_i M_3 u_2 2) = 0 then (if h_k M_3 u_2 = 3 then (if h_k M_3 (h_r M_3 u_2 1) = 9 ∧ h_in i2 (h_l M_3 (h_r M_3 u_2 1)) then (if (a_rec (h_si M_3 (h_r M_3 u_2 1) (i2).toNatClampNeg i3) 7 [.inr a0] = true ∧ ([] : List mV).length ≤ 8) then (c_I (ev 74 0 [some (.inr a0)] [] (h_si M_3 (h_r M_3 u_2 1) (i2).toNatClampNeg i3)) fun v_6 M_5 => if v_6 = 0 ∨ v_6 = 1 then some (some (.inl v_6), M_5) else none) else none) else none) else none) else (if (a_rec M_3 7 [.inr a0, .inl 2] = true ∧ ([] : List mV).length ≤ 8) then (c_I (ev 76 0 [some (.inr a0), some (.inl 2)] [] M_3) fun v_8 M_7 => if v_8 = 0 ∨ v_8 = 1 then some (some (.inl v_8), M_7) else none) else none)) else none)) else none)) else none := by
  refine (ev_ns c_35 2 (ip' := 2) (ls' := [some (.inr a0), some (.inl i1), some (.inl i2), some (.inl i3), none]) (st' := [.inl i1, .inr a0]) (M' := M) rfl).trans ?_
  refine (ev_gR (a_rec M 7 [.inr a0, .inl i1] = true ∧ ([] : List mV).length ≤ 8) (as := [.inr a0, .inl i1]) (rr := []) c_35 c_79 rfl).trans (t_i (t_cR ?_) rfl)
  intro u_2 M_1
  refine (ev_ns c_35 2 (ip' := 5) (ls' := [some (.inr a0), some (.inl i1), some (.inl i2), some (.inl i3), some (.inr u_2)]) (st' := [.inr u_2]) (M' := M_1) rfl).trans ?_
  refine (ev_i (u_2 = 0) (i1 := 9) (l1 := [some (.inr a0), some (.inl i1), some (.inl i2), some (.inl i3), some (.inr u_2)]) (s1 := []) (M1 := M_1) (i2 := 6) (l2 := [some (.inr a0), some (.inl i1), some (.inl i2), some (.inl i3), some (.inr u_2)]) (s2 := []) (M2 := M_1) c_35 rfl).trans (t_i ?_ ?_)
  · skip
    exact rfl
  · skip
    refine (ev_ns c_35 1 (ip' := 7) (ls' := [some (.inr a0), some (.inl i1), some (.inl i2), some (.inl i3), some (.inr u_2)]) (st' := [.inl i2]) (M' := M_1) rfl).trans ?_
    refine (ev_gI (a_rec M_1 0 [.inl i2] = true ∧ ([] : List mV).length ≤ 8) (as := [.inl i2]) (rr := []) c_35 c_80 rfl).trans (t_i (t_cI ?_) rfl)
    intro v_4 M_3
    refine (ev_i (v_4 = 0) (i1 := 9) (l1 := [some (.inr a0), some (.inl i1), some (.inl i2), some (.inl i3), some (.inr u_2)]) (s1 := []) (M1 := M_3) (i2 := 13) (l2 := [some (.inr a0), some (.inl i1), some (.inl i2), some (.inl i3), some (.inr u_2)]) (s2 := []) (M2 := M_3) c_35 rfl).trans (t_i ?_ ?_)
    · skip
      exact rfl
    · skip
      refine (ev_ns c_35 1 (ip' := 14) (ls' := [some (.inr a0), some (.inl i1), some (.inl i2), some (.inl i3), some (.inr u_2)]) (st' := [.inr u_2]) (M' := M_3) rfl).trans ?_
      refine (ev_g (h_k M_3 u_2 = 3) (ip' := 15) (ls' := [some (.inr a0), some (.inl i1), some (.inl i2), some (.inl i3), some (.inr u_2)]) (st' := [.inl (h_i M_3 u_2 2)]) (M' := M_3) c_35 rfl).trans (t_i ?_ rfl)
      refine (ev_i ((h_i M_3 u_2 2) = 0) (i1 := 20) (l1 := [some (.inr a0), some (.inl i1), some (.inl i2), some (.inl i3), some (.inr u_2)]) (s1 := []) (M1 := M_3) (i2 := 16) (l2 := [some (.inr a0), some (.inl i1), some (.inl i2), some (.inl i3), some (.inr u_2)]) (s2 := []) (M2 := M_3) c_35 rfl).trans (t_i ?_ ?_)
      · skip
        refine (ev_ns c_35 1 (ip' := 21) (ls' := [some (.inr a0), some (.inl i1), some (.inl i2), some (.inl i3), some (.inr u_2)]) (st' := [.inr u_2]) (M' := M_3) rfl).trans ?_
        refine (ev_g (h_k M_3 u_2 = 3) (ip' := 22) (ls' := [some (.inr a0), some (.inl i1), some (.inl i2), some (.inl i3), some (.inr u_2)]) (st' := [.inr (h_r M_3 u_2 1)]) (M' := M_3) c_35 rfl).trans (t_i ?_ rfl)
        refine (ev_ns c_35 2 (ip' := 24) (ls' := [some (.inr a0), some (.inl i1), some (.inl i2), some (.inl i3), some (.inr u_2)]) (st' := [.inl i3, .inl i2, .inr (h_r M_3 u_2 1)]) (M' := M_3) rfl).trans ?_
        refine (ev_g (h_k M_3 (h_r M_3 u_2 1) = 9 ∧ h_in i2 (h_l M_3 (h_r M_3 u_2 1))) (ip' := 25) (ls' := [some (.inr a0), some (.inl i1), some (.inl i2), some (.inl i3), some (.inr u_2)]) (st' := []) (M' := h_si M_3 (h_r M_3 u_2 1) (i2).toNatClampNeg i3) c_35 rfl).trans (t_i ?_ rfl)
        refine (ev_ns c_35 1 (ip' := 26) (ls' := [some (.inr a0), some (.inl i1), some (.inl i2), some (.inl i3), some (.inr u_2)]) (st' := [.inr a0]) (M' := h_si M_3 (h_r M_3 u_2 1) (i2).toNatClampNeg i3) rfl).trans ?_
        refine (ev_gI (a_rec (h_si M_3 (h_r M_3 u_2 1) (i2).toNatClampNeg i3) 7 [.inr a0] = true ∧ ([] : List mV).length ≤ 8) (as := [.inr a0]) (rr := []) c_35 c_74 rfl).trans (t_i (t_cI ?_) rfl)
        intro v_6 M_5
        exact ev_gd (v_6 = 0 ∨ v_6 = 1) c_35 rfl
      · skip
        refine (ev_ns c_35 2 (ip' := 18) (ls' := [some (.inr a0), some (.inl i1), some (.inl i2), some (.inl i3), some (.inr u_2)]) (st' := [.inl 2, .inr a0]) (M' := M_3) rfl).trans ?_
        refine (ev_gI (a_rec M_3 7 [.inr a0, .inl 2] = true ∧ ([] : List mV).length ≤ 8) (as := [.inr a0, .inl 2]) (rr := []) c_35 c_76 rfl).trans (t_i (t_cI ?_) rfl)
        intro v_8 M_7
        exact ev_gd (v_8 = 0 ∨ v_8 = 1) c_35 rfl
set_option maxRecDepth 20000 in
theorem e_35_9 (a0 : Nat) (i1 : Int32) (i2 : Int32) (i3 : Int32) (a4 : Nat) (M : mM) : ev 35 9 [some (.inr a0), some (.inl i1), some (.inl i2), some (.inl i3), some (.inr a4)] [] M = if (a_rec M 7 [.inr a0, .inl 1] = true ∧ ([] : List mV).length ≤ 8) then (c_I (ev 76 0 [some (.inr a0), some (.inl 1)] [] M) fun v_2 M_1 => if v_2 = 0 ∨ v_2 = 1 then some (some (.inl v_2), M_1) else none) else none := by
  refine (ev_ns c_35 2 (ip' := 11) (ls' := [some (.inr a0), some (.inl i1), some (.inl i2), some (.inl i3), some (.inr a4)]) (st' := [.inl 1, .inr a0]) (M' := M) rfl).trans ?_
  refine (ev_gI (a_rec M 7 [.inr a0, .inl 1] = true ∧ ([] : List mV).length ≤ 8) (as := [.inr a0, .inl 1]) (rr := []) c_35 c_76 rfl).trans (t_i (t_cI ?_) rfl)
  intro v_2 M_1
  exact ev_gd (v_2 = 0 ∨ v_2 = 1) c_35 rfl
/- 36: GranuleHall.delegate(I)Z -/
set_option maxRecDepth 20000 in
theorem e_36_0 (a0 : Nat) (i1 : Int32) (M : mM) : ev 36 0 [some (.inr a0), some (.inl i1)] [] M = if (a_rec M 7 [.inr a0, .inl i1, .inl 0, .inl 1] = true ∧ ([] : List mV).length ≤ 8) then (c_I (ev 90 0 [some (.inr a0), some (.inl i1), some (.inl 0), some (.inl 1), none] [] M) fun v_2 M_1 => if v_2 = 0 ∨ v_2 = 1 then some (some (.inl v_2), M_1) else none) else none := by
  refine (ev_ns c_36 4 (ip' := 4) (ls' := [some (.inr a0), some (.inl i1)]) (st' := [.inl 1, .inl 0, .inl i1, .inr a0]) (M' := M) rfl).trans ?_
  refine (ev_gI (a_rec M 7 [.inr a0, .inl i1, .inl 0, .inl 1] = true ∧ ([] : List mV).length ≤ 8) (as := [.inr a0, .inl i1, .inl 0, .inl 1]) (rr := []) c_36 c_90 rfl).trans (t_i (t_cI ?_) rfl)
  intro v_2 M_1
  exact ev_gd (v_2 = 0 ∨ v_2 = 1) c_36 rfl
/- 37: GranuleHall.undelegate(I)Z -/
set_option maxRecDepth 20000 in
theorem e_37_0 (a0 : Nat) (i1 : Int32) (M : mM) : ev 37 0 [some (.inr a0), some (.inl i1)] [] M = if (a_rec M 7 [.inr a0, .inl i1, .inl 1, .inl 0] = true ∧ ([] : List mV).length ≤ 8) then (c_I (ev 90 0 [some (.inr a0), some (.inl i1), some (.inl 1), some (.inl 0), none] [] M) fun v_2 M_1 => if v_2 = 0 ∨ v_2 = 1 then some (some (.inl v_2), M_1) else none) else none := by
  refine (ev_ns c_37 4 (ip' := 4) (ls' := [some (.inr a0), some (.inl i1)]) (st' := [.inl 0, .inl 1, .inl i1, .inr a0]) (M' := M) rfl).trans ?_
  refine (ev_gI (a_rec M 7 [.inr a0, .inl i1, .inl 1, .inl 0] = true ∧ ([] : List mV).length ≤ 8) (as := [.inr a0, .inl i1, .inl 1, .inl 0]) (rr := []) c_37 c_90 rfl).trans (t_i (t_cI ?_) rfl)
  intro v_2 M_1
  exact ev_gd (v_2 = 0 ∨ v_2 = 1) c_37 rfl
/- 38: GranuleHall.create(II)Z -/
set_option maxRecDepth 20000 in
theorem e_38_0 (a0 : Nat) (i1 : Int32) (i2 : Int32) (M : mM) : ev 38 0 [some (.inr a0), some (.inl i1), some (.inl i2), none, none, none, none] [] M = if (a_rec M 7 [.inr a0, .inl i1] = true ∧ ([] : List mV).length ≤ 8) then (c_R (ev 79 0 [some (.inr a0), some (.inl i1)] [] M) fun u_2 M_1 => if (a_rec M_1 7 [.inr a0, .inl i2] = true ∧ ([] : List mV).length ≤ 8) then (c_R (ev 79 0 [some (.inr a0), some (.inl i2)] [] M_1) fun u_4 M_3 => if u_2 = 0 then (ev 38 15 [some (.inr a0), some (.inl i1), some (.inl i2), some (.inr u_2), some (.inr u_4), none, none] [] M_3) else (if u_4 = 0 then (ev 38 15 [some (.inr a0), some (.inl i1), some (.inl i2), some (.inr u_2), some (.inr u_4), none, none] [] M_3) else (if i1 = i2 then (ev 38 15 [some (.inr a0), some (.inl i1), some (.inl i2), some (.inr u_2), some (.inr u_4), none, none] [] M_3) else (if h_k M_3 u_2 = 3 then (if (h_i M_3 u_2 2) = 1 then (if h_k M_3 u_4 = 3 then (if (h_i M_3 u_4 2) = 1 then (if (a_rec (h_al M_3 6 3) 6 [.inr (h_n M_3 + 1), .inr u_4, .inl 0, .inl 0, .inl 0] = true ∧ ([.inr (h_n M_3 + 1)] : List mV).length ≤ 8) then (c_V (ev 27 0 [some (.inr (h_n M_3 + 1)), some (.inr u_4), some (.inl 0), some (.inl 0), some (.inl 0), none] [] (h_al M_3 6 3)) fun M_5 => if (a_rec (h_al M_5 4 8) 4 [.inr (h_n M_5 + 1), .inr u_2, .inr (h_n M_3 + 1)] = true ∧ ([.inr (h_n M_5 + 1)] : List mV).length ≤ 8) then (c_V (ev 21 0 [some (.inr (h_n M_5 + 1)), some (.inr u_2), some (.inr (h_n M_3 + 1))] [] (h_al M_5 4 8)) fun M_6 => if (a_rec M_6 3 [.inr u_2, .inl 2, .inr (h_n M_5 + 1), .inl (-1)] = true ∧ ([] : List mV).length ≤ 8) then (c_V (ev 17 0 [some (.inr u_2), some (.inl 2), some (.inr (h_n M_5 + 1)), some (.inl (-1))] [] M_6) fun M_7 => if (a_rec M_7 3 [.inr u_4, .inr (h_n M_5 + 1), .inr (h_n M_3 + 1)] = true ∧ ([] : List mV).length ≤ 8) then (c_V (ev 18 0 [some (.inr u_4), some (.inr (h_n M_5 + 1)), some (.inr (h_n M_3 + 1))] [] M_7) fun M_8 => if h_k M_8 a0 = 7 then (if (a_rec M_8 1 [.inr (h_r M_8 a0 1)] = true ∧ ([] : List mV).length ≤ 8) then (c_V (ev 1 0 [some (.inr (h_r M_8 a0 1))] [] M_8) fun M_9 => if h_k M_9 a0 = 7 then (if (a_rec M_9 1 [.inr (h_r M_9 a0 1), .inl 1] = true ∧ ([] : List mV).length ≤ 8) then (c_V (ev 3 0 [some (.inr (h_r M_9 a0 1)), some (.inl 1)] [] M_9) fun M_10 => if h_k M_10 a0 = 7 then (if h_k M_10 a0 = 7 then (if 9 ≤ h_k M_10 (h_r M_10 a0 0) ∧ h_k M_10 (h_r M_10 a0 0) ≤ 13 then (if (a_rec M_10 1 [.inr (h_r M_10 a0 1), .inl (Int32.ofNat (h_l M_10 (h_r M_10 a0 0)))] = true ∧ ([] : List mV).length ≤ 8) then (c_V (ev 3 0 [some (.inr (h_r M_10 a0 1)), some (.inl (Int32.ofNat (h_l M_10 (h_r M_10 a0 0))))] [] M_10) fun M_11 => if h_k M_11 a0 = 7 then (if (a_rec M_11 4 [.inr (h_n M_5 + 1)] = true ∧ ([.inr (h_r M_11 a0 1)] : List mV).length ≤ 8) then (c_R (ev 22 0 [some (.inr (h_n M_5 + 1))] [] M_11) fun u_13 M_12 => if (a_rec M_12 1 [.inr (h_r M_11 a0 1), .inr u_13, .inl 0, .inl 8] = true ∧ ([] : List mV).length ≤ 8) then (c_V (ev 5 0 [some (.inr (h_r M_11 a0 1)), some (.inr u_13), some (.inl 0), some (.inl 8), none, none, none] [] M_12) fun M_14 => if (a_rec M_14 7 [.inr a0] = true ∧ ([] : List mV).length ≤ 8) then (c_I (ev 74 0 [some (.inr a0)] [] M_14) fun v_16 M_15 => if v_16 = 0 ∨ v_16 = 1 then some (some (.inl v_16), M_15) else none) else none) else none) else none) else none) else none) else none) else none) else none) else none) else none) else none) else none) else none) else none) else none) else none) else (ev 38 27 [some (.inr a0), some (.inl i1), some (.inl i2), some (.inr u_2), some (.inr u_4), none, none] [] M_3)) else none) else (ev 38 27 [some (.inr a0), some (.inl i1), some (.inl i2), some (.inr u_2), some (.inr u_4), none, none] [] M_3)) else none)))) else none) else none := by
  refine (ev_ns c_38 2 (ip' := 2) (ls' := [some (.inr a0), some (.inl i1), some (.inl i2), none, none, none, none]) (st' := [.inl i1, .inr a0]) (M' := M) rfl).trans ?_
  refine (ev_gR (a_rec M 7 [.inr a0, .inl i1] = true ∧ ([] : List mV).length ≤ 8) (as := [.inr a0, .inl i1]) (rr := []) c_38 c_79 rfl).trans (t_i (t_cR ?_) rfl)
  intro u_2 M_1
  refine (ev_ns c_38 3 (ip' := 6) (ls' := [some (.inr a0), some (.inl i1), some (.inl i2), some (.inr u_2), none, none, none]) (st' := [.inl i2, .inr a0]) (M' := M_1) rfl).trans ?_
  refine (ev_gR (a_rec M_1 7 [.inr a0, .inl i2] = true ∧ ([] : List mV).length ≤ 8) (as := [.inr a0, .inl i2]) (rr := []) c_38 c_79 rfl).trans (t_i (t_cR ?_) rfl)
  intro u_4 M_3
  refine (ev_ns c_38 2 (ip' := 9) (ls' := [some (.inr a0), some (.inl i1), some (.inl i2), some (.inr u_2), some (.inr u_4), none, none]) (st' := [.inr u_2]) (M' := M_3) rfl).trans ?_
  refine (ev_i (u_2 = 0) (i1 := 15) (l1 := [some (.inr a0), some (.inl i1), some (.inl i2), some (.inr u_2), some (.inr u_4), none, none]) (s1 := []) (M1 := M_3) (i2 := 10) (l2 := [some (.inr a0), some (.inl i1), some (.inl i2), some (.inr u_2), some (.inr u_4), none, none]) (s2 := []) (M2 := M_3) c_38 rfl).trans (t_i ?_ ?_)
  · skip
    exact rfl
  · skip
    refine (ev_ns c_38 1 (ip' := 11) (ls' := [some (.inr a0), some (.inl i1), some (.inl i2), some (.inr u_2), some (.inr u_4), none, none]) (st' := [.inr u_4]) (M' := M_3) rfl).trans ?_
    refine (ev_i (u_4 = 0) (i1 := 15) (l1 := [some (.inr a0), some (.inl i1), some (.inl i2), some (.inr u_2), some (.inr u_4), none, none]) (s1 := []) (M1 := M_3) (i2 := 12) (l2 := [some (.inr a0), some (.inl i1), some (.inl i2), some (.inr u_2), some (.inr u_4), none, none]) (s2 := []) (M2 := M_3) c_38 rfl).trans (t_i ?_ ?_)
    · skip
      exact rfl
    · skip
      refine (ev_ns c_38 2 (ip' := 14) (ls' := [some (.inr a0), some (.inl i1), some (.inl i2), some (.inr u_2), some (.inr u_4), none, none]) (st' := [.inl i2, .inl i1]) (M' := M_3) rfl).trans ?_
      refine (ev_i (i1 = i2) (i1 := 15) (l1 := [some (.inr a0), some (.inl i1), some (.inl i2), some (.inr u_2), some (.inr u_4), none, none]) (s1 := []) (M1 := M_3) (i2 := 19) (l2 := [some (.inr a0), some (.inl i1), some (.inl i2), some (.inr u_2), some (.inr u_4), none, none]) (s2 := []) (M2 := M_3) c_38 rfl).trans (t_i ?_ ?_)
      · skip
        exact rfl
      · skip
        refine (ev_ns c_38 1 (ip' := 20) (ls' := [some (.inr a0), some (.inl i1), some (.inl i2), some (.inr u_2), some (.inr u_4), none, none]) (st' := [.inr u_2]) (M' := M_3) rfl).trans ?_
        refine (ev_g (h_k M_3 u_2 = 3) (ip' := 21) (ls' := [some (.inr a0), some (.inl i1), some (.inl i2), some (.inr u_2), some (.inr u_4), none, none]) (st' := [.inl (h_i M_3 u_2 2)]) (M' := M_3) c_38 rfl).trans (t_i ?_ rfl)
        refine (ev_ns c_38 1 (ip' := 22) (ls' := [some (.inr a0), some (.inl i1), some (.inl i2), some (.inr u_2), some (.inr u_4), none, none]) (st' := [.inl 1, .inl (h_i M_3 u_2 2)]) (M' := M_3) rfl).trans ?_
        refine (ev_i ((h_i M_3 u_2 2) = 1) (i1 := 23) (l1 := [some (.inr a0), some (.inl i1), some (.inl i2), some (.inr u_2), some (.inr u_4), none, none]) (s1 := []) (M1 := M_3) (i2 := 27) (l2 := [some (.inr a0), some (.inl i1), some (.inl i2), some (.inr u_2), some (.inr u_4), none, none]) (s2 := []) (M2 := M_3) c_38 rfl).trans (t_i ?_ ?_)
        · skip
          refine (ev_ns c_38 1 (ip' := 24) (ls' := [some (.inr a0), some (.inl i1), some (.inl i2), some (.inr u_2), some (.inr u_4), none, none]) (st' := [.inr u_4]) (M' := M_3) rfl).trans ?_
          refine (ev_g (h_k M_3 u_4 = 3) (ip' := 25) (ls' := [some (.inr a0), some (.inl i1), some (.inl i2), some (.inr u_2), some (.inr u_4), none, none]) (st' := [.inl (h_i M_3 u_4 2)]) (M' := M_3) c_38 rfl).trans (t_i ?_ rfl)
          refine (ev_ns c_38 1 (ip' := 26) (ls' := [some (.inr a0), some (.inl i1), some (.inl i2), some (.inr u_2), some (.inr u_4), none, none]) (st' := [.inl 1, .inl (h_i M_3 u_4 2)]) (M' := M_3) rfl).trans ?_
          refine (ev_i ((h_i M_3 u_4 2) = 1) (i1 := 31) (l1 := [some (.inr a0), some (.inl i1), some (.inl i2), some (.inr u_2), some (.inr u_4), none, none]) (s1 := []) (M1 := M_3) (i2 := 27) (l2 := [some (.inr a0), some (.inl i1), some (.inl i2), some (.inr u_2), some (.inr u_4), none, none]) (s2 := []) (M2 := M_3) c_38 rfl).trans (t_i ?_ ?_)
          · skip
            refine (ev_ns c_38 6 (ip' := 37) (ls' := [some (.inr a0), some (.inl i1), some (.inl i2), some (.inr u_2), some (.inr u_4), none, none]) (st' := [.inl 0, .inl 0, .inl 0, .inr u_4, .inr (h_n M_3 + 1), .inr (h_n M_3 + 1)]) (M' := h_al M_3 6 3) rfl).trans ?_
            refine (ev_gV (a_rec (h_al M_3 6 3) 6 [.inr (h_n M_3 + 1), .inr u_4, .inl 0, .inl 0, .inl 0] = true ∧ ([.inr (h_n M_3 + 1)] : List mV).length ≤ 8) (as := [.inr (h_n M_3 + 1), .inr u_4, .inl 0, .inl 0, .inl 0]) (rr := [.inr (h_n M_3 + 1)]) c_38 c_27 rfl).trans (t_i (t_cV ?_) rfl)
            intro M_5
            refine (ev_ns c_38 5 (ip' := 43) (ls' := [some (.inr a0), some (.inl i1), some (.inl i2), some (.inr u_2), some (.inr u_4), some (.inr (h_n M_3 + 1)), none]) (st' := [.inr (h_n M_3 + 1), .inr u_2, .inr (h_n M_5 + 1), .inr (h_n M_5 + 1)]) (M' := h_al M_5 4 8) rfl).trans ?_
            refine (ev_gV (a_rec (h_al M_5 4 8) 4 [.inr (h_n M_5 + 1), .inr u_2, .inr (h_n M_3 + 1)] = true ∧ ([.inr (h_n M_5 + 1)] : List mV).length ≤ 8) (as := [.inr (h_n M_5 + 1), .inr u_2, .inr (h_n M_3 + 1)]) (rr := [.inr (h_n M_5 + 1)]) c_38 c_21 rfl).trans (t_i (t_cV ?_) rfl)
            intro M_6
            refine (ev_ns c_38 5 (ip' := 49) (ls' := [some (.inr a0), some (.inl i1), some (.inl i2), some (.inr u_2), some (.inr u_4), some (.inr (h_n M_3 + 1)), some (.inr (h_n M_5 + 1))]) (st' := [.inl (-1), .inr (h_n M_5 + 1), .inl 2, .inr u_2]) (M' := M_6) rfl).trans ?_
            refine (ev_gV (a_rec M_6 3 [.inr u_2, .inl 2, .inr (h_n M_5 + 1), .inl (-1)] = true ∧ ([] : List mV).length ≤ 8) (as := [.inr u_2, .inl 2, .inr (h_n M_5 + 1), .inl (-1)]) (rr := []) c_38 c_17 rfl).trans (t_i (t_cV ?_) rfl)
            intro M_7
            refine (ev_ns c_38 3 (ip' := 53) (ls' := [some (.inr a0), some (.inl i1), some (.inl i2), some (.inr u_2), some (.inr u_4), some (.inr (h_n M_3 + 1)), some (.inr (h_n M_5 + 1))]) (st' := [.inr (h_n M_3 + 1), .inr (h_n M_5 + 1), .inr u_4]) (M' := M_7) rfl).trans ?_
            refine (ev_gV (a_rec M_7 3 [.inr u_4, .inr (h_n M_5 + 1), .inr (h_n M_3 + 1)] = true ∧ ([] : List mV).length ≤ 8) (as := [.inr u_4, .inr (h_n M_5 + 1), .inr (h_n M_3 + 1)]) (rr := []) c_38 c_18 rfl).trans (t_i (t_cV ?_) rfl)
            intro M_8
            refine (ev_ns c_38 1 (ip' := 55) (ls' := [some (.inr a0), some (.inl i1), some (.inl i2), some (.inr u_2), some (.inr u_4), some (.inr (h_n M_3 + 1)), some (.inr (h_n M_5 + 1))]) (st' := [.inr a0]) (M' := M_8) rfl).trans ?_
            refine (ev_g (h_k M_8 a0 = 7) (ip' := 56) (ls' := [some (.inr a0), some (.inl i1), some (.inl i2), some (.inr u_2), some (.inr u_4), some (.inr (h_n M_3 + 1)), some (.inr (h_n M_5 + 1))]) (st' := [.inr (h_r M_8 a0 1)]) (M' := M_8) c_38 rfl).trans (t_i ?_ rfl)
            refine (ev_gV (a_rec M_8 1 [.inr (h_r M_8 a0 1)] = true ∧ ([] : List mV).length ≤ 8) (as := [.inr (h_r M_8 a0 1)]) (rr := []) c_38 c_1 rfl).trans (t_i (t_cV ?_) rfl)
            intro M_9
            refine (ev_ns c_38 1 (ip' := 58) (ls' := [some (.inr a0), some (.inl i1), some (.inl i2), some (.inr u_2), some (.inr u_4), some (.inr (h_n M_3 + 1)), some (.inr (h_n M_5 + 1))]) (st' := [.inr a0]) (M' := M_9) rfl).trans ?_
            refine (ev_g (h_k M_9 a0 = 7) (ip' := 59) (ls' := [some (.inr a0), some (.inl i1), some (.inl i2), some (.inr u_2), some (.inr u_4), some (.inr (h_n M_3 + 1)), some (.inr (h_n M_5 + 1))]) (st' := [.inr (h_r M_9 a0 1)]) (M' := M_9) c_38 rfl).trans (t_i ?_ rfl)
            refine (ev_ns c_38 1 (ip' := 60) (ls' := [some (.inr a0), some (.inl i1), some (.inl i2), some (.inr u_2), some (.inr u_4), some (.inr (h_n M_3 + 1)), some (.inr (h_n M_5 + 1))]) (st' := [.inl 1, .inr (h_r M_9 a0 1)]) (M' := M_9) rfl).trans ?_
            refine (ev_gV (a_rec M_9 1 [.inr (h_r M_9 a0 1), .inl 1] = true ∧ ([] : List mV).length ≤ 8) (as := [.inr (h_r M_9 a0 1), .inl 1]) (rr := []) c_38 c_3 rfl).trans (t_i (t_cV ?_) rfl)
            intro M_10
            refine (ev_ns c_38 1 (ip' := 62) (ls' := [some (.inr a0), some (.inl i1), some (.inl i2), some (.inr u_2), some (.inr u_4), some (.inr (h_n M_3 + 1)), some (.inr (h_n M_5 + 1))]) (st' := [.inr a0]) (M' := M_10) rfl).trans ?_
            refine (ev_g (h_k M_10 a0 = 7) (ip' := 63) (ls' := [some (.inr a0), some (.inl i1), some (.inl i2), some (.inr u_2), some (.inr u_4), some (.inr (h_n M_3 + 1)), some (.inr (h_n M_5 + 1))]) (st' := [.inr (h_r M_10 a0 1)]) (M' := M_10) c_38 rfl).trans (t_i ?_ rfl)
            refine (ev_ns c_38 1 (ip' := 64) (ls' := [some (.inr a0), some (.inl i1), some (.inl i2), some (.inr u_2), some (.inr u_4), some (.inr (h_n M_3 + 1)), some (.inr (h_n M_5 + 1))]) (st' := [.inr a0, .inr (h_r M_10 a0 1)]) (M' := M_10) rfl).trans ?_
            refine (ev_g (h_k M_10 a0 = 7) (ip' := 65) (ls' := [some (.inr a0), some (.inl i1), some (.inl i2), some (.inr u_2), some (.inr u_4), some (.inr (h_n M_3 + 1)), some (.inr (h_n M_5 + 1))]) (st' := [.inr (h_r M_10 a0 0), .inr (h_r M_10 a0 1)]) (M' := M_10) c_38 rfl).trans (t_i ?_ rfl)
            refine (ev_g (9 ≤ h_k M_10 (h_r M_10 a0 0) ∧ h_k M_10 (h_r M_10 a0 0) ≤ 13) (ip' := 66) (ls' := [some (.inr a0), some (.inl i1), some (.inl i2), some (.inr u_2), some (.inr u_4), some (.inr (h_n M_3 + 1)), some (.inr (h_n M_5 + 1))]) (st' := [.inl (Int32.ofNat (h_l M_10 (h_r M_10 a0 0))), .inr (h_r M_10 a0 1)]) (M' := M_10) c_38 rfl).trans (t_i ?_ rfl)
            refine (ev_gV (a_rec M_10 1 [.inr (h_r M_10 a0 1), .inl (Int32.ofNat (h_l M_10 (h_r M_10 a0 0)))] = true ∧ ([] : List mV).length ≤ 8) (as := [.inr (h_r M_10 a0 1), .inl (Int32.ofNat (h_l M_10 (h_r M_10 a0 0)))]) (rr := []) c_38 c_3 rfl).trans (t_i (t_cV ?_) rfl)
            intro M_11
            refine (ev_ns c_38 1 (ip' := 68) (ls' := [some (.inr a0), some (.inl i1), some (.inl i2), some (.inr u_2), some (.inr u_4), some (.inr (h_n M_3 + 1)), some (.inr (h_n M_5 + 1))]) (st' := [.inr a0]) (M' := M_11) rfl).trans ?_
            refine (ev_g (h_k M_11 a0 = 7) (ip' := 69) (ls' := [some (.inr a0), some (.inl i1), some (.inl i2), some (.inr u_2), some (.inr u_4), some (.inr (h_n M_3 + 1)), some (.inr (h_n M_5 + 1))]) (st' := [.inr (h_r M_11 a0 1)]) (M' := M_11) c_38 rfl).trans (t_i ?_ rfl)
            refine (ev_ns c_38 1 (ip' := 70) (ls' := [some (.inr a0), some (.inl i1), some (.inl i2), some (.inr u_2), some (.inr u_4), some (.inr (h_n M_3 + 1)), some (.inr (h_n M_5 + 1))]) (st' := [.inr (h_n M_5 + 1), .inr (h_r M_11 a0 1)]) (M' := M_11) rfl).trans ?_
            refine (ev_gR (a_rec M_11 4 [.inr (h_n M_5 + 1)] = true ∧ ([.inr (h_r M_11 a0 1)] : List mV).length ≤ 8) (as := [.inr (h_n M_5 + 1)]) (rr := [.inr (h_r M_11 a0 1)]) c_38 c_22 rfl).trans (t_i (t_cR ?_) rfl)
            intro u_13 M_12
            refine (ev_ns c_38 2 (ip' := 73) (ls' := [some (.inr a0), some (.inl i1), some (.inl i2), some (.inr u_2), some (.inr u_4), some (.inr (h_n M_3 + 1)), some (.inr (h_n M_5 + 1))]) (st' := [.inl 8, .inl 0, .inr u_13, .inr (h_r M_11 a0 1)]) (M' := M_12) rfl).trans ?_
            refine (ev_gV (a_rec M_12 1 [.inr (h_r M_11 a0 1), .inr u_13, .inl 0, .inl 8] = true ∧ ([] : List mV).length ≤ 8) (as := [.inr (h_r M_11 a0 1), .inr u_13, .inl 0, .inl 8]) (rr := []) c_38 c_5 rfl).trans (t_i (t_cV ?_) rfl)
            intro M_14
            refine (ev_ns c_38 1 (ip' := 75) (ls' := [some (.inr a0), some (.inl i1), some (.inl i2), some (.inr u_2), some (.inr u_4), some (.inr (h_n M_3 + 1)), some (.inr (h_n M_5 + 1))]) (st' := [.inr a0]) (M' := M_14) rfl).trans ?_
            refine (ev_gI (a_rec M_14 7 [.inr a0] = true ∧ ([] : List mV).length ≤ 8) (as := [.inr a0]) (rr := []) c_38 c_74 rfl).trans (t_i (t_cI ?_) rfl)
            intro v_16 M_15
            exact ev_gd (v_16 = 0 ∨ v_16 = 1) c_38 rfl
          · skip
            exact rfl
        · skip
          exact rfl
set_option maxRecDepth 20000 in
theorem e_38_15 (a0 : Nat) (i1 : Int32) (i2 : Int32) (a3 : Nat) (a4 : Nat) (M : mM) : ev 38 15 [some (.inr a0), some (.inl i1), some (.inl i2), some (.inr a3), some (.inr a4), none, none] [] M = if (a_rec M 7 [.inr a0, .inl 1] = true ∧ ([] : List mV).length ≤ 8) then (c_I (ev 76 0 [some (.inr a0), some (.inl 1)] [] M) fun v_2 M_1 => if v_2 = 0 ∨ v_2 = 1 then some (some (.inl v_2), M_1) else none) else none := by
  refine (ev_ns c_38 2 (ip' := 17) (ls' := [some (.inr a0), some (.inl i1), some (.inl i2), some (.inr a3), some (.inr a4), none, none]) (st' := [.inl 1, .inr a0]) (M' := M) rfl).trans ?_
  refine (ev_gI (a_rec M 7 [.inr a0, .inl 1] = true ∧ ([] : List mV).length ≤ 8) (as := [.inr a0, .inl 1]) (rr := []) c_38 c_76 rfl).trans (t_i (t_cI ?_) rfl)
  intro v_2 M_1
  exact ev_gd (v_2 = 0 ∨ v_2 = 1) c_38 rfl
set_option maxRecDepth 20000 in
theorem e_38_27 (a0 : Nat) (i1 : Int32) (i2 : Int32) (a3 : Nat) (a4 : Nat) (M : mM) : ev 38 27 [some (.inr a0), some (.inl i1), some (.inl i2), some (.inr a3), some (.inr a4), none, none] [] M = if (a_rec M 7 [.inr a0, .inl 2] = true ∧ ([] : List mV).length ≤ 8) then (c_I (ev 76 0 [some (.inr a0), some (.inl 2)] [] M) fun v_2 M_1 => if v_2 = 0 ∨ v_2 = 1 then some (some (.inl v_2), M_1) else none) else none := by
  refine (ev_ns c_38 2 (ip' := 29) (ls' := [some (.inr a0), some (.inl i1), some (.inl i2), some (.inr a3), some (.inr a4), none, none]) (st' := [.inl 2, .inr a0]) (M' := M) rfl).trans ?_
  refine (ev_gI (a_rec M 7 [.inr a0, .inl 2] = true ∧ ([] : List mV).length ≤ 8) (as := [.inr a0, .inl 2]) (rr := []) c_38 c_76 rfl).trans (t_i (t_cI ?_) rfl)
  intro v_2 M_1
  exact ev_gd (v_2 = 0 ∨ v_2 = 1) c_38 rfl
/- 39: GranuleHall.activate(I)Z -/
set_option maxRecDepth 20000 in
theorem e_39_0 (a0 : Nat) (i1 : Int32) (M : mM) : ev 39 0 [some (.inr a0), some (.inl i1), none, none] [] M = if (a_rec M 7 [.inr a0, .inl i1] = true ∧ ([] : List mV).length ≤ 8) then (c_R (ev 79 0 [some (.inr a0), some (.inl i1)] [] M) fun u_2 M_1 => if u_2 = 0 then (if (a_rec M_1 7 [.inr a0, .inl 1] = true ∧ ([] : List mV).length ≤ 8) then (c_I (ev 76 0 [some (.inr a0), some (.inl 1)] [] M_1) fun v_4 M_3 => if v_4 = 0 ∨ v_4 = 1 then some (some (.inl v_4), M_3) else none) else none) else (if (a_rec M_1 3 [.inr u_2] = true ∧ ([] : List mV).length ≤ 8) then (c_R (ev 20 0 [some (.inr u_2)] [] M_1) fun u_6 M_5 => if u_6 = 0 then (if (a_rec M_5 7 [.inr a0, .inl 2] = true ∧ ([] : List mV).length ≤ 8) then (c_I (ev 76 0 [some (.inr a0), some (.inl 2)] [] M_5) fun v_8 M_7 => if v_8 = 0 ∨ v_8 = 1 then some (some (.inl v_8), M_7) else none) else none) else (if h_k M_5 u_6 = 4 then (if (h_i M_5 u_6 3) = 0 then (if h_k M_5 u_6 = 4 then (if (a_rec (h_si M_5 u_6 3 1) 7 [.inr a0] = true ∧ ([] : List mV).length ≤ 8) then (c_I (ev 74 0 [some (.inr a0)] [] (h_si M_5 u_6 3 1)) fun v_10 M_9 => if v_10 = 0 ∨ v_10 = 1 then some (some (.inl v_10), M_9) else none) else none) else none) else (if (a_rec M_5 7 [.inr a0, .inl 3] = true ∧ ([] : List mV).length ≤ 8) then (c_I (ev 76 0 [some (.inr a0), some (.inl 3)] [] M_5) fun v_12 M_11 => if v_12 = 0 ∨ v_12 = 1 then some (some (.inl v_12), M_11) else none) else none)) else none)) else none)) else none := by
  refine (ev_ns c_39 2 (ip' := 2) (ls' := [some (.inr a0), some (.inl i1), none, none]) (st' := [.inl i1, .inr a0]) (M' := M) rfl).trans ?_
  refine (ev_gR (a_rec M 7 [.inr a0, .inl i1] = true ∧ ([] : List mV).length ≤ 8) (as := [.inr a0, .inl i1]) (rr := []) c_39 c_79 rfl).trans (t_i (t_cR ?_) rfl)
  intro u_2 M_1
  refine (ev_ns c_39 2 (ip' := 5) (ls' := [some (.inr a0), some (.inl i1), some (.inr u_2), none]) (st' := [.inr u_2]) (M' := M_1) rfl).trans ?_
  refine (ev_i (u_2 = 0) (i1 := 6) (l1 := [some (.inr a0), some (.inl i1), some (.inr u_2), none]) (s1 := []) (M1 := M_1) (i2 := 10) (l2 := [some (.inr a0), some (.inl i1), some (.inr u_2), none]) (s2 := []) (M2 := M_1) c_39 rfl).trans (t_i ?_ ?_)
  · skip
    refine (ev_ns c_39 2 (ip' := 8) (ls' := [some (.inr a0), some (.inl i1), some (.inr u_2), none]) (st' := [.inl 1, .inr a0]) (M' := M_1) rfl).trans ?_
    refine (ev_gI (a_rec M_1 7 [.inr a0, .inl 1] = true ∧ ([] : List mV).length ≤ 8) (as := [.inr a0, .inl 1]) (rr := []) c_39 c_76 rfl).trans (t_i (t_cI ?_) rfl)
    intro v_4 M_3
    exact ev_gd (v_4 = 0 ∨ v_4 = 1) c_39 rfl
  · skip
    refine (ev_ns c_39 1 (ip' := 11) (ls' := [some (.inr a0), some (.inl i1), some (.inr u_2), none]) (st' := [.inr u_2]) (M' := M_1) rfl).trans ?_
    refine (ev_gR (a_rec M_1 3 [.inr u_2] = true ∧ ([] : List mV).length ≤ 8) (as := [.inr u_2]) (rr := []) c_39 c_20 rfl).trans (t_i (t_cR ?_) rfl)
    intro u_6 M_5
    refine (ev_ns c_39 2 (ip' := 14) (ls' := [some (.inr a0), some (.inl i1), some (.inr u_2), some (.inr u_6)]) (st' := [.inr u_6]) (M' := M_5) rfl).trans ?_
    refine (ev_i (u_6 = 0) (i1 := 15) (l1 := [some (.inr a0), some (.inl i1), some (.inr u_2), some (.inr u_6)]) (s1 := []) (M1 := M_5) (i2 := 19) (l2 := [some (.inr a0), some (.inl i1), some (.inr u_2), some (.inr u_6)]) (s2 := []) (M2 := M_5) c_39 rfl).trans (t_i ?_ ?_)
    · skip
      refine (ev_ns c_39 2 (ip' := 17) (ls' := [some (.inr a0), some (.inl i1), some (.inr u_2), some (.inr u_6)]) (st' := [.inl 2, .inr a0]) (M' := M_5) rfl).trans ?_
      refine (ev_gI (a_rec M_5 7 [.inr a0, .inl 2] = true ∧ ([] : List mV).length ≤ 8) (as := [.inr a0, .inl 2]) (rr := []) c_39 c_76 rfl).trans (t_i (t_cI ?_) rfl)
      intro v_8 M_7
      exact ev_gd (v_8 = 0 ∨ v_8 = 1) c_39 rfl
    · skip
      refine (ev_ns c_39 1 (ip' := 20) (ls' := [some (.inr a0), some (.inl i1), some (.inr u_2), some (.inr u_6)]) (st' := [.inr u_6]) (M' := M_5) rfl).trans ?_
      refine (ev_g (h_k M_5 u_6 = 4) (ip' := 21) (ls' := [some (.inr a0), some (.inl i1), some (.inr u_2), some (.inr u_6)]) (st' := [.inl (h_i M_5 u_6 3)]) (M' := M_5) c_39 rfl).trans (t_i ?_ rfl)
      refine (ev_i ((h_i M_5 u_6 3) = 0) (i1 := 26) (l1 := [some (.inr a0), some (.inl i1), some (.inr u_2), some (.inr u_6)]) (s1 := []) (M1 := M_5) (i2 := 22) (l2 := [some (.inr a0), some (.inl i1), some (.inr u_2), some (.inr u_6)]) (s2 := []) (M2 := M_5) c_39 rfl).trans (t_i ?_ ?_)
      · skip
        refine (ev_ns c_39 2 (ip' := 28) (ls' := [some (.inr a0), some (.inl i1), some (.inr u_2), some (.inr u_6)]) (st' := [.inl 1, .inr u_6]) (M' := M_5) rfl).trans ?_
        refine (ev_g (h_k M_5 u_6 = 4) (ip' := 29) (ls' := [some (.inr a0), some (.inl i1), some (.inr u_2), some (.inr u_6)]) (st' := []) (M' := h_si M_5 u_6 3 1) c_39 rfl).trans (t_i ?_ rfl)
        refine (ev_ns c_39 1 (ip' := 30) (ls' := [some (.inr a0), some (.inl i1), some (.inr u_2), some (.inr u_6)]) (st' := [.inr a0]) (M' := h_si M_5 u_6 3 1) rfl).trans ?_
        refine (ev_gI (a_rec (h_si M_5 u_6 3 1) 7 [.inr a0] = true ∧ ([] : List mV).length ≤ 8) (as := [.inr a0]) (rr := []) c_39 c_74 rfl).trans (t_i (t_cI ?_) rfl)
        intro v_10 M_9
        exact ev_gd (v_10 = 0 ∨ v_10 = 1) c_39 rfl
      · skip
        refine (ev_ns c_39 2 (ip' := 24) (ls' := [some (.inr a0), some (.inl i1), some (.inr u_2), some (.inr u_6)]) (st' := [.inl 3, .inr a0]) (M' := M_5) rfl).trans ?_
        refine (ev_gI (a_rec M_5 7 [.inr a0, .inl 3] = true ∧ ([] : List mV).length ≤ 8) (as := [.inr a0, .inl 3]) (rr := []) c_39 c_76 rfl).trans (t_i (t_cI ?_) rfl)
        intro v_12 M_11
        exact ev_gd (v_12 = 0 ∨ v_12 = 1) c_39 rfl
/- 40: GranuleHall.destroy(I)Z -/
set_option maxRecDepth 20000 in
theorem e_40_0 (a0 : Nat) (i1 : Int32) (M : mM) : ev 40 0 [some (.inr a0), some (.inl i1), none, none] [] M = if (a_rec M 7 [.inr a0, .inl i1] = true ∧ ([] : List mV).length ≤ 8) then (c_R (ev 79 0 [some (.inr a0), some (.inl i1)] [] M) fun u_2 M_1 => if u_2 = 0 then (if (a_rec M_1 7 [.inr a0, .inl 1] = true ∧ ([] : List mV).length ≤ 8) then (c_I (ev 76 0 [some (.inr a0), some (.inl 1)] [] M_1) fun v_4 M_3 => if v_4 = 0 ∨ v_4 = 1 then some (some (.inl v_4), M_3) else none) else none) else (if (a_rec M_1 3 [.inr u_2] = true ∧ ([] : List mV).length ≤ 8) then (c_R (ev 20 0 [some (.inr u_2)] [] M_1) fun u_6 M_5 => if u_6 = 0 then (if (a_rec M_5 7 [.inr a0, .inl 2] = true ∧ ([] : List mV).length ≤ 8) then (c_I (ev 76 0 [some (.inr a0), some (.inl 2)] [] M_5) fun v_8 M_7 => if v_8 = 0 ∨ v_8 = 1 then some (some (.inl v_8), M_7) else none) else none) else (if h_k M_5 u_6 = 4 then (if (0 : Int32) < (h_i M_5 u_6 4) then (ev 40 26 [some (.inr a0), some (.inl i1), some (.inr u_2), some (.inr u_6)] [] M_5) else (if h_k M_5 u_6 = 4 then (if (a_rec M_5 6 [.inr (h_r M_5 u_6 1)] = true ∧ ([] : List mV).length ≤ 8) then (c_I (ev 29 0 [some (.inr (h_r M_5 u_6 1)), none, none, none, none] [] M_5) fun v_10 M_9 => if v_10 = 0 then (ev 40 26 [some (.inr a0), some (.inl i1), some (.inr u_2), some (.inr u_6)] [] M_9) else (if h_k M_9 u_6 = 4 then (if h_k M_9 (h_r M_9 u_6 1) = 6 then (if (a_rec M_9 3 [.inr (h_r M_9 (h_r M_9 u_6 1) 0), .inl 1, .inr 0, .inl (-1)] = true ∧ ([] : List mV).length ≤ 8) then (c_V (ev 17 0 [some (.inr (h_r M_9 (h_r M_9 u_6 1) 0)), some (.inl 1), some (.inr 0), some (.inl (-1))] [] M_9) fun M_11 => if (a_rec M_11 3 [.inr u_2, .inl 1, .inr 0, .inl (-1)] = true ∧ ([] : List mV).length ≤ 8) then (c_V (ev 17 0 [some (.inr u_2), some (.inl 1), some (.inr 0), some (.inl (-1))] [] M_11) fun M_12 => if (a_rec M_12 7 [.inr a0] = true ∧ ([] : List mV).length ≤ 8) then (c_I (ev 74 0 [some (.inr a0)] [] M_12) fun v_14 M_13 => if v_14 = 0 ∨ v_14 = 1 then some (some (.inl v_14), M_13) else none) else none) else none) else none) else none) else none)) else none) else none)) else none)) else none)) else none := by
  refine (ev_ns c_40 2 (ip' := 2) (ls' := [some (.inr a0), some (.inl i1), none, none]) (st' := [.inl i1, .inr a0]) (M' := M) rfl).trans ?_
  refine (ev_gR (a_rec M 7 [.inr a0, .inl i1] = true ∧ ([] : List mV).length ≤ 8) (as := [.inr a0, .inl i1]) (rr := []) c_40 c_79 rfl).trans (t_i (t_cR ?_) rfl)
  intro u_2 M_1
  refine (ev_ns c_40 2 (ip' := 5) (ls' := [some (.inr a0), some (.inl i1), some (.inr u_2), none]) (st' := [.inr u_2]) (M' := M_1) rfl).trans ?_
  refine (ev_i (u_2 = 0) (i1 := 6) (l1 := [some (.inr a0), some (.inl i1), some (.inr u_2), none]) (s1 := []) (M1 := M_1) (i2 := 10) (l2 := [some (.inr a0), some (.inl i1), some (.inr u_2), none]) (s2 := []) (M2 := M_1) c_40 rfl).trans (t_i ?_ ?_)
  · skip
    refine (ev_ns c_40 2 (ip' := 8) (ls' := [some (.inr a0), some (.inl i1), some (.inr u_2), none]) (st' := [.inl 1, .inr a0]) (M' := M_1) rfl).trans ?_
    refine (ev_gI (a_rec M_1 7 [.inr a0, .inl 1] = true ∧ ([] : List mV).length ≤ 8) (as := [.inr a0, .inl 1]) (rr := []) c_40 c_76 rfl).trans (t_i (t_cI ?_) rfl)
    intro v_4 M_3
    exact ev_gd (v_4 = 0 ∨ v_4 = 1) c_40 rfl
  · skip
    refine (ev_ns c_40 1 (ip' := 11) (ls' := [some (.inr a0), some (.inl i1), some (.inr u_2), none]) (st' := [.inr u_2]) (M' := M_1) rfl).trans ?_
    refine (ev_gR (a_rec M_1 3 [.inr u_2] = true ∧ ([] : List mV).length ≤ 8) (as := [.inr u_2]) (rr := []) c_40 c_20 rfl).trans (t_i (t_cR ?_) rfl)
    intro u_6 M_5
    refine (ev_ns c_40 2 (ip' := 14) (ls' := [some (.inr a0), some (.inl i1), some (.inr u_2), some (.inr u_6)]) (st' := [.inr u_6]) (M' := M_5) rfl).trans ?_
    refine (ev_i (u_6 = 0) (i1 := 15) (l1 := [some (.inr a0), some (.inl i1), some (.inr u_2), some (.inr u_6)]) (s1 := []) (M1 := M_5) (i2 := 19) (l2 := [some (.inr a0), some (.inl i1), some (.inr u_2), some (.inr u_6)]) (s2 := []) (M2 := M_5) c_40 rfl).trans (t_i ?_ ?_)
    · skip
      refine (ev_ns c_40 2 (ip' := 17) (ls' := [some (.inr a0), some (.inl i1), some (.inr u_2), some (.inr u_6)]) (st' := [.inl 2, .inr a0]) (M' := M_5) rfl).trans ?_
      refine (ev_gI (a_rec M_5 7 [.inr a0, .inl 2] = true ∧ ([] : List mV).length ≤ 8) (as := [.inr a0, .inl 2]) (rr := []) c_40 c_76 rfl).trans (t_i (t_cI ?_) rfl)
      intro v_8 M_7
      exact ev_gd (v_8 = 0 ∨ v_8 = 1) c_40 rfl
    · skip
      refine (ev_ns c_40 1 (ip' := 20) (ls' := [some (.inr a0), some (.inl i1), some (.inr u_2), some (.inr u_6)]) (st' := [.inr u_6]) (M' := M_5) rfl).trans ?_
      refine (ev_g (h_k M_5 u_6 = 4) (ip' := 21) (ls' := [some (.inr a0), some (.inl i1), some (.inr u_2), some (.inr u_6)]) (st' := [.inl (h_i M_5 u_6 4)]) (M' := M_5) c_40 rfl).trans (t_i ?_ rfl)
      refine (ev_i ((0 : Int32) < (h_i M_5 u_6 4)) (i1 := 26) (l1 := [some (.inr a0), some (.inl i1), some (.inr u_2), some (.inr u_6)]) (s1 := []) (M1 := M_5) (i2 := 22) (l2 := [some (.inr a0), some (.inl i1), some (.inr u_2), some (.inr u_6)]) (s2 := []) (M2 := M_5) c_40 rfl).trans (t_i ?_ ?_)
      · skip
        exact rfl
      · skip
        refine (ev_ns c_40 1 (ip' := 23) (ls' := [some (.inr a0), some (.inl i1), some (.inr u_2), some (.inr u_6)]) (st' := [.inr u_6]) (M' := M_5) rfl).trans ?_
        refine (ev_g (h_k M_5 u_6 = 4) (ip' := 24) (ls' := [some (.inr a0), some (.inl i1), some (.inr u_2), some (.inr u_6)]) (st' := [.inr (h_r M_5 u_6 1)]) (M' := M_5) c_40 rfl).trans (t_i ?_ rfl)
        refine (ev_gI (a_rec M_5 6 [.inr (h_r M_5 u_6 1)] = true ∧ ([] : List mV).length ≤ 8) (as := [.inr (h_r M_5 u_6 1)]) (rr := []) c_40 c_29 rfl).trans (t_i (t_cI ?_) rfl)
        intro v_10 M_9
        refine (ev_i (v_10 = 0) (i1 := 26) (l1 := [some (.inr a0), some (.inl i1), some (.inr u_2), some (.inr u_6)]) (s1 := []) (M1 := M_9) (i2 := 30) (l2 := [some (.inr a0), some (.inl i1), some (.inr u_2), some (.inr u_6)]) (s2 := []) (M2 := M_9) c_40 rfl).trans (t_i ?_ ?_)
        · skip
          exact rfl
        · skip
          refine (ev_ns c_40 1 (ip' := 31) (ls' := [some (.inr a0), some (.inl i1), some (.inr u_2), some (.inr u_6)]) (st' := [.inr u_6]) (M' := M_9) rfl).trans ?_
          refine (ev_g (h_k M_9 u_6 = 4) (ip' := 32) (ls' := [some (.inr a0), some (.inl i1), some (.inr u_2), some (.inr u_6)]) (st' := [.inr (h_r M_9 u_6 1)]) (M' := M_9) c_40 rfl).trans (t_i ?_ rfl)
          refine (ev_g (h_k M_9 (h_r M_9 u_6 1) = 6) (ip' := 33) (ls' := [some (.inr a0), some (.inl i1), some (.inr u_2), some (.inr u_6)]) (st' := [.inr (h_r M_9 (h_r M_9 u_6 1) 0)]) (M' := M_9) c_40 rfl).trans (t_i ?_ rfl)
          refine (ev_ns c_40 3 (ip' := 36) (ls' := [some (.inr a0), some (.inl i1), some (.inr u_2), some (.inr u_6)]) (st' := [.inl (-1), .inr 0, .inl 1, .inr (h_r M_9 (h_r M_9 u_6 1) 0)]) (M' := M_9) rfl).trans ?_
          refine (ev_gV (a_rec M_9 3 [.inr (h_r M_9 (h_r M_9 u_6 1) 0), .inl 1, .inr 0, .inl (-1)] = true ∧ ([] : List mV).length ≤ 8) (as := [.inr (h_r M_9 (h_r M_9 u_6 1) 0), .inl 1, .inr 0, .inl (-1)]) (rr := []) c_40 c_17 rfl).trans (t_i (t_cV ?_) rfl)
          intro M_11
          refine (ev_ns c_40 4 (ip' := 41) (ls' := [some (.inr a0), some (.inl i1), some (.inr u_2), some (.inr u_6)]) (st' := [.inl (-1), .inr 0, .inl 1, .inr u_2]) (M' := M_11) rfl).trans ?_
          refine (ev_gV (a_rec M_11 3 [.inr u_2, .inl 1, .inr 0, .inl (-1)] = true ∧ ([] : List mV).length ≤ 8) (as := [.inr u_2, .inl 1, .inr 0, .inl (-1)]) (rr := []) c_40 c_17 rfl).trans (t_i (t_cV ?_) rfl)
          intro M_12
          refine (ev_ns c_40 1 (ip' := 43) (ls' := [some (.inr a0), some (.inl i1), some (.inr u_2), some (.inr u_6)]) (st' := [.inr a0]) (M' := M_12) rfl).trans ?_
          refine (ev_gI (a_rec M_12 7 [.inr a0] = true ∧ ([] : List mV).length ≤ 8) (as := [.inr a0]) (rr := []) c_40 c_74 rfl).trans (t_i (t_cI ?_) rfl)
          intro v_14 M_13
          exact ev_gd (v_14 = 0 ∨ v_14 = 1) c_40 rfl
set_option maxRecDepth 20000 in
theorem e_40_26 (a0 : Nat) (i1 : Int32) (a2 : Nat) (a3 : Nat) (M : mM) : ev 40 26 [some (.inr a0), some (.inl i1), some (.inr a2), some (.inr a3)] [] M = if (a_rec M 7 [.inr a0, .inl 3] = true ∧ ([] : List mV).length ≤ 8) then (c_I (ev 76 0 [some (.inr a0), some (.inl 3)] [] M) fun v_2 M_1 => if v_2 = 0 ∨ v_2 = 1 then some (some (.inl v_2), M_1) else none) else none := by
  refine (ev_ns c_40 2 (ip' := 28) (ls' := [some (.inr a0), some (.inl i1), some (.inr a2), some (.inr a3)]) (st' := [.inl 3, .inr a0]) (M' := M) rfl).trans ?_
  refine (ev_gI (a_rec M 7 [.inr a0, .inl 3] = true ∧ ([] : List mV).length ≤ 8) (as := [.inr a0, .inl 3]) (rr := []) c_40 c_76 rfl).trans (t_i (t_cI ?_) rfl)
  intro v_2 M_1
  exact ev_gd (v_2 = 0 ∨ v_2 = 1) c_40 rfl
/- 41: GranuleHall.rec(III)I -/
set_option maxRecDepth 20000 in
theorem e_41_0 (a0 : Nat) (i1 : Int32) (i2 : Int32) (i3 : Int32) (M : mM) : ev 41 0 [some (.inr a0), some (.inl i1), some (.inl i2), some (.inl i3), none, none, none, none, none, none] [] M = if (a_rec M 7 [.inr a0, .inl i1] = true ∧ ([] : List mV).length ≤ 8) then (c_R (ev 79 0 [some (.inr a0), some (.inl i1)] [] M) fun u_2 M_1 => if (a_rec M_1 7 [.inr a0, .inl i2] = true ∧ ([] : List mV).length ≤ 8) then (c_R (ev 79 0 [some (.inr a0), some (.inl i2)] [] M_1) fun u_4 M_3 => if (a_rec M_3 7 [.inr a0, .inl i3] = true ∧ ([] : List mV).length ≤ 8) then (c_R (ev 79 0 [some (.inr a0), some (.inl i3)] [] M_3) fun u_6 M_5 => if u_2 = 0 then (ev 41 18 [some (.inr a0), some (.inl i1), some (.inl i2), some (.inl i3), some (.inr u_2), some (.inr u_4), some (.inr u_6), none, none, none] [] M_5) else (if u_4 = 0 then (ev 41 18 [some (.inr a0), some (.inl i1), some (.inl i2), some (.inl i3), some (.inr u_2), some (.inr u_4), some (.inr u_6), none, none, none] [] M_5) else (if u_6 = 0 then (ev 41 18 [some (.inr a0), some (.inl i1), some (.inl i2), some (.inl i3), some (.inr u_2), some (.inr u_4), some (.inr u_6), none, none, none] [] M_5) else (if (a_rec M_5 3 [.inr u_4] = true ∧ ([] : List mV).length ≤ 8) then (c_R (ev 20 0 [some (.inr u_4)] [] M_5) fun u_8 M_7 => if u_8 = 0 then (ev 41 34 [some (.inr a0), some (.inl i1), some (.inl i2), some (.inl i3), some (.inr u_2), some (.inr u_4), some (.inr u_6), some (.inr u_8), none, none] [] M_7) else (if h_k M_7 u_2 = 3 then (if (h_i M_7 u_2 2) = 1 then (if h_k M_7 u_6 = 3 then (if (h_i M_7 u_6 2) = 0 then (if h_k M_7 u_8 = 4 then (if (h_i M_7 u_8 3) = 0 then (if h_k (h_al M_7 5 11) u_6 = 3 then (if (h_k (h_al M_7 5 11) (h_r (h_al M_7 5 11) u_6 1) = 9 ∨ h_k (h_al M_7 5 11) (h_r (h_al M_7 5 11) u_6 1) = 14) ∧ h_in 8 (h_l (h_al M_7 5 11) (h_r (h_al M_7 5 11) u_6 1)) then (if (h_i (h_al M_7 5 11) (h_r (h_al M_7 5 11) u_6 1) 8) = 0 then (ev 41 57 [some (.inr a0), some (.inl i1), some (.inl i2), some (.inl i3), some (.inr u_2), some (.inr u_4), some (.inr u_6), some (.inr u_8), none, none] [.inl 0, .inr u_8, .inr u_2, .inr (h_n M_7 + 1), .inr (h_n M_7 + 1)] (h_al M_7 5 11)) else (ev 41 57 [some (.inr a0), some (.inl i1), some (.inl i2), some (.inl i3), some (.inr u_2), some (.inr u_4), some (.inr u_6), some (.inr u_8), none, none] [.inl 1, .inr u_8, .inr u_2, .inr (h_n M_7 + 1), .inr (h_n M_7 + 1)] (h_al M_7 5 11))) else none) else none) else (if (a_rec M_7 7 [.inr a0, .inl 3] = true ∧ ([] : List mV).length ≤ 8) then (c_I (ev 75 0 [some (.inr a0), some (.inl 3)] [] M_7) fun v_10 M_9 => some (some (.inl v_10), M_9)) else none)) else none) else (ev 41 34 [some (.inr a0), some (.inl i1), some (.inl i2), some (.inl i3), some (.inr u_2), some (.inr u_4), some (.inr u_6), some (.inr u_8), none, none] [] M_7)) else none) else (ev 41 34 [some (.inr a0), some (.inl i1), some (.inl i2), some (.inl i3), some (.inr u_2), some (.inr u_4), some (.inr u_6), some (.inr u_8), none, none] [] M_7)) else none)) else none)))) else none) else none) else none := by
  refine (ev_ns c_41 2 (ip' := 2) (ls' := [some (.inr a0), some (.inl i1), some (.inl i2), some (.inl i3), none, none, none, none, none, none]) (st' := [.inl i1, .inr a0]) (M' := M) rfl).trans ?_
  refine (ev_gR (a_rec M 7 [.inr a0, .inl i1] = true ∧ ([] : List mV).length ≤ 8) (as := [.inr a0, .inl i1]) (rr := []) c_41 c_79 rfl).trans (t_i (t_cR ?_) rfl)
  intro u_2 M_1
  refine (ev_ns c_41 3 (ip' := 6) (ls' := [some (.inr a0), some (.inl i1), some (.inl i2), some (.inl i3), some (.inr u_2), none, none, none, none, none]) (st' := [.inl i2, .inr a0]) (M' := M_1) rfl).trans ?_
  refine (ev_gR (a_rec M_1 7 [.inr a0, .inl i2] = true ∧ ([] : List mV).length ≤ 8) (as := [.inr a0, .inl i2]) (rr := []) c_41 c_79 rfl).trans (t_i (t_cR ?_) rfl)
  intro u_4 M_3
  refine (ev_ns c_41 3 (ip' := 10) (ls' := [some (.inr a0), some (.inl i1), some (.inl i2), some (.inl i3), some (.inr u_2), some (.inr u_4), none, none, none, none]) (st' := [.inl i3, .inr a0]) (M' := M_3) rfl).trans ?_
  refine (ev_gR (a_rec M_3 7 [.inr a0, .inl i3] = true ∧ ([] : List mV).length ≤ 8) (as := [.inr a0, .inl i3]) (rr := []) c_41 c_79 rfl).trans (t_i (t_cR ?_) rfl)
  intro u_6 M_5
  refine (ev_ns c_41 2 (ip' := 13) (ls' := [some (.inr a0), some (.inl i1), some (.inl i2), some (.inl i3), some (.inr u_2), some (.inr u_4), some (.inr u_6), none, none, none]) (st' := [.inr u_2]) (M' := M_5) rfl).trans ?_
  refine (ev_i (u_2 = 0) (i1 := 18) (l1 := [some (.inr a0), some (.inl i1), some (.inl i2), some (.inl i3), some (.inr u_2), some (.inr u_4), some (.inr u_6), none, none, none]) (s1 := []) (M1 := M_5) (i2 := 14) (l2 := [some (.inr a0), some (.inl i1), some (.inl i2), some (.inl i3), some (.inr u_2), some (.inr u_4), some (.inr u_6), none, none, none]) (s2 := []) (M2 := M_5) c_41 rfl).trans (t_i ?_ ?_)
  · skip
    exact rfl
  · skip
    refine (ev_ns c_41 1 (ip' := 15) (ls' := [some (.inr a0), some (.inl i1), some (.inl i2), some (.inl i3), some (.inr u_2), some (.inr u_4), some (.inr u_6), none, none, none]) (st' := [.inr u_4]) (M' := M_5) rfl).trans ?_
    refine (ev_i (u_4 = 0) (i1 := 18) (l1 := [some (.inr a0), some (.inl i1), some (.inl i2), some (.inl i3), some (.inr u_2), some (.inr u_4), some (.inr u_6), none, none, none]) (s1 := []) (M1 := M_5) (i2 := 16) (l2 := [some (.inr a0), some (.inl i1), some (.inl i2), some (.inl i3), some (.inr u_2), some (.inr u_4), some (.inr u_6), none, none, none]) (s2 := []) (M2 := M_5) c_41 rfl).trans (t_i ?_ ?_)
    · skip
      exact rfl
    · skip
      refine (ev_ns c_41 1 (ip' := 17) (ls' := [some (.inr a0), some (.inl i1), some (.inl i2), some (.inl i3), some (.inr u_2), some (.inr u_4), some (.inr u_6), none, none, none]) (st' := [.inr u_6]) (M' := M_5) rfl).trans ?_
      refine (ev_i (u_6 = 0) (i1 := 18) (l1 := [some (.inr a0), some (.inl i1), some (.inl i2), some (.inl i3), some (.inr u_2), some (.inr u_4), some (.inr u_6), none, none, none]) (s1 := []) (M1 := M_5) (i2 := 22) (l2 := [some (.inr a0), some (.inl i1), some (.inl i2), some (.inl i3), some (.inr u_2), some (.inr u_4), some (.inr u_6), none, none, none]) (s2 := []) (M2 := M_5) c_41 rfl).trans (t_i ?_ ?_)
      · skip
        exact rfl
      · skip
        refine (ev_ns c_41 1 (ip' := 23) (ls' := [some (.inr a0), some (.inl i1), some (.inl i2), some (.inl i3), some (.inr u_2), some (.inr u_4), some (.inr u_6), none, none, none]) (st' := [.inr u_4]) (M' := M_5) rfl).trans ?_
        refine (ev_gR (a_rec M_5 3 [.inr u_4] = true ∧ ([] : List mV).length ≤ 8) (as := [.inr u_4]) (rr := []) c_41 c_20 rfl).trans (t_i (t_cR ?_) rfl)
        intro u_8 M_7
        refine (ev_ns c_41 2 (ip' := 26) (ls' := [some (.inr a0), some (.inl i1), some (.inl i2), some (.inl i3), some (.inr u_2), some (.inr u_4), some (.inr u_6), some (.inr u_8), none, none]) (st' := [.inr u_8]) (M' := M_7) rfl).trans ?_
        refine (ev_i (u_8 = 0) (i1 := 34) (l1 := [some (.inr a0), some (.inl i1), some (.inl i2), some (.inl i3), some (.inr u_2), some (.inr u_4), some (.inr u_6), some (.inr u_8), none, none]) (s1 := []) (M1 := M_7) (i2 := 27) (l2 := [some (.inr a0), some (.inl i1), some (.inl i2), some (.inl i3), some (.inr u_2), some (.inr u_4), some (.inr u_6), some (.inr u_8), none, none]) (s2 := []) (M2 := M_7) c_41 rfl).trans (t_i ?_ ?_)
        · skip
          exact rfl
        · skip
          refine (ev_ns c_41 1 (ip' := 28) (ls' := [some (.inr a0), some (.inl i1), some (.inl i2), some (.inl i3), some (.inr u_2), some (.inr u_4), some (.inr u_6), some (.inr u_8), none, none]) (st' := [.inr u_2]) (M' := M_7) rfl).trans ?_
          refine (ev_g (h_k M_7 u_2 = 3) (ip' := 29) (ls' := [some (.inr a0), some (.inl i1), some (.inl i2), some (.inl i3), some (.inr u_2), some (.inr u_4), some (.inr u_6), some (.inr u_8), none, none]) (st' := [.inl (h_i M_7 u_2 2)]) (M' := M_7) c_41 rfl).trans (t_i ?_ rfl)
          refine (ev_ns c_41 1 (ip' := 30) (ls' := [some (.inr a0), some (.inl i1), some (.inl i2), some (.inl i3), some (.inr u_2), some (.inr u_4), some (.inr u_6), some (.inr u_8), none, none]) (st' := [.inl 1, .inl (h_i M_7 u_2 2)]) (M' := M_7) rfl).trans ?_
          refine (ev_i ((h_i M_7 u_2 2) = 1) (i1 := 31) (l1 := [some (.inr a0), some (.inl i1), some (.inl i2), some (.inl i3), some (.inr u_2), some (.inr u_4), some (.inr u_6), some (.inr u_8), none, none]) (s1 := []) (M1 := M_7) (i2 := 34) (l2 := [some (.inr a0), some (.inl i1), some (.inl i2), some (.inl i3), some (.inr u_2), some (.inr u_4), some (.inr u_6), some (.inr u_8), none, none]) (s2 := []) (M2 := M_7) c_41 rfl).trans (t_i ?_ ?_)
          · skip
            refine (ev_ns c_41 1 (ip' := 32) (ls' := [some (.inr a0), some (.inl i1), some (.inl i2), some (.inl i3), some (.inr u_2), some (.inr u_4), some (.inr u_6), some (.inr u_8), none, none]) (st' := [.inr u_6]) (M' := M_7) rfl).trans ?_
            refine (ev_g (h_k M_7 u_6 = 3) (ip' := 33) (ls' := [some (.inr a0), some (.inl i1), some (.inl i2), some (.inl i3), some (.inr u_2), some (.inr u_4), some (.inr u_6), some (.inr u_8), none, none]) (st' := [.inl (h_i M_7 u_6 2)]) (M' := M_7) c_41 rfl).trans (t_i ?_ rfl)
            refine (ev_i ((h_i M_7 u_6 2) = 0) (i1 := 38) (l1 := [some (.inr a0), some (.inl i1), some (.inl i2), some (.inl i3), some (.inr u_2), some (.inr u_4), some (.inr u_6), some (.inr u_8), none, none]) (s1 := []) (M1 := M_7) (i2 := 34) (l2 := [some (.inr a0), some (.inl i1), some (.inl i2), some (.inl i3), some (.inr u_2), some (.inr u_4), some (.inr u_6), some (.inr u_8), none, none]) (s2 := []) (M2 := M_7) c_41 rfl).trans (t_i ?_ ?_)
            · skip
              refine (ev_ns c_41 1 (ip' := 39) (ls' := [some (.inr a0), some (.inl i1), some (.inl i2), some (.inl i3), some (.inr u_2), some (.inr u_4), some (.inr u_6), some (.inr u_8), none, none]) (st' := [.inr u_8]) (M' := M_7) rfl).trans ?_
              refine (ev_g (h_k M_7 u_8 = 4) (ip' := 40) (ls' := [some (.inr a0), some (.inl i1), some (.inl i2), some (.inl i3), some (.inr u_2), some (.inr u_4), some (.inr u_6), some (.inr u_8), none, none]) (st' := [.inl (h_i M_7 u_8 3)]) (M' := M_7) c_41 rfl).trans (t_i ?_ rfl)
              refine (ev_i ((h_i M_7 u_8 3) = 0) (i1 := 45) (l1 := [some (.inr a0), some (.inl i1), some (.inl i2), some (.inl i3), some (.inr u_2), some (.inr u_4), some (.inr u_6), some (.inr u_8), none, none]) (s1 := []) (M1 := M_7) (i2 := 41) (l2 := [some (.inr a0), some (.inl i1), some (.inl i2), some (.inl i3), some (.inr u_2), some (.inr u_4), some (.inr u_6), some (.inr u_8), none, none]) (s2 := []) (M2 := M_7) c_41 rfl).trans (t_i ?_ ?_)
              · skip
                refine (ev_ns c_41 5 (ip' := 50) (ls' := [some (.inr a0), some (.inl i1), some (.inl i2), some (.inl i3), some (.inr u_2), some (.inr u_4), some (.inr u_6), some (.inr u_8), none, none]) (st' := [.inr u_6, .inr u_8, .inr u_2, .inr (h_n M_7 + 1), .inr (h_n M_7 + 1)]) (M' := h_al M_7 5 11) rfl).trans ?_
                refine (ev_g (h_k (h_al M_7 5 11) u_6 = 3) (ip' := 51) (ls' := [some (.inr a0), some (.inl i1), some (.inl i2), some (.inl i3), some (.inr u_2), some (.inr u_4), some (.inr u_6), some (.inr u_8), none, none]) (st' := [.inr (h_r (h_al M_7 5 11) u_6 1), .inr u_8, .inr u_2, .inr (h_n M_7 + 1), .inr (h_n M_7 + 1)]) (M' := h_al M_7 5 11) c_41 rfl).trans (t_i ?_ rfl)
                refine (ev_ns c_41 1 (ip' := 52) (ls' := [some (.inr a0), some (.inl i1), some (.inl i2), some (.inl i3), some (.inr u_2), some (.inr u_4), some (.inr u_6), some (.inr u_8), none, none]) (st' := [.inl 8, .inr (h_r (h_al M_7 5 11) u_6 1), .inr u_8, .inr u_2, .inr (h_n M_7 + 1), .inr (h_n M_7 + 1)]) (M' := h_al M_7 5 11) rfl).trans ?_
                refine (ev_g ((h_k (h_al M_7 5 11) (h_r (h_al M_7 5 11) u_6 1) = 9 ∨ h_k (h_al M_7 5 11) (h_r (h_al M_7 5 11) u_6 1) = 14) ∧ h_in 8 (h_l (h_al M_7 5 11) (h_r (h_al M_7 5 11) u_6 1))) (ip' := 53) (ls' := [some (.inr a0), some (.inl i1), some (.inl i2), some (.inl i3), some (.inr u_2), some (.inr u_4), some (.inr u_6), some (.inr u_8), none, none]) (st' := [.inl (h_i (h_al M_7 5 11) (h_r (h_al M_7 5 11) u_6 1) 8), .inr u_8, .inr u_2, .inr (h_n M_7 + 1), .inr (h_n M_7 + 1)]) (M' := h_al M_7 5 11) c_41 rfl).trans (t_i ?_ rfl)
                refine (ev_i ((h_i (h_al M_7 5 11) (h_r (h_al M_7 5 11) u_6 1) 8) = 0) (i1 := 56) (l1 := [some (.inr a0), some (.inl i1), some (.inl i2), some (.inl i3), some (.inr u_2), some (.inr u_4), some (.inr u_6), some (.inr u_8), none, none]) (s1 := [.inr u_8, .inr u_2, .inr (h_n M_7 + 1), .inr (h_n M_7 + 1)]) (M1 := h_al M_7 5 11) (i2 := 54) (l2 := [some (.inr a0), some (.inl i1), some (.inl i2), some (.inl i3), some (.inr u_2), some (.inr u_4), some (.inr u_6), some (.inr u_8), none, none]) (s2 := [.inr u_8, .inr u_2, .inr (h_n M_7 + 1), .inr (h_n M_7 + 1)]) (M2 := h_al M_7 5 11) c_41 rfl).trans (t_i ?_ ?_)
                · skip
                  exact ev_ns c_41 1 (ip' := 57) (ls' := [some (.inr a0), some (.inl i1), some (.inl i2), some (.inl i3), some (.inr u_2), some (.inr u_4), some (.inr u_6), some (.inr u_8), none, none]) (st' := [.inl 0, .inr u_8, .inr u_2, .inr (h_n M_7 + 1), .inr (h_n M_7 + 1)]) (M' := h_al M_7 5 11) rfl
                · skip
                  exact ev_ns c_41 2 (ip' := 57) (ls' := [some (.inr a0), some (.inl i1), some (.inl i2), some (.inl i3), some (.inr u_2), some (.inr u_4), some (.inr u_6), some (.inr u_8), none, none]) (st' := [.inl 1, .inr u_8, .inr u_2, .inr (h_n M_7 + 1), .inr (h_n M_7 + 1)]) (M' := h_al M_7 5 11) rfl
              · skip
                refine (ev_ns c_41 2 (ip' := 43) (ls' := [some (.inr a0), some (.inl i1), some (.inl i2), some (.inl i3), some (.inr u_2), some (.inr u_4), some (.inr u_6), some (.inr u_8), none, none]) (st' := [.inl 3, .inr a0]) (M' := M_7) rfl).trans ?_
                refine (ev_gI (a_rec M_7 7 [.inr a0, .inl 3] = true ∧ ([] : List mV).length ≤ 8) (as := [.inr a0, .inl 3]) (rr := []) c_41 c_75 rfl).trans (t_i (t_cI ?_) rfl)
                intro v_10 M_9
                exact ev_d c_41 rfl
            · skip
              exact rfl
          · skip
            exact rfl
set_option maxRecDepth 20000 in
theorem e_41_18 (a0 : Nat) (i1 : Int32) (i2 : Int32) (i3 : Int32) (a4 : Nat) (a5 : Nat) (a6 : Nat) (M : mM) : ev 41 18 [some (.inr a0), some (.inl i1), some (.inl i2), some (.inl i3), some (.inr a4), some (.inr a5), some (.inr a6), none, none, none] [] M = if (a_rec M 7 [.inr a0, .inl 1] = true ∧ ([] : List mV).length ≤ 8) then (c_I (ev 75 0 [some (.inr a0), some (.inl 1)] [] M) fun v_2 M_1 => some (some (.inl v_2), M_1)) else none := by
  refine (ev_ns c_41 2 (ip' := 20) (ls' := [some (.inr a0), some (.inl i1), some (.inl i2), some (.inl i3), some (.inr a4), some (.inr a5), some (.inr a6), none, none, none]) (st' := [.inl 1, .inr a0]) (M' := M) rfl).trans ?_
  refine (ev_gI (a_rec M 7 [.inr a0, .inl 1] = true ∧ ([] : List mV).length ≤ 8) (as := [.inr a0, .inl 1]) (rr := []) c_41 c_75 rfl).trans (t_i (t_cI ?_) rfl)
  intro v_2 M_1
  exact ev_d c_41 rfl
set_option maxRecDepth 20000 in
theorem e_41_34 (a0 : Nat) (i1 : Int32) (i2 : Int32) (i3 : Int32) (a4 : Nat) (a5 : Nat) (a6 : Nat) (a7 : Nat) (M : mM) : ev 41 34 [some (.inr a0), some (.inl i1), some (.inl i2), some (.inl i3), some (.inr a4), some (.inr a5), some (.inr a6), some (.inr a7), none, none] [] M = if (a_rec M 7 [.inr a0, .inl 2] = true ∧ ([] : List mV).length ≤ 8) then (c_I (ev 75 0 [some (.inr a0), some (.inl 2)] [] M) fun v_2 M_1 => some (some (.inl v_2), M_1)) else none := by
  refine (ev_ns c_41 2 (ip' := 36) (ls' := [some (.inr a0), some (.inl i1), some (.inl i2), some (.inl i3), some (.inr a4), some (.inr a5), some (.inr a6), some (.inr a7), none, none]) (st' := [.inl 2, .inr a0]) (M' := M) rfl).trans ?_
  refine (ev_gI (a_rec M 7 [.inr a0, .inl 2] = true ∧ ([] : List mV).length ≤ 8) (as := [.inr a0, .inl 2]) (rr := []) c_41 c_75 rfl).trans (t_i (t_cI ?_) rfl)
  intro v_2 M_1
  exact ev_d c_41 rfl
set_option maxRecDepth 20000 in
theorem e_41_57 (a0 : Nat) (i1 : Int32) (i2 : Int32) (i3 : Int32) (a4 : Nat) (a5 : Nat) (a6 : Nat) (a7 : Nat) (t0 : Nat) (t1 : Nat) (t2 : Nat) (t3 : Nat) (s4 : Int32) (M : mM) : ev 41 57 [some (.inr a0), some (.inl i1), some (.inl i2), some (.inl i3), some (.inr a4), some (.inr a5), some (.inr a6), some (.inr a7), none, none] [.inl s4, .inr t3, .inr t2, .inr t1, .inr t0] M = if (a_rec M 5 [.inr t1, .inr t2, .inr t3, .inl s4] = true ∧ ([.inr t0] : List mV).length ≤ 8) then (c_V (ev 25 0 [some (.inr t1), some (.inr t2), some (.inr t3), some (.inl s4)] [] M) fun M_1 => if h_k M_1 a6 = 3 then (if h_k M_1 t0 = 5 then (if ((h_k M_1 (h_r M_1 a6 1) = 9 ∨ h_k M_1 (h_r M_1 a6 1) = 14) ∧ h_k M_1 (h_r M_1 t0 3) = 9) ∧ (¬ (0 : Int32) < 0 ∧ ¬ (0 : Int32) < 0 ∧ ¬ (8 : Int32) < 0) ∧ (0 + 8 ≤ h_l M_1 (h_r M_1 a6 1) ∧ 0 + 8 ≤ h_l M_1 (h_r M_1 t0 3)) ∧ ([] : List mV).length ≤ 8 then (if h_k (h_cp M_1 (h_r M_1 a6 1) 0 (h_r M_1 t0 3) 0 8) a7 = 4 then (if (a_rec (h_cp M_1 (h_r M_1 a6 1) 0 (h_r M_1 t0 3) 0 8) 3 [.inr a4, .inr t0, .inl (h_i (h_cp M_1 (h_r M_1 a6 1) 0 (h_r M_1 t0 3) 0 8) a7 5)] = true ∧ ([] : List mV).length ≤ 8) then (c_V (ev 19 0 [some (.inr a4), some (.inr t0), some (.inl (h_i (h_cp M_1 (h_r M_1 a6 1) 0 (h_r M_1 t0 3) 0 8) a7 5))] [] (h_cp M_1 (h_r M_1 a6 1) 0 (h_r M_1 t0 3) 0 8)) fun M_2 => if h_k M_2 a7 = 4 then (if h_k M_2 a7 = 4 then (if h_k (h_si M_2 a7 4 ((h_i M_2 a7 4) + 1)) a7 = 4 then (if h_k (h_si M_2 a7 4 ((h_i M_2 a7 4) + 1)) a7 = 4 then (if h_k (h_si (h_si M_2 a7 4 ((h_i M_2 a7 4) + 1)) a7 5 ((h_i (h_si M_2 a7 4 ((h_i M_2 a7 4) + 1)) a7 5) + 1)) a0 = 7 then (if (a_rec (h_si (h_si M_2 a7 4 ((h_i M_2 a7 4) + 1)) a7 5 ((h_i (h_si M_2 a7 4 ((h_i M_2 a7 4) + 1)) a7 5) + 1)) 4 [.inr a7] = true ∧ ([.inr (h_r (h_si (h_si M_2 a7 4 ((h_i M_2 a7 4) + 1)) a7 5 ((h_i (h_si M_2 a7 4 ((h_i M_2 a7 4) + 1)) a7 5) + 1)) a0 1)] : List mV).length ≤ 8) then (c_R (ev 22 0 [some (.inr a7)] [] (h_si (h_si M_2 a7 4 ((h_i M_2 a7 4) + 1)) a7 5 ((h_i (h_si M_2 a7 4 ((h_i M_2 a7 4) + 1)) a7 5) + 1))) fun u_4 M_3 => if (a_rec M_3 1 [.inr (h_r (h_si (h_si M_2 a7 4 ((h_i M_2 a7 4) + 1)) a7 5 ((h_i (h_si M_2 a7 4 ((h_i M_2 a7 4) + 1)) a7 5) + 1)) a0 1), .inr u_4] = true ∧ ([] : List mV).length ≤ 8) then (c_V (ev 2 0 [some (.inr (h_r (h_si (h_si M_2 a7 4 ((h_i M_2 a7 4) + 1)) a7 5 ((h_i (h_si M_2 a7 4 ((h_i M_2 a7 4) + 1)) a7 5) + 1)) a0 1)), some (.inr u_4)] [] M_3) fun M_5 => if h_k M_5 a0 = 7 then (if (a_rec M_5 1 [.inr (h_r M_5 a0 1), .inl 4] = true ∧ ([] : List mV).length ≤ 8) then (c_V (ev 3 0 [some (.inr (h_r M_5 a0 1)), some (.inl 4)] [] M_5) fun M_6 => if h_k M_6 a0 = 7 then (if (a_rec M_6 1 [.inr (h_r M_6 a0 1), .inl (h_i (h_cp M_1 (h_r M_1 a6 1) 0 (h_r M_1 t0 3) 0 8) a7 5)] = true ∧ ([] : List mV).length ≤ 8) then (c_V (ev 3 0 [some (.inr (h_r M_6 a0 1)), some (.inl (h_i (h_cp M_1 (h_r M_1 a6 1) 0 (h_r M_1 t0 3) 0 8) a7 5))] [] M_6) fun M_7 => if h_k M_7 a0 = 7 then (if h_k M_7 t0 = 5 then (if (a_rec M_7 0 [.inl (h_i M_7 t0 2)] = true ∧ ([.inr (h_r M_7 a0 1)] : List mV).length ≤ 8) then (c_I (ev 89 0 [some (.inl (h_i M_7 t0 2))] [] M_7) fun v_9 M_8 => if (a_rec M_8 1 [.inr (h_r M_7 a0 1), .inl v_9] = true ∧ ([] : List mV).length ≤ 8) then (c_V (ev 3 0 [some (.inr (h_r M_7 a0 1)), some (.inl v_9)] [] M_8) fun M_10 => if h_k M_10 a0 = 7 then (if h_k M_10 t0 = 5 then (if (a_rec M_10 1 [.inr (h_r M_10 a0 1), .inr (h_r M_10 t0 3), .inl 8] = true ∧ ([] : List mV).length ≤ 8) then (c_V (ev 4 0 [some (.inr (h_r M_10 a0 1)), some (.inr (h_r M_10 t0 3)), some (.inl 8), none] [] M_10) fun M_11 => if h_k M_11 a0 = 7 then (if (a_rec M_11 4 [.inr a7] = true ∧ ([.inr (h_r M_11 a0 1)] : List mV).length ≤ 8) then (c_R (ev 22 0 [some (.inr a7)] [] M_11) fun u_13 M_12 => if (a_rec M_12 1 [.inr (h_r M_11 a0 1), .inr u_13, .inl 0, .inl 8] = true ∧ ([] : List mV).length ≤ 8) then (c_V (ev 5 0 [some (.inr (h_r M_11 a0 1)), some (.inr u_13), some (.inl 0), some (.inl 8), none, none, none] [] M_12) fun M_14 => if (a_rec M_14 7 [.inr a0, .inl (h_i (h_cp M_1 (h_r M_1 a6 1) 0 (h_r M_1 t0 3) 0 8) a7 5)] = true ∧ ([] : List mV).length ≤ 8) then (c_I (ev 73 0 [some (.inr a0), some (.inl (h_i (h_cp M_1 (h_r M_1 a6 1) 0 (h_r M_1 t0 3) 0 8) a7 5))] [] M_14) fun v_16 M_15 => some (some (.inl v_16), M_15)) else none) else none) else none) else none) else none) else none) else none) else none) else none) else none) else none) else none) else none) else none) else none) else none) else none) else none) else none) else none) else none) else none) else none) else none) else none) else none) else none) else none := by
  refine (ev_gV (a_rec M 5 [.inr t1, .inr t2, .inr t3, .inl s4] = true ∧ ([.inr t0] : List mV).length ≤ 8) (as := [.inr t1, .inr t2, .inr t3, .inl s4]) (rr := [.inr t0]) c_41 c_25 rfl).trans (t_i (t_cV ?_) rfl)
  intro M_1
  refine (ev_ns c_41 2 (ip' := 60) (ls' := [some (.inr a0), some (.inl i1), some (.inl i2), some (.inl i3), some (.inr a4), some (.inr a5), some (.inr a6), some (.inr a7), some (.inr t0), none]) (st' := [.inr a6]) (M' := M_1) rfl).trans ?_
  refine (ev_g (h_k M_1 a6 = 3) (ip' := 61) (ls' := [some (.inr a0), some (.inl i1), some (.inl i2), some (.inl i3), some (.inr a4), some (.inr a5), some (.inr a6), some (.inr a7), some (.inr t0), none]) (st' := [.inr (h_r M_1 a6 1)]) (M' := M_1) c_41 rfl).trans (t_i ?_ rfl)
  refine (ev_ns c_41 2 (ip' := 63) (ls' := [some (.inr a0), some (.inl i1), some (.inl i2), some (.inl i3), some (.inr a4), some (.inr a5), some (.inr a6), some (.inr a7), some (.inr t0), none]) (st' := [.inr t0, .inl 0, .inr (h_r M_1 a6 1)]) (M' := M_1) rfl).trans ?_
  refine (ev_g (h_k M_1 t0 = 5) (ip' := 64) (ls' := [some (.inr a0), some (.inl i1), some (.inl i2), some (.inl i3), some (.inr a4), some (.inr a5), some (.inr a6), some (.inr a7), some (.inr t0), none]) (st' := [.inr (h_r M_1 t0 3), .inl 0, .inr (h_r M_1 a6 1)]) (M' := M_1) c_41 rfl).trans (t_i ?_ rfl)
  refine (ev_ns c_41 2 (ip' := 66) (ls' := [some (.inr a0), some (.inl i1), some (.inl i2), some (.inl i3), some (.inr a4), some (.inr a5), some (.inr a6), some (.inr a7), some (.inr t0), none]) (st' := [.inl 8, .inl 0, .inr (h_r M_1 t0 3), .inl 0, .inr (h_r M_1 a6 1)]) (M' := M_1) rfl).trans ?_
  refine (ev_g (((h_k M_1 (h_r M_1 a6 1) = 9 ∨ h_k M_1 (h_r M_1 a6 1) = 14) ∧ h_k M_1 (h_r M_1 t0 3) = 9) ∧ (¬ (0 : Int32) < 0 ∧ ¬ (0 : Int32) < 0 ∧ ¬ (8 : Int32) < 0) ∧ (0 + 8 ≤ h_l M_1 (h_r M_1 a6 1) ∧ 0 + 8 ≤ h_l M_1 (h_r M_1 t0 3)) ∧ ([] : List mV).length ≤ 8) (ip' := 67) (ls' := [some (.inr a0), some (.inl i1), some (.inl i2), some (.inl i3), some (.inr a4), some (.inr a5), some (.inr a6), some (.inr a7), some (.inr t0), none]) (st' := []) (M' := h_cp M_1 (h_r M_1 a6 1) 0 (h_r M_1 t0 3) 0 8) c_41 rfl).trans (t_i ?_ rfl)
  refine (ev_ns c_41 1 (ip' := 68) (ls' := [some (.inr a0), some (.inl i1), some (.inl i2), some (.inl i3), some (.inr a4), some (.inr a5), some (.inr a6), some (.inr a7), some (.inr t0), none]) (st' := [.inr a7]) (M' := h_cp M_1 (h_r M_1 a6 1) 0 (h_r M_1 t0 3) 0 8) rfl).trans ?_
  refine (ev_g (h_k (h_cp M_1 (h_r M_1 a6 1) 0 (h_r M_1 t0 3) 0 8) a7 = 4) (ip' := 69) (ls' := [some (.inr a0), some (.inl i1), some (.inl i2), some (.inl i3), some (.inr a4), some (.inr a5), some (.inr a6), some (.inr a7), some (.inr t0), none]) (st' := [.inl (h_i (h_cp M_1 (h_r M_1 a6 1) 0 (h_r M_1 t0 3) 0 8) a7 5)]) (M' := h_cp M_1 (h_r M_1 a6 1) 0 (h_r M_1 t0 3) 0 8) c_41 rfl).trans (t_i ?_ rfl)
  refine (ev_ns c_41 4 (ip' := 73) (ls' := [some (.inr a0), some (.inl i1), some (.inl i2), some (.inl i3), some (.inr a4), some (.inr a5), some (.inr a6), some (.inr a7), some (.inr t0), some (.inl (h_i (h_cp M_1 (h_r M_1 a6 1) 0 (h_r M_1 t0 3) 0 8) a7 5))]) (st' := [.inl (h_i (h_cp M_1 (h_r M_1 a6 1) 0 (h_r M_1 t0 3) 0 8) a7 5), .inr t0, .inr a4]) (M' := h_cp M_1 (h_r M_1 a6 1) 0 (h_r M_1 t0 3) 0 8) rfl).trans ?_
  refine (ev_gV (a_rec (h_cp M_1 (h_r M_1 a6 1) 0 (h_r M_1 t0 3) 0 8) 3 [.inr a4, .inr t0, .inl (h_i (h_cp M_1 (h_r M_1 a6 1) 0 (h_r M_1 t0 3) 0 8) a7 5)] = true ∧ ([] : List mV).length ≤ 8) (as := [.inr a4, .inr t0, .inl (h_i (h_cp M_1 (h_r M_1 a6 1) 0 (h_r M_1 t0 3) 0 8) a7 5)]) (rr := []) c_41 c_19 rfl).trans (t_i (t_cV ?_) rfl)
  intro M_2
  refine (ev_ns c_41 2 (ip' := 76) (ls' := [some (.inr a0), some (.inl i1), some (.inl i2), some (.inl i3), some (.inr a4), some (.inr a5), some (.inr a6), some (.inr a7), some (.inr t0), some (.inl (h_i (h_cp M_1 (h_r M_1 a6 1) 0 (h_r M_1 t0 3) 0 8) a7 5))]) (st' := [.inr a7, .inr a7]) (M' := M_2) rfl).trans ?_
  refine (ev_g (h_k M_2 a7 = 4) (ip' := 77) (ls' := [some (.inr a0), some (.inl i1), some (.inl i2), some (.inl i3), some (.inr a4), some (.inr a5), some (.inr a6), some (.inr a7), some (.inr t0), some (.inl (h_i (h_cp M_1 (h_r M_1 a6 1) 0 (h_r M_1 t0 3) 0 8) a7 5))]) (st' := [.inl (h_i M_2 a7 4), .inr a7]) (M' := M_2) c_41 rfl).trans (t_i ?_ rfl)
  refine (ev_ns c_41 2 (ip' := 79) (ls' := [some (.inr a0), some (.inl i1), some (.inl i2), some (.inl i3), some (.inr a4), some (.inr a5), some (.inr a6), some (.inr a7), some (.inr t0), some (.inl (h_i (h_cp M_1 (h_r M_1 a6 1) 0 (h_r M_1 t0 3) 0 8) a7 5))]) (st' := [.inl ((h_i M_2 a7 4) + 1), .inr a7]) (M' := M_2) rfl).trans ?_
  refine (ev_g (h_k M_2 a7 = 4) (ip' := 80) (ls' := [some (.inr a0), some (.inl i1), some (.inl i2), some (.inl i3), some (.inr a4), some (.inr a5), some (.inr a6), some (.inr a7), some (.inr t0), some (.inl (h_i (h_cp M_1 (h_r M_1 a6 1) 0 (h_r M_1 t0 3) 0 8) a7 5))]) (st' := []) (M' := h_si M_2 a7 4 ((h_i M_2 a7 4) + 1)) c_41 rfl).trans (t_i ?_ rfl)
  refine (ev_ns c_41 2 (ip' := 82) (ls' := [some (.inr a0), some (.inl i1), some (.inl i2), some (.inl i3), some (.inr a4), some (.inr a5), some (.inr a6), some (.inr a7), some (.inr t0), some (.inl (h_i (h_cp M_1 (h_r M_1 a6 1) 0 (h_r M_1 t0 3) 0 8) a7 5))]) (st' := [.inr a7, .inr a7]) (M' := h_si M_2 a7 4 ((h_i M_2 a7 4) + 1)) rfl).trans ?_
  refine (ev_g (h_k (h_si M_2 a7 4 ((h_i M_2 a7 4) + 1)) a7 = 4) (ip' := 83) (ls' := [some (.inr a0), some (.inl i1), some (.inl i2), some (.inl i3), some (.inr a4), some (.inr a5), some (.inr a6), some (.inr a7), some (.inr t0), some (.inl (h_i (h_cp M_1 (h_r M_1 a6 1) 0 (h_r M_1 t0 3) 0 8) a7 5))]) (st' := [.inl (h_i (h_si M_2 a7 4 ((h_i M_2 a7 4) + 1)) a7 5), .inr a7]) (M' := h_si M_2 a7 4 ((h_i M_2 a7 4) + 1)) c_41 rfl).trans (t_i ?_ rfl)
  refine (ev_ns c_41 2 (ip' := 85) (ls' := [some (.inr a0), some (.inl i1), some (.inl i2), some (.inl i3), some (.inr a4), some (.inr a5), some (.inr a6), some (.inr a7), some (.inr t0), some (.inl (h_i (h_cp M_1 (h_r M_1 a6 1) 0 (h_r M_1 t0 3) 0 8) a7 5))]) (st' := [.inl ((h_i (h_si M_2 a7 4 ((h_i M_2 a7 4) + 1)) a7 5) + 1), .inr a7]) (M' := h_si M_2 a7 4 ((h_i M_2 a7 4) + 1)) rfl).trans ?_
  refine (ev_g (h_k (h_si M_2 a7 4 ((h_i M_2 a7 4) + 1)) a7 = 4) (ip' := 86) (ls' := [some (.inr a0), some (.inl i1), some (.inl i2), some (.inl i3), some (.inr a4), some (.inr a5), some (.inr a6), some (.inr a7), some (.inr t0), some (.inl (h_i (h_cp M_1 (h_r M_1 a6 1) 0 (h_r M_1 t0 3) 0 8) a7 5))]) (st' := []) (M' := h_si (h_si M_2 a7 4 ((h_i M_2 a7 4) + 1)) a7 5 ((h_i (h_si M_2 a7 4 ((h_i M_2 a7 4) + 1)) a7 5) + 1)) c_41 rfl).trans (t_i ?_ rfl)
  refine (ev_ns c_41 1 (ip' := 87) (ls' := [some (.inr a0), some (.inl i1), some (.inl i2), some (.inl i3), some (.inr a4), some (.inr a5), some (.inr a6), some (.inr a7), some (.inr t0), some (.inl (h_i (h_cp M_1 (h_r M_1 a6 1) 0 (h_r M_1 t0 3) 0 8) a7 5))]) (st' := [.inr a0]) (M' := h_si (h_si M_2 a7 4 ((h_i M_2 a7 4) + 1)) a7 5 ((h_i (h_si M_2 a7 4 ((h_i M_2 a7 4) + 1)) a7 5) + 1)) rfl).trans ?_
  refine (ev_g (h_k (h_si (h_si M_2 a7 4 ((h_i M_2 a7 4) + 1)) a7 5 ((h_i (h_si M_2 a7 4 ((h_i M_2 a7 4) + 1)) a7 5) + 1)) a0 = 7) (ip' := 88) (ls' := [some (.inr a0), some (.inl i1), some (.inl i2), some (.inl i3), some (.inr a4), some (.inr a5), some (.inr a6), some (.inr a7), some (.inr t0), some (.inl (h_i (h_cp M_1 (h_r M_1 a6 1) 0 (h_r M_1 t0 3) 0 8) a7 5))]) (st' := [.inr (h_r (h_si (h_si M_2 a7 4 ((h_i M_2 a7 4) + 1)) a7 5 ((h_i (h_si M_2 a7 4 ((h_i M_2 a7 4) + 1)) a7 5) + 1)) a0 1)]) (M' := h_si (h_si M_2 a7 4 ((h_i M_2 a7 4) + 1)) a7 5 ((h_i (h_si M_2 a7 4 ((h_i M_2 a7 4) + 1)) a7 5) + 1)) c_41 rfl).trans (t_i ?_ rfl)
  refine (ev_ns c_41 1 (ip' := 89) (ls' := [some (.inr a0), some (.inl i1), some (.inl i2), some (.inl i3), some (.inr a4), some (.inr a5), some (.inr a6), some (.inr a7), some (.inr t0), some (.inl (h_i (h_cp M_1 (h_r M_1 a6 1) 0 (h_r M_1 t0 3) 0 8) a7 5))]) (st' := [.inr a7, .inr (h_r (h_si (h_si M_2 a7 4 ((h_i M_2 a7 4) + 1)) a7 5 ((h_i (h_si M_2 a7 4 ((h_i M_2 a7 4) + 1)) a7 5) + 1)) a0 1)]) (M' := h_si (h_si M_2 a7 4 ((h_i M_2 a7 4) + 1)) a7 5 ((h_i (h_si M_2 a7 4 ((h_i M_2 a7 4) + 1)) a7 5) + 1)) rfl).trans ?_
  refine (ev_gR (a_rec (h_si (h_si M_2 a7 4 ((h_i M_2 a7 4) + 1)) a7 5 ((h_i (h_si M_2 a7 4 ((h_i M_2 a7 4) + 1)) a7 5) + 1)) 4 [.inr a7] = true ∧ ([.inr (h_r (h_si (h_si M_2 a7 4 ((h_i M_2 a7 4) + 1)) a7 5 ((h_i (h_si M_2 a7 4 ((h_i M_2 a7 4) + 1)) a7 5) + 1)) a0 1)] : List mV).length ≤ 8) (as := [.inr a7]) (rr := [.inr (h_r (h_si (h_si M_2 a7 4 ((h_i M_2 a7 4) + 1)) a7 5 ((h_i (h_si M_2 a7 4 ((h_i M_2 a7 4) + 1)) a7 5) + 1)) a0 1)]) c_41 c_22 rfl).trans (t_i (t_cR ?_) rfl)
  intro u_4 M_3
  refine (ev_gV (a_rec M_3 1 [.inr (h_r (h_si (h_si M_2 a7 4 ((h_i M_2 a7 4) + 1)) a7 5 ((h_i (h_si M_2 a7 4 ((h_i M_2 a7 4) + 1)) a7 5) + 1)) a0 1), .inr u_4] = true ∧ ([] : List mV).length ≤ 8) (as := [.inr (h_r (h_si (h_si M_2 a7 4 ((h_i M_2 a7 4) + 1)) a7 5 ((h_i (h_si M_2 a7 4 ((h_i M_2 a7 4) + 1)) a7 5) + 1)) a0 1), .inr u_4]) (rr := []) c_41 c_2 rfl).trans (t_i (t_cV ?_) rfl)
  intro M_5
  refine (ev_ns c_41 1 (ip' := 92) (ls' := [some (.inr a0), some (.inl i1), some (.inl i2), some (.inl i3), some (.inr a4), some (.inr a5), some (.inr a6), some (.inr a7), some (.inr t0), some (.inl (h_i (h_cp M_1 (h_r M_1 a6 1) 0 (h_r M_1 t0 3) 0 8) a7 5))]) (st' := [.inr a0]) (M' := M_5) rfl).trans ?_
  refine (ev_g (h_k M_5 a0 = 7) (ip' := 93) (ls' := [some (.inr a0), some (.inl i1), some (.inl i2), some (.inl i3), some (.inr a4), some (.inr a5), some (.inr a6), some (.inr a7), some (.inr t0), some (.inl (h_i (h_cp M_1 (h_r M_1 a6 1) 0 (h_r M_1 t0 3) 0 8) a7 5))]) (st' := [.inr (h_r M_5 a0 1)]) (M' := M_5) c_41 rfl).trans (t_i ?_ rfl)
  refine (ev_ns c_41 1 (ip' := 94) (ls' := [some (.inr a0), some (.inl i1), some (.inl i2), some (.inl i3), some (.inr a4), some (.inr a5), some (.inr a6), some (.inr a7), some (.inr t0), some (.inl (h_i (h_cp M_1 (h_r M_1 a6 1) 0 (h_r M_1 t0 3) 0 8) a7 5))]) (st' := [.inl 4, .inr (h_r M_5 a0 1)]) (M' := M_5) rfl).trans ?_
  refine (ev_gV (a_rec M_5 1 [.inr (h_r M_5 a0 1), .inl 4] = true ∧ ([] : List mV).length ≤ 8) (as := [.inr (h_r M_5 a0 1), .inl 4]) (rr := []) c_41 c_3 rfl).trans (t_i (t_cV ?_) rfl)
  intro M_6
  refine (ev_ns c_41 1 (ip' := 96) (ls' := [some (.inr a0), some (.inl i1), some (.inl i2), some (.inl i3), some (.inr a4), some (.inr a5), some (.inr a6), some (.inr a7), some (.inr t0), some (.inl (h_i (h_cp M_1 (h_r M_1 a6 1) 0 (h_r M_1 t0 3) 0 8) a7 5))]) (st' := [.inr a0]) (M' := M_6) rfl).trans ?_
  refine (ev_g (h_k M_6 a0 = 7) (ip' := 97) (ls' := [some (.inr a0), some (.inl i1), some (.inl i2), some (.inl i3), some (.inr a4), some (.inr a5), some (.inr a6), some (.inr a7), some (.inr t0), some (.inl (h_i (h_cp M_1 (h_r M_1 a6 1) 0 (h_r M_1 t0 3) 0 8) a7 5))]) (st' := [.inr (h_r M_6 a0 1)]) (M' := M_6) c_41 rfl).trans (t_i ?_ rfl)
  refine (ev_ns c_41 1 (ip' := 98) (ls' := [some (.inr a0), some (.inl i1), some (.inl i2), some (.inl i3), some (.inr a4), some (.inr a5), some (.inr a6), some (.inr a7), some (.inr t0), some (.inl (h_i (h_cp M_1 (h_r M_1 a6 1) 0 (h_r M_1 t0 3) 0 8) a7 5))]) (st' := [.inl (h_i (h_cp M_1 (h_r M_1 a6 1) 0 (h_r M_1 t0 3) 0 8) a7 5), .inr (h_r M_6 a0 1)]) (M' := M_6) rfl).trans ?_
  refine (ev_gV (a_rec M_6 1 [.inr (h_r M_6 a0 1), .inl (h_i (h_cp M_1 (h_r M_1 a6 1) 0 (h_r M_1 t0 3) 0 8) a7 5)] = true ∧ ([] : List mV).length ≤ 8) (as := [.inr (h_r M_6 a0 1), .inl (h_i (h_cp M_1 (h_r M_1 a6 1) 0 (h_r M_1 t0 3) 0 8) a7 5)]) (rr := []) c_41 c_3 rfl).trans (t_i (t_cV ?_) rfl)
  intro M_7
  refine (ev_ns c_41 1 (ip' := 100) (ls' := [some (.inr a0), some (.inl i1), some (.inl i2), some (.inl i3), some (.inr a4), some (.inr a5), some (.inr a6), some (.inr a7), some (.inr t0), some (.inl (h_i (h_cp M_1 (h_r M_1 a6 1) 0 (h_r M_1 t0 3) 0 8) a7 5))]) (st' := [.inr a0]) (M' := M_7) rfl).trans ?_
  refine (ev_g (h_k M_7 a0 = 7) (ip' := 101) (ls' := [some (.inr a0), some (.inl i1), some (.inl i2), some (.inl i3), some (.inr a4), some (.inr a5), some (.inr a6), some (.inr a7), some (.inr t0), some (.inl (h_i (h_cp M_1 (h_r M_1 a6 1) 0 (h_r M_1 t0 3) 0 8) a7 5))]) (st' := [.inr (h_r M_7 a0 1)]) (M' := M_7) c_41 rfl).trans (t_i ?_ rfl)
  refine (ev_ns c_41 1 (ip' := 102) (ls' := [some (.inr a0), some (.inl i1), some (.inl i2), some (.inl i3), some (.inr a4), some (.inr a5), some (.inr a6), some (.inr a7), some (.inr t0), some (.inl (h_i (h_cp M_1 (h_r M_1 a6 1) 0 (h_r M_1 t0 3) 0 8) a7 5))]) (st' := [.inr t0, .inr (h_r M_7 a0 1)]) (M' := M_7) rfl).trans ?_
  refine (ev_g (h_k M_7 t0 = 5) (ip' := 103) (ls' := [some (.inr a0), some (.inl i1), some (.inl i2), some (.inl i3), some (.inr a4), some (.inr a5), some (.inr a6), some (.inr a7), some (.inr t0), some (.inl (h_i (h_cp M_1 (h_r M_1 a6 1) 0 (h_r M_1 t0 3) 0 8) a7 5))]) (st' := [.inl (h_i M_7 t0 2), .inr (h_r M_7 a0 1)]) (M' := M_7) c_41 rfl).trans (t_i ?_ rfl)
  refine (ev_gI (a_rec M_7 0 [.inl (h_i M_7 t0 2)] = true ∧ ([.inr (h_r M_7 a0 1)] : List mV).length ≤ 8) (as := [.inl (h_i M_7 t0 2)]) (rr := [.inr (h_r M_7 a0 1)]) c_41 c_89 rfl).trans (t_i (t_cI ?_) rfl)
  intro v_9 M_8
  refine (ev_gV (a_rec M_8 1 [.inr (h_r M_7 a0 1), .inl v_9] = true ∧ ([] : List mV).length ≤ 8) (as := [.inr (h_r M_7 a0 1), .inl v_9]) (rr := []) c_41 c_3 rfl).trans (t_i (t_cV ?_) rfl)
  intro M_10
  refine (ev_ns c_41 1 (ip' := 106) (ls' := [some (.inr a0), some (.inl i1), some (.inl i2), some (.inl i3), some (.inr a4), some (.inr a5), some (.inr a6), some (.inr a7), some (.inr t0), some (.inl (h_i (h_cp M_1 (h_r M_1 a6 1) 0 (h_r M_1 t0 3) 0 8) a7 5))]) (st' := [.inr a0]) (M' := M_10) rfl).trans ?_
  refine (ev_g (h_k M_10 a0 = 7) (ip' := 107) (ls' := [some (.inr a0), some (.inl i1), some (.inl i2), some (.inl i3), some (.inr a4), some (.inr a5), some (.inr a6), some (.inr a7), some (.inr t0), some (.inl (h_i (h_cp M_1 (h_r M_1 a6 1) 0 (h_r M_1 t0 3) 0 8) a7 5))]) (st' := [.inr (h_r M_10 a0 1)]) (M' := M_10) c_41 rfl).trans (t_i ?_ rfl)
  refine (ev_ns c_41 1 (ip' := 108) (ls' := [some (.inr a0), some (.inl i1), some (.inl i2), some (.inl i3), some (.inr a4), some (.inr a5), some (.inr a6), some (.inr a7), some (.inr t0), some (.inl (h_i (h_cp M_1 (h_r M_1 a6 1) 0 (h_r M_1 t0 3) 0 8) a7 5))]) (st' := [.inr t0, .inr (h_r M_10 a0 1)]) (M' := M_10) rfl).trans ?_
  refine (ev_g (h_k M_10 t0 = 5) (ip' := 109) (ls' := [some (.inr a0), some (.inl i1), some (.inl i2), some (.inl i3), some (.inr a4), some (.inr a5), some (.inr a6), some (.inr a7), some (.inr t0), some (.inl (h_i (h_cp M_1 (h_r M_1 a6 1) 0 (h_r M_1 t0 3) 0 8) a7 5))]) (st' := [.inr (h_r M_10 t0 3), .inr (h_r M_10 a0 1)]) (M' := M_10) c_41 rfl).trans (t_i ?_ rfl)
  refine (ev_ns c_41 1 (ip' := 110) (ls' := [some (.inr a0), some (.inl i1), some (.inl i2), some (.inl i3), some (.inr a4), some (.inr a5), some (.inr a6), some (.inr a7), some (.inr t0), some (.inl (h_i (h_cp M_1 (h_r M_1 a6 1) 0 (h_r M_1 t0 3) 0 8) a7 5))]) (st' := [.inl 8, .inr (h_r M_10 t0 3), .inr (h_r M_10 a0 1)]) (M' := M_10) rfl).trans ?_
  refine (ev_gV (a_rec M_10 1 [.inr (h_r M_10 a0 1), .inr (h_r M_10 t0 3), .inl 8] = true ∧ ([] : List mV).length ≤ 8) (as := [.inr (h_r M_10 a0 1), .inr (h_r M_10 t0 3), .inl 8]) (rr := []) c_41 c_4 rfl).trans (t_i (t_cV ?_) rfl)
  intro M_11
  refine (ev_ns c_41 1 (ip' := 112) (ls' := [some (.inr a0), some (.inl i1), some (.inl i2), some (.inl i3), some (.inr a4), some (.inr a5), some (.inr a6), some (.inr a7), some (.inr t0), some (.inl (h_i (h_cp M_1 (h_r M_1 a6 1) 0 (h_r M_1 t0 3) 0 8) a7 5))]) (st' := [.inr a0]) (M' := M_11) rfl).trans ?_
  refine (ev_g (h_k M_11 a0 = 7) (ip' := 113) (ls' := [some (.inr a0), some (.inl i1), some (.inl i2), some (.inl i3), some (.inr a4), some (.inr a5), some (.inr a6), some (.inr a7), some (.inr t0), some (.inl (h_i (h_cp M_1 (h_r M_1 a6 1) 0 (h_r M_1 t0 3) 0 8) a7 5))]) (st' := [.inr (h_r M_11 a0 1)]) (M' := M_11) c_41 rfl).trans (t_i ?_ rfl)
  refine (ev_ns c_41 1 (ip' := 114) (ls' := [some (.inr a0), some (.inl i1), some (.inl i2), some (.inl i3), some (.inr a4), some (.inr a5), some (.inr a6), some (.inr a7), some (.inr t0), some (.inl (h_i (h_cp M_1 (h_r M_1 a6 1) 0 (h_r M_1 t0 3) 0 8) a7 5))]) (st' := [.inr a7, .inr (h_r M_11 a0 1)]) (M' := M_11) rfl).trans ?_
  refine (ev_gR (a_rec M_11 4 [.inr a7] = true ∧ ([.inr (h_r M_11 a0 1)] : List mV).length ≤ 8) (as := [.inr a7]) (rr := [.inr (h_r M_11 a0 1)]) c_41 c_22 rfl).trans (t_i (t_cR ?_) rfl)
  intro u_13 M_12
  refine (ev_ns c_41 2 (ip' := 117) (ls' := [some (.inr a0), some (.inl i1), some (.inl i2), some (.inl i3), some (.inr a4), some (.inr a5), some (.inr a6), some (.inr a7), some (.inr t0), some (.inl (h_i (h_cp M_1 (h_r M_1 a6 1) 0 (h_r M_1 t0 3) 0 8) a7 5))]) (st' := [.inl 8, .inl 0, .inr u_13, .inr (h_r M_11 a0 1)]) (M' := M_12) rfl).trans ?_
  refine (ev_gV (a_rec M_12 1 [.inr (h_r M_11 a0 1), .inr u_13, .inl 0, .inl 8] = true ∧ ([] : List mV).length ≤ 8) (as := [.inr (h_r M_11 a0 1), .inr u_13, .inl 0, .inl 8]) (rr := []) c_41 c_5 rfl).trans (t_i (t_cV ?_) rfl)
  intro M_14
  refine (ev_ns c_41 2 (ip' := 120) (ls' := [some (.inr a0), some (.inl i1), some (.inl i2), some (.inl i3), some (.inr a4), some (.inr a5), some (.inr a6), some (.inr a7), some (.inr t0), some (.inl (h_i (h_cp M_1 (h_r M_1 a6 1) 0 (h_r M_1 t0 3) 0 8) a7 5))]) (st' := [.inl (h_i (h_cp M_1 (h_r M_1 a6 1) 0 (h_r M_1 t0 3) 0 8) a7 5), .inr a0]) (M' := M_14) rfl).trans ?_
  refine (ev_gI (a_rec M_14 7 [.inr a0, .inl (h_i (h_cp M_1 (h_r M_1 a6 1) 0 (h_r M_1 t0 3) 0 8) a7 5)] = true ∧ ([] : List mV).length ≤ 8) (as := [.inr a0, .inl (h_i (h_cp M_1 (h_r M_1 a6 1) 0 (h_r M_1 t0 3) 0 8) a7 5)]) (rr := []) c_41 c_73 rfl).trans (t_i (t_cI ?_) rfl)
  intro v_16 M_15
  exact ev_d c_41 rfl
/- 42: GranuleHall.end(I)Z -/
set_option maxRecDepth 20000 in
theorem e_42_0 (a0 : Nat) (i1 : Int32) (M : mM) : ev 42 0 [some (.inr a0), some (.inl i1), none, none] [] M = if (a_rec M 7 [.inr a0, .inl i1] = true ∧ ([] : List mV).length ≤ 8) then (c_R (ev 79 0 [some (.inr a0), some (.inl i1)] [] M) fun u_2 M_1 => if u_2 = 0 then (if (a_rec M_1 7 [.inr a0, .inl 1] = true ∧ ([] : List mV).length ≤ 8) then (c_I (ev 76 0 [some (.inr a0), some (.inl 1)] [] M_1) fun v_4 M_3 => if v_4 = 0 ∨ v_4 = 1 then some (some (.inl v_4), M_3) else none) else none) else (if h_k M_1 u_2 = 3 then (if (h_r M_1 u_2 5) = 0 then (if (a_rec M_1 7 [.inr a0, .inl 2] = true ∧ ([] : List mV).length ≤ 8) then (c_I (ev 76 0 [some (.inr a0), some (.inl 2)] [] M_1) fun v_6 M_5 => if v_6 = 0 ∨ v_6 = 1 then some (some (.inl v_6), M_5) else none) else none) else (if h_k M_1 a0 = 7 then (if ¬ h_k M_1 (h_r M_1 u_2 5) = 14 ∧ ¬ h_k M_1 (h_r M_1 a0 3) = 14 then (if (h_r M_1 u_2 5) = (h_r M_1 a0 3) then (if (a_rec M_1 7 [.inr a0, .inl 4] = true ∧ ([] : List mV).length ≤ 8) then (c_I (ev 76 0 [some (.inr a0), some (.inl 4)] [] M_1) fun v_8 M_7 => if v_8 = 0 ∨ v_8 = 1 then some (some (.inl v_8), M_7) else none) else none) else (if h_k M_1 (h_r M_1 u_2 5) = 5 then (if h_k M_1 (h_r M_1 (h_r M_1 u_2 5) 1) = 4 then (if h_k M_1 (h_r M_1 (h_r M_1 u_2 5) 1) = 4 then (if (a_rec (h_si M_1 (h_r M_1 (h_r M_1 u_2 5) 1) 4 ((h_i M_1 (h_r M_1 (h_r M_1 u_2 5) 1) 4) - 1)) 3 [.inr u_2, .inl 1, .inr 0, .inl (-1)] = true ∧ ([] : List mV).length ≤ 8) then (c_V (ev 17 0 [some (.inr u_2), some (.inl 1), some (.inr 0), some (.inl (-1))] [] (h_si M_1 (h_r M_1 (h_r M_1 u_2 5) 1) 4 ((h_i M_1 (h_r M_1 (h_r M_1 u_2 5) 1) 4) - 1))) fun M_9 => if (a_rec M_9 7 [.inr a0] = true ∧ ([] : List mV).length ≤ 8) then (c_I (ev 74 0 [some (.inr a0)] [] M_9) fun v_11 M_10 => if v_11 = 0 ∨ v_11 = 1 then some (some (.inl v_11), M_10) else none) else none) else none) else none) else none) else none)) else none) else none)) else none)) else none := by
  refine (ev_ns c_42 2 (ip' := 2) (ls' := [some (.inr a0), some (.inl i1), none, none]) (st' := [.inl i1, .inr a0]) (M' := M) rfl).trans ?_
  refine (ev_gR (a_rec M 7 [.inr a0, .inl i1] = true ∧ ([] : List mV).length ≤ 8) (as := [.inr a0, .inl i1]) (rr := []) c_42 c_79 rfl).trans (t_i (t_cR ?_) rfl)
  intro u_2 M_1
  refine (ev_ns c_42 2 (ip' := 5) (ls' := [some (.inr a0), some (.inl i1), some (.inr u_2), none]) (st' := [.inr u_2]) (M' := M_1) rfl).trans ?_
  refine (ev_i (u_2 = 0) (i1 := 6) (l1 := [some (.inr a0), some (.inl i1), some (.inr u_2), none]) (s1 := []) (M1 := M_1) (i2 := 10) (l2 := [some (.inr a0), some (.inl i1), some (.inr u_2), none]) (s2 := []) (M2 := M_1) c_42 rfl).trans (t_i ?_ ?_)
  · skip
    refine (ev_ns c_42 2 (ip' := 8) (ls' := [some (.inr a0), some (.inl i1), some (.inr u_2), none]) (st' := [.inl 1, .inr a0]) (M' := M_1) rfl).trans ?_
    refine (ev_gI (a_rec M_1 7 [.inr a0, .inl 1] = true ∧ ([] : List mV).length ≤ 8) (as := [.inr a0, .inl 1]) (rr := []) c_42 c_76 rfl).trans (t_i (t_cI ?_) rfl)
    intro v_4 M_3
    exact ev_gd (v_4 = 0 ∨ v_4 = 1) c_42 rfl
  · skip
    refine (ev_ns c_42 1 (ip' := 11) (ls' := [some (.inr a0), some (.inl i1), some (.inr u_2), none]) (st' := [.inr u_2]) (M' := M_1) rfl).trans ?_
    refine (ev_g (h_k M_1 u_2 = 3) (ip' := 12) (ls' := [some (.inr a0), some (.inl i1), some (.inr u_2), none]) (st' := [.inr (h_r M_1 u_2 5)]) (M' := M_1) c_42 rfl).trans (t_i ?_ rfl)
    refine (ev_ns c_42 2 (ip' := 14) (ls' := [some (.inr a0), some (.inl i1), some (.inr u_2), some (.inr (h_r M_1 u_2 5))]) (st' := [.inr (h_r M_1 u_2 5)]) (M' := M_1) rfl).trans ?_
    refine (ev_i ((h_r M_1 u_2 5) = 0) (i1 := 15) (l1 := [some (.inr a0), some (.inl i1), some (.inr u_2), some (.inr (h_r M_1 u_2 5))]) (s1 := []) (M1 := M_1) (i2 := 19) (l2 := [some (.inr a0), some (.inl i1), some (.inr u_2), some (.inr (h_r M_1 u_2 5))]) (s2 := []) (M2 := M_1) c_42 rfl).trans (t_i ?_ ?_)
    · skip
      refine (ev_ns c_42 2 (ip' := 17) (ls' := [some (.inr a0), some (.inl i1), some (.inr u_2), some (.inr (h_r M_1 u_2 5))]) (st' := [.inl 2, .inr a0]) (M' := M_1) rfl).trans ?_
      refine (ev_gI (a_rec M_1 7 [.inr a0, .inl 2] = true ∧ ([] : List mV).length ≤ 8) (as := [.inr a0, .inl 2]) (rr := []) c_42 c_76 rfl).trans (t_i (t_cI ?_) rfl)
      intro v_6 M_5
      exact ev_gd (v_6 = 0 ∨ v_6 = 1) c_42 rfl
    · skip
      refine (ev_ns c_42 2 (ip' := 21) (ls' := [some (.inr a0), some (.inl i1), some (.inr u_2), some (.inr (h_r M_1 u_2 5))]) (st' := [.inr a0, .inr (h_r M_1 u_2 5)]) (M' := M_1) rfl).trans ?_
      refine (ev_g (h_k M_1 a0 = 7) (ip' := 22) (ls' := [some (.inr a0), some (.inl i1), some (.inr u_2), some (.inr (h_r M_1 u_2 5))]) (st' := [.inr (h_r M_1 a0 3), .inr (h_r M_1 u_2 5)]) (M' := M_1) c_42 rfl).trans (t_i ?_ rfl)
      refine (ev_gi (¬ h_k M_1 (h_r M_1 u_2 5) = 14 ∧ ¬ h_k M_1 (h_r M_1 a0 3) = 14) ((h_r M_1 u_2 5) = (h_r M_1 a0 3)) (i1 := 23) (l1 := [some (.inr a0), some (.inl i1), some (.inr u_2), some (.inr (h_r M_1 u_2 5))]) (s1 := []) (M1 := M_1) (i2 := 27) (l2 := [some (.inr a0), some (.inl i1), some (.inr u_2), some (.inr (h_r M_1 u_2 5))]) (s2 := []) (M2 := M_1) c_42 rfl).trans (t_i (t_i ?_ ?_) rfl)
      · skip
        refine (ev_ns c_42 2 (ip' := 25) (ls' := [some (.inr a0), some (.inl i1), some (.inr u_2), some (.inr (h_r M_1 u_2 5))]) (st' := [.inl 4, .inr a0]) (M' := M_1) rfl).trans ?_
        refine (ev_gI (a_rec M_1 7 [.inr a0, .inl 4] = true ∧ ([] : List mV).length ≤ 8) (as := [.inr a0, .inl 4]) (rr := []) c_42 c_76 rfl).trans (t_i (t_cI ?_) rfl)
        intro v_8 M_7
        exact ev_gd (v_8 = 0 ∨ v_8 = 1) c_42 rfl
      · skip
        refine (ev_ns c_42 1 (ip' := 28) (ls' := [some (.inr a0), some (.inl i1), some (.inr u_2), some (.inr (h_r M_1 u_2 5))]) (st' := [.inr (h_r M_1 u_2 5)]) (M' := M_1) rfl).trans ?_
        refine (ev_g (h_k M_1 (h_r M_1 u_2 5) = 5) (ip' := 29) (ls' := [some (.inr a0), some (.inl i1), some (.inr u_2), some (.inr (h_r M_1 u_2 5))]) (st' := [.inr (h_r M_1 (h_r M_1 u_2 5) 1)]) (M' := M_1) c_42 rfl).trans (t_i ?_ rfl)
        refine (ev_ns c_42 1 (ip' := 30) (ls' := [some (.inr a0), some (.inl i1), some (.inr u_2), some (.inr (h_r M_1 u_2 5))]) (st' := [.inr (h_r M_1 (h_r M_1 u_2 5) 1), .inr (h_r M_1 (h_r M_1 u_2 5) 1)]) (M' := M_1) rfl).trans ?_
        refine (ev_g (h_k M_1 (h_r M_1 (h_r M_1 u_2 5) 1) = 4) (ip' := 31) (ls' := [some (.inr a0), some (.inl i1), some (.inr u_2), some (.inr (h_r M_1 u_2 5))]) (st' := [.inl (h_i M_1 (h_r M_1 (h_r M_1 u_2 5) 1) 4), .inr (h_r M_1 (h_r M_1 u_2 5) 1)]) (M' := M_1) c_42 rfl).trans (t_i ?_ rfl)
        refine (ev_ns c_42 2 (ip' := 33) (ls' := [some (.inr a0), some (.inl i1), some (.inr u_2), some (.inr (h_r M_1 u_2 5))]) (st' := [.inl ((h_i M_1 (h_r M_1 (h_r M_1 u_2 5) 1) 4) - 1), .inr (h_r M_1 (h_r M_1 u_2 5) 1)]) (M' := M_1) rfl).trans ?_
        refine (ev_g (h_k M_1 (h_r M_1 (h_r M_1 u_2 5) 1) = 4) (ip' := 34) (ls' := [some (.inr a0), some (.inl i1), some (.inr u_2), some (.inr (h_r M_1 u_2 5))]) (st' := []) (M' := h_si M_1 (h_r M_1 (h_r M_1 u_2 5) 1) 4 ((h_i M_1 (h_r M_1 (h_r M_1 u_2 5) 1) 4) - 1)) c_42 rfl).trans (t_i ?_ rfl)
        refine (ev_ns c_42 4 (ip' := 38) (ls' := [some (.inr a0), some (.inl i1), some (.inr u_2), some (.inr (h_r M_1 u_2 5))]) (st' := [.inl (-1), .inr 0, .inl 1, .inr u_2]) (M' := h_si M_1 (h_r M_1 (h_r M_1 u_2 5) 1) 4 ((h_i M_1 (h_r M_1 (h_r M_1 u_2 5) 1) 4) - 1)) rfl).trans ?_
        refine (ev_gV (a_rec (h_si M_1 (h_r M_1 (h_r M_1 u_2 5) 1) 4 ((h_i M_1 (h_r M_1 (h_r M_1 u_2 5) 1) 4) - 1)) 3 [.inr u_2, .inl 1, .inr 0, .inl (-1)] = true ∧ ([] : List mV).length ≤ 8) (as := [.inr u_2, .inl 1, .inr 0, .inl (-1)]) (rr := []) c_42 c_17 rfl).trans (t_i (t_cV ?_) rfl)
        intro M_9
        refine (ev_ns c_42 1 (ip' := 40) (ls' := [some (.inr a0), some (.inl i1), some (.inr u_2), some (.inr (h_r M_1 u_2 5))]) (st' := [.inr a0]) (M' := M_9) rfl).trans ?_
        refine (ev_gI (a_rec M_9 7 [.inr a0] = true ∧ ([] : List mV).length ≤ 8) (as := [.inr a0]) (rr := []) c_42 c_74 rfl).trans (t_i (t_cI ?_) rfl)
        intro v_11 M_10
        exact ev_gd (v_11 = 0 ∨ v_11 = 1) c_42 rfl
/- 43: GranuleHall.table(IIII)Z -/
set_option maxRecDepth 20000 in
theorem e_43_0 (a0 : Nat) (i1 : Int32) (i2 : Int32) (i3 : Int32) (i4 : Int32) (M : mM) : ev 43 0 [some (.inr a0), some (.inl i1), some (.inl i2), some (.inl i3), some (.inl i4), none, none, none, none, none] [] M = if (a_rec M 7 [.inr a0, .inl i1] = true ∧ ([] : List mV).length ≤ 8) then (c_R (ev 79 0 [some (.inr a0), some (.inl i1)] [] M) fun u_2 M_1 => if (a_rec M_1 7 [.inr a0, .inl i2] = true ∧ ([] : List mV).length ≤ 8) then (c_R (ev 79 0 [some (.inr a0), some (.inl i2)] [] M_1) fun u_4 M_3 => if u_2 = 0 then (ev 43 16 [some (.inr a0), some (.inl i1), some (.inl i2), some (.inl i3), some (.inl i4), some (.inr u_2), some (.inr u_4), none, none, none] [] M_3) else (if u_4 = 0 then (ev 43 16 [some (.inr a0), some (.inl i1), some (.inl i2), some (.inl i3), some (.inl i4), some (.inr u_2), some (.inr u_4), none, none, none] [] M_3) else (if (a_rec M_3 0 [.inl i3, .inl i4] = true ∧ ([] : List mV).length ≤ 8) then (c_I (ev 86 0 [some (.inl i3), some (.inl i4)] [] M_3) fun v_6 M_5 => if v_6 = 0 then (ev 43 16 [some (.inr a0), some (.inl i1), some (.inl i2), some (.inl i3), some (.inl i4), some (.inr u_2), some (.inr u_4), none, none, none] [] M_5) else (if (a_rec M_5 3 [.inr u_2] = true ∧ ([] : List mV).length ≤ 8) then (c_R (ev 20 0 [some (.inr u_2)] [] M_5) fun u_8 M_7 => if u_8 = 0 then (ev 43 29 [some (.inr a0), some (.inl i1), some (.inl i2), some (.inl i3), some (.inl i4), some (.inr u_2), some (.inr u_4), some (.inr u_8), none, none] [] M_7) else (if h_k M_7 u_4 = 3 then (if (h_i M_7 u_4 2) = 1 then (if (a_rec M_7 4 [.inr u_8, .inl i3, .inl (i4 - 1)] = true ∧ ([] : List mV).length ≤ 8) then (c_R (ev 23 0 [some (.inr u_8), some (.inl i3), some (.inl (i4 - 1)), none, none] [] M_7) fun u_10 M_9 => if h_k M_9 u_10 = 2 then (if (h_i M_9 u_10 0) = (i4 - 1) then (if (a_rec M_9 2 [.inr u_10] = true ∧ ([] : List mV).length ≤ 8) then (c_I (ev 11 0 [some (.inr u_10)] [] M_9) fun v_12 M_11 => if v_12 = 0 then (ev 43 49 [some (.inr a0), some (.inl i1), some (.inl i2), some (.inl i3), some (.inl i4), some (.inr u_2), some (.inr u_4), some (.inr u_8), some (.inr u_10), none] [] M_11) else (if h_k (h_al M_11 6 3) u_10 = 2 then (if (a_rec (h_al M_11 6 3) 6 [.inr (h_n M_11 + 1), .inr u_4, .inl i4, .inl i3, .inl (h_i (h_al M_11 6 3) u_10 2)] = true ∧ ([.inr (h_n M_11 + 1)] : List mV).length ≤ 8) then (c_V (ev 27 0 [some (.inr (h_n M_11 + 1)), some (.inr u_4), some (.inl i4), some (.inl i3), some (.inl (h_i (h_al M_11 6 3) u_10 2)), none] [] (h_al M_11 6 3)) fun M_13 => if (a_rec M_13 3 [.inr u_4, .inr u_8, .inr (h_n M_11 + 1)] = true ∧ ([] : List mV).length ≤ 8) then (c_V (ev 18 0 [some (.inr u_4), some (.inr u_8), some (.inr (h_n M_11 + 1))] [] M_13) fun M_14 => if (a_rec M_14 2 [.inr u_10, .inr (h_n M_11 + 1)] = true ∧ ([] : List mV).length ≤ 8) then (c_V (ev 14 0 [some (.inr u_10), some (.inr (h_n M_11 + 1))] [] M_14) fun M_15 => if h_k M_15 u_8 = 4 then (if h_k M_15 u_8 = 4 then (if (a_rec (h_si M_15 u_8 6 ((h_i M_15 u_8 6) + 1)) 7 [.inr a0] = true ∧ ([] : List mV).length ≤ 8) then (c_I (ev 74 0 [some (.inr a0)] [] (h_si M_15 u_8 6 ((h_i M_15 u_8 6) + 1))) fun v_17 M_16 => if v_17 = 0 ∨ v_17 = 1 then some (some (.inl v_17), M_16) else none) else none) else none) else none) else none) else none) else none) else none)) else none) else (ev 43 49 [some (.inr a0), some (.inl i1), some (.inl i2), some (.inl i3), some (.inl i4), some (.inr u_2), some (.inr u_4), some (.inr u_8), some (.inr u_10), none] [] M_9)) else none) else none) else (ev 43 29 [some (.inr a0), some (.inl i1), some (.inl i2), some (.inl i3), some (.inl i4), some (.inr u_2), some (.inr u_4), some (.inr u_8), none, none] [] M_7)) else none)) else none)) else none))) else none) else none := by
  refine (ev_ns c_43 2 (ip' := 2) (ls' := [some (.inr a0), some (.inl i1), some (.inl i2), some (.inl i3), some (.inl i4), none, none, none, none, none]) (st' := [.inl i1, .inr a0]) (M' := M) rfl).trans ?_
  refine (ev_gR (a_rec M 7 [.inr a0, .inl i1] = true ∧ ([] : List mV).length ≤ 8) (as := [.inr a0, .inl i1]) (rr := []) c_43 c_79 rfl).trans (t_i (t_cR ?_) rfl)
  intro u_2 M_1
  refine (ev_ns c_43 3 (ip' := 6) (ls' := [some (.inr a0), some (.inl i1), some (.inl i2), some (.inl i3), some (.inl i4), some (.inr u_2), none, none, none, none]) (st' := [.inl i2, .inr a0]) (M' := M_1) rfl).trans ?_
  refine (ev_gR (a_rec M_1 7 [.inr a0, .inl i2] = true ∧ ([] : List mV).length ≤ 8) (as := [.inr a0, .inl i2]) (rr := []) c_43 c_79 rfl).trans (t_i (t_cR ?_) rfl)
  intro u_4 M_3
  refine (ev_ns c_43 2 (ip' := 9) (ls' := [some (.inr a0), some (.inl i1), some (.inl i2), some (.inl i3), some (.inl i4), some (.inr u_2), some (.inr u_4), none, none, none]) (st' := [.inr u_2]) (M' := M_3) rfl).trans ?_
  refine (ev_i (u_2 = 0) (i1 := 16) (l1 := [some (.inr a0), some (.inl i1), some (.inl i2), some (.inl i3), some (.inl i4), some (.inr u_2), some (.inr u_4), none, none, none]) (s1 := []) (M1 := M_3) (i2 := 10) (l2 := [some (.inr a0), some (.inl i1), some (.inl i2), some (.inl i3), some (.inl i4), some (.inr u_2), some (.inr u_4), none, none, none]) (s2 := []) (M2 := M_3) c_43 rfl).trans (t_i ?_ ?_)
  · skip
    exact rfl
  · skip
    refine (ev_ns c_43 1 (ip' := 11) (ls' := [some (.inr a0), some (.inl i1), some (.inl i2), some (.inl i3), some (.inl i4), some (.inr u_2), some (.inr u_4), none, none, none]) (st' := [.inr u_4]) (M' := M_3) rfl).trans ?_
    refine (ev_i (u_4 = 0) (i1 := 16) (l1 := [some (.inr a0), some (.inl i1), some (.inl i2), some (.inl i3), some (.inl i4), some (.inr u_2), some (.inr u_4), none, none, none]) (s1 := []) (M1 := M_3) (i2 := 12) (l2 := [some (.inr a0), some (.inl i1), some (.inl i2), some (.inl i3), some (.inl i4), some (.inr u_2), some (.inr u_4), none, none, none]) (s2 := []) (M2 := M_3) c_43 rfl).trans (t_i ?_ ?_)
    · skip
      exact rfl
    · skip
      refine (ev_ns c_43 2 (ip' := 14) (ls' := [some (.inr a0), some (.inl i1), some (.inl i2), some (.inl i3), some (.inl i4), some (.inr u_2), some (.inr u_4), none, none, none]) (st' := [.inl i4, .inl i3]) (M' := M_3) rfl).trans ?_
      refine (ev_gI (a_rec M_3 0 [.inl i3, .inl i4] = true ∧ ([] : List mV).length ≤ 8) (as := [.inl i3, .inl i4]) (rr := []) c_43 c_86 rfl).trans (t_i (t_cI ?_) rfl)
      intro v_6 M_5
      refine (ev_i (v_6 = 0) (i1 := 16) (l1 := [some (.inr a0), some (.inl i1), some (.inl i2), some (.inl i3), some (.inl i4), some (.inr u_2), some (.inr u_4), none, none, none]) (s1 := []) (M1 := M_5) (i2 := 20) (l2 := [some (.inr a0), some (.inl i1), some (.inl i2), some (.inl i3), some (.inl i4), some (.inr u_2), some (.inr u_4), none, none, none]) (s2 := []) (M2 := M_5) c_43 rfl).trans (t_i ?_ ?_)
      · skip
        exact rfl
      · skip
        refine (ev_ns c_43 1 (ip' := 21) (ls' := [some (.inr a0), some (.inl i1), some (.inl i2), some (.inl i3), some (.inl i4), some (.inr u_2), some (.inr u_4), none, none, none]) (st' := [.inr u_2]) (M' := M_5) rfl).trans ?_
        refine (ev_gR (a_rec M_5 3 [.inr u_2] = true ∧ ([] : List mV).length ≤ 8) (as := [.inr u_2]) (rr := []) c_43 c_20 rfl).trans (t_i (t_cR ?_) rfl)
        intro u_8 M_7
        refine (ev_ns c_43 2 (ip' := 24) (ls' := [some (.inr a0), some (.inl i1), some (.inl i2), some (.inl i3), some (.inl i4), some (.inr u_2), some (.inr u_4), some (.inr u_8), none, none]) (st' := [.inr u_8]) (M' := M_7) rfl).trans ?_
        refine (ev_i (u_8 = 0) (i1 := 29) (l1 := [some (.inr a0), some (.inl i1), some (.inl i2), some (.inl i3), some (.inl i4), some (.inr u_2), some (.inr u_4), some (.inr u_8), none, none]) (s1 := []) (M1 := M_7) (i2 := 25) (l2 := [some (.inr a0), some (.inl i1), some (.inl i2), some (.inl i3), some (.inl i4), some (.inr u_2), some (.inr u_4), some (.inr u_8), none, none]) (s2 := []) (M2 := M_7) c_43 rfl).trans (t_i ?_ ?_)
        · skip
          exact rfl
        · skip
          refine (ev_ns c_43 1 (ip' := 26) (ls' := [some (.inr a0), some (.inl i1), some (.inl i2), some (.inl i3), some (.inl i4), some (.inr u_2), some (.inr u_4), some (.inr u_8), none, none]) (st' := [.inr u_4]) (M' := M_7) rfl).trans ?_
          refine (ev_g (h_k M_7 u_4 = 3) (ip' := 27) (ls' := [some (.inr a0), some (.inl i1), some (.inl i2), some (.inl i3), some (.inl i4), some (.inr u_2), some (.inr u_4), some (.inr u_8), none, none]) (st' := [.inl (h_i M_7 u_4 2)]) (M' := M_7) c_43 rfl).trans (t_i ?_ rfl)
          refine (ev_ns c_43 1 (ip' := 28) (ls' := [some (.inr a0), some (.inl i1), some (.inl i2), some (.inl i3), some (.inl i4), some (.inr u_2), some (.inr u_4), some (.inr u_8), none, none]) (st' := [.inl 1, .inl (h_i M_7 u_4 2)]) (M' := M_7) rfl).trans ?_
          refine (ev_i ((h_i M_7 u_4 2) = 1) (i1 := 33) (l1 := [some (.inr a0), some (.inl i1), some (.inl i2), some (.inl i3), some (.inl i4), some (.inr u_2), some (.inr u_4), some (.inr u_8), none, none]) (s1 := []) (M1 := M_7) (i2 := 29) (l2 := [some (.inr a0), some (.inl i1), some (.inl i2), some (.inl i3), some (.inl i4), some (.inr u_2), some (.inr u_4), some (.inr u_8), none, none]) (s2 := []) (M2 := M_7) c_43 rfl).trans (t_i ?_ ?_)
          · skip
            refine (ev_ns c_43 5 (ip' := 38) (ls' := [some (.inr a0), some (.inl i1), some (.inl i2), some (.inl i3), some (.inl i4), some (.inr u_2), some (.inr u_4), some (.inr u_8), none, none]) (st' := [.inl (i4 - 1), .inl i3, .inr u_8]) (M' := M_7) rfl).trans ?_
            refine (ev_gR (a_rec M_7 4 [.inr u_8, .inl i3, .inl (i4 - 1)] = true ∧ ([] : List mV).length ≤ 8) (as := [.inr u_8, .inl i3, .inl (i4 - 1)]) (rr := []) c_43 c_23 rfl).trans (t_i (t_cR ?_) rfl)
            intro u_10 M_9
            refine (ev_ns c_43 2 (ip' := 41) (ls' := [some (.inr a0), some (.inl i1), some (.inl i2), some (.inl i3), some (.inl i4), some (.inr u_2), some (.inr u_4), some (.inr u_8), some (.inr u_10), none]) (st' := [.inr u_10]) (M' := M_9) rfl).trans ?_
            refine (ev_g (h_k M_9 u_10 = 2) (ip' := 42) (ls' := [some (.inr a0), some (.inl i1), some (.inl i2), some (.inl i3), some (.inl i4), some (.inr u_2), some (.inr u_4), some (.inr u_8), some (.inr u_10), none]) (st' := [.inl (h_i M_9 u_10 0)]) (M' := M_9) c_43 rfl).trans (t_i ?_ rfl)
            refine (ev_ns c_43 3 (ip' := 45) (ls' := [some (.inr a0), some (.inl i1), some (.inl i2), some (.inl i3), some (.inl i4), some (.inr u_2), some (.inr u_4), some (.inr u_8), some (.inr u_10), none]) (st' := [.inl (i4 - 1), .inl (h_i M_9 u_10 0)]) (M' := M_9) rfl).trans ?_
            refine (ev_i ((h_i M_9 u_10 0) = (i4 - 1)) (i1 := 46) (l1 := [some (.inr a0), some (.inl i1), some (.inl i2), some (.inl i3), some (.inl i4), some (.inr u_2), some (.inr u_4), some (.inr u_8), some (.inr u_10), none]) (s1 := []) (M1 := M_9) (i2 := 49) (l2 := [some (.inr a0), some (.inl i1), some (.inl i2), some (.inl i3), some (.inl i4), some (.inr u_2), some (.inr u_4), some (.inr u_8), some (.inr u_10), none]) (s2 := []) (M2 := M_9) c_43 rfl).trans (t_i ?_ ?_)
            · skip
              refine (ev_ns c_43 1 (ip' := 47) (ls' := [some (.inr a0), some (.inl i1), some (.inl i2), some (.inl i3), some (.inl i4), some (.inr u_2), some (.inr u_4), some (.inr u_8), some (.inr u_10), none]) (st' := [.inr u_10]) (M' := M_9) rfl).trans ?_
              refine (ev_gI (a_rec M_9 2 [.inr u_10] = true ∧ ([] : List mV).length ≤ 8) (as := [.inr u_10]) (rr := []) c_43 c_11 rfl).trans (t_i (t_cI ?_) rfl)
              intro v_12 M_11
              refine (ev_i (v_12 = 0) (i1 := 49) (l1 := [some (.inr a0), some (.inl i1), some (.inl i2), some (.inl i3), some (.inl i4), some (.inr u_2), some (.inr u_4), some (.inr u_8), some (.inr u_10), none]) (s1 := []) (M1 := M_11) (i2 := 53) (l2 := [some (.inr a0), some (.inl i1), some (.inl i2), some (.inl i3), some (.inl i4), some (.inr u_2), some (.inr u_4), some (.inr u_8), some (.inr u_10), none]) (s2 := []) (M2 := M_11) c_43 rfl).trans (t_i ?_ ?_)
              · skip
                exact rfl
              · skip
                refine (ev_ns c_43 6 (ip' := 59) (ls' := [some (.inr a0), some (.inl i1), some (.inl i2), some (.inl i3), some (.inl i4), some (.inr u_2), some (.inr u_4), some (.inr u_8), some (.inr u_10), none]) (st' := [.inr u_10, .inl i3, .inl i4, .inr u_4, .inr (h_n M_11 + 1), .inr (h_n M_11 + 1)]) (M' := h_al M_11 6 3) rfl).trans ?_
                refine (ev_g (h_k (h_al M_11 6 3) u_10 = 2) (ip' := 60) (ls' := [some (.inr a0), some (.inl i1), some (.inl i2), some (.inl i3), some (.inl i4), some (.inr u_2), some (.inr u_4), some (.inr u_8), some (.inr u_10), none]) (st' := [.inl (h_i (h_al M_11 6 3) u_10 2), .inl i3, .inl i4, .inr u_4, .inr (h_n M_11 + 1), .inr (h_n M_11 + 1)]) (M' := h_al M_11 6 3) c_43 rfl).trans (t_i ?_ rfl)
                refine (ev_gV (a_rec (h_al M_11 6 3) 6 [.inr (h_n M_11 + 1), .inr u_4, .inl i4, .inl i3, .inl (h_i (h_al M_11 6 3) u_10 2)] = true ∧ ([.inr (h_n M_11 + 1)] : List mV).length ≤ 8) (as := [.inr (h_n M_11 + 1), .inr u_4, .inl i4, .inl i3, .inl (h_i (h_al M_11 6 3) u_10 2)]) (rr := [.inr (h_n M_11 + 1)]) c_43 c_27 rfl).trans (t_i (t_cV ?_) rfl)
                intro M_13
                refine (ev_ns c_43 4 (ip' := 65) (ls' := [some (.inr a0), some (.inl i1), some (.inl i2), some (.inl i3), some (.inl i4), some (.inr u_2), some (.inr u_4), some (.inr u_8), some (.inr u_10), some (.inr (h_n M_11 + 1))]) (st' := [.inr (h_n M_11 + 1), .inr u_8, .inr u_4]) (M' := M_13) rfl).trans ?_
                refine (ev_gV (a_rec M_13 3 [.inr u_4, .inr u_8, .inr (h_n M_11 + 1)] = true ∧ ([] : List mV).length ≤ 8) (as := [.inr u_4, .inr u_8, .inr (h_n M_11 + 1)]) (rr := []) c_43 c_18 rfl).trans (t_i (t_cV ?_) rfl)
                intro M_14
                refine (ev_ns c_43 2 (ip' := 68) (ls' := [some (.inr a0), some (.inl i1), some (.inl i2), some (.inl i3), some (.inl i4), some (.inr u_2), some (.inr u_4), some (.inr u_8), some (.inr u_10), some (.inr (h_n M_11 + 1))]) (st' := [.inr (h_n M_11 + 1), .inr u_10]) (M' := M_14) rfl).trans ?_
                refine (ev_gV (a_rec M_14 2 [.inr u_10, .inr (h_n M_11 + 1)] = true ∧ ([] : List mV).length ≤ 8) (as := [.inr u_10, .inr (h_n M_11 + 1)]) (rr := []) c_43 c_14 rfl).trans (t_i (t_cV ?_) rfl)
                intro M_15
                refine (ev_ns c_43 2 (ip' := 71) (ls' := [some (.inr a0), some (.inl i1), some (.inl i2), some (.inl i3), some (.inl i4), some (.inr u_2), some (.inr u_4), some (.inr u_8), some (.inr u_10), some (.inr (h_n M_11 + 1))]) (st' := [.inr u_8, .inr u_8]) (M' := M_15) rfl).trans ?_
                refine (ev_g (h_k M_15 u_8 = 4) (ip' := 72) (ls' := [some (.inr a0), some (.inl i1), some (.inl i2), some (.inl i3), some (.inl i4), some (.inr u_2), some (.inr u_4), some (.inr u_8), some (.inr u_10), some (.inr (h_n M_11 + 1))]) (st' := [.inl (h_i M_15 u_8 6), .inr u_8]) (M' := M_15) c_43 rfl).trans (t_i ?_ rfl)
                refine (ev_ns c_43 2 (ip' := 74) (ls' := [some (.inr a0), some (.inl i1), some (.inl i2), some (.inl i3), some (.inl i4), some (.inr u_2), some (.inr u_4), some (.inr u_8), some (.inr u_10), some (.inr (h_n M_11 + 1))]) (st' := [.inl ((h_i M_15 u_8 6) + 1), .inr u_8]) (M' := M_15) rfl).trans ?_
                refine (ev_g (h_k M_15 u_8 = 4) (ip' := 75) (ls' := [some (.inr a0), some (.inl i1), some (.inl i2), some (.inl i3), some (.inl i4), some (.inr u_2), some (.inr u_4), some (.inr u_8), some (.inr u_10), some (.inr (h_n M_11 + 1))]) (st' := []) (M' := h_si M_15 u_8 6 ((h_i M_15 u_8 6) + 1)) c_43 rfl).trans (t_i ?_ rfl)
                refine (ev_ns c_43 1 (ip' := 76) (ls' := [some (.inr a0), some (.inl i1), some (.inl i2), some (.inl i3), some (.inl i4), some (.inr u_2), some (.inr u_4), some (.inr u_8), some (.inr u_10), some (.inr (h_n M_11 + 1))]) (st' := [.inr a0]) (M' := h_si M_15 u_8 6 ((h_i M_15 u_8 6) + 1)) rfl).trans ?_
                refine (ev_gI (a_rec (h_si M_15 u_8 6 ((h_i M_15 u_8 6) + 1)) 7 [.inr a0] = true ∧ ([] : List mV).length ≤ 8) (as := [.inr a0]) (rr := []) c_43 c_74 rfl).trans (t_i (t_cI ?_) rfl)
                intro v_17 M_16
                exact ev_gd (v_17 = 0 ∨ v_17 = 1) c_43 rfl
            · skip
              exact rfl
          · skip
            exact rfl
set_option maxRecDepth 20000 in
theorem e_43_16 (a0 : Nat) (i1 : Int32) (i2 : Int32) (i3 : Int32) (i4 : Int32) (a5 : Nat) (a6 : Nat) (M : mM) : ev 43 16 [some (.inr a0), some (.inl i1), some (.inl i2), some (.inl i3), some (.inl i4), some (.inr a5), some (.inr a6), none, none, none] [] M = if (a_rec M 7 [.inr a0, .inl 1] = true ∧ ([] : List mV).length ≤ 8) then (c_I (ev 76 0 [some (.inr a0), some (.inl 1)] [] M) fun v_2 M_1 => if v_2 = 0 ∨ v_2 = 1 then some (some (.inl v_2), M_1) else none) else none := by
  refine (ev_ns c_43 2 (ip' := 18) (ls' := [some (.inr a0), some (.inl i1), some (.inl i2), some (.inl i3), some (.inl i4), some (.inr a5), some (.inr a6), none, none, none]) (st' := [.inl 1, .inr a0]) (M' := M) rfl).trans ?_
  refine (ev_gI (a_rec M 7 [.inr a0, .inl 1] = true ∧ ([] : List mV).length ≤ 8) (as := [.inr a0, .inl 1]) (rr := []) c_43 c_76 rfl).trans (t_i (t_cI ?_) rfl)
  intro v_2 M_1
  exact ev_gd (v_2 = 0 ∨ v_2 = 1) c_43 rfl
set_option maxRecDepth 20000 in
theorem e_43_29 (a0 : Nat) (i1 : Int32) (i2 : Int32) (i3 : Int32) (i4 : Int32) (a5 : Nat) (a6 : Nat) (a7 : Nat) (M : mM) : ev 43 29 [some (.inr a0), some (.inl i1), some (.inl i2), some (.inl i3), some (.inl i4), some (.inr a5), some (.inr a6), some (.inr a7), none, none] [] M = if (a_rec M 7 [.inr a0, .inl 2] = true ∧ ([] : List mV).length ≤ 8) then (c_I (ev 76 0 [some (.inr a0), some (.inl 2)] [] M) fun v_2 M_1 => if v_2 = 0 ∨ v_2 = 1 then some (some (.inl v_2), M_1) else none) else none := by
  refine (ev_ns c_43 2 (ip' := 31) (ls' := [some (.inr a0), some (.inl i1), some (.inl i2), some (.inl i3), some (.inl i4), some (.inr a5), some (.inr a6), some (.inr a7), none, none]) (st' := [.inl 2, .inr a0]) (M' := M) rfl).trans ?_
  refine (ev_gI (a_rec M 7 [.inr a0, .inl 2] = true ∧ ([] : List mV).length ≤ 8) (as := [.inr a0, .inl 2]) (rr := []) c_43 c_76 rfl).trans (t_i (t_cI ?_) rfl)
  intro v_2 M_1
  exact ev_gd (v_2 = 0 ∨ v_2 = 1) c_43 rfl
set_option maxRecDepth 20000 in
theorem e_43_49 (a0 : Nat) (i1 : Int32) (i2 : Int32) (i3 : Int32) (i4 : Int32) (a5 : Nat) (a6 : Nat) (a7 : Nat) (a8 : Nat) (M : mM) : ev 43 49 [some (.inr a0), some (.inl i1), some (.inl i2), some (.inl i3), some (.inl i4), some (.inr a5), some (.inr a6), some (.inr a7), some (.inr a8), none] [] M = if (a_rec M 7 [.inr a0, .inl 5] = true ∧ ([] : List mV).length ≤ 8) then (c_I (ev 76 0 [some (.inr a0), some (.inl 5)] [] M) fun v_2 M_1 => if v_2 = 0 ∨ v_2 = 1 then some (some (.inl v_2), M_1) else none) else none := by
  refine (ev_ns c_43 2 (ip' := 51) (ls' := [some (.inr a0), some (.inl i1), some (.inl i2), some (.inl i3), some (.inl i4), some (.inr a5), some (.inr a6), some (.inr a7), some (.inr a8), none]) (st' := [.inl 5, .inr a0]) (M' := M) rfl).trans ?_
  refine (ev_gI (a_rec M 7 [.inr a0, .inl 5] = true ∧ ([] : List mV).length ≤ 8) (as := [.inr a0, .inl 5]) (rr := []) c_43 c_76 rfl).trans (t_i (t_cI ?_) rfl)
  intro v_2 M_1
  exact ev_gd (v_2 = 0 ∨ v_2 = 1) c_43 rfl
/- 44: GranuleHall.untable(III)Z -/
set_option maxRecDepth 20000 in
theorem e_44_0 (a0 : Nat) (i1 : Int32) (i2 : Int32) (i3 : Int32) (M : mM) : ev 44 0 [some (.inr a0), some (.inl i1), some (.inl i2), some (.inl i3)] [] M = if (a_rec M 7 [.inr a0, .inl i1, .inl i2, .inl i3, .inl 0] = true ∧ ([] : List mV).length ≤ 8) then (c_I (ev 91 0 [some (.inr a0), some (.inl i1), some (.inl i2), some (.inl i3), some (.inl 0), none, none, none, none, none] [] M) fun v_2 M_1 => if v_2 = 0 ∨ v_2 = 1 then some (some (.inl v_2), M_1) else none) else none := by
  refine (ev_ns c_44 5 (ip' := 5) (ls' := [some (.inr a0), some (.inl i1), some (.inl i2), some (.inl i3)]) (st' := [.inl 0, .inl i3, .inl i2, .inl i1, .inr a0]) (M' := M) rfl).trans ?_
  refine (ev_gI (a_rec M 7 [.inr a0, .inl i1, .inl i2, .inl i3, .inl 0] = true ∧ ([] : List mV).length ≤ 8) (as := [.inr a0, .inl i1, .inl i2, .inl i3, .inl 0]) (rr := []) c_44 c_91 rfl).trans (t_i (t_cI ?_) rfl)
  intro v_2 M_1
  exact ev_gd (v_2 = 0 ∨ v_2 = 1) c_44 rfl
/- 45: GranuleHall.fold(III)Z -/
set_option maxRecDepth 20000 in
theorem e_45_0 (a0 : Nat) (i1 : Int32) (i2 : Int32) (i3 : Int32) (M : mM) : ev 45 0 [some (.inr a0), some (.inl i1), some (.inl i2), some (.inl i3)] [] M = if (a_rec M 7 [.inr a0, .inl i1, .inl i2, .inl i3, .inl 1] = true ∧ ([] : List mV).length ≤ 8) then (c_I (ev 91 0 [some (.inr a0), some (.inl i1), some (.inl i2), some (.inl i3), some (.inl 1), none, none, none, none, none] [] M) fun v_2 M_1 => if v_2 = 0 ∨ v_2 = 1 then some (some (.inl v_2), M_1) else none) else none := by
  refine (ev_ns c_45 5 (ip' := 5) (ls' := [some (.inr a0), some (.inl i1), some (.inl i2), some (.inl i3)]) (st' := [.inl 1, .inl i3, .inl i2, .inl i1, .inr a0]) (M' := M) rfl).trans ?_
  refine (ev_gI (a_rec M 7 [.inr a0, .inl i1, .inl i2, .inl i3, .inl 1] = true ∧ ([] : List mV).length ≤ 8) (as := [.inr a0, .inl i1, .inl i2, .inl i3, .inl 1]) (rr := []) c_45 c_91 rfl).trans (t_i (t_cI ?_) rfl)
  intro v_2 M_1
  exact ev_gd (v_2 = 0 ∨ v_2 = 1) c_45 rfl
/- 46: GranuleHall.ripas(II)I -/
set_option maxRecDepth 20000 in
theorem e_46_0 (a0 : Nat) (i1 : Int32) (i2 : Int32) (M : mM) : ev 46 0 [some (.inr a0), some (.inl i1), some (.inl i2), none, none, none, none] [] M = if (a_rec M 7 [.inr a0, .inl i1] = true ∧ ([] : List mV).length ≤ 8) then (c_R (ev 79 0 [some (.inr a0), some (.inl i1)] [] M) fun u_2 M_1 => if u_2 = 0 then (ev 46 9 [some (.inr a0), some (.inl i1), some (.inl i2), some (.inr u_2), none, none, none] [] M_1) else (if (a_rec M_1 0 [.inl i2] = true ∧ ([] : List mV).length ≤ 8) then (c_I (ev 84 0 [some (.inl i2)] [] M_1) fun v_4 M_3 => if v_4 = 0 then (ev 46 9 [some (.inr a0), some (.inl i1), some (.inl i2), some (.inr u_2), none, none, none] [] M_3) else (if (a_rec M_3 3 [.inr u_2] = true ∧ ([] : List mV).length ≤ 8) then (c_R (ev 20 0 [some (.inr u_2)] [] M_3) fun u_6 M_5 => if u_6 = 0 then (if (a_rec M_5 7 [.inr a0, .inl 2] = true ∧ ([] : List mV).length ≤ 8) then (c_I (ev 75 0 [some (.inr a0), some (.inl 2)] [] M_5) fun v_8 M_7 => some (some (.inl v_8), M_7)) else none) else (if h_k M_5 u_6 = 4 then (if (h_i M_5 u_6 3) = 0 then (if (a_rec M_5 4 [.inr u_6, .inl i2] = true ∧ ([] : List mV).length ≤ 8) then (c_R (ev 24 0 [some (.inr u_6), some (.inl i2)] [] M_5) fun u_10 M_9 => if (a_rec M_9 2 [.inr u_10] = true ∧ ([] : List mV).length ≤ 8) then (c_I (ev 11 0 [some (.inr u_10)] [] M_9) fun v_12 M_11 => if v_12 = 0 then (if (a_rec M_11 7 [.inr a0, .inl 5] = true ∧ ([] : List mV).length ≤ 8) then (c_I (ev 75 0 [some (.inr a0), some (.inl 5)] [] M_11) fun v_14 M_13 => some (some (.inl v_14), M_13)) else none) else (if h_k M_11 u_10 = 2 then (if h_k (h_si M_11 u_10 2 1) u_10 = 2 then (if (a_rec (h_si M_11 u_10 2 1) 0 [.inl (h_i (h_si M_11 u_10 2 1) u_10 0)] = true ∧ ([] : List mV).length ≤ 8) then (c_I (ev 88 0 [some (.inl (h_i (h_si M_11 u_10 2 1) u_10 0))] [] (h_si M_11 u_10 2 1)) fun v_16 M_15 => if h_k M_15 a0 = 7 then (if (a_rec M_15 4 [.inr u_6] = true ∧ ([.inr (h_r M_15 a0 1)] : List mV).length ≤ 8) then (c_R (ev 22 0 [some (.inr u_6)] [] M_15) fun u_18 M_17 => if (a_rec M_17 1 [.inr (h_r M_15 a0 1), .inr u_18] = true ∧ ([] : List mV).length ≤ 8) then (c_V (ev 2 0 [some (.inr (h_r M_15 a0 1)), some (.inr u_18)] [] M_17) fun M_19 => if h_k M_19 a0 = 7 then (if (a_rec M_19 1 [.inr (h_r M_19 a0 1), .inl 3] = true ∧ ([] : List mV).length ≤ 8) then (c_V (ev 3 0 [some (.inr (h_r M_19 a0 1)), some (.inl 3)] [] M_19) fun M_20 => if h_k M_20 a0 = 7 then (if h_k M_20 u_10 = 2 then (if (a_rec M_20 1 [.inr (h_r M_20 a0 1), .inl (h_i M_20 u_10 1)] = true ∧ ([] : List mV).length ≤ 8) then (c_V (ev 3 0 [some (.inr (h_r M_20 a0 1)), some (.inl (h_i M_20 u_10 1))] [] M_20) fun M_21 => if h_k M_21 a0 = 7 then (if (a_rec M_21 1 [.inr (h_r M_21 a0 1), .inl v_16] = true ∧ ([] : List mV).length ≤ 8) then (c_V (ev 3 0 [some (.inr (h_r M_21 a0 1)), some (.inl v_16)] [] M_21) fun M_22 => if h_k M_22 a0 = 7 then (if (a_rec M_22 4 [.inr u_6] = true ∧ ([.inr (h_r M_22 a0 1)] : List mV).length ≤ 8) then (c_R (ev 22 0 [some (.inr u_6)] [] M_22) fun u_24 M_23 => if (a_rec M_23 1 [.inr (h_r M_22 a0 1), .inr u_24, .inl 0, .inl 8] = true ∧ ([] : List mV).length ≤ 8) then (c_V (ev 5 0 [some (.inr (h_r M_22 a0 1)), some (.inr u_24), some (.inl 0), some (.inl 8), none, none, none] [] M_23) fun M_25 => if (a_rec M_25 7 [.inr a0, .inl v_16] = true ∧ ([] : List mV).length ≤ 8) then (c_I (ev 73 0 [some (.inr a0), some (.inl v_16)] [] M_25) fun v_27 M_26 => some (some (.inl v_27), M_26)) else none) else none) else none) else none) else none) else none) else none) else none) else none) else none) else none) else none) else none) else none) else none) else none) else none)) else none) else none) else (if (a_rec M_5 7 [.inr a0, .inl 3] = true ∧ ([] : List mV).length ≤ 8) then (c_I (ev 75 0 [some (.inr a0), some (.inl 3)] [] M_5) fun v_29 M_28 => some (some (.inl v_29), M_28)) else none)) else none)) else none)) else none)) else none := by
  refine (ev_ns c_46 2 (ip' := 2) (ls' := [some (.inr a0), some (.inl i1), some (.inl i2), none, none, none, none]) (st' := [.inl i1, .inr a0]) (M' := M) rfl).trans ?_
  refine (ev_gR (a_rec M 7 [.inr a0, .inl i1] = true ∧ ([] : List mV).length ≤ 8) (as := [.inr a0, .inl i1]) (rr := []) c_46 c_79 rfl).trans (t_i (t_cR ?_) rfl)
  intro u_2 M_1
  refine (ev_ns c_46 2 (ip' := 5) (ls' := [some (.inr a0), some (.inl i1), some (.inl i2), some (.inr u_2), none, none, none]) (st' := [.inr u_2]) (M' := M_1) rfl).trans ?_
  refine (ev_i (u_2 = 0) (i1 := 9) (l1 := [some (.inr a0), some (.inl i1), some (.inl i2), some (.inr u_2), none, none, none]) (s1 := []) (M1 := M_1) (i2 := 6) (l2 := [some (.inr a0), some (.inl i1), some (.inl i2), some (.inr u_2), none, none, none]) (s2 := []) (M2 := M_1) c_46 rfl).trans (t_i ?_ ?_)
  · skip
    exact rfl
  · skip
    refine (ev_ns c_46 1 (ip' := 7) (ls' := [some (.inr a0), some (.inl i1), some (.inl i2), some (.inr u_2), none, none, none]) (st' := [.inl i2]) (M' := M_1) rfl).trans ?_
    refine (ev_gI (a_rec M_1 0 [.inl i2] = true ∧ ([] : List mV).length ≤ 8) (as := [.inl i2]) (rr := []) c_46 c_84 rfl).trans (t_i (t_cI ?_) rfl)
    intro v_4 M_3
    refine (ev_i (v_4 = 0) (i1 := 9) (l1 := [some (.inr a0), some (.inl i1), some (.inl i2), some (.inr u_2), none, none, none]) (s1 := []) (M1 := M_3) (i2 := 13) (l2 := [some (.inr a0), some (.inl i1), some (.inl i2), some (.inr u_2), none, none, none]) (s2 := []) (M2 := M_3) c_46 rfl).trans (t_i ?_ ?_)
    · skip
      exact rfl
    · skip
      refine (ev_ns c_46 1 (ip' := 14) (ls' := [some (.inr a0), some (.inl i1), some (.inl i2), some (.inr u_2), none, none, none]) (st' := [.inr u_2]) (M' := M_3) rfl).trans ?_
      refine (ev_gR (a_rec M_3 3 [.inr u_2] = true ∧ ([] : List mV).length ≤ 8) (as := [.inr u_2]) (rr := []) c_46 c_20 rfl).trans (t_i (t_cR ?_) rfl)
      intro u_6 M_5
      refine (ev_ns c_46 2 (ip' := 17) (ls' := [some (.inr a0), some (.inl i1), some (.inl i2), some (.inr u_2), some (.inr u_6), none, none]) (st' := [.inr u_6]) (M' := M_5) rfl).trans ?_
      refine (ev_i (u_6 = 0) (i1 := 18) (l1 := [some (.inr a0), some (.inl i1), some (.inl i2), some (.inr u_2), some (.inr u_6), none, none]) (s1 := []) (M1 := M_5) (i2 := 22) (l2 := [some (.inr a0), some (.inl i1), some (.inl i2), some (.inr u_2), some (.inr u_6), none, none]) (s2 := []) (M2 := M_5) c_46 rfl).trans (t_i ?_ ?_)
      · skip
        refine (ev_ns c_46 2 (ip' := 20) (ls' := [some (.inr a0), some (.inl i1), some (.inl i2), some (.inr u_2), some (.inr u_6), none, none]) (st' := [.inl 2, .inr a0]) (M' := M_5) rfl).trans ?_
        refine (ev_gI (a_rec M_5 7 [.inr a0, .inl 2] = true ∧ ([] : List mV).length ≤ 8) (as := [.inr a0, .inl 2]) (rr := []) c_46 c_75 rfl).trans (t_i (t_cI ?_) rfl)
        intro v_8 M_7
        exact ev_d c_46 rfl
      · skip
        refine (ev_ns c_46 1 (ip' := 23) (ls' := [some (.inr a0), some (.inl i1), some (.inl i2), some (.inr u_2), some (.inr u_6), none, none]) (st' := [.inr u_6]) (M' := M_5) rfl).trans ?_
        refine (ev_g (h_k M_5 u_6 = 4) (ip' := 24) (ls' := [some (.inr a0), some (.inl i1), some (.inl i2), some (.inr u_2), some (.inr u_6), none, none]) (st' := [.inl (h_i M_5 u_6 3)]) (M' := M_5) c_46 rfl).trans (t_i ?_ rfl)
        refine (ev_i ((h_i M_5 u_6 3) = 0) (i1 := 29) (l1 := [some (.inr a0), some (.inl i1), some (.inl i2), some (.inr u_2), some (.inr u_6), none, none]) (s1 := []) (M1 := M_5) (i2 := 25) (l2 := [some (.inr a0), some (.inl i1), some (.inl i2), some (.inr u_2), some (.inr u_6), none, none]) (s2 := []) (M2 := M_5) c_46 rfl).trans (t_i ?_ ?_)
        · skip
          refine (ev_ns c_46 2 (ip' := 31) (ls' := [some (.inr a0), some (.inl i1), some (.inl i2), some (.inr u_2), some (.inr u_6), none, none]) (st' := [.inl i2, .inr u_6]) (M' := M_5) rfl).trans ?_
          refine (ev_gR (a_rec M_5 4 [.inr u_6, .inl i2] = true ∧ ([] : List mV).length ≤ 8) (as := [.inr u_6, .inl i2]) (rr := []) c_46 c_24 rfl).trans (t_i (t_cR ?_) rfl)
          intro u_10 M_9
          refine (ev_ns c_46 2 (ip' := 34) (ls' := [some (.inr a0), some (.inl i1), some (.inl i2), some (.inr u_2), some (.inr u_6), some (.inr u_10), none]) (st' := [.inr u_10]) (M' := M_9) rfl).trans ?_
          refine (ev_gI (a_rec M_9 2 [.inr u_10] = true ∧ ([] : List mV).length ≤ 8) (as := [.inr u_10]) (rr := []) c_46 c_11 rfl).trans (t_i (t_cI ?_) rfl)
          intro v_12 M_11
          refine (ev_i (v_12 = 0) (i1 := 36) (l1 := [some (.inr a0), some (.inl i1), some (.inl i2), some (.inr u_2), some (.inr u_6), some (.inr u_10), none]) (s1 := []) (M1 := M_11) (i2 := 40) (l2 := [some (.inr a0), some (.inl i1), some (.inl i2), some (.inr u_2), some (.inr u_6), some (.inr u_10), none]) (s2 := []) (M2 := M_11) c_46 rfl).trans (t_i ?_ ?_)
          · skip
            refine (ev_ns c_46 2 (ip' := 38) (ls' := [some (.inr a0), some (.inl i1), some (.inl i2), some (.inr u_2), some (.inr u_6), some (.inr u_10), none]) (st' := [.inl 5, .inr a0]) (M' := M_11) rfl).trans ?_
            refine (ev_gI (a_rec M_11 7 [.inr a0, .inl 5] = true ∧ ([] : List mV).length ≤ 8) (as := [.inr a0, .inl 5]) (rr := []) c_46 c_75 rfl).trans (t_i (t_cI ?_) rfl)
            intro v_14 M_13
            exact ev_d c_46 rfl
          · skip
            refine (ev_ns c_46 2 (ip' := 42) (ls' := [some (.inr a0), some (.inl i1), some (.inl i2), some (.inr u_2), some (.inr u_6), some (.inr u_10), none]) (st' := [.inl 1, .inr u_10]) (M' := M_11) rfl).trans ?_
            refine (ev_g (h_k M_11 u_10 = 2) (ip' := 43) (ls' := [some (.inr a0), some (.inl i1), some (.inl i2), some (.inr u_2), some (.inr u_6), some (.inr u_10), none]) (st' := []) (M' := h_si M_11 u_10 2 1) c_46 rfl).trans (t_i ?_ rfl)
            refine (ev_ns c_46 1 (ip' := 44) (ls' := [some (.inr a0), some (.inl i1), some (.inl i2), some (.inr u_2), some (.inr u_6), some (.inr u_10), none]) (st' := [.inr u_10]) (M' := h_si M_11 u_10 2 1) rfl).trans ?_
            refine (ev_g (h_k (h_si M_11 u_10 2 1) u_10 = 2) (ip' := 45) (ls' := [some (.inr a0), some (.inl i1), some (.inl i2), some (.inr u_2), some (.inr u_6), some (.inr u_10), none]) (st' := [.inl (h_i (h_si M_11 u_10 2 1) u_10 0)]) (M' := h_si M_11 u_10 2 1) c_46 rfl).trans (t_i ?_ rfl)
            refine (ev_gI (a_rec (h_si M_11 u_10 2 1) 0 [.inl (h_i (h_si M_11 u_10 2 1) u_10 0)] = true ∧ ([] : List mV).length ≤ 8) (as := [.inl (h_i (h_si M_11 u_10 2 1) u_10 0)]) (rr := []) c_46 c_88 rfl).trans (t_i (t_cI ?_) rfl)
            intro v_16 M_15
            refine (ev_ns c_46 2 (ip' := 48) (ls' := [some (.inr a0), some (.inl i1), some (.inl i2), some (.inr u_2), some (.inr u_6), some (.inr u_10), some (.inl v_16)]) (st' := [.inr a0]) (M' := M_15) rfl).trans ?_
            refine (ev_g (h_k M_15 a0 = 7) (ip' := 49) (ls' := [some (.inr a0), some (.inl i1), some (.inl i2), some (.inr u_2), some (.inr u_6), some (.inr u_10), some (.inl v_16)]) (st' := [.inr (h_r M_15 a0 1)]) (M' := M_15) c_46 rfl).trans (t_i ?_ rfl)
            refine (ev_ns c_46 1 (ip' := 50) (ls' := [some (.inr a0), some (.inl i1), some (.inl i2), some (.inr u_2), some (.inr u_6), some (.inr u_10), some (.inl v_16)]) (st' := [.inr u_6, .inr (h_r M_15 a0 1)]) (M' := M_15) rfl).trans ?_
            refine (ev_gR (a_rec M_15 4 [.inr u_6] = true ∧ ([.inr (h_r M_15 a0 1)] : List mV).length ≤ 8) (as := [.inr u_6]) (rr := [.inr (h_r M_15 a0 1)]) c_46 c_22 rfl).trans (t_i (t_cR ?_) rfl)
            intro u_18 M_17
            refine (ev_gV (a_rec M_17 1 [.inr (h_r M_15 a0 1), .inr u_18] = true ∧ ([] : List mV).length ≤ 8) (as := [.inr (h_r M_15 a0 1), .inr u_18]) (rr := []) c_46 c_2 rfl).trans (t_i (t_cV ?_) rfl)
            intro M_19
            refine (ev_ns c_46 1 (ip' := 53) (ls' := [some (.inr a0), some (.inl i1), some (.inl i2), some (.inr u_2), some (.inr u_6), some (.inr u_10), some (.inl v_16)]) (st' := [.inr a0]) (M' := M_19) rfl).trans ?_
            refine (ev_g (h_k M_19 a0 = 7) (ip' := 54) (ls' := [some (.inr a0), some (.inl i1), some (.inl i2), some (.inr u_2), some (.inr u_6), some (.inr u_10), some (.inl v_16)]) (st' := [.inr (h_r M_19 a0 1)]) (M' := M_19) c_46 rfl).trans (t_i ?_ rfl)
            refine (ev_ns c_46 1 (ip' := 55) (ls' := [some (.inr a0), some (.inl i1), some (.inl i2), some (.inr u_2), some (.inr u_6), some (.inr u_10), some (.inl v_16)]) (st' := [.inl 3, .inr (h_r M_19 a0 1)]) (M' := M_19) rfl).trans ?_
            refine (ev_gV (a_rec M_19 1 [.inr (h_r M_19 a0 1), .inl 3] = true ∧ ([] : List mV).length ≤ 8) (as := [.inr (h_r M_19 a0 1), .inl 3]) (rr := []) c_46 c_3 rfl).trans (t_i (t_cV ?_) rfl)
            intro M_20
            refine (ev_ns c_46 1 (ip' := 57) (ls' := [some (.inr a0), some (.inl i1), some (.inl i2), some (.inr u_2), some (.inr u_6), some (.inr u_10), some (.inl v_16)]) (st' := [.inr a0]) (M' := M_20) rfl).trans ?_
            refine (ev_g (h_k M_20 a0 = 7) (ip' := 58) (ls' := [some (.inr a0), some (.inl i1), some (.inl i2), some (.inr u_2), some (.inr u_6), some (.inr u_10), some (.inl v_16)]) (st' := [.inr (h_r M_20 a0 1)]) (M' := M_20) c_46 rfl).trans (t_i ?_ rfl)
            refine (ev_ns c_46 1 (ip' := 59) (ls' := [some (.inr a0), some (.inl i1), some (.inl i2), some (.inr u_2), some (.inr u_6), some (.inr u_10), some (.inl v_16)]) (st' := [.inr u_10, .inr (h_r M_20 a0 1)]) (M' := M_20) rfl).trans ?_
            refine (ev_g (h_k M_20 u_10 = 2) (ip' := 60) (ls' := [some (.inr a0), some (.inl i1), some (.inl i2), some (.inr u_2), some (.inr u_6), some (.inr u_10), some (.inl v_16)]) (st' := [.inl (h_i M_20 u_10 1), .inr (h_r M_20 a0 1)]) (M' := M_20) c_46 rfl).trans (t_i ?_ rfl)
            refine (ev_gV (a_rec M_20 1 [.inr (h_r M_20 a0 1), .inl (h_i M_20 u_10 1)] = true ∧ ([] : List mV).length ≤ 8) (as := [.inr (h_r M_20 a0 1), .inl (h_i M_20 u_10 1)]) (rr := []) c_46 c_3 rfl).trans (t_i (t_cV ?_) rfl)
            intro M_21
            refine (ev_ns c_46 1 (ip' := 62) (ls' := [some (.inr a0), some (.inl i1), some (.inl i2), some (.inr u_2), some (.inr u_6), some (.inr u_10), some (.inl v_16)]) (st' := [.inr a0]) (M' := M_21) rfl).trans ?_
            refine (ev_g (h_k M_21 a0 = 7) (ip' := 63) (ls' := [some (.inr a0), some (.inl i1), some (.inl i2), some (.inr u_2), some (.inr u_6), some (.inr u_10), some (.inl v_16)]) (st' := [.inr (h_r M_21 a0 1)]) (M' := M_21) c_46 rfl).trans (t_i ?_ rfl)
            refine (ev_ns c_46 1 (ip' := 64) (ls' := [some (.inr a0), some (.inl i1), some (.inl i2), some (.inr u_2), some (.inr u_6), some (.inr u_10), some (.inl v_16)]) (st' := [.inl v_16, .inr (h_r M_21 a0 1)]) (M' := M_21) rfl).trans ?_
            refine (ev_gV (a_rec M_21 1 [.inr (h_r M_21 a0 1), .inl v_16] = true ∧ ([] : List mV).length ≤ 8) (as := [.inr (h_r M_21 a0 1), .inl v_16]) (rr := []) c_46 c_3 rfl).trans (t_i (t_cV ?_) rfl)
            intro M_22
            refine (ev_ns c_46 1 (ip' := 66) (ls' := [some (.inr a0), some (.inl i1), some (.inl i2), some (.inr u_2), some (.inr u_6), some (.inr u_10), some (.inl v_16)]) (st' := [.inr a0]) (M' := M_22) rfl).trans ?_
            refine (ev_g (h_k M_22 a0 = 7) (ip' := 67) (ls' := [some (.inr a0), some (.inl i1), some (.inl i2), some (.inr u_2), some (.inr u_6), some (.inr u_10), some (.inl v_16)]) (st' := [.inr (h_r M_22 a0 1)]) (M' := M_22) c_46 rfl).trans (t_i ?_ rfl)
            refine (ev_ns c_46 1 (ip' := 68) (ls' := [some (.inr a0), some (.inl i1), some (.inl i2), some (.inr u_2), some (.inr u_6), some (.inr u_10), some (.inl v_16)]) (st' := [.inr u_6, .inr (h_r M_22 a0 1)]) (M' := M_22) rfl).trans ?_
            refine (ev_gR (a_rec M_22 4 [.inr u_6] = true ∧ ([.inr (h_r M_22 a0 1)] : List mV).length ≤ 8) (as := [.inr u_6]) (rr := [.inr (h_r M_22 a0 1)]) c_46 c_22 rfl).trans (t_i (t_cR ?_) rfl)
            intro u_24 M_23
            refine (ev_ns c_46 2 (ip' := 71) (ls' := [some (.inr a0), some (.inl i1), some (.inl i2), some (.inr u_2), some (.inr u_6), some (.inr u_10), some (.inl v_16)]) (st' := [.inl 8, .inl 0, .inr u_24, .inr (h_r M_22 a0 1)]) (M' := M_23) rfl).trans ?_
            refine (ev_gV (a_rec M_23 1 [.inr (h_r M_22 a0 1), .inr u_24, .inl 0, .inl 8] = true ∧ ([] : List mV).length ≤ 8) (as := [.inr (h_r M_22 a0 1), .inr u_24, .inl 0, .inl 8]) (rr := []) c_46 c_5 rfl).trans (t_i (t_cV ?_) rfl)
            intro M_25
            refine (ev_ns c_46 2 (ip' := 74) (ls' := [some (.inr a0), some (.inl i1), some (.inl i2), some (.inr u_2), some (.inr u_6), some (.inr u_10), some (.inl v_16)]) (st' := [.inl v_16, .inr a0]) (M' := M_25) rfl).trans ?_
            refine (ev_gI (a_rec M_25 7 [.inr a0, .inl v_16] = true ∧ ([] : List mV).length ≤ 8) (as := [.inr a0, .inl v_16]) (rr := []) c_46 c_73 rfl).trans (t_i (t_cI ?_) rfl)
            intro v_27 M_26
            exact ev_d c_46 rfl
        · skip
          refine (ev_ns c_46 2 (ip' := 27) (ls' := [some (.inr a0), some (.inl i1), some (.inl i2), some (.inr u_2), some (.inr u_6), none, none]) (st' := [.inl 3, .inr a0]) (M' := M_5) rfl).trans ?_
          refine (ev_gI (a_rec M_5 7 [.inr a0, .inl 3] = true ∧ ([] : List mV).length ≤ 8) (as := [.inr a0, .inl 3]) (rr := []) c_46 c_75 rfl).trans (t_i (t_cI ?_) rfl)
          intro v_29 M_28
          exact ev_d c_46 rfl
set_option maxRecDepth 20000 in
theorem e_46_9 (a0 : Nat) (i1 : Int32) (i2 : Int32) (a3 : Nat) (M : mM) : ev 46 9 [some (.inr a0), some (.inl i1), some (.inl i2), some (.inr a3), none, none, none] [] M = if (a_rec M 7 [.inr a0, .inl 1] = true ∧ ([] : List mV).length ≤ 8) then (c_I (ev 75 0 [some (.inr a0), some (.inl 1)] [] M) fun v_2 M_1 => some (some (.inl v_2), M_1)) else none := by
  refine (ev_ns c_46 2 (ip' := 11) (ls' := [some (.inr a0), some (.inl i1), some (.inl i2), some (.inr a3), none, none, none]) (st' := [.inl 1, .inr a0]) (M' := M) rfl).trans ?_
  refine (ev_gI (a_rec M 7 [.inr a0, .inl 1] = true ∧ ([] : List mV).length ≤ 8) (as := [.inr a0, .inl 1]) (rr := []) c_46 c_75 rfl).trans (t_i (t_cI ?_) rfl)
  intro v_2 M_1
  exact ev_d c_46 rfl
/- 47: GranuleHall.data(IIII)Z -/
set_option maxRecDepth 20000 in
theorem e_47_0 (a0 : Nat) (i1 : Int32) (i2 : Int32) (i3 : Int32) (i4 : Int32) (M : mM) : ev 47 0 [some (.inr a0), some (.inl i1), some (.inl i2), some (.inl i3), some (.inl i4), none, none, none, none, none] [] M = if (a_rec M 7 [.inr a0, .inl i1] = true ∧ ([] : List mV).length ≤ 8) then (c_R (ev 79 0 [some (.inr a0), some (.inl i1)] [] M) fun u_2 M_1 => if (a_rec M_1 7 [.inr a0, .inl i2] = true ∧ ([] : List mV).length ≤ 8) then (c_R (ev 79 0 [some (.inr a0), some (.inl i2)] [] M_1) fun u_4 M_3 => if (a_rec M_3 7 [.inr a0, .inl i4] = true ∧ ([] : List mV).length ≤ 8) then (c_R (ev 79 0 [some (.inr a0), some (.inl i4)] [] M_3) fun u_6 M_5 => if u_2 = 0 then (ev 47 21 [some (.inr a0), some (.inl i1), some (.inl i2), some (.inl i3), some (.inl i4), some (.inr u_2), some (.inr u_4), some (.inr u_6), none, none] [] M_5) else (if u_4 = 0 then (ev 47 21 [some (.inr a0), some (.inl i1), some (.inl i2), some (.inl i3), some (.inl i4), some (.inr u_2), some (.inr u_4), some (.inr u_6), none, none] [] M_5) else (if u_6 = 0 then (ev 47 21 [some (.inr a0), some (.inl i1), some (.inl i2), some (.inl i3), some (.inl i4), some (.inr u_2), some (.inr u_4), some (.inr u_6), none, none] [] M_5) else (if (a_rec M_5 0 [.inl i3] = true ∧ ([] : List mV).length ≤ 8) then (c_I (ev 84 0 [some (.inl i3)] [] M_5) fun v_8 M_7 => if v_8 = 0 then (ev 47 21 [some (.inr a0), some (.inl i1), some (.inl i2), some (.inl i3), some (.inl i4), some (.inr u_2), some (.inr u_4), some (.inr u_6), none, none] [] M_7) else (if (a_rec M_7 3 [.inr u_2] = true ∧ ([] : List mV).length ≤ 8) then (c_R (ev 20 0 [some (.inr u_2)] [] M_7) fun u_10 M_9 => if u_10 = 0 then (ev 47 37 [some (.inr a0), some (.inl i1), some (.inl i2), some (.inl i3), some (.inl i4), some (.inr u_2), some (.inr u_4), some (.inr u_6), some (.inr u_10), none] [] M_9) else (if h_k M_9 u_4 = 3 then (if (h_i M_9 u_4 2) = 1 then (if h_k M_9 u_6 = 3 then (if (h_i M_9 u_6 2) = 0 then (if h_k M_9 u_10 = 4 then (if (h_i M_9 u_10 3) = 0 then (if (a_rec M_9 4 [.inr u_10, .inl i3] = true ∧ ([] : List mV).length ≤ 8) then (c_R (ev 24 0 [some (.inr u_10), some (.inl i3)] [] M_9) fun u_12 M_11 => if (a_rec M_11 2 [.inr u_12] = true ∧ ([] : List mV).length ≤ 8) then (c_I (ev 12 0 [some (.inr u_12)] [] M_11) fun v_14 M_13 => if v_14 = 0 then (ev 47 59 [some (.inr a0), some (.inl i1), some (.inl i2), some (.inl i3), some (.inl i4), some (.inr u_2), some (.inr u_4), some (.inr u_6), some (.inr u_10), some (.inr u_12)] [] M_13) else (if h_k M_13 u_12 = 2 then (if (h_i M_13 u_12 2) = 1 then (if (a_rec M_13 0 [.inr u_10, .inr u_12, .inr u_4] = true ∧ ([] : List mV).length ≤ 8) then (c_V (ev 92 0 [some (.inr u_10), some (.inr u_12), some (.inr u_4)] [] M_13) fun M_15 => if h_k M_15 u_6 = 3 then (if h_k M_15 u_4 = 3 then (if ((h_k M_15 (h_r M_15 u_6 1) = 9 ∨ h_k M_15 (h_r M_15 u_6 1) = 14) ∧ h_k M_15 (h_r M_15 u_4 1) = 9) ∧ (¬ (0 : Int32) < 0 ∧ ¬ (0 : Int32) < 0 ∧ ¬ (32 : Int32) < 0) ∧ (0 + 32 ≤ h_l M_15 (h_r M_15 u_6 1) ∧ 0 + 32 ≤ h_l M_15 (h_r M_15 u_4 1)) ∧ ([] : List mV).length ≤ 8 then (if h_k (h_cp M_15 (h_r M_15 u_6 1) 0 (h_r M_15 u_4 1) 0 32) a0 = 7 then (if (a_rec (h_cp M_15 (h_r M_15 u_6 1) 0 (h_r M_15 u_4 1) 0 32) 1 [.inr (h_r (h_cp M_15 (h_r M_15 u_6 1) 0 (h_r M_15 u_4 1) 0 32) a0 1)] = true ∧ ([] : List mV).length ≤ 8) then (c_V (ev 1 0 [some (.inr (h_r (h_cp M_15 (h_r M_15 u_6 1) 0 (h_r M_15 u_4 1) 0 32) a0 1))] [] (h_cp M_15 (h_r M_15 u_6 1) 0 (h_r M_15 u_4 1) 0 32)) fun M_16 => if h_k M_16 a0 = 7 then (if h_k M_16 u_4 = 3 then (if (a_rec M_16 1 [.inr (h_r M_16 a0 1), .inr (h_r M_16 u_4 1), .inl 32] = true ∧ ([] : List mV).length ≤ 8) then (c_V (ev 4 0 [some (.inr (h_r M_16 a0 1)), some (.inr (h_r M_16 u_4 1)), some (.inl 32), none] [] M_16) fun M_17 => if h_k M_17 a0 = 7 then (if h_k M_17 a0 = 7 then (if (a_rec M_17 1 [.inr (h_r M_17 a0 1), .inr (h_r M_17 a0 2), .inl 0, .inl 8] = true ∧ ([] : List mV).length ≤ 8) then (c_V (ev 5 0 [some (.inr (h_r M_17 a0 1)), some (.inr (h_r M_17 a0 2)), some (.inl 0), some (.inl 8), none, none, none] [] M_17) fun M_18 => if h_k M_18 a0 = 7 then (if (a_rec M_18 4 [.inr u_10] = true ∧ ([.inr (h_r M_18 a0 1)] : List mV).length ≤ 8) then (c_R (ev 22 0 [some (.inr u_10)] [] M_18) fun u_20 M_19 => if (a_rec M_19 1 [.inr (h_r M_18 a0 1), .inr u_20] = true ∧ ([] : List mV).length ≤ 8) then (c_V (ev 2 0 [some (.inr (h_r M_18 a0 1)), some (.inr u_20)] [] M_19) fun M_21 => if h_k M_21 a0 = 7 then (if (a_rec M_21 1 [.inr (h_r M_21 a0 1), .inl 2] = true ∧ ([] : List mV).length ≤ 8) then (c_V (ev 3 0 [some (.inr (h_r M_21 a0 1)), some (.inl 2)] [] M_21) fun M_22 => if h_k M_22 a0 = 7 then (if (a_rec M_22 1 [.inr (h_r M_22 a0 1), .inl i3] = true ∧ ([] : List mV).length ≤ 8) then (c_V (ev 3 0 [some (.inr (h_r M_22 a0 1)), some (.inl i3)] [] M_22) fun M_23 => if h_k M_23 a0 = 7 then (if h_k M_23 a0 = 7 then (if (a_rec M_23 1 [.inr (h_r M_23 a0 1), .inr (h_r M_23 a0 2), .inl 8] = true ∧ ([] : List mV).length ≤ 8) then (c_V (ev 4 0 [some (.inr (h_r M_23 a0 1)), some (.inr (h_r M_23 a0 2)), some (.inl 8), none] [] M_23) fun M_24 => if h_k M_24 a0 = 7 then (if (a_rec M_24 4 [.inr u_10] = true ∧ ([.inr (h_r M_24 a0 1)] : List mV).length ≤ 8) then (c_R (ev 22 0 [some (.inr u_10)] [] M_24) fun u_26 M_25 => if (a_rec M_25 1 [.inr (h_r M_24 a0 1), .inr u_26, .inl 0, .inl 8] = true ∧ ([] : List mV).length ≤ 8) then (c_V (ev 5 0 [some (.inr (h_r M_24 a0 1)), some (.inr u_26), some (.inl 0), some (.inl 8), none, none, none] [] M_25) fun M_27 => if (a_rec M_27 7 [.inr a0] = true ∧ ([] : List mV).length ≤ 8) then (c_I (ev 74 0 [some (.inr a0)] [] M_27) fun v_29 M_28 => if v_29 = 0 ∨ v_29 = 1 then some (some (.inl v_29), M_28) else none) else none) else none) else none) else none) else none) else none) else none) else none) else none) else none) else none) else none) else none) else none) else none) else none) else none) else none) else none) else none) else none) else none) else none) else none) else none) else none) else (ev 47 59 [some (.inr a0), some (.inl i1), some (.inl i2), some (.inl i3), some (.inl i4), some (.inr u_2), some (.inr u_4), some (.inr u_6), some (.inr u_10), some (.inr u_12)] [] M_13)) else none)) else none) else none) else (if (a_rec M_9 7 [.inr a0, .inl 3] = true ∧ ([] : List mV).length ≤ 8) then (c_I (ev 76 0 [some (.inr a0), some (.inl 3)] [] M_9) fun v_31 M_30 => if v_31 = 0 ∨ v_31 = 1 then some (some (.inl v_31), M_30) else none) else none)) else none) else (ev 47 37 [some (.inr a0), some (.inl i1), some (.inl i2), some (.inl i3), some (.inl i4), some (.inr u_2), some (.inr u_4), some (.inr u_6), some (.inr u_10), none] [] M_9)) else none) else (ev 47 37 [some (.inr a0), some (.inl i1), some (.inl i2), some (.inl i3), some (.inl i4), some (.inr u_2), some (.inr u_4), some (.inr u_6), some (.inr u_10), none] [] M_9)) else none)) else none)) else none)))) else none) else none) else none := by
  refine (ev_ns c_47 2 (ip' := 2) (ls' := [some (.inr a0), some (.inl i1), some (.inl i2), some (.inl i3), some (.inl i4), none, none, none, none, none]) (st' := [.inl i1, .inr a0]) (M' := M) rfl).trans ?_
  refine (ev_gR (a_rec M 7 [.inr a0, .inl i1] = true ∧ ([] : List mV).length ≤ 8) (as := [.inr a0, .inl i1]) (rr := []) c_47 c_79 rfl).trans (t_i (t_cR ?_) rfl)
  intro u_2 M_1
  refine (ev_ns c_47 3 (ip' := 6) (ls' := [some (.inr a0), some (.inl i1), some (.inl i2), some (.inl i3), some (.inl i4), some (.inr u_2), none, none, none, none]) (st' := [.inl i2, .inr a0]) (M' := M_1) rfl).trans ?_
  refine (ev_gR (a_rec M_1 7 [.inr a0, .inl i2] = true ∧ ([] : List mV).length ≤ 8) (as := [.inr a0, .inl i2]) (rr := []) c_47 c_79 rfl).trans (t_i (t_cR ?_) rfl)
  intro u_4 M_3
  refine (ev_ns c_47 3 (ip' := 10) (ls' := [some (.inr a0), some (.inl i1), some (.inl i2), some (.inl i3), some (.inl i4), some (.inr u_2), some (.inr u_4), none, none, none]) (st' := [.inl i4, .inr a0]) (M' := M_3) rfl).trans ?_
  refine (ev_gR (a_rec M_3 7 [.inr a0, .inl i4] = true ∧ ([] : List mV).length ≤ 8) (as := [.inr a0, .inl i4]) (rr := []) c_47 c_79 rfl).trans (t_i (t_cR ?_) rfl)
  intro u_6 M_5
  refine (ev_ns c_47 2 (ip' := 13) (ls' := [some (.inr a0), some (.inl i1), some (.inl i2), some (.inl i3), some (.inl i4), some (.inr u_2), some (.inr u_4), some (.inr u_6), none, none]) (st' := [.inr u_2]) (M' := M_5) rfl).trans ?_
  refine (ev_i (u_2 = 0) (i1 := 21) (l1 := [some (.inr a0), some (.inl i1), some (.inl i2), some (.inl i3), some (.inl i4), some (.inr u_2), some (.inr u_4), some (.inr u_6), none, none]) (s1 := []) (M1 := M_5) (i2 := 14) (l2 := [some (.inr a0), some (.inl i1), some (.inl i2), some (.inl i3), some (.inl i4), some (.inr u_2), some (.inr u_4), some (.inr u_6), none, none]) (s2 := []) (M2 := M_5) c_47 rfl).trans (t_i ?_ ?_)
  · skip
    exact rfl
  · skip
    refine (ev_ns c_47 1 (ip' := 15) (ls' := [some (.inr a0), some (.inl i1), some (.inl i2), some (.inl i3), some (.inl i4), some (.inr u_2), some (.inr u_4), some (.inr u_6), none, none]) (st' := [.inr u_4]) (M' := M_5) rfl).trans ?_
    refine (ev_i (u_4 = 0) (i1 := 21) (l1 := [some (.inr a0), some (.inl i1), some (.inl i2), some (.inl i3), some (.inl i4), some (.inr u_2), some (.inr u_4), some (.inr u_6), none, none]) (s1 := []) (M1 := M_5) (i2 := 16) (l2 := [some (.inr a0), some (.inl i1), some (.inl i2), some (.inl i3), some (.inl i4), some (.inr u_2), some (.inr u_4), some (.inr u_6), none, none]) (s2 := []) (M2 := M_5) c_47 rfl).trans (t_i ?_ ?_)
    · skip
      exact rfl
    · skip
      refine (ev_ns c_47 1 (ip' := 17) (ls' := [some (.inr a0), some (.inl i1), some (.inl i2), some (.inl i3), some (.inl i4), some (.inr u_2), some (.inr u_4), some (.inr u_6), none, none]) (st' := [.inr u_6]) (M' := M_5) rfl).trans ?_
      refine (ev_i (u_6 = 0) (i1 := 21) (l1 := [some (.inr a0), some (.inl i1), some (.inl i2), some (.inl i3), some (.inl i4), some (.inr u_2), some (.inr u_4), some (.inr u_6), none, none]) (s1 := []) (M1 := M_5) (i2 := 18) (l2 := [some (.inr a0), some (.inl i1), some (.inl i2), some (.inl i3), some (.inl i4), some (.inr u_2), some (.inr u_4), some (.inr u_6), none, none]) (s2 := []) (M2 := M_5) c_47 rfl).trans (t_i ?_ ?_)
      · skip
        exact rfl
      · skip
        refine (ev_ns c_47 1 (ip' := 19) (ls' := [some (.inr a0), some (.inl i1), some (.inl i2), some (.inl i3), some (.inl i4), some (.inr u_2), some (.inr u_4), some (.inr u_6), none, none]) (st' := [.inl i3]) (M' := M_5) rfl).trans ?_
        refine (ev_gI (a_rec M_5 0 [.inl i3] = true ∧ ([] : List mV).length ≤ 8) (as := [.inl i3]) (rr := []) c_47 c_84 rfl).trans (t_i (t_cI ?_) rfl)
        intro v_8 M_7
        refine (ev_i (v_8 = 0) (i1 := 21) (l1 := [some (.inr a0), some (.inl i1), some (.inl i2), some (.inl i3), some (.inl i4), some (.inr u_2), some (.inr u_4), some (.inr u_6), none, none]) (s1 := []) (M1 := M_7) (i2 := 25) (l2 := [some (.inr a0), some (.inl i1), some (.inl i2), some (.inl i3), some (.inl i4), some (.inr u_2), some (.inr u_4), some (.inr u_6), none, none]) (s2 := []) (M2 := M_7) c_47 rfl).trans (t_i ?_ ?_)
        · skip
          exact rfl
        · skip
          refine (ev_ns c_47 1 (ip' := 26) (ls' := [some (.inr a0), some (.inl i1), some (.inl i2), some (.inl i3), some (.inl i4), some (.inr u_2), some (.inr u_4), some (.inr u_6), none, none]) (st' := [.inr u_2]) (M' := M_7) rfl).trans ?_
          refine (ev_gR (a_rec M_7 3 [.inr u_2] = true ∧ ([] : List mV).length ≤ 8) (as := [.inr u_2]) (rr := []) c_47 c_20 rfl).trans (t_i (t_cR ?_) rfl)
          intro u_10 M_9
          refine (ev_ns c_47 2 (ip' := 29) (ls' := [some (.inr a0), some (.inl i1), some (.inl i2), some (.inl i3), some (.inl i4), some (.inr u_2), some (.inr u_4), some (.inr u_6), some (.inr u_10), none]) (st' := [.inr u_10]) (M' := M_9) rfl).trans ?_
          refine (ev_i (u_10 = 0) (i1 := 37) (l1 := [some (.inr a0), some (.inl i1), some (.inl i2), some (.inl i3), some (.inl i4), some (.inr u_2), some (.inr u_4), some (.inr u_6), some (.inr u_10), none]) (s1 := []) (M1 := M_9) (i2 := 30) (l2 := [some (.inr a0), some (.inl i1), some (.inl i2), some (.inl i3), some (.inl i4), some (.inr u_2), some (.inr u_4), some (.inr u_6), some (.inr u_10), none]) (s2 := []) (M2 := M_9) c_47 rfl).trans (t_i ?_ ?_)
          · skip
            exact rfl
          · skip
            refine (ev_ns c_47 1 (ip' := 31) (ls' := [some (.inr a0), some (.inl i1), some (.inl i2), some (.inl i3), some (.inl i4), some (.inr u_2), some (.inr u_4), some (.inr u_6), some (.inr u_10), none]) (st' := [.inr u_4]) (M' := M_9) rfl).trans ?_
            refine (ev_g (h_k M_9 u_4 = 3) (ip' := 32) (ls' := [some (.inr a0), some (.inl i1), some (.inl i2), some (.inl i3), some (.inl i4), some (.inr u_2), some (.inr u_4), some (.inr u_6), some (.inr u_10), none]) (st' := [.inl (h_i M_9 u_4 2)]) (M' := M_9) c_47 rfl).trans (t_i ?_ rfl)
            refine (ev_ns c_47 1 (ip' := 33) (ls' := [some (.inr a0), some (.inl i1), some (.inl i2), some (.inl i3), some (.inl i4), some (.inr u_2), some (.inr u_4), some (.inr u_6), some (.inr u_10), none]) (st' := [.inl 1, .inl (h_i M_9 u_4 2)]) (M' := M_9) rfl).trans ?_
            refine (ev_i ((h_i M_9 u_4 2) = 1) (i1 := 34) (l1 := [some (.inr a0), some (.inl i1), some (.inl i2), some (.inl i3), some (.inl i4), some (.inr u_2), some (.inr u_4), some (.inr u_6), some (.inr u_10), none]) (s1 := []) (M1 := M_9) (i2 := 37) (l2 := [some (.inr a0), some (.inl i1), some (.inl i2), some (.inl i3), some (.inl i4), some (.inr u_2), some (.inr u_4), some (.inr u_6), some (.inr u_10), none]) (s2 := []) (M2 := M_9) c_47 rfl).trans (t_i ?_ ?_)
            · skip
              refine (ev_ns c_47 1 (ip' := 35) (ls' := [some (.inr a0), some (.inl i1), some (.inl i2), some (.inl i3), some (.inl i4), some (.inr u_2), some (.inr u_4), some (.inr u_6), some (.inr u_10), none]) (st' := [.inr u_6]) (M' := M_9) rfl).trans ?_
              refine (ev_g (h_k M_9 u_6 = 3) (ip' := 36) (ls' := [some (.inr a0), some (.inl i1), some (.inl i2), some (.inl i3), some (.inl i4), some (.inr u_2), some (.inr u_4), some (.inr u_6), some (.inr u_10), none]) (st' := [.inl (h_i M_9 u_6 2)]) (M' := M_9) c_47 rfl).trans (t_i ?_ rfl)
              refine (ev_i ((h_i M_9 u_6 2) = 0) (i1 := 41) (l1 := [some (.inr a0), some (.inl i1), some (.inl i2), some (.inl i3), some (.inl i4), some (.inr u_2), some (.inr u_4), some (.inr u_6), some (.inr u_10), none]) (s1 := []) (M1 := M_9) (i2 := 37) (l2 := [some (.inr a0), some (.inl i1), some (.inl i2), some (.inl i3), some (.inl i4), some (.inr u_2), some (.inr u_4), some (.inr u_6), some (.inr u_10), none]) (s2 := []) (M2 := M_9) c_47 rfl).trans (t_i ?_ ?_)
              · skip
                refine (ev_ns c_47 1 (ip' := 42) (ls' := [some (.inr a0), some (.inl i1), some (.inl i2), some (.inl i3), some (.inl i4), some (.inr u_2), some (.inr u_4), some (.inr u_6), some (.inr u_10), none]) (st' := [.inr u_10]) (M' := M_9) rfl).trans ?_
                refine (ev_g (h_k M_9 u_10 = 4) (ip' := 43) (ls' := [some (.inr a0), some (.inl i1), some (.inl i2), some (.inl i3), some (.inl i4), some (.inr u_2), some (.inr u_4), some (.inr u_6), some (.inr u_10), none]) (st' := [.inl (h_i M_9 u_10 3)]) (M' := M_9) c_47 rfl).trans (t_i ?_ rfl)
                refine (ev_i ((h_i M_9 u_10 3) = 0) (i1 := 48) (l1 := [some (.inr a0), some (.inl i1), some (.inl i2), some (.inl i3), some (.inl i4), some (.inr u_2), some (.inr u_4), some (.inr u_6), some (.inr u_10), none]) (s1 := []) (M1 := M_9) (i2 := 44) (l2 := [some (.inr a0), some (.inl i1), some (.inl i2), some (.inl i3), some (.inl i4), some (.inr u_2), some (.inr u_4), some (.inr u_6), some (.inr u_10), none]) (s2 := []) (M2 := M_9) c_47 rfl).trans (t_i ?_ ?_)
                · skip
                  refine (ev_ns c_47 2 (ip' := 50) (ls' := [some (.inr a0), some (.inl i1), some (.inl i2), some (.inl i3), some (.inl i4), some (.inr u_2), some (.inr u_4), some (.inr u_6), some (.inr u_10), none]) (st' := [.inl i3, .inr u_10]) (M' := M_9) rfl).trans ?_
                  refine (ev_gR (a_rec M_9 4 [.inr u_10, .inl i3] = true ∧ ([] : List mV).length ≤ 8) (as := [.inr u_10, .inl i3]) (rr := []) c_47 c_24 rfl).trans (t_i (t_cR ?_) rfl)
                  intro u_12 M_11
                  refine (ev_ns c_47 2 (ip' := 53) (ls' := [some (.inr a0), some (.inl i1), some (.inl i2), some (.inl i3), some (.inl i4), some (.inr u_2), some (.inr u_4), some (.inr u_6), some (.inr u_10), some (.inr u_12)]) (st' := [.inr u_12]) (M' := M_11) rfl).trans ?_
                  refine (ev_gI (a_rec M_11 2 [.inr u_12] = true ∧ ([] : List mV).length ≤ 8) (as := [.inr u_12]) (rr := []) c_47 c_12 rfl).trans (t_i (t_cI ?_) rfl)
                  intro v_14 M_13
                  refine (ev_i (v_14 = 0) (i1 := 59) (l1 := [some (.inr a0), some (.inl i1), some (.inl i2), some (.inl i3), some (.inl i4), some (.inr u_2), some (.inr u_4), some (.inr u_6), some (.inr u_10), some (.inr u_12)]) (s1 := []) (M1 := M_13) (i2 := 55) (l2 := [some (.inr a0), some (.inl i1), some (.inl i2), some (.inl i3), some (.inl i4), some (.inr u_2), some (.inr u_4), some (.inr u_6), some (.inr u_10), some (.inr u_12)]) (s2 := []) (M2 := M_13) c_47 rfl).trans (t_i ?_ ?_)
                  · skip
                    exact rfl
                  · skip
                    refine (ev_ns c_47 1 (ip' := 56) (ls' := [some (.inr a0), some (.inl i1), some (.inl i2), some (.inl i3), some (.inl i4), some (.inr u_2), some (.inr u_4), some (.inr u_6), some (.inr u_10), some (.inr u_12)]) (st' := [.inr u_12]) (M' := M_13) rfl).trans ?_
                    refine (ev_g (h_k M_13 u_12 = 2) (ip' := 57) (ls' := [some (.inr a0), some (.inl i1), some (.inl i2), some (.inl i3), some (.inl i4), some (.inr u_2), some (.inr u_4), some (.inr u_6), some (.inr u_10), some (.inr u_12)]) (st' := [.inl (h_i M_13 u_12 2)]) (M' := M_13) c_47 rfl).trans (t_i ?_ rfl)
                    refine (ev_ns c_47 1 (ip' := 58) (ls' := [some (.inr a0), some (.inl i1), some (.inl i2), some (.inl i3), some (.inl i4), some (.inr u_2), some (.inr u_4), some (.inr u_6), some (.inr u_10), some (.inr u_12)]) (st' := [.inl 1, .inl (h_i M_13 u_12 2)]) (M' := M_13) rfl).trans ?_
                    refine (ev_i ((h_i M_13 u_12 2) = 1) (i1 := 63) (l1 := [some (.inr a0), some (.inl i1), some (.inl i2), some (.inl i3), some (.inl i4), some (.inr u_2), some (.inr u_4), some (.inr u_6), some (.inr u_10), some (.inr u_12)]) (s1 := []) (M1 := M_13) (i2 := 59) (l2 := [some (.inr a0), some (.inl i1), some (.inl i2), some (.inl i3), some (.inl i4), some (.inr u_2), some (.inr u_4), some (.inr u_6), some (.inr u_10), some (.inr u_12)]) (s2 := []) (M2 := M_13) c_47 rfl).trans (t_i ?_ ?_)
                    · skip
                      refine (ev_ns c_47 3 (ip' := 66) (ls' := [some (.inr a0), some (.inl i1), some (.inl i2), some (.inl i3), some (.inl i4), some (.inr u_2), some (.inr u_4), some (.inr u_6), some (.inr u_10), some (.inr u_12)]) (st' := [.inr u_4, .inr u_12, .inr u_10]) (M' := M_13) rfl).trans ?_
                      refine (ev_gV (a_rec M_13 0 [.inr u_10, .inr u_12, .inr u_4] = true ∧ ([] : List mV).length ≤ 8) (as := [.inr u_10, .inr u_12, .inr u_4]) (rr := []) c_47 c_92 rfl).trans (t_i (t_cV ?_) rfl)
                      intro M_15
                      refine (ev_ns c_47 1 (ip' := 68) (ls' := [some (.inr a0), some (.inl i1), some (.inl i2), some (.inl i3), some (.inl i4), some (.inr u_2), some (.inr u_4), some (.inr u_6), some (.inr u_10), some (.inr u_12)]) (st' := [.inr u_6]) (M' := M_15) rfl).trans ?_
                      refine (ev_g (h_k M_15 u_6 = 3) (ip' := 69) (ls' := [some (.inr a0), some (.inl i1), some (.inl i2), some (.inl i3), some (.inl i4), some (.inr u_2), some (.inr u_4), some (.inr u_6), some (.inr u_10), some (.inr u_12)]) (st' := [.inr (h_r M_15 u_6 1)]) (M' := M_15) c_47 rfl).trans (t_i ?_ rfl)
                      refine (ev_ns c_47 2 (ip' := 71) (ls' := [some (.inr a0), some (.inl i1), some (.inl i2), some (.inl i3), some (.inl i4), some (.inr u_2), some (.inr u_4), some (.inr u_6), some (.inr u_10), some (.inr u_12)]) (st' := [.inr u_4, .inl 0, .inr (h_r M_15 u_6 1)]) (M' := M_15) rfl).trans ?_
                      refine (ev_g (h_k M_15 u_4 = 3) (ip' := 72) (ls' := [some (.inr a0), some (.inl i1), some (.inl i2), some (.inl i3), some (.inl i4), some (.inr u_2), some (.inr u_4), some (.inr u_6), some (.inr u_10), some (.inr u_12)]) (st' := [.inr (h_r M_15 u_4 1), .inl 0, .inr (h_r M_15 u_6 1)]) (M' := M_15) c_47 rfl).trans (t_i ?_ rfl)
                      refine (ev_ns c_47 2 (ip' := 74) (ls' := [some (.inr a0), some (.inl i1), some (.inl i2), some (.inl i3), some (.inl i4), some (.inr u_2), some (.inr u_4), some (.inr u_6), some (.inr u_10), some (.inr u_12)]) (st' := [.inl 32, .inl 0, .inr (h_r M_15 u_4 1), .inl 0, .inr (h_r M_15 u_6 1)]) (M' := M_15) rfl).trans ?_
                      refine (ev_g (((h_k M_15 (h_r M_15 u_6 1) = 9 ∨ h_k M_15 (h_r M_15 u_6 1) = 14) ∧ h_k M_15 (h_r M_15 u_4 1) = 9) ∧ (¬ (0 : Int32) < 0 ∧ ¬ (0 : Int32) < 0 ∧ ¬ (32 : Int32) < 0) ∧ (0 + 32 ≤ h_l M_15 (h_r M_15 u_6 1) ∧ 0 + 32 ≤ h_l M_15 (h_r M_15 u_4 1)) ∧ ([] : List mV).length ≤ 8) (ip' := 75) (ls' := [some (.inr a0), some (.inl i1), some (.inl i2), some (.inl i3), some (.inl i4), some (.inr u_2), some (.inr u_4), some (.inr u_6), some (.inr u_10), some (.inr u_12)]) (st' := []) (M' := h_cp M_15 (h_r M_15 u_6 1) 0 (h_r M_15 u_4 1) 0 32) c_47 rfl).trans (t_i ?_ rfl)
                      refine (ev_ns c_47 1 (ip' := 76) (ls' := [some (.inr a0), some (.inl i1), some (.inl i2), some (.inl i3), some (.inl i4), some (.inr u_2), some (.inr u_4), some (.inr u_6), some (.inr u_10), some (.inr u_12)]) (st' := [.inr a0]) (M' := h_cp M_15 (h_r M_15 u_6 1) 0 (h_r M_15 u_4 1) 0 32) rfl).trans ?_
                      refine (ev_g (h_k (h_cp M_15 (h_r M_15 u_6 1) 0 (h_r M_15 u_4 1) 0 32) a0 = 7) (ip' := 77) (ls' := [some (.inr a0), some (.inl i1), some (.inl i2), some (.inl i3), some (.inl i4), some (.inr u_2), some (.inr u_4), some (.inr u_6), some (.inr u_10), some (.inr u_12)]) (st' := [.inr (h_r (h_cp M_15 (h_r M_15 u_6 1) 0 (h_r M_15 u_4 1) 0 32) a0 1)]) (M' := h_cp M_15 (h_r M_15 u_6 1) 0 (h_r M_15 u_4 1) 0 32) c_47 rfl).trans (t_i ?_ rfl)
                      refine (ev_gV (a_rec (h_cp M_15 (h_r M_15 u_6 1) 0 (h_r M_15 u_4 1) 0 32) 1 [.inr (h_r (h_cp M_15 (h_r M_15 u_6 1) 0 (h_r M_15 u_4 1) 0 32) a0 1)] = true ∧ ([] : List mV).length ≤ 8) (as := [.inr (h_r (h_cp M_15 (h_r M_15 u_6 1) 0 (h_r M_15 u_4 1) 0 32) a0 1)]) (rr := []) c_47 c_1 rfl).trans (t_i (t_cV ?_) rfl)
                      intro M_16
                      refine (ev_ns c_47 1 (ip' := 79) (ls' := [some (.inr a0), some (.inl i1), some (.inl i2), some (.inl i3), some (.inl i4), some (.inr u_2), some (.inr u_4), some (.inr u_6), some (.inr u_10), some (.inr u_12)]) (st' := [.inr a0]) (M' := M_16) rfl).trans ?_
                      refine (ev_g (h_k M_16 a0 = 7) (ip' := 80) (ls' := [some (.inr a0), some (.inl i1), some (.inl i2), some (.inl i3), some (.inl i4), some (.inr u_2), some (.inr u_4), some (.inr u_6), some (.inr u_10), some (.inr u_12)]) (st' := [.inr (h_r M_16 a0 1)]) (M' := M_16) c_47 rfl).trans (t_i ?_ rfl)
                      refine (ev_ns c_47 1 (ip' := 81) (ls' := [some (.inr a0), some (.inl i1), some (.inl i2), some (.inl i3), some (.inl i4), some (.inr u_2), some (.inr u_4), some (.inr u_6), some (.inr u_10), some (.inr u_12)]) (st' := [.inr u_4, .inr (h_r M_16 a0 1)]) (M' := M_16) rfl).trans ?_
                      refine (ev_g (h_k M_16 u_4 = 3) (ip' := 82) (ls' := [some (.inr a0), some (.inl i1), some (.inl i2), some (.inl i3), some (.inl i4), some (.inr u_2), some (.inr u_4), some (.inr u_6), some (.inr u_10), some (.inr u_12)]) (st' := [.inr (h_r M_16 u_4 1), .inr (h_r M_16 a0 1)]) (M' := M_16) c_47 rfl).trans (t_i ?_ rfl)
                      refine (ev_ns c_47 1 (ip' := 83) (ls' := [some (.inr a0), some (.inl i1), some (.inl i2), some (.inl i3), some (.inl i4), some (.inr u_2), some (.inr u_4), some (.inr u_6), some (.inr u_10), some (.inr u_12)]) (st' := [.inl 32, .inr (h_r M_16 u_4 1), .inr (h_r M_16 a0 1)]) (M' := M_16) rfl).trans ?_
                      refine (ev_gV (a_rec M_16 1 [.inr (h_r M_16 a0 1), .inr (h_r M_16 u_4 1), .inl 32] = true ∧ ([] : List mV).length ≤ 8) (as := [.inr (h_r M_16 a0 1), .inr (h_r M_16 u_4 1), .inl 32]) (rr := []) c_47 c_4 rfl).trans (t_i (t_cV ?_) rfl)
                      intro M_17
                      refine (ev_ns c_47 1 (ip' := 85) (ls' := [some (.inr a0), some (.inl i1), some (.inl i2), some (.inl i3), some (.inl i4), some (.inr u_2), some (.inr u_4), some (.inr u_6), some (.inr u_10), some (.inr u_12)]) (st' := [.inr a0]) (M' := M_17) rfl).trans ?_
                      refine (ev_g (h_k M_17 a0 = 7) (ip' := 86) (ls' := [some (.inr a0), some (.inl i1), some (.inl i2), some (.inl i3), some (.inl i4), some (.inr u_2), some (.inr u_4), some (.inr u_6), some (.inr u_10), some (.inr u_12)]) (st' := [.inr (h_r M_17 a0 1)]) (M' := M_17) c_47 rfl).trans (t_i ?_ rfl)
                      refine (ev_ns c_47 1 (ip' := 87) (ls' := [some (.inr a0), some (.inl i1), some (.inl i2), some (.inl i3), some (.inl i4), some (.inr u_2), some (.inr u_4), some (.inr u_6), some (.inr u_10), some (.inr u_12)]) (st' := [.inr a0, .inr (h_r M_17 a0 1)]) (M' := M_17) rfl).trans ?_
                      refine (ev_g (h_k M_17 a0 = 7) (ip' := 88) (ls' := [some (.inr a0), some (.inl i1), some (.inl i2), some (.inl i3), some (.inl i4), some (.inr u_2), some (.inr u_4), some (.inr u_6), some (.inr u_10), some (.inr u_12)]) (st' := [.inr (h_r M_17 a0 2), .inr (h_r M_17 a0 1)]) (M' := M_17) c_47 rfl).trans (t_i ?_ rfl)
                      refine (ev_ns c_47 2 (ip' := 90) (ls' := [some (.inr a0), some (.inl i1), some (.inl i2), some (.inl i3), some (.inl i4), some (.inr u_2), some (.inr u_4), some (.inr u_6), some (.inr u_10), some (.inr u_12)]) (st' := [.inl 8, .inl 0, .inr (h_r M_17 a0 2), .inr (h_r M_17 a0 1)]) (M' := M_17) rfl).trans ?_
                      refine (ev_gV (a_rec M_17 1 [.inr (h_r M_17 a0 1), .inr (h_r M_17 a0 2), .inl 0, .inl 8] = true ∧ ([] : List mV).length ≤ 8) (as := [.inr (h_r M_17 a0 1), .inr (h_r M_17 a0 2), .inl 0, .inl 8]) (rr := []) c_47 c_5 rfl).trans (t_i (t_cV ?_) rfl)
                      intro M_18
                      refine (ev_ns c_47 1 (ip' := 92) (ls' := [some (.inr a0), some (.inl i1), some (.inl i2), some (.inl i3), some (.inl i4), some (.inr u_2), some (.inr u_4), some (.inr u_6), some (.inr u_10), some (.inr u_12)]) (st' := [.inr a0]) (M' := M_18) rfl).trans ?_
                      refine (ev_g (h_k M_18 a0 = 7) (ip' := 93) (ls' := [some (.inr a0), some (.inl i1), some (.inl i2), some (.inl i3), some (.inl i4), some (.inr u_2), some (.inr u_4), some (.inr u_6), some (.inr u_10), some (.inr u_12)]) (st' := [.inr (h_r M_18 a0 1)]) (M' := M_18) c_47 rfl).trans (t_i ?_ rfl)
                      refine (ev_ns c_47 1 (ip' := 94) (ls' := [some (.inr a0), some (.inl i1), some (.inl i2), some (.inl i3), some (.inl i4), some (.inr u_2), some (.inr u_4), some (.inr u_6), some (.inr u_10), some (.inr u_12)]) (st' := [.inr u_10, .inr (h_r M_18 a0 1)]) (M' := M_18) rfl).trans ?_
                      refine (ev_gR (a_rec M_18 4 [.inr u_10] = true ∧ ([.inr (h_r M_18 a0 1)] : List mV).length ≤ 8) (as := [.inr u_10]) (rr := [.inr (h_r M_18 a0 1)]) c_47 c_22 rfl).trans (t_i (t_cR ?_) rfl)
                      intro u_20 M_19
                      refine (ev_gV (a_rec M_19 1 [.inr (h_r M_18 a0 1), .inr u_20] = true ∧ ([] : List mV).length ≤ 8) (as := [.inr (h_r M_18 a0 1), .inr u_20]) (rr := []) c_47 c_2 rfl).trans (t_i (t_cV ?_) rfl)
                      intro M_21
                      refine (ev_ns c_47 1 (ip' := 97) (ls' := [some (.inr a0), some (.inl i1), some (.inl i2), some (.inl i3), some (.inl i4), some (.inr u_2), some (.inr u_4), some (.inr u_6), some (.inr u_10), some (.inr u_12)]) (st' := [.inr a0]) (M' := M_21) rfl).trans ?_
                      refine (ev_g (h_k M_21 a0 = 7) (ip' := 98) (ls' := [some (.inr a0), some (.inl i1), some (.inl i2), some (.inl i3), some (.inl i4), some (.inr u_2), some (.inr u_4), some (.inr u_6), some (.inr u_10), some (.inr u_12)]) (st' := [.inr (h_r M_21 a0 1)]) (M' := M_21) c_47 rfl).trans (t_i ?_ rfl)
                      refine (ev_ns c_47 1 (ip' := 99) (ls' := [some (.inr a0), some (.inl i1), some (.inl i2), some (.inl i3), some (.inl i4), some (.inr u_2), some (.inr u_4), some (.inr u_6), some (.inr u_10), some (.inr u_12)]) (st' := [.inl 2, .inr (h_r M_21 a0 1)]) (M' := M_21) rfl).trans ?_
                      refine (ev_gV (a_rec M_21 1 [.inr (h_r M_21 a0 1), .inl 2] = true ∧ ([] : List mV).length ≤ 8) (as := [.inr (h_r M_21 a0 1), .inl 2]) (rr := []) c_47 c_3 rfl).trans (t_i (t_cV ?_) rfl)
                      intro M_22
                      refine (ev_ns c_47 1 (ip' := 101) (ls' := [some (.inr a0), some (.inl i1), some (.inl i2), some (.inl i3), some (.inl i4), some (.inr u_2), some (.inr u_4), some (.inr u_6), some (.inr u_10), some (.inr u_12)]) (st' := [.inr a0]) (M' := M_22) rfl).trans ?_
                      refine (ev_g (h_k M_22 a0 = 7) (ip' := 102) (ls' := [some (.inr a0), some (.inl i1), some (.inl i2), some (.inl i3), some (.inl i4), some (.inr u_2), some (.inr u_4), some (.inr u_6), some (.inr u_10), some (.inr u_12)]) (st' := [.inr (h_r M_22 a0 1)]) (M' := M_22) c_47 rfl).trans (t_i ?_ rfl)
                      refine (ev_ns c_47 1 (ip' := 103) (ls' := [some (.inr a0), some (.inl i1), some (.inl i2), some (.inl i3), some (.inl i4), some (.inr u_2), some (.inr u_4), some (.inr u_6), some (.inr u_10), some (.inr u_12)]) (st' := [.inl i3, .inr (h_r M_22 a0 1)]) (M' := M_22) rfl).trans ?_
                      refine (ev_gV (a_rec M_22 1 [.inr (h_r M_22 a0 1), .inl i3] = true ∧ ([] : List mV).length ≤ 8) (as := [.inr (h_r M_22 a0 1), .inl i3]) (rr := []) c_47 c_3 rfl).trans (t_i (t_cV ?_) rfl)
                      intro M_23
                      refine (ev_ns c_47 1 (ip' := 105) (ls' := [some (.inr a0), some (.inl i1), some (.inl i2), some (.inl i3), some (.inl i4), some (.inr u_2), some (.inr u_4), some (.inr u_6), some (.inr u_10), some (.inr u_12)]) (st' := [.inr a0]) (M' := M_23) rfl).trans ?_
                      refine (ev_g (h_k M_23 a0 = 7) (ip' := 106) (ls' := [some (.inr a0), some (.inl i1), some (.inl i2), some (.inl i3), some (.inl i4), some (.inr u_2), some (.inr u_4), some (.inr u_6), some (.inr u_10), some (.inr u_12)]) (st' := [.inr (h_r M_23 a0 1)]) (M' := M_23) c_47 rfl).trans (t_i ?_ rfl)
                      refine (ev_ns c_47 1 (ip' := 107) (ls' := [some (.inr a0), some (.inl i1), some (.inl i2), some (.inl i3), some (.inl i4), some (.inr u_2), some (.inr u_4), some (.inr u_6), some (.inr u_10), some (.inr u_12)]) (st' := [.inr a0, .inr (h_r M_23 a0 1)]) (M' := M_23) rfl).trans ?_
                      refine (ev_g (h_k M_23 a0 = 7) (ip' := 108) (ls' := [some (.inr a0), some (.inl i1), some (.inl i2), some (.inl i3), some (.inl i4), some (.inr u_2), some (.inr u_4), some (.inr u_6), some (.inr u_10), some (.inr u_12)]) (st' := [.inr (h_r M_23 a0 2), .inr (h_r M_23 a0 1)]) (M' := M_23) c_47 rfl).trans (t_i ?_ rfl)
                      refine (ev_ns c_47 1 (ip' := 109) (ls' := [some (.inr a0), some (.inl i1), some (.inl i2), some (.inl i3), some (.inl i4), some (.inr u_2), some (.inr u_4), some (.inr u_6), some (.inr u_10), some (.inr u_12)]) (st' := [.inl 8, .inr (h_r M_23 a0 2), .inr (h_r M_23 a0 1)]) (M' := M_23) rfl).trans ?_
                      refine (ev_gV (a_rec M_23 1 [.inr (h_r M_23 a0 1), .inr (h_r M_23 a0 2), .inl 8] = true ∧ ([] : List mV).length ≤ 8) (as := [.inr (h_r M_23 a0 1), .inr (h_r M_23 a0 2), .inl 8]) (rr := []) c_47 c_4 rfl).trans (t_i (t_cV ?_) rfl)
                      intro M_24
                      refine (ev_ns c_47 1 (ip' := 111) (ls' := [some (.inr a0), some (.inl i1), some (.inl i2), some (.inl i3), some (.inl i4), some (.inr u_2), some (.inr u_4), some (.inr u_6), some (.inr u_10), some (.inr u_12)]) (st' := [.inr a0]) (M' := M_24) rfl).trans ?_
                      refine (ev_g (h_k M_24 a0 = 7) (ip' := 112) (ls' := [some (.inr a0), some (.inl i1), some (.inl i2), some (.inl i3), some (.inl i4), some (.inr u_2), some (.inr u_4), some (.inr u_6), some (.inr u_10), some (.inr u_12)]) (st' := [.inr (h_r M_24 a0 1)]) (M' := M_24) c_47 rfl).trans (t_i ?_ rfl)
                      refine (ev_ns c_47 1 (ip' := 113) (ls' := [some (.inr a0), some (.inl i1), some (.inl i2), some (.inl i3), some (.inl i4), some (.inr u_2), some (.inr u_4), some (.inr u_6), some (.inr u_10), some (.inr u_12)]) (st' := [.inr u_10, .inr (h_r M_24 a0 1)]) (M' := M_24) rfl).trans ?_
                      refine (ev_gR (a_rec M_24 4 [.inr u_10] = true ∧ ([.inr (h_r M_24 a0 1)] : List mV).length ≤ 8) (as := [.inr u_10]) (rr := [.inr (h_r M_24 a0 1)]) c_47 c_22 rfl).trans (t_i (t_cR ?_) rfl)
                      intro u_26 M_25
                      refine (ev_ns c_47 2 (ip' := 116) (ls' := [some (.inr a0), some (.inl i1), some (.inl i2), some (.inl i3), some (.inl i4), some (.inr u_2), some (.inr u_4), some (.inr u_6), some (.inr u_10), some (.inr u_12)]) (st' := [.inl 8, .inl 0, .inr u_26, .inr (h_r M_24 a0 1)]) (M' := M_25) rfl).trans ?_
                      refine (ev_gV (a_rec M_25 1 [.inr (h_r M_24 a0 1), .inr u_26, .inl 0, .inl 8] = true ∧ ([] : List mV).length ≤ 8) (as := [.inr (h_r M_24 a0 1), .inr u_26, .inl 0, .inl 8]) (rr := []) c_47 c_5 rfl).trans (t_i (t_cV ?_) rfl)
                      intro M_27
                      refine (ev_ns c_47 1 (ip' := 118) (ls' := [some (.inr a0), some (.inl i1), some (.inl i2), some (.inl i3), some (.inl i4), some (.inr u_2), some (.inr u_4), some (.inr u_6), some (.inr u_10), some (.inr u_12)]) (st' := [.inr a0]) (M' := M_27) rfl).trans ?_
                      refine (ev_gI (a_rec M_27 7 [.inr a0] = true ∧ ([] : List mV).length ≤ 8) (as := [.inr a0]) (rr := []) c_47 c_74 rfl).trans (t_i (t_cI ?_) rfl)
                      intro v_29 M_28
                      exact ev_gd (v_29 = 0 ∨ v_29 = 1) c_47 rfl
                    · skip
                      exact rfl
                · skip
                  refine (ev_ns c_47 2 (ip' := 46) (ls' := [some (.inr a0), some (.inl i1), some (.inl i2), some (.inl i3), some (.inl i4), some (.inr u_2), some (.inr u_4), some (.inr u_6), some (.inr u_10), none]) (st' := [.inl 3, .inr a0]) (M' := M_9) rfl).trans ?_
                  refine (ev_gI (a_rec M_9 7 [.inr a0, .inl 3] = true ∧ ([] : List mV).length ≤ 8) (as := [.inr a0, .inl 3]) (rr := []) c_47 c_76 rfl).trans (t_i (t_cI ?_) rfl)
                  intro v_31 M_30
                  exact ev_gd (v_31 = 0 ∨ v_31 = 1) c_47 rfl
              · skip
                exact rfl
            · skip
              exact rfl
set_option maxRecDepth 20000 in
theorem e_47_21 (a0 : Nat) (i1 : Int32) (i2 : Int32) (i3 : Int32) (i4 : Int32) (a5 : Nat) (a6 : Nat) (a7 : Nat) (M : mM) : ev 47 21 [some (.inr a0), some (.inl i1), some (.inl i2), some (.inl i3), some (.inl i4), some (.inr a5), some (.inr a6), some (.inr a7), none, none] [] M = if (a_rec M 7 [.inr a0, .inl 1] = true ∧ ([] : List mV).length ≤ 8) then (c_I (ev 76 0 [some (.inr a0), some (.inl 1)] [] M) fun v_2 M_1 => if v_2 = 0 ∨ v_2 = 1 then some (some (.inl v_2), M_1) else none) else none := by
  refine (ev_ns c_47 2 (ip' := 23) (ls' := [some (.inr a0), some (.inl i1), some (.inl i2), some (.inl i3), some (.inl i4), some (.inr a5), some (.inr a6), some (.inr a7), none, none]) (st' := [.inl 1, .inr a0]) (M' := M) rfl).trans ?_
  refine (ev_gI (a_rec M 7 [.inr a0, .inl 1] = true ∧ ([] : List mV).length ≤ 8) (as := [.inr a0, .inl 1]) (rr := []) c_47 c_76 rfl).trans (t_i (t_cI ?_) rfl)
  intro v_2 M_1
  exact ev_gd (v_2 = 0 ∨ v_2 = 1) c_47 rfl
set_option maxRecDepth 20000 in
theorem e_47_37 (a0 : Nat) (i1 : Int32) (i2 : Int32) (i3 : Int32) (i4 : Int32) (a5 : Nat) (a6 : Nat) (a7 : Nat) (a8 : Nat) (M : mM) : ev 47 37 [some (.inr a0), some (.inl i1), some (.inl i2), some (.inl i3), some (.inl i4), some (.inr a5), some (.inr a6), some (.inr a7), some (.inr a8), none] [] M = if (a_rec M 7 [.inr a0, .inl 2] = true ∧ ([] : List mV).length ≤ 8) then (c_I (ev 76 0 [some (.inr a0), some (.inl 2)] [] M) fun v_2 M_1 => if v_2 = 0 ∨ v_2 = 1 then some (some (.inl v_2), M_1) else none) else none := by
  refine (ev_ns c_47 2 (ip' := 39) (ls' := [some (.inr a0), some (.inl i1), some (.inl i2), some (.inl i3), some (.inl i4), some (.inr a5), some (.inr a6), some (.inr a7), some (.inr a8), none]) (st' := [.inl 2, .inr a0]) (M' := M) rfl).trans ?_
  refine (ev_gI (a_rec M 7 [.inr a0, .inl 2] = true ∧ ([] : List mV).length ≤ 8) (as := [.inr a0, .inl 2]) (rr := []) c_47 c_76 rfl).trans (t_i (t_cI ?_) rfl)
  intro v_2 M_1
  exact ev_gd (v_2 = 0 ∨ v_2 = 1) c_47 rfl
set_option maxRecDepth 20000 in
theorem e_47_59 (a0 : Nat) (i1 : Int32) (i2 : Int32) (i3 : Int32) (i4 : Int32) (a5 : Nat) (a6 : Nat) (a7 : Nat) (a8 : Nat) (a9 : Nat) (M : mM) : ev 47 59 [some (.inr a0), some (.inl i1), some (.inl i2), some (.inl i3), some (.inl i4), some (.inr a5), some (.inr a6), some (.inr a7), some (.inr a8), some (.inr a9)] [] M = if (a_rec M 7 [.inr a0, .inl 5] = true ∧ ([] : List mV).length ≤ 8) then (c_I (ev 76 0 [some (.inr a0), some (.inl 5)] [] M) fun v_2 M_1 => if v_2 = 0 ∨ v_2 = 1 then some (some (.inl v_2), M_1) else none) else none := by
  refine (ev_ns c_47 2 (ip' := 61) (ls' := [some (.inr a0), some (.inl i1), some (.inl i2), some (.inl i3), some (.inl i4), some (.inr a5), some (.inr a6), some (.inr a7), some (.inr a8), some (.inr a9)]) (st' := [.inl 5, .inr a0]) (M' := M) rfl).trans ?_
  refine (ev_gI (a_rec M 7 [.inr a0, .inl 5] = true ∧ ([] : List mV).length ≤ 8) (as := [.inr a0, .inl 5]) (rr := []) c_47 c_76 rfl).trans (t_i (t_cI ?_) rfl)
  intro v_2 M_1
  exact ev_gd (v_2 = 0 ∨ v_2 = 1) c_47 rfl
/- 48: GranuleHall.unknown(III)Z -/
set_option maxRecDepth 20000 in
theorem e_48_0 (a0 : Nat) (i1 : Int32) (i2 : Int32) (i3 : Int32) (M : mM) : ev 48 0 [some (.inr a0), some (.inl i1), some (.inl i2), some (.inl i3), none, none, none, none] [] M = if (a_rec M 7 [.inr a0, .inl i1] = true ∧ ([] : List mV).length ≤ 8) then (c_R (ev 79 0 [some (.inr a0), some (.inl i1)] [] M) fun u_2 M_1 => if (a_rec M_1 7 [.inr a0, .inl i2] = true ∧ ([] : List mV).length ≤ 8) then (c_R (ev 79 0 [some (.inr a0), some (.inl i2)] [] M_1) fun u_4 M_3 => if u_2 = 0 then (ev 48 15 [some (.inr a0), some (.inl i1), some (.inl i2), some (.inl i3), some (.inr u_2), some (.inr u_4), none, none] [] M_3) else (if u_4 = 0 then (ev 48 15 [some (.inr a0), some (.inl i1), some (.inl i2), some (.inl i3), some (.inr u_2), some (.inr u_4), none, none] [] M_3) else (if (a_rec M_3 0 [.inl i3] = true ∧ ([] : List mV).length ≤ 8) then (c_I (ev 84 0 [some (.inl i3)] [] M_3) fun v_6 M_5 => if v_6 = 0 then (ev 48 15 [some (.inr a0), some (.inl i1), some (.inl i2), some (.inl i3), some (.inr u_2), some (.inr u_4), none, none] [] M_5) else (if (a_rec M_5 3 [.inr u_2] = true ∧ ([] : List mV).length ≤ 8) then (c_R (ev 20 0 [some (.inr u_2)] [] M_5) fun u_8 M_7 => if u_8 = 0 then (ev 48 28 [some (.inr a0), some (.inl i1), some (.inl i2), some (.inl i3), some (.inr u_2), some (.inr u_4), some (.inr u_8), none] [] M_7) else (if h_k M_7 u_4 = 3 then (if (h_i M_7 u_4 2) = 1 then (if h_k M_7 u_8 = 4 then (if (h_i M_7 u_8 3) = 2 then (if (a_rec M_7 7 [.inr a0, .inl 3] = true ∧ ([] : List mV).length ≤ 8) then (c_I (ev 76 0 [some (.inr a0), some (.inl 3)] [] M_7) fun v_10 M_9 => if v_10 = 0 ∨ v_10 = 1 then some (some (.inl v_10), M_9) else none) else none) else (if (a_rec M_7 4 [.inr u_8, .inl i3] = true ∧ ([] : List mV).length ≤ 8) then (c_R (ev 24 0 [some (.inr u_8), some (.inl i3)] [] M_7) fun u_12 M_11 => if (a_rec M_11 2 [.inr u_12] = true ∧ ([] : List mV).length ≤ 8) then (c_I (ev 12 0 [some (.inr u_12)] [] M_11) fun v_14 M_13 => if v_14 = 0 then (if (a_rec M_13 7 [.inr a0, .inl 5] = true ∧ ([] : List mV).length ≤ 8) then (c_I (ev 76 0 [some (.inr a0), some (.inl 5)] [] M_13) fun v_16 M_15 => if v_16 = 0 ∨ v_16 = 1 then some (some (.inl v_16), M_15) else none) else none) else (if (a_rec M_13 0 [.inr u_8, .inr u_12, .inr u_4] = true ∧ ([] : List mV).length ≤ 8) then (c_V (ev 92 0 [some (.inr u_8), some (.inr u_12), some (.inr u_4)] [] M_13) fun M_17 => if (a_rec M_17 7 [.inr a0] = true ∧ ([] : List mV).length ≤ 8) then (c_I (ev 74 0 [some (.inr a0)] [] M_17) fun v_19 M_18 => if v_19 = 0 ∨ v_19 = 1 then some (some (.inl v_19), M_18) else none) else none) else none)) else none) else none)) else none) else (ev 48 28 [some (.inr a0), some (.inl i1), some (.inl i2), some (.inl i3), some (.inr u_2), some (.inr u_4), some (.inr u_8), none] [] M_7)) else none)) else none)) else none))) else none) else none := by
  refine (ev_ns c_48 2 (ip' := 2) (ls' := [some (.inr a0), some (.inl i1), some (.inl i2), some (.inl i3), none, none, none, none]) (st' := [.inl i1, .inr a0]) (M' := M) rfl).trans ?_
  refine (ev_gR (a_rec M 7 [.inr a0, .inl i1] = true ∧ ([] : List mV).length ≤ 8) (as := [.inr a0, .inl i1]) (rr := []) c_48 c_79 rfl).trans (t_i (t_cR ?_) rfl)
  intro u_2 M_1
  refine (ev_ns c_48 3 (ip' := 6) (ls' := [some (.inr a0), some (.inl i1), some (.inl i2), some (.inl i3), some (.inr u_2), none, none, none]) (st' := [.inl i2, .inr a0]) (M' := M_1) rfl).trans ?_
  refine (ev_gR (a_rec M_1 7 [.inr a0, .inl i2] = true ∧ ([] : List mV).length ≤ 8) (as := [.inr a0, .inl i2]) (rr := []) c_48 c_79 rfl).trans (t_i (t_cR ?_) rfl)
  intro u_4 M_3
  refine (ev_ns c_48 2 (ip' := 9) (ls' := [some (.inr a0), some (.inl i1), some (.inl i2), some (.inl i3), some (.inr u_2), some (.inr u_4), none, none]) (st' := [.inr u_2]) (M' := M_3) rfl).trans ?_
  refine (ev_i (u_2 = 0) (i1 := 15) (l1 := [some (.inr a0), some (.inl i1), some (.inl i2), some (.inl i3), some (.inr u_2), some (.inr u_4), none, none]) (s1 := []) (M1 := M_3) (i2 := 10) (l2 := [some (.inr a0), some (.inl i1), some (.inl i2), some (.inl i3), some (.inr u_2), some (.inr u_4), none, none]) (s2 := []) (M2 := M_3) c_48 rfl).trans (t_i ?_ ?_)
  · skip
    exact rfl
  · skip
    refine (ev_ns c_48 1 (ip' := 11) (ls' := [some (.inr a0), some (.inl i1), some (.inl i2), some (.inl i3), some (.inr u_2), some (.inr u_4), none, none]) (st' := [.inr u_4]) (M' := M_3) rfl).trans ?_
    refine (ev_i (u_4 = 0) (i1 := 15) (l1 := [some (.inr a0), some (.inl i1), some (.inl i2), some (.inl i3), some (.inr u_2), some (.inr u_4), none, none]) (s1 := []) (M1 := M_3) (i2 := 12) (l2 := [some (.inr a0), some (.inl i1), some (.inl i2), some (.inl i3), some (.inr u_2), some (.inr u_4), none, none]) (s2 := []) (M2 := M_3) c_48 rfl).trans (t_i ?_ ?_)
    · skip
      exact rfl
    · skip
      refine (ev_ns c_48 1 (ip' := 13) (ls' := [some (.inr a0), some (.inl i1), some (.inl i2), some (.inl i3), some (.inr u_2), some (.inr u_4), none, none]) (st' := [.inl i3]) (M' := M_3) rfl).trans ?_
      refine (ev_gI (a_rec M_3 0 [.inl i3] = true ∧ ([] : List mV).length ≤ 8) (as := [.inl i3]) (rr := []) c_48 c_84 rfl).trans (t_i (t_cI ?_) rfl)
      intro v_6 M_5
      refine (ev_i (v_6 = 0) (i1 := 15) (l1 := [some (.inr a0), some (.inl i1), some (.inl i2), some (.inl i3), some (.inr u_2), some (.inr u_4), none, none]) (s1 := []) (M1 := M_5) (i2 := 19) (l2 := [some (.inr a0), some (.inl i1), some (.inl i2), some (.inl i3), some (.inr u_2), some (.inr u_4), none, none]) (s2 := []) (M2 := M_5) c_48 rfl).trans (t_i ?_ ?_)
      · skip
        exact rfl
      · skip
        refine (ev_ns c_48 1 (ip' := 20) (ls' := [some (.inr a0), some (.inl i1), some (.inl i2), some (.inl i3), some (.inr u_2), some (.inr u_4), none, none]) (st' := [.inr u_2]) (M' := M_5) rfl).trans ?_
        refine (ev_gR (a_rec M_5 3 [.inr u_2] = true ∧ ([] : List mV).length ≤ 8) (as := [.inr u_2]) (rr := []) c_48 c_20 rfl).trans (t_i (t_cR ?_) rfl)
        intro u_8 M_7
        refine (ev_ns c_48 2 (ip' := 23) (ls' := [some (.inr a0), some (.inl i1), some (.inl i2), some (.inl i3), some (.inr u_2), some (.inr u_4), some (.inr u_8), none]) (st' := [.inr u_8]) (M' := M_7) rfl).trans ?_
        refine (ev_i (u_8 = 0) (i1 := 28) (l1 := [some (.inr a0), some (.inl i1), some (.inl i2), some (.inl i3), some (.inr u_2), some (.inr u_4), some (.inr u_8), none]) (s1 := []) (M1 := M_7) (i2 := 24) (l2 := [some (.inr a0), some (.inl i1), some (.inl i2), some (.inl i3), some (.inr u_2), some (.inr u_4), some (.inr u_8), none]) (s2 := []) (M2 := M_7) c_48 rfl).trans (t_i ?_ ?_)
        · skip
          exact rfl
        · skip
          refine (ev_ns c_48 1 (ip' := 25) (ls' := [some (.inr a0), some (.inl i1), some (.inl i2), some (.inl i3), some (.inr u_2), some (.inr u_4), some (.inr u_8), none]) (st' := [.inr u_4]) (M' := M_7) rfl).trans ?_
          refine (ev_g (h_k M_7 u_4 = 3) (ip' := 26) (ls' := [some (.inr a0), some (.inl i1), some (.inl i2), some (.inl i3), some (.inr u_2), some (.inr u_4), some (.inr u_8), none]) (st' := [.inl (h_i M_7 u_4 2)]) (M' := M_7) c_48 rfl).trans (t_i ?_ rfl)
          refine (ev_ns c_48 1 (ip' := 27) (ls' := [some (.inr a0), some (.inl i1), some (.inl i2), some (.inl i3), some (.inr u_2), some (.inr u_4), some (.inr u_8), none]) (st' := [.inl 1, .inl (h_i M_7 u_4 2)]) (M' := M_7) rfl).trans ?_
          refine (ev_i ((h_i M_7 u_4 2) = 1) (i1 := 32) (l1 := [some (.inr a0), some (.inl i1), some (.inl i2), some (.inl i3), some (.inr u_2), some (.inr u_4), some (.inr u_8), none]) (s1 := []) (M1 := M_7) (i2 := 28) (l2 := [some (.inr a0), some (.inl i1), some (.inl i2), some (.inl i3), some (.inr u_2), some (.inr u_4), some (.inr u_8), none]) (s2 := []) (M2 := M_7) c_48 rfl).trans (t_i ?_ ?_)
          · skip
            refine (ev_ns c_48 1 (ip' := 33) (ls' := [some (.inr a0), some (.inl i1), some (.inl i2), some (.inl i3), some (.inr u_2), some (.inr u_4), some (.inr u_8), none]) (st' := [.inr u_8]) (M' := M_7) rfl).trans ?_
            refine (ev_g (h_k M_7 u_8 = 4) (ip' := 34) (ls' := [some (.inr a0), some (.inl i1), some (.inl i2), some (.inl i3), some (.inr u_2), some (.inr u_4), some (.inr u_8), none]) (st' := [.inl (h_i M_7 u_8 3)]) (M' := M_7) c_48 rfl).trans (t_i ?_ rfl)
            refine (ev_ns c_48 1 (ip' := 35) (ls' := [some (.inr a0), some (.inl i1), some (.inl i2), some (.inl i3), some (.inr u_2), some (.inr u_4), some (.inr u_8), none]) (st' := [.inl 2, .inl (h_i M_7 u_8 3)]) (M' := M_7) rfl).trans ?_
            refine (ev_i ((h_i M_7 u_8 3) = 2) (i1 := 36) (l1 := [some (.inr a0), some (.inl i1), some (.inl i2), some (.inl i3), some (.inr u_2), some (.inr u_4), some (.inr u_8), none]) (s1 := []) (M1 := M_7) (i2 := 40) (l2 := [some (.inr a0), some (.inl i1), some (.inl i2), some (.inl i3), some (.inr u_2), some (.inr u_4), some (.inr u_8), none]) (s2 := []) (M2 := M_7) c_48 rfl).trans (t_i ?_ ?_)
            · skip
              refine (ev_ns c_48 2 (ip' := 38) (ls' := [some (.inr a0), some (.inl i1), some (.inl i2), some (.inl i3), some (.inr u_2), some (.inr u_4), some (.inr u_8), none]) (st' := [.inl 3, .inr a0]) (M' := M_7) rfl).trans ?_
              refine (ev_gI (a_rec M_7 7 [.inr a0, .inl 3] = true ∧ ([] : List mV).length ≤ 8) (as := [.inr a0, .inl 3]) (rr := []) c_48 c_76 rfl).trans (t_i (t_cI ?_) rfl)
              intro v_10 M_9
              exact ev_gd (v_10 = 0 ∨ v_10 = 1) c_48 rfl
            · skip
              refine (ev_ns c_48 2 (ip' := 42) (ls' := [some (.inr a0), some (.inl i1), some (.inl i2), some (.inl i3), some (.inr u_2), some (.inr u_4), some (.inr u_8), none]) (st' := [.inl i3, .inr u_8]) (M' := M_7) rfl).trans ?_
              refine (ev_gR (a_rec M_7 4 [.inr u_8, .inl i3] = true ∧ ([] : List mV).length ≤ 8) (as := [.inr u_8, .inl i3]) (rr := []) c_48 c_24 rfl).trans (t_i (t_cR ?_) rfl)
              intro u_12 M_11
              refine (ev_ns c_48 2 (ip' := 45) (ls' := [some (.inr a0), some (.inl i1), some (.inl i2), some (.inl i3), some (.inr u_2), some (.inr u_4), some (.inr u_8), some (.inr u_12)]) (st' := [.inr u_12]) (M' := M_11) rfl).trans ?_
              refine (ev_gI (a_rec M_11 2 [.inr u_12] = true ∧ ([] : List mV).length ≤ 8) (as := [.inr u_12]) (rr := []) c_48 c_12 rfl).trans (t_i (t_cI ?_) rfl)
              intro v_14 M_13
              refine (ev_i (v_14 = 0) (i1 := 47) (l1 := [some (.inr a0), some (.inl i1), some (.inl i2), some (.inl i3), some (.inr u_2), some (.inr u_4), some (.inr u_8), some (.inr u_12)]) (s1 := []) (M1 := M_13) (i2 := 51) (l2 := [some (.inr a0), some (.inl i1), some (.inl i2), some (.inl i3), some (.inr u_2), some (.inr u_4), some (.inr u_8), some (.inr u_12)]) (s2 := []) (M2 := M_13) c_48 rfl).trans (t_i ?_ ?_)
              · skip
                refine (ev_ns c_48 2 (ip' := 49) (ls' := [some (.inr a0), some (.inl i1), some (.inl i2), some (.inl i3), some (.inr u_2), some (.inr u_4), some (.inr u_8), some (.inr u_12)]) (st' := [.inl 5, .inr a0]) (M' := M_13) rfl).trans ?_
                refine (ev_gI (a_rec M_13 7 [.inr a0, .inl 5] = true ∧ ([] : List mV).length ≤ 8) (as := [.inr a0, .inl 5]) (rr := []) c_48 c_76 rfl).trans (t_i (t_cI ?_) rfl)
                intro v_16 M_15
                exact ev_gd (v_16 = 0 ∨ v_16 = 1) c_48 rfl
              · skip
                refine (ev_ns c_48 3 (ip' := 54) (ls' := [some (.inr a0), some (.inl i1), some (.inl i2), some (.inl i3), some (.inr u_2), some (.inr u_4), some (.inr u_8), some (.inr u_12)]) (st' := [.inr u_4, .inr u_12, .inr u_8]) (M' := M_13) rfl).trans ?_
                refine (ev_gV (a_rec M_13 0 [.inr u_8, .inr u_12, .inr u_4] = true ∧ ([] : List mV).length ≤ 8) (as := [.inr u_8, .inr u_12, .inr u_4]) (rr := []) c_48 c_92 rfl).trans (t_i (t_cV ?_) rfl)
                intro M_17
                refine (ev_ns c_48 1 (ip' := 56) (ls' := [some (.inr a0), some (.inl i1), some (.inl i2), some (.inl i3), some (.inr u_2), some (.inr u_4), some (.inr u_8), some (.inr u_12)]) (st' := [.inr a0]) (M' := M_17) rfl).trans ?_
                refine (ev_gI (a_rec M_17 7 [.inr a0] = true ∧ ([] : List mV).length ≤ 8) (as := [.inr a0]) (rr := []) c_48 c_74 rfl).trans (t_i (t_cI ?_) rfl)
                intro v_19 M_18
                exact ev_gd (v_19 = 0 ∨ v_19 = 1) c_48 rfl
          · skip
            exact rfl
set_option maxRecDepth 20000 in
theorem e_48_15 (a0 : Nat) (i1 : Int32) (i2 : Int32) (i3 : Int32) (a4 : Nat) (a5 : Nat) (M : mM) : ev 48 15 [some (.inr a0), some (.inl i1), some (.inl i2), some (.inl i3), some (.inr a4), some (.inr a5), none, none] [] M = if (a_rec M 7 [.inr a0, .inl 1] = true ∧ ([] : List mV).length ≤ 8) then (c_I (ev 76 0 [some (.inr a0), some (.inl 1)] [] M) fun v_2 M_1 => if v_2 = 0 ∨ v_2 = 1 then some (some (.inl v_2), M_1) else none) else none := by
  refine (ev_ns c_48 2 (ip' := 17) (ls' := [some (.inr a0), some (.inl i1), some (.inl i2), some (.inl i3), some (.inr a4), some (.inr a5), none, none]) (st' := [.inl 1, .inr a0]) (M' := M) rfl).trans ?_
  refine (ev_gI (a_rec M 7 [.inr a0, .inl 1] = true ∧ ([] : List mV).length ≤ 8) (as := [.inr a0, .inl 1]) (rr := []) c_48 c_76 rfl).trans (t_i (t_cI ?_) rfl)
  intro v_2 M_1
  exact ev_gd (v_2 = 0 ∨ v_2 = 1) c_48 rfl
set_option maxRecDepth 20000 in
theorem e_48_28 (a0 : Nat) (i1 : Int32) (i2 : Int32) (i3 : Int32) (a4 : Nat) (a5 : Nat) (a6 : Nat) (M : mM) : ev 48 28 [some (.inr a0), some (.inl i1), some (.inl i2), some (.inl i3), some (.inr a4), some (.inr a5), some (.inr a6), none] [] M = if (a_rec M 7 [.inr a0, .inl 2] = true ∧ ([] : List mV).length ≤ 8) then (c_I (ev 76 0 [some (.inr a0), some (.inl 2)] [] M) fun v_2 M_1 => if v_2 = 0 ∨ v_2 = 1 then some (some (.inl v_2), M_1) else none) else none := by
  refine (ev_ns c_48 2 (ip' := 30) (ls' := [some (.inr a0), some (.inl i1), some (.inl i2), some (.inl i3), some (.inr a4), some (.inr a5), some (.inr a6), none]) (st' := [.inl 2, .inr a0]) (M' := M) rfl).trans ?_
  refine (ev_gI (a_rec M 7 [.inr a0, .inl 2] = true ∧ ([] : List mV).length ≤ 8) (as := [.inr a0, .inl 2]) (rr := []) c_48 c_76 rfl).trans (t_i (t_cI ?_) rfl)
  intro v_2 M_1
  exact ev_gd (v_2 = 0 ∨ v_2 = 1) c_48 rfl
/- 49: GranuleHall.undata(II)I -/
set_option maxRecDepth 20000 in
theorem e_49_0 (a0 : Nat) (i1 : Int32) (i2 : Int32) (M : mM) : ev 49 0 [some (.inr a0), some (.inl i1), some (.inl i2), none, none, none, none] [] M = if (a_rec M 7 [.inr a0, .inl i1] = true ∧ ([] : List mV).length ≤ 8) then (c_R (ev 79 0 [some (.inr a0), some (.inl i1)] [] M) fun u_2 M_1 => if u_2 = 0 then (ev 49 9 [some (.inr a0), some (.inl i1), some (.inl i2), some (.inr u_2), none, none, none] [] M_1) else (if (a_rec M_1 0 [.inl i2] = true ∧ ([] : List mV).length ≤ 8) then (c_I (ev 84 0 [some (.inl i2)] [] M_1) fun v_4 M_3 => if v_4 = 0 then (ev 49 9 [some (.inr a0), some (.inl i1), some (.inl i2), some (.inr u_2), none, none, none] [] M_3) else (if (a_rec M_3 3 [.inr u_2] = true ∧ ([] : List mV).length ≤ 8) then (c_R (ev 20 0 [some (.inr u_2)] [] M_3) fun u_6 M_5 => if u_6 = 0 then (if (a_rec M_5 7 [.inr a0, .inl 2] = true ∧ ([] : List mV).length ≤ 8) then (c_I (ev 75 0 [some (.inr a0), some (.inl 2)] [] M_5) fun v_8 M_7 => some (some (.inl v_8), M_7)) else none) else (if (a_rec M_5 4 [.inr u_6, .inl i2] = true ∧ ([] : List mV).length ≤ 8) then (c_R (ev 24 0 [some (.inr u_6), some (.inl i2)] [] M_5) fun u_10 M_9 => if h_k M_9 u_10 = 2 then (if (h_r M_9 u_10 3) = 0 then (if (a_rec M_9 7 [.inr a0, .inl 5] = true ∧ ([] : List mV).length ≤ 8) then (c_I (ev 75 0 [some (.inr a0), some (.inl 5)] [] M_9) fun v_12 M_11 => some (some (.inl v_12), M_11)) else none) else (if h_k M_9 u_10 = 2 then (if (h_i M_9 u_10 2) = 1 then (ev 49 44 [some (.inr a0), some (.inl i1), some (.inl i2), some (.inr u_2), some (.inr u_6), some (.inr u_10), some (.inr (h_r M_9 u_10 3))] [.inl 2, .inr u_10] M_9) else (if h_k M_9 u_10 = 2 then (ev 49 44 [some (.inr a0), some (.inl i1), some (.inl i2), some (.inr u_2), some (.inr u_6), some (.inr u_10), some (.inr (h_r M_9 u_10 3))] [.inl (h_i M_9 u_10 2), .inr u_10] M_9) else none)) else none)) else none) else none)) else none)) else none)) else none := by
  refine (ev_ns c_49 2 (ip' := 2) (ls' := [some (.inr a0), some (.inl i1), some (.inl i2), none, none, none, none]) (st' := [.inl i1, .inr a0]) (M' := M) rfl).trans ?_
  refine (ev_gR (a_rec M 7 [.inr a0, .inl i1] = true ∧ ([] : List mV).length ≤ 8) (as := [.inr a0, .inl i1]) (rr := []) c_49 c_79 rfl).trans (t_i (t_cR ?_) rfl)
  intro u_2 M_1
  refine (ev_ns c_49 2 (ip' := 5) (ls' := [some (.inr a0), some (.inl i1), some (.inl i2), some (.inr u_2), none, none, none]) (st' := [.inr u_2]) (M' := M_1) rfl).trans ?_
  refine (ev_i (u_2 = 0) (i1 := 9) (l1 := [some (.inr a0), some (.inl i1), some (.inl i2), some (.inr u_2), none, none, none]) (s1 := []) (M1 := M_1) (i2 := 6) (l2 := [some (.inr a0), some (.inl i1), some (.inl i2), some (.inr u_2), none, none, none]) (s2 := []) (M2 := M_1) c_49 rfl).trans (t_i ?_ ?_)
  · skip
    exact rfl
  · skip
    refine (ev_ns c_49 1 (ip' := 7) (ls' := [some (.inr a0), some (.inl i1), some (.inl i2), some (.inr u_2), none, none, none]) (st' := [.inl i2]) (M' := M_1) rfl).trans ?_
    refine (ev_gI (a_rec M_1 0 [.inl i2] = true ∧ ([] : List mV).length ≤ 8) (as := [.inl i2]) (rr := []) c_49 c_84 rfl).trans (t_i (t_cI ?_) rfl)
    intro v_4 M_3
    refine (ev_i (v_4 = 0) (i1 := 9) (l1 := [some (.inr a0), some (.inl i1), some (.inl i2), some (.inr u_2), none, none, none]) (s1 := []) (M1 := M_3) (i2 := 13) (l2 := [some (.inr a0), some (.inl i1), some (.inl i2), some (.inr u_2), none, none, none]) (s2 := []) (M2 := M_3) c_49 rfl).trans (t_i ?_ ?_)
    · skip
      exact rfl
    · skip
      refine (ev_ns c_49 1 (ip' := 14) (ls' := [some (.inr a0), some (.inl i1), some (.inl i2), some (.inr u_2), none, none, none]) (st' := [.inr u_2]) (M' := M_3) rfl).trans ?_
      refine (ev_gR (a_rec M_3 3 [.inr u_2] = true ∧ ([] : List mV).length ≤ 8) (as := [.inr u_2]) (rr := []) c_49 c_20 rfl).trans (t_i (t_cR ?_) rfl)
      intro u_6 M_5
      refine (ev_ns c_49 2 (ip' := 17) (ls' := [some (.inr a0), some (.inl i1), some (.inl i2), some (.inr u_2), some (.inr u_6), none, none]) (st' := [.inr u_6]) (M' := M_5) rfl).trans ?_
      refine (ev_i (u_6 = 0) (i1 := 18) (l1 := [some (.inr a0), some (.inl i1), some (.inl i2), some (.inr u_2), some (.inr u_6), none, none]) (s1 := []) (M1 := M_5) (i2 := 22) (l2 := [some (.inr a0), some (.inl i1), some (.inl i2), some (.inr u_2), some (.inr u_6), none, none]) (s2 := []) (M2 := M_5) c_49 rfl).trans (t_i ?_ ?_)
      · skip
        refine (ev_ns c_49 2 (ip' := 20) (ls' := [some (.inr a0), some (.inl i1), some (.inl i2), some (.inr u_2), some (.inr u_6), none, none]) (st' := [.inl 2, .inr a0]) (M' := M_5) rfl).trans ?_
        refine (ev_gI (a_rec M_5 7 [.inr a0, .inl 2] = true ∧ ([] : List mV).length ≤ 8) (as := [.inr a0, .inl 2]) (rr := []) c_49 c_75 rfl).trans (t_i (t_cI ?_) rfl)
        intro v_8 M_7
        exact ev_d c_49 rfl
      · skip
        refine (ev_ns c_49 2 (ip' := 24) (ls' := [some (.inr a0), some (.inl i1), some (.inl i2), some (.inr u_2), some (.inr u_6), none, none]) (st' := [.inl i2, .inr u_6]) (M' := M_5) rfl).trans ?_
        refine (ev_gR (a_rec M_5 4 [.inr u_6, .inl i2] = true ∧ ([] : List mV).length ≤ 8) (as := [.inr u_6, .inl i2]) (rr := []) c_49 c_24 rfl).trans (t_i (t_cR ?_) rfl)
        intro u_10 M_9
        refine (ev_ns c_49 2 (ip' := 27) (ls' := [some (.inr a0), some (.inl i1), some (.inl i2), some (.inr u_2), some (.inr u_6), some (.inr u_10), none]) (st' := [.inr u_10]) (M' := M_9) rfl).trans ?_
        refine (ev_g (h_k M_9 u_10 = 2) (ip' := 28) (ls' := [some (.inr a0), some (.inl i1), some (.inl i2), some (.inr u_2), some (.inr u_6), some (.inr u_10), none]) (st' := [.inr (h_r M_9 u_10 3)]) (M' := M_9) c_49 rfl).trans (t_i ?_ rfl)
        refine (ev_ns c_49 2 (ip' := 30) (ls' := [some (.inr a0), some (.inl i1), some (.inl i2), some (.inr u_2), some (.inr u_6), some (.inr u_10), some (.inr (h_r M_9 u_10 3))]) (st' := [.inr (h_r M_9 u_10 3)]) (M' := M_9) rfl).trans ?_
        refine (ev_i ((h_r M_9 u_10 3) = 0) (i1 := 31) (l1 := [some (.inr a0), some (.inl i1), some (.inl i2), some (.inr u_2), some (.inr u_6), some (.inr u_10), some (.inr (h_r M_9 u_10 3))]) (s1 := []) (M1 := M_9) (i2 := 35) (l2 := [some (.inr a0), some (.inl i1), some (.inl i2), some (.inr u_2), some (.inr u_6), some (.inr u_10), some (.inr (h_r M_9 u_10 3))]) (s2 := []) (M2 := M_9) c_49 rfl).trans (t_i ?_ ?_)
        · skip
          refine (ev_ns c_49 2 (ip' := 33) (ls' := [some (.inr a0), some (.inl i1), some (.inl i2), some (.inr u_2), some (.inr u_6), some (.inr u_10), some (.inr (h_r M_9 u_10 3))]) (st' := [.inl 5, .inr a0]) (M' := M_9) rfl).trans ?_
          refine (ev_gI (a_rec M_9 7 [.inr a0, .inl 5] = true ∧ ([] : List mV).length ≤ 8) (as := [.inr a0, .inl 5]) (rr := []) c_49 c_75 rfl).trans (t_i (t_cI ?_) rfl)
          intro v_12 M_11
          exact ev_d c_49 rfl
        · skip
          refine (ev_ns c_49 2 (ip' := 37) (ls' := [some (.inr a0), some (.inl i1), some (.inl i2), some (.inr u_2), some (.inr u_6), some (.inr u_10), some (.inr (h_r M_9 u_10 3))]) (st' := [.inr u_10, .inr u_10]) (M' := M_9) rfl).trans ?_
          refine (ev_g (h_k M_9 u_10 = 2) (ip' := 38) (ls' := [some (.inr a0), some (.inl i1), some (.inl i2), some (.inr u_2), some (.inr u_6), some (.inr u_10), some (.inr (h_r M_9 u_10 3))]) (st' := [.inl (h_i M_9 u_10 2), .inr u_10]) (M' := M_9) c_49 rfl).trans (t_i ?_ rfl)
          refine (ev_ns c_49 1 (ip' := 39) (ls' := [some (.inr a0), some (.inl i1), some (.inl i2), some (.inr u_2), some (.inr u_6), some (.inr u_10), some (.inr (h_r M_9 u_10 3))]) (st' := [.inl 1, .inl (h_i M_9 u_10 2), .inr u_10]) (M' := M_9) rfl).trans ?_
          refine (ev_i ((h_i M_9 u_10 2) = 1) (i1 := 40) (l1 := [some (.inr a0), some (.inl i1), some (.inl i2), some (.inr u_2), some (.inr u_6), some (.inr u_10), some (.inr (h_r M_9 u_10 3))]) (s1 := [.inr u_10]) (M1 := M_9) (i2 := 42) (l2 := [some (.inr a0), some (.inl i1), some (.inl i2), some (.inr u_2), some (.inr u_6), some (.inr u_10), some (.inr (h_r M_9 u_10 3))]) (s2 := [.inr u_10]) (M2 := M_9) c_49 rfl).trans (t_i ?_ ?_)
          · skip
            exact ev_ns c_49 2 (ip' := 44) (ls' := [some (.inr a0), some (.inl i1), some (.inl i2), some (.inr u_2), some (.inr u_6), some (.inr u_10), some (.inr (h_r M_9 u_10 3))]) (st' := [.inl 2, .inr u_10]) (M' := M_9) rfl
          · skip
            refine (ev_ns c_49 1 (ip' := 43) (ls' := [some (.inr a0), some (.inl i1), some (.inl i2), some (.inr u_2), some (.inr u_6), some (.inr u_10), some (.inr (h_r M_9 u_10 3))]) (st' := [.inr u_10, .inr u_10]) (M' := M_9) rfl).trans ?_
            refine (ev_g (h_k M_9 u_10 = 2) (ip' := 44) (ls' := [some (.inr a0), some (.inl i1), some (.inl i2), some (.inr u_2), some (.inr u_6), some (.inr u_10), some (.inr (h_r M_9 u_10 3))]) (st' := [.inl (h_i M_9 u_10 2), .inr u_10]) (M' := M_9) c_49 rfl).trans (t_i ?_ rfl)
            exact rfl
set_option maxRecDepth 20000 in
theorem e_49_9 (a0 : Nat) (i1 : Int32) (i2 : Int32) (a3 : Nat) (M : mM) : ev 49 9 [some (.inr a0), some (.inl i1), some (.inl i2), some (.inr a3), none, none, none] [] M = if (a_rec M 7 [.inr a0, .inl 1] = true ∧ ([] : List mV).length ≤ 8) then (c_I (ev 75 0 [some (.inr a0), some (.inl 1)] [] M) fun v_2 M_1 => some (some (.inl v_2), M_1)) else none := by
  refine (ev_ns c_49 2 (ip' := 11) (ls' := [some (.inr a0), some (.inl i1), some (.inl i2), some (.inr a3), none, none, none]) (st' := [.inl 1, .inr a0]) (M' := M) rfl).trans ?_
  refine (ev_gI (a_rec M 7 [.inr a0, .inl 1] = true ∧ ([] : List mV).length ≤ 8) (as := [.inr a0, .inl 1]) (rr := []) c_49 c_75 rfl).trans (t_i (t_cI ?_) rfl)
  intro v_2 M_1
  exact ev_d c_49 rfl
set_option maxRecDepth 20000 in
theorem e_49_44 (a0 : Nat) (i1 : Int32) (i2 : Int32) (a3 : Nat) (a4 : Nat) (a5 : Nat) (a6 : Nat) (t0 : Nat) (s1 : Int32) (M : mM) : ev 49 44 [some (.inr a0), some (.inl i1), some (.inl i2), some (.inr a3), some (.inr a4), some (.inr a5), some (.inr a6)] [.inl s1, .inr t0] M = if (a_rec M 2 [.inr t0, .inl s1] = true ∧ ([] : List mV).length ≤ 8) then (c_V (ev 15 0 [some (.inr t0), some (.inl s1)] [] M) fun M_1 => if (a_rec M_1 3 [.inr a6, .inl 1, .inr 0, .inl (-1)] = true ∧ ([] : List mV).length ≤ 8) then (c_V (ev 17 0 [some (.inr a6), some (.inl 1), some (.inr 0), some (.inl (-1))] [] M_1) fun M_2 => if h_k M_2 a4 = 4 then (if h_k M_2 a4 = 4 then (if h_k (h_si M_2 a4 7 ((h_i M_2 a4 7) - 1)) a6 = 3 then (if (a_rec (h_si M_2 a4 7 ((h_i M_2 a4 7) - 1)) 7 [.inr a0, .inl (h_i (h_si M_2 a4 7 ((h_i M_2 a4 7) - 1)) a6 0)] = true ∧ ([] : List mV).length ≤ 8) then (c_I (ev 73 0 [some (.inr a0), some (.inl (h_i (h_si M_2 a4 7 ((h_i M_2 a4 7) - 1)) a6 0))] [] (h_si M_2 a4 7 ((h_i M_2 a4 7) - 1))) fun v_4 M_3 => some (some (.inl v_4), M_3)) else none) else none) else none) else none) else none) else none := by
  refine (ev_gV (a_rec M 2 [.inr t0, .inl s1] = true ∧ ([] : List mV).length ≤ 8) (as := [.inr t0, .inl s1]) (rr := []) c_49 c_15 rfl).trans (t_i (t_cV ?_) rfl)
  intro M_1
  refine (ev_ns c_49 4 (ip' := 49) (ls' := [some (.inr a0), some (.inl i1), some (.inl i2), some (.inr a3), some (.inr a4), some (.inr a5), some (.inr a6)]) (st' := [.inl (-1), .inr 0, .inl 1, .inr a6]) (M' := M_1) rfl).trans ?_
  refine (ev_gV (a_rec M_1 3 [.inr a6, .inl 1, .inr 0, .inl (-1)] = true ∧ ([] : List mV).length ≤ 8) (as := [.inr a6, .inl 1, .inr 0, .inl (-1)]) (rr := []) c_49 c_17 rfl).trans (t_i (t_cV ?_) rfl)
  intro M_2
  refine (ev_ns c_49 2 (ip' := 52) (ls' := [some (.inr a0), some (.inl i1), some (.inl i2), some (.inr a3), some (.inr a4), some (.inr a5), some (.inr a6)]) (st' := [.inr a4, .inr a4]) (M' := M_2) rfl).trans ?_
  refine (ev_g (h_k M_2 a4 = 4) (ip' := 53) (ls' := [some (.inr a0), some (.inl i1), some (.inl i2), some (.inr a3), some (.inr a4), some (.inr a5), some (.inr a6)]) (st' := [.inl (h_i M_2 a4 7), .inr a4]) (M' := M_2) c_49 rfl).trans (t_i ?_ rfl)
  refine (ev_ns c_49 2 (ip' := 55) (ls' := [some (.inr a0), some (.inl i1), some (.inl i2), some (.inr a3), some (.inr a4), some (.inr a5), some (.inr a6)]) (st' := [.inl ((h_i M_2 a4 7) - 1), .inr a4]) (M' := M_2) rfl).trans ?_
  refine (ev_g (h_k M_2 a4 = 4) (ip' := 56) (ls' := [some (.inr a0), some (.inl i1), some (.inl i2), some (.inr a3), some (.inr a4), some (.inr a5), some (.inr a6)]) (st' := []) (M' := h_si M_2 a4 7 ((h_i M_2 a4 7) - 1)) c_49 rfl).trans (t_i ?_ rfl)
  refine (ev_ns c_49 2 (ip' := 58) (ls' := [some (.inr a0), some (.inl i1), some (.inl i2), some (.inr a3), some (.inr a4), some (.inr a5), some (.inr a6)]) (st' := [.inr a6, .inr a0]) (M' := h_si M_2 a4 7 ((h_i M_2 a4 7) - 1)) rfl).trans ?_
  refine (ev_g (h_k (h_si M_2 a4 7 ((h_i M_2 a4 7) - 1)) a6 = 3) (ip' := 59) (ls' := [some (.inr a0), some (.inl i1), some (.inl i2), some (.inr a3), some (.inr a4), some (.inr a5), some (.inr a6)]) (st' := [.inl (h_i (h_si M_2 a4 7 ((h_i M_2 a4 7) - 1)) a6 0), .inr a0]) (M' := h_si M_2 a4 7 ((h_i M_2 a4 7) - 1)) c_49 rfl).trans (t_i ?_ rfl)
  refine (ev_gI (a_rec (h_si M_2 a4 7 ((h_i M_2 a4 7) - 1)) 7 [.inr a0, .inl (h_i (h_si M_2 a4 7 ((h_i M_2 a4 7) - 1)) a6 0)] = true ∧ ([] : List mV).length ≤ 8) (as := [.inr a0, .inl (h_i (h_si M_2 a4 7 ((h_i M_2 a4 7) - 1)) a6 0)]) (rr := []) c_49 c_73 rfl).trans (t_i (t_cI ?_) rfl)
  intro v_4 M_3
  exact ev_d c_49 rfl
/- 50: GranuleHall.map(III)Z -/
set_option maxRecDepth 20000 in
theorem e_50_0 (a0 : Nat) (i1 : Int32) (i2 : Int32) (i3 : Int32) (M : mM) : ev 50 0 [some (.inr a0), some (.inl i1), some (.inl i2), some (.inl i3), none, none, none, none] [] M = if (a_rec M 7 [.inr a0, .inl i1] = true ∧ ([] : List mV).length ≤ 8) then (c_R (ev 79 0 [some (.inr a0), some (.inl i1)] [] M) fun u_2 M_1 => if (a_rec M_1 7 [.inr a0, .inl i3] = true ∧ ([] : List mV).length ≤ 8) then (c_R (ev 79 0 [some (.inr a0), some (.inl i3)] [] M_1) fun u_4 M_3 => if u_2 = 0 then (ev 50 15 [some (.inr a0), some (.inl i1), some (.inl i2), some (.inl i3), some (.inr u_2), some (.inr u_4), none, none] [] M_3) else (if u_4 = 0 then (ev 50 15 [some (.inr a0), some (.inl i1), some (.inl i2), some (.inl i3), some (.inr u_2), some (.inr u_4), none, none] [] M_3) else (if (a_rec M_3 0 [.inl i2] = true ∧ ([] : List mV).length ≤ 8) then (c_I (ev 85 0 [some (.inl i2)] [] M_3) fun v_6 M_5 => if v_6 = 0 then (ev 50 15 [some (.inr a0), some (.inl i1), some (.inl i2), some (.inl i3), some (.inr u_2), some (.inr u_4), none, none] [] M_5) else (if (a_rec M_5 3 [.inr u_2] = true ∧ ([] : List mV).length ≤ 8) then (c_R (ev 20 0 [some (.inr u_2)] [] M_5) fun u_8 M_7 => if u_8 = 0 then (if (a_rec M_7 7 [.inr a0, .inl 2] = true ∧ ([] : List mV).length ≤ 8) then (c_I (ev 76 0 [some (.inr a0), some (.inl 2)] [] M_7) fun v_10 M_9 => if v_10 = 0 ∨ v_10 = 1 then some (some (.inl v_10), M_9) else none) else none) else (if (a_rec M_7 4 [.inr u_8, .inl i2] = true ∧ ([] : List mV).length ≤ 8) then (c_R (ev 24 0 [some (.inr u_8), some (.inl i2)] [] M_7) fun u_12 M_11 => if (a_rec M_11 2 [.inr u_12] = true ∧ ([] : List mV).length ≤ 8) then (c_I (ev 12 0 [some (.inr u_12)] [] M_11) fun v_14 M_13 => if v_14 = 0 then (if (a_rec M_13 7 [.inr a0, .inl 5] = true ∧ ([] : List mV).length ≤ 8) then (c_I (ev 76 0 [some (.inr a0), some (.inl 5)] [] M_13) fun v_16 M_15 => if v_16 = 0 ∨ v_16 = 1 then some (some (.inl v_16), M_15) else none) else none) else (if h_k M_13 u_12 = 2 then (if (a_rec (h_sr M_13 u_12 3 u_4) 7 [.inr a0] = true ∧ ([] : List mV).length ≤ 8) then (c_I (ev 74 0 [some (.inr a0)] [] (h_sr M_13 u_12 3 u_4)) fun v_18 M_17 => if v_18 = 0 ∨ v_18 = 1 then some (some (.inl v_18), M_17) else none) else none) else none)) else none) else none)) else none)) else none))) else none) else none := by
  refine (ev_ns c_50 2 (ip' := 2) (ls' := [some (.inr a0), some (.inl i1), some (.inl i2), some (.inl i3), none, none, none, none]) (st' := [.inl i1, .inr a0]) (M' := M) rfl).trans ?_
  refine (ev_gR (a_rec M 7 [.inr a0, .inl i1] = true ∧ ([] : List mV).length ≤ 8) (as := [.inr a0, .inl i1]) (rr := []) c_50 c_79 rfl).trans (t_i (t_cR ?_) rfl)
  intro u_2 M_1
  refine (ev_ns c_50 3 (ip' := 6) (ls' := [some (.inr a0), some (.inl i1), some (.inl i2), some (.inl i3), some (.inr u_2), none, none, none]) (st' := [.inl i3, .inr a0]) (M' := M_1) rfl).trans ?_
  refine (ev_gR (a_rec M_1 7 [.inr a0, .inl i3] = true ∧ ([] : List mV).length ≤ 8) (as := [.inr a0, .inl i3]) (rr := []) c_50 c_79 rfl).trans (t_i (t_cR ?_) rfl)
  intro u_4 M_3
  refine (ev_ns c_50 2 (ip' := 9) (ls' := [some (.inr a0), some (.inl i1), some (.inl i2), some (.inl i3), some (.inr u_2), some (.inr u_4), none, none]) (st' := [.inr u_2]) (M' := M_3) rfl).trans ?_
  refine (ev_i (u_2 = 0) (i1 := 15) (l1 := [some (.inr a0), some (.inl i1), some (.inl i2), some (.inl i3), some (.inr u_2), some (.inr u_4), none, none]) (s1 := []) (M1 := M_3) (i2 := 10) (l2 := [some (.inr a0), some (.inl i1), some (.inl i2), some (.inl i3), some (.inr u_2), some (.inr u_4), none, none]) (s2 := []) (M2 := M_3) c_50 rfl).trans (t_i ?_ ?_)
  · skip
    exact rfl
  · skip
    refine (ev_ns c_50 1 (ip' := 11) (ls' := [some (.inr a0), some (.inl i1), some (.inl i2), some (.inl i3), some (.inr u_2), some (.inr u_4), none, none]) (st' := [.inr u_4]) (M' := M_3) rfl).trans ?_
    refine (ev_i (u_4 = 0) (i1 := 15) (l1 := [some (.inr a0), some (.inl i1), some (.inl i2), some (.inl i3), some (.inr u_2), some (.inr u_4), none, none]) (s1 := []) (M1 := M_3) (i2 := 12) (l2 := [some (.inr a0), some (.inl i1), some (.inl i2), some (.inl i3), some (.inr u_2), some (.inr u_4), none, none]) (s2 := []) (M2 := M_3) c_50 rfl).trans (t_i ?_ ?_)
    · skip
      exact rfl
    · skip
      refine (ev_ns c_50 1 (ip' := 13) (ls' := [some (.inr a0), some (.inl i1), some (.inl i2), some (.inl i3), some (.inr u_2), some (.inr u_4), none, none]) (st' := [.inl i2]) (M' := M_3) rfl).trans ?_
      refine (ev_gI (a_rec M_3 0 [.inl i2] = true ∧ ([] : List mV).length ≤ 8) (as := [.inl i2]) (rr := []) c_50 c_85 rfl).trans (t_i (t_cI ?_) rfl)
      intro v_6 M_5
      refine (ev_i (v_6 = 0) (i1 := 15) (l1 := [some (.inr a0), some (.inl i1), some (.inl i2), some (.inl i3), some (.inr u_2), some (.inr u_4), none, none]) (s1 := []) (M1 := M_5) (i2 := 19) (l2 := [some (.inr a0), some (.inl i1), some (.inl i2), some (.inl i3), some (.inr u_2), some (.inr u_4), none, none]) (s2 := []) (M2 := M_5) c_50 rfl).trans (t_i ?_ ?_)
      · skip
        exact rfl
      · skip
        refine (ev_ns c_50 1 (ip' := 20) (ls' := [some (.inr a0), some (.inl i1), some (.inl i2), some (.inl i3), some (.inr u_2), some (.inr u_4), none, none]) (st' := [.inr u_2]) (M' := M_5) rfl).trans ?_
        refine (ev_gR (a_rec M_5 3 [.inr u_2] = true ∧ ([] : List mV).length ≤ 8) (as := [.inr u_2]) (rr := []) c_50 c_20 rfl).trans (t_i (t_cR ?_) rfl)
        intro u_8 M_7
        refine (ev_ns c_50 2 (ip' := 23) (ls' := [some (.inr a0), some (.inl i1), some (.inl i2), some (.inl i3), some (.inr u_2), some (.inr u_4), some (.inr u_8), none]) (st' := [.inr u_8]) (M' := M_7) rfl).trans ?_
        refine (ev_i (u_8 = 0) (i1 := 24) (l1 := [some (.inr a0), some (.inl i1), some (.inl i2), some (.inl i3), some (.inr u_2), some (.inr u_4), some (.inr u_8), none]) (s1 := []) (M1 := M_7) (i2 := 28) (l2 := [some (.inr a0), some (.inl i1), some (.inl i2), some (.inl i3), some (.inr u_2), some (.inr u_4), some (.inr u_8), none]) (s2 := []) (M2 := M_7) c_50 rfl).trans (t_i ?_ ?_)
        · skip
          refine (ev_ns c_50 2 (ip' := 26) (ls' := [some (.inr a0), some (.inl i1), some (.inl i2), some (.inl i3), some (.inr u_2), some (.inr u_4), some (.inr u_8), none]) (st' := [.inl 2, .inr a0]) (M' := M_7) rfl).trans ?_
          refine (ev_gI (a_rec M_7 7 [.inr a0, .inl 2] = true ∧ ([] : List mV).length ≤ 8) (as := [.inr a0, .inl 2]) (rr := []) c_50 c_76 rfl).trans (t_i (t_cI ?_) rfl)
          intro v_10 M_9
          exact ev_gd (v_10 = 0 ∨ v_10 = 1) c_50 rfl
        · skip
          refine (ev_ns c_50 2 (ip' := 30) (ls' := [some (.inr a0), some (.inl i1), some (.inl i2), some (.inl i3), some (.inr u_2), some (.inr u_4), some (.inr u_8), none]) (st' := [.inl i2, .inr u_8]) (M' := M_7) rfl).trans ?_
          refine (ev_gR (a_rec M_7 4 [.inr u_8, .inl i2] = true ∧ ([] : List mV).length ≤ 8) (as := [.inr u_8, .inl i2]) (rr := []) c_50 c_24 rfl).trans (t_i (t_cR ?_) rfl)
          intro u_12 M_11
          refine (ev_ns c_50 2 (ip' := 33) (ls' := [some (.inr a0), some (.inl i1), some (.inl i2), some (.inl i3), some (.inr u_2), some (.inr u_4), some (.inr u_8), some (.inr u_12)]) (st' := [.inr u_12]) (M' := M_11) rfl).trans ?_
          refine (ev_gI (a_rec M_11 2 [.inr u_12] = true ∧ ([] : List mV).length ≤ 8) (as := [.inr u_12]) (rr := []) c_50 c_12 rfl).trans (t_i (t_cI ?_) rfl)
          intro v_14 M_13
          refine (ev_i (v_14 = 0) (i1 := 35) (l1 := [some (.inr a0), some (.inl i1), some (.inl i2), some (.inl i3), some (.inr u_2), some (.inr u_4), some (.inr u_8), some (.inr u_12)]) (s1 := []) (M1 := M_13) (i2 := 39) (l2 := [some (.inr a0), some (.inl i1), some (.inl i2), some (.inl i3), some (.inr u_2), some (.inr u_4), some (.inr u_8), some (.inr u_12)]) (s2 := []) (M2 := M_13) c_50 rfl).trans (t_i ?_ ?_)
          · skip
            refine (ev_ns c_50 2 (ip' := 37) (ls' := [some (.inr a0), some (.inl i1), some (.inl i2), some (.inl i3), some (.inr u_2), some (.inr u_4), some (.inr u_8), some (.inr u_12)]) (st' := [.inl 5, .inr a0]) (M' := M_13) rfl).trans ?_
            refine (ev_gI (a_rec M_13 7 [.inr a0, .inl 5] = true ∧ ([] : List mV).length ≤ 8) (as := [.inr a0, .inl 5]) (rr := []) c_50 c_76 rfl).trans (t_i (t_cI ?_) rfl)
            intro v_16 M_15
            exact ev_gd (v_16 = 0 ∨ v_16 = 1) c_50 rfl
          · skip
            refine (ev_ns c_50 2 (ip' := 41) (ls' := [some (.inr a0), some (.inl i1), some (.inl i2), some (.inl i3), some (.inr u_2), some (.inr u_4), some (.inr u_8), some (.inr u_12)]) (st' := [.inr u_4, .inr u_12]) (M' := M_13) rfl).trans ?_
            refine (ev_g (h_k M_13 u_12 = 2) (ip' := 42) (ls' := [some (.inr a0), some (.inl i1), some (.inl i2), some (.inl i3), some (.inr u_2), some (.inr u_4), some (.inr u_8), some (.inr u_12)]) (st' := []) (M' := h_sr M_13 u_12 3 u_4) c_50 rfl).trans (t_i ?_ rfl)
            refine (ev_ns c_50 1 (ip' := 43) (ls' := [some (.inr a0), some (.inl i1), some (.inl i2), some (.inl i3), some (.inr u_2), some (.inr u_4), some (.inr u_8), some (.inr u_12)]) (st' := [.inr a0]) (M' := h_sr M_13 u_12 3 u_4) rfl).trans ?_
            refine (ev_gI (a_rec (h_sr M_13 u_12 3 u_4) 7 [.inr a0] = true ∧ ([] : List mV).length ≤ 8) (as := [.inr a0]) (rr := []) c_50 c_74 rfl).trans (t_i (t_cI ?_) rfl)
            intro v_18 M_17
            exact ev_gd (v_18 = 0 ∨ v_18 = 1) c_50 rfl
set_option maxRecDepth 20000 in
theorem e_50_15 (a0 : Nat) (i1 : Int32) (i2 : Int32) (i3 : Int32) (a4 : Nat) (a5 : Nat) (M : mM) : ev 50 15 [some (.inr a0), some (.inl i1), some (.inl i2), some (.inl i3), some (.inr a4), some (.inr a5), none, none] [] M = if (a_rec M 7 [.inr a0, .inl 1] = true ∧ ([] : List mV).length ≤ 8) then (c_I (ev 76 0 [some (.inr a0), some (.inl 1)] [] M) fun v_2 M_1 => if v_2 = 0 ∨ v_2 = 1 then some (some (.inl v_2), M_1) else none) else none := by
  refine (ev_ns c_50 2 (ip' := 17) (ls' := [some (.inr a0), some (.inl i1), some (.inl i2), some (.inl i3), some (.inr a4), some (.inr a5), none, none]) (st' := [.inl 1, .inr a0]) (M' := M) rfl).trans ?_
  refine (ev_gI (a_rec M 7 [.inr a0, .inl 1] = true ∧ ([] : List mV).length ≤ 8) (as := [.inr a0, .inl 1]) (rr := []) c_50 c_76 rfl).trans (t_i (t_cI ?_) rfl)
  intro v_2 M_1
  exact ev_gd (v_2 = 0 ∨ v_2 = 1) c_50 rfl
/- 51: GranuleHall.unmap(II)I -/
set_option maxRecDepth 20000 in
theorem e_51_0 (a0 : Nat) (i1 : Int32) (i2 : Int32) (M : mM) : ev 51 0 [some (.inr a0), some (.inl i1), some (.inl i2), none, none, none, none] [] M = if (a_rec M 7 [.inr a0, .inl i1] = true ∧ ([] : List mV).length ≤ 8) then (c_R (ev 79 0 [some (.inr a0), some (.inl i1)] [] M) fun u_2 M_1 => if u_2 = 0 then (ev 51 9 [some (.inr a0), some (.inl i1), some (.inl i2), some (.inr u_2), none, none, none] [] M_1) else (if (a_rec M_1 0 [.inl i2] = true ∧ ([] : List mV).length ≤ 8) then (c_I (ev 85 0 [some (.inl i2)] [] M_1) fun v_4 M_3 => if v_4 = 0 then (ev 51 9 [some (.inr a0), some (.inl i1), some (.inl i2), some (.inr u_2), none, none, none] [] M_3) else (if (a_rec M_3 3 [.inr u_2] = true ∧ ([] : List mV).length ≤ 8) then (c_R (ev 20 0 [some (.inr u_2)] [] M_3) fun u_6 M_5 => if u_6 = 0 then (if (a_rec M_5 7 [.inr a0, .inl 2] = true ∧ ([] : List mV).length ≤ 8) then (c_I (ev 75 0 [some (.inr a0), some (.inl 2)] [] M_5) fun v_8 M_7 => some (some (.inl v_8), M_7)) else none) else (if (a_rec M_5 4 [.inr u_6, .inl i2] = true ∧ ([] : List mV).length ≤ 8) then (c_R (ev 24 0 [some (.inr u_6), some (.inl i2)] [] M_5) fun u_10 M_9 => if h_k M_9 u_10 = 2 then (if (h_r M_9 u_10 3) = 0 then (if (a_rec M_9 7 [.inr a0, .inl 5] = true ∧ ([] : List mV).length ≤ 8) then (c_I (ev 75 0 [some (.inr a0), some (.inl 5)] [] M_9) fun v_12 M_11 => some (some (.inl v_12), M_11)) else none) else (if (a_rec M_9 2 [.inr u_10, .inl 0] = true ∧ ([] : List mV).length ≤ 8) then (c_V (ev 15 0 [some (.inr u_10), some (.inl 0)] [] M_9) fun M_13 => if h_k M_13 (h_r M_9 u_10 3) = 3 then (if (a_rec M_13 7 [.inr a0, .inl (h_i M_13 (h_r M_9 u_10 3) 0)] = true ∧ ([] : List mV).length ≤ 8) then (c_I (ev 73 0 [some (.inr a0), some (.inl (h_i M_13 (h_r M_9 u_10 3) 0))] [] M_13) fun v_15 M_14 => some (some (.inl v_15), M_14)) else none) else none) else none)) else none) else none)) else none)) else none)) else none := by
  refine (ev_ns c_51 2 (ip' := 2) (ls' := [some (.inr a0), some (.inl i1), some (.inl i2), none, none, none, none]) (st' := [.inl i1, .inr a0]) (M' := M) rfl).trans ?_
  refine (ev_gR (a_rec M 7 [.inr a0, .inl i1] = true ∧ ([] : List mV).length ≤ 8) (as := [.inr a0, .inl i1]) (rr := []) c_51 c_79 rfl).trans (t_i (t_cR ?_) rfl)
  intro u_2 M_1
  refine (ev_ns c_51 2 (ip' := 5) (ls' := [some (.inr a0), some (.inl i1), some (.inl i2), some (.inr u_2), none, none, none]) (st' := [.inr u_2]) (M' := M_1) rfl).trans ?_
  refine (ev_i (u_2 = 0) (i1 := 9) (l1 := [some (.inr a0), some (.inl i1), some (.inl i2), some (.inr u_2), none, none, none]) (s1 := []) (M1 := M_1) (i2 := 6) (l2 := [some (.inr a0), some (.inl i1), some (.inl i2), some (.inr u_2), none, none, none]) (s2 := []) (M2 := M_1) c_51 rfl).trans (t_i ?_ ?_)
  · skip
    exact rfl
  · skip
    refine (ev_ns c_51 1 (ip' := 7) (ls' := [some (.inr a0), some (.inl i1), some (.inl i2), some (.inr u_2), none, none, none]) (st' := [.inl i2]) (M' := M_1) rfl).trans ?_
    refine (ev_gI (a_rec M_1 0 [.inl i2] = true ∧ ([] : List mV).length ≤ 8) (as := [.inl i2]) (rr := []) c_51 c_85 rfl).trans (t_i (t_cI ?_) rfl)
    intro v_4 M_3
    refine (ev_i (v_4 = 0) (i1 := 9) (l1 := [some (.inr a0), some (.inl i1), some (.inl i2), some (.inr u_2), none, none, none]) (s1 := []) (M1 := M_3) (i2 := 13) (l2 := [some (.inr a0), some (.inl i1), some (.inl i2), some (.inr u_2), none, none, none]) (s2 := []) (M2 := M_3) c_51 rfl).trans (t_i ?_ ?_)
    · skip
      exact rfl
    · skip
      refine (ev_ns c_51 1 (ip' := 14) (ls' := [some (.inr a0), some (.inl i1), some (.inl i2), some (.inr u_2), none, none, none]) (st' := [.inr u_2]) (M' := M_3) rfl).trans ?_
      refine (ev_gR (a_rec M_3 3 [.inr u_2] = true ∧ ([] : List mV).length ≤ 8) (as := [.inr u_2]) (rr := []) c_51 c_20 rfl).trans (t_i (t_cR ?_) rfl)
      intro u_6 M_5
      refine (ev_ns c_51 2 (ip' := 17) (ls' := [some (.inr a0), some (.inl i1), some (.inl i2), some (.inr u_2), some (.inr u_6), none, none]) (st' := [.inr u_6]) (M' := M_5) rfl).trans ?_
      refine (ev_i (u_6 = 0) (i1 := 18) (l1 := [some (.inr a0), some (.inl i1), some (.inl i2), some (.inr u_2), some (.inr u_6), none, none]) (s1 := []) (M1 := M_5) (i2 := 22) (l2 := [some (.inr a0), some (.inl i1), some (.inl i2), some (.inr u_2), some (.inr u_6), none, none]) (s2 := []) (M2 := M_5) c_51 rfl).trans (t_i ?_ ?_)
      · skip
        refine (ev_ns c_51 2 (ip' := 20) (ls' := [some (.inr a0), some (.inl i1), some (.inl i2), some (.inr u_2), some (.inr u_6), none, none]) (st' := [.inl 2, .inr a0]) (M' := M_5) rfl).trans ?_
        refine (ev_gI (a_rec M_5 7 [.inr a0, .inl 2] = true ∧ ([] : List mV).length ≤ 8) (as := [.inr a0, .inl 2]) (rr := []) c_51 c_75 rfl).trans (t_i (t_cI ?_) rfl)
        intro v_8 M_7
        exact ev_d c_51 rfl
      · skip
        refine (ev_ns c_51 2 (ip' := 24) (ls' := [some (.inr a0), some (.inl i1), some (.inl i2), some (.inr u_2), some (.inr u_6), none, none]) (st' := [.inl i2, .inr u_6]) (M' := M_5) rfl).trans ?_
        refine (ev_gR (a_rec M_5 4 [.inr u_6, .inl i2] = true ∧ ([] : List mV).length ≤ 8) (as := [.inr u_6, .inl i2]) (rr := []) c_51 c_24 rfl).trans (t_i (t_cR ?_) rfl)
        intro u_10 M_9
        refine (ev_ns c_51 2 (ip' := 27) (ls' := [some (.inr a0), some (.inl i1), some (.inl i2), some (.inr u_2), some (.inr u_6), some (.inr u_10), none]) (st' := [.inr u_10]) (M' := M_9) rfl).trans ?_
        refine (ev_g (h_k M_9 u_10 = 2) (ip' := 28) (ls' := [some (.inr a0), some (.inl i1), some (.inl i2), some (.inr u_2), some (.inr u_6), some (.inr u_10), none]) (st' := [.inr (h_r M_9 u_10 3)]) (M' := M_9) c_51 rfl).trans (t_i ?_ rfl)
        refine (ev_ns c_51 2 (ip' := 30) (ls' := [some (.inr a0), some (.inl i1), some (.inl i2), some (.inr u_2), some (.inr u_6), some (.inr u_10), some (.inr (h_r M_9 u_10 3))]) (st' := [.inr (h_r M_9 u_10 3)]) (M' := M_9) rfl).trans ?_
        refine (ev_i ((h_r M_9 u_10 3) = 0) (i1 := 31) (l1 := [some (.inr a0), some (.inl i1), some (.inl i2), some (.inr u_2), some (.inr u_6), some (.inr u_10), some (.inr (h_r M_9 u_10 3))]) (s1 := []) (M1 := M_9) (i2 := 35) (l2 := [some (.inr a0), some (.inl i1), some (.inl i2), some (.inr u_2), some (.inr u_6), some (.inr u_10), some (.inr (h_r M_9 u_10 3))]) (s2 := []) (M2 := M_9) c_51 rfl).trans (t_i ?_ ?_)
        · skip
          refine (ev_ns c_51 2 (ip' := 33) (ls' := [some (.inr a0), some (.inl i1), some (.inl i2), some (.inr u_2), some (.inr u_6), some (.inr u_10), some (.inr (h_r M_9 u_10 3))]) (st' := [.inl 5, .inr a0]) (M' := M_9) rfl).trans ?_
          refine (ev_gI (a_rec M_9 7 [.inr a0, .inl 5] = true ∧ ([] : List mV).length ≤ 8) (as := [.inr a0, .inl 5]) (rr := []) c_51 c_75 rfl).trans (t_i (t_cI ?_) rfl)
          intro v_12 M_11
          exact ev_d c_51 rfl
        · skip
          refine (ev_ns c_51 2 (ip' := 37) (ls' := [some (.inr a0), some (.inl i1), some (.inl i2), some (.inr u_2), some (.inr u_6), some (.inr u_10), some (.inr (h_r M_9 u_10 3))]) (st' := [.inl 0, .inr u_10]) (M' := M_9) rfl).trans ?_
          refine (ev_gV (a_rec M_9 2 [.inr u_10, .inl 0] = true ∧ ([] : List mV).length ≤ 8) (as := [.inr u_10, .inl 0]) (rr := []) c_51 c_15 rfl).trans (t_i (t_cV ?_) rfl)
          intro M_13
          refine (ev_ns c_51 2 (ip' := 40) (ls' := [some (.inr a0), some (.inl i1), some (.inl i2), some (.inr u_2), some (.inr u_6), some (.inr u_10), some (.inr (h_r M_9 u_10 3))]) (st' := [.inr (h_r M_9 u_10 3), .inr a0]) (M' := M_13) rfl).trans ?_
          refine (ev_g (h_k M_13 (h_r M_9 u_10 3) = 3) (ip' := 41) (ls' := [some (.inr a0), some (.inl i1), some (.inl i2), some (.inr u_2), some (.inr u_6), some (.inr u_10), some (.inr (h_r M_9 u_10 3))]) (st' := [.inl (h_i M_13 (h_r M_9 u_10 3) 0), .inr a0]) (M' := M_13) c_51 rfl).trans (t_i ?_ rfl)
          refine (ev_gI (a_rec M_13 7 [.inr a0, .inl (h_i M_13 (h_r M_9 u_10 3) 0)] = true ∧ ([] : List mV).length ≤ 8) (as := [.inr a0, .inl (h_i M_13 (h_r M_9 u_10 3) 0)]) (rr := []) c_51 c_73 rfl).trans (t_i (t_cI ?_) rfl)
          intro v_15 M_14
          exact ev_d c_51 rfl
set_option maxRecDepth 20000 in
theorem e_51_9 (a0 : Nat) (i1 : Int32) (i2 : Int32) (a3 : Nat) (M : mM) : ev 51 9 [some (.inr a0), some (.inl i1), some (.inl i2), some (.inr a3), none, none, none] [] M = if (a_rec M 7 [.inr a0, .inl 1] = true ∧ ([] : List mV).length ≤ 8) then (c_I (ev 75 0 [some (.inr a0), some (.inl 1)] [] M) fun v_2 M_1 => some (some (.inl v_2), M_1)) else none := by
  refine (ev_ns c_51 2 (ip' := 11) (ls' := [some (.inr a0), some (.inl i1), some (.inl i2), some (.inr a3), none, none, none]) (st' := [.inl 1, .inr a0]) (M' := M) rfl).trans ?_
  refine (ev_gI (a_rec M 7 [.inr a0, .inl 1] = true ∧ ([] : List mV).length ≤ 8) (as := [.inr a0, .inl 1]) (rr := []) c_51 c_75 rfl).trans (t_i (t_cI ?_) rfl)
  intro v_2 M_1
  exact ev_d c_51 rfl
/- 52: GranuleHall.enter(II)Z -/
set_option maxRecDepth 20000 in
theorem e_52_0 (a0 : Nat) (i1 : Int32) (i2 : Int32) (M : mM) : ev 52 0 [some (.inr a0), some (.inl i1), some (.inl i2), none, none, none] [] M = if (a_rec M 7 [.inr a0, .inl i1] = true ∧ ([] : List mV).length ≤ 8) then (c_R (ev 79 0 [some (.inr a0), some (.inl i1)] [] M) fun u_2 M_1 => if (a_rec M_1 7 [.inr a0, .inl i2] = true ∧ ([] : List mV).length ≤ 8) then (c_R (ev 79 0 [some (.inr a0), some (.inl i2)] [] M_1) fun u_4 M_3 => if u_2 = 0 then (ev 52 12 [some (.inr a0), some (.inl i1), some (.inl i2), some (.inr u_2), some (.inr u_4), none] [] M_3) else (if u_4 = 0 then (ev 52 12 [some (.inr a0), some (.inl i1), some (.inl i2), some (.inr u_2), some (.inr u_4), none] [] M_3) else (if h_k M_3 u_2 = 3 then (if (h_r M_3 u_2 5) = 0 then (ev 52 24 [some (.inr a0), some (.inl i1), some (.inl i2), some (.inr u_2), some (.inr u_4), some (.inr (h_r M_3 u_2 5))] [] M_3) else (if h_k M_3 u_4 = 3 then (if (h_i M_3 u_4 2) = 0 then (if h_k M_3 (h_r M_3 u_2 5) = 5 then (if h_k M_3 (h_r M_3 (h_r M_3 u_2 5) 1) = 4 then (if (h_i M_3 (h_r M_3 (h_r M_3 u_2 5) 1) 3) = 1 then (if h_k M_3 (h_r M_3 u_2 5) = 5 then (if (h_i M_3 (h_r M_3 u_2 5) 2) = 0 then (ev 52 43 [some (.inr a0), some (.inl i1), some (.inl i2), some (.inr u_2), some (.inr u_4), some (.inr (h_r M_3 u_2 5))] [] M_3) else (if h_k M_3 a0 = 7 then (if (h_r M_3 a0 3) = 0 then (if h_k M_3 (h_r M_3 u_2 5) = 5 then (if (a_rec (h_sr M_3 (h_r M_3 u_2 5) 9 u_4) 0 [.inr (h_r M_3 u_2 5), .inr u_4] = true ∧ ([] : List mV).length ≤ 8) then (c_V (ev 93 0 [some (.inr (h_r M_3 u_2 5)), some (.inr u_4), none] [] (h_sr M_3 (h_r M_3 u_2 5) 9 u_4)) fun M_5 => if h_k M_5 (h_r M_3 u_2 5) = 5 then (if h_k M_5 (h_r M_3 u_2 5) = 5 then (if h_k (h_si M_5 (h_r M_3 u_2 5) 10 ((h_i M_5 (h_r M_3 u_2 5) 10) + 1)) a0 = 7 then (if (a_rec (h_sr (h_si M_5 (h_r M_3 u_2 5) 10 ((h_i M_5 (h_r M_3 u_2 5) 10) + 1)) a0 3 (h_r M_3 u_2 5)) 7 [.inr a0] = true ∧ ([] : List mV).length ≤ 8) then (c_I (ev 74 0 [some (.inr a0)] [] (h_sr (h_si M_5 (h_r M_3 u_2 5) 10 ((h_i M_5 (h_r M_3 u_2 5) 10) + 1)) a0 3 (h_r M_3 u_2 5))) fun v_7 M_6 => if v_7 = 0 ∨ v_7 = 1 then some (some (.inl v_7), M_6) else none) else none) else none) else none) else none) else none) else none) else (ev 52 43 [some (.inr a0), some (.inl i1), some (.inl i2), some (.inr u_2), some (.inr u_4), some (.inr (h_r M_3 u_2 5))] [] M_3)) else none)) else none) else (if (a_rec M_3 7 [.inr a0, .inl 3] = true ∧ ([] : List mV).length ≤ 8) then (c_I (ev 76 0 [some (.inr a0), some (.inl 3)] [] M_3) fun v_9 M_8 => if v_9 = 0 ∨ v_9 = 1 then some (some (.inl v_9), M_8) else none) else none)) else none) else none) else (ev 52 24 [some (.inr a0), some (.inl i1), some (.inl i2), some (.inr u_2), some (.inr u_4), some (.inr (h_r M_3 u_2 5))] [] M_3)) else none)) else none))) else none) else none := by
  refine (ev_ns c_52 2 (ip' := 2) (ls' := [some (.inr a0), some (.inl i1), some (.inl i2), none, none, none]) (st' := [.inl i1, .inr a0]) (M' := M) rfl).trans ?_
  refine (ev_gR (a_rec M 7 [.inr a0, .inl i1] = true ∧ ([] : List mV).length ≤ 8) (as := [.inr a0, .inl i1]) (rr := []) c_52 c_79 rfl).trans (t_i (t_cR ?_) rfl)
  intro u_2 M_1
  refine (ev_ns c_52 3 (ip' := 6) (ls' := [some (.inr a0), some (.inl i1), some (.inl i2), some (.inr u_2), none, none]) (st' := [.inl i2, .inr a0]) (M' := M_1) rfl).trans ?_
  refine (ev_gR (a_rec M_1 7 [.inr a0, .inl i2] = true ∧ ([] : List mV).length ≤ 8) (as := [.inr a0, .inl i2]) (rr := []) c_52 c_79 rfl).trans (t_i (t_cR ?_) rfl)
  intro u_4 M_3
  refine (ev_ns c_52 2 (ip' := 9) (ls' := [some (.inr a0), some (.inl i1), some (.inl i2), some (.inr u_2), some (.inr u_4), none]) (st' := [.inr u_2]) (M' := M_3) rfl).trans ?_
  refine (ev_i (u_2 = 0) (i1 := 12) (l1 := [some (.inr a0), some (.inl i1), some (.inl i2), some (.inr u_2), some (.inr u_4), none]) (s1 := []) (M1 := M_3) (i2 := 10) (l2 := [some (.inr a0), some (.inl i1), some (.inl i2), some (.inr u_2), some (.inr u_4), none]) (s2 := []) (M2 := M_3) c_52 rfl).trans (t_i ?_ ?_)
  · skip
    exact rfl
  · skip
    refine (ev_ns c_52 1 (ip' := 11) (ls' := [some (.inr a0), some (.inl i1), some (.inl i2), some (.inr u_2), some (.inr u_4), none]) (st' := [.inr u_4]) (M' := M_3) rfl).trans ?_
    refine (ev_i (u_4 = 0) (i1 := 12) (l1 := [some (.inr a0), some (.inl i1), some (.inl i2), some (.inr u_2), some (.inr u_4), none]) (s1 := []) (M1 := M_3) (i2 := 16) (l2 := [some (.inr a0), some (.inl i1), some (.inl i2), some (.inr u_2), some (.inr u_4), none]) (s2 := []) (M2 := M_3) c_52 rfl).trans (t_i ?_ ?_)
    · skip
      exact rfl
    · skip
      refine (ev_ns c_52 1 (ip' := 17) (ls' := [some (.inr a0), some (.inl i1), some (.inl i2), some (.inr u_2), some (.inr u_4), none]) (st' := [.inr u_2]) (M' := M_3) rfl).trans ?_
      refine (ev_g (h_k M_3 u_2 = 3) (ip' := 18) (ls' := [some (.inr a0), some (.inl i1), some (.inl i2), some (.inr u_2), some (.inr u_4), none]) (st' := [.inr (h_r M_3 u_2 5)]) (M' := M_3) c_52 rfl).trans (t_i ?_ rfl)
      refine (ev_ns c_52 2 (ip' := 20) (ls' := [some (.inr a0), some (.inl i1), some (.inl i2), some (.inr u_2), some (.inr u_4), some (.inr (h_r M_3 u_2 5))]) (st' := [.inr (h_r M_3 u_2 5)]) (M' := M_3) rfl).trans ?_
      refine (ev_i ((h_r M_3 u_2 5) = 0) (i1 := 24) (l1 := [some (.inr a0), some (.inl i1), some (.inl i2), some (.inr u_2), some (.inr u_4), some (.inr (h_r M_3 u_2 5))]) (s1 := []) (M1 := M_3) (i2 := 21) (l2 := [some (.inr a0), some (.inl i1), some (.inl i2), some (.inr u_2), some (.inr u_4), some (.inr (h_r M_3 u_2 5))]) (s2 := []) (M2 := M_3) c_52 rfl).trans (t_i ?_ ?_)
      · skip
        exact rfl
      · skip
        refine (ev_ns c_52 1 (ip' := 22) (ls' := [some (.inr a0), some (.inl i1), some (.inl i2), some (.inr u_2), some (.inr u_4), some (.inr (h_r M_3 u_2 5))]) (st' := [.inr u_4]) (M' := M_3) rfl).trans ?_
        refine (ev_g (h_k M_3 u_4 = 3) (ip' := 23) (ls' := [some (.inr a0), some (.inl i1), some (.inl i2), some (.inr u_2), some (.inr u_4), some (.inr (h_r M_3 u_2 5))]) (st' := [.inl (h_i M_3 u_4 2)]) (M' := M_3) c_52 rfl).trans (t_i ?_ rfl)
        refine (ev_i ((h_i M_3 u_4 2) = 0) (i1 := 28) (l1 := [some (.inr a0), some (.inl i1), some (.inl i2), some (.inr u_2), some (.inr u_4), some (.inr (h_r M_3 u_2 5))]) (s1 := []) (M1 := M_3) (i2 := 24) (l2 := [some (.inr a0), some (.inl i1), some (.inl i2), some (.inr u_2), some (.inr u_4), some (.inr (h_r M_3 u_2 5))]) (s2 := []) (M2 := M_3) c_52 rfl).trans (t_i ?_ ?_)
        · skip
          refine (ev_ns c_52 1 (ip' := 29) (ls' := [some (.inr a0), some (.inl i1), some (.inl i2), some (.inr u_2), some (.inr u_4), some (.inr (h_r M_3 u_2 5))]) (st' := [.inr (h_r M_3 u_2 5)]) (M' := M_3) rfl).trans ?_
          refine (ev_g (h_k M_3 (h_r M_3 u_2 5) = 5) (ip' := 30) (ls' := [some (.inr a0), some (.inl i1), some (.inl i2), some (.inr u_2), some (.inr u_4), some (.inr (h_r M_3 u_2 5))]) (st' := [.inr (h_r M_3 (h_r M_3 u_2 5) 1)]) (M' := M_3) c_52 rfl).trans (t_i ?_ rfl)
          refine (ev_g (h_k M_3 (h_r M_3 (h_r M_3 u_2 5) 1) = 4) (ip' := 31) (ls' := [some (.inr a0), some (.inl i1), some (.inl i2), some (.inr u_2), some (.inr u_4), some (.inr (h_r M_3 u_2 5))]) (st' := [.inl (h_i M_3 (h_r M_3 (h_r M_3 u_2 5) 1) 3)]) (M' := M_3) c_52 rfl).trans (t_i ?_ rfl)
          refine (ev_ns c_52 1 (ip' := 32) (ls' := [some (.inr a0), some (.inl i1), some (.inl i2), some (.inr u_2), some (.inr u_4), some (.inr (h_r M_3 u_2 5))]) (st' := [.inl 1, .inl (h_i M_3 (h_r M_3 (h_r M_3 u_2 5) 1) 3)]) (M' := M_3) rfl).trans ?_
          refine (ev_i ((h_i M_3 (h_r M_3 (h_r M_3 u_2 5) 1) 3) = 1) (i1 := 37) (l1 := [some (.inr a0), some (.inl i1), some (.inl i2), some (.inr u_2), some (.inr u_4), some (.inr (h_r M_3 u_2 5))]) (s1 := []) (M1 := M_3) (i2 := 33) (l2 := [some (.inr a0), some (.inl i1), some (.inl i2), some (.inr u_2), some (.inr u_4), some (.inr (h_r M_3 u_2 5))]) (s2 := []) (M2 := M_3) c_52 rfl).trans (t_i ?_ ?_)
          · skip
            refine (ev_ns c_52 1 (ip' := 38) (ls' := [some (.inr a0), some (.inl i1), some (.inl i2), some (.inr u_2), some (.inr u_4), some (.inr (h_r M_3 u_2 5))]) (st' := [.inr (h_r M_3 u_2 5)]) (M' := M_3) rfl).trans ?_
            refine (ev_g (h_k M_3 (h_r M_3 u_2 5) = 5) (ip' := 39) (ls' := [some (.inr a0), some (.inl i1), some (.inl i2), some (.inr u_2), some (.inr u_4), some (.inr (h_r M_3 u_2 5))]) (st' := [.inl (h_i M_3 (h_r M_3 u_2 5) 2)]) (M' := M_3) c_52 rfl).trans (t_i ?_ rfl)
            refine (ev_i ((h_i M_3 (h_r M_3 u_2 5) 2) = 0) (i1 := 43) (l1 := [some (.inr a0), some (.inl i1), some (.inl i2), some (.inr u_2), some (.inr u_4), some (.inr (h_r M_3 u_2 5))]) (s1 := []) (M1 := M_3) (i2 := 40) (l2 := [some (.inr a0), some (.inl i1), some (.inl i2), some (.inr u_2), some (.inr u_4), some (.inr (h_r M_3 u_2 5))]) (s2 := []) (M2 := M_3) c_52 rfl).trans (t_i ?_ ?_)
            · skip
              exact rfl
            · skip
              refine (ev_ns c_52 1 (ip' := 41) (ls' := [some (.inr a0), some (.inl i1), some (.inl i2), some (.inr u_2), some (.inr u_4), some (.inr (h_r M_3 u_2 5))]) (st' := [.inr a0]) (M' := M_3) rfl).trans ?_
              refine (ev_g (h_k M_3 a0 = 7) (ip' := 42) (ls' := [some (.inr a0), some (.inl i1), some (.inl i2), some (.inr u_2), some (.inr u_4), some (.inr (h_r M_3 u_2 5))]) (st' := [.inr (h_r M_3 a0 3)]) (M' := M_3) c_52 rfl).trans (t_i ?_ rfl)
              refine (ev_i ((h_r M_3 a0 3) = 0) (i1 := 47) (l1 := [some (.inr a0), some (.inl i1), some (.inl i2), some (.inr u_2), some (.inr u_4), some (.inr (h_r M_3 u_2 5))]) (s1 := []) (M1 := M_3) (i2 := 43) (l2 := [some (.inr a0), some (.inl i1), some (.inl i2), some (.inr u_2), some (.inr u_4), some (.inr (h_r M_3 u_2 5))]) (s2 := []) (M2 := M_3) c_52 rfl).trans (t_i ?_ ?_)
              · skip
                refine (ev_ns c_52 2 (ip' := 49) (ls' := [some (.inr a0), some (.inl i1), some (.inl i2), some (.inr u_2), some (.inr u_4), some (.inr (h_r M_3 u_2 5))]) (st' := [.inr u_4, .inr (h_r M_3 u_2 5)]) (M' := M_3) rfl).trans ?_
                refine (ev_g (h_k M_3 (h_r M_3 u_2 5) = 5) (ip' := 50) (ls' := [some (.inr a0), some (.inl i1), some (.inl i2), some (.inr u_2), some (.inr u_4), some (.inr (h_r M_3 u_2 5))]) (st' := []) (M' := h_sr M_3 (h_r M_3 u_2 5) 9 u_4) c_52 rfl).trans (t_i ?_ rfl)
                refine (ev_ns c_52 2 (ip' := 52) (ls' := [some (.inr a0), some (.inl i1), some (.inl i2), some (.inr u_2), some (.inr u_4), some (.inr (h_r M_3 u_2 5))]) (st' := [.inr u_4, .inr (h_r M_3 u_2 5)]) (M' := h_sr M_3 (h_r M_3 u_2 5) 9 u_4) rfl).trans ?_
                refine (ev_gV (a_rec (h_sr M_3 (h_r M_3 u_2 5) 9 u_4) 0 [.inr (h_r M_3 u_2 5), .inr u_4] = true ∧ ([] : List mV).length ≤ 8) (as := [.inr (h_r M_3 u_2 5), .inr u_4]) (rr := []) c_52 c_93 rfl).trans (t_i (t_cV ?_) rfl)
                intro M_5
                refine (ev_ns c_52 2 (ip' := 55) (ls' := [some (.inr a0), some (.inl i1), some (.inl i2), some (.inr u_2), some (.inr u_4), some (.inr (h_r M_3 u_2 5))]) (st' := [.inr (h_r M_3 u_2 5), .inr (h_r M_3 u_2 5)]) (M' := M_5) rfl).trans ?_
                refine (ev_g (h_k M_5 (h_r M_3 u_2 5) = 5) (ip' := 56) (ls' := [some (.inr a0), some (.inl i1), some (.inl i2), some (.inr u_2), some (.inr u_4), some (.inr (h_r M_3 u_2 5))]) (st' := [.inl (h_i M_5 (h_r M_3 u_2 5) 10), .inr (h_r M_3 u_2 5)]) (M' := M_5) c_52 rfl).trans (t_i ?_ rfl)
                refine (ev_ns c_52 2 (ip' := 58) (ls' := [some (.inr a0), some (.inl i1), some (.inl i2), some (.inr u_2), some (.inr u_4), some (.inr (h_r M_3 u_2 5))]) (st' := [.inl ((h_i M_5 (h_r M_3 u_2 5) 10) + 1), .inr (h_r M_3 u_2 5)]) (M' := M_5) rfl).trans ?_
                refine (ev_g (h_k M_5 (h_r M_3 u_2 5) = 5) (ip' := 59) (ls' := [some (.inr a0), some (.inl i1), some (.inl i2), some (.inr u_2), some (.inr u_4), some (.inr (h_r M_3 u_2 5))]) (st' := []) (M' := h_si M_5 (h_r M_3 u_2 5) 10 ((h_i M_5 (h_r M_3 u_2 5) 10) + 1)) c_52 rfl).trans (t_i ?_ rfl)
                refine (ev_ns c_52 2 (ip' := 61) (ls' := [some (.inr a0), some (.inl i1), some (.inl i2), some (.inr u_2), some (.inr u_4), some (.inr (h_r M_3 u_2 5))]) (st' := [.inr (h_r M_3 u_2 5), .inr a0]) (M' := h_si M_5 (h_r M_3 u_2 5) 10 ((h_i M_5 (h_r M_3 u_2 5) 10) + 1)) rfl).trans ?_
                refine (ev_g (h_k (h_si M_5 (h_r M_3 u_2 5) 10 ((h_i M_5 (h_r M_3 u_2 5) 10) + 1)) a0 = 7) (ip' := 62) (ls' := [some (.inr a0), some (.inl i1), some (.inl i2), some (.inr u_2), some (.inr u_4), some (.inr (h_r M_3 u_2 5))]) (st' := []) (M' := h_sr (h_si M_5 (h_r M_3 u_2 5) 10 ((h_i M_5 (h_r M_3 u_2 5) 10) + 1)) a0 3 (h_r M_3 u_2 5)) c_52 rfl).trans (t_i ?_ rfl)
                refine (ev_ns c_52 1 (ip' := 63) (ls' := [some (.inr a0), some (.inl i1), some (.inl i2), some (.inr u_2), some (.inr u_4), some (.inr (h_r M_3 u_2 5))]) (st' := [.inr a0]) (M' := h_sr (h_si M_5 (h_r M_3 u_2 5) 10 ((h_i M_5 (h_r M_3 u_2 5) 10) + 1)) a0 3 (h_r M_3 u_2 5)) rfl).trans ?_
                refine (ev_gI (a_rec (h_sr (h_si M_5 (h_r M_3 u_2 5) 10 ((h_i M_5 (h_r M_3 u_2 5) 10) + 1)) a0 3 (h_r M_3 u_2 5)) 7 [.inr a0] = true ∧ ([] : List mV).length ≤ 8) (as := [.inr a0]) (rr := []) c_52 c_74 rfl).trans (t_i (t_cI ?_) rfl)
                intro v_7 M_6
                exact ev_gd (v_7 = 0 ∨ v_7 = 1) c_52 rfl
              · skip
                exact rfl
          · skip
            refine (ev_ns c_52 2 (ip' := 35) (ls' := [some (.inr a0), some (.inl i1), some (.inl i2), some (.inr u_2), some (.inr u_4), some (.inr (h_r M_3 u_2 5))]) (st' := [.inl 3, .inr a0]) (M' := M_3) rfl).trans ?_
            refine (ev_gI (a_rec M_3 7 [.inr a0, .inl 3] = true ∧ ([] : List mV).length ≤ 8) (as := [.inr a0, .inl 3]) (rr := []) c_52 c_76 rfl).trans (t_i (t_cI ?_) rfl)
            intro v_9 M_8
            exact ev_gd (v_9 = 0 ∨ v_9 = 1) c_52 rfl
        · skip
          exact rfl
set_option maxRecDepth 20000 in
theorem e_52_12 (a0 : Nat) (i1 : Int32) (i2 : Int32) (a3 : Nat) (a4 : Nat) (M : mM) : ev 52 12 [some (.inr a0), some (.inl i1), some (.inl i2), some (.inr a3), some (.inr a4), none] [] M = if (a_rec M 7 [.inr a0, .inl 1] = true ∧ ([] : List mV).length ≤ 8) then (c_I (ev 76 0 [some (.inr a0), some (.inl 1)] [] M) fun v_2 M_1 => if v_2 = 0 ∨ v_2 = 1 then some (some (.inl v_2), M_1) else none) else none := by
  refine (ev_ns c_52 2 (ip' := 14) (ls' := [some (.inr a0), some (.inl i1), some (.inl i2), some (.inr a3), some (.inr a4), none]) (st' := [.inl 1, .inr a0]) (M' := M) rfl).trans ?_
  refine (ev_gI (a_rec M 7 [.inr a0, .inl 1] = true ∧ ([] : List mV).length ≤ 8) (as := [.inr a0, .inl 1]) (rr := []) c_52 c_76 rfl).trans (t_i (t_cI ?_) rfl)
  intro v_2 M_1
  exact ev_gd (v_2 = 0 ∨ v_2 = 1) c_52 rfl
set_option maxRecDepth 20000 in
theorem e_52_24 (a0 : Nat) (i1 : Int32) (i2 : Int32) (a3 : Nat) (a4 : Nat) (a5 : Nat) (M : mM) : ev 52 24 [some (.inr a0), some (.inl i1), some (.inl i2), some (.inr a3), some (.inr a4), some (.inr a5)] [] M = if (a_rec M 7 [.inr a0, .inl 2] = true ∧ ([] : List mV).length ≤ 8) then (c_I (ev 76 0 [some (.inr a0), some (.inl 2)] [] M) fun v_2 M_1 => if v_2 = 0 ∨ v_2 = 1 then some (some (.inl v_2), M_1) else none) else none := by
  refine (ev_ns c_52 2 (ip' := 26) (ls' := [some (.inr a0), some (.inl i1), some (.inl i2), some (.inr a3), some (.inr a4), some (.inr a5)]) (st' := [.inl 2, .inr a0]) (M' := M) rfl).trans ?_
  refine (ev_gI (a_rec M 7 [.inr a0, .inl 2] = true ∧ ([] : List mV).length ≤ 8) (as := [.inr a0, .inl 2]) (rr := []) c_52 c_76 rfl).trans (t_i (t_cI ?_) rfl)
  intro v_2 M_1
  exact ev_gd (v_2 = 0 ∨ v_2 = 1) c_52 rfl
set_option maxRecDepth 20000 in
theorem e_52_43 (a0 : Nat) (i1 : Int32) (i2 : Int32) (a3 : Nat) (a4 : Nat) (a5 : Nat) (M : mM) : ev 52 43 [some (.inr a0), some (.inl i1), some (.inl i2), some (.inr a3), some (.inr a4), some (.inr a5)] [] M = if (a_rec M 7 [.inr a0, .inl 4] = true ∧ ([] : List mV).length ≤ 8) then (c_I (ev 76 0 [some (.inr a0), some (.inl 4)] [] M) fun v_2 M_1 => if v_2 = 0 ∨ v_2 = 1 then some (some (.inl v_2), M_1) else none) else none := by
  refine (ev_ns c_52 2 (ip' := 45) (ls' := [some (.inr a0), some (.inl i1), some (.inl i2), some (.inr a3), some (.inr a4), some (.inr a5)]) (st' := [.inl 4, .inr a0]) (M' := M) rfl).trans ?_
  refine (ev_gI (a_rec M 7 [.inr a0, .inl 4] = true ∧ ([] : List mV).length ≤ 8) (as := [.inr a0, .inl 4]) (rr := []) c_52 c_76 rfl).trans (t_i (t_cI ?_) rfl)
  intro v_2 M_1
  exact ev_gd (v_2 = 0 ∨ v_2 = 1) c_52 rfl
/- 53: GranuleHall.change(I)I -/
set_option maxRecDepth 20000 in
theorem e_53_0 (a0 : Nat) (i1 : Int32) (M : mM) : ev 53 0 [some (.inr a0), some (.inl i1), none, none, none] [] M = if (a_rec M 7 [.inr a0, .inl i1] = true ∧ ([] : List mV).length ≤ 8) then (c_R (ev 79 0 [some (.inr a0), some (.inl i1)] [] M) fun u_2 M_1 => if u_2 = 0 then (if (a_rec M_1 7 [.inr a0, .inl 1] = true ∧ ([] : List mV).length ≤ 8) then (c_I (ev 75 0 [some (.inr a0), some (.inl 1)] [] M_1) fun v_4 M_3 => some (some (.inl v_4), M_3)) else none) else (if h_k M_1 u_2 = 3 then (if (h_r M_1 u_2 5) = 0 then (if (a_rec M_1 7 [.inr a0, .inl 2] = true ∧ ([] : List mV).length ≤ 8) then (c_I (ev 75 0 [some (.inr a0), some (.inl 2)] [] M_1) fun v_6 M_5 => some (some (.inl v_6), M_5)) else none) else (if h_k M_1 (h_r M_1 u_2 5) = 5 then (if (h_i M_1 (h_r M_1 u_2 5) 4) = 2 then (if h_k M_1 (h_r M_1 u_2 5) = 5 then (if h_k M_1 (h_r M_1 u_2 5) = 5 then (if (h_i M_1 (h_r M_1 u_2 5) 6) = (h_i M_1 (h_r M_1 u_2 5) 7) then (ev 53 28 [some (.inr a0), some (.inl i1), some (.inr u_2), some (.inr (h_r M_1 u_2 5)), none] [] M_1) else (if h_k M_1 (h_r M_1 u_2 5) = 5 then (if h_k M_1 (h_r M_1 u_2 5) = 5 then (if (a_rec M_1 4 [.inr (h_r M_1 (h_r M_1 u_2 5) 1), .inl (h_i M_1 (h_r M_1 u_2 5) 6)] = true ∧ ([] : List mV).length ≤ 8) then (c_R (ev 24 0 [some (.inr (h_r M_1 (h_r M_1 u_2 5) 1)), some (.inl (h_i M_1 (h_r M_1 u_2 5) 6))] [] M_1) fun u_8 M_7 => if h_k M_7 u_8 = 2 then (if h_k M_7 (h_r M_1 u_2 5) = 5 then (if (h_i M_7 u_8 1) < (h_i M_7 (h_r M_1 u_2 5) 6) then (ev 53 48 [some (.inr a0), some (.inl i1), some (.inr u_2), some (.inr (h_r M_1 u_2 5)), some (.inr u_8)] [] M_7) else (if (a_rec M_7 2 [.inr u_8] = true ∧ ([] : List mV).length ≤ 8) then (c_I (ev 13 0 [some (.inr u_8)] [] M_7) fun v_10 M_9 => if h_k M_9 (h_r M_1 u_2 5) = 5 then (if v_10 ≤ (h_i M_9 (h_r M_1 u_2 5) 7) then (if h_k M_9 (h_r M_1 u_2 5) = 5 then (if h_k M_9 u_8 = 2 then (if (a_rec (h_si M_9 u_8 2 (h_i M_9 (h_r M_1 u_2 5) 8)) 2 [.inr u_8] = true ∧ ([.inr (h_r M_1 u_2 5)] : List mV).length ≤ 8) then (c_I (ev 13 0 [some (.inr u_8)] [] (h_si M_9 u_8 2 (h_i M_9 (h_r M_1 u_2 5) 8))) fun v_12 M_11 => if h_k M_11 (h_r M_1 u_2 5) = 5 then (if h_k (h_si M_11 (h_r M_1 u_2 5) 6 v_12) (h_r M_1 u_2 5) = 5 then (if (a_rec (h_si M_11 (h_r M_1 u_2 5) 6 v_12) 7 [.inr a0, .inl (h_i (h_si M_11 (h_r M_1 u_2 5) 6 v_12) (h_r M_1 u_2 5) 6)] = true ∧ ([] : List mV).length ≤ 8) then (c_I (ev 73 0 [some (.inr a0), some (.inl (h_i (h_si M_11 (h_r M_1 u_2 5) 6 v_12) (h_r M_1 u_2 5) 6))] [] (h_si M_11 (h_r M_1 u_2 5) 6 v_12)) fun v_14 M_13 => some (some (.inl v_14), M_13)) else none) else none) else none) else none) else none) else none) else (ev 53 48 [some (.inr a0), some (.inl i1), some (.inr u_2), some (.inr (h_r M_1 u_2 5)), some (.inr u_8)] [] M_9)) else none) else none)) else none) else none) else none) else none) else none)) else none) else none) else (ev 53 28 [some (.inr a0), some (.inl i1), some (.inr u_2), some (.inr (h_r M_1 u_2 5)), none] [] M_1)) else none)) else none)) else none := by
  refine (ev_ns c_53 2 (ip' := 2) (ls' := [some (.inr a0), some (.inl i1), none, none, none]) (st' := [.inl i1, .inr a0]) (M' := M) rfl).trans ?_
  refine (ev_gR (a_rec M 7 [.inr a0, .inl i1] = true ∧ ([] : List mV).length ≤ 8) (as := [.inr a0, .inl i1]) (rr := []) c_53 c_79 rfl).trans (t_i (t_cR ?_) rfl)
  intro u_2 M_1
  refine (ev_ns c_53 2 (ip' := 5) (ls' := [some (.inr a0), some (.inl i1), some (.inr u_2), none, none]) (st' := [.inr u_2]) (M' := M_1) rfl).trans ?_
  refine (ev_i (u_2 = 0) (i1 := 6) (l1 := [some (.inr a0), some (.inl i1), some (.inr u_2), none, none]) (s1 := []) (M1 := M_1) (i2 := 10) (l2 := [some (.inr a0), some (.inl i1), some (.inr u_2), none, none]) (s2 := []) (M2 := M_1) c_53 rfl).trans (t_i ?_ ?_)
  · skip
    refine (ev_ns c_53 2 (ip' := 8) (ls' := [some (.inr a0), some (.inl i1), some (.inr u_2), none, none]) (st' := [.inl 1, .inr a0]) (M' := M_1) rfl).trans ?_
    refine (ev_gI (a_rec M_1 7 [.inr a0, .inl 1] = true ∧ ([] : List mV).length ≤ 8) (as := [.inr a0, .inl 1]) (rr := []) c_53 c_75 rfl).trans (t_i (t_cI ?_) rfl)
    intro v_4 M_3
    exact ev_d c_53 rfl
  · skip
    refine (ev_ns c_53 1 (ip' := 11) (ls' := [some (.inr a0), some (.inl i1), some (.inr u_2), none, none]) (st' := [.inr u_2]) (M' := M_1) rfl).trans ?_
    refine (ev_g (h_k M_1 u_2 = 3) (ip' := 12) (ls' := [some (.inr a0), some (.inl i1), some (.inr u_2), none, none]) (st' := [.inr (h_r M_1 u_2 5)]) (M' := M_1) c_53 rfl).trans (t_i ?_ rfl)
    refine (ev_ns c_53 2 (ip' := 14) (ls' := [some (.inr a0), some (.inl i1), some (.inr u_2), some (.inr (h_r M_1 u_2 5)), none]) (st' := [.inr (h_r M_1 u_2 5)]) (M' := M_1) rfl).trans ?_
    refine (ev_i ((h_r M_1 u_2 5) = 0) (i1 := 15) (l1 := [some (.inr a0), some (.inl i1), some (.inr u_2), some (.inr (h_r M_1 u_2 5)), none]) (s1 := []) (M1 := M_1) (i2 := 19) (l2 := [some (.inr a0), some (.inl i1), some (.inr u_2), some (.inr (h_r M_1 u_2 5)), none]) (s2 := []) (M2 := M_1) c_53 rfl).trans (t_i ?_ ?_)
    · skip
      refine (ev_ns c_53 2 (ip' := 17) (ls' := [some (.inr a0), some (.inl i1), some (.inr u_2), some (.inr (h_r M_1 u_2 5)), none]) (st' := [.inl 2, .inr a0]) (M' := M_1) rfl).trans ?_
      refine (ev_gI (a_rec M_1 7 [.inr a0, .inl 2] = true ∧ ([] : List mV).length ≤ 8) (as := [.inr a0, .inl 2]) (rr := []) c_53 c_75 rfl).trans (t_i (t_cI ?_) rfl)
      intro v_6 M_5
      exact ev_d c_53 rfl
    · skip
      refine (ev_ns c_53 1 (ip' := 20) (ls' := [some (.inr a0), some (.inl i1), some (.inr u_2), some (.inr (h_r M_1 u_2 5)), none]) (st' := [.inr (h_r M_1 u_2 5)]) (M' := M_1) rfl).trans ?_
      refine (ev_g (h_k M_1 (h_r M_1 u_2 5) = 5) (ip' := 21) (ls' := [some (.inr a0), some (.inl i1), some (.inr u_2), some (.inr (h_r M_1 u_2 5)), none]) (st' := [.inl (h_i M_1 (h_r M_1 u_2 5) 4)]) (M' := M_1) c_53 rfl).trans (t_i ?_ rfl)
      refine (ev_ns c_53 1 (ip' := 22) (ls' := [some (.inr a0), some (.inl i1), some (.inr u_2), some (.inr (h_r M_1 u_2 5)), none]) (st' := [.inl 2, .inl (h_i M_1 (h_r M_1 u_2 5) 4)]) (M' := M_1) rfl).trans ?_
      refine (ev_i ((h_i M_1 (h_r M_1 u_2 5) 4) = 2) (i1 := 23) (l1 := [some (.inr a0), some (.inl i1), some (.inr u_2), some (.inr (h_r M_1 u_2 5)), none]) (s1 := []) (M1 := M_1) (i2 := 28) (l2 := [some (.inr a0), some (.inl i1), some (.inr u_2), some (.inr (h_r M_1 u_2 5)), none]) (s2 := []) (M2 := M_1) c_53 rfl).trans (t_i ?_ ?_)
      · skip
        refine (ev_ns c_53 1 (ip' := 24) (ls' := [some (.inr a0), some (.inl i1), some (.inr u_2), some (.inr (h_r M_1 u_2 5)), none]) (st' := [.inr (h_r M_1 u_2 5)]) (M' := M_1) rfl).trans ?_
        refine (ev_g (h_k M_1 (h_r M_1 u_2 5) = 5) (ip' := 25) (ls' := [some (.inr a0), some (.inl i1), some (.inr u_2), some (.inr (h_r M_1 u_2 5)), none]) (st' := [.inl (h_i M_1 (h_r M_1 u_2 5) 6)]) (M' := M_1) c_53 rfl).trans (t_i ?_ rfl)
        refine (ev_ns c_53 1 (ip' := 26) (ls' := [some (.inr a0), some (.inl i1), some (.inr u_2), some (.inr (h_r M_1 u_2 5)), none]) (st' := [.inr (h_r M_1 u_2 5), .inl (h_i M_1 (h_r M_1 u_2 5) 6)]) (M' := M_1) rfl).trans ?_
        refine (ev_g (h_k M_1 (h_r M_1 u_2 5) = 5) (ip' := 27) (ls' := [some (.inr a0), some (.inl i1), some (.inr u_2), some (.inr (h_r M_1 u_2 5)), none]) (st' := [.inl (h_i M_1 (h_r M_1 u_2 5) 7), .inl (h_i M_1 (h_r M_1 u_2 5) 6)]) (M' := M_1) c_53 rfl).trans (t_i ?_ rfl)
        refine (ev_i ((h_i M_1 (h_r M_1 u_2 5) 6) = (h_i M_1 (h_r M_1 u_2 5) 7)) (i1 := 28) (l1 := [some (.inr a0), some (.inl i1), some (.inr u_2), some (.inr (h_r M_1 u_2 5)), none]) (s1 := []) (M1 := M_1) (i2 := 32) (l2 := [some (.inr a0), some (.inl i1), some (.inr u_2), some (.inr (h_r M_1 u_2 5)), none]) (s2 := []) (M2 := M_1) c_53 rfl).trans (t_i ?_ ?_)
        · skip
          exact rfl
        · skip
          refine (ev_ns c_53 1 (ip' := 33) (ls' := [some (.inr a0), some (.inl i1), some (.inr u_2), some (.inr (h_r M_1 u_2 5)), none]) (st' := [.inr (h_r M_1 u_2 5)]) (M' := M_1) rfl).trans ?_
          refine (ev_g (h_k M_1 (h_r M_1 u_2 5) = 5) (ip' := 34) (ls' := [some (.inr a0), some (.inl i1), some (.inr u_2), some (.inr (h_r M_1 u_2 5)), none]) (st' := [.inr (h_r M_1 (h_r M_1 u_2 5) 1)]) (M' := M_1) c_53 rfl).trans (t_i ?_ rfl)
          refine (ev_ns c_53 1 (ip' := 35) (ls' := [some (.inr a0), some (.inl i1), some (.inr u_2), some (.inr (h_r M_1 u_2 5)), none]) (st' := [.inr (h_r M_1 u_2 5), .inr (h_r M_1 (h_r M_1 u_2 5) 1)]) (M' := M_1) rfl).trans ?_
          refine (ev_g (h_k M_1 (h_r M_1 u_2 5) = 5) (ip' := 36) (ls' := [some (.inr a0), some (.inl i1), some (.inr u_2), some (.inr (h_r M_1 u_2 5)), none]) (st' := [.inl (h_i M_1 (h_r M_1 u_2 5) 6), .inr (h_r M_1 (h_r M_1 u_2 5) 1)]) (M' := M_1) c_53 rfl).trans (t_i ?_ rfl)
          refine (ev_gR (a_rec M_1 4 [.inr (h_r M_1 (h_r M_1 u_2 5) 1), .inl (h_i M_1 (h_r M_1 u_2 5) 6)] = true ∧ ([] : List mV).length ≤ 8) (as := [.inr (h_r M_1 (h_r M_1 u_2 5) 1), .inl (h_i M_1 (h_r M_1 u_2 5) 6)]) (rr := []) c_53 c_24 rfl).trans (t_i (t_cR ?_) rfl)
          intro u_8 M_7
          refine (ev_ns c_53 2 (ip' := 39) (ls' := [some (.inr a0), some (.inl i1), some (.inr u_2), some (.inr (h_r M_1 u_2 5)), some (.inr u_8)]) (st' := [.inr u_8]) (M' := M_7) rfl).trans ?_
          refine (ev_g (h_k M_7 u_8 = 2) (ip' := 40) (ls' := [some (.inr a0), some (.inl i1), some (.inr u_2), some (.inr (h_r M_1 u_2 5)), some (.inr u_8)]) (st' := [.inl (h_i M_7 u_8 1)]) (M' := M_7) c_53 rfl).trans (t_i ?_ rfl)
          refine (ev_ns c_53 1 (ip' := 41) (ls' := [some (.inr a0), some (.inl i1), some (.inr u_2), some (.inr (h_r M_1 u_2 5)), some (.inr u_8)]) (st' := [.inr (h_r M_1 u_2 5), .inl (h_i M_7 u_8 1)]) (M' := M_7) rfl).trans ?_
          refine (ev_g (h_k M_7 (h_r M_1 u_2 5) = 5) (ip' := 42) (ls' := [some (.inr a0), some (.inl i1), some (.inr u_2), some (.inr (h_r M_1 u_2 5)), some (.inr u_8)]) (st' := [.inl (h_i M_7 (h_r M_1 u_2 5) 6), .inl (h_i M_7 u_8 1)]) (M' := M_7) c_53 rfl).trans (t_i ?_ rfl)
          refine (ev_i ((h_i M_7 u_8 1) < (h_i M_7 (h_r M_1 u_2 5) 6)) (i1 := 48) (l1 := [some (.inr a0), some (.inl i1), some (.inr u_2), some (.inr (h_r M_1 u_2 5)), some (.inr u_8)]) (s1 := []) (M1 := M_7) (i2 := 43) (l2 := [some (.inr a0), some (.inl i1), some (.inr u_2), some (.inr (h_r M_1 u_2 5)), some (.inr u_8)]) (s2 := []) (M2 := M_7) c_53 rfl).trans (t_i ?_ ?_)
          · skip
            exact rfl
          · skip
            refine (ev_ns c_53 1 (ip' := 44) (ls' := [some (.inr a0), some (.inl i1), some (.inr u_2), some (.inr (h_r M_1 u_2 5)), some (.inr u_8)]) (st' := [.inr u_8]) (M' := M_7) rfl).trans ?_
            refine (ev_gI (a_rec M_7 2 [.inr u_8] = true ∧ ([] : List mV).length ≤ 8) (as := [.inr u_8]) (rr := []) c_53 c_13 rfl).trans (t_i (t_cI ?_) rfl)
            intro v_10 M_9
            refine (ev_ns c_53 1 (ip' := 46) (ls' := [some (.inr a0), some (.inl i1), some (.inr u_2), some (.inr (h_r M_1 u_2 5)), some (.inr u_8)]) (st' := [.inr (h_r M_1 u_2 5), .inl v_10]) (M' := M_9) rfl).trans ?_
            refine (ev_g (h_k M_9 (h_r M_1 u_2 5) = 5) (ip' := 47) (ls' := [some (.inr a0), some (.inl i1), some (.inr u_2), some (.inr (h_r M_1 u_2 5)), some (.inr u_8)]) (st' := [.inl (h_i M_9 (h_r M_1 u_2 5) 7), .inl v_10]) (M' := M_9) c_53 rfl).trans (t_i ?_ rfl)
            refine (ev_i (v_10 ≤ (h_i M_9 (h_r M_1 u_2 5) 7)) (i1 := 52) (l1 := [some (.inr a0), some (.inl i1), some (.inr u_2), some (.inr (h_r M_1 u_2 5)), some (.inr u_8)]) (s1 := []) (M1 := M_9) (i2 := 48) (l2 := [some (.inr a0), some (.inl i1), some (.inr u_2), some (.inr (h_r M_1 u_2 5)), some (.inr u_8)]) (s2 := []) (M2 := M_9) c_53 rfl).trans (t_i ?_ ?_)
            · skip
              refine (ev_ns c_53 2 (ip' := 54) (ls' := [some (.inr a0), some (.inl i1), some (.inr u_2), some (.inr (h_r M_1 u_2 5)), some (.inr u_8)]) (st' := [.inr (h_r M_1 u_2 5), .inr u_8]) (M' := M_9) rfl).trans ?_
              refine (ev_g (h_k M_9 (h_r M_1 u_2 5) = 5) (ip' := 55) (ls' := [some (.inr a0), some (.inl i1), some (.inr u_2), some (.inr (h_r M_1 u_2 5)), some (.inr u_8)]) (st' := [.inl (h_i M_9 (h_r M_1 u_2 5) 8), .inr u_8]) (M' := M_9) c_53 rfl).trans (t_i ?_ rfl)
              refine (ev_g (h_k M_9 u_8 = 2) (ip' := 56) (ls' := [some (.inr a0), some (.inl i1), some (.inr u_2), some (.inr (h_r M_1 u_2 5)), some (.inr u_8)]) (st' := []) (M' := h_si M_9 u_8 2 (h_i M_9 (h_r M_1 u_2 5) 8)) c_53 rfl).trans (t_i ?_ rfl)
              refine (ev_ns c_53 2 (ip' := 58) (ls' := [some (.inr a0), some (.inl i1), some (.inr u_2), some (.inr (h_r M_1 u_2 5)), some (.inr u_8)]) (st' := [.inr u_8, .inr (h_r M_1 u_2 5)]) (M' := h_si M_9 u_8 2 (h_i M_9 (h_r M_1 u_2 5) 8)) rfl).trans ?_
              refine (ev_gI (a_rec (h_si M_9 u_8 2 (h_i M_9 (h_r M_1 u_2 5) 8)) 2 [.inr u_8] = true ∧ ([.inr (h_r M_1 u_2 5)] : List mV).length ≤ 8) (as := [.inr u_8]) (rr := [.inr (h_r M_1 u_2 5)]) c_53 c_13 rfl).trans (t_i (t_cI ?_) rfl)
              intro v_12 M_11
              refine (ev_g (h_k M_11 (h_r M_1 u_2 5) = 5) (ip' := 60) (ls' := [some (.inr a0), some (.inl i1), some (.inr u_2), some (.inr (h_r M_1 u_2 5)), some (.inr u_8)]) (st' := []) (M' := h_si M_11 (h_r M_1 u_2 5) 6 v_12) c_53 rfl).trans (t_i ?_ rfl)
              refine (ev_ns c_53 2 (ip' := 62) (ls' := [some (.inr a0), some (.inl i1), some (.inr u_2), some (.inr (h_r M_1 u_2 5)), some (.inr u_8)]) (st' := [.inr (h_r M_1 u_2 5), .inr a0]) (M' := h_si M_11 (h_r M_1 u_2 5) 6 v_12) rfl).trans ?_
              refine (ev_g (h_k (h_si M_11 (h_r M_1 u_2 5) 6 v_12) (h_r M_1 u_2 5) = 5) (ip' := 63) (ls' := [some (.inr a0), some (.inl i1), some (.inr u_2), some (.inr (h_r M_1 u_2 5)), some (.inr u_8)]) (st' := [.inl (h_i (h_si M_11 (h_r M_1 u_2 5) 6 v_12) (h_r M_1 u_2 5) 6), .inr a0]) (M' := h_si M_11 (h_r M_1 u_2 5) 6 v_12) c_53 rfl).trans (t_i ?_ rfl)
              refine (ev_gI (a_rec (h_si M_11 (h_r M_1 u_2 5) 6 v_12) 7 [.inr a0, .inl (h_i (h_si M_11 (h_r M_1 u_2 5) 6 v_12) (h_r M_1 u_2 5) 6)] = true ∧ ([] : List mV).length ≤ 8) (as := [.inr a0, .inl (h_i (h_si M_11 (h_r M_1 u_2 5) 6 v_12) (h_r M_1 u_2 5) 6)]) (rr := []) c_53 c_73 rfl).trans (t_i (t_cI ?_) rfl)
              intro v_14 M_13
              exact ev_d c_53 rfl
            · skip
              exact rfl
      · skip
        exact rfl
set_option maxRecDepth 20000 in
theorem e_53_28 (a0 : Nat) (i1 : Int32) (a2 : Nat) (a3 : Nat) (M : mM) : ev 53 28 [some (.inr a0), some (.inl i1), some (.inr a2), some (.inr a3), none] [] M = if (a_rec M 7 [.inr a0, .inl 4] = true ∧ ([] : List mV).length ≤ 8) then (c_I (ev 75 0 [some (.inr a0), some (.inl 4)] [] M) fun v_2 M_1 => some (some (.inl v_2), M_1)) else none := by
  refine (ev_ns c_53 2 (ip' := 30) (ls' := [some (.inr a0), some (.inl i1), some (.inr a2), some (.inr a3), none]) (st' := [.inl 4, .inr a0]) (M' := M) rfl).trans ?_
  refine (ev_gI (a_rec M 7 [.inr a0, .inl 4] = true ∧ ([] : List mV).length ≤ 8) (as := [.inr a0, .inl 4]) (rr := []) c_53 c_75 rfl).trans (t_i (t_cI ?_) rfl)
  intro v_2 M_1
  exact ev_d c_53 rfl
set_option maxRecDepth 20000 in
theorem e_53_48 (a0 : Nat) (i1 : Int32) (a2 : Nat) (a3 : Nat) (a4 : Nat) (M : mM) : ev 53 48 [some (.inr a0), some (.inl i1), some (.inr a2), some (.inr a3), some (.inr a4)] [] M = if (a_rec M 7 [.inr a0, .inl 5] = true ∧ ([] : List mV).length ≤ 8) then (c_I (ev 75 0 [some (.inr a0), some (.inl 5)] [] M) fun v_2 M_1 => some (some (.inl v_2), M_1)) else none := by
  refine (ev_ns c_53 2 (ip' := 50) (ls' := [some (.inr a0), some (.inl i1), some (.inr a2), some (.inr a3), some (.inr a4)]) (st' := [.inl 5, .inr a0]) (M' := M) rfl).trans ?_
  refine (ev_gI (a_rec M 7 [.inr a0, .inl 5] = true ∧ ([] : List mV).length ≤ 8) (as := [.inr a0, .inl 5]) (rr := []) c_53 c_75 rfl).trans (t_i (t_cI ?_) rfl)
  intro v_2 M_1
  exact ev_d c_53 rfl
/- 54: GranuleHall.move(II)I -/
set_option maxRecDepth 20000 in
theorem e_54_0 (a0 : Nat) (i1 : Int32) (i2 : Int32) (M : mM) : ev 54 0 [some (.inr a0), some (.inl i1), some (.inl i2), none] [] M = if h_k M a0 = 7 then (if (h_r M a0 3) = 0 then (if (a_rec M 7 [.inr a0, .inl 4] = true ∧ ([] : List mV).length ≤ 8) then (c_I (ev 75 0 [some (.inr a0), some (.inl 4)] [] M) fun v_2 M_1 => some (some (.inl v_2), M_1)) else none) else (if (a_rec M 0 [.inl i1] = true ∧ ([] : List mV).length ≤ 8) then (c_I (ev 81 0 [some (.inl i1)] [] M) fun v_4 M_3 => if v_4 = 0 then (if (a_rec M_3 7 [.inr a0] = true ∧ ([] : List mV).length ≤ 8) then (c_I (ev 77 0 [some (.inr a0)] [] M_3) fun v_6 M_5 => some (some (.inl v_6), M_5)) else none) else (if h_k M_3 (h_r M a0 3) = 5 then (if h_k M_3 (h_r M_3 (h_r M a0 3) 3) = 9 ∧ h_in i1 (h_l M_3 (h_r M_3 (h_r M a0 3) 3)) then (if (a_rec (h_si M_3 (h_r M_3 (h_r M a0 3) 3) (i1).toNatClampNeg i2) 7 [.inr a0, .inl 0] = true ∧ ([] : List mV).length ≤ 8) then (c_I (ev 73 0 [some (.inr a0), some (.inl 0)] [] (h_si M_3 (h_r M_3 (h_r M a0 3) 3) (i1).toNatClampNeg i2)) fun v_8 M_7 => some (some (.inl v_8), M_7)) else none) else none) else none)) else none)) else none := by
  refine (ev_ns c_54 1 (ip' := 1) (ls' := [some (.inr a0), some (.inl i1), some (.inl i2), none]) (st' := [.inr a0]) (M' := M) rfl).trans ?_
  refine (ev_g (h_k M a0 = 7) (ip' := 2) (ls' := [some (.inr a0), some (.inl i1), some (.inl i2), none]) (st' := [.inr (h_r M a0 3)]) (M' := M) c_54 rfl).trans (t_i ?_ rfl)
  refine (ev_ns c_54 2 (ip' := 4) (ls' := [some (.inr a0), some (.inl i1), some (.inl i2), some (.inr (h_r M a0 3))]) (st' := [.inr (h_r M a0 3)]) (M' := M) rfl).trans ?_
  refine (ev_i ((h_r M a0 3) = 0) (i1 := 5) (l1 := [some (.inr a0), some (.inl i1), some (.inl i2), some (.inr (h_r M a0 3))]) (s1 := []) (M1 := M) (i2 := 9) (l2 := [some (.inr a0), some (.inl i1), some (.inl i2), some (.inr (h_r M a0 3))]) (s2 := []) (M2 := M) c_54 rfl).trans (t_i ?_ ?_)
  · skip
    refine (ev_ns c_54 2 (ip' := 7) (ls' := [some (.inr a0), some (.inl i1), some (.inl i2), some (.inr (h_r M a0 3))]) (st' := [.inl 4, .inr a0]) (M' := M) rfl).trans ?_
    refine (ev_gI (a_rec M 7 [.inr a0, .inl 4] = true ∧ ([] : List mV).length ≤ 8) (as := [.inr a0, .inl 4]) (rr := []) c_54 c_75 rfl).trans (t_i (t_cI ?_) rfl)
    intro v_2 M_1
    exact ev_d c_54 rfl
  · skip
    refine (ev_ns c_54 1 (ip' := 10) (ls' := [some (.inr a0), some (.inl i1), some (.inl i2), some (.inr (h_r M a0 3))]) (st' := [.inl i1]) (M' := M) rfl).trans ?_
    refine (ev_gI (a_rec M 0 [.inl i1] = true ∧ ([] : List mV).length ≤ 8) (as := [.inl i1]) (rr := []) c_54 c_81 rfl).trans (t_i (t_cI ?_) rfl)
    intro v_4 M_3
    refine (ev_i (v_4 = 0) (i1 := 12) (l1 := [some (.inr a0), some (.inl i1), some (.inl i2), some (.inr (h_r M a0 3))]) (s1 := []) (M1 := M_3) (i2 := 15) (l2 := [some (.inr a0), some (.inl i1), some (.inl i2), some (.inr (h_r M a0 3))]) (s2 := []) (M2 := M_3) c_54 rfl).trans (t_i ?_ ?_)
    · skip
      refine (ev_ns c_54 1 (ip' := 13) (ls' := [some (.inr a0), some (.inl i1), some (.inl i2), some (.inr (h_r M a0 3))]) (st' := [.inr a0]) (M' := M_3) rfl).trans ?_
      refine (ev_gI (a_rec M_3 7 [.inr a0] = true ∧ ([] : List mV).length ≤ 8) (as := [.inr a0]) (rr := []) c_54 c_77 rfl).trans (t_i (t_cI ?_) rfl)
      intro v_6 M_5
      exact ev_d c_54 rfl
    · skip
      refine (ev_ns c_54 1 (ip' := 16) (ls' := [some (.inr a0), some (.inl i1), some (.inl i2), some (.inr (h_r M a0 3))]) (st' := [.inr (h_r M a0 3)]) (M' := M_3) rfl).trans ?_
      refine (ev_g (h_k M_3 (h_r M a0 3) = 5) (ip' := 17) (ls' := [some (.inr a0), some (.inl i1), some (.inl i2), some (.inr (h_r M a0 3))]) (st' := [.inr (h_r M_3 (h_r M a0 3) 3)]) (M' := M_3) c_54 rfl).trans (t_i ?_ rfl)
      refine (ev_ns c_54 2 (ip' := 19) (ls' := [some (.inr a0), some (.inl i1), some (.inl i2), some (.inr (h_r M a0 3))]) (st' := [.inl i2, .inl i1, .inr (h_r M_3 (h_r M a0 3) 3)]) (M' := M_3) rfl).trans ?_
      refine (ev_g (h_k M_3 (h_r M_3 (h_r M a0 3) 3) = 9 ∧ h_in i1 (h_l M_3 (h_r M_3 (h_r M a0 3) 3))) (ip' := 20) (ls' := [some (.inr a0), some (.inl i1), some (.inl i2), some (.inr (h_r M a0 3))]) (st' := []) (M' := h_si M_3 (h_r M_3 (h_r M a0 3) 3) (i1).toNatClampNeg i2) c_54 rfl).trans (t_i ?_ rfl)
      refine (ev_ns c_54 2 (ip' := 22) (ls' := [some (.inr a0), some (.inl i1), some (.inl i2), some (.inr (h_r M a0 3))]) (st' := [.inl 0, .inr a0]) (M' := h_si M_3 (h_r M_3 (h_r M a0 3) 3) (i1).toNatClampNeg i2) rfl).trans ?_
      refine (ev_gI (a_rec (h_si M_3 (h_r M_3 (h_r M a0 3) 3) (i1).toNatClampNeg i2) 7 [.inr a0, .inl 0] = true ∧ ([] : List mV).length ≤ 8) (as := [.inr a0, .inl 0]) (rr := []) c_54 c_73 rfl).trans (t_i (t_cI ?_) rfl)
      intro v_8 M_7
      exact ev_d c_54 rfl
/- 55: GranuleHall.fetch(III)I -/
set_option maxRecDepth 20000 in
theorem e_55_0 (a0 : Nat) (i1 : Int32) (i2 : Int32) (i3 : Int32) (M : mM) : ev 55 0 [some (.inr a0), some (.inl i1), some (.inl i2), some (.inl i3), none, none] [] M = if h_k M a0 = 7 then (if (h_r M a0 3) = 0 then (if (a_rec M 7 [.inr a0, .inl 4] = true ∧ ([] : List mV).length ≤ 8) then (c_I (ev 75 0 [some (.inr a0), some (.inl 4)] [] M) fun v_2 M_1 => some (some (.inl v_2), M_1)) else none) else (if (a_rec M 0 [.inl i1] = true ∧ ([] : List mV).length ≤ 8) then (c_I (ev 81 0 [some (.inl i1)] [] M) fun v_4 M_3 => if v_4 = 0 then (ev 55 18 [some (.inr a0), some (.inl i1), some (.inl i2), some (.inl i3), some (.inr (h_r M a0 3)), none] [] M_3) else (if (a_rec M_3 0 [.inl i2] = true ∧ ([] : List mV).length ≤ 8) then (c_I (ev 83 0 [some (.inl i2)] [] M_3) fun v_6 M_5 => if v_6 = 0 then (ev 55 18 [some (.inr a0), some (.inl i1), some (.inl i2), some (.inl i3), some (.inr (h_r M a0 3)), none] [] M_5) else (if (a_rec M_5 0 [.inl i3] = true ∧ ([] : List mV).length ≤ 8) then (c_I (ev 80 0 [some (.inl i3)] [] M_5) fun v_8 M_7 => if v_8 = 0 then (ev 55 18 [some (.inr a0), some (.inl i1), some (.inl i2), some (.inl i3), some (.inr (h_r M a0 3)), none] [] M_7) else (if h_k M_7 (h_r M a0 3) = 5 then (if (a_rec M_7 0 [.inr (h_r M_7 (h_r M a0 3) 1), .inl i2] = true ∧ ([] : List mV).length ≤ 8) then (c_R (ev 95 0 [some (.inr (h_r M_7 (h_r M a0 3) 1)), some (.inl i2), none, none, none] [] M_7) fun u_10 M_9 => if u_10 = 0 then (if (a_rec M_9 7 [.inr a0, .inr (h_r M a0 3), .inl i2, .inl 0] = true ∧ ([] : List mV).length ≤ 8) then (c_I (ev 96 0 [some (.inr a0), some (.inr (h_r M a0 3)), some (.inl i2), some (.inl 0)] [] M_9) fun v_12 M_11 => some (some (.inl v_12), M_11)) else none) else (if h_k M_9 (h_r M a0 3) = 5 then (if h_k M_9 u_10 = 3 then (if (h_k M_9 (h_r M_9 u_10 1) = 9 ∨ h_k M_9 (h_r M_9 u_10 1) = 14) ∧ h_in i3 (h_l M_9 (h_r M_9 u_10 1)) then (if h_k M_9 (h_r M_9 (h_r M a0 3) 3) = 9 ∧ h_in i1 (h_l M_9 (h_r M_9 (h_r M a0 3) 3)) then (if (a_rec (h_si M_9 (h_r M_9 (h_r M a0 3) 3) (i1).toNatClampNeg (h_i M_9 (h_r M_9 u_10 1) (i3).toNatClampNeg)) 7 [.inr a0, .inl 0] = true ∧ ([] : List mV).length ≤ 8) then (c_I (ev 73 0 [some (.inr a0), some (.inl 0)] [] (h_si M_9 (h_r M_9 (h_r M a0 3) 3) (i1).toNatClampNeg (h_i M_9 (h_r M_9 u_10 1) (i3).toNatClampNeg))) fun v_14 M_13 => some (some (.inl v_14), M_13)) else none) else none) else none) else none) else none)) else none) else none)) else none)) else none)) else none)) else none := by
  refine (ev_ns c_55 1 (ip' := 1) (ls' := [some (.inr a0), some (.inl i1), some (.inl i2), some (.inl i3), none, none]) (st' := [.inr a0]) (M' := M) rfl).trans ?_
  refine (ev_g (h_k M a0 = 7) (ip' := 2) (ls' := [some (.inr a0), some (.inl i1), some (.inl i2), some (.inl i3), none, none]) (st' := [.inr (h_r M a0 3)]) (M' := M) c_55 rfl).trans (t_i ?_ rfl)
  refine (ev_ns c_55 2 (ip' := 4) (ls' := [some (.inr a0), some (.inl i1), some (.inl i2), some (.inl i3), some (.inr (h_r M a0 3)), none]) (st' := [.inr (h_r M a0 3)]) (M' := M) rfl).trans ?_
  refine (ev_i ((h_r M a0 3) = 0) (i1 := 5) (l1 := [some (.inr a0), some (.inl i1), some (.inl i2), some (.inl i3), some (.inr (h_r M a0 3)), none]) (s1 := []) (M1 := M) (i2 := 9) (l2 := [some (.inr a0), some (.inl i1), some (.inl i2), some (.inl i3), some (.inr (h_r M a0 3)), none]) (s2 := []) (M2 := M) c_55 rfl).trans (t_i ?_ ?_)
  · skip
    refine (ev_ns c_55 2 (ip' := 7) (ls' := [some (.inr a0), some (.inl i1), some (.inl i2), some (.inl i3), some (.inr (h_r M a0 3)), none]) (st' := [.inl 4, .inr a0]) (M' := M) rfl).trans ?_
    refine (ev_gI (a_rec M 7 [.inr a0, .inl 4] = true ∧ ([] : List mV).length ≤ 8) (as := [.inr a0, .inl 4]) (rr := []) c_55 c_75 rfl).trans (t_i (t_cI ?_) rfl)
    intro v_2 M_1
    exact ev_d c_55 rfl
  · skip
    refine (ev_ns c_55 1 (ip' := 10) (ls' := [some (.inr a0), some (.inl i1), some (.inl i2), some (.inl i3), some (.inr (h_r M a0 3)), none]) (st' := [.inl i1]) (M' := M) rfl).trans ?_
    refine (ev_gI (a_rec M 0 [.inl i1] = true ∧ ([] : List mV).length ≤ 8) (as := [.inl i1]) (rr := []) c_55 c_81 rfl).trans (t_i (t_cI ?_) rfl)
    intro v_4 M_3
    refine (ev_i (v_4 = 0) (i1 := 18) (l1 := [some (.inr a0), some (.inl i1), some (.inl i2), some (.inl i3), some (.inr (h_r M a0 3)), none]) (s1 := []) (M1 := M_3) (i2 := 12) (l2 := [some (.inr a0), some (.inl i1), some (.inl i2), some (.inl i3), some (.inr (h_r M a0 3)), none]) (s2 := []) (M2 := M_3) c_55 rfl).trans (t_i ?_ ?_)
    · skip
      exact rfl
    · skip
      refine (ev_ns c_55 1 (ip' := 13) (ls' := [some (.inr a0), some (.inl i1), some (.inl i2), some (.inl i3), some (.inr (h_r M a0 3)), none]) (st' := [.inl i2]) (M' := M_3) rfl).trans ?_
      refine (ev_gI (a_rec M_3 0 [.inl i2] = true ∧ ([] : List mV).length ≤ 8) (as := [.inl i2]) (rr := []) c_55 c_83 rfl).trans (t_i (t_cI ?_) rfl)
      intro v_6 M_5
      refine (ev_i (v_6 = 0) (i1 := 18) (l1 := [some (.inr a0), some (.inl i1), some (.inl i2), some (.inl i3), some (.inr (h_r M a0 3)), none]) (s1 := []) (M1 := M_5) (i2 := 15) (l2 := [some (.inr a0), some (.inl i1), some (.inl i2), some (.inl i3), some (.inr (h_r M a0 3)), none]) (s2 := []) (M2 := M_5) c_55 rfl).trans (t_i ?_ ?_)
      · skip
        exact rfl
      · skip
        refine (ev_ns c_55 1 (ip' := 16) (ls' := [some (.inr a0), some (.inl i1), some (.inl i2), some (.inl i3), some (.inr (h_r M a0 3)), none]) (st' := [.inl i3]) (M' := M_5) rfl).trans ?_
        refine (ev_gI (a_rec M_5 0 [.inl i3] = true ∧ ([] : List mV).length ≤ 8) (as := [.inl i3]) (rr := []) c_55 c_80 rfl).trans (t_i (t_cI ?_) rfl)
        intro v_8 M_7
        refine (ev_i (v_8 = 0) (i1 := 18) (l1 := [some (.inr a0), some (.inl i1), some (.inl i2), some (.inl i3), some (.inr (h_r M a0 3)), none]) (s1 := []) (M1 := M_7) (i2 := 21) (l2 := [some (.inr a0), some (.inl i1), some (.inl i2), some (.inl i3), some (.inr (h_r M a0 3)), none]) (s2 := []) (M2 := M_7) c_55 rfl).trans (t_i ?_ ?_)
        · skip
          exact rfl
        · skip
          refine (ev_ns c_55 1 (ip' := 22) (ls' := [some (.inr a0), some (.inl i1), some (.inl i2), some (.inl i3), some (.inr (h_r M a0 3)), none]) (st' := [.inr (h_r M a0 3)]) (M' := M_7) rfl).trans ?_
          refine (ev_g (h_k M_7 (h_r M a0 3) = 5) (ip' := 23) (ls' := [some (.inr a0), some (.inl i1), some (.inl i2), some (.inl i3), some (.inr (h_r M a0 3)), none]) (st' := [.inr (h_r M_7 (h_r M a0 3) 1)]) (M' := M_7) c_55 rfl).trans (t_i ?_ rfl)
          refine (ev_ns c_55 1 (ip' := 24) (ls' := [some (.inr a0), some (.inl i1), some (.inl i2), some (.inl i3), some (.inr (h_r M a0 3)), none]) (st' := [.inl i2, .inr (h_r M_7 (h_r M a0 3) 1)]) (M' := M_7) rfl).trans ?_
          refine (ev_gR (a_rec M_7 0 [.inr (h_r M_7 (h_r M a0 3) 1), .inl i2] = true ∧ ([] : List mV).length ≤ 8) (as := [.inr (h_r M_7 (h_r M a0 3) 1), .inl i2]) (rr := []) c_55 c_95 rfl).trans (t_i (t_cR ?_) rfl)
          intro u_10 M_9
          refine (ev_ns c_55 2 (ip' := 27) (ls' := [some (.inr a0), some (.inl i1), some (.inl i2), some (.inl i3), some (.inr (h_r M a0 3)), some (.inr u_10)]) (st' := [.inr u_10]) (M' := M_9) rfl).trans ?_
          refine (ev_i (u_10 = 0) (i1 := 28) (l1 := [some (.inr a0), some (.inl i1), some (.inl i2), some (.inl i3), some (.inr (h_r M a0 3)), some (.inr u_10)]) (s1 := []) (M1 := M_9) (i2 := 34) (l2 := [some (.inr a0), some (.inl i1), some (.inl i2), some (.inl i3), some (.inr (h_r M a0 3)), some (.inr u_10)]) (s2 := []) (M2 := M_9) c_55 rfl).trans (t_i ?_ ?_)
          · skip
            refine (ev_ns c_55 4 (ip' := 32) (ls' := [some (.inr a0), some (.inl i1), some (.inl i2), some (.inl i3), some (.inr (h_r M a0 3)), some (.inr u_10)]) (st' := [.inl 0, .inl i2, .inr (h_r M a0 3), .inr a0]) (M' := M_9) rfl).trans ?_
            refine (ev_gI (a_rec M_9 7 [.inr a0, .inr (h_r M a0 3), .inl i2, .inl 0] = true ∧ ([] : List mV).length ≤ 8) (as := [.inr a0, .inr (h_r M a0 3), .inl i2, .inl 0]) (rr := []) c_55 c_96 rfl).trans (t_i (t_cI ?_) rfl)
            intro v_12 M_11
            exact ev_d c_55 rfl
          · skip
            refine (ev_ns c_55 1 (ip' := 35) (ls' := [some (.inr a0), some (.inl i1), some (.inl i2), some (.inl i3), some (.inr (h_r M a0 3)), some (.inr u_10)]) (st' := [.inr (h_r M a0 3)]) (M' := M_9) rfl).trans ?_
            refine (ev_g (h_k M_9 (h_r M a0 3) = 5) (ip' := 36) (ls' := [some (.inr a0), some (.inl i1), some (.inl i2), some (.inl i3), some (.inr (h_r M a0 3)), some (.inr u_10)]) (st' := [.inr (h_r M_9 (h_r M a0 3) 3)]) (M' := M_9) c_55 rfl).trans (t_i ?_ rfl)
            refine (ev_ns c_55 2 (ip' := 38) (ls' := [some (.inr a0), some (.inl i1), some (.inl i2), some (.inl i3), some (.inr (h_r M a0 3)), some (.inr u_10)]) (st' := [.inr u_10, .inl i1, .inr (h_r M_9 (h_r M a0 3) 3)]) (M' := M_9) rfl).trans ?_
            refine (ev_g (h_k M_9 u_10 = 3) (ip' := 39) (ls' := [some (.inr a0), some (.inl i1), some (.inl i2), some (.inl i3), some (.inr (h_r M a0 3)), some (.inr u_10)]) (st' := [.inr (h_r M_9 u_10 1), .inl i1, .inr (h_r M_9 (h_r M a0 3) 3)]) (M' := M_9) c_55 rfl).trans (t_i ?_ rfl)
            refine (ev_ns c_55 1 (ip' := 40) (ls' := [some (.inr a0), some (.inl i1), some (.inl i2), some (.inl i3), some (.inr (h_r M a0 3)), some (.inr u_10)]) (st' := [.inl i3, .inr (h_r M_9 u_10 1), .inl i1, .inr (h_r M_9 (h_r M a0 3) 3)]) (M' := M_9) rfl).trans ?_
            refine (ev_g ((h_k M_9 (h_r M_9 u_10 1) = 9 ∨ h_k M_9 (h_r M_9 u_10 1) = 14) ∧ h_in i3 (h_l M_9 (h_r M_9 u_10 1))) (ip' := 41) (ls' := [some (.inr a0), some (.inl i1), some (.inl i2), some (.inl i3), some (.inr (h_r M a0 3)), some (.inr u_10)]) (st' := [.inl (h_i M_9 (h_r M_9 u_10 1) (i3).toNatClampNeg), .inl i1, .inr (h_r M_9 (h_r M a0 3) 3)]) (M' := M_9) c_55 rfl).trans (t_i ?_ rfl)
            refine (ev_g (h_k M_9 (h_r M_9 (h_r M a0 3) 3) = 9 ∧ h_in i1 (h_l M_9 (h_r M_9 (h_r M a0 3) 3))) (ip' := 42) (ls' := [some (.inr a0), some (.inl i1), some (.inl i2), some (.inl i3), some (.inr (h_r M a0 3)), some (.inr u_10)]) (st' := []) (M' := h_si M_9 (h_r M_9 (h_r M a0 3) 3) (i1).toNatClampNeg (h_i M_9 (h_r M_9 u_10 1) (i3).toNatClampNeg)) c_55 rfl).trans (t_i ?_ rfl)
            refine (ev_ns c_55 2 (ip' := 44) (ls' := [some (.inr a0), some (.inl i1), some (.inl i2), some (.inl i3), some (.inr (h_r M a0 3)), some (.inr u_10)]) (st' := [.inl 0, .inr a0]) (M' := h_si M_9 (h_r M_9 (h_r M a0 3) 3) (i1).toNatClampNeg (h_i M_9 (h_r M_9 u_10 1) (i3).toNatClampNeg)) rfl).trans ?_
            refine (ev_gI (a_rec (h_si M_9 (h_r M_9 (h_r M a0 3) 3) (i1).toNatClampNeg (h_i M_9 (h_r M_9 u_10 1) (i3).toNatClampNeg)) 7 [.inr a0, .inl 0] = true ∧ ([] : List mV).length ≤ 8) (as := [.inr a0, .inl 0]) (rr := []) c_55 c_73 rfl).trans (t_i (t_cI ?_) rfl)
            intro v_14 M_13
            exact ev_d c_55 rfl
set_option maxRecDepth 20000 in
theorem e_55_18 (a0 : Nat) (i1 : Int32) (i2 : Int32) (i3 : Int32) (a4 : Nat) (M : mM) : ev 55 18 [some (.inr a0), some (.inl i1), some (.inl i2), some (.inl i3), some (.inr a4), none] [] M = if (a_rec M 7 [.inr a0] = true ∧ ([] : List mV).length ≤ 8) then (c_I (ev 77 0 [some (.inr a0)] [] M) fun v_2 M_1 => some (some (.inl v_2), M_1)) else none := by
  refine (ev_ns c_55 1 (ip' := 19) (ls' := [some (.inr a0), some (.inl i1), some (.inl i2), some (.inl i3), some (.inr a4), none]) (st' := [.inr a0]) (M' := M) rfl).trans ?_
  refine (ev_gI (a_rec M 7 [.inr a0] = true ∧ ([] : List mV).length ≤ 8) (as := [.inr a0]) (rr := []) c_55 c_77 rfl).trans (t_i (t_cI ?_) rfl)
  intro v_2 M_1
  exact ev_d c_55 rfl
/- 56: GranuleHall.put(III)I -/
set_option maxRecDepth 20000 in
theorem e_56_0 (a0 : Nat) (i1 : Int32) (i2 : Int32) (i3 : Int32) (M : mM) : ev 56 0 [some (.inr a0), some (.inl i1), some (.inl i2), some (.inl i3), none, none] [] M = if h_k M a0 = 7 then (if (h_r M a0 3) = 0 then (if (a_rec M 7 [.inr a0, .inl 4] = true ∧ ([] : List mV).length ≤ 8) then (c_I (ev 75 0 [some (.inr a0), some (.inl 4)] [] M) fun v_2 M_1 => some (some (.inl v_2), M_1)) else none) else (if (a_rec M 0 [.inl i1] = true ∧ ([] : List mV).length ≤ 8) then (c_I (ev 81 0 [some (.inl i1)] [] M) fun v_4 M_3 => if v_4 = 0 then (ev 56 18 [some (.inr a0), some (.inl i1), some (.inl i2), some (.inl i3), some (.inr (h_r M a0 3)), none] [] M_3) else (if (a_rec M_3 0 [.inl i2] = true ∧ ([] : List mV).length ≤ 8) then (c_I (ev 83 0 [some (.inl i2)] [] M_3) fun v_6 M_5 => if v_6 = 0 then (ev 56 18 [some (.inr a0), some (.inl i1), some (.inl i2), some (.inl i3), some (.inr (h_r M a0 3)), none] [] M_5) else (if (a_rec M_5 0 [.inl i3] = true ∧ ([] : List mV).length ≤ 8) then (c_I (ev 80 0 [some (.inl i3)] [] M_5) fun v_8 M_7 => if v_8 = 0 then (ev 56 18 [some (.inr a0), some (.inl i1), some (.inl i2), some (.inl i3), some (.inr (h_r M a0 3)), none] [] M_7) else (if h_k M_7 (h_r M a0 3) = 5 then (if (a_rec M_7 0 [.inr (h_r M_7 (h_r M a0 3) 1), .inl i2] = true ∧ ([] : List mV).length ≤ 8) then (c_R (ev 95 0 [some (.inr (h_r M_7 (h_r M a0 3) 1)), some (.inl i2), none, none, none] [] M_7) fun u_10 M_9 => if u_10 = 0 then (if (a_rec M_9 7 [.inr a0, .inr (h_r M a0 3), .inl i2, .inl 1] = true ∧ ([] : List mV).length ≤ 8) then (c_I (ev 96 0 [some (.inr a0), some (.inr (h_r M a0 3)), some (.inl i2), some (.inl 1)] [] M_9) fun v_12 M_11 => some (some (.inl v_12), M_11)) else none) else (if h_k M_9 u_10 = 3 then (if h_k M_9 (h_r M a0 3) = 5 then (if (h_k M_9 (h_r M_9 (h_r M a0 3) 3) = 9 ∨ h_k M_9 (h_r M_9 (h_r M a0 3) 3) = 14) ∧ h_in i1 (h_l M_9 (h_r M_9 (h_r M a0 3) 3)) then (if h_k M_9 (h_r M_9 u_10 1) = 9 ∧ h_in i3 (h_l M_9 (h_r M_9 u_10 1)) then (if (a_rec (h_si M_9 (h_r M_9 u_10 1) (i3).toNatClampNeg (h_i M_9 (h_r M_9 (h_r M a0 3) 3) (i1).toNatClampNeg)) 7 [.inr a0, .inl 0] = true ∧ ([] : List mV).length ≤ 8) then (c_I (ev 73 0 [some (.inr a0), some (.inl 0)] [] (h_si M_9 (h_r M_9 u_10 1) (i3).toNatClampNeg (h_i M_9 (h_r M_9 (h_r M a0 3) 3) (i1).toNatClampNeg))) fun v_14 M_13 => some (some (.inl v_14), M_13)) else none) else none) else none) else none) else none)) else none) else none)) else none)) else none)) else none)) else none := by
  refine (ev_ns c_56 1 (ip' := 1) (ls' := [some (.inr a0), some (.inl i1), some (.inl i2), some (.inl i3), none, none]) (st' := [.inr a0]) (M' := M) rfl).trans ?_
  refine (ev_g (h_k M a0 = 7) (ip' := 2) (ls' := [some (.inr a0), some (.inl i1), some (.inl i2), some (.inl i3), none, none]) (st' := [.inr (h_r M a0 3)]) (M' := M) c_56 rfl).trans (t_i ?_ rfl)
  refine (ev_ns c_56 2 (ip' := 4) (ls' := [some (.inr a0), some (.inl i1), some (.inl i2), some (.inl i3), some (.inr (h_r M a0 3)), none]) (st' := [.inr (h_r M a0 3)]) (M' := M) rfl).trans ?_
  refine (ev_i ((h_r M a0 3) = 0) (i1 := 5) (l1 := [some (.inr a0), some (.inl i1), some (.inl i2), some (.inl i3), some (.inr (h_r M a0 3)), none]) (s1 := []) (M1 := M) (i2 := 9) (l2 := [some (.inr a0), some (.inl i1), some (.inl i2), some (.inl i3), some (.inr (h_r M a0 3)), none]) (s2 := []) (M2 := M) c_56 rfl).trans (t_i ?_ ?_)
  · skip
    refine (ev_ns c_56 2 (ip' := 7) (ls' := [some (.inr a0), some (.inl i1), some (.inl i2), some (.inl i3), some (.inr (h_r M a0 3)), none]) (st' := [.inl 4, .inr a0]) (M' := M) rfl).trans ?_
    refine (ev_gI (a_rec M 7 [.inr a0, .inl 4] = true ∧ ([] : List mV).length ≤ 8) (as := [.inr a0, .inl 4]) (rr := []) c_56 c_75 rfl).trans (t_i (t_cI ?_) rfl)
    intro v_2 M_1
    exact ev_d c_56 rfl
  · skip
    refine (ev_ns c_56 1 (ip' := 10) (ls' := [some (.inr a0), some (.inl i1), some (.inl i2), some (.inl i3), some (.inr (h_r M a0 3)), none]) (st' := [.inl i1]) (M' := M) rfl).trans ?_
    refine (ev_gI (a_rec M 0 [.inl i1] = true ∧ ([] : List mV).length ≤ 8) (as := [.inl i1]) (rr := []) c_56 c_81 rfl).trans (t_i (t_cI ?_) rfl)
    intro v_4 M_3
    refine (ev_i (v_4 = 0) (i1 := 18) (l1 := [some (.inr a0), some (.inl i1), some (.inl i2), some (.inl i3), some (.inr (h_r M a0 3)), none]) (s1 := []) (M1 := M_3) (i2 := 12) (l2 := [some (.inr a0), some (.inl i1), some (.inl i2), some (.inl i3), some (.inr (h_r M a0 3)), none]) (s2 := []) (M2 := M_3) c_56 rfl).trans (t_i ?_ ?_)
    · skip
      exact rfl
    · skip
      refine (ev_ns c_56 1 (ip' := 13) (ls' := [some (.inr a0), some (.inl i1), some (.inl i2), some (.inl i3), some (.inr (h_r M a0 3)), none]) (st' := [.inl i2]) (M' := M_3) rfl).trans ?_
      refine (ev_gI (a_rec M_3 0 [.inl i2] = true ∧ ([] : List mV).length ≤ 8) (as := [.inl i2]) (rr := []) c_56 c_83 rfl).trans (t_i (t_cI ?_) rfl)
      intro v_6 M_5
      refine (ev_i (v_6 = 0) (i1 := 18) (l1 := [some (.inr a0), some (.inl i1), some (.inl i2), some (.inl i3), some (.inr (h_r M a0 3)), none]) (s1 := []) (M1 := M_5) (i2 := 15) (l2 := [some (.inr a0), some (.inl i1), some (.inl i2), some (.inl i3), some (.inr (h_r M a0 3)), none]) (s2 := []) (M2 := M_5) c_56 rfl).trans (t_i ?_ ?_)
      · skip
        exact rfl
      · skip
        refine (ev_ns c_56 1 (ip' := 16) (ls' := [some (.inr a0), some (.inl i1), some (.inl i2), some (.inl i3), some (.inr (h_r M a0 3)), none]) (st' := [.inl i3]) (M' := M_5) rfl).trans ?_
        refine (ev_gI (a_rec M_5 0 [.inl i3] = true ∧ ([] : List mV).length ≤ 8) (as := [.inl i3]) (rr := []) c_56 c_80 rfl).trans (t_i (t_cI ?_) rfl)
        intro v_8 M_7
        refine (ev_i (v_8 = 0) (i1 := 18) (l1 := [some (.inr a0), some (.inl i1), some (.inl i2), some (.inl i3), some (.inr (h_r M a0 3)), none]) (s1 := []) (M1 := M_7) (i2 := 21) (l2 := [some (.inr a0), some (.inl i1), some (.inl i2), some (.inl i3), some (.inr (h_r M a0 3)), none]) (s2 := []) (M2 := M_7) c_56 rfl).trans (t_i ?_ ?_)
        · skip
          exact rfl
        · skip
          refine (ev_ns c_56 1 (ip' := 22) (ls' := [some (.inr a0), some (.inl i1), some (.inl i2), some (.inl i3), some (.inr (h_r M a0 3)), none]) (st' := [.inr (h_r M a0 3)]) (M' := M_7) rfl).trans ?_
          refine (ev_g (h_k M_7 (h_r M a0 3) = 5) (ip' := 23) (ls' := [some (.inr a0), some (.inl i1), some (.inl i2), some (.inl i3), some (.inr (h_r M a0 3)), none]) (st' := [.inr (h_r M_7 (h_r M a0 3) 1)]) (M' := M_7) c_56 rfl).trans (t_i ?_ rfl)
          refine (ev_ns c_56 1 (ip' := 24) (ls' := [some (.inr a0), some (.inl i1), some (.inl i2), some (.inl i3), some (.inr (h_r M a0 3)), none]) (st' := [.inl i2, .inr (h_r M_7 (h_r M a0 3) 1)]) (M' := M_7) rfl).trans ?_
          refine (ev_gR (a_rec M_7 0 [.inr (h_r M_7 (h_r M a0 3) 1), .inl i2] = true ∧ ([] : List mV).length ≤ 8) (as := [.inr (h_r M_7 (h_r M a0 3) 1), .inl i2]) (rr := []) c_56 c_95 rfl).trans (t_i (t_cR ?_) rfl)
          intro u_10 M_9
          refine (ev_ns c_56 2 (ip' := 27) (ls' := [some (.inr a0), some (.inl i1), some (.inl i2), some (.inl i3), some (.inr (h_r M a0 3)), some (.inr u_10)]) (st' := [.inr u_10]) (M' := M_9) rfl).trans ?_
          refine (ev_i (u_10 = 0) (i1 := 28) (l1 := [some (.inr a0), some (.inl i1), some (.inl i2), some (.inl i3), some (.inr (h_r M a0 3)), some (.inr u_10)]) (s1 := []) (M1 := M_9) (i2 := 34) (l2 := [some (.inr a0), some (.inl i1), some (.inl i2), some (.inl i3), some (.inr (h_r M a0 3)), some (.inr u_10)]) (s2 := []) (M2 := M_9) c_56 rfl).trans (t_i ?_ ?_)
          · skip
            refine (ev_ns c_56 4 (ip' := 32) (ls' := [some (.inr a0), some (.inl i1), some (.inl i2), some (.inl i3), some (.inr (h_r M a0 3)), some (.inr u_10)]) (st' := [.inl 1, .inl i2, .inr (h_r M a0 3), .inr a0]) (M' := M_9) rfl).trans ?_
            refine (ev_gI (a_rec M_9 7 [.inr a0, .inr (h_r M a0 3), .inl i2, .inl 1] = true ∧ ([] : List mV).length ≤ 8) (as := [.inr a0, .inr (h_r M a0 3), .inl i2, .inl 1]) (rr := []) c_56 c_96 rfl).trans (t_i (t_cI ?_) rfl)
            intro v_12 M_11
            exact ev_d c_56 rfl
          · skip
            refine (ev_ns c_56 1 (ip' := 35) (ls' := [some (.inr a0), some (.inl i1), some (.inl i2), some (.inl i3), some (.inr (h_r M a0 3)), some (.inr u_10)]) (st' := [.inr u_10]) (M' := M_9) rfl).trans ?_
            refine (ev_g (h_k M_9 u_10 = 3) (ip' := 36) (ls' := [some (.inr a0), some (.inl i1), some (.inl i2), some (.inl i3), some (.inr (h_r M a0 3)), some (.inr u_10)]) (st' := [.inr (h_r M_9 u_10 1)]) (M' := M_9) c_56 rfl).trans (t_i ?_ rfl)
            refine (ev_ns c_56 2 (ip' := 38) (ls' := [some (.inr a0), some (.inl i1), some (.inl i2), some (.inl i3), some (.inr (h_r M a0 3)), some (.inr u_10)]) (st' := [.inr (h_r M a0 3), .inl i3, .inr (h_r M_9 u_10 1)]) (M' := M_9) rfl).trans ?_
            refine (ev_g (h_k M_9 (h_r M a0 3) = 5) (ip' := 39) (ls' := [some (.inr a0), some (.inl i1), some (.inl i2), some (.inl i3), some (.inr (h_r M a0 3)), some (.inr u_10)]) (st' := [.inr (h_r M_9 (h_r M a0 3) 3), .inl i3, .inr (h_r M_9 u_10 1)]) (M' := M_9) c_56 rfl).trans (t_i ?_ rfl)
            refine (ev_ns c_56 1 (ip' := 40) (ls' := [some (.inr a0), some (.inl i1), some (.inl i2), some (.inl i3), some (.inr (h_r M a0 3)), some (.inr u_10)]) (st' := [.inl i1, .inr (h_r M_9 (h_r M a0 3) 3), .inl i3, .inr (h_r M_9 u_10 1)]) (M' := M_9) rfl).trans ?_
            refine (ev_g ((h_k M_9 (h_r M_9 (h_r M a0 3) 3) = 9 ∨ h_k M_9 (h_r M_9 (h_r M a0 3) 3) = 14) ∧ h_in i1 (h_l M_9 (h_r M_9 (h_r M a0 3) 3))) (ip' := 41) (ls' := [some (.inr a0), some (.inl i1), some (.inl i2), some (.inl i3), some (.inr (h_r M a0 3)), some (.inr u_10)]) (st' := [.inl (h_i M_9 (h_r M_9 (h_r M a0 3) 3) (i1).toNatClampNeg), .inl i3, .inr (h_r M_9 u_10 1)]) (M' := M_9) c_56 rfl).trans (t_i ?_ rfl)
            refine (ev_g (h_k M_9 (h_r M_9 u_10 1) = 9 ∧ h_in i3 (h_l M_9 (h_r M_9 u_10 1))) (ip' := 42) (ls' := [some (.inr a0), some (.inl i1), some (.inl i2), some (.inl i3), some (.inr (h_r M a0 3)), some (.inr u_10)]) (st' := []) (M' := h_si M_9 (h_r M_9 u_10 1) (i3).toNatClampNeg (h_i M_9 (h_r M_9 (h_r M a0 3) 3) (i1).toNatClampNeg)) c_56 rfl).trans (t_i ?_ rfl)
            refine (ev_ns c_56 2 (ip' := 44) (ls' := [some (.inr a0), some (.inl i1), some (.inl i2), some (.inl i3), some (.inr (h_r M a0 3)), some (.inr u_10)]) (st' := [.inl 0, .inr a0]) (M' := h_si M_9 (h_r M_9 u_10 1) (i3).toNatClampNeg (h_i M_9 (h_r M_9 (h_r M a0 3) 3) (i1).toNatClampNeg)) rfl).trans ?_
            refine (ev_gI (a_rec (h_si M_9 (h_r M_9 u_10 1) (i3).toNatClampNeg (h_i M_9 (h_r M_9 (h_r M a0 3) 3) (i1).toNatClampNeg)) 7 [.inr a0, .inl 0] = true ∧ ([] : List mV).length ≤ 8) (as := [.inr a0, .inl 0]) (rr := []) c_56 c_73 rfl).trans (t_i (t_cI ?_) rfl)
            intro v_14 M_13
            exact ev_d c_56 rfl
set_option maxRecDepth 20000 in
theorem e_56_18 (a0 : Nat) (i1 : Int32) (i2 : Int32) (i3 : Int32) (a4 : Nat) (M : mM) : ev 56 18 [some (.inr a0), some (.inl i1), some (.inl i2), some (.inl i3), some (.inr a4), none] [] M = if (a_rec M 7 [.inr a0] = true ∧ ([] : List mV).length ≤ 8) then (c_I (ev 77 0 [some (.inr a0)] [] M) fun v_2 M_1 => some (some (.inl v_2), M_1)) else none := by
  refine (ev_ns c_56 1 (ip' := 19) (ls' := [some (.inr a0), some (.inl i1), some (.inl i2), some (.inl i3), some (.inr a4), none]) (st' := [.inr a0]) (M' := M) rfl).trans ?_
  refine (ev_gI (a_rec M 7 [.inr a0] = true ∧ ([] : List mV).length ≤ 8) (as := [.inr a0]) (rr := []) c_56 c_77 rfl).trans (t_i (t_cI ?_) rfl)
  intro v_2 M_1
  exact ev_d c_56 rfl
/- 57: GranuleHall.yield1()I -/
set_option maxRecDepth 20000 in
theorem e_57_0 (a0 : Nat) (M : mM) : ev 57 0 [some (.inr a0), none] [] M = if h_k M a0 = 7 then (if (h_r M a0 3) = 0 then (if (a_rec M 7 [.inr a0, .inl 4] = true ∧ ([] : List mV).length ≤ 8) then (c_I (ev 75 0 [some (.inr a0), some (.inl 4)] [] M) fun v_2 M_1 => some (some (.inl v_2), M_1)) else none) else (if (a_rec M 7 [.inr a0, .inr (h_r M a0 3), .inl 1, .inl 0, .inl 0, .inl 0] = true ∧ ([] : List mV).length ≤ 8) then (c_I (ev 78 0 [some (.inr a0), some (.inr (h_r M a0 3)), some (.inl 1), some (.inl 0), some (.inl 0), some (.inl 0), none] [] M) fun v_4 M_3 => some (some (.inl v_4), M_3)) else none)) else none := by
  refine (ev_ns c_57 1 (ip' := 1) (ls' := [some (.inr a0), none]) (st' := [.inr a0]) (M' := M) rfl).trans ?_
  refine (ev_g (h_k M a0 = 7) (ip' := 2) (ls' := [some (.inr a0), none]) (st' := [.inr (h_r M a0 3)]) (M' := M) c_57 rfl).trans (t_i ?_ rfl)
  refine (ev_ns c_57 2 (ip' := 4) (ls' := [some (.inr a0), some (.inr (h_r M a0 3))]) (st' := [.inr (h_r M a0 3)]) (M' := M) rfl).trans ?_
  refine (ev_i ((h_r M a0 3) = 0) (i1 := 5) (l1 := [some (.inr a0), some (.inr (h_r M a0 3))]) (s1 := []) (M1 := M) (i2 := 9) (l2 := [some (.inr a0), some (.inr (h_r M a0 3))]) (s2 := []) (M2 := M) c_57 rfl).trans (t_i ?_ ?_)
  · skip
    refine (ev_ns c_57 2 (ip' := 7) (ls' := [some (.inr a0), some (.inr (h_r M a0 3))]) (st' := [.inl 4, .inr a0]) (M' := M) rfl).trans ?_
    refine (ev_gI (a_rec M 7 [.inr a0, .inl 4] = true ∧ ([] : List mV).length ≤ 8) (as := [.inr a0, .inl 4]) (rr := []) c_57 c_75 rfl).trans (t_i (t_cI ?_) rfl)
    intro v_2 M_1
    exact ev_d c_57 rfl
  · skip
    refine (ev_ns c_57 6 (ip' := 15) (ls' := [some (.inr a0), some (.inr (h_r M a0 3))]) (st' := [.inl 0, .inl 0, .inl 0, .inl 1, .inr (h_r M a0 3), .inr a0]) (M' := M) rfl).trans ?_
    refine (ev_gI (a_rec M 7 [.inr a0, .inr (h_r M a0 3), .inl 1, .inl 0, .inl 0, .inl 0] = true ∧ ([] : List mV).length ≤ 8) (as := [.inr a0, .inr (h_r M a0 3), .inl 1, .inl 0, .inl 0, .inl 0]) (rr := []) c_57 c_78 rfl).trans (t_i (t_cI ?_) rfl)
    intro v_4 M_3
    exact ev_d c_57 rfl
/- 58: GranuleHall.off()I -/
set_option maxRecDepth 20000 in
theorem e_58_0 (a0 : Nat) (M : mM) : ev 58 0 [some (.inr a0), none] [] M = if h_k M a0 = 7 then (if (h_r M a0 3) = 0 then (if (a_rec M 7 [.inr a0, .inl 4] = true ∧ ([] : List mV).length ≤ 8) then (c_I (ev 75 0 [some (.inr a0), some (.inl 4)] [] M) fun v_2 M_1 => some (some (.inl v_2), M_1)) else none) else (if h_k M (h_r M a0 3) = 5 then (if h_k M (h_r M (h_r M a0 3) 1) = 4 then (if (a_rec (h_si M (h_r M (h_r M a0 3) 1) 3 2) 7 [.inr a0, .inr (h_r M a0 3), .inl 4, .inl 0, .inl 0, .inl 0] = true ∧ ([] : List mV).length ≤ 8) then (c_I (ev 78 0 [some (.inr a0), some (.inr (h_r M a0 3)), some (.inl 4), some (.inl 0), some (.inl 0), some (.inl 0), none] [] (h_si M (h_r M (h_r M a0 3) 1) 3 2)) fun v_4 M_3 => some (some (.inl v_4), M_3)) else none) else none) else none)) else none := by
  refine (ev_ns c_58 1 (ip' := 1) (ls' := [some (.inr a0), none]) (st' := [.inr a0]) (M' := M) rfl).trans ?_
  refine (ev_g (h_k M a0 = 7) (ip' := 2) (ls' := [some (.inr a0), none]) (st' := [.inr (h_r M a0 3)]) (M' := M) c_58 rfl).trans (t_i ?_ rfl)
  refine (ev_ns c_58 2 (ip' := 4) (ls' := [some (.inr a0), some (.inr (h_r M a0 3))]) (st' := [.inr (h_r M a0 3)]) (M' := M) rfl).trans ?_
  refine (ev_i ((h_r M a0 3) = 0) (i1 := 5) (l1 := [some (.inr a0), some (.inr (h_r M a0 3))]) (s1 := []) (M1 := M) (i2 := 9) (l2 := [some (.inr a0), some (.inr (h_r M a0 3))]) (s2 := []) (M2 := M) c_58 rfl).trans (t_i ?_ ?_)
  · skip
    refine (ev_ns c_58 2 (ip' := 7) (ls' := [some (.inr a0), some (.inr (h_r M a0 3))]) (st' := [.inl 4, .inr a0]) (M' := M) rfl).trans ?_
    refine (ev_gI (a_rec M 7 [.inr a0, .inl 4] = true ∧ ([] : List mV).length ≤ 8) (as := [.inr a0, .inl 4]) (rr := []) c_58 c_75 rfl).trans (t_i (t_cI ?_) rfl)
    intro v_2 M_1
    exact ev_d c_58 rfl
  · skip
    refine (ev_ns c_58 1 (ip' := 10) (ls' := [some (.inr a0), some (.inr (h_r M a0 3))]) (st' := [.inr (h_r M a0 3)]) (M' := M) rfl).trans ?_
    refine (ev_g (h_k M (h_r M a0 3) = 5) (ip' := 11) (ls' := [some (.inr a0), some (.inr (h_r M a0 3))]) (st' := [.inr (h_r M (h_r M a0 3) 1)]) (M' := M) c_58 rfl).trans (t_i ?_ rfl)
    refine (ev_ns c_58 1 (ip' := 12) (ls' := [some (.inr a0), some (.inr (h_r M a0 3))]) (st' := [.inl 2, .inr (h_r M (h_r M a0 3) 1)]) (M' := M) rfl).trans ?_
    refine (ev_g (h_k M (h_r M (h_r M a0 3) 1) = 4) (ip' := 13) (ls' := [some (.inr a0), some (.inr (h_r M a0 3))]) (st' := []) (M' := h_si M (h_r M (h_r M a0 3) 1) 3 2) c_58 rfl).trans (t_i ?_ rfl)
    refine (ev_ns c_58 6 (ip' := 19) (ls' := [some (.inr a0), some (.inr (h_r M a0 3))]) (st' := [.inl 0, .inl 0, .inl 0, .inl 4, .inr (h_r M a0 3), .inr a0]) (M' := h_si M (h_r M (h_r M a0 3) 1) 3 2) rfl).trans ?_
    refine (ev_gI (a_rec (h_si M (h_r M (h_r M a0 3) 1) 3 2) 7 [.inr a0, .inr (h_r M a0 3), .inl 4, .inl 0, .inl 0, .inl 0] = true ∧ ([] : List mV).length ≤ 8) (as := [.inr a0, .inr (h_r M a0 3), .inl 4, .inl 0, .inl 0, .inl 0]) (rr := []) c_58 c_78 rfl).trans (t_i (t_cI ?_) rfl)
    intro v_4 M_3
    exact ev_d c_58 rfl
/- 59: GranuleHall.state(I)I -/
set_option maxRecDepth 20000 in
theorem e_59_0 (a0 : Nat) (i1 : Int32) (M : mM) : ev 59 0 [some (.inr a0), some (.inl i1), none] [] M = if h_k M a0 = 7 then (if (h_r M a0 3) = 0 then (if (a_rec M 7 [.inr a0, .inl 4] = true ∧ ([] : List mV).length ≤ 8) then (c_I (ev 75 0 [some (.inr a0), some (.inl 4)] [] M) fun v_2 M_1 => some (some (.inl v_2), M_1)) else none) else (if (a_rec M 0 [.inl i1] = true ∧ ([] : List mV).length ≤ 8) then (c_I (ev 84 0 [some (.inl i1)] [] M) fun v_4 M_3 => if v_4 = 0 then (if (a_rec M_3 7 [.inr a0] = true ∧ ([] : List mV).length ≤ 8) then (c_I (ev 77 0 [some (.inr a0)] [] M_3) fun v_6 M_5 => some (some (.inl v_6), M_5)) else none) else (if h_k M_3 (h_r M a0 3) = 5 then (if h_k M_3 (h_r M a0 3) = 5 then (if (a_rec M_3 4 [.inr (h_r M_3 (h_r M a0 3) 1), .inl i1] = true ∧ ([.inl 0, .inr (h_r M_3 (h_r M a0 3) 3)] : List mV).length ≤ 8) then (c_R (ev 24 0 [some (.inr (h_r M_3 (h_r M a0 3) 1)), some (.inl i1)] [] M_3) fun u_8 M_7 => if h_k M_7 u_8 = 2 then (if h_k M_7 (h_r M_3 (h_r M a0 3) 3) = 9 ∧ h_in 0 (h_l M_7 (h_r M_3 (h_r M a0 3) 3)) then (if (a_rec (h_si M_7 (h_r M_3 (h_r M a0 3) 3) 0 (h_i M_7 u_8 2)) 7 [.inr a0, .inl 0] = true ∧ ([] : List mV).length ≤ 8) then (c_I (ev 73 0 [some (.inr a0), some (.inl 0)] [] (h_si M_7 (h_r M_3 (h_r M a0 3) 3) 0 (h_i M_7 u_8 2))) fun v_10 M_9 => some (some (.inl v_10), M_9)) else none) else none) else none) else none) else none) else none)) else none)) else none := by
  refine (ev_ns c_59 1 (ip' := 1) (ls' := [some (.inr a0), some (.inl i1), none]) (st' := [.inr a0]) (M' := M) rfl).trans ?_
  refine (ev_g (h_k M a0 = 7) (ip' := 2) (ls' := [some (.inr a0), some (.inl i1), none]) (st' := [.inr (h_r M a0 3)]) (M' := M) c_59 rfl).trans (t_i ?_ rfl)
  refine (ev_ns c_59 2 (ip' := 4) (ls' := [some (.inr a0), some (.inl i1), some (.inr (h_r M a0 3))]) (st' := [.inr (h_r M a0 3)]) (M' := M) rfl).trans ?_
  refine (ev_i ((h_r M a0 3) = 0) (i1 := 5) (l1 := [some (.inr a0), some (.inl i1), some (.inr (h_r M a0 3))]) (s1 := []) (M1 := M) (i2 := 9) (l2 := [some (.inr a0), some (.inl i1), some (.inr (h_r M a0 3))]) (s2 := []) (M2 := M) c_59 rfl).trans (t_i ?_ ?_)
  · skip
    refine (ev_ns c_59 2 (ip' := 7) (ls' := [some (.inr a0), some (.inl i1), some (.inr (h_r M a0 3))]) (st' := [.inl 4, .inr a0]) (M' := M) rfl).trans ?_
    refine (ev_gI (a_rec M 7 [.inr a0, .inl 4] = true ∧ ([] : List mV).length ≤ 8) (as := [.inr a0, .inl 4]) (rr := []) c_59 c_75 rfl).trans (t_i (t_cI ?_) rfl)
    intro v_2 M_1
    exact ev_d c_59 rfl
  · skip
    refine (ev_ns c_59 1 (ip' := 10) (ls' := [some (.inr a0), some (.inl i1), some (.inr (h_r M a0 3))]) (st' := [.inl i1]) (M' := M) rfl).trans ?_
    refine (ev_gI (a_rec M 0 [.inl i1] = true ∧ ([] : List mV).length ≤ 8) (as := [.inl i1]) (rr := []) c_59 c_84 rfl).trans (t_i (t_cI ?_) rfl)
    intro v_4 M_3
    refine (ev_i (v_4 = 0) (i1 := 12) (l1 := [some (.inr a0), some (.inl i1), some (.inr (h_r M a0 3))]) (s1 := []) (M1 := M_3) (i2 := 15) (l2 := [some (.inr a0), some (.inl i1), some (.inr (h_r M a0 3))]) (s2 := []) (M2 := M_3) c_59 rfl).trans (t_i ?_ ?_)
    · skip
      refine (ev_ns c_59 1 (ip' := 13) (ls' := [some (.inr a0), some (.inl i1), some (.inr (h_r M a0 3))]) (st' := [.inr a0]) (M' := M_3) rfl).trans ?_
      refine (ev_gI (a_rec M_3 7 [.inr a0] = true ∧ ([] : List mV).length ≤ 8) (as := [.inr a0]) (rr := []) c_59 c_77 rfl).trans (t_i (t_cI ?_) rfl)
      intro v_6 M_5
      exact ev_d c_59 rfl
    · skip
      refine (ev_ns c_59 1 (ip' := 16) (ls' := [some (.inr a0), some (.inl i1), some (.inr (h_r M a0 3))]) (st' := [.inr (h_r M a0 3)]) (M' := M_3) rfl).trans ?_
      refine (ev_g (h_k M_3 (h_r M a0 3) = 5) (ip' := 17) (ls' := [some (.inr a0), some (.inl i1), some (.inr (h_r M a0 3))]) (st' := [.inr (h_r M_3 (h_r M a0 3) 3)]) (M' := M_3) c_59 rfl).trans (t_i ?_ rfl)
      refine (ev_ns c_59 2 (ip' := 19) (ls' := [some (.inr a0), some (.inl i1), some (.inr (h_r M a0 3))]) (st' := [.inr (h_r M a0 3), .inl 0, .inr (h_r M_3 (h_r M a0 3) 3)]) (M' := M_3) rfl).trans ?_
      refine (ev_g (h_k M_3 (h_r M a0 3) = 5) (ip' := 20) (ls' := [some (.inr a0), some (.inl i1), some (.inr (h_r M a0 3))]) (st' := [.inr (h_r M_3 (h_r M a0 3) 1), .inl 0, .inr (h_r M_3 (h_r M a0 3) 3)]) (M' := M_3) c_59 rfl).trans (t_i ?_ rfl)
      refine (ev_ns c_59 1 (ip' := 21) (ls' := [some (.inr a0), some (.inl i1), some (.inr (h_r M a0 3))]) (st' := [.inl i1, .inr (h_r M_3 (h_r M a0 3) 1), .inl 0, .inr (h_r M_3 (h_r M a0 3) 3)]) (M' := M_3) rfl).trans ?_
      refine (ev_gR (a_rec M_3 4 [.inr (h_r M_3 (h_r M a0 3) 1), .inl i1] = true ∧ ([.inl 0, .inr (h_r M_3 (h_r M a0 3) 3)] : List mV).length ≤ 8) (as := [.inr (h_r M_3 (h_r M a0 3) 1), .inl i1]) (rr := [.inl 0, .inr (h_r M_3 (h_r M a0 3) 3)]) c_59 c_24 rfl).trans (t_i (t_cR ?_) rfl)
      intro u_8 M_7
      refine (ev_g (h_k M_7 u_8 = 2) (ip' := 23) (ls' := [some (.inr a0), some (.inl i1), some (.inr (h_r M a0 3))]) (st' := [.inl (h_i M_7 u_8 2), .inl 0, .inr (h_r M_3 (h_r M a0 3) 3)]) (M' := M_7) c_59 rfl).trans (t_i ?_ rfl)
      refine (ev_g (h_k M_7 (h_r M_3 (h_r M a0 3) 3) = 9 ∧ h_in 0 (h_l M_7 (h_r M_3 (h_r M a0 3) 3))) (ip' := 24) (ls' := [some (.inr a0), some (.inl i1), some (.inr (h_r M a0 3))]) (st' := []) (M' := h_si M_7 (h_r M_3 (h_r M a0 3) 3) 0 (h_i M_7 u_8 2)) c_59 rfl).trans (t_i ?_ rfl)
      refine (ev_ns c_59 2 (ip' := 26) (ls' := [some (.inr a0), some (.inl i1), some (.inr (h_r M a0 3))]) (st' := [.inl 0, .inr a0]) (M' := h_si M_7 (h_r M_3 (h_r M a0 3) 3) 0 (h_i M_7 u_8 2)) rfl).trans ?_
      refine (ev_gI (a_rec (h_si M_7 (h_r M_3 (h_r M a0 3) 3) 0 (h_i M_7 u_8 2)) 7 [.inr a0, .inl 0] = true ∧ ([] : List mV).length ≤ 8) (as := [.inr a0, .inl 0]) (rr := []) c_59 c_73 rfl).trans (t_i (t_cI ?_) rfl)
      intro v_10 M_9
      exact ev_d c_59 rfl
