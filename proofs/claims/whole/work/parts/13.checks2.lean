/-! the checks, method by method -/
theorem ok_104 : o_all 104 = true := by decide +kernel
theorem om_104 : o_m 104 = true := by decide +kernel
set_option maxRecDepth 100000 in
theorem cw_104 : o_cw 104 := rfl
theorem oq_105 : ∀ j, j < 105 → o_P j := lt_s oq_104 ⟨ok_104, om_104, cw_104⟩
theorem ok_105 : o_all 105 = true := by decide +kernel
theorem om_105 : o_m 105 = true := by decide +kernel
set_option maxRecDepth 100000 in
theorem cw_105 : o_cw 105 := rfl
theorem oq_106 : ∀ j, j < 106 → o_P j := lt_s oq_105 ⟨ok_105, om_105, cw_105⟩
theorem ok_106 : o_all 106 = true := by decide +kernel
theorem om_106 : o_m 106 = true := by decide +kernel
set_option maxRecDepth 100000 in
theorem cw_106 : o_cw 106 := rfl
theorem oq_107 : ∀ j, j < 107 → o_P j := lt_s oq_106 ⟨ok_106, om_106, cw_106⟩
theorem ok_107 : o_all 107 = true := by decide +kernel
theorem om_107 : o_m 107 = true := by decide +kernel
set_option maxRecDepth 100000 in
theorem cw_107 : o_cw 107 := rfl
theorem oq_108 : ∀ j, j < 108 → o_P j := lt_s oq_107 ⟨ok_107, om_107, cw_107⟩
theorem ok_108 : o_all 108 = true := by decide +kernel
theorem om_108 : o_m 108 = true := by decide +kernel
set_option maxRecDepth 100000 in
theorem cw_108 : o_cw 108 := rfl
theorem oq_109 : ∀ j, j < 109 → o_P j := lt_s oq_108 ⟨ok_108, om_108, cw_108⟩
theorem ok_109 : o_all 109 = true := by decide +kernel
theorem om_109 : o_m 109 = true := by decide +kernel
set_option maxRecDepth 100000 in
theorem cw_109 : o_cw 109 := rfl
theorem oq_110 : ∀ j, j < 110 → o_P j := lt_s oq_109 ⟨ok_109, om_109, cw_109⟩
theorem ok_110 : o_all 110 = true := by decide +kernel
theorem om_110 : o_m 110 = true := by decide +kernel
set_option maxRecDepth 100000 in
theorem cw_110 : o_cw 110 := rfl
theorem oq_111 : ∀ j, j < 111 → o_P j := lt_s oq_110 ⟨ok_110, om_110, cw_110⟩
theorem ok_111 : o_all 111 = true := by decide +kernel
theorem om_111 : o_m 111 = true := by decide +kernel
set_option maxRecDepth 100000 in
theorem cw_111 : o_cw 111 := rfl
theorem oq_112 : ∀ j, j < 112 → o_P j := lt_s oq_111 ⟨ok_111, om_111, cw_111⟩
theorem ok_112 : o_all 112 = true := by decide +kernel
theorem om_112 : o_m 112 = true := by decide +kernel
set_option maxRecDepth 100000 in
theorem cw_112 : o_cw 112 := rfl
theorem oq_113 : ∀ j, j < 113 → o_P j := lt_s oq_112 ⟨ok_112, om_112, cw_112⟩
theorem ok_113 : o_all 113 = true := by decide +kernel
theorem om_113 : o_m 113 = true := by decide +kernel
set_option maxRecDepth 100000 in
theorem cw_113 : o_cw 113 := rfl
theorem oq_114 : ∀ j, j < 114 → o_P j := lt_s oq_113 ⟨ok_113, om_113, cw_113⟩
theorem ok_114 : o_all 114 = true := by decide +kernel
theorem om_114 : o_m 114 = true := by decide +kernel
set_option maxRecDepth 100000 in
theorem cw_114 : o_cw 114 := rfl
theorem oq_115 : ∀ j, j < 115 → o_P j := lt_s oq_114 ⟨ok_114, om_114, cw_114⟩
theorem ok_115 : o_all 115 = true := by decide +kernel
theorem om_115 : o_m 115 = true := by decide +kernel
set_option maxRecDepth 100000 in
theorem cw_115 : o_cw 115 := rfl
theorem oq_116 : ∀ j, j < 116 → o_P j := lt_s oq_115 ⟨ok_115, om_115, cw_115⟩
theorem ok_116 : o_all 116 = true := by decide +kernel
theorem om_116 : o_m 116 = true := by decide +kernel
set_option maxRecDepth 100000 in
theorem cw_116 : o_cw 116 := rfl
theorem oq_117 : ∀ j, j < 117 → o_P j := lt_s oq_116 ⟨ok_116, om_116, cw_116⟩
theorem ok_117 : o_all 117 = true := by decide +kernel
theorem om_117 : o_m 117 = true := by decide +kernel
set_option maxRecDepth 100000 in
theorem cw_117 : o_cw 117 := rfl
theorem oq_118 : ∀ j, j < 118 → o_P j := lt_s oq_117 ⟨ok_117, om_117, cw_117⟩
theorem ok_118 : o_all 118 = true := by decide +kernel
theorem om_118 : o_m 118 = true := by decide +kernel
set_option maxRecDepth 100000 in
theorem cw_118 : o_cw 118 := rfl
theorem oq_119 : ∀ j, j < 119 → o_P j := lt_s oq_118 ⟨ok_118, om_118, cw_118⟩
theorem ok_119 : o_all 119 = true := by decide +kernel
theorem om_119 : o_m 119 = true := by decide +kernel
set_option maxRecDepth 100000 in
theorem cw_119 : o_cw 119 := rfl
theorem oq_120 : ∀ j, j < 120 → o_P j := lt_s oq_119 ⟨ok_119, om_119, cw_119⟩
theorem ok_120 : o_all 120 = true := by decide +kernel
theorem om_120 : o_m 120 = true := by decide +kernel
set_option maxRecDepth 100000 in
theorem cw_120 : o_cw 120 := rfl
theorem oq_121 : ∀ j, j < 121 → o_P j := lt_s oq_120 ⟨ok_120, om_120, cw_120⟩
theorem ok_121 : o_all 121 = true := by decide +kernel
theorem om_121 : o_m 121 = true := by decide +kernel
set_option maxRecDepth 100000 in
theorem cw_121 : o_cw 121 := rfl
theorem oq_122 : ∀ j, j < 122 → o_P j := lt_s oq_121 ⟨ok_121, om_121, cw_121⟩
theorem ok_122 : o_all 122 = true := by decide +kernel
theorem om_122 : o_m 122 = true := by decide +kernel
set_option maxRecDepth 100000 in
theorem cw_122 : o_cw 122 := rfl
theorem oq_123 : ∀ j, j < 123 → o_P j := lt_s oq_122 ⟨ok_122, om_122, cw_122⟩
theorem ok_123 : o_all 123 = true := by decide +kernel
theorem om_123 : o_m 123 = true := by decide +kernel
set_option maxRecDepth 100000 in
theorem cw_123 : o_cw 123 := rfl
theorem oq_124 : ∀ j, j < 124 → o_P j := lt_s oq_123 ⟨ok_123, om_123, cw_123⟩
theorem ok_124 : o_all 124 = true := by decide +kernel
theorem om_124 : o_m 124 = true := by decide +kernel
set_option maxRecDepth 100000 in
theorem cw_124 : o_cw 124 := rfl
theorem oq_125 : ∀ j, j < 125 → o_P j := lt_s oq_124 ⟨ok_124, om_124, cw_124⟩
theorem ok_125 : o_all 125 = true := by decide +kernel
theorem om_125 : o_m 125 = true := by decide +kernel
set_option maxRecDepth 100000 in
theorem cw_125 : o_cw 125 := rfl
theorem oq_126 : ∀ j, j < 126 → o_P j := lt_s oq_125 ⟨ok_125, om_125, cw_125⟩
theorem ok_126 : o_all 126 = true := by decide +kernel
theorem om_126 : o_m 126 = true := by decide +kernel
set_option maxRecDepth 100000 in
theorem cw_126 : o_cw 126 := rfl
theorem oq_127 : ∀ j, j < 127 → o_P j := lt_s oq_126 ⟨ok_126, om_126, cw_126⟩
theorem ok_127 : o_all 127 = true := by decide +kernel
theorem om_127 : o_m 127 = true := by decide +kernel
set_option maxRecDepth 100000 in
theorem cw_127 : o_cw 127 := rfl
theorem oq_128 : ∀ j, j < 128 → o_P j := lt_s oq_127 ⟨ok_127, om_127, cw_127⟩
theorem ok_128 : o_all 128 = true := by decide +kernel
theorem om_128 : o_m 128 = true := by decide +kernel
set_option maxRecDepth 100000 in
theorem cw_128 : o_cw 128 := rfl
theorem oq_129 : ∀ j, j < 129 → o_P j := lt_s oq_128 ⟨ok_128, om_128, cw_128⟩
theorem ok_129 : o_all 129 = true := by decide +kernel
theorem om_129 : o_m 129 = true := by decide +kernel
set_option maxRecDepth 100000 in
theorem cw_129 : o_cw 129 := rfl
theorem oq_130 : ∀ j, j < 130 → o_P j := lt_s oq_129 ⟨ok_129, om_129, cw_129⟩
theorem ok_130 : o_all 130 = true := by decide +kernel
theorem om_130 : o_m 130 = true := by decide +kernel
set_option maxRecDepth 100000 in
theorem cw_130 : o_cw 130 := rfl
theorem oq_131 : ∀ j, j < 131 → o_P j := lt_s oq_130 ⟨ok_130, om_130, cw_130⟩
theorem ok_131 : o_all 131 = true := by decide +kernel
theorem om_131 : o_m 131 = true := by decide +kernel
set_option maxRecDepth 100000 in
theorem cw_131 : o_cw 131 := rfl
theorem oq_132 : ∀ j, j < 132 → o_P j := lt_s oq_131 ⟨ok_131, om_131, cw_131⟩
theorem ok_132 : o_all 132 = true := by decide +kernel
theorem om_132 : o_m 132 = true := by decide +kernel
set_option maxRecDepth 100000 in
theorem cw_132 : o_cw 132 := rfl
theorem oq_133 : ∀ j, j < 133 → o_P j := lt_s oq_132 ⟨ok_132, om_132, cw_132⟩
theorem ok_133 : o_all 133 = true := by decide +kernel
theorem om_133 : o_m 133 = true := by decide +kernel
set_option maxRecDepth 100000 in
theorem cw_133 : o_cw 133 := rfl
theorem oq_134 : ∀ j, j < 134 → o_P j := lt_s oq_133 ⟨ok_133, om_133, cw_133⟩
theorem ok_134 : o_all 134 = true := by decide +kernel
theorem om_134 : o_m 134 = true := by decide +kernel
set_option maxRecDepth 100000 in
theorem cw_134 : o_cw 134 := rfl
theorem oq_135 : ∀ j, j < 135 → o_P j := lt_s oq_134 ⟨ok_134, om_134, cw_134⟩
theorem ok_135 : o_all 135 = true := by decide +kernel
theorem om_135 : o_m 135 = true := by decide +kernel
set_option maxRecDepth 100000 in
theorem cw_135 : o_cw 135 := rfl
theorem oq_136 : ∀ j, j < 136 → o_P j := lt_s oq_135 ⟨ok_135, om_135, cw_135⟩
theorem ok_136 : o_all 136 = true := by decide +kernel
theorem om_136 : o_m 136 = true := by decide +kernel
set_option maxRecDepth 100000 in
theorem cw_136 : o_cw 136 := rfl
theorem oq_137 : ∀ j, j < 137 → o_P j := lt_s oq_136 ⟨ok_136, om_136, cw_136⟩
theorem ok_137 : o_all 137 = true := by decide +kernel
theorem om_137 : o_m 137 = true := by decide +kernel
set_option maxRecDepth 100000 in
theorem cw_137 : o_cw 137 := rfl
theorem oq_138 : ∀ j, j < 138 → o_P j := lt_s oq_137 ⟨ok_137, om_137, cw_137⟩
theorem ok_138 : o_all 138 = true := by decide +kernel
theorem om_138 : o_m 138 = true := by decide +kernel
set_option maxRecDepth 100000 in
theorem cw_138 : o_cw 138 := rfl
theorem oq_139 : ∀ j, j < 139 → o_P j := lt_s oq_138 ⟨ok_138, om_138, cw_138⟩
theorem ok_139 : o_all 139 = true := by decide +kernel
theorem om_139 : o_m 139 = true := by decide +kernel
set_option maxRecDepth 100000 in
theorem cw_139 : o_cw 139 := rfl
theorem oq_140 : ∀ j, j < 140 → o_P j := lt_s oq_139 ⟨ok_139, om_139, cw_139⟩
theorem ok_140 : o_all 140 = true := by decide +kernel
theorem om_140 : o_m 140 = true := by decide +kernel
set_option maxRecDepth 100000 in
theorem cw_140 : o_cw 140 := rfl
theorem oq_141 : ∀ j, j < 141 → o_P j := lt_s oq_140 ⟨ok_140, om_140, cw_140⟩
theorem ok_141 : o_all 141 = true := by decide +kernel
theorem om_141 : o_m 141 = true := by decide +kernel
set_option maxRecDepth 100000 in
theorem cw_141 : o_cw 141 := rfl
theorem oq_142 : ∀ j, j < 142 → o_P j := lt_s oq_141 ⟨ok_141, om_141, cw_141⟩
theorem ok_142 : o_all 142 = true := by decide +kernel
theorem om_142 : o_m 142 = true := by decide +kernel
set_option maxRecDepth 100000 in
theorem cw_142 : o_cw 142 := rfl
theorem oq_143 : ∀ j, j < 143 → o_P j := lt_s oq_142 ⟨ok_142, om_142, cw_142⟩
theorem ok_143 : o_all 143 = true := by decide +kernel
theorem om_143 : o_m 143 = true := by decide +kernel
set_option maxRecDepth 100000 in
theorem cw_143 : o_cw 143 := rfl
theorem oq_144 : ∀ j, j < 144 → o_P j := lt_s oq_143 ⟨ok_143, om_143, cw_143⟩
theorem ok_144 : o_all 144 = true := by decide +kernel
theorem om_144 : o_m 144 = true := by decide +kernel
set_option maxRecDepth 100000 in
theorem cw_144 : o_cw 144 := rfl
theorem oq_145 : ∀ j, j < 145 → o_P j := lt_s oq_144 ⟨ok_144, om_144, cw_144⟩
