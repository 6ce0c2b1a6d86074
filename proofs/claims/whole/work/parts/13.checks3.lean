/-! the checks, method by method -/
theorem ok_145 : o_all 145 = true := by decide +kernel
theorem om_145 : o_m 145 = true := by decide +kernel
set_option maxRecDepth 100000 in
theorem cw_145 : o_cw 145 := rfl
theorem oq_146 : ∀ j, j < 146 → o_P j := lt_s oq_145 ⟨ok_145, om_145, cw_145⟩
theorem ok_146 : o_all 146 = true := by decide +kernel
theorem om_146 : o_m 146 = true := by decide +kernel
set_option maxRecDepth 100000 in
theorem cw_146 : o_cw 146 := rfl
theorem oq_147 : ∀ j, j < 147 → o_P j := lt_s oq_146 ⟨ok_146, om_146, cw_146⟩
theorem ok_147 : o_all 147 = true := by decide +kernel
theorem om_147 : o_m 147 = true := by decide +kernel
set_option maxRecDepth 100000 in
theorem cw_147 : o_cw 147 := rfl
theorem oq_148 : ∀ j, j < 148 → o_P j := lt_s oq_147 ⟨ok_147, om_147, cw_147⟩
theorem ok_148 : o_all 148 = true := by decide +kernel
theorem om_148 : o_m 148 = true := by decide +kernel
set_option maxRecDepth 100000 in
theorem cw_148 : o_cw 148 := rfl
theorem oq_149 : ∀ j, j < 149 → o_P j := lt_s oq_148 ⟨ok_148, om_148, cw_148⟩
theorem ok_149 : o_all 149 = true := by decide +kernel
theorem om_149 : o_m 149 = true := by decide +kernel
set_option maxRecDepth 100000 in
theorem cw_149 : o_cw 149 := rfl
theorem oq_150 : ∀ j, j < 150 → o_P j := lt_s oq_149 ⟨ok_149, om_149, cw_149⟩
theorem ok_150 : o_all 150 = true := by decide +kernel
theorem om_150 : o_m 150 = true := by decide +kernel
set_option maxRecDepth 100000 in
theorem cw_150 : o_cw 150 := rfl
theorem oq_151 : ∀ j, j < 151 → o_P j := lt_s oq_150 ⟨ok_150, om_150, cw_150⟩
theorem ok_151 : o_all 151 = true := by decide +kernel
theorem om_151 : o_m 151 = true := by decide +kernel
set_option maxRecDepth 100000 in
theorem cw_151 : o_cw 151 := rfl
theorem oq_152 : ∀ j, j < 152 → o_P j := lt_s oq_151 ⟨ok_151, om_151, cw_151⟩
theorem ok_152 : o_all 152 = true := by decide +kernel
theorem om_152 : o_m 152 = true := by decide +kernel
set_option maxRecDepth 100000 in
theorem cw_152 : o_cw 152 := rfl
theorem oq_153 : ∀ j, j < 153 → o_P j := lt_s oq_152 ⟨ok_152, om_152, cw_152⟩
theorem ok_153 : o_all 153 = true := by decide +kernel
theorem om_153 : o_m 153 = true := by decide +kernel
set_option maxRecDepth 100000 in
theorem cw_153 : o_cw 153 := rfl
theorem oq_154 : ∀ j, j < 154 → o_P j := lt_s oq_153 ⟨ok_153, om_153, cw_153⟩
theorem ok_154 : o_all 154 = true := by decide +kernel
theorem om_154 : o_m 154 = true := by decide +kernel
set_option maxRecDepth 100000 in
theorem cw_154 : o_cw 154 := rfl
theorem oq_155 : ∀ j, j < 155 → o_P j := lt_s oq_154 ⟨ok_154, om_154, cw_154⟩
theorem ok_155 : o_all 155 = true := by decide +kernel
theorem om_155 : o_m 155 = true := by decide +kernel
set_option maxRecDepth 100000 in
theorem cw_155 : o_cw 155 := rfl
theorem oq_156 : ∀ j, j < 156 → o_P j := lt_s oq_155 ⟨ok_155, om_155, cw_155⟩
theorem ok_156 : o_all 156 = true := by decide +kernel
theorem om_156 : o_m 156 = true := by decide +kernel
set_option maxRecDepth 100000 in
theorem cw_156 : o_cw 156 := rfl
theorem oq_157 : ∀ j, j < 157 → o_P j := lt_s oq_156 ⟨ok_156, om_156, cw_156⟩
theorem ok_157 : o_all 157 = true := by decide +kernel
theorem om_157 : o_m 157 = true := by decide +kernel
set_option maxRecDepth 100000 in
theorem cw_157 : o_cw 157 := rfl
theorem oq_158 : ∀ j, j < 158 → o_P j := lt_s oq_157 ⟨ok_157, om_157, cw_157⟩
theorem ok_158 : o_all 158 = true := by decide +kernel
theorem om_158 : o_m 158 = true := by decide +kernel
set_option maxRecDepth 100000 in
theorem cw_158 : o_cw 158 := rfl
theorem oq_159 : ∀ j, j < 159 → o_P j := lt_s oq_158 ⟨ok_158, om_158, cw_158⟩
theorem ok_159 : o_all 159 = true := by decide +kernel
theorem om_159 : o_m 159 = true := by decide +kernel
set_option maxRecDepth 100000 in
theorem cw_159 : o_cw 159 := rfl
theorem oq_160 : ∀ j, j < 160 → o_P j := lt_s oq_159 ⟨ok_159, om_159, cw_159⟩
theorem ok_160 : o_all 160 = true := by decide +kernel
theorem om_160 : o_m 160 = true := by decide +kernel
set_option maxRecDepth 100000 in
theorem cw_160 : o_cw 160 := rfl
theorem oq_161 : ∀ j, j < 161 → o_P j := lt_s oq_160 ⟨ok_160, om_160, cw_160⟩
theorem ok_161 : o_all 161 = true := by decide +kernel
theorem om_161 : o_m 161 = true := by decide +kernel
set_option maxRecDepth 100000 in
theorem cw_161 : o_cw 161 := rfl
theorem oq_162 : ∀ j, j < 162 → o_P j := lt_s oq_161 ⟨ok_161, om_161, cw_161⟩
theorem ok_162 : o_all 162 = true := by decide +kernel
theorem om_162 : o_m 162 = true := by decide +kernel
set_option maxRecDepth 100000 in
theorem cw_162 : o_cw 162 := rfl
theorem oq_163 : ∀ j, j < 163 → o_P j := lt_s oq_162 ⟨ok_162, om_162, cw_162⟩
theorem ok_163 : o_all 163 = true := by decide +kernel
theorem om_163 : o_m 163 = true := by decide +kernel
set_option maxRecDepth 100000 in
theorem cw_163 : o_cw 163 := rfl
theorem oq_164 : ∀ j, j < 164 → o_P j := lt_s oq_163 ⟨ok_163, om_163, cw_163⟩
theorem ok_164 : o_all 164 = true := by decide +kernel
theorem om_164 : o_m 164 = true := by decide +kernel
set_option maxRecDepth 100000 in
theorem cw_164 : o_cw 164 := rfl
theorem oq_165 : ∀ j, j < 165 → o_P j := lt_s oq_164 ⟨ok_164, om_164, cw_164⟩
theorem ok_165 : o_all 165 = true := by decide +kernel
theorem om_165 : o_m 165 = true := by decide +kernel
set_option maxRecDepth 100000 in
theorem cw_165 : o_cw 165 := rfl
theorem oq_166 : ∀ j, j < 166 → o_P j := lt_s oq_165 ⟨ok_165, om_165, cw_165⟩
theorem ok_166 : o_all 166 = true := by decide +kernel
theorem om_166 : o_m 166 = true := by decide +kernel
set_option maxRecDepth 100000 in
theorem cw_166 : o_cw 166 := rfl
theorem oq_167 : ∀ j, j < 167 → o_P j := lt_s oq_166 ⟨ok_166, om_166, cw_166⟩
theorem ok_167 : o_all 167 = true := by decide +kernel
theorem om_167 : o_m 167 = true := by decide +kernel
set_option maxRecDepth 100000 in
theorem cw_167 : o_cw 167 := rfl
theorem oq_168 : ∀ j, j < 168 → o_P j := lt_s oq_167 ⟨ok_167, om_167, cw_167⟩
theorem ok_168 : o_all 168 = true := by decide +kernel
theorem om_168 : o_m 168 = true := by decide +kernel
set_option maxRecDepth 100000 in
theorem cw_168 : o_cw 168 := rfl
theorem oq_169 : ∀ j, j < 169 → o_P j := lt_s oq_168 ⟨ok_168, om_168, cw_168⟩
theorem ok_169 : o_all 169 = true := by decide +kernel
theorem om_169 : o_m 169 = true := by decide +kernel
set_option maxRecDepth 100000 in
theorem cw_169 : o_cw 169 := rfl
theorem oq_170 : ∀ j, j < 170 → o_P j := lt_s oq_169 ⟨ok_169, om_169, cw_169⟩
theorem ok_170 : o_all 170 = true := by decide +kernel
theorem om_170 : o_m 170 = true := by decide +kernel
set_option maxRecDepth 100000 in
theorem cw_170 : o_cw 170 := rfl
theorem oq_171 : ∀ j, j < 171 → o_P j := lt_s oq_170 ⟨ok_170, om_170, cw_170⟩
theorem ok_171 : o_all 171 = true := by decide +kernel
theorem om_171 : o_m 171 = true := by decide +kernel
set_option maxRecDepth 100000 in
theorem cw_171 : o_cw 171 := rfl
theorem oq_172 : ∀ j, j < 172 → o_P j := lt_s oq_171 ⟨ok_171, om_171, cw_171⟩
theorem ok_172 : o_all 172 = true := by decide +kernel
theorem om_172 : o_m 172 = true := by decide +kernel
set_option maxRecDepth 100000 in
theorem cw_172 : o_cw 172 := rfl
theorem oq_173 : ∀ j, j < 173 → o_P j := lt_s oq_172 ⟨ok_172, om_172, cw_172⟩
theorem ok_173 : o_all 173 = true := by decide +kernel
theorem om_173 : o_m 173 = true := by decide +kernel
set_option maxRecDepth 100000 in
theorem cw_173 : o_cw 173 := rfl
theorem oq_174 : ∀ j, j < 174 → o_P j := lt_s oq_173 ⟨ok_173, om_173, cw_173⟩
theorem ok_174 : o_all 174 = true := by decide +kernel
theorem om_174 : o_m 174 = true := by decide +kernel
set_option maxRecDepth 100000 in
theorem cw_174 : o_cw 174 := rfl
theorem oq_175 : ∀ j, j < 175 → o_P j := lt_s oq_174 ⟨ok_174, om_174, cw_174⟩
theorem ok_175 : o_all 175 = true := by decide +kernel
theorem om_175 : o_m 175 = true := by decide +kernel
set_option maxRecDepth 100000 in
theorem cw_175 : o_cw 175 := rfl
theorem oq_176 : ∀ j, j < 176 → o_P j := lt_s oq_175 ⟨ok_175, om_175, cw_175⟩
theorem ok_176 : o_all 176 = true := by decide +kernel
theorem om_176 : o_m 176 = true := by decide +kernel
set_option maxRecDepth 100000 in
theorem cw_176 : o_cw 176 := rfl
theorem oq_177 : ∀ j, j < 177 → o_P j := lt_s oq_176 ⟨ok_176, om_176, cw_176⟩
theorem ok_177 : o_all 177 = true := by decide +kernel
theorem om_177 : o_m 177 = true := by decide +kernel
set_option maxRecDepth 100000 in
theorem cw_177 : o_cw 177 := rfl
theorem oq_178 : ∀ j, j < 178 → o_P j := lt_s oq_177 ⟨ok_177, om_177, cw_177⟩
theorem ok_178 : o_all 178 = true := by decide +kernel
theorem om_178 : o_m 178 = true := by decide +kernel
set_option maxRecDepth 100000 in
theorem cw_178 : o_cw 178 := rfl
theorem oq_179 : ∀ j, j < 179 → o_P j := lt_s oq_178 ⟨ok_178, om_178, cw_178⟩
theorem ok_179 : o_all 179 = true := by decide +kernel
theorem om_179 : o_m 179 = true := by decide +kernel
set_option maxRecDepth 100000 in
theorem cw_179 : o_cw 179 := rfl
theorem oq_180 : ∀ j, j < 180 → o_P j := lt_s oq_179 ⟨ok_179, om_179, cw_179⟩
theorem ok_180 : o_all 180 = true := by decide +kernel
theorem om_180 : o_m 180 = true := by decide +kernel
set_option maxRecDepth 100000 in
theorem cw_180 : o_cw 180 := rfl
theorem oq_181 : ∀ j, j < 181 → o_P j := lt_s oq_180 ⟨ok_180, om_180, cw_180⟩
theorem ok_181 : o_all 181 = true := by decide +kernel
theorem om_181 : o_m 181 = true := by decide +kernel
set_option maxRecDepth 100000 in
theorem cw_181 : o_cw 181 := rfl
theorem oq_182 : ∀ j, j < 182 → o_P j := lt_s oq_181 ⟨ok_181, om_181, cw_181⟩
theorem ok_182 : o_all 182 = true := by decide +kernel
theorem om_182 : o_m 182 = true := by decide +kernel
set_option maxRecDepth 100000 in
theorem cw_182 : o_cw 182 := rfl
theorem oq_183 : ∀ j, j < 183 → o_P j := lt_s oq_182 ⟨ok_182, om_182, cw_182⟩
theorem ok_183 : o_all 183 = true := by decide +kernel
theorem om_183 : o_m 183 = true := by decide +kernel
set_option maxRecDepth 100000 in
theorem cw_183 : o_cw 183 := rfl
theorem oq_184 : ∀ j, j < 184 → o_P j := lt_s oq_183 ⟨ok_183, om_183, cw_183⟩
theorem ok_184 : o_all 184 = true := by decide +kernel
theorem om_184 : o_m 184 = true := by decide +kernel
set_option maxRecDepth 100000 in
theorem cw_184 : o_cw 184 := rfl
theorem oq_185 : ∀ j, j < 185 → o_P j := lt_s oq_184 ⟨ok_184, om_184, cw_184⟩
