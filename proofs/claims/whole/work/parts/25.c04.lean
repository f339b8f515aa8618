set_option maxRecDepth 100000 in
theorem jc_160 : jp_chkL jcl RX10 jY jZ1 jw_X11 jNW jSR jCF jSF RX11 false cX11_forgetKept jo_160 ji_160 = true := by decide +kernel
set_option maxRecDepth 100000 in
theorem jc_161 : jp_chkL jcl RX10 jY jZ1 jw_X11 jNW jSR jCF jSF RX11 false cX11_tally jo_161 ji_161 = true := by decide +kernel
set_option maxRecDepth 100000 in
theorem jc_162 : jp_chkL jcl RX10 jY jZ1 jw_X12 jNW jSR jCF jSF RX12 true cX12_init jo_162 ji_162 = true := by decide +kernel
set_option maxRecDepth 100000 in
theorem jc_163 : jp_chkL jcl RX10 jY jZ1 jw_X12 jNW jSR jCF jSF RX12 false cX12_isIn jo_163 ji_163 = true := by decide +kernel
set_option maxRecDepth 100000 in
theorem jc_164 : jp_chkL jcl RX10 jY jZ1 jw_X12 jNW jSR jCF jSF RX12 false cX12_held jo_164 ji_164 = true := by decide +kernel
set_option maxRecDepth 100000 in
theorem jc_165 : jp_chkL jcl RX10 jY jZ1 jw_X12 jNW jSR jCF jSF RX12 false cX12_greater jo_165 ji_165 = true := by decide +kernel
set_option maxRecDepth 100000 in
theorem jc_166 : jp_chkL jcl RX10 jY jZ1 jw_X12 jNW jSR jCF jSF RX12 false cX12_lesser jo_166 ji_166 = true := by decide +kernel
set_option maxRecDepth 100000 in
theorem jc_167 : jp_chkL jcl RX10 jY jZ1 jw_X12 jNW jSR jCF jSF RX12 false cX12_apart jo_167 ji_167 = true := by decide +kernel
set_option maxRecDepth 100000 in
theorem jc_168 : jp_chkL jcl RX10 jY jZ1 jw_X12 jNW jSR jCF jSF RX12 false cX12_added jo_168 ji_168 = true := by decide +kernel
set_option maxRecDepth 100000 in
theorem jc_169 : jp_chkL jcl RX10 jY jZ1 jw_X12 jNW jSR jCF jSF RX12 false cX12_onesOf jo_169 ji_169 = true := by decide +kernel
set_option maxRecDepth 100000 in
theorem jc_170 : jp_chkL jcl RX10 jY jZ1 jw_X12 jNW jSR jCF jSF RX12 false cX12_has jo_170 ji_170 = true := by decide +kernel
set_option maxRecDepth 100000 in
theorem jc_171 : jp_chkL jcl RX10 jY jZ1 jw_X12 jNW jSR jCF jSF RX12 false cX12_keepsAhead jo_171 ji_171 = true := by decide +kernel
set_option maxRecDepth 100000 in
theorem jc_172 : jp_chkL jcl RX10 jY jZ1 jw_X12 jNW jSR jCF jSF RX12 false cX12_undo jo_172 ji_172 = true := by decide +kernel
set_option maxRecDepth 100000 in
theorem jc_173 : jp_chkL jcl RX10 jY jZ1 jw_X12 jNW jSR jCF jSF RX12 false cX12_thinks jo_173 ji_173 = true := by decide +kernel
set_option maxRecDepth 100000 in
theorem jc_174 : jp_chkL jcl RX10 jY jZ1 jw_X12 jNW jSR jCF jSF RX12 false cX12_endsThought jo_174 ji_174 = true := by decide +kernel
set_option maxRecDepth 100000 in
theorem jc_175 : jp_chkL jcl RX10 jY jZ1 jw_X12 jNW jSR jCF jSF RX12 false cX12_state jo_175 ji_175 = true := by decide +kernel
set_option maxRecDepth 100000 in
theorem jc_176 : jp_chkL jcl RX10 jY jZ1 jw_X12 jNW jSR jCF jSF RX12 false cX12_draw jo_176 ji_176 = true := by decide +kernel
set_option maxRecDepth 100000 in
theorem jc_177 : jp_chkL jcl RX10 jY jZ1 jw_X12 jNW jSR jCF jSF RX12 false cX12_isPerson jo_177 ji_177 = true := by decide +kernel
set_option maxRecDepth 100000 in
theorem jc_178 : jp_chkL jcl RX10 jY jZ1 jw_X12 jNW jSR jCF jSF RX12 false cX12_isBird jo_178 ji_178 = true := by decide +kernel
set_option maxRecDepth 100000 in
theorem jc_179 : jp_chkL jcl RX10 jY jZ1 jw_X12 jNW jSR jCF jSF RX12 false cX12_isSummer jo_179 ji_179 = true := by decide +kernel
set_option maxRecDepth 100000 in
theorem jc_180 : jp_chkL jcl RX10 jY jZ1 jw_X12 jNW jSR jCF jSF RX12 false cX12_useAt jo_180 ji_180 = true := by decide +kernel
set_option maxRecDepth 100000 in
theorem jc_181 : jp_chkL jcl RX10 jY jZ1 jw_X12 jNW jSR jCF jSF RX12 false cX12_useOf jo_181 ji_181 = true := by decide +kernel
set_option maxRecDepth 100000 in
theorem jc_182 : jp_chkL jcl RX10 jY jZ1 jw_X12 jNW jSR jCF jSF RX12 false cX12_isFree jo_182 ji_182 = true := by decide +kernel
set_option maxRecDepth 100000 in
theorem jc_183 : jp_chkL jcl RX10 jY jZ1 jw_X12 jNW jSR jCF jSF RX12 false cX12_usedCells jo_183 ji_183 = true := by decide +kernel
set_option maxRecDepth 100000 in
theorem jc_184 : jp_chkL jcl RX10 jY jZ1 jw_X12 jNW jSR jCF jSF RX12 false cX12_person jo_184 ji_184 = true := by decide +kernel
set_option maxRecDepth 100000 in
theorem jc_185 : jp_chkL jcl RX10 jY jZ1 jw_X12 jNW jSR jCF jSF RX12 false cX12_swallow jo_185 ji_185 = true := by decide +kernel
set_option maxRecDepth 100000 in
theorem jc_186 : jp_chkL jcl RX10 jY jZ1 jw_X12 jNW jSR jCF jSF RX12 false cX12_canSet jo_186 ji_186 = true := by decide +kernel
set_option maxRecDepth 100000 in
theorem jc_187 : jp_chkL jcl RX10 jY jZ1 jw_X12 jNW jSR jCF jSF RX12 false cX12_set jo_187 ji_187 = true := by decide +kernel
set_option maxRecDepth 100000 in
theorem jc_188 : jp_chkL jcl RX10 jY jZ1 jw_X12 jNW jSR jCF jSF RX12 false cX12_types jo_188 ji_188 = true := by decide +kernel
set_option maxRecDepth 100000 in
theorem jc_189 : jp_chkL jcl RX10 jY jZ1 jw_X12 jNW jSR jCF jSF RX12 false cX12_feed jo_189 ji_189 = true := by decide +kernel
set_option maxRecDepth 100000 in
theorem jc_190 : jp_chkL jcl RX10 jY jZ1 jw_X12 jNW jSR jCF jSF RX12 false cX12_end jo_190 ji_190 = true := by decide +kernel
set_option maxRecDepth 100000 in
theorem jc_191 : jp_chkL jcl RX10 jY jZ1 jw_X12 jNW jSR jCF jSF RX12 false cX12_raw jo_191 ji_191 = true := by decide +kernel
set_option maxRecDepth 100000 in
theorem jc_192 : jp_chkL jcl RX10 jY jZ1 jw_X12 jNW jSR jCF jSF RX12 false cX12_isLetter jo_192 ji_192 = true := by decide +kernel
set_option maxRecDepth 100000 in
theorem jc_193 : jp_chkL jcl RX10 jY jZ1 jw_X12 jNW jSR jCF jSF RX12 false cX12_isDigit jo_193 ji_193 = true := by decide +kernel
set_option maxRecDepth 100000 in
theorem jc_194 : jp_chkL jcl RX10 jY jZ1 jw_X12 jNW jSR jCF jSF RX12 false cX12_isMarkSign jo_194 ji_194 = true := by decide +kernel
set_option maxRecDepth 100000 in
theorem jc_195 : jp_chkL jcl RX10 jY jZ1 jw_X12 jNW jSR jCF jSF RX12 false cX12_wordAt jo_195 ji_195 = true := by decide +kernel
set_option maxRecDepth 100000 in
theorem jc_196 : jp_chkL jcl RX10 jY jZ1 jw_X12 jNW jSR jCF jSF RX12 false cX12_reads jo_196 ji_196 = true := by decide +kernel
set_option maxRecDepth 100000 in
theorem jc_197 : jp_chkL jcl RX10 jY jZ1 jw_X12 jNW jSR jCF jSF RX12 false cX12_errs jo_197 ji_197 = true := by decide +kernel
set_option maxRecDepth 100000 in
theorem jc_198 : jp_chkL jcl RX10 jY jZ1 jw_X12 jNW jSR jCF jSF RX12 false cX12_isWord jo_198 ji_198 = true := by decide +kernel
set_option maxRecDepth 100000 in
theorem jc_199 : jp_chkL jcl RX10 jY jZ1 jw_X12 jNW jSR jCF jSF RX12 false cX12_isSign jo_199 ji_199 = true := by decide +kernel
