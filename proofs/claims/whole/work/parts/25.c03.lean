set_option maxRecDepth 100000 in
theorem jc_120 : jp_chkL jcl RX10 jY jZ1 jw_X11 jNW jSR jCF jSF RX11 false cX11_days jo_120 ji_120 = true := by decide +kernel
set_option maxRecDepth 100000 in
theorem jc_121 : jp_chkL jcl RX10 jY jZ1 jw_X11 jNW jSR jCF jSF RX11 false cX11_feed jo_121 ji_121 = true := by decide +kernel
set_option maxRecDepth 100000 in
theorem jc_122 : jp_chkL jcl RX10 jY jZ1 jw_X11 jNW jSR jCF jSF RX11 false cX11_end jo_122 ji_122 = true := by decide +kernel
set_option maxRecDepth 100000 in
theorem jc_123 : jp_chkL jcl RX10 jY jZ1 jw_X11 jNW jSR jCF jSF RX11 false cX11_text jo_123 ji_123 = true := by decide +kernel
set_option maxRecDepth 100000 in
theorem jc_124 : jp_chkL jcl RX10 jY jZ1 jw_X11 jNW jSR jCF jSF RX11 false cX11_fault jo_124 ji_124 = true := by decide +kernel
set_option maxRecDepth 100000 in
theorem jc_125 : jp_chkL jcl RX10 jY jZ1 jw_X11 jNW jSR jCF jSF RX11 false cX11_of jo_125 ji_125 = true := by decide +kernel
set_option maxRecDepth 100000 in
theorem jc_126 : jp_chkL jcl RX10 jY jZ1 jw_X11 jNW jSR jCF jSF RX11 false cX11_bird jo_126 ji_126 = true := by decide +kernel
set_option maxRecDepth 100000 in
theorem jc_127 : jp_chkL jcl RX10 jY jZ1 jw_X11 jNW jSR jCF jSF RX11 false cX11_use jo_127 ji_127 = true := by decide +kernel
set_option maxRecDepth 100000 in
theorem jc_128 : jp_chkL jcl RX10 jY jZ1 jw_X11 jNW jSR jCF jSF RX11 false cX11_lease jo_128 ji_128 = true := by decide +kernel
set_option maxRecDepth 100000 in
theorem jc_129 : jp_chkL jcl RX10 jY jZ1 jw_X11 jNW jSR jCF jSF RX11 false cX11_book jo_129 ji_129 = true := by decide +kernel
set_option maxRecDepth 100000 in
theorem jc_130 : jp_chkL jcl RX10 jY jZ1 jw_X11 jNW jSR jCF jSF RX11 false cX11_would jo_130 ji_130 = true := by decide +kernel
set_option maxRecDepth 100000 in
theorem jc_131 : jp_chkL jcl RX10 jY jZ1 jw_X11 jNW jSR jCF jSF RX11 false cX11_goes jo_131 ji_131 = true := by decide +kernel
set_option maxRecDepth 100000 in
theorem jc_132 : jp_chkL jcl RX10 jY jZ1 jw_X11 jNW jSR jCF jSF RX11 false cX11_through jo_132 ji_132 = true := by decide +kernel
set_option maxRecDepth 100000 in
theorem jc_133 : jp_chkL jcl RX10 jY jZ1 jw_X11 jNW jSR jCF jSF RX11 false cX11_wide jo_133 ji_133 = true := by decide +kernel
set_option maxRecDepth 100000 in
theorem jc_134 : jp_chkL jcl RX10 jY jZ1 jw_X11 jNW jSR jCF jSF RX11 false cX11_wish jo_134 ji_134 = true := by decide +kernel
set_option maxRecDepth 100000 in
theorem jc_135 : jp_chkL jcl RX10 jY jZ1 jw_X11 jNW jSR jCF jSF RX11 false cX11_beside jo_135 ji_135 = true := by decide +kernel
set_option maxRecDepth 100000 in
theorem jc_136 : jp_chkL jcl RX10 jY jZ1 jw_X11 jNW jSR jCF jSF RX11 false cX11_kite jo_136 ji_136 = true := by decide +kernel
set_option maxRecDepth 100000 in
theorem jc_137 : jp_chkL jcl RX10 jY jZ1 jw_X11 jNW jSR jCF jSF RX11 false cX11_strings jo_137 ji_137 = true := by decide +kernel
set_option maxRecDepth 100000 in
theorem jc_138 : jp_chkL jcl RX10 jY jZ1 jw_X11 jNW jSR jCF jSF RX11 false cX11_way jo_138 ji_138 = true := by decide +kernel
set_option maxRecDepth 100000 in
theorem jc_139 : jp_chkL jcl RX10 jY jZ1 jw_X11 jNW jSR jCF jSF RX11 false cX11_eaves jo_139 ji_139 = true := by decide +kernel
set_option maxRecDepth 100000 in
theorem jc_140 : jp_chkL jcl RX10 jY jZ1 jw_X11 jNW jSR jCF jSF RX11 false cX11_cites jo_140 ji_140 = true := by decide +kernel
set_option maxRecDepth 100000 in
theorem jc_141 : jp_chkL jcl RX10 jY jZ1 jw_X11 jNW jSR jCF jSF RX11 false cX11_voice jo_141 ji_141 = true := by decide +kernel
set_option maxRecDepth 100000 in
theorem jc_142 : jp_chkL jcl RX10 jY jZ1 jw_X11 jNW jSR jCF jSF RX11 false cX11_asked jo_142 ji_142 = true := by decide +kernel
set_option maxRecDepth 100000 in
theorem jc_143 : jp_chkL jcl RX10 jY jZ1 jw_X11 jNW jSR jCF jSF RX11 false cX11_upright jo_143 ji_143 = true := by decide +kernel
set_option maxRecDepth 100000 in
theorem jc_144 : jp_chkL jcl RX10 jY jZ1 jw_X11 jNW jSR jCF jSF RX11 false cX11_point jo_144 ji_144 = true := by decide +kernel
set_option maxRecDepth 100000 in
theorem jc_145 : jp_chkL jcl RX10 jY jZ1 jw_X11 jNW jSR jCF jSF RX11 false cX11_arbiter jo_145 ji_145 = true := by decide +kernel
set_option maxRecDepth 100000 in
theorem jc_146 : jp_chkL jcl RX10 jY jZ1 jw_X11 jNW jSR jCF jSF RX11 false cX11_ball jo_146 ji_146 = true := by decide +kernel
set_option maxRecDepth 100000 in
theorem jc_147 : jp_chkL jcl RX10 jY jZ1 jw_X11 jNW jSR jCF jSF RX11 false cX11_game jo_147 ji_147 = true := by decide +kernel
set_option maxRecDepth 100000 in
theorem jc_148 : jp_chkL jcl RX10 jY jZ1 jw_X11 jNW jSR jCF jSF RX11 false cX11_leaps jo_148 ji_148 = true := by decide +kernel
set_option maxRecDepth 100000 in
theorem jc_149 : jp_chkL jcl RX10 jY jZ1 jw_X11 jNW jSR jCF jSF RX11 false cX11_undo jo_149 ji_149 = true := by decide +kernel
set_option maxRecDepth 100000 in
theorem jc_150 : jp_chkL jcl RX10 jY jZ1 jw_X11 jNW jSR jCF jSF RX11 false cX11_image jo_150 ji_150 = true := by decide +kernel
set_option maxRecDepth 100000 in
theorem jc_151 : jp_chkL jcl RX10 jY jZ1 jw_X11 jNW jSR jCF jSF RX11 false cX11_look jo_151 ji_151 = true := by decide +kernel
set_option maxRecDepth 100000 in
theorem jc_152 : jp_chkL jcl RX10 jY jZ1 jw_X11 jNW jSR jCF jSF RX11 false cX11_within jo_152 ji_152 = true := by decide +kernel
set_option maxRecDepth 100000 in
theorem jc_153 : jp_chkL jcl RX10 jY jZ1 jw_X11 jNW jSR jCF jSF RX11 false cX11_isCell jo_153 ji_153 = true := by decide +kernel
set_option maxRecDepth 100000 in
theorem jc_154 : jp_chkL jcl RX10 jY jZ1 jw_X11 jNW jSR jCF jSF RX11 false cX11_canGoBy jo_154 ji_154 = true := by decide +kernel
set_option maxRecDepth 100000 in
theorem jc_155 : jp_chkL jcl RX10 jY jZ1 jw_X11 jNW jSR jCF jSF RX11 false cX11_setPerson jo_155 ji_155 = true := by decide +kernel
set_option maxRecDepth 100000 in
theorem jc_156 : jp_chkL jcl RX10 jY jZ1 jw_X11 jNW jSR jCF jSF RX11 false cX11_setEyes jo_156 ji_156 = true := by decide +kernel
set_option maxRecDepth 100000 in
theorem jc_157 : jp_chkL jcl RX10 jY jZ1 jw_X11 jNW jSR jCF jSF RX11 false cX11_setDay jo_157 ji_157 = true := by decide +kernel
set_option maxRecDepth 100000 in
theorem jc_158 : jp_chkL jcl RX10 jY jZ1 jw_X11 jNW jSR jCF jSF RX11 false cX11_putBytes jo_158 ji_158 = true := by decide +kernel
set_option maxRecDepth 100000 in
theorem jc_159 : jp_chkL jcl RX10 jY jZ1 jw_X11 jNW jSR jCF jSF RX11 false cX11_keep jo_159 ji_159 = true := by decide +kernel
