/-! ===== the tables hold: each row against the method's bytes and the words ===== -/
theorem ok_134 : sx_okM 134 = true := by decide +kernel
theorem ok_135 : sx_okM 135 = true := by decide +kernel
theorem ok_136 : sx_okM 136 = true := by decide +kernel
theorem ok_137 : sx_okM 137 = true := by decide +kernel
theorem ok_138 : sx_okM 138 = true := by decide +kernel
theorem ok_139 : sx_okM 139 = true := by decide +kernel
theorem ok_140 : sx_okM 140 = true := by decide +kernel
theorem ok_141 : sx_okM 141 = true := by decide +kernel
theorem ok_142 : sx_okM 142 = true := by decide +kernel
