/-! ===== the tables hold: each row against the method's bytes and the words ===== -/
theorem ok_97 : sx_okM 97 = true := by decide +kernel
theorem ok_98 : sx_okM 98 = true := by decide +kernel
theorem ok_99 : sx_okM 99 = true := by decide +kernel
theorem ok_100 : sx_okM 100 = true := by decide +kernel
theorem ok_101 : sx_okM 101 = true := by decide +kernel
theorem ok_102 : sx_okM 102 = true := by decide +kernel
theorem ok_103 : sx_okM 103 = true := by decide +kernel
theorem ok_104 : sx_okM 104 = true := by decide +kernel
theorem ok_105 : sx_okM 105 = true := by decide +kernel
theorem ok_106 : sx_okM 106 = true := by decide +kernel
theorem ok_107 : sx_okM 107 = true := by decide +kernel
theorem ok_108 : sx_okM 108 = true := by decide +kernel
