theorem chain7 : chkL 7 (rowsN 7) = true := by decide +kernel
theorem rows_7 : (rowsN 7).length = 5040 := by decide +kernel
