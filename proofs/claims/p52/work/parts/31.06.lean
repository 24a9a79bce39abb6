theorem ke_Po_isWord : chkE GX 3000 79 ct_Po_isWord = true := by decide +kernel
