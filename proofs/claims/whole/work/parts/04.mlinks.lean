set_option maxRecDepth 100000 in
theorem xML_ok : ∀ o, o < 28 → ∀ r ∈ xML.getD o [], xMLp o r := by decide +kernel
