set_option maxRecDepth 100000 in
theorem hk_rf : (List.range wR.length).all (fun a => (List.range (wR.getD a []).length).all (fun k => match (wR.getD a []).getD k none with | some b => decide (hh_487.2.2.2.1 a k = some b) | none => true)) = true := by decide +kernel
