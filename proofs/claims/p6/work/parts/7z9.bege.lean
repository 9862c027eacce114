set_option maxRecDepth 100000 in
theorem hk_sh : (List.range 214).all (fun a => decide (zsh hh_487 a = wSh[a]?)) = true := by decide +kernel
set_option maxRecDepth 100000 in
theorem hk_ln : wSh.length = 214 := by decide +kernel
