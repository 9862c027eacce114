set_option maxRecDepth 100000 in
theorem hk_im : wI.all (fun i => i.1.any (fun c => decide (hh_487.2.1 c.1.1 c.1.2 = 0) && c.2.all (fun p => ile 1 p.1 || ile p.2.1 (-1))) || (decide (hh_487.2.1 i.2.1.1 i.2.1.2 = 0) && aLe [(0, 0, 1)] i.2.2)) = true := by decide +kernel
