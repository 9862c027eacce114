theorem zoX12_soonest : zMok mX12_soonest := zMo (zws_in (i := 8056) rfl rfl) (by decide +kernel)
theorem zoX12_surestBut : zMok mX12_surestBut := zMo (zws_in (i := 8064) rfl rfl) (by decide +kernel)
theorem zoX12_surest : zMok mX12_surest := zMo (zws_in (i := 8060) rfl rfl) (by decide +kernel)
theorem zoX12_by : zMok mX12_by := zMo (zws_in (i := 8068) rfl rfl) (by decide +kernel)
theorem zoX12_lowest : zMok mX12_lowest := zMo (zws_in (i := 8076) rfl rfl) (by decide +kernel)
theorem zoX12_registered : zMok mX12_registered := zMo (zws_in (i := 8072) rfl rfl) (by decide +kernel)
theorem zoX12_tryMatch : zMok mX12_tryMatch := zMo (zws_in (i := 8088) rfl rfl) (by decide +kernel)
theorem zoX12_seekMatch : zMok mX12_seekMatch := zMo (zws_in (i := 8084) rfl rfl) (by decide +kernel)
theorem zoX12_match : zMok mX12_match := zMo (zws_in (i := 8080) rfl rfl) (by decide +kernel)
theorem zoX12_matchDays : zMok mX12_matchDays := zMo (zws_in (i := 8092) rfl rfl) (by decide +kernel)
theorem zoX12_matchOf : zMok mX12_matchOf := zMo (zws_in (i := 8096) rfl rfl) (by decide +kernel)
theorem zoX12_meet : zMok mX12_meet := zMo (zws_in (i := 8100) rfl rfl) (by decide +kernel)
theorem zoX12_fitsAll : zMok mX12_fitsAll := zMo (zws_in (i := 8108) rfl rfl) (by decide +kernel)
theorem zoX12_fits : zMok mX12_fits := zMo (zws_in (i := 8104) rfl rfl) (by decide +kernel)
theorem zoX12_reachOf : zMok mX12_reachOf := zMo (zws_in (i := 8116) rfl rfl) (by decide +kernel)
theorem zoX12_reach : zMok mX12_reach := zMo (zws_in (i := 8112) rfl rfl) (by decide +kernel)
theorem zoX12_pier : zMok mX12_pier := zMo (zws_in (i := 8120) rfl rfl) (by decide +kernel)
theorem zoX12_doLead : zMok mX12_doLead := zMo (zws_in (i := 8131) rfl rfl) (by decide +kernel)
theorem zoX12_watch : zMok mX12_watch := zMo (zws_in (i := 8124) rfl rfl) (by decide +kernel)
theorem zoX12_layFar : zMok mX12_layFar := zMo (zws_in (i := 8143) rfl rfl) (by decide +kernel)
theorem zoX12_tryRound : zMok mX12_tryRound := zMo (zws_in (i := 8147) rfl rfl) (by decide +kernel)
theorem zoX12_seekRound : zMok mX12_seekRound := zMo (zws_in (i := 8139) rfl rfl) (by decide +kernel)
theorem zoX12_round : zMok mX12_round := zMo (zws_in (i := 8135) rfl rfl) (by decide +kernel)
theorem zoX12_roundAt : zMok mX12_roundAt := zMo (zws_in (i := 8151) rfl rfl) (by decide +kernel)
theorem zoX12_decade : zMok mX12_decade := zMo (zws_in (i := 8155) rfl rfl) (by decide +kernel)
theorem zoX12_note1 : zMok mX12_note1 := zMo (zws_in (i := 8165) rfl rfl) (by decide +kernel)
theorem zoX12_send : zMok mX12_send := zMo (zws_in (i := 8161) rfl rfl) (by decide +kernel)
theorem zoX12_tune : zMok mX12_tune := zMo (zws_in (i := 8169) rfl rfl) (by decide +kernel)
theorem zoX12_years : zMok mX12_years := zMo (zws_in (i := 8177) rfl rfl) (by decide +kernel)
theorem zoX12_close : zMok mX12_close := zMo (zws_in (i := 8181) rfl rfl) (by decide +kernel)
theorem zoX12_undo : zMok mX12_undo := zMo (zws_in (i := 8185) rfl rfl) (by decide +kernel)
theorem zoX12_image : zMok mX12_image := zMo (zws_in (i := 8189) rfl rfl) (by decide +kernel)
theorem zoX12_back : zMok mX12_back := zMo (zws_in (i := 8193) rfl rfl) (by decide +kernel)
theorem zoX12_led : zMok mX12_led := zMo (zws_in (i := 8197) rfl rfl) (by decide +kernel)
theorem zoX12_size : zMok mX12_size := zMo (zws_in (i := 8201) rfl rfl) (by decide +kernel)
theorem zoX12_trouble : zMok mX12_trouble := zMo (zws_in (i := 8205) rfl rfl) (by decide +kernel)
theorem zoJ0_length_8abf5 : zMok mJ0_length_8abf5 := zMo (zws_in (i := 3065) rfl rfl) (by decide +kernel)
theorem zoJ0_charAt_5068e : zMok mJ0_charAt_5068e := zMo (zws_in (i := 3075) rfl rfl) (by decide +kernel)
theorem zoJ0_coder_7d493 : zMok mJ0_coder_7d493 := zMo (zws_in (i := 3069) rfl rfl) (by decide +kernel)
theorem zoJ0_isLatin1_aae02 : zMok mJ0_isLatin1_aae02 := zMo (zws_in (i := 3079) rfl rfl) (by decide +kernel)
theorem zoJ0_checkIndex_df160 : zMok mJ0_checkIndex_df160 := zMo (zws_in (i := 3085) rfl rfl) (by decide +kernel)
theorem zoJ1_charAt_3b067 : zMok mJ1_charAt_3b067 := zMo (zws_in (i := 3082) rfl rfl) (by decide +kernel)
theorem zoJ3_checkIndex_8e157 : zMok mJ3_checkIndex_8e157 := zMo (zws_in (i := 3090) rfl rfl) (by decide +kernel)
theorem zoJ7_fill_53178 : zMok mJ7_fill_53178 := zMo (zws_in (i := 4195) rfl rfl) (by decide +kernel)
theorem zoJ6_bitCount_0f7a4 : zMok mJ6_bitCount_0f7a4 := zMo (zws_in (i := 4057) rfl rfl) (by decide +kernel)
theorem zledc : Cond.code yX11_led cX11_led 4 (some .int) ∈ zws := zws_in (i := 5224) rfl rfl
def zmthC (o : Nat) (q : Nat × Nat × Nat × zM × Nat × Nat × Nat × Nat) : Bool := match q with
  | (k, kd, na, cm, pl, pi, ps, pn) => match kd with
    | 0 => decide (zpc pl = some (Cond.methodLink (zRn o) k cm.2.2.2.2.1)) && goodWord (Cond.methodLink (zRn o) k cm.2.2.2.2.1) && decide (zpc pi = some (Cond.instanceMethod cm.2.2.2.2.1)) && goodWord (Cond.instanceMethod cm.2.2.2.2.1) && decide (zpc ps = some (Cond.selects (zRn cm.2.1) cm.2.2.2.2.1 cm.2.2.2.2.1)) && goodWord (Cond.selects (zRn cm.2.1) cm.2.2.2.2.1 cm.2.2.2.2.1) && decide (zpc pn = some (Cond.initialized cm.2.2.2.2.1.cls)) && goodWord (Cond.initialized cm.2.2.2.2.1.cls) && decide ((parseMethodDescriptor cm.2.2.2.2.1.desc).map (fun d => d.parameters.length + 1) = some na)
    | 1 => decide (zpc pl = some (Cond.methodLink (zRn o) k cm.2.2.2.2.1)) && goodWord (Cond.methodLink (zRn o) k cm.2.2.2.2.1) && decide (zpc pi = some (Cond.static cm.2.2.2.2.1)) && goodWord (Cond.static cm.2.2.2.2.1) && decide (zpc pn = some (Cond.initialized cm.2.2.2.2.1.cls)) && goodWord (Cond.initialized cm.2.2.2.2.1.cls) && decide ((parseMethodDescriptor cm.2.2.2.2.1.desc).map (fun d => d.parameters.length) = some na)
    | 2 => decide (zpc pl = some (Cond.methodLink (zRn o) k cm.2.2.2.2.1)) && goodWord (Cond.methodLink (zRn o) k cm.2.2.2.2.1) && decide (zpc pi = some (Cond.instanceMethod cm.2.2.2.2.1)) && goodWord (Cond.instanceMethod cm.2.2.2.2.1) && decide (zpc pn = some (Cond.initialized cm.2.2.2.2.1.cls)) && goodWord (Cond.initialized cm.2.2.2.2.1.cls) && decide ((parseMethodDescriptor cm.2.2.2.2.1.desc).map (fun d => d.parameters.length + 1) = some na) && decide (cm.2.2.2.2.1.name = "<init>") && decide (cm.2.2.2.1 = none)
    | 3 => znm.any (fun r => decide (r.1 = o) && decide (r.2.1 = k) && decide (r.2.2.1.2.2.2.2.1 = cm.2.2.2.2.1)) && decide (zpc pi = some (Cond.static cm.2.2.2.2.1)) && goodWord (Cond.static cm.2.2.2.2.1) && decide (zpc pn = some (Cond.initialized cm.2.2.2.2.1.cls)) && goodWord (Cond.initialized cm.2.2.2.2.1.cls) && decide ((parseMethodDescriptor cm.2.2.2.2.1.desc).map (fun d => d.parameters.length) = some na)
    | 4 => znm.any (fun r => decide (r.1 = o) && decide (r.2.1 = k) && decide (r.2.2.1.2.2.2.2.1 = cm.2.2.2.2.1)) && decide (zpc pi = some (Cond.instanceMethod cm.2.2.2.2.1)) && goodWord (Cond.instanceMethod cm.2.2.2.2.1) && decide (zpc pn = some (Cond.initialized cm.2.2.2.2.1.cls)) && goodWord (Cond.initialized cm.2.2.2.2.1.cls) && decide ((parseMethodDescriptor cm.2.2.2.2.1.desc).map (fun d => d.parameters.length + 1) = some na) && decide (cm.2.2.2.2.1.name = "<init>") && decide (cm.2.2.2.1 = none)
    | 10 => decide (zpc pl = some (Cond.methodLink (zRn o) k Lib.objectInit)) && goodWord (Cond.methodLink (zRn o) k Lib.objectInit)
    | 11 => decide (zpc pl = some (Cond.methodLink (zRn o) k Lib.Math.max.name)) && goodWord (Cond.methodLink (zRn o) k Lib.Math.max.name)
    | 12 => decide (zpc pl = some (Cond.methodLink (zRn o) k Lib.Math.min.name)) && goodWord (Cond.methodLink (zRn o) k Lib.Math.min.name)
    | 13 => decide (zpc pl = some (Cond.methodLink (zRn o) k Lib.Math.abs.name)) && goodWord (Cond.methodLink (zRn o) k Lib.Math.abs.name)
    | 14 => decide (zpc pl = some (Cond.methodLink (zRn o) k arraycopyName)) && goodWord (Cond.methodLink (zRn o) k arraycopyName)
    | _ => decide (kd = 16)
set_option maxRecDepth 20000 in
theorem zmthK0 : (zmthTT.getD 0 []).all (zmthC 0) = true := by decide +kernel
set_option maxRecDepth 20000 in
theorem zmthK1 : (zmthTT.getD 1 []).all (zmthC 1) = true := by decide +kernel
set_option maxRecDepth 20000 in
theorem zmthK2 : (zmthTT.getD 2 []).all (zmthC 2) = true := by decide +kernel
set_option maxRecDepth 20000 in
theorem zmthK3 : (zmthTT.getD 3 []).all (zmthC 3) = true := by decide +kernel
set_option maxRecDepth 20000 in
theorem zmthK4 : (zmthTT.getD 4 []).all (zmthC 4) = true := by decide +kernel
set_option maxRecDepth 20000 in
theorem zmthK5 : (zmthTT.getD 5 []).all (zmthC 5) = true := by decide +kernel
set_option maxRecDepth 20000 in
theorem zmthK6 : (zmthTT.getD 6 []).all (zmthC 6) = true := by decide +kernel
set_option maxRecDepth 20000 in
theorem zmthK7 : (zmthTT.getD 7 []).all (zmthC 7) = true := by decide +kernel
set_option maxRecDepth 20000 in
theorem zmthK8 : (zmthTT.getD 8 []).all (zmthC 8) = true := by decide +kernel
set_option maxRecDepth 20000 in
theorem zmthK9 : (zmthTT.getD 9 []).all (zmthC 9) = true := by decide +kernel
set_option maxRecDepth 20000 in
theorem zmthK10 : (zmthTT.getD 10 []).all (zmthC 10) = true := by decide +kernel
set_option maxRecDepth 20000 in
theorem zmthK11 : (zmthTT.getD 11 []).all (zmthC 11) = true := by decide +kernel
set_option maxRecDepth 20000 in
theorem zmthK12 : (zmthTT.getD 12 []).all (zmthC 12) = true := by decide +kernel
set_option maxRecDepth 20000 in
theorem zmthK13 : (zmthTT.getD 13 []).all (zmthC 13) = true := by decide +kernel
set_option maxRecDepth 20000 in
theorem zmthK14 : (zmthTT.getD 14 []).all (zmthC 14) = true := by decide +kernel
set_option maxRecDepth 20000 in
theorem zmthK15 : (zmthTT.getD 15 []).all (zmthC 15) = true := by decide +kernel
set_option maxRecDepth 20000 in
theorem zmthK16 : (zmthTT.getD 16 []).all (zmthC 16) = true := by decide +kernel
set_option maxRecDepth 20000 in
theorem zmthK17 : (zmthTT.getD 17 []).all (zmthC 17) = true := by decide +kernel
set_option maxRecDepth 20000 in
theorem zmthK18 : (zmthTT.getD 18 []).all (zmthC 18) = true := by decide +kernel
