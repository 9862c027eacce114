/-! what the kernel decides of the tables -/
theorem zws_in {i : Nat} {w : Cond} (h1 : lw_tbl[i]? = some w) (h2 : goodWord w = true) : w ∈ zws := List.mem_filter.mpr ⟨List.mem_of_getElem? h1, h2⟩
theorem zws_of {ws : List Cond} (ps : List Nat) (h1 : ps.map (fun i => lw_tbl[i]?) = ws.map some) (h2 : ws.all goodWord = true) : ∀ w ∈ ws, w ∈ zws := by
  intro w hw
  have h3 : some w ∈ ps.map (fun i => lw_tbl[i]?) := by rw [h1]; exact List.mem_map.mpr ⟨w, hw, rfl⟩
  obtain ⟨i, -, hi⟩ := List.mem_map.mp h3
  exact zws_in hi (List.all_eq_true.mp h2 w hw)
theorem zws_good : ∀ w ∈ zws, (w.onTables && w.keeps) = true ∨ ∃ ty, w = .arrayClass ty := fun w hw => good_of_word (List.mem_filter.mp hw).2
theorem zws_tbl : ∀ w ∈ zws, w ∈ lw_tbl := fun w hw => (List.mem_filter.mp hw).1
theorem zlook_mem {α : Type} {l : List (Nat × α)} {i : Nat} {v : α} (h : zlook l i = some v) : (i, v) ∈ l := by
  induction l with
  | nil => cases h
  | cons q t ih =>
    unfold zlook at h
    split at h
    · next e => cases h; subst e; exact List.mem_cons_self
    · exact List.mem_cons_of_mem _ (ih h)
set_option maxRecDepth 20000 in
theorem zcw0 : ∀ w ∈ u_ws RX0 TX0 4, w ∈ zws := zws_of [244, 246, 248, 250] (by decide +kernel) (by decide +kernel)
set_option maxRecDepth 20000 in
theorem zcw1 : ∀ w ∈ u_ws RX1 TX1 5, w ∈ zws := zws_of [554, 556, 558, 560, 562] (by decide +kernel) (by decide +kernel)
set_option maxRecDepth 20000 in
theorem zcw2 : ∀ w ∈ u_ws RX2 TX2 7, w ∈ zws := zws_of [443, 445, 447, 449, 451, 453, 455] (by decide +kernel) (by decide +kernel)
set_option maxRecDepth 20000 in
theorem zcw3 : ∀ w ∈ u_ws RX3 TX3 4, w ∈ zws := zws_of [530, 532, 534, 536] (by decide +kernel) (by decide +kernel)
set_option maxRecDepth 20000 in
theorem zcw4 : ∀ w ∈ u_ws RX4 TX4 15, w ∈ zws := zws_of [339, 341, 343, 345, 347, 349, 351, 353, 355, 357, 359, 361, 363, 365, 367] (by decide +kernel) (by decide +kernel)
set_option maxRecDepth 20000 in
theorem zcw5 : ∀ w ∈ u_ws RX5 TX5 13, w ∈ zws := zws_of [391, 393, 395, 397, 399, 401, 403, 405, 407, 409, 411, 413, 415] (by decide +kernel) (by decide +kernel)
set_option maxRecDepth 20000 in
theorem zcw6 : ∀ w ∈ u_ws RX6 TX6 7, w ∈ zws := zws_of [503, 505, 507, 509, 511, 513, 515] (by decide +kernel) (by decide +kernel)
set_option maxRecDepth 20000 in
theorem zcw7 : ∀ w ∈ u_ws RX7 TX7 6, w ∈ zws := zws_of [475, 477, 479, 481, 483, 485] (by decide +kernel) (by decide +kernel)
set_option maxRecDepth 20000 in
theorem zcw8 : ∀ w ∈ u_ws RX8 TX8 3, w ∈ zws := zws_of [265, 267, 269] (by decide +kernel) (by decide +kernel)
set_option maxRecDepth 20000 in
theorem zcw9 : ∀ w ∈ u_ws RX9 TX9 4, w ∈ zws := zws_of [189, 191, 193, 195] (by decide +kernel) (by decide +kernel)
set_option maxRecDepth 20000 in
theorem zcw10 : ∀ w ∈ u_ws RX10 TX10 4, w ∈ zws := zws_of [217, 219, 221, 223] (by decide +kernel) (by decide +kernel)
set_option maxRecDepth 20000 in
theorem zcw11 : ∀ w ∈ u_ws RX11 TX11 16, w ∈ zws := zws_of [582, 584, 586, 588, 590, 592, 594, 596, 598, 600, 602, 604, 606, 608, 610, 612] (by decide +kernel) (by decide +kernel)
set_option maxRecDepth 20000 in
theorem zcw12 : ∀ w ∈ u_ws RX12 TX12 39, w ∈ zws := zws_of [1416, 1418, 1420, 1422, 1424, 1426, 1428, 1430, 1432, 1434, 1436, 1438, 1440, 1442, 1444, 1446, 1448, 1450, 1452, 1454, 1456, 1458, 1460, 1462, 1464, 1466, 1468, 1470, 1472, 1474, 1476, 1478, 1480, 1482, 1484, 1486, 1488, 1490, 1492] (by decide +kernel) (by decide +kernel)
theorem zcl_cl {ci : Nat} (h : ci < 13) : vwCl[ci]? = some (zRn ci, zTT ci, (zft ci).length) := by
  match ci, h with
  | 0, _ => exact rfl
  | 1, _ => exact rfl
  | 2, _ => exact rfl
  | 3, _ => exact rfl
  | 4, _ => exact rfl
  | 5, _ => exact rfl
  | 6, _ => exact rfl
  | 7, _ => exact rfl
  | 8, _ => exact rfl
  | 9, _ => exact rfl
  | 10, _ => exact rfl
  | 11, _ => exact rfl
  | 12, _ => exact rfl
theorem zcl_ws {ci : Nat} (h : ci < 13) : ∀ w ∈ u_ws (zRn ci) (zTT ci) (zft ci).length, w ∈ zws := by
  match ci, h with
  | 0, _ => exact zcw0
  | 1, _ => exact zcw1
  | 2, _ => exact zcw2
  | 3, _ => exact zcw3
  | 4, _ => exact zcw4
  | 5, _ => exact zcw5
  | 6, _ => exact zcw6
  | 7, _ => exact zcw7
  | 8, _ => exact zcw8
  | 9, _ => exact zcw9
  | 10, _ => exact zcw10
  | 11, _ => exact zcw11
  | 12, _ => exact zcw12
theorem zcl_ty {ci : Nat} (h : ci < 13) : ∀ k, k < (zft ci).length → parseFieldDescriptor (zTT ci k).2.2.1 = some (zty ci k) := by
  match ci, h with
  | 0, _ => exact tyX0_ok
  | 1, _ => exact tyX1_ok
  | 2, _ => exact tyX2_ok
  | 3, _ => exact tyX3_ok
  | 4, _ => exact tyX4_ok
  | 5, _ => exact tyX5_ok
  | 6, _ => exact tyX6_ok
  | 7, _ => exact tyX7_ok
  | 8, _ => exact tyX8_ok
  | 9, _ => exact tyX9_ok
  | 10, _ => exact tyX10_ok
  | 11, _ => exact tyX11_ok
  | 12, _ => exact tyX12_ok
theorem zcl_nm {ci : Nat} (h : ci < 13) : ∀ a, a < (zft ci).length → ∀ b, b < (zft ci).length → a ≠ b → (zTT ci a).2.1 ≠ (zTT ci b).2.1 := by
  match ci, h with
  | 0, _ => exact nmX0
  | 1, _ => exact nmX1
  | 2, _ => exact nmX2
  | 3, _ => exact nmX3
  | 4, _ => exact nmX4
  | 5, _ => exact nmX5
  | 6, _ => exact nmX6
  | 7, _ => exact nmX7
  | 8, _ => exact nmX8
  | 9, _ => exact nmX9
  | 10, _ => exact nmX10
  | 11, _ => exact nmX11
  | 12, _ => exact nmX12
def zrefT (t : FieldType) : Bool := match t with
  | .object _ => true
  | .array _ => true
  | _ => false
def zftok (ci f : Nat) : Bool := match (zft ci).getD f 9 with
  | 0 => decide (zty ci f = .int)
  | 1 => decide (zty ci f = .boolean)
  | 3 => zrefT (zty ci f)
  | _ => false
theorem zft_ok : (List.range 13).all (fun ci => (List.range (zft ci).length).all (fun f => zftok ci f && decide ((zTT ci f).1 = zRn ci))) = true := by decide +kernel
def zfldC (o : Nat) (q : Nat × Nat × Nat × Nat) : Bool := decide (q.2.1 < 13) && decide (q.2.2.1 < (zft q.2.1).length) && decide (lw_tbl[q.2.2.2]? = some (Cond.fieldLink (zRn o) q.1 (zRn q.2.1) (zTT q.2.1 q.2.2.1).2.1 (zTT q.2.1 q.2.2.1).2.2.1)) && goodWord (Cond.fieldLink (zRn o) q.1 (zRn q.2.1) (zTT q.2.1 q.2.2.1).2.1 (zTT q.2.1 q.2.2.1).2.2.1)
set_option maxRecDepth 20000 in
theorem zfldK0 : (zfldTT.getD 0 []).all (zfldC 0) = true := by decide +kernel
set_option maxRecDepth 20000 in
theorem zfldK1 : (zfldTT.getD 1 []).all (zfldC 1) = true := by decide +kernel
set_option maxRecDepth 20000 in
theorem zfldK2 : (zfldTT.getD 2 []).all (zfldC 2) = true := by decide +kernel
set_option maxRecDepth 20000 in
theorem zfldK3 : (zfldTT.getD 3 []).all (zfldC 3) = true := by decide +kernel
set_option maxRecDepth 20000 in
theorem zfldK4 : (zfldTT.getD 4 []).all (zfldC 4) = true := by decide +kernel
set_option maxRecDepth 20000 in
theorem zfldK5 : (zfldTT.getD 5 []).all (zfldC 5) = true := by decide +kernel
set_option maxRecDepth 20000 in
theorem zfldK6 : (zfldTT.getD 6 []).all (zfldC 6) = true := by decide +kernel
set_option maxRecDepth 20000 in
theorem zfldK7 : (zfldTT.getD 7 []).all (zfldC 7) = true := by decide +kernel
set_option maxRecDepth 20000 in
theorem zfldK8 : (zfldTT.getD 8 []).all (zfldC 8) = true := by decide +kernel
set_option maxRecDepth 20000 in
theorem zfldK9 : (zfldTT.getD 9 []).all (zfldC 9) = true := by decide +kernel
set_option maxRecDepth 20000 in
theorem zfldK10 : (zfldTT.getD 10 []).all (zfldC 10) = true := by decide +kernel
set_option maxRecDepth 20000 in
theorem zfldK11 : (zfldTT.getD 11 []).all (zfldC 11) = true := by decide +kernel
set_option maxRecDepth 20000 in
theorem zfldK12 : (zfldTT.getD 12 []).all (zfldC 12) = true := by decide +kernel
set_option maxRecDepth 20000 in
theorem zfldK13 : (zfldTT.getD 13 []).all (zfldC 13) = true := by decide +kernel
set_option maxRecDepth 20000 in
theorem zfldK14 : (zfldTT.getD 14 []).all (zfldC 14) = true := by decide +kernel
set_option maxRecDepth 20000 in
theorem zfldK15 : (zfldTT.getD 15 []).all (zfldC 15) = true := by decide +kernel
set_option maxRecDepth 20000 in
theorem zfldK16 : (zfldTT.getD 16 []).all (zfldC 16) = true := by decide +kernel
set_option maxRecDepth 20000 in
theorem zfldK17 : (zfldTT.getD 17 []).all (zfldC 17) = true := by decide +kernel
set_option maxRecDepth 20000 in
theorem zfldK18 : (zfldTT.getD 18 []).all (zfldC 18) = true := by decide +kernel
theorem zfldK : ∀ o, o < 19 → (zfldTT.getD o []).all (zfldC o) = true
  | 0, _ => zfldK0
  | 1, _ => zfldK1
  | 2, _ => zfldK2
  | 3, _ => zfldK3
  | 4, _ => zfldK4
  | 5, _ => zfldK5
  | 6, _ => zfldK6
  | 7, _ => zfldK7
  | 8, _ => zfldK8
  | 9, _ => zfldK9
  | 10, _ => zfldK10
  | 11, _ => zfldK11
  | 12, _ => zfldK12
  | 13, _ => zfldK13
  | 14, _ => zfldK14
  | 15, _ => zfldK15
  | 16, _ => zfldK16
  | 17, _ => zfldK17
  | 18, _ => zfldK18
def zcstC (o : Nat) (q : Nat × zV × Nat) : Bool := match q.2.1 with
  | .inl x => decide (lw_tbl[q.2.2]? = some (Cond.constant (zRn o) q.1 x)) && goodWord (Cond.constant (zRn o) q.1 x)
  | .inr (.inl x) => decide (lw_tbl[q.2.2]? = some (Cond.constantLong (zRn o) q.1 x)) && goodWord (Cond.constantLong (zRn o) q.1 x)
  | .inr (.inr (some a)) => zsr.any (fun r => decide (r.1 = o) && decide (r.2.1 = q.1) && decide (r.2.2.2.1 = a)) && decide (1000000 ≤ a)
  | _ => false
set_option maxRecDepth 20000 in
theorem zcstK : (List.range 19).all (fun o => (zcstTT.getD o []).all (zcstC o)) = true := by decide +kernel
def zclsC (o : Nat) (q : Nat × Nat × Nat) : Bool := if q.2.1 < 13 then decide (lw_tbl[q.2.2]? = some (Cond.classLink (zRn o) q.1 (zRn q.2.1))) && goodWord (Cond.classLink (zRn o) q.1 (zRn q.2.1)) else decide (q.2.1 = 99)
set_option maxRecDepth 20000 in
theorem zclsK : (List.range 19).all (fun o => (zclsTT.getD o []).all (zclsC o)) = true := by decide +kernel
def zinsP : List (Nat × Nat) := [(226, 126), (540, 133), (420, 129), (519, 132), (156, 123), (371, 128), (489, 131), (459, 130), (253, 127), (169, 124), (200, 125), (148, 122), (1372, 134)]
set_option maxRecDepth 20000 in
theorem zinsK : (List.range 13).all (fun ci => decide (lw_tbl[(zinsP.getD ci (0, 0)).1]? = some (Cond.instantiable (zRn ci) (zft ci).length)) && goodWord (Cond.instantiable (zRn ci) (zft ci).length) && decide (lw_tbl[(zinsP.getD ci (0, 0)).2]? = some (Cond.initialized (zRn ci))) && goodWord (Cond.initialized (zRn ci))) = true := by decide +kernel
set_option maxRecDepth 20000 in
theorem zarrK : Cond.arrayClass .byte ∈ zws ∧ Cond.arrayClass .int ∈ zws ∧ Cond.arrayClass .long ∈ zws := ⟨zws_in (i := 198) (by decide +kernel) rfl, zws_in (i := 199) (by decide +kernel) rfl, zws_in (i := 418) (by decide +kernel) rfl⟩
def zallC (q : zM × Nat) : Bool := decide (lw_tbl[q.2]? = some (Cond.code q.1.2.2.2.2.1 q.1.1 q.1.2.2.1 q.1.2.2.2.1)) && goodWord (Cond.code q.1.2.2.2.2.1 q.1.1 q.1.2.2.1 q.1.2.2.2.1) && decide (zRn q.1.2.1 = q.1.2.2.2.2.1.cls) && plainName q.1.2.2.2.2.1.cls && decide (q.1.2.2.2.2.1.cls ≠ "java/lang/invoke/MethodHandle") && decide (q.1.2.2.2.2.1.cls ≠ "java/lang/invoke/VarHandle") && decide (q.1.2.2.1 ≤ 30) && (q.1.2.2.2.2.2 == decide (q.1.2.2.2.2.1.name = "<init>"))
def zmthC (o : Nat) (q : Nat × Nat × Nat × zM × Nat × Nat × Nat × Nat × Nat) : Bool := match q with
  | (k, kd, na, cm, pl, pi, ps, pn, pc) => match kd with
    | 0 => zallC (cm, pc) && decide (lw_tbl[pl]? = some (Cond.methodLink (zRn o) k cm.2.2.2.2.1)) && goodWord (Cond.methodLink (zRn o) k cm.2.2.2.2.1) && decide (lw_tbl[pi]? = some (Cond.instanceMethod cm.2.2.2.2.1)) && goodWord (Cond.instanceMethod cm.2.2.2.2.1) && decide (lw_tbl[ps]? = some (Cond.selects (zRn cm.2.1) cm.2.2.2.2.1 cm.2.2.2.2.1)) && goodWord (Cond.selects (zRn cm.2.1) cm.2.2.2.2.1 cm.2.2.2.2.1) && decide (lw_tbl[pn]? = some (Cond.initialized cm.2.2.2.2.1.cls)) && goodWord (Cond.initialized cm.2.2.2.2.1.cls) && decide ((parseMethodDescriptor cm.2.2.2.2.1.desc).map (fun d => d.parameters.length + 1) = some na)
    | 1 => zallC (cm, pc) && decide (lw_tbl[pl]? = some (Cond.methodLink (zRn o) k cm.2.2.2.2.1)) && goodWord (Cond.methodLink (zRn o) k cm.2.2.2.2.1) && decide (lw_tbl[pi]? = some (Cond.static cm.2.2.2.2.1)) && goodWord (Cond.static cm.2.2.2.2.1) && decide (lw_tbl[pn]? = some (Cond.initialized cm.2.2.2.2.1.cls)) && goodWord (Cond.initialized cm.2.2.2.2.1.cls) && decide ((parseMethodDescriptor cm.2.2.2.2.1.desc).map (fun d => d.parameters.length) = some na)
    | 2 => zallC (cm, pc) && decide (lw_tbl[pl]? = some (Cond.methodLink (zRn o) k cm.2.2.2.2.1)) && goodWord (Cond.methodLink (zRn o) k cm.2.2.2.2.1) && decide (lw_tbl[pi]? = some (Cond.instanceMethod cm.2.2.2.2.1)) && goodWord (Cond.instanceMethod cm.2.2.2.2.1) && decide (lw_tbl[pn]? = some (Cond.initialized cm.2.2.2.2.1.cls)) && goodWord (Cond.initialized cm.2.2.2.2.1.cls) && decide ((parseMethodDescriptor cm.2.2.2.2.1.desc).map (fun d => d.parameters.length + 1) = some na) && decide (cm.2.2.2.2.1.name = "<init>") && decide (cm.2.2.2.1 = none)
    | 3 => zallC (cm, pc) && znm.any (fun r => decide (r.1 = o) && decide (r.2.1 = k) && decide (r.2.2.1.2.2.2.2.1 = cm.2.2.2.2.1)) && decide (lw_tbl[pi]? = some (Cond.static cm.2.2.2.2.1)) && goodWord (Cond.static cm.2.2.2.2.1) && decide (lw_tbl[pn]? = some (Cond.initialized cm.2.2.2.2.1.cls)) && goodWord (Cond.initialized cm.2.2.2.2.1.cls) && decide ((parseMethodDescriptor cm.2.2.2.2.1.desc).map (fun d => d.parameters.length) = some na)
    | 4 => zallC (cm, pc) && znm.any (fun r => decide (r.1 = o) && decide (r.2.1 = k) && decide (r.2.2.1.2.2.2.2.1 = cm.2.2.2.2.1)) && decide (lw_tbl[pi]? = some (Cond.instanceMethod cm.2.2.2.2.1)) && goodWord (Cond.instanceMethod cm.2.2.2.2.1) && decide (lw_tbl[pn]? = some (Cond.initialized cm.2.2.2.2.1.cls)) && goodWord (Cond.initialized cm.2.2.2.2.1.cls) && decide ((parseMethodDescriptor cm.2.2.2.2.1.desc).map (fun d => d.parameters.length + 1) = some na) && decide (cm.2.2.2.2.1.name = "<init>") && decide (cm.2.2.2.1 = none)
    | 10 => decide (lw_tbl[pl]? = some (Cond.methodLink (zRn o) k Lib.objectInit)) && goodWord (Cond.methodLink (zRn o) k Lib.objectInit)
    | 11 => decide (lw_tbl[pl]? = some (Cond.methodLink (zRn o) k Lib.Math.max.name)) && goodWord (Cond.methodLink (zRn o) k Lib.Math.max.name)
    | 12 => decide (lw_tbl[pl]? = some (Cond.methodLink (zRn o) k Lib.Math.min.name)) && goodWord (Cond.methodLink (zRn o) k Lib.Math.min.name)
    | 13 => decide (lw_tbl[pl]? = some (Cond.methodLink (zRn o) k Lib.Math.abs.name)) && goodWord (Cond.methodLink (zRn o) k Lib.Math.abs.name)
    | 14 => decide (lw_tbl[pl]? = some (Cond.methodLink (zRn o) k arraycopyName)) && goodWord (Cond.methodLink (zRn o) k arraycopyName)
    | _ => decide (kd = 16)
set_option maxRecDepth 20000 in
theorem zmthK0 : (zmthTT.getD 0 []).all (zmthC 0) = true := by decide +kernel
set_option maxRecDepth 20000 in
theorem zmthK1 : (zmthTT.getD 1 []).all (zmthC 1) = true := by decide +kernel
set_option maxRecDepth 20000 in
theorem zmthK2 : (zmthTT.getD 2 []).all (zmthC 2) = true := by decide +kernel
set_option maxRecDepth 20000 in
theorem zmthK3 : (zmthTT.getD 3 []).all (zmthC 3) = true := by decide +kernel
set_option maxRecDepth 20000 in
theorem zmthK4 : (zmthTT.getD 4 []).all (zmthC 4) = true := by decide +kernel
set_option maxRecDepth 20000 in
theorem zmthK5 : (zmthTT.getD 5 []).all (zmthC 5) = true := by decide +kernel
set_option maxRecDepth 20000 in
theorem zmthK6 : (zmthTT.getD 6 []).all (zmthC 6) = true := by decide +kernel
set_option maxRecDepth 20000 in
theorem zmthK7 : (zmthTT.getD 7 []).all (zmthC 7) = true := by decide +kernel
set_option maxRecDepth 20000 in
theorem zmthK8 : (zmthTT.getD 8 []).all (zmthC 8) = true := by decide +kernel
set_option maxRecDepth 20000 in
theorem zmthK9 : (zmthTT.getD 9 []).all (zmthC 9) = true := by decide +kernel
set_option maxRecDepth 20000 in
theorem zmthK10 : (zmthTT.getD 10 []).all (zmthC 10) = true := by decide +kernel
set_option maxRecDepth 20000 in
theorem zmthK11 : (zmthTT.getD 11 []).all (zmthC 11) = true := by decide +kernel
set_option maxRecDepth 20000 in
theorem zmthK12 : (zmthTT.getD 12 []).all (zmthC 12) = true := by decide +kernel
set_option maxRecDepth 20000 in
theorem zmthK13 : (zmthTT.getD 13 []).all (zmthC 13) = true := by decide +kernel
set_option maxRecDepth 20000 in
theorem zmthK14 : (zmthTT.getD 14 []).all (zmthC 14) = true := by decide +kernel
set_option maxRecDepth 20000 in
theorem zmthK15 : (zmthTT.getD 15 []).all (zmthC 15) = true := by decide +kernel
set_option maxRecDepth 20000 in
theorem zmthK16 : (zmthTT.getD 16 []).all (zmthC 16) = true := by decide +kernel
set_option maxRecDepth 20000 in
theorem zmthK17 : (zmthTT.getD 17 []).all (zmthC 17) = true := by decide +kernel
set_option maxRecDepth 20000 in
theorem zmthK18 : (zmthTT.getD 18 []).all (zmthC 18) = true := by decide +kernel
theorem zmthK : ∀ o, o < 19 → (zmthTT.getD o []).all (zmthC o) = true
  | 0, _ => zmthK0
  | 1, _ => zmthK1
  | 2, _ => zmthK2
  | 3, _ => zmthK3
  | 4, _ => zmthK4
  | 5, _ => zmthK5
  | 6, _ => zmthK6
  | 7, _ => zmthK7
  | 8, _ => zmthK8
  | 9, _ => zmthK9
  | 10, _ => zmthK10
  | 11, _ => zmthK11
  | 12, _ => zmthK12
  | 13, _ => zmthK13
  | 14, _ => zmthK14
  | 15, _ => zmthK15
  | 16, _ => zmthK16
  | 17, _ => zmthK17
  | 18, _ => zmthK18
set_option maxRecDepth 20000 in
theorem zallK : zall.all zallC = true := by decide +kernel
set_option maxRecDepth 20000 in
theorem zobjK : Cond.instanceMethod Lib.objectInit ∈ zws ∧ Cond.code Lib.objectInit ⟨#[0xb1]⟩ 1 none ∈ zws := ⟨zws_in (i := 153) (by decide +kernel) (by decide +kernel), zws_in (i := 154) (by decide +kernel) (by decide +kernel)⟩
set_option maxRecDepth 20000 in
theorem zmaxK : Cond.static Lib.Math.max.name ∈ zws ∧ Cond.initialized "java/lang/Math" ∈ zws ∧ Cond.code Lib.Math.max.name Lib.Math.max.code 2 (some .int) ∈ zws := ⟨zws_in (i := 1058) (by decide +kernel) (by decide +kernel), zws_in (i := 135) (by decide +kernel) (by decide +kernel), zws_in (i := 1059) (by decide +kernel) (by decide +kernel)⟩
set_option maxRecDepth 20000 in
theorem zminK : Cond.static Lib.Math.min.name ∈ zws ∧ Cond.initialized "java/lang/Math" ∈ zws ∧ Cond.code Lib.Math.min.name Lib.Math.min.code 2 (some .int) ∈ zws := ⟨zws_in (i := 640) (by decide +kernel) (by decide +kernel), zws_in (i := 135) (by decide +kernel) (by decide +kernel), zws_in (i := 641) (by decide +kernel) (by decide +kernel)⟩
set_option maxRecDepth 20000 in
theorem zabsK : Cond.static Lib.Math.abs.name ∈ zws ∧ Cond.initialized "java/lang/Math" ∈ zws ∧ Cond.code Lib.Math.abs.name Lib.Math.abs.code 1 (some .int) ∈ zws := ⟨zws_in (i := 1174) (by decide +kernel) (by decide +kernel), zws_in (i := 135) (by decide +kernel) (by decide +kernel), zws_in (i := 1175) (by decide +kernel) (by decide +kernel)⟩
set_option maxRecDepth 20000 in
theorem zcpyK : Cond.native arraycopyName ∈ zws ∧ Cond.static arraycopyName ∈ zws ∧ Cond.initialized "java/lang/System" ∈ zws := ⟨zws_in (i := 1255) (by decide +kernel) (by decide +kernel), zws_in (i := 1254) (by decide +kernel) (by decide +kernel), zws_in (i := 142) (by decide +kernel) (by decide +kernel)⟩
