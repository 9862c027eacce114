/-! what the kernel decides of the tables -/
def zpc (p : Nat) : Option Cond := match p / 1000 with
  | 0 => (k2_sels lw_privs)[p % 1000]?
  | 1 => tables_1_1[p % 1000]?
  | 2 => tables_1_2[p % 1000]?
  | 3 => tables_1_3[p % 1000]?
  | 4 => tables_1_4[p % 1000]?
  | 5 => tables_1_5[p % 1000]?
  | 6 => tables_1_6[p % 1000]?
  | 7 => tables_1_7[p % 1000]?
  | _ => tables_1_8[p % 1000]?
theorem zpc_in {p : Nat} {w : Cond} (h : zpc p = some w) : w ∈ lw_tbl := by
  unfold zpc at h
  unfold lw_tbl tables_1
  split at h
  · exact List.mem_append_left _ (List.mem_of_getElem? h)
  · exact List.mem_append_right _ (List.mem_append_left _ (List.mem_of_getElem? h))
  · exact List.mem_append_right _ (List.mem_append_right _ (List.mem_append_left _ (List.mem_of_getElem? h)))
  · exact List.mem_append_right _ (List.mem_append_right _ (List.mem_append_right _ (List.mem_append_left _ (List.mem_of_getElem? h))))
  · exact List.mem_append_right _ (List.mem_append_right _ (List.mem_append_right _ (List.mem_append_right _ (List.mem_append_left _ (List.mem_of_getElem? h)))))
  · exact List.mem_append_right _ (List.mem_append_right _ (List.mem_append_right _ (List.mem_append_right _ (List.mem_append_right _ (List.mem_append_left _ (List.mem_of_getElem? h))))))
  · exact List.mem_append_right _ (List.mem_append_right _ (List.mem_append_right _ (List.mem_append_right _ (List.mem_append_right _ (List.mem_append_right _ (List.mem_append_left _ (List.mem_of_getElem? h)))))))
  · exact List.mem_append_right _ (List.mem_append_right _ (List.mem_append_right _ (List.mem_append_right _ (List.mem_append_right _ (List.mem_append_right _ (List.mem_append_right _ (List.mem_append_left _ (List.mem_of_getElem? h))))))))
  · exact List.mem_append_right _ (List.mem_append_right _ (List.mem_append_right _ (List.mem_append_right _ (List.mem_append_right _ (List.mem_append_right _ (List.mem_append_right _ (List.mem_append_right _ (List.mem_of_getElem? h))))))))
theorem zws_in {i : Nat} {w : Cond} (h1 : zpc i = some w) (h2 : goodWord w = true) : w ∈ zws := List.mem_filter.mpr ⟨zpc_in h1, h2⟩
theorem zws_of {ws : List Cond} (ps : List Nat) (h1 : ps.map (fun i => zpc i) = ws.map some) (h2 : ws.all goodWord = true) : ∀ w ∈ ws, w ∈ zws := by
  intro w hw
  have h3 : some w ∈ ps.map (fun i => zpc i) := by rw [h1]; exact List.mem_map.mpr ⟨w, hw, rfl⟩
  obtain ⟨i, -, hi⟩ := List.mem_map.mp h3
  exact zws_in hi (List.all_eq_true.mp h2 w hw)
theorem zws_good : ∀ w ∈ zws, (w.onTables && w.keeps) = true ∨ ∃ ty, w = .arrayClass ty := fun w hw => good_of_word (List.mem_filter.mp hw).2
theorem zws_tbl : ∀ w ∈ zws, w ∈ lw_tbl := fun w hw => (List.mem_filter.mp hw).1
theorem zlook_mem {α : Type} {l : List (Nat × α)} {i : Nat} {v : α} (h : zlook l i = some v) : (i, v) ∈ l := by
  induction l with
  | nil => cases h
  | cons q t ih =>
    unfold zlook at h
    split at h
    · next e => cases h; subst e; exact List.mem_cons_self
    · exact List.mem_cons_of_mem _ (ih h)
set_option maxRecDepth 20000 in
theorem zcw0 : ∀ w ∈ u_ws RX0 TX0 4, w ∈ zws := zws_of [1123, 1125, 1127, 1129] (by decide +kernel) (by decide +kernel)
set_option maxRecDepth 20000 in
theorem zcw1 : ∀ w ∈ u_ws RX1 TX1 5, w ∈ zws := zws_of [2193, 2195, 2197, 2199, 2201] (by decide +kernel) (by decide +kernel)
set_option maxRecDepth 20000 in
theorem zcw2 : ∀ w ∈ u_ws RX2 TX2 7, w ∈ zws := zws_of [2082, 2084, 2086, 2088, 2090, 2092, 2094] (by decide +kernel) (by decide +kernel)
set_option maxRecDepth 20000 in
theorem zcw3 : ∀ w ∈ u_ws RX3 TX3 4, w ∈ zws := zws_of [2169, 2171, 2173, 2175] (by decide +kernel) (by decide +kernel)
set_option maxRecDepth 20000 in
theorem zcw4 : ∀ w ∈ u_ws RX4 TX4 15, w ∈ zws := zws_of [1218, 1220, 1222, 1224, 1226, 1228, 1230, 1232, 1234, 1236, 1238, 2000, 2002, 2004, 2006] (by decide +kernel) (by decide +kernel)
set_option maxRecDepth 20000 in
theorem zcw5 : ∀ w ∈ u_ws RX5 TX5 13, w ∈ zws := zws_of [2030, 2032, 2034, 2036, 2038, 2040, 2042, 2044, 2046, 2048, 2050, 2052, 2054] (by decide +kernel) (by decide +kernel)
set_option maxRecDepth 20000 in
theorem zcw6 : ∀ w ∈ u_ws RX6 TX6 7, w ∈ zws := zws_of [2142, 2144, 2146, 2148, 2150, 2152, 2154] (by decide +kernel) (by decide +kernel)
set_option maxRecDepth 20000 in
theorem zcw7 : ∀ w ∈ u_ws RX7 TX7 6, w ∈ zws := zws_of [2114, 2116, 2118, 2120, 2122, 2124] (by decide +kernel) (by decide +kernel)
set_option maxRecDepth 20000 in
theorem zcw8 : ∀ w ∈ u_ws RX8 TX8 3, w ∈ zws := zws_of [1144, 1146, 1148] (by decide +kernel) (by decide +kernel)
set_option maxRecDepth 20000 in
theorem zcw9 : ∀ w ∈ u_ws RX9 TX9 4, w ∈ zws := zws_of [1068, 1070, 1072, 1074] (by decide +kernel) (by decide +kernel)
set_option maxRecDepth 20000 in
theorem zcw10 : ∀ w ∈ u_ws RX10 TX10 4, w ∈ zws := zws_of [1096, 1098, 1100, 1102] (by decide +kernel) (by decide +kernel)
set_option maxRecDepth 20000 in
theorem zcw11 : ∀ w ∈ u_ws RX11 TX11 16, w ∈ zws := zws_of [2221, 2223, 2225, 2227, 2229, 2231, 2233, 2235, 2237, 2239, 3001, 3003, 3005, 3007, 3009, 3011] (by decide +kernel) (by decide +kernel)
set_option maxRecDepth 20000 in
theorem zcw12 : ∀ w ∈ u_ws RX12 TX12 39, w ∈ zws := zws_of [6095, 6097, 6099, 6101, 6103, 6105, 6107, 6109, 6111, 6113, 6115, 6117, 6119, 6121, 6123, 6125, 6127, 6129, 6131, 6133, 6135, 6137, 6139, 6141, 6143, 6145, 6147, 6149, 6151, 6153, 6155, 6157, 6159, 6161, 6163, 6165, 6167, 6169, 6171] (by decide +kernel) (by decide +kernel)
theorem zcl_cl {ci : Nat} (h : ci < 13) : vwCl[ci]? = some (zRn ci, zTT ci, (zft ci).length) := by
  match ci, h with
  | 0, _ => exact rfl
  | 1, _ => exact rfl
  | 2, _ => exact rfl
  | 3, _ => exact rfl
  | 4, _ => exact rfl
  | 5, _ => exact rfl
  | 6, _ => exact rfl
  | 7, _ => exact rfl
  | 8, _ => exact rfl
  | 9, _ => exact rfl
  | 10, _ => exact rfl
  | 11, _ => exact rfl
  | 12, _ => exact rfl
theorem zcl_ws {ci : Nat} (h : ci < 13) : ∀ w ∈ u_ws (zRn ci) (zTT ci) (zft ci).length, w ∈ zws := by
  match ci, h with
  | 0, _ => exact zcw0
  | 1, _ => exact zcw1
  | 2, _ => exact zcw2
  | 3, _ => exact zcw3
  | 4, _ => exact zcw4
  | 5, _ => exact zcw5
  | 6, _ => exact zcw6
  | 7, _ => exact zcw7
  | 8, _ => exact zcw8
  | 9, _ => exact zcw9
  | 10, _ => exact zcw10
  | 11, _ => exact zcw11
  | 12, _ => exact zcw12
theorem zcl_ty {ci : Nat} (h : ci < 13) : ∀ k, k < (zft ci).length → parseFieldDescriptor (zTT ci k).2.2.1 = some (zty ci k) := by
  match ci, h with
  | 0, _ => exact tyX0_ok
  | 1, _ => exact tyX1_ok
  | 2, _ => exact tyX2_ok
  | 3, _ => exact tyX3_ok
  | 4, _ => exact tyX4_ok
  | 5, _ => exact tyX5_ok
  | 6, _ => exact tyX6_ok
  | 7, _ => exact tyX7_ok
  | 8, _ => exact tyX8_ok
  | 9, _ => exact tyX9_ok
  | 10, _ => exact tyX10_ok
  | 11, _ => exact tyX11_ok
  | 12, _ => exact tyX12_ok
theorem zcl_nm {ci : Nat} (h : ci < 13) : ∀ a, a < (zft ci).length → ∀ b, b < (zft ci).length → a ≠ b → (zTT ci a).2.1 ≠ (zTT ci b).2.1 := by
  match ci, h with
  | 0, _ => exact nmX0
  | 1, _ => exact nmX1
  | 2, _ => exact nmX2
  | 3, _ => exact nmX3
  | 4, _ => exact nmX4
  | 5, _ => exact nmX5
  | 6, _ => exact nmX6
  | 7, _ => exact nmX7
  | 8, _ => exact nmX8
  | 9, _ => exact nmX9
  | 10, _ => exact nmX10
  | 11, _ => exact nmX11
  | 12, _ => exact nmX12
def zrefT (t : FieldType) : Bool := match t with
  | .object _ => true
  | .array _ => true
  | _ => false
def zftok (ci f : Nat) : Bool := match (zft ci).getD f 9 with
  | 0 => decide (zty ci f = .int)
  | 1 => decide (zty ci f = .boolean)
  | 3 => zrefT (zty ci f)
  | _ => false
theorem zft_ok : (List.range 13).all (fun ci => (List.range (zft ci).length).all (fun f => zftok ci f && decide ((zTT ci f).1 = zRn ci))) = true := by decide +kernel
def zfldC (o : Nat) (q : Nat × Nat × Nat × Nat) : Bool := decide (q.2.1 < 13) && decide (q.2.2.1 < (zft q.2.1).length) && decide (zpc q.2.2.2 = some (Cond.fieldLink (zRn o) q.1 (zRn q.2.1) (zTT q.2.1 q.2.2.1).2.1 (zTT q.2.1 q.2.2.1).2.2.1)) && goodWord (Cond.fieldLink (zRn o) q.1 (zRn q.2.1) (zTT q.2.1 q.2.2.1).2.1 (zTT q.2.1 q.2.2.1).2.2.1)
set_option maxRecDepth 20000 in
theorem zfldK0 : (zfldTT.getD 0 []).all (zfldC 0) = true := by decide +kernel
set_option maxRecDepth 20000 in
theorem zfldK1 : (zfldTT.getD 1 []).all (zfldC 1) = true := by decide +kernel
set_option maxRecDepth 20000 in
theorem zfldK2 : (zfldTT.getD 2 []).all (zfldC 2) = true := by decide +kernel
set_option maxRecDepth 20000 in
theorem zfldK3 : (zfldTT.getD 3 []).all (zfldC 3) = true := by decide +kernel
set_option maxRecDepth 20000 in
theorem zfldK4 : (zfldTT.getD 4 []).all (zfldC 4) = true := by decide +kernel
set_option maxRecDepth 20000 in
theorem zfldK5 : (zfldTT.getD 5 []).all (zfldC 5) = true := by decide +kernel
set_option maxRecDepth 20000 in
theorem zfldK6 : (zfldTT.getD 6 []).all (zfldC 6) = true := by decide +kernel
set_option maxRecDepth 20000 in
theorem zfldK7 : (zfldTT.getD 7 []).all (zfldC 7) = true := by decide +kernel
set_option maxRecDepth 20000 in
theorem zfldK8 : (zfldTT.getD 8 []).all (zfldC 8) = true := by decide +kernel
set_option maxRecDepth 20000 in
theorem zfldK9 : (zfldTT.getD 9 []).all (zfldC 9) = true := by decide +kernel
set_option maxRecDepth 20000 in
theorem zfldK10 : (zfldTT.getD 10 []).all (zfldC 10) = true := by decide +kernel
set_option maxRecDepth 20000 in
theorem zfldK11 : (zfldTT.getD 11 []).all (zfldC 11) = true := by decide +kernel
set_option maxRecDepth 20000 in
theorem zfldK12 : (zfldTT.getD 12 []).all (zfldC 12) = true := by decide +kernel
set_option maxRecDepth 20000 in
theorem zfldK13 : (zfldTT.getD 13 []).all (zfldC 13) = true := by decide +kernel
set_option maxRecDepth 20000 in
theorem zfldK14 : (zfldTT.getD 14 []).all (zfldC 14) = true := by decide +kernel
set_option maxRecDepth 20000 in
theorem zfldK15 : (zfldTT.getD 15 []).all (zfldC 15) = true := by decide +kernel
set_option maxRecDepth 20000 in
theorem zfldK16 : (zfldTT.getD 16 []).all (zfldC 16) = true := by decide +kernel
set_option maxRecDepth 20000 in
theorem zfldK17 : (zfldTT.getD 17 []).all (zfldC 17) = true := by decide +kernel
set_option maxRecDepth 20000 in
theorem zfldK18 : (zfldTT.getD 18 []).all (zfldC 18) = true := by decide +kernel
theorem zfldK : ∀ o, o < 19 → (zfldTT.getD o []).all (zfldC o) = true
  | 0, _ => zfldK0
  | 1, _ => zfldK1
  | 2, _ => zfldK2
  | 3, _ => zfldK3
  | 4, _ => zfldK4
  | 5, _ => zfldK5
  | 6, _ => zfldK6
  | 7, _ => zfldK7
  | 8, _ => zfldK8
  | 9, _ => zfldK9
  | 10, _ => zfldK10
  | 11, _ => zfldK11
  | 12, _ => zfldK12
  | 13, _ => zfldK13
  | 14, _ => zfldK14
  | 15, _ => zfldK15
  | 16, _ => zfldK16
  | 17, _ => zfldK17
  | 18, _ => zfldK18
  | _ + 19, h => absurd h (by omega)
def zcstC (o : Nat) (q : Nat × zV × Nat) : Bool := match q.2.1 with
  | .inl x => decide (zpc q.2.2 = some (Cond.constant (zRn o) q.1 x)) && goodWord (Cond.constant (zRn o) q.1 x)
  | .inr (.inl x) => decide (zpc q.2.2 = some (Cond.constantLong (zRn o) q.1 x)) && goodWord (Cond.constantLong (zRn o) q.1 x)
  | .inr (.inr (some a)) => zsr.any (fun r => decide (r.1 = o) && decide (r.2.1 = q.1) && decide (r.2.2.2.1 = a)) && decide (1000000 ≤ a)
  | _ => false
set_option maxRecDepth 20000 in
theorem zcstK : (List.range 19).all (fun o => (zcstTT.getD o []).all (zcstC o)) = true := by decide +kernel
def zclsC (o : Nat) (q : Nat × Nat × Nat) : Bool := if q.2.1 < 13 then decide (zpc q.2.2 = some (Cond.classLink (zRn o) q.1 (zRn q.2.1))) && goodWord (Cond.classLink (zRn o) q.1 (zRn q.2.1)) else decide (q.2.1 = 99)
set_option maxRecDepth 20000 in
theorem zclsK : (List.range 19).all (fun o => (zclsTT.getD o []).all (zclsC o)) = true := by decide +kernel
def zinsP : List (Nat × Nat) := [(1105, 1005), (2179, 1012), (2059, 1008), (2158, 1011), (1035, 1002), (2010, 1007), (2128, 1010), (2098, 1009), (1132, 1006), (1048, 1003), (1079, 1004), (1027, 1001), (6051, 1013)]
set_option maxRecDepth 20000 in
theorem zinsK : (List.range 13).all (fun ci => decide (zpc (zinsP.getD ci (0, 0)).1 = some (Cond.instantiable (zRn ci) (zft ci).length)) && goodWord (Cond.instantiable (zRn ci) (zft ci).length) && decide (zpc (zinsP.getD ci (0, 0)).2 = some (Cond.initialized (zRn ci))) && goodWord (Cond.initialized (zRn ci))) = true := by decide +kernel
set_option maxRecDepth 20000 in
theorem zarrK : Cond.arrayClass .byte ∈ zws ∧ Cond.arrayClass .int ∈ zws ∧ Cond.arrayClass .long ∈ zws := ⟨zws_in (i := 1077) (by decide +kernel) rfl, zws_in (i := 1078) (by decide +kernel) rfl, zws_in (i := 2057) (by decide +kernel) rfl⟩
def zMok (q : zM) : Prop := Cond.code q.2.2.2.2.1 q.1 q.2.2.1 q.2.2.2.1 ∈ zws ∧ zRn q.2.1 = q.2.2.2.2.1.cls ∧ plainName q.2.2.2.2.1.cls = true ∧ (q.2.2.2.2.1.cls ≠ "java/lang/invoke/MethodHandle" ∧ q.2.2.2.2.1.cls ≠ "java/lang/invoke/VarHandle") ∧ q.2.2.1 ≤ 30 ∧ (q.2.2.2.2.2 = true → q.2.2.2.2.1.name = "<init>") ∧ q.2.2.2.2.1 ≠ yX11_led
def zMb (q : zM) : Bool := decide (zRn q.2.1 = q.2.2.2.2.1.cls) && (plainName q.2.2.2.2.1.cls && (decide (q.2.2.2.2.1.cls ≠ "java/lang/invoke/MethodHandle" ∧ q.2.2.2.2.1.cls ≠ "java/lang/invoke/VarHandle") && (decide (q.2.2.1 ≤ 30) && (decide (q.2.2.2.2.2 = true → q.2.2.2.2.1.name = "<init>") && decide (q.2.2.2.2.1 ≠ yX11_led)))))
theorem zMo {q : zM} (h1 : Cond.code q.2.2.2.2.1 q.1 q.2.2.1 q.2.2.2.1 ∈ zws) (h2 : zMb q = true) : zMok q := by
  unfold zMb at h2
  rw [Bool.and_eq_true, Bool.and_eq_true, Bool.and_eq_true, Bool.and_eq_true, Bool.and_eq_true] at h2
  exact ⟨h1, of_decide_eq_true h2.1, h2.2.1, of_decide_eq_true h2.2.2.1, of_decide_eq_true h2.2.2.2.1, of_decide_eq_true h2.2.2.2.2.1, of_decide_eq_true h2.2.2.2.2.2⟩
theorem zoX0_init : zMok mX0_init := zMo (zws_in (i := 1108) rfl rfl) (by decide +kernel)
theorem zoX1_init : zMok mX1_init := zMo (zws_in (i := 2182) rfl rfl) (by decide +kernel)
theorem zoX1_solve : zMok mX1_solve := zMo (zws_in (i := 5023) rfl rfl) (by decide +kernel)
theorem zoX1_worth : zMok mX1_worth := zMo (zws_in (i := 5028) rfl rfl) (by decide +kernel)
theorem zoX1_choose : zMok mX1_choose := zMo (zws_in (i := 5034) rfl rfl) (by decide +kernel)
theorem zoX1_firstBest : zMok mX1_firstBest := zMo (zws_in (i := 5038) rfl rfl) (by decide +kernel)
theorem zoX2_init : zMok mX2_init := zMo (zws_in (i := 2062) rfl rfl) (by decide +kernel)
theorem zoX2_begin : zMok mX2_begin := zMo (zws_in (i := 3211) rfl rfl) (by decide +kernel)
theorem zoX2_copyFrom : zMok mX2_copyFrom := zMo (zws_in (i := 5171) rfl rfl) (by decide +kernel)
theorem zoX2_isClosed : zMok mX2_isClosed := zMo (zws_in (i := 4073) rfl rfl) (by decide +kernel)
theorem zoX2_isSent : zMok mX2_isSent := zMo (zws_in (i := 4105) rfl rfl) (by decide +kernel)
theorem zoX3_init : zMok mX3_init := zMo (zws_in (i := 2161) rfl rfl) (by decide +kernel)
theorem zoX3_fewestToWatch : zMok mX3_fewestToWatch := zMo (zws_in (i := 5102) rfl rfl) (by decide +kernel)
theorem zoX3_waysOutOf : zMok mX3_waysOutOf := zMo (zws_in (i := 5106) rfl rfl) (by decide +kernel)
theorem zoX3_findRound : zMok mX3_findRound := zMo (zws_in (i := 5115) rfl rfl) (by decide +kernel)
theorem zoX3_findShortest : zMok mX3_findShortest := zMo (zws_in (i := 5119) rfl rfl) (by decide +kernel)
theorem zoX3_findRests : zMok mX3_findRests := zMo (zws_in (i := 5126) rfl rfl) (by decide +kernel)
theorem zoX3_daysOver : zMok mX3_daysOver := zMo (zws_in (i := 5130) rfl rfl) (by decide +kernel)
theorem zoX3_nextOf : zMok mX3_nextOf := zMo (zws_in (i := 5134) rfl rfl) (by decide +kernel)
theorem zoX4_init : zMok mX4_init := zMo (zws_in (i := 1038) rfl rfl) (by decide +kernel)
theorem zoX4_clear : zMok mX4_clear := zMo (zws_in (i := 3037) rfl rfl) (by decide +kernel)
theorem zoX4_boxLength : zMok mX4_boxLength := zMo (zws_in (i := 4039) rfl rfl) (by decide +kernel)
theorem zoX4_wayBetween : zMok mX4_wayBetween := zMo (zws_in (i := 3170) rfl rfl) (by decide +kernel)
theorem zoX4_hasSong : zMok mX4_hasSong := zMo (zws_in (i := 3158) rfl rfl) (by decide +kernel)
theorem zoX4_lastSpoutOf : zMok mX4_lastSpoutOf := zMo (zws_in (i := 3203) rfl rfl) (by decide +kernel)
theorem zoX5_init : zMok mX5_init := zMo (zws_in (i := 2013) rfl rfl) (by decide +kernel)
theorem zoX5_readPost : zMok mX5_readPost := zMo (zws_in (i := 3033) rfl rfl) (by decide +kernel)
theorem zoX5_faulty : zMok mX5_faulty := zMo (zws_in (i := 3118) rfl rfl) (by decide +kernel)
theorem zoX5_readLine : zMok mX5_readLine := zMo (zws_in (i := 3044) rfl rfl) (by decide +kernel)
theorem zoX5_readHead : zMok mX5_readHead := zMo (zws_in (i := 3122) rfl rfl) (by decide +kernel)
theorem zoX5_readIsland : zMok mX5_readIsland := zMo (zws_in (i := 3138) rfl rfl) (by decide +kernel)
theorem zoX5_readWay : zMok mX5_readWay := zMo (zws_in (i := 3162) rfl rfl) (by decide +kernel)
theorem zoX5_readWhale : zMok mX5_readWhale := zMo (zws_in (i := 3176) rfl rfl) (by decide +kernel)
theorem zoX5_readBox : zMok mX5_readBox := zMo (zws_in (i := 3191) rfl rfl) (by decide +kernel)
theorem zoX5_readSpout : zMok mX5_readSpout := zMo (zws_in (i := 3199) rfl rfl) (by decide +kernel)
theorem zoX5_word : zMok mX5_word := zMo (zws_in (i := 3127) rfl rfl) (by decide +kernel)
theorem zoX5_whole : zMok mX5_whole := zMo (zws_in (i := 3131) rfl rfl) (by decide +kernel)
theorem zoX5_newName : zMok mX5_newName := zMo (zws_in (i := 3142) rfl rfl) (by decide +kernel)
theorem zoX5_toldName : zMok mX5_toldName := zMo (zws_in (i := 3166) rfl rfl) (by decide +kernel)
theorem zoX5_nameOfToken : zMok mX5_nameOfToken := zMo (zws_in (i := 3146) rfl rfl) (by decide +kernel)
theorem zoX5_letters : zMok mX5_letters := zMo (zws_in (i := 3150) rfl rfl) (by decide +kernel)
theorem zoX5_songOfToken : zMok mX5_songOfToken := zMo (zws_in (i := 3154) rfl rfl) (by decide +kernel)
theorem zoX5_kindOfToken : zMok mX5_kindOfToken := zMo (zws_in (i := 3180) rfl rfl) (by decide +kernel)
theorem zoX5_sortOfLine : zMok mX5_sortOfLine := zMo (zws_in (i := 3056) rfl rfl) (by decide +kernel)
theorem zoX5_isToken : zMok mX5_isToken := zMo (zws_in (i := 3061) rfl rfl) (by decide +kernel)
theorem zoX5_nextToken : zMok mX5_nextToken := zMo (zws_in (i := 3048) rfl rfl) (by decide +kernel)
theorem zoX5_passAll : zMok mX5_passAll := zMo (zws_in (i := 3052) rfl rfl) (by decide +kernel)
theorem zoX6_init : zMok mX6_init := zMo (zws_in (i := 2131) rfl rfl) (by decide +kernel)
theorem zoX6_dayOfLeaving : zMok mX6_dayOfLeaving := zMo (zws_in (i := 4097) rfl rfl) (by decide +kernel)
theorem zoX6_findFirstDays : zMok mX6_findFirstDays := zMo (zws_in (i := 4191) rfl rfl) (by decide +kernel)
theorem zoX6_goes : zMok mX6_goes := zMo (zws_in (i := 4200) rfl rfl) (by decide +kernel)
theorem zoX6_firstDayAt : zMok mX6_firstDayAt := zMo (zws_in (i := 4187) rfl rfl) (by decide +kernel)
theorem zoX6_dayOfBringing : zMok mX6_dayOfBringing := zMo (zws_in (i := 4209) rfl rfl) (by decide +kernel)
theorem zoX6_soonestBringer : zMok mX6_soonestBringer := zMo (zws_in (i := 4226) rfl rfl) (by decide +kernel)
theorem zoX6_surestBringer : zMok mX6_surestBringer := zMo (zws_in (i := 4235) rfl rfl) (by decide +kernel)
theorem zoX6_bringersBy : zMok mX6_bringersBy := zMo (zws_in (i := 5003) rfl rfl) (by decide +kernel)
theorem zoX6_dayOfMeeting : zMok mX6_dayOfMeeting := zMo (zws_in (i := 5054) rfl rfl) (by decide +kernel)
theorem zoX6_fittingWhales : zMok mX6_fittingWhales := zMo (zws_in (i := 5063) rfl rfl) (by decide +kernel)
theorem zoX6_isFitting : zMok mX6_isFitting := zMo (zws_in (i := 5067) rfl rfl) (by decide +kernel)
theorem zoX6_islandsReached : zMok mX6_islandsReached := zMo (zws_in (i := 5075) rfl rfl) (by decide +kernel)
theorem zoX6_bestPier : zMok mX6_bestPier := zMo (zws_in (i := 5084) rfl rfl) (by decide +kernel)
theorem zoX6_whalesReaching : zMok mX6_whalesReaching := zMo (zws_in (i := 5090) rfl rfl) (by decide +kernel)
theorem zoX7_init : zMok mX7_init := zMo (zws_in (i := 2101) rfl rfl) (by decide +kernel)
theorem zoX7_fallIn : zMok mX7_fallIn := zMo (zws_in (i := 4019) rfl rfl) (by decide +kernel)
theorem zoX7_raised : zMok mX7_raised := zMo (zws_in (i := 4023) rfl rfl) (by decide +kernel)
theorem zoX7_songIn : zMok mX7_songIn := zMo (zws_in (i := 4015) rfl rfl) (by decide +kernel)
theorem zoX7_hearerOf : zMok mX7_hearerOf := zMo (zws_in (i := 4051) rfl rfl) (by decide +kernel)
theorem zoX7_apartness : zMok mX7_apartness := zMo (zws_in (i := 4117) rfl rfl) (by decide +kernel)
theorem zoX7_bearable : zMok mX7_bearable := zMo (zws_in (i := 4125) rfl rfl) (by decide +kernel)
theorem zoX7_mixedPairs : zMok mX7_mixedPairs := zMo (zws_in (i := 4134) rfl rfl) (by decide +kernel)
theorem zoX7_findNew : zMok mX7_findNew := zMo (zws_in (i := 4146) rfl rfl) (by decide +kernel)
theorem zoX7_keepSongsOf : zMok mX7_keepSongsOf := zMo (zws_in (i := 4150) rfl rfl) (by decide +kernel)
theorem zoX7_isOfNotes : zMok mX7_isOfNotes := zMo (zws_in (i := 4155) rfl rfl) (by decide +kernel)
theorem zoX7_isFarFromKept : zMok mX7_isFarFromKept := zMo (zws_in (i := 4159) rfl rfl) (by decide +kernel)
theorem zoX7_draw : zMok mX7_draw := zMo (zws_in (i := 5155) rfl rfl) (by decide +kernel)
theorem zoX7_slipped : zMok mX7_slipped := zMo (zws_in (i := 5151) rfl rfl) (by decide +kernel)
theorem zoX8_init : zMok mX8_init := zMo (zws_in (i := 1135) rfl rfl) (by decide +kernel)
theorem zoX9_init : zMok mX9_init := zMo (zws_in (i := 1051) rfl rfl) (by decide +kernel)
theorem zoX10_init : zMok mX10_init := zMo (zws_in (i := 1082) rfl rfl) (by decide +kernel)
theorem zoX11_init : zMok mX11_init := zMo (zws_in (i := 1030) rfl rfl) (by decide +kernel)
theorem zoX11_feed : zMok mX11_feed := zMo (zws_in (i := 3017) rfl rfl) (by decide +kernel)
theorem zoX11_post : zMok mX11_post := zMo (zws_in (i := 3025) rfl rfl) (by decide +kernel)
theorem zoX11_fault : zMok mX11_fault := zMo (zws_in (i := 3219) rfl rfl) (by decide +kernel)
theorem zoX11_where : zMok mX11_where := zMo (zws_in (i := 3223) rfl rfl) (by decide +kernel)
theorem zoX11_whale : zMok mX11_whale := zMo (zws_in (i := 3227) rfl rfl) (by decide +kernel)
theorem zoX11_box : zMok mX11_box := zMo (zws_in (i := 3235) rfl rfl) (by decide +kernel)
theorem zoX11_length : zMok mX11_length := zMo (zws_in (i := 4003) rfl rfl) (by decide +kernel)
theorem zoX11_note : zMok mX11_note := zMo (zws_in (i := 4011) rfl rfl) (by decide +kernel)
theorem zoX11_sung : zMok mX11_sung := zMo (zws_in (i := 4031) rfl rfl) (by decide +kernel)
theorem zoX11_heard : zMok mX11_heard := zMo (zws_in (i := 4043) rfl rfl) (by decide +kernel)
theorem zoX11_way : zMok mX11_way := zMo (zws_in (i := 4064) rfl rfl) (by decide +kernel)
theorem zoX11_season : zMok mX11_season := zMo (zws_in (i := 4077) rfl rfl) (by decide +kernel)
theorem zoX11_sets : zMok mX11_sets := zMo (zws_in (i := 4089) rfl rfl) (by decide +kernel)
theorem zoX11_sent : zMok mX11_sent := zMo (zws_in (i := 4101) rfl rfl) (by decide +kernel)
theorem zoX11_apart : zMok mX11_apart := zMo (zws_in (i := 4113) rfl rfl) (by decide +kernel)
theorem zoX11_bear : zMok mX11_bear := zMo (zws_in (i := 4121) rfl rfl) (by decide +kernel)
theorem zoX11_mixed : zMok mX11_mixed := zMo (zws_in (i := 4130) rfl rfl) (by decide +kernel)
theorem zoX11_fresh : zMok mX11_fresh := zMo (zws_in (i := 4138) rfl rfl) (by decide +kernel)
theorem zoX11_byTurns : zMok mX11_byTurns := zMo (zws_in (i := 4163) rfl rfl) (by decide +kernel)
theorem zoX11_near : zMok mX11_near := zMo (zws_in (i := 4167) rfl rfl) (by decide +kernel)
theorem zoX11_asNear : zMok mX11_asNear := zMo (zws_in (i := 4171) rfl rfl) (by decide +kernel)
theorem zoX11_heardIn : zMok mX11_heardIn := zMo (zws_in (i := 4175) rfl rfl) (by decide +kernel)
theorem zoX11_strange : zMok mX11_strange := zMo (zws_in (i := 4179) rfl rfl) (by decide +kernel)
theorem zoX11_arrival : zMok mX11_arrival := zMo (zws_in (i := 4183) rfl rfl) (by decide +kernel)
theorem zoX11_brings : zMok mX11_brings := zMo (zws_in (i := 4205) rfl rfl) (by decide +kernel)
theorem zoX11_soonest : zMok mX11_soonest := zMo (zws_in (i := 4222) rfl rfl) (by decide +kernel)
theorem zoX11_surest : zMok mX11_surest := zMo (zws_in (i := 4231) rfl rfl) (by decide +kernel)
theorem zoX11_by : zMok mX11_by := zMo (zws_in (i := 4239) rfl rfl) (by decide +kernel)
theorem zoX11_registered : zMok mX11_registered := zMo (zws_in (i := 5007) rfl rfl) (by decide +kernel)
theorem zoX11_match : zMok mX11_match := zMo (zws_in (i := 5015) rfl rfl) (by decide +kernel)
theorem zoX11_matchDays : zMok mX11_matchDays := zMo (zws_in (i := 5042) rfl rfl) (by decide +kernel)
theorem zoX11_matchOf : zMok mX11_matchOf := zMo (zws_in (i := 5046) rfl rfl) (by decide +kernel)
theorem zoX11_meet : zMok mX11_meet := zMo (zws_in (i := 5050) rfl rfl) (by decide +kernel)
theorem zoX11_fits : zMok mX11_fits := zMo (zws_in (i := 5059) rfl rfl) (by decide +kernel)
theorem zoX11_reach : zMok mX11_reach := zMo (zws_in (i := 5071) rfl rfl) (by decide +kernel)
theorem zoX11_pier : zMok mX11_pier := zMo (zws_in (i := 5080) rfl rfl) (by decide +kernel)
theorem zoX11_watch : zMok mX11_watch := zMo (zws_in (i := 5098) rfl rfl) (by decide +kernel)
theorem zoX11_round : zMok mX11_round := zMo (zws_in (i := 5111) rfl rfl) (by decide +kernel)
theorem zoX11_roundAt : zMok mX11_roundAt := zMo (zws_in (i := 5138) rfl rfl) (by decide +kernel)
theorem zoX11_decade : zMok mX11_decade := zMo (zws_in (i := 5142) rfl rfl) (by decide +kernel)
theorem zoX11_send : zMok mX11_send := zMo (zws_in (i := 5163) rfl rfl) (by decide +kernel)
theorem zoX11_tune : zMok mX11_tune := zMo (zws_in (i := 5179) rfl rfl) (by decide +kernel)
theorem zoX11_years : zMok mX11_years := zMo (zws_in (i := 5192) rfl rfl) (by decide +kernel)
theorem zoX11_close : zMok mX11_close := zMo (zws_in (i := 5196) rfl rfl) (by decide +kernel)
theorem zoX11_undo : zMok mX11_undo := zMo (zws_in (i := 5200) rfl rfl) (by decide +kernel)
theorem zoX11_image : zMok mX11_image := zMo (zws_in (i := 5204) rfl rfl) (by decide +kernel)
theorem zoX11_back : zMok mX11_back := zMo (zws_in (i := 5208) rfl rfl) (by decide +kernel)
theorem zoX11_size : zMok mX11_size := zMo (zws_in (i := 5212) rfl rfl) (by decide +kernel)
theorem zoX11_trouble : zMok mX11_trouble := zMo (zws_in (i := 5216) rfl rfl) (by decide +kernel)
theorem zoX11_granted : zMok mX11_granted := zMo (zws_in (i := 3215) rfl rfl) (by decide +kernel)
theorem zoX11_refused : zMok mX11_refused := zMo (zws_in (i := 3029) rfl rfl) (by decide +kernel)
theorem zoX11_hasGranted : zMok mX11_hasGranted := zMo (zws_in (i := 5188) rfl rfl) (by decide +kernel)
theorem zoX11_hasRefused : zMok mX11_hasRefused := zMo (zws_in (i := 5183) rfl rfl) (by decide +kernel)
theorem zoX11_hasPost : zMok mX11_hasPost := zMo (zws_in (i := 4081) rfl rfl) (by decide +kernel)
theorem zoX11_isIsland : zMok mX11_isIsland := zMo (zws_in (i := 4007) rfl rfl) (by decide +kernel)
theorem zoX11_areTwoIslands : zMok mX11_areTwoIslands := zMo (zws_in (i := 4068) rfl rfl) (by decide +kernel)
theorem zoX11_isWay : zMok mX11_isWay := zMo (zws_in (i := 4093) rfl rfl) (by decide +kernel)
theorem zoX11_isWhale : zMok mX11_isWhale := zMo (zws_in (i := 3231) rfl rfl) (by decide +kernel)
theorem zoX11_isBox : zMok mX11_isBox := zMo (zws_in (i := 3239) rfl rfl) (by decide +kernel)
theorem zoX11_isNoteOfBox : zMok mX11_isNoteOfBox := zMo (zws_in (i := 4035) rfl rfl) (by decide +kernel)
theorem zoX11_isWithin : zMok mX11_isWithin := zMo (zws_in (i := 4085) rfl rfl) (by decide +kernel)
theorem zoX11_refusalOfNewSong : zMok mX11_refusalOfNewSong := zMo (zws_in (i := 4142) rfl rfl) (by decide +kernel)
theorem zoX11_appendBytes : zMok mX11_appendBytes := zMo (zws_in (i := 3021) rfl rfl) (by decide +kernel)
theorem zoX11_takeDraft : zMok mX11_takeDraft := zMo (zws_in (i := 3207) rfl rfl) (by decide +kernel)
theorem zoX11_keepForUndo : zMok mX11_keepForUndo := zMo (zws_in (i := 5167) rfl rfl) (by decide +kernel)
theorem zoX11_hearerIn : zMok mX11_hearerIn := zMo (zws_in (i := 4047) rfl rfl) (by decide +kernel)
theorem zoX11_sentPart : zMok mX11_sentPart := zMo (zws_in (i := 4109) rfl rfl) (by decide +kernel)
theorem zoX11_heardWithSlips : zMok mX11_heardWithSlips := zMo (zws_in (i := 5147) rfl rfl) (by decide +kernel)
theorem zoX11_solveMatch : zMok mX11_solveMatch := zMo (zws_in (i := 5019) rfl rfl) (by decide +kernel)
theorem zoX11_commonDivisor : zMok mX11_commonDivisor := zMo (zws_in (i := 5010) rfl rfl) (by decide +kernel)
theorem zoX11_noteAt : zMok mX11_noteAt := zMo (zws_in (i := 4026) rfl rfl) (by decide +kernel)
theorem zoX11_withNote : zMok mX11_withNote := zMo (zws_in (i := 5159) rfl rfl) (by decide +kernel)
theorem zoX11_unlikeNotes : zMok mX11_unlikeNotes := zMo (zws_in (i := 4054) rfl rfl) (by decide +kernel)
theorem zoX12_init : zMok mX12_init := zMo (zws_in (i := 6054) rfl rfl) (by decide +kernel)
theorem zoX12_good : zMok mX12_good := zMo (zws_in (i := 6185) rfl rfl) (by decide +kernel)
theorem zoX12_no : zMok mX12_no := zMo (zws_in (i := 6192) rfl rfl) (by decide +kernel)
theorem zoX12_isNot : zMok mX12_isNot := zMo (zws_in (i := 8173) rfl rfl) (by decide +kernel)
theorem zoX12_in : zMok mX12_in := zMo (zws_in (i := 6188) rfl rfl) (by decide +kernel)
theorem zoX12_hasBit : zMok mX12_hasBit := zMo (zws_in (i := 7172) rfl rfl) (by decide +kernel)
theorem zoX12_ones : zMok mX12_ones := zMo (zws_in (i := 8127) rfl rfl) (by decide +kernel)
theorem zoX12_copy : zMok mX12_copy := zMo (zws_in (i := 7081) rfl rfl) (by decide +kernel)
theorem zoX12_later : zMok mX12_later := zMo (zws_in (i := 8052) rfl rfl) (by decide +kernel)
theorem zoX12_feed : zMok mX12_feed := zMo (zws_in (i := 6177) rfl rfl) (by decide +kernel)
theorem zoX12_look : zMok mX12_look := zMo (zws_in (i := 6200) rfl rfl) (by decide +kernel)
theorem zoX12_isSmall : zMok mX12_isSmall := zMo (zws_in (i := 6203) rfl rfl) (by decide +kernel)
theorem zoX12_isDigit : zMok mX12_isDigit := zMo (zws_in (i := 6206) rfl rfl) (by decide +kernel)
theorem zoX12_next : zMok mX12_next := zMo (zws_in (i := 6196) rfl rfl) (by decide +kernel)
theorem zoX12_wrong : zMok mX12_wrong := zMo (zws_in (i := 6225) rfl rfl) (by decide +kernel)
theorem zoX12_isWord : zMok mX12_isWord := zMo (zws_in (i := 6215) rfl rfl) (by decide +kernel)
theorem zoX12_takesWord : zMok mX12_takesWord := zMo (zws_in (i := 6238) rfl rfl) (by decide +kernel)
theorem zoX12_must : zMok mX12_must := zMo (zws_in (i := 6234) rfl rfl) (by decide +kernel)
theorem zoX12_mustName : zMok mX12_mustName := zMo (zws_in (i := 7022) rfl rfl) (by decide +kernel)
theorem zoX12_find : zMok mX12_find := zMo (zws_in (i := 7030) rfl rfl) (by decide +kernel)
theorem zoX12_newName : zMok mX12_newName := zMo (zws_in (i := 7018) rfl rfl) (by decide +kernel)
theorem zoX12_named : zMok mX12_named := zMo (zws_in (i := 7046) rfl rfl) (by decide +kernel)
theorem zoX12_islandPassed : zMok mX12_islandPassed := zMo (zws_in (i := 7042) rfl rfl) (by decide +kernel)
theorem zoX12_islandBehind : zMok mX12_islandBehind := zMo (zws_in (i := 7064) rfl rfl) (by decide +kernel)
theorem zoX12_number : zMok mX12_number := zMo (zws_in (i := 7002) rfl rfl) (by decide +kernel)
theorem zoX12_after : zMok mX12_after := zMo (zws_in (i := 6230) rfl rfl) (by decide +kernel)
theorem zoX12_post : zMok mX12_post := zMo (zws_in (i := 6181) rfl rfl) (by decide +kernel)
theorem zoX12_begins : zMok mX12_begins := zMo (zws_in (i := 7010) rfl rfl) (by decide +kernel)
theorem zoX12_readLine : zMok mX12_readLine := zMo (zws_in (i := 6210) rfl rfl) (by decide +kernel)
theorem zoX12_postLine : zMok mX12_postLine := zMo (zws_in (i := 6221) rfl rfl) (by decide +kernel)
theorem zoX12_islandLine : zMok mX12_islandLine := zMo (zws_in (i := 7014) rfl rfl) (by decide +kernel)
theorem zoX12_isSong : zMok mX12_isSong := zMo (zws_in (i := 7034) rfl rfl) (by decide +kernel)
theorem zoX12_wayLine : zMok mX12_wayLine := zMo (zws_in (i := 7038) rfl rfl) (by decide +kernel)
theorem zoX12_joins : zMok mX12_joins := zMo (zws_in (i := 7049) rfl rfl) (by decide +kernel)
theorem zoX12_whaleLine : zMok mX12_whaleLine := zMo (zws_in (i := 7055) rfl rfl) (by decide +kernel)
theorem zoX12_boxLine : zMok mX12_boxLine := zMo (zws_in (i := 7070) rfl rfl) (by decide +kernel)
theorem zoX12_spoutLine : zMok mX12_spoutLine := zMo (zws_in (i := 7078) rfl rfl) (by decide +kernel)
theorem zoX12_fault : zMok mX12_fault := zMo (zws_in (i := 7085) rfl rfl) (by decide +kernel)
theorem zoX12_where : zMok mX12_where := zMo (zws_in (i := 7089) rfl rfl) (by decide +kernel)
theorem zoX12_isIsland : zMok mX12_isIsland := zMo (zws_in (i := 7121) rfl rfl) (by decide +kernel)
theorem zoX12_isWhale : zMok mX12_isWhale := zMo (zws_in (i := 7097) rfl rfl) (by decide +kernel)
theorem zoX12_isBox : zMok mX12_isBox := zMo (zws_in (i := 7109) rfl rfl) (by decide +kernel)
theorem zoX12_ofWhale : zMok mX12_ofWhale := zMo (zws_in (i := 7101) rfl rfl) (by decide +kernel)
theorem zoX12_ofBox : zMok mX12_ofBox := zMo (zws_in (i := 7113) rfl rfl) (by decide +kernel)
theorem zoX12_songLong : zMok mX12_songLong := zMo (zws_in (i := 7125) rfl rfl) (by decide +kernel)
theorem zoX12_boxLong : zMok mX12_boxLong := zMo (zws_in (i := 7141) rfl rfl) (by decide +kernel)
theorem zoX12_noteIn : zMok mX12_noteIn := zMo (zws_in (i := 7133) rfl rfl) (by decide +kernel)
theorem zoX12_whale : zMok mX12_whale := zMo (zws_in (i := 7093) rfl rfl) (by decide +kernel)
theorem zoX12_box : zMok mX12_box := zMo (zws_in (i := 7105) rfl rfl) (by decide +kernel)
theorem zoX12_length : zMok mX12_length := zMo (zws_in (i := 7117) rfl rfl) (by decide +kernel)
theorem zoX12_note : zMok mX12_note := zMo (zws_in (i := 7129) rfl rfl) (by decide +kernel)
theorem zoX12_sung : zMok mX12_sung := zMo (zws_in (i := 7137) rfl rfl) (by decide +kernel)
theorem zoX12_unlike : zMok mX12_unlike := zMo (zws_in (i := 7157) rfl rfl) (by decide +kernel)
theorem zoX12_hearsIn : zMok mX12_hearsIn := zMo (zws_in (i := 7153) rfl rfl) (by decide +kernel)
theorem zoX12_heardNow : zMok mX12_heardNow := zMo (zws_in (i := 7149) rfl rfl) (by decide +kernel)
theorem zoX12_heard : zMok mX12_heard := zMo (zws_in (i := 7145) rfl rfl) (by decide +kernel)
theorem zoX12_isClosed : zMok mX12_isClosed := zMo (zws_in (i := 7169) rfl rfl) (by decide +kernel)
theorem zoX12_wayOf : zMok mX12_wayOf := zMo (zws_in (i := 7165) rfl rfl) (by decide +kernel)
theorem zoX12_way : zMok mX12_way := zMo (zws_in (i := 7161) rfl rfl) (by decide +kernel)
theorem zoX12_nearOf : zMok mX12_nearOf := zMo (zws_in (i := 7180) rfl rfl) (by decide +kernel)
theorem zoX12_near : zMok mX12_near := zMo (zws_in (i := 7176) rfl rfl) (by decide +kernel)
theorem zoX12_asNear : zMok mX12_asNear := zMo (zws_in (i := 7184) rfl rfl) (by decide +kernel)
theorem zoX12_sent : zMok mX12_sent := zMo (zws_in (i := 7188) rfl rfl) (by decide +kernel)
theorem zoX12_apartOf : zMok mX12_apartOf := zMo (zws_in (i := 7196) rfl rfl) (by decide +kernel)
theorem zoX12_apart : zMok mX12_apart := zMo (zws_in (i := 7192) rfl rfl) (by decide +kernel)
theorem zoX12_bear : zMok mX12_bear := zMo (zws_in (i := 7200) rfl rfl) (by decide +kernel)
theorem zoX12_mixed : zMok mX12_mixed := zMo (zws_in (i := 7204) rfl rfl) (by decide +kernel)
theorem zoX12_power : zMok mX12_power := zMo (zws_in (i := 7220) rfl rfl) (by decide +kernel)
theorem zoX12_digitsApart : zMok mX12_digitsApart := zMo (zws_in (i := 7224) rfl rfl) (by decide +kernel)
theorem zoX12_newSongs : zMok mX12_newSongs := zMo (zws_in (i := 7216) rfl rfl) (by decide +kernel)
theorem zoX12_songWhy : zMok mX12_songWhy := zMo (zws_in (i := 7212) rfl rfl) (by decide +kernel)
theorem zoX12_fresh : zMok mX12_fresh := zMo (zws_in (i := 7208) rfl rfl) (by decide +kernel)
theorem zoX12_byTurns : zMok mX12_byTurns := zMo (zws_in (i := 7228) rfl rfl) (by decide +kernel)
theorem zoX12_heardIn : zMok mX12_heardIn := zMo (zws_in (i := 7232) rfl rfl) (by decide +kernel)
theorem zoX12_hearsItself : zMok mX12_hearsItself := zMo (zws_in (i := 8000) rfl rfl) (by decide +kernel)
theorem zoX12_strange : zMok mX12_strange := zMo (zws_in (i := 7236) rfl rfl) (by decide +kernel)
theorem zoX12_dayBy : zMok mX12_dayBy := zMo (zws_in (i := 8037) rfl rfl) (by decide +kernel)
theorem zoX12_setsOut : zMok mX12_setsOut := zMo (zws_in (i := 8016) rfl rfl) (by decide +kernel)
theorem zoX12_seasonOf : zMok mX12_seasonOf := zMo (zws_in (i := 8008) rfl rfl) (by decide +kernel)
theorem zoX12_season : zMok mX12_season := zMo (zws_in (i := 8004) rfl rfl) (by decide +kernel)
theorem zoX12_sets : zMok mX12_sets := zMo (zws_in (i := 8012) rfl rfl) (by decide +kernel)
theorem zoX12_layDays : zMok mX12_layDays := zMo (zws_in (i := 8028) rfl rfl) (by decide +kernel)
theorem zoX12_goesBy : zMok mX12_goesBy := zMo (zws_in (i := 8033) rfl rfl) (by decide +kernel)
theorem zoX12_arrivalOf : zMok mX12_arrivalOf := zMo (zws_in (i := 8024) rfl rfl) (by decide +kernel)
theorem zoX12_arrival : zMok mX12_arrival := zMo (zws_in (i := 8020) rfl rfl) (by decide +kernel)
theorem zoX12_lays : zMok mX12_lays := zMo (zws_in (i := 8049) rfl rfl) (by decide +kernel)
theorem zoX12_bringsOf : zMok mX12_bringsOf := zMo (zws_in (i := 8045) rfl rfl) (by decide +kernel)
theorem zoX12_brings : zMok mX12_brings := zMo (zws_in (i := 8041) rfl rfl) (by decide +kernel)
theorem zoX12_soonest : zMok mX12_soonest := zMo (zws_in (i := 8056) rfl rfl) (by decide +kernel)
theorem zoX12_surestBut : zMok mX12_surestBut := zMo (zws_in (i := 8064) rfl rfl) (by decide +kernel)
theorem zoX12_surest : zMok mX12_surest := zMo (zws_in (i := 8060) rfl rfl) (by decide +kernel)
theorem zoX12_by : zMok mX12_by := zMo (zws_in (i := 8068) rfl rfl) (by decide +kernel)
theorem zoX12_lowest : zMok mX12_lowest := zMo (zws_in (i := 8076) rfl rfl) (by decide +kernel)
theorem zoX12_registered : zMok mX12_registered := zMo (zws_in (i := 8072) rfl rfl) (by decide +kernel)
theorem zoX12_tryMatch : zMok mX12_tryMatch := zMo (zws_in (i := 8088) rfl rfl) (by decide +kernel)
theorem zoX12_seekMatch : zMok mX12_seekMatch := zMo (zws_in (i := 8084) rfl rfl) (by decide +kernel)
theorem zoX12_match : zMok mX12_match := zMo (zws_in (i := 8080) rfl rfl) (by decide +kernel)
theorem zoX12_matchDays : zMok mX12_matchDays := zMo (zws_in (i := 8092) rfl rfl) (by decide +kernel)
theorem zoX12_matchOf : zMok mX12_matchOf := zMo (zws_in (i := 8096) rfl rfl) (by decide +kernel)
theorem zoX12_meet : zMok mX12_meet := zMo (zws_in (i := 8100) rfl rfl) (by decide +kernel)
theorem zoX12_fitsAll : zMok mX12_fitsAll := zMo (zws_in (i := 8108) rfl rfl) (by decide +kernel)
theorem zoX12_fits : zMok mX12_fits := zMo (zws_in (i := 8104) rfl rfl) (by decide +kernel)
theorem zoX12_reachOf : zMok mX12_reachOf := zMo (zws_in (i := 8116) rfl rfl) (by decide +kernel)
theorem zoX12_reach : zMok mX12_reach := zMo (zws_in (i := 8112) rfl rfl) (by decide +kernel)
theorem zoX12_pier : zMok mX12_pier := zMo (zws_in (i := 8120) rfl rfl) (by decide +kernel)
theorem zoX12_doLead : zMok mX12_doLead := zMo (zws_in (i := 8131) rfl rfl) (by decide +kernel)
theorem zoX12_watch : zMok mX12_watch := zMo (zws_in (i := 8124) rfl rfl) (by decide +kernel)
theorem zoX12_layFar : zMok mX12_layFar := zMo (zws_in (i := 8143) rfl rfl) (by decide +kernel)
theorem zoX12_tryRound : zMok mX12_tryRound := zMo (zws_in (i := 8147) rfl rfl) (by decide +kernel)
theorem zoX12_seekRound : zMok mX12_seekRound := zMo (zws_in (i := 8139) rfl rfl) (by decide +kernel)
theorem zoX12_round : zMok mX12_round := zMo (zws_in (i := 8135) rfl rfl) (by decide +kernel)
theorem zoX12_roundAt : zMok mX12_roundAt := zMo (zws_in (i := 8151) rfl rfl) (by decide +kernel)
theorem zoX12_decade : zMok mX12_decade := zMo (zws_in (i := 8155) rfl rfl) (by decide +kernel)
theorem zoX12_note1 : zMok mX12_note1 := zMo (zws_in (i := 8165) rfl rfl) (by decide +kernel)
theorem zoX12_send : zMok mX12_send := zMo (zws_in (i := 8161) rfl rfl) (by decide +kernel)
theorem zoX12_tune : zMok mX12_tune := zMo (zws_in (i := 8169) rfl rfl) (by decide +kernel)
theorem zoX12_years : zMok mX12_years := zMo (zws_in (i := 8177) rfl rfl) (by decide +kernel)
theorem zoX12_close : zMok mX12_close := zMo (zws_in (i := 8181) rfl rfl) (by decide +kernel)
theorem zoX12_undo : zMok mX12_undo := zMo (zws_in (i := 8185) rfl rfl) (by decide +kernel)
theorem zoX12_image : zMok mX12_image := zMo (zws_in (i := 8189) rfl rfl) (by decide +kernel)
theorem zoX12_back : zMok mX12_back := zMo (zws_in (i := 8193) rfl rfl) (by decide +kernel)
theorem zoX12_led : zMok mX12_led := zMo (zws_in (i := 8197) rfl rfl) (by decide +kernel)
theorem zoX12_size : zMok mX12_size := zMo (zws_in (i := 8201) rfl rfl) (by decide +kernel)
theorem zoX12_trouble : zMok mX12_trouble := zMo (zws_in (i := 8205) rfl rfl) (by decide +kernel)
theorem zoJ0_length_8abf5 : zMok mJ0_length_8abf5 := zMo (zws_in (i := 3065) rfl rfl) (by decide +kernel)
theorem zoJ0_charAt_5068e : zMok mJ0_charAt_5068e := zMo (zws_in (i := 3075) rfl rfl) (by decide +kernel)
theorem zoJ0_coder_7d493 : zMok mJ0_coder_7d493 := zMo (zws_in (i := 3069) rfl rfl) (by decide +kernel)
theorem zoJ0_isLatin1_aae02 : zMok mJ0_isLatin1_aae02 := zMo (zws_in (i := 3079) rfl rfl) (by decide +kernel)
theorem zoJ0_checkIndex_df160 : zMok mJ0_checkIndex_df160 := zMo (zws_in (i := 3085) rfl rfl) (by decide +kernel)
theorem zoJ1_charAt_3b067 : zMok mJ1_charAt_3b067 := zMo (zws_in (i := 3082) rfl rfl) (by decide +kernel)
theorem zoJ3_checkIndex_8e157 : zMok mJ3_checkIndex_8e157 := zMo (zws_in (i := 3090) rfl rfl) (by decide +kernel)
theorem zoJ7_fill_53178 : zMok mJ7_fill_53178 := zMo (zws_in (i := 4195) rfl rfl) (by decide +kernel)
theorem zoJ6_bitCount_0f7a4 : zMok mJ6_bitCount_0f7a4 := zMo (zws_in (i := 4057) rfl rfl) (by decide +kernel)
theorem zledc : Cond.code yX11_led cX11_led 4 (some .int) ∈ zws := zws_in (i := 5224) rfl rfl
def zmthC (o : Nat) (q : Nat × Nat × Nat × zM × Nat × Nat × Nat × Nat) : Bool := match q with
  | (k, kd, na, cm, pl, pi, ps, pn) => match kd with
    | 0 => decide (zpc pl = some (Cond.methodLink (zRn o) k cm.2.2.2.2.1)) && goodWord (Cond.methodLink (zRn o) k cm.2.2.2.2.1) && decide (zpc pi = some (Cond.instanceMethod cm.2.2.2.2.1)) && goodWord (Cond.instanceMethod cm.2.2.2.2.1) && decide (zpc ps = some (Cond.selects (zRn cm.2.1) cm.2.2.2.2.1 cm.2.2.2.2.1)) && goodWord (Cond.selects (zRn cm.2.1) cm.2.2.2.2.1 cm.2.2.2.2.1) && decide (zpc pn = some (Cond.initialized cm.2.2.2.2.1.cls)) && goodWord (Cond.initialized cm.2.2.2.2.1.cls) && decide ((parseMethodDescriptor cm.2.2.2.2.1.desc).map (fun d => d.parameters.length + 1) = some na)
    | 1 => decide (zpc pl = some (Cond.methodLink (zRn o) k cm.2.2.2.2.1)) && goodWord (Cond.methodLink (zRn o) k cm.2.2.2.2.1) && decide (zpc pi = some (Cond.static cm.2.2.2.2.1)) && goodWord (Cond.static cm.2.2.2.2.1) && decide (zpc pn = some (Cond.initialized cm.2.2.2.2.1.cls)) && goodWord (Cond.initialized cm.2.2.2.2.1.cls) && decide ((parseMethodDescriptor cm.2.2.2.2.1.desc).map (fun d => d.parameters.length) = some na)
    | 2 => decide (zpc pl = some (Cond.methodLink (zRn o) k cm.2.2.2.2.1)) && goodWord (Cond.methodLink (zRn o) k cm.2.2.2.2.1) && decide (zpc pi = some (Cond.instanceMethod cm.2.2.2.2.1)) && goodWord (Cond.instanceMethod cm.2.2.2.2.1) && decide (zpc pn = some (Cond.initialized cm.2.2.2.2.1.cls)) && goodWord (Cond.initialized cm.2.2.2.2.1.cls) && decide ((parseMethodDescriptor cm.2.2.2.2.1.desc).map (fun d => d.parameters.length + 1) = some na) && decide (cm.2.2.2.2.1.name = "<init>") && decide (cm.2.2.2.1 = none)
    | 3 => znm.any (fun r => decide (r.1 = o) && decide (r.2.1 = k) && decide (r.2.2.1.2.2.2.2.1 = cm.2.2.2.2.1)) && decide (zpc pi = some (Cond.static cm.2.2.2.2.1)) && goodWord (Cond.static cm.2.2.2.2.1) && decide (zpc pn = some (Cond.initialized cm.2.2.2.2.1.cls)) && goodWord (Cond.initialized cm.2.2.2.2.1.cls) && decide ((parseMethodDescriptor cm.2.2.2.2.1.desc).map (fun d => d.parameters.length) = some na)
    | 4 => znm.any (fun r => decide (r.1 = o) && decide (r.2.1 = k) && decide (r.2.2.1.2.2.2.2.1 = cm.2.2.2.2.1)) && decide (zpc pi = some (Cond.instanceMethod cm.2.2.2.2.1)) && goodWord (Cond.instanceMethod cm.2.2.2.2.1) && decide (zpc pn = some (Cond.initialized cm.2.2.2.2.1.cls)) && goodWord (Cond.initialized cm.2.2.2.2.1.cls) && decide ((parseMethodDescriptor cm.2.2.2.2.1.desc).map (fun d => d.parameters.length + 1) = some na) && decide (cm.2.2.2.2.1.name = "<init>") && decide (cm.2.2.2.1 = none)
    | 10 => decide (zpc pl = some (Cond.methodLink (zRn o) k Lib.objectInit)) && goodWord (Cond.methodLink (zRn o) k Lib.objectInit)
    | 11 => decide (zpc pl = some (Cond.methodLink (zRn o) k Lib.Math.max.name)) && goodWord (Cond.methodLink (zRn o) k Lib.Math.max.name)
    | 12 => decide (zpc pl = some (Cond.methodLink (zRn o) k Lib.Math.min.name)) && goodWord (Cond.methodLink (zRn o) k Lib.Math.min.name)
    | 13 => decide (zpc pl = some (Cond.methodLink (zRn o) k Lib.Math.abs.name)) && goodWord (Cond.methodLink (zRn o) k Lib.Math.abs.name)
    | 14 => decide (zpc pl = some (Cond.methodLink (zRn o) k arraycopyName)) && goodWord (Cond.methodLink (zRn o) k arraycopyName)
    | _ => decide (kd = 16)
set_option maxRecDepth 20000 in
theorem zmthK0 : (zmthTT.getD 0 []).all (zmthC 0) = true := by decide +kernel
set_option maxRecDepth 20000 in
theorem zmthK1 : (zmthTT.getD 1 []).all (zmthC 1) = true := by decide +kernel
set_option maxRecDepth 20000 in
theorem zmthK2 : (zmthTT.getD 2 []).all (zmthC 2) = true := by decide +kernel
set_option maxRecDepth 20000 in
theorem zmthK3 : (zmthTT.getD 3 []).all (zmthC 3) = true := by decide +kernel
set_option maxRecDepth 20000 in
theorem zmthK4 : (zmthTT.getD 4 []).all (zmthC 4) = true := by decide +kernel
set_option maxRecDepth 20000 in
theorem zmthK5 : (zmthTT.getD 5 []).all (zmthC 5) = true := by decide +kernel
set_option maxRecDepth 20000 in
theorem zmthK6 : (zmthTT.getD 6 []).all (zmthC 6) = true := by decide +kernel
set_option maxRecDepth 20000 in
theorem zmthK7 : (zmthTT.getD 7 []).all (zmthC 7) = true := by decide +kernel
set_option maxRecDepth 20000 in
theorem zmthK8 : (zmthTT.getD 8 []).all (zmthC 8) = true := by decide +kernel
set_option maxRecDepth 20000 in
theorem zmthK9 : (zmthTT.getD 9 []).all (zmthC 9) = true := by decide +kernel
set_option maxRecDepth 20000 in
theorem zmthK10 : (zmthTT.getD 10 []).all (zmthC 10) = true := by decide +kernel
set_option maxRecDepth 20000 in
theorem zmthK11 : (zmthTT.getD 11 []).all (zmthC 11) = true := by decide +kernel
set_option maxRecDepth 20000 in
theorem zmthK12 : (zmthTT.getD 12 []).all (zmthC 12) = true := by decide +kernel
set_option maxRecDepth 20000 in
theorem zmthK13 : (zmthTT.getD 13 []).all (zmthC 13) = true := by decide +kernel
set_option maxRecDepth 20000 in
theorem zmthK14 : (zmthTT.getD 14 []).all (zmthC 14) = true := by decide +kernel
set_option maxRecDepth 20000 in
theorem zmthK15 : (zmthTT.getD 15 []).all (zmthC 15) = true := by decide +kernel
set_option maxRecDepth 20000 in
theorem zmthK16 : (zmthTT.getD 16 []).all (zmthC 16) = true := by decide +kernel
set_option maxRecDepth 20000 in
theorem zmthK17 : (zmthTT.getD 17 []).all (zmthC 17) = true := by decide +kernel
set_option maxRecDepth 20000 in
theorem zmthK18 : (zmthTT.getD 18 []).all (zmthC 18) = true := by decide +kernel
theorem zmthK : ∀ o, o < 19 → (zmthTT.getD o []).all (zmthC o) = true
  | 0, _ => zmthK0
  | 1, _ => zmthK1
  | 2, _ => zmthK2
  | 3, _ => zmthK3
  | 4, _ => zmthK4
  | 5, _ => zmthK5
  | 6, _ => zmthK6
  | 7, _ => zmthK7
  | 8, _ => zmthK8
  | 9, _ => zmthK9
  | 10, _ => zmthK10
  | 11, _ => zmthK11
  | 12, _ => zmthK12
  | 13, _ => zmthK13
  | 14, _ => zmthK14
  | 15, _ => zmthK15
  | 16, _ => zmthK16
  | 17, _ => zmthK17
  | 18, _ => zmthK18
  | _ + 19, h => absurd h (by omega)
set_option maxRecDepth 20000 in
theorem zmM0 : ∀ q ∈ zmthT0, q.2.1 < 5 → zMok q.2.2.2.1 := List.forall_mem_cons.mpr ⟨fun h => absurd h (by decide), fun _ h => absurd h List.not_mem_nil⟩
set_option maxRecDepth 20000 in
theorem zmM1 : ∀ q ∈ zmthT1, q.2.1 < 5 → zMok q.2.2.2.1 := List.forall_mem_cons.mpr ⟨fun h => absurd h (by decide), List.forall_mem_cons.mpr ⟨fun _ => zoJ7_fill_53178, List.forall_mem_cons.mpr ⟨fun _ => zoX1_worth, List.forall_mem_cons.mpr ⟨fun h => absurd h (by decide), List.forall_mem_cons.mpr ⟨fun _ => zoX1_choose, List.forall_mem_cons.mpr ⟨fun _ => zoX1_firstBest, fun _ h => absurd h List.not_mem_nil⟩⟩⟩⟩⟩⟩
set_option maxRecDepth 20000 in
theorem zmM2 : ∀ q ∈ zmthT2, q.2.1 < 5 → zMok q.2.2.2.1 := List.forall_mem_cons.mpr ⟨fun h => absurd h (by decide), List.forall_mem_cons.mpr ⟨fun h => absurd h (by decide), fun _ h => absurd h List.not_mem_nil⟩⟩
set_option maxRecDepth 20000 in
theorem zmM3 : ∀ q ∈ zmthT3, q.2.1 < 5 → zMok q.2.2.2.1 := List.forall_mem_cons.mpr ⟨fun h => absurd h (by decide), List.forall_mem_cons.mpr ⟨fun _ => zoX3_waysOutOf, List.forall_mem_cons.mpr ⟨fun _ => zoJ6_bitCount_0f7a4, List.forall_mem_cons.mpr ⟨fun _ => zoX3_findShortest, List.forall_mem_cons.mpr ⟨fun _ => zoX3_findRests, List.forall_mem_cons.mpr ⟨fun _ => zoX3_nextOf, List.forall_mem_cons.mpr ⟨fun _ => zoJ7_fill_53178, List.forall_mem_cons.mpr ⟨fun h => absurd h (by decide), List.forall_mem_cons.mpr ⟨fun _ => zoX3_daysOver, fun _ h => absurd h List.not_mem_nil⟩⟩⟩⟩⟩⟩⟩⟩⟩
set_option maxRecDepth 20000 in
theorem zmM4 : ∀ q ∈ zmthT4, q.2.1 < 5 → zMok q.2.2.2.1 := List.forall_mem_cons.mpr ⟨fun h => absurd h (by decide), List.forall_mem_cons.mpr ⟨fun _ => zoX9_init, List.forall_mem_cons.mpr ⟨fun _ => zoX10_init, List.forall_mem_cons.mpr ⟨fun _ => zoX0_init, List.forall_mem_cons.mpr ⟨fun _ => zoX8_init, fun _ h => absurd h List.not_mem_nil⟩⟩⟩⟩⟩
set_option maxRecDepth 20000 in
theorem zmM5 : ∀ q ∈ zmthT5, q.2.1 < 5 → zMok q.2.2.2.1 := List.forall_mem_cons.mpr ⟨fun h => absurd h (by decide), List.forall_mem_cons.mpr ⟨fun _ => zoX4_clear, List.forall_mem_cons.mpr ⟨fun h => absurd h (by decide), List.forall_mem_cons.mpr ⟨fun _ => zoX5_readLine, List.forall_mem_cons.mpr ⟨fun _ => zoX5_nextToken, List.forall_mem_cons.mpr ⟨fun _ => zoX5_faulty, List.forall_mem_cons.mpr ⟨fun _ => zoX5_sortOfLine, List.forall_mem_cons.mpr ⟨fun _ => zoX5_readHead, List.forall_mem_cons.mpr ⟨fun _ => zoX5_readIsland, List.forall_mem_cons.mpr ⟨fun _ => zoX5_readWay, List.forall_mem_cons.mpr ⟨fun _ => zoX5_readWhale, List.forall_mem_cons.mpr ⟨fun _ => zoX5_readBox, List.forall_mem_cons.mpr ⟨fun _ => zoX5_readSpout, List.forall_mem_cons.mpr ⟨fun _ => zoX5_word, List.forall_mem_cons.mpr ⟨fun _ => zoX5_whole, List.forall_mem_cons.mpr ⟨fun _ => zoX5_newName, List.forall_mem_cons.mpr ⟨fun _ => zoX5_songOfToken, List.forall_mem_cons.mpr ⟨fun _ => zoX4_hasSong, List.forall_mem_cons.mpr ⟨fun _ => zoX5_toldName, List.forall_mem_cons.mpr ⟨fun _ => zoX4_wayBetween, List.forall_mem_cons.mpr ⟨fun _ => zoX5_kindOfToken, List.forall_mem_cons.mpr ⟨fun _ => zoX4_lastSpoutOf, List.forall_mem_cons.mpr ⟨fun _ => zoX5_isToken, List.forall_mem_cons.mpr ⟨fun _ => zoX5_nameOfToken, List.forall_mem_cons.mpr ⟨fun _ => zoX5_letters, List.forall_mem_cons.mpr ⟨fun _ => zoJ0_length_8abf5, List.forall_mem_cons.mpr ⟨fun _ => zoJ0_charAt_5068e, List.forall_mem_cons.mpr ⟨fun _ => zoX5_passAll, fun _ h => absurd h List.not_mem_nil⟩⟩⟩⟩⟩⟩⟩⟩⟩⟩⟩⟩⟩⟩⟩⟩⟩⟩⟩⟩⟩⟩⟩⟩⟩⟩⟩⟩
set_option maxRecDepth 20000 in
theorem zmM6 : ∀ q ∈ zmthT6, q.2.1 < 5 → zMok q.2.2.2.1 := List.forall_mem_cons.mpr ⟨fun h => absurd h (by decide), List.forall_mem_cons.mpr ⟨fun _ => zoJ7_fill_53178, List.forall_mem_cons.mpr ⟨fun _ => zoX2_isClosed, List.forall_mem_cons.mpr ⟨fun _ => zoX6_goes, List.forall_mem_cons.mpr ⟨fun _ => zoX6_dayOfLeaving, List.forall_mem_cons.mpr ⟨fun _ => zoX6_findFirstDays, List.forall_mem_cons.mpr ⟨fun _ => zoX2_isSent, List.forall_mem_cons.mpr ⟨fun _ => zoX4_boxLength, List.forall_mem_cons.mpr ⟨fun _ => zoX7_hearerOf, List.forall_mem_cons.mpr ⟨fun _ => zoX6_firstDayAt, List.forall_mem_cons.mpr ⟨fun h => absurd h (by decide), List.forall_mem_cons.mpr ⟨fun _ => zoX6_dayOfBringing, List.forall_mem_cons.mpr ⟨fun h => absurd h (by decide), List.forall_mem_cons.mpr ⟨fun _ => zoX6_isFitting, List.forall_mem_cons.mpr ⟨fun _ => zoX4_lastSpoutOf, List.forall_mem_cons.mpr ⟨fun _ => zoX6_fittingWhales, List.forall_mem_cons.mpr ⟨fun _ => zoJ6_bitCount_0f7a4, List.forall_mem_cons.mpr ⟨fun _ => zoX6_whalesReaching, List.forall_mem_cons.mpr ⟨fun h => absurd h (by decide), List.forall_mem_cons.mpr ⟨fun _ => zoX6_islandsReached, fun _ h => absurd h List.not_mem_nil⟩⟩⟩⟩⟩⟩⟩⟩⟩⟩⟩⟩⟩⟩⟩⟩⟩⟩⟩⟩
set_option maxRecDepth 20000 in
theorem zmM7 : ∀ q ∈ zmthT7, q.2.1 < 5 → zMok q.2.2.2.1 := List.forall_mem_cons.mpr ⟨fun h => absurd h (by decide), List.forall_mem_cons.mpr ⟨fun _ => zoX11_noteAt, List.forall_mem_cons.mpr ⟨fun _ => zoX7_fallIn, List.forall_mem_cons.mpr ⟨fun _ => zoX7_raised, List.forall_mem_cons.mpr ⟨fun _ => zoX11_unlikeNotes, List.forall_mem_cons.mpr ⟨fun _ => zoX7_apartness, List.forall_mem_cons.mpr ⟨fun _ => zoX7_keepSongsOf, List.forall_mem_cons.mpr ⟨fun _ => zoX7_isOfNotes, List.forall_mem_cons.mpr ⟨fun _ => zoX7_isFarFromKept, List.forall_mem_cons.mpr ⟨fun _ => zoX7_songIn, List.forall_mem_cons.mpr ⟨fun _ => zoX7_draw, List.forall_mem_cons.mpr ⟨fun _ => zoX11_withNote, fun _ h => absurd h List.not_mem_nil⟩⟩⟩⟩⟩⟩⟩⟩⟩⟩⟩⟩
set_option maxRecDepth 20000 in
theorem zmM8 : ∀ q ∈ zmthT8, q.2.1 < 5 → zMok q.2.2.2.1 := List.forall_mem_cons.mpr ⟨fun h => absurd h (by decide), fun _ h => absurd h List.not_mem_nil⟩
set_option maxRecDepth 20000 in
theorem zmM9 : ∀ q ∈ zmthT9, q.2.1 < 5 → zMok q.2.2.2.1 := List.forall_mem_cons.mpr ⟨fun h => absurd h (by decide), fun _ h => absurd h List.not_mem_nil⟩
set_option maxRecDepth 20000 in
theorem zmM10 : ∀ q ∈ zmthT10, q.2.1 < 5 → zMok q.2.2.2.1 := List.forall_mem_cons.mpr ⟨fun h => absurd h (by decide), fun _ h => absurd h List.not_mem_nil⟩
set_option maxRecDepth 20000 in
theorem zmM11 : ∀ q ∈ zmthT11, q.2.1 < 5 → zMok q.2.2.2.1 := List.forall_mem_cons.mpr ⟨fun h => absurd h (by decide), List.forall_mem_cons.mpr ⟨fun _ => zoX4_init, List.forall_mem_cons.mpr ⟨fun _ => zoX5_init, List.forall_mem_cons.mpr ⟨fun _ => zoX2_init, List.forall_mem_cons.mpr ⟨fun _ => zoX7_init, List.forall_mem_cons.mpr ⟨fun _ => zoX6_init, List.forall_mem_cons.mpr ⟨fun _ => zoX3_init, List.forall_mem_cons.mpr ⟨fun _ => zoX1_init, List.forall_mem_cons.mpr ⟨fun _ => zoX11_appendBytes, List.forall_mem_cons.mpr ⟨fun _ => zoX11_refused, List.forall_mem_cons.mpr ⟨fun _ => zoX5_readPost, List.forall_mem_cons.mpr ⟨fun _ => zoX11_takeDraft, List.forall_mem_cons.mpr ⟨fun _ => zoX11_granted, List.forall_mem_cons.mpr ⟨fun _ => zoX11_isWhale, List.forall_mem_cons.mpr ⟨fun _ => zoX11_isBox, List.forall_mem_cons.mpr ⟨fun _ => zoX11_isIsland, List.forall_mem_cons.mpr ⟨fun _ => zoX7_songIn, List.forall_mem_cons.mpr ⟨fun _ => zoX11_noteAt, List.forall_mem_cons.mpr ⟨fun _ => zoX11_isNoteOfBox, List.forall_mem_cons.mpr ⟨fun _ => zoX4_boxLength, List.forall_mem_cons.mpr ⟨fun _ => zoX11_hearerIn, List.forall_mem_cons.mpr ⟨fun _ => zoX11_areTwoIslands, List.forall_mem_cons.mpr ⟨fun _ => zoX4_wayBetween, List.forall_mem_cons.mpr ⟨fun _ => zoX2_isClosed, List.forall_mem_cons.mpr ⟨fun _ => zoX11_hasPost, List.forall_mem_cons.mpr ⟨fun _ => zoX11_isWithin, List.forall_mem_cons.mpr ⟨fun _ => zoX11_isWay, List.forall_mem_cons.mpr ⟨fun _ => zoX6_dayOfLeaving, List.forall_mem_cons.mpr ⟨fun _ => zoX2_isSent, List.forall_mem_cons.mpr ⟨fun _ => zoX11_sentPart, List.forall_mem_cons.mpr ⟨fun _ => zoX7_apartness, List.forall_mem_cons.mpr ⟨fun _ => zoX7_bearable, List.forall_mem_cons.mpr ⟨fun _ => zoX7_mixedPairs, List.forall_mem_cons.mpr ⟨fun _ => zoX11_refusalOfNewSong, List.forall_mem_cons.mpr ⟨fun _ => zoX7_findNew, List.forall_mem_cons.mpr ⟨fun _ => zoX7_hearerOf, List.forall_mem_cons.mpr ⟨fun _ => zoX6_firstDayAt, List.forall_mem_cons.mpr ⟨fun _ => zoX6_dayOfBringing, List.forall_mem_cons.mpr ⟨fun _ => zoX6_soonestBringer, List.forall_mem_cons.mpr ⟨fun _ => zoX6_surestBringer, List.forall_mem_cons.mpr ⟨fun _ => zoX6_bringersBy, List.forall_mem_cons.mpr ⟨fun _ => zoX11_commonDivisor, List.forall_mem_cons.mpr ⟨fun _ => zoX11_solveMatch, List.forall_mem_cons.mpr ⟨fun _ => zoX6_dayOfMeeting, List.forall_mem_cons.mpr ⟨fun _ => zoX6_fittingWhales, List.forall_mem_cons.mpr ⟨fun _ => zoX6_islandsReached, List.forall_mem_cons.mpr ⟨fun _ => zoX6_bestPier, List.forall_mem_cons.mpr ⟨fun _ => zoX3_fewestToWatch, List.forall_mem_cons.mpr ⟨fun _ => zoX3_findRound, List.forall_mem_cons.mpr ⟨fun _ => zoX11_heardWithSlips, List.forall_mem_cons.mpr ⟨fun _ => zoX11_keepForUndo, List.forall_mem_cons.mpr ⟨fun _ => zoX11_hasRefused, List.forall_mem_cons.mpr ⟨fun _ => zoX11_withNote, List.forall_mem_cons.mpr ⟨fun _ => zoX11_hasGranted, List.forall_mem_cons.mpr ⟨fun _ => zoX2_copyFrom, List.forall_mem_cons.mpr ⟨fun _ => zoX2_begin, List.forall_mem_cons.mpr ⟨fun h => absurd h (by decide), List.forall_mem_cons.mpr ⟨fun _ => zoX7_slipped, List.forall_mem_cons.mpr ⟨fun _ => zoX1_solve, List.forall_mem_cons.mpr ⟨fun h => absurd h (by decide), List.forall_mem_cons.mpr ⟨fun _ => zoJ6_bitCount_0f7a4, fun _ h => absurd h List.not_mem_nil⟩⟩⟩⟩⟩⟩⟩⟩⟩⟩⟩⟩⟩⟩⟩⟩⟩⟩⟩⟩⟩⟩⟩⟩⟩⟩⟩⟩⟩⟩⟩⟩⟩⟩⟩⟩⟩⟩⟩⟩⟩⟩⟩⟩⟩⟩⟩⟩⟩⟩⟩⟩⟩⟩⟩⟩⟩⟩⟩⟩⟩
set_option maxRecDepth 20000 in
theorem zmM12 : ∀ q ∈ zmthT12, q.2.1 < 5 → zMok q.2.2.2.1 := List.forall_mem_cons.mpr ⟨fun h => absurd h (by decide), List.forall_mem_cons.mpr ⟨fun _ => zoX12_look, List.forall_mem_cons.mpr ⟨fun _ => zoX12_isSmall, List.forall_mem_cons.mpr ⟨fun _ => zoX12_isDigit, List.forall_mem_cons.mpr ⟨fun _ => zoJ0_length_8abf5, List.forall_mem_cons.mpr ⟨fun _ => zoJ0_charAt_5068e, List.forall_mem_cons.mpr ⟨fun _ => zoX12_isWord, List.forall_mem_cons.mpr ⟨fun _ => zoX12_next, List.forall_mem_cons.mpr ⟨fun _ => zoX12_takesWord, List.forall_mem_cons.mpr ⟨fun _ => zoX12_wrong, List.forall_mem_cons.mpr ⟨fun _ => zoX12_mustName, List.forall_mem_cons.mpr ⟨fun _ => zoX12_find, List.forall_mem_cons.mpr ⟨fun _ => zoX12_in, List.forall_mem_cons.mpr ⟨fun _ => zoX12_named, List.forall_mem_cons.mpr ⟨fun _ => zoX12_must, List.forall_mem_cons.mpr ⟨fun _ => zoX12_islandPassed, List.forall_mem_cons.mpr ⟨fun _ => zoX12_number, List.forall_mem_cons.mpr ⟨fun _ => zoX12_good, List.forall_mem_cons.mpr ⟨fun _ => zoX12_no, List.forall_mem_cons.mpr ⟨fun _ => zoX12_readLine, List.forall_mem_cons.mpr ⟨fun _ => zoX12_copy, List.forall_mem_cons.mpr ⟨fun _ => zoX12_postLine, List.forall_mem_cons.mpr ⟨fun _ => zoX12_begins, List.forall_mem_cons.mpr ⟨fun _ => zoX12_islandLine, List.forall_mem_cons.mpr ⟨fun _ => zoX12_wayLine, List.forall_mem_cons.mpr ⟨fun _ => zoX12_whaleLine, List.forall_mem_cons.mpr ⟨fun _ => zoX12_boxLine, List.forall_mem_cons.mpr ⟨fun _ => zoX12_spoutLine, List.forall_mem_cons.mpr ⟨fun _ => zoX12_after, List.forall_mem_cons.mpr ⟨fun _ => zoX12_newName, List.forall_mem_cons.mpr ⟨fun _ => zoX12_isSong, List.forall_mem_cons.mpr ⟨fun _ => zoX12_joins, List.forall_mem_cons.mpr ⟨fun _ => zoX12_islandBehind, List.forall_mem_cons.mpr ⟨fun _ => zoX12_ofBox, List.forall_mem_cons.mpr ⟨fun _ => zoX12_songLong, List.forall_mem_cons.mpr ⟨fun _ => zoX12_isWhale, List.forall_mem_cons.mpr ⟨fun _ => zoX12_ofWhale, List.forall_mem_cons.mpr ⟨fun _ => zoX12_isBox, List.forall_mem_cons.mpr ⟨fun _ => zoX12_isIsland, List.forall_mem_cons.mpr ⟨fun _ => zoX12_noteIn, List.forall_mem_cons.mpr ⟨fun _ => zoX12_boxLong, List.forall_mem_cons.mpr ⟨fun _ => zoX12_unlike, List.forall_mem_cons.mpr ⟨fun _ => zoX12_hearsIn, List.forall_mem_cons.mpr ⟨fun _ => zoX12_heardNow, List.forall_mem_cons.mpr ⟨fun _ => zoX12_hasBit, List.forall_mem_cons.mpr ⟨fun _ => zoX12_isClosed, List.forall_mem_cons.mpr ⟨fun _ => zoX12_wayOf, List.forall_mem_cons.mpr ⟨fun _ => zoX12_nearOf, List.forall_mem_cons.mpr ⟨fun _ => zoX12_apartOf, List.forall_mem_cons.mpr ⟨fun _ => zoX12_power, List.forall_mem_cons.mpr ⟨fun _ => zoX12_digitsApart, List.forall_mem_cons.mpr ⟨fun _ => zoX12_songWhy, List.forall_mem_cons.mpr ⟨fun _ => zoX12_newSongs, List.forall_mem_cons.mpr ⟨fun _ => zoX12_hearsItself, List.forall_mem_cons.mpr ⟨fun _ => zoX12_setsOut, List.forall_mem_cons.mpr ⟨fun _ => zoX12_seasonOf, List.forall_mem_cons.mpr ⟨fun _ => zoX12_goesBy, List.forall_mem_cons.mpr ⟨fun _ => zoX12_dayBy, List.forall_mem_cons.mpr ⟨fun _ => zoX12_layDays, List.forall_mem_cons.mpr ⟨fun _ => zoX12_arrivalOf, List.forall_mem_cons.mpr ⟨fun _ => zoX12_later, List.forall_mem_cons.mpr ⟨fun _ => zoX12_lays, List.forall_mem_cons.mpr ⟨fun _ => zoX12_bringsOf, List.forall_mem_cons.mpr ⟨fun _ => zoX12_surestBut, List.forall_mem_cons.mpr ⟨fun _ => zoX12_lowest, List.forall_mem_cons.mpr ⟨fun _ => zoX12_tryMatch, List.forall_mem_cons.mpr ⟨fun _ => zoX12_seekMatch, List.forall_mem_cons.mpr ⟨fun _ => zoX12_fitsAll, List.forall_mem_cons.mpr ⟨fun _ => zoX12_reachOf, List.forall_mem_cons.mpr ⟨fun _ => zoX12_ones, List.forall_mem_cons.mpr ⟨fun _ => zoX12_doLead, List.forall_mem_cons.mpr ⟨fun _ => zoX12_tryRound, List.forall_mem_cons.mpr ⟨fun _ => zoX12_layFar, List.forall_mem_cons.mpr ⟨fun _ => zoX12_seekRound, List.forall_mem_cons.mpr ⟨fun _ => zoX12_note1, List.forall_mem_cons.mpr ⟨fun _ => zoX12_isNot, fun _ h => absurd h List.not_mem_nil⟩⟩⟩⟩⟩⟩⟩⟩⟩⟩⟩⟩⟩⟩⟩⟩⟩⟩⟩⟩⟩⟩⟩⟩⟩⟩⟩⟩⟩⟩⟩⟩⟩⟩⟩⟩⟩⟩⟩⟩⟩⟩⟩⟩⟩⟩⟩⟩⟩⟩⟩⟩⟩⟩⟩⟩⟩⟩⟩⟩⟩⟩⟩⟩⟩⟩⟩⟩⟩⟩⟩⟩⟩⟩⟩⟩
set_option maxRecDepth 20000 in
theorem zmM13 : ∀ q ∈ zmthT13, q.2.1 < 5 → zMok q.2.2.2.1 := List.forall_mem_cons.mpr ⟨fun _ => zoX11_init, List.forall_mem_cons.mpr ⟨fun _ => zoX12_init, List.forall_mem_cons.mpr ⟨fun _ => zoX11_feed, List.forall_mem_cons.mpr ⟨fun _ => zoX12_feed, List.forall_mem_cons.mpr ⟨fun _ => zoX11_post, List.forall_mem_cons.mpr ⟨fun _ => zoX12_post, List.forall_mem_cons.mpr ⟨fun _ => zoX11_fault, List.forall_mem_cons.mpr ⟨fun _ => zoX12_fault, List.forall_mem_cons.mpr ⟨fun _ => zoX11_where, List.forall_mem_cons.mpr ⟨fun _ => zoX12_where, List.forall_mem_cons.mpr ⟨fun _ => zoX11_whale, List.forall_mem_cons.mpr ⟨fun _ => zoX12_whale, List.forall_mem_cons.mpr ⟨fun _ => zoX11_box, List.forall_mem_cons.mpr ⟨fun _ => zoX12_box, List.forall_mem_cons.mpr ⟨fun _ => zoX11_length, List.forall_mem_cons.mpr ⟨fun _ => zoX12_length, List.forall_mem_cons.mpr ⟨fun _ => zoX11_note, List.forall_mem_cons.mpr ⟨fun _ => zoX12_note, List.forall_mem_cons.mpr ⟨fun _ => zoX11_sung, List.forall_mem_cons.mpr ⟨fun _ => zoX12_sung, List.forall_mem_cons.mpr ⟨fun _ => zoX11_heard, List.forall_mem_cons.mpr ⟨fun _ => zoX12_heard, List.forall_mem_cons.mpr ⟨fun _ => zoX11_way, List.forall_mem_cons.mpr ⟨fun _ => zoX12_way, List.forall_mem_cons.mpr ⟨fun _ => zoX11_season, List.forall_mem_cons.mpr ⟨fun _ => zoX12_season, List.forall_mem_cons.mpr ⟨fun _ => zoX11_sets, List.forall_mem_cons.mpr ⟨fun _ => zoX12_sets, List.forall_mem_cons.mpr ⟨fun _ => zoX11_sent, List.forall_mem_cons.mpr ⟨fun _ => zoX12_sent, List.forall_mem_cons.mpr ⟨fun _ => zoX11_apart, List.forall_mem_cons.mpr ⟨fun _ => zoX12_apart, List.forall_mem_cons.mpr ⟨fun _ => zoX11_bear, List.forall_mem_cons.mpr ⟨fun _ => zoX12_bear, List.forall_mem_cons.mpr ⟨fun _ => zoX11_mixed, List.forall_mem_cons.mpr ⟨fun _ => zoX12_mixed, List.forall_mem_cons.mpr ⟨fun _ => zoX11_fresh, List.forall_mem_cons.mpr ⟨fun _ => zoX12_fresh, List.forall_mem_cons.mpr ⟨fun _ => zoX11_byTurns, List.forall_mem_cons.mpr ⟨fun _ => zoX12_byTurns, List.forall_mem_cons.mpr ⟨fun _ => zoX11_near, List.forall_mem_cons.mpr ⟨fun _ => zoX12_near, List.forall_mem_cons.mpr ⟨fun _ => zoX11_asNear, List.forall_mem_cons.mpr ⟨fun _ => zoX12_asNear, List.forall_mem_cons.mpr ⟨fun _ => zoX11_heardIn, List.forall_mem_cons.mpr ⟨fun _ => zoX12_heardIn, List.forall_mem_cons.mpr ⟨fun _ => zoX11_strange, List.forall_mem_cons.mpr ⟨fun _ => zoX12_strange, List.forall_mem_cons.mpr ⟨fun _ => zoX11_arrival, List.forall_mem_cons.mpr ⟨fun _ => zoX12_arrival, List.forall_mem_cons.mpr ⟨fun _ => zoX11_brings, List.forall_mem_cons.mpr ⟨fun _ => zoX12_brings, List.forall_mem_cons.mpr ⟨fun _ => zoX11_soonest, List.forall_mem_cons.mpr ⟨fun _ => zoX12_soonest, List.forall_mem_cons.mpr ⟨fun _ => zoX11_surest, List.forall_mem_cons.mpr ⟨fun _ => zoX12_surest, List.forall_mem_cons.mpr ⟨fun _ => zoX11_by, List.forall_mem_cons.mpr ⟨fun _ => zoX12_by, List.forall_mem_cons.mpr ⟨fun _ => zoX11_registered, List.forall_mem_cons.mpr ⟨fun _ => zoX12_registered, List.forall_mem_cons.mpr ⟨fun _ => zoX11_match, List.forall_mem_cons.mpr ⟨fun _ => zoX12_match, List.forall_mem_cons.mpr ⟨fun _ => zoX11_matchDays, List.forall_mem_cons.mpr ⟨fun _ => zoX12_matchDays, List.forall_mem_cons.mpr ⟨fun _ => zoX11_matchOf, List.forall_mem_cons.mpr ⟨fun _ => zoX12_matchOf, List.forall_mem_cons.mpr ⟨fun _ => zoX11_meet, List.forall_mem_cons.mpr ⟨fun _ => zoX12_meet, List.forall_mem_cons.mpr ⟨fun _ => zoX11_fits, List.forall_mem_cons.mpr ⟨fun _ => zoX12_fits, List.forall_mem_cons.mpr ⟨fun _ => zoX11_reach, List.forall_mem_cons.mpr ⟨fun _ => zoX12_reach, List.forall_mem_cons.mpr ⟨fun _ => zoX11_pier, List.forall_mem_cons.mpr ⟨fun _ => zoX12_pier, List.forall_mem_cons.mpr ⟨fun _ => zoX11_watch, List.forall_mem_cons.mpr ⟨fun _ => zoX12_watch, List.forall_mem_cons.mpr ⟨fun _ => zoX11_round, List.forall_mem_cons.mpr ⟨fun _ => zoX12_round, List.forall_mem_cons.mpr ⟨fun _ => zoX11_roundAt, List.forall_mem_cons.mpr ⟨fun _ => zoX12_roundAt, List.forall_mem_cons.mpr ⟨fun _ => zoX11_decade, List.forall_mem_cons.mpr ⟨fun _ => zoX12_decade, List.forall_mem_cons.mpr ⟨fun _ => zoX11_send, List.forall_mem_cons.mpr ⟨fun _ => zoX12_send, List.forall_mem_cons.mpr ⟨fun _ => zoX11_tune, List.forall_mem_cons.mpr ⟨fun _ => zoX12_tune, List.forall_mem_cons.mpr ⟨fun _ => zoX11_years, List.forall_mem_cons.mpr ⟨fun _ => zoX12_years, List.forall_mem_cons.mpr ⟨fun _ => zoX11_close, List.forall_mem_cons.mpr ⟨fun _ => zoX12_close, List.forall_mem_cons.mpr ⟨fun _ => zoX11_undo, List.forall_mem_cons.mpr ⟨fun _ => zoX12_undo, List.forall_mem_cons.mpr ⟨fun _ => zoX11_image, List.forall_mem_cons.mpr ⟨fun _ => zoX12_image, List.forall_mem_cons.mpr ⟨fun _ => zoX11_back, List.forall_mem_cons.mpr ⟨fun _ => zoX12_back, List.forall_mem_cons.mpr ⟨fun h => absurd h (by decide), List.forall_mem_cons.mpr ⟨fun _ => zoX12_led, List.forall_mem_cons.mpr ⟨fun _ => zoX11_size, List.forall_mem_cons.mpr ⟨fun _ => zoX12_size, List.forall_mem_cons.mpr ⟨fun _ => zoX11_trouble, List.forall_mem_cons.mpr ⟨fun _ => zoX12_trouble, fun _ h => absurd h List.not_mem_nil⟩⟩⟩⟩⟩⟩⟩⟩⟩⟩⟩⟩⟩⟩⟩⟩⟩⟩⟩⟩⟩⟩⟩⟩⟩⟩⟩⟩⟩⟩⟩⟩⟩⟩⟩⟩⟩⟩⟩⟩⟩⟩⟩⟩⟩⟩⟩⟩⟩⟩⟩⟩⟩⟩⟩⟩⟩⟩⟩⟩⟩⟩⟩⟩⟩⟩⟩⟩⟩⟩⟩⟩⟩⟩⟩⟩⟩⟩⟩⟩⟩⟩⟩⟩⟩⟩⟩⟩⟩⟩⟩⟩⟩⟩⟩⟩⟩⟩⟩⟩⟩⟩
set_option maxRecDepth 20000 in
theorem zmM14 : ∀ q ∈ zmthT14, q.2.1 < 5 → zMok q.2.2.2.1 := List.forall_mem_cons.mpr ⟨fun _ => zoJ0_coder_7d493, List.forall_mem_cons.mpr ⟨fun _ => zoJ0_isLatin1_aae02, List.forall_mem_cons.mpr ⟨fun _ => zoJ1_charAt_3b067, List.forall_mem_cons.mpr ⟨fun _ => zoJ3_checkIndex_8e157, fun _ h => absurd h List.not_mem_nil⟩⟩⟩⟩
set_option maxRecDepth 20000 in
theorem zmM15 : ∀ q ∈ zmthT15, q.2.1 < 5 → zMok q.2.2.2.1 := List.forall_mem_cons.mpr ⟨fun _ => zoJ0_checkIndex_df160, fun _ h => absurd h List.not_mem_nil⟩
set_option maxRecDepth 20000 in
theorem zmM16 : ∀ q ∈ zmthT16, q.2.1 < 5 → zMok q.2.2.2.1 := fun _ h => absurd h List.not_mem_nil
set_option maxRecDepth 20000 in
theorem zmM17 : ∀ q ∈ zmthT17, q.2.1 < 5 → zMok q.2.2.2.1 := fun _ h => absurd h List.not_mem_nil
set_option maxRecDepth 20000 in
theorem zmM18 : ∀ q ∈ zmthT18, q.2.1 < 5 → zMok q.2.2.2.1 := fun _ h => absurd h List.not_mem_nil
theorem zmM : ∀ o, o < 19 → ∀ q ∈ zmthTT.getD o [], q.2.1 < 5 → zMok q.2.2.2.1
  | 0, _ => zmM0
  | 1, _ => zmM1
  | 2, _ => zmM2
  | 3, _ => zmM3
  | 4, _ => zmM4
  | 5, _ => zmM5
  | 6, _ => zmM6
  | 7, _ => zmM7
  | 8, _ => zmM8
  | 9, _ => zmM9
  | 10, _ => zmM10
  | 11, _ => zmM11
  | 12, _ => zmM12
  | 13, _ => zmM13
  | 14, _ => zmM14
  | 15, _ => zmM15
  | 16, _ => zmM16
  | 17, _ => zmM17
  | 18, _ => zmM18
  | _ + 19, h => absurd h (by omega)
set_option maxRecDepth 20000 in
theorem zobjK : Cond.instanceMethod Lib.objectInit ∈ zws ∧ Cond.code Lib.objectInit ⟨#[0xb1]⟩ 1 none ∈ zws := ⟨zws_in (i := 1032) (by decide +kernel) (by decide +kernel), zws_in (i := 1033) (by decide +kernel) (by decide +kernel)⟩
set_option maxRecDepth 20000 in
theorem zmaxK : Cond.static Lib.Math.max.name ∈ zws ∧ Cond.initialized "java/lang/Math" ∈ zws ∧ Cond.code Lib.Math.max.name Lib.Math.max.code 2 (some .int) ∈ zws := ⟨zws_in (i := 4217) (by decide +kernel) (by decide +kernel), zws_in (i := 1014) (by decide +kernel) (by decide +kernel), zws_in (i := 4218) (by decide +kernel) (by decide +kernel)⟩
set_option maxRecDepth 20000 in
theorem zminK : Cond.static Lib.Math.min.name ∈ zws ∧ Cond.initialized "java/lang/Math" ∈ zws ∧ Cond.code Lib.Math.min.name Lib.Math.min.code 2 (some .int) ∈ zws := ⟨zws_in (i := 3039) (by decide +kernel) (by decide +kernel), zws_in (i := 1014) (by decide +kernel) (by decide +kernel), zws_in (i := 3040) (by decide +kernel) (by decide +kernel)⟩
set_option maxRecDepth 20000 in
theorem zabsK : Cond.static Lib.Math.abs.name ∈ zws ∧ Cond.initialized "java/lang/Math" ∈ zws ∧ Cond.code Lib.Math.abs.name Lib.Math.abs.code 1 (some .int) ∈ zws := ⟨zws_in (i := 5093) (by decide +kernel) (by decide +kernel), zws_in (i := 1014) (by decide +kernel) (by decide +kernel), zws_in (i := 5094) (by decide +kernel) (by decide +kernel)⟩
set_option maxRecDepth 20000 in
theorem zcpyK : Cond.native arraycopyName ∈ zws ∧ Cond.static arraycopyName ∈ zws ∧ Cond.initialized "java/lang/System" ∈ zws := ⟨zws_in (i := 5174) (by decide +kernel) (by decide +kernel), zws_in (i := 5173) (by decide +kernel) (by decide +kernel), zws_in (i := 1021) (by decide +kernel) (by decide +kernel)⟩
