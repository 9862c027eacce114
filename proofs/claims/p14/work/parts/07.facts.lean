/-! what the kernel decides of the tables -/
def zpc (p : Nat) : Option Cond := match p / 1000 with
  | 0 => (k2_sels lw_privs)[p % 1000]?
  | 1 => tables_1_1[p % 1000]?
  | 2 => tables_1_2[p % 1000]?
  | 3 => tables_1_3[p % 1000]?
  | 4 => tables_1_4[p % 1000]?
  | 5 => tables_1_5[p % 1000]?
  | 6 => tables_1_6[p % 1000]?
  | 7 => tables_1_7[p % 1000]?
  | _ => tables_1_8[p % 1000]?
theorem zpc_in {p : Nat} {w : Cond} (h : zpc p = some w) : w ∈ lw_tbl := by
  unfold zpc at h
  unfold lw_tbl tables_1
  split at h
  · exact List.mem_append_left _ (List.mem_of_getElem? h)
  · exact List.mem_append_right _ (List.mem_append_left _ (List.mem_of_getElem? h))
  · exact List.mem_append_right _ (List.mem_append_right _ (List.mem_append_left _ (List.mem_of_getElem? h)))
  · exact List.mem_append_right _ (List.mem_append_right _ (List.mem_append_right _ (List.mem_append_left _ (List.mem_of_getElem? h))))
  · exact List.mem_append_right _ (List.mem_append_right _ (List.mem_append_right _ (List.mem_append_right _ (List.mem_append_left _ (List.mem_of_getElem? h)))))
  · exact List.mem_append_right _ (List.mem_append_right _ (List.mem_append_right _ (List.mem_append_right _ (List.mem_append_right _ (List.mem_append_left _ (List.mem_of_getElem? h))))))
  · exact List.mem_append_right _ (List.mem_append_right _ (List.mem_append_right _ (List.mem_append_right _ (List.mem_append_right _ (List.mem_append_right _ (List.mem_append_left _ (List.mem_of_getElem? h)))))))
  · exact List.mem_append_right _ (List.mem_append_right _ (List.mem_append_right _ (List.mem_append_right _ (List.mem_append_right _ (List.mem_append_right _ (List.mem_append_right _ (List.mem_append_left _ (List.mem_of_getElem? h))))))))
  · exact List.mem_append_right _ (List.mem_append_right _ (List.mem_append_right _ (List.mem_append_right _ (List.mem_append_right _ (List.mem_append_right _ (List.mem_append_right _ (List.mem_append_right _ (List.mem_of_getElem? h))))))))
theorem zws_in {i : Nat} {w : Cond} (h1 : zpc i = some w) (h2 : goodWord w = true) : w ∈ zws := List.mem_filter.mpr ⟨zpc_in h1, h2⟩
theorem zws_of {ws : List Cond} (ps : List Nat) (h1 : ps.map (fun i => zpc i) = ws.map some) (h2 : ws.all goodWord = true) : ∀ w ∈ ws, w ∈ zws := by
  intro w hw
  have h3 : some w ∈ ps.map (fun i => zpc i) := by rw [h1]; exact List.mem_map.mpr ⟨w, hw, rfl⟩
  obtain ⟨i, -, hi⟩ := List.mem_map.mp h3
  exact zws_in hi (List.all_eq_true.mp h2 w hw)
theorem zws_good : ∀ w ∈ zws, (w.onTables && w.keeps) = true ∨ ∃ ty, w = .arrayClass ty := fun w hw => good_of_word (List.mem_filter.mp hw).2
theorem zws_tbl : ∀ w ∈ zws, w ∈ lw_tbl := fun w hw => (List.mem_filter.mp hw).1
theorem zlook_mem {α : Type} {l : List (Nat × α)} {i : Nat} {v : α} (h : zlook l i = some v) : (i, v) ∈ l := by
  induction l with
  | nil => cases h
  | cons q t ih =>
    unfold zlook at h
    split at h
    · next e => cases h; subst e; exact List.mem_cons_self
    · exact List.mem_cons_of_mem _ (ih h)
set_option maxRecDepth 20000 in
theorem zcw0 : ∀ w ∈ u_ws RX0 TX0 4, w ∈ zws := zws_of [1123, 1125, 1127, 1129] (by decide +kernel) (by decide +kernel)
set_option maxRecDepth 20000 in
theorem zcw1 : ∀ w ∈ u_ws RX1 TX1 5, w ∈ zws := zws_of [2193, 2195, 2197, 2199, 2201] (by decide +kernel) (by decide +kernel)
set_option maxRecDepth 20000 in
theorem zcw2 : ∀ w ∈ u_ws RX2 TX2 7, w ∈ zws := zws_of [2082, 2084, 2086, 2088, 2090, 2092, 2094] (by decide +kernel) (by decide +kernel)
set_option maxRecDepth 20000 in
theorem zcw3 : ∀ w ∈ u_ws RX3 TX3 4, w ∈ zws := zws_of [2169, 2171, 2173, 2175] (by decide +kernel) (by decide +kernel)
set_option maxRecDepth 20000 in
theorem zcw4 : ∀ w ∈ u_ws RX4 TX4 15, w ∈ zws := zws_of [1218, 1220, 1222, 1224, 1226, 1228, 1230, 1232, 1234, 1236, 1238, 2000, 2002, 2004, 2006] (by decide +kernel) (by decide +kernel)
set_option maxRecDepth 20000 in
theorem zcw5 : ∀ w ∈ u_ws RX5 TX5 13, w ∈ zws := zws_of [2030, 2032, 2034, 2036, 2038, 2040, 2042, 2044, 2046, 2048, 2050, 2052, 2054] (by decide +kernel) (by decide +kernel)
set_option maxRecDepth 20000 in
theorem zcw6 : ∀ w ∈ u_ws RX6 TX6 7, w ∈ zws := zws_of [2142, 2144, 2146, 2148, 2150, 2152, 2154] (by decide +kernel) (by decide +kernel)
set_option maxRecDepth 20000 in
theorem zcw7 : ∀ w ∈ u_ws RX7 TX7 6, w ∈ zws := zws_of [2114, 2116, 2118, 2120, 2122, 2124] (by decide +kernel) (by decide +kernel)
set_option maxRecDepth 20000 in
theorem zcw8 : ∀ w ∈ u_ws RX8 TX8 3, w ∈ zws := zws_of [1144, 1146, 1148] (by decide +kernel) (by decide +kernel)
set_option maxRecDepth 20000 in
theorem zcw9 : ∀ w ∈ u_ws RX9 TX9 4, w ∈ zws := zws_of [1068, 1070, 1072, 1074] (by decide +kernel) (by decide +kernel)
set_option maxRecDepth 20000 in
theorem zcw10 : ∀ w ∈ u_ws RX10 TX10 4, w ∈ zws := zws_of [1096, 1098, 1100, 1102] (by decide +kernel) (by decide +kernel)
set_option maxRecDepth 20000 in
theorem zcw11 : ∀ w ∈ u_ws RX11 TX11 16, w ∈ zws := zws_of [2221, 2223, 2225, 2227, 2229, 2231, 2233, 2235, 2237, 2239, 3001, 3003, 3005, 3007, 3009, 3011] (by decide +kernel) (by decide +kernel)
set_option maxRecDepth 20000 in
theorem zcw12 : ∀ w ∈ u_ws RX12 TX12 39, w ∈ zws := zws_of [6095, 6097, 6099, 6101, 6103, 6105, 6107, 6109, 6111, 6113, 6115, 6117, 6119, 6121, 6123, 6125, 6127, 6129, 6131, 6133, 6135, 6137, 6139, 6141, 6143, 6145, 6147, 6149, 6151, 6153, 6155, 6157, 6159, 6161, 6163, 6165, 6167, 6169, 6171] (by decide +kernel) (by decide +kernel)
theorem zcl_cl {ci : Nat} (h : ci < 13) : vwCl[ci]? = some (zRn ci, zTT ci, (zft ci).length) := by
  match ci, h with
  | 0, _ => exact rfl
  | 1, _ => exact rfl
  | 2, _ => exact rfl
  | 3, _ => exact rfl
  | 4, _ => exact rfl
  | 5, _ => exact rfl
  | 6, _ => exact rfl
  | 7, _ => exact rfl
  | 8, _ => exact rfl
  | 9, _ => exact rfl
  | 10, _ => exact rfl
  | 11, _ => exact rfl
  | 12, _ => exact rfl
theorem zcl_ws {ci : Nat} (h : ci < 13) : ∀ w ∈ u_ws (zRn ci) (zTT ci) (zft ci).length, w ∈ zws := by
  match ci, h with
  | 0, _ => exact zcw0
  | 1, _ => exact zcw1
  | 2, _ => exact zcw2
  | 3, _ => exact zcw3
  | 4, _ => exact zcw4
  | 5, _ => exact zcw5
  | 6, _ => exact zcw6
  | 7, _ => exact zcw7
  | 8, _ => exact zcw8
  | 9, _ => exact zcw9
  | 10, _ => exact zcw10
  | 11, _ => exact zcw11
  | 12, _ => exact zcw12
theorem zcl_ty {ci : Nat} (h : ci < 13) : ∀ k, k < (zft ci).length → parseFieldDescriptor (zTT ci k).2.2.1 = some (zty ci k) := by
  match ci, h with
  | 0, _ => exact tyX0_ok
  | 1, _ => exact tyX1_ok
  | 2, _ => exact tyX2_ok
  | 3, _ => exact tyX3_ok
  | 4, _ => exact tyX4_ok
  | 5, _ => exact tyX5_ok
  | 6, _ => exact tyX6_ok
  | 7, _ => exact tyX7_ok
  | 8, _ => exact tyX8_ok
  | 9, _ => exact tyX9_ok
  | 10, _ => exact tyX10_ok
  | 11, _ => exact tyX11_ok
  | 12, _ => exact tyX12_ok
theorem zcl_nm {ci : Nat} (h : ci < 13) : ∀ a, a < (zft ci).length → ∀ b, b < (zft ci).length → a ≠ b → (zTT ci a).2.1 ≠ (zTT ci b).2.1 := by
  match ci, h with
  | 0, _ => exact nmX0
  | 1, _ => exact nmX1
  | 2, _ => exact nmX2
  | 3, _ => exact nmX3
  | 4, _ => exact nmX4
  | 5, _ => exact nmX5
  | 6, _ => exact nmX6
  | 7, _ => exact nmX7
  | 8, _ => exact nmX8
  | 9, _ => exact nmX9
  | 10, _ => exact nmX10
  | 11, _ => exact nmX11
  | 12, _ => exact nmX12
def zrefT (t : FieldType) : Bool := match t with
  | .object _ => true
  | .array _ => true
  | _ => false
def zftok (ci f : Nat) : Bool := match (zft ci).getD f 9 with
  | 0 => decide (zty ci f = .int)
  | 1 => decide (zty ci f = .boolean)
  | 3 => zrefT (zty ci f)
  | _ => false
theorem zft_ok : (List.range 13).all (fun ci => (List.range (zft ci).length).all (fun f => zftok ci f && decide ((zTT ci f).1 = zRn ci))) = true := by decide +kernel
def zfldC (o : Nat) (q : Nat × Nat × Nat × Nat) : Bool := decide (q.2.1 < 13) && decide (q.2.2.1 < (zft q.2.1).length) && decide (zpc q.2.2.2 = some (Cond.fieldLink (zRn o) q.1 (zRn q.2.1) (zTT q.2.1 q.2.2.1).2.1 (zTT q.2.1 q.2.2.1).2.2.1)) && goodWord (Cond.fieldLink (zRn o) q.1 (zRn q.2.1) (zTT q.2.1 q.2.2.1).2.1 (zTT q.2.1 q.2.2.1).2.2.1)
set_option maxRecDepth 20000 in
theorem zfldK0 : (zfldTT.getD 0 []).all (zfldC 0) = true := by decide +kernel
set_option maxRecDepth 20000 in
theorem zfldK1 : (zfldTT.getD 1 []).all (zfldC 1) = true := by decide +kernel
set_option maxRecDepth 20000 in
theorem zfldK2 : (zfldTT.getD 2 []).all (zfldC 2) = true := by decide +kernel
set_option maxRecDepth 20000 in
theorem zfldK3 : (zfldTT.getD 3 []).all (zfldC 3) = true := by decide +kernel
set_option maxRecDepth 20000 in
theorem zfldK4 : (zfldTT.getD 4 []).all (zfldC 4) = true := by decide +kernel
set_option maxRecDepth 20000 in
theorem zfldK5 : (zfldTT.getD 5 []).all (zfldC 5) = true := by decide +kernel
set_option maxRecDepth 20000 in
theorem zfldK6 : (zfldTT.getD 6 []).all (zfldC 6) = true := by decide +kernel
set_option maxRecDepth 20000 in
theorem zfldK7 : (zfldTT.getD 7 []).all (zfldC 7) = true := by decide +kernel
set_option maxRecDepth 20000 in
theorem zfldK8 : (zfldTT.getD 8 []).all (zfldC 8) = true := by decide +kernel
set_option maxRecDepth 20000 in
theorem zfldK9 : (zfldTT.getD 9 []).all (zfldC 9) = true := by decide +kernel
set_option maxRecDepth 20000 in
theorem zfldK10 : (zfldTT.getD 10 []).all (zfldC 10) = true := by decide +kernel
set_option maxRecDepth 20000 in
theorem zfldK11 : (zfldTT.getD 11 []).all (zfldC 11) = true := by decide +kernel
set_option maxRecDepth 20000 in
theorem zfldK12 : (zfldTT.getD 12 []).all (zfldC 12) = true := by decide +kernel
set_option maxRecDepth 20000 in
theorem zfldK13 : (zfldTT.getD 13 []).all (zfldC 13) = true := by decide +kernel
set_option maxRecDepth 20000 in
theorem zfldK14 : (zfldTT.getD 14 []).all (zfldC 14) = true := by decide +kernel
set_option maxRecDepth 20000 in
theorem zfldK15 : (zfldTT.getD 15 []).all (zfldC 15) = true := by decide +kernel
set_option maxRecDepth 20000 in
theorem zfldK16 : (zfldTT.getD 16 []).all (zfldC 16) = true := by decide +kernel
set_option maxRecDepth 20000 in
theorem zfldK17 : (zfldTT.getD 17 []).all (zfldC 17) = true := by decide +kernel
set_option maxRecDepth 20000 in
theorem zfldK18 : (zfldTT.getD 18 []).all (zfldC 18) = true := by decide +kernel
theorem zfldK : ∀ o, o < 19 → (zfldTT.getD o []).all (zfldC o) = true
  | 0, _ => zfldK0
  | 1, _ => zfldK1
  | 2, _ => zfldK2
  | 3, _ => zfldK3
  | 4, _ => zfldK4
  | 5, _ => zfldK5
  | 6, _ => zfldK6
  | 7, _ => zfldK7
  | 8, _ => zfldK8
  | 9, _ => zfldK9
  | 10, _ => zfldK10
  | 11, _ => zfldK11
  | 12, _ => zfldK12
  | 13, _ => zfldK13
  | 14, _ => zfldK14
  | 15, _ => zfldK15
  | 16, _ => zfldK16
  | 17, _ => zfldK17
  | 18, _ => zfldK18
  | _ + 19, h => absurd h (by omega)
def zcstC (o : Nat) (q : Nat × zV × Nat) : Bool := match q.2.1 with
  | .inl x => decide (zpc q.2.2 = some (Cond.constant (zRn o) q.1 x)) && goodWord (Cond.constant (zRn o) q.1 x)
  | .inr (.inl x) => decide (zpc q.2.2 = some (Cond.constantLong (zRn o) q.1 x)) && goodWord (Cond.constantLong (zRn o) q.1 x)
  | .inr (.inr (some a)) => zsr.any (fun r => decide (r.1 = o) && decide (r.2.1 = q.1) && decide (r.2.2.2.1 = a)) && decide (1000000 ≤ a)
  | _ => false
set_option maxRecDepth 20000 in
theorem zcstK : (List.range 19).all (fun o => (zcstTT.getD o []).all (zcstC o)) = true := by decide +kernel
def zclsC (o : Nat) (q : Nat × Nat × Nat) : Bool := if q.2.1 < 13 then decide (zpc q.2.2 = some (Cond.classLink (zRn o) q.1 (zRn q.2.1))) && goodWord (Cond.classLink (zRn o) q.1 (zRn q.2.1)) else decide (q.2.1 = 99)
set_option maxRecDepth 20000 in
theorem zclsK : (List.range 19).all (fun o => (zclsTT.getD o []).all (zclsC o)) = true := by decide +kernel
def zinsP : List (Nat × Nat) := [(1105, 1005), (2179, 1012), (2059, 1008), (2158, 1011), (1035, 1002), (2010, 1007), (2128, 1010), (2098, 1009), (1132, 1006), (1048, 1003), (1079, 1004), (1027, 1001), (6051, 1013)]
set_option maxRecDepth 20000 in
theorem zinsK : (List.range 13).all (fun ci => decide (zpc (zinsP.getD ci (0, 0)).1 = some (Cond.instantiable (zRn ci) (zft ci).length)) && goodWord (Cond.instantiable (zRn ci) (zft ci).length) && decide (zpc (zinsP.getD ci (0, 0)).2 = some (Cond.initialized (zRn ci))) && goodWord (Cond.initialized (zRn ci))) = true := by decide +kernel
set_option maxRecDepth 20000 in
theorem zarrK : Cond.arrayClass .byte ∈ zws ∧ Cond.arrayClass .int ∈ zws ∧ Cond.arrayClass .long ∈ zws := ⟨zws_in (i := 1077) (by decide +kernel) rfl, zws_in (i := 1078) (by decide +kernel) rfl, zws_in (i := 2057) (by decide +kernel) rfl⟩
def zMok (q : zM) : Prop := Cond.code q.2.2.2.2.1 q.1 q.2.2.1 q.2.2.2.1 ∈ zws ∧ zRn q.2.1 = q.2.2.2.2.1.cls ∧ plainName q.2.2.2.2.1.cls = true ∧ (q.2.2.2.2.1.cls ≠ "java/lang/invoke/MethodHandle" ∧ q.2.2.2.2.1.cls ≠ "java/lang/invoke/VarHandle") ∧ q.2.2.1 ≤ 30 ∧ (q.2.2.2.2.2 = true → q.2.2.2.2.1.name = "<init>") ∧ q.2.2.2.2.1 ≠ yX11_led
def zMb (q : zM) : Bool := decide (zRn q.2.1 = q.2.2.2.2.1.cls) && (plainName q.2.2.2.2.1.cls && (decide (q.2.2.2.2.1.cls ≠ "java/lang/invoke/MethodHandle" ∧ q.2.2.2.2.1.cls ≠ "java/lang/invoke/VarHandle") && (decide (q.2.2.1 ≤ 30) && (decide (q.2.2.2.2.2 = true → q.2.2.2.2.1.name = "<init>") && decide (q.2.2.2.2.1 ≠ yX11_led)))))
theorem zMo {q : zM} (h1 : Cond.code q.2.2.2.2.1 q.1 q.2.2.1 q.2.2.2.1 ∈ zws) (h2 : zMb q = true) : zMok q := by
  unfold zMb at h2
  rw [Bool.and_eq_true, Bool.and_eq_true, Bool.and_eq_true, Bool.and_eq_true, Bool.and_eq_true] at h2
  exact ⟨h1, of_decide_eq_true h2.1, h2.2.1, of_decide_eq_true h2.2.2.1, of_decide_eq_true h2.2.2.2.1, of_decide_eq_true h2.2.2.2.2.1, of_decide_eq_true h2.2.2.2.2.2⟩
def zCk (c : String) : Bool := plainName c && decide (c ≠ "java/lang/invoke/MethodHandle" ∧ c ≠ "java/lang/invoke/VarHandle")
theorem zMc {q : zM} (c : String) (hc : zCk c = true) (h1 : Cond.code q.2.2.2.2.1 q.1 q.2.2.1 q.2.2.2.1 ∈ zws) (e1 : zRn q.2.1 = c) (e2 : q.2.2.2.2.1.cls = c) (h3 : Nat.ble q.2.2.1 30 = true) (h4 : q.2.2.2.2.2 = true → q.2.2.2.2.1.name = "<init>") (h5 : q.2.2.2.2.1 ≠ yX11_led) : zMok q := by
  unfold zCk at hc
  rw [Bool.and_eq_true] at hc
  have hc2 := of_decide_eq_true hc.2
  exact ⟨h1, e1.trans e2.symm, by rw [e2]; exact hc.1, by rw [e2]; exact hc2, Nat.le_of_ble_eq_true h3, h4, h5⟩
theorem zck0 : zCk (zRn 0) = true := by decide +kernel
theorem zcn0 : ¬ zRn 0 = yX11_led.cls := by decide +kernel
theorem zck1 : zCk (zRn 1) = true := by decide +kernel
theorem zcn1 : ¬ zRn 1 = yX11_led.cls := by decide +kernel
theorem zck2 : zCk (zRn 2) = true := by decide +kernel
theorem zcn2 : ¬ zRn 2 = yX11_led.cls := by decide +kernel
theorem zck3 : zCk (zRn 3) = true := by decide +kernel
theorem zcn3 : ¬ zRn 3 = yX11_led.cls := by decide +kernel
theorem zck4 : zCk (zRn 4) = true := by decide +kernel
theorem zcn4 : ¬ zRn 4 = yX11_led.cls := by decide +kernel
theorem zck5 : zCk (zRn 5) = true := by decide +kernel
theorem zcn5 : ¬ zRn 5 = yX11_led.cls := by decide +kernel
theorem zck6 : zCk (zRn 6) = true := by decide +kernel
theorem zcn6 : ¬ zRn 6 = yX11_led.cls := by decide +kernel
theorem zck7 : zCk (zRn 7) = true := by decide +kernel
theorem zcn7 : ¬ zRn 7 = yX11_led.cls := by decide +kernel
theorem zck8 : zCk (zRn 8) = true := by decide +kernel
theorem zcn8 : ¬ zRn 8 = yX11_led.cls := by decide +kernel
theorem zck9 : zCk (zRn 9) = true := by decide +kernel
theorem zcn9 : ¬ zRn 9 = yX11_led.cls := by decide +kernel
theorem zck10 : zCk (zRn 10) = true := by decide +kernel
theorem zcn10 : ¬ zRn 10 = yX11_led.cls := by decide +kernel
theorem zck11 : zCk (zRn 11) = true := by decide +kernel
theorem zck12 : zCk (zRn 12) = true := by decide +kernel
theorem zcn12 : ¬ zRn 12 = yX11_led.cls := by decide +kernel
theorem zck14 : zCk (zRn 14) = true := by decide +kernel
theorem zcn14 : ¬ zRn 14 = yX11_led.cls := by decide +kernel
theorem zck15 : zCk (zRn 15) = true := by decide +kernel
theorem zcn15 : ¬ zRn 15 = yX11_led.cls := by decide +kernel
theorem zck16 : zCk (zRn 16) = true := by decide +kernel
theorem zcn16 : ¬ zRn 16 = yX11_led.cls := by decide +kernel
theorem zck17 : zCk (zRn 17) = true := by decide +kernel
theorem zcn17 : ¬ zRn 17 = yX11_led.cls := by decide +kernel
theorem zck18 : zCk (zRn 18) = true := by decide +kernel
theorem zcn18 : ¬ zRn 18 = yX11_led.cls := by decide +kernel
theorem zoX0_init : zMok mX0_init := zMc (zRn 0) zck0 (zws_in (i := 1108) rfl rfl) rfl rfl rfl (fun _ => rfl) (fun h => zcn0 (congrArg (fun y => y.cls) h))
theorem zoX1_init : zMok mX1_init := zMc (zRn 1) zck1 (zws_in (i := 2182) rfl rfl) rfl rfl rfl (fun _ => rfl) (fun h => zcn1 (congrArg (fun y => y.cls) h))
theorem zoX1_solve : zMok mX1_solve := zMc (zRn 1) zck1 (zws_in (i := 5023) rfl rfl) rfl rfl rfl (fun h => Bool.noConfusion h) (fun h => zcn1 (congrArg (fun y => y.cls) h))
theorem zoX1_worth : zMok mX1_worth := zMc (zRn 1) zck1 (zws_in (i := 5028) rfl rfl) rfl rfl rfl (fun h => Bool.noConfusion h) (fun h => zcn1 (congrArg (fun y => y.cls) h))
theorem zoX1_choose : zMok mX1_choose := zMc (zRn 1) zck1 (zws_in (i := 5034) rfl rfl) rfl rfl rfl (fun h => Bool.noConfusion h) (fun h => zcn1 (congrArg (fun y => y.cls) h))
theorem zoX1_firstBest : zMok mX1_firstBest := zMc (zRn 1) zck1 (zws_in (i := 5038) rfl rfl) rfl rfl rfl (fun h => Bool.noConfusion h) (fun h => zcn1 (congrArg (fun y => y.cls) h))
theorem zoX2_init : zMok mX2_init := zMc (zRn 2) zck2 (zws_in (i := 2062) rfl rfl) rfl rfl rfl (fun _ => rfl) (fun h => zcn2 (congrArg (fun y => y.cls) h))
theorem zoX2_begin : zMok mX2_begin := zMc (zRn 2) zck2 (zws_in (i := 3211) rfl rfl) rfl rfl rfl (fun h => Bool.noConfusion h) (fun h => zcn2 (congrArg (fun y => y.cls) h))
theorem zoX2_copyFrom : zMok mX2_copyFrom := zMc (zRn 2) zck2 (zws_in (i := 5171) rfl rfl) rfl rfl rfl (fun h => Bool.noConfusion h) (fun h => zcn2 (congrArg (fun y => y.cls) h))
theorem zoX2_isClosed : zMok mX2_isClosed := zMc (zRn 2) zck2 (zws_in (i := 4073) rfl rfl) rfl rfl rfl (fun h => Bool.noConfusion h) (fun h => zcn2 (congrArg (fun y => y.cls) h))
theorem zoX2_isSent : zMok mX2_isSent := zMc (zRn 2) zck2 (zws_in (i := 4105) rfl rfl) rfl rfl rfl (fun h => Bool.noConfusion h) (fun h => zcn2 (congrArg (fun y => y.cls) h))
theorem zoX3_init : zMok mX3_init := zMc (zRn 3) zck3 (zws_in (i := 2161) rfl rfl) rfl rfl rfl (fun _ => rfl) (fun h => zcn3 (congrArg (fun y => y.cls) h))
theorem zoX3_fewestToWatch : zMok mX3_fewestToWatch := zMc (zRn 3) zck3 (zws_in (i := 5102) rfl rfl) rfl rfl rfl (fun h => Bool.noConfusion h) (fun h => zcn3 (congrArg (fun y => y.cls) h))
theorem zoX3_waysOutOf : zMok mX3_waysOutOf := zMc (zRn 3) zck3 (zws_in (i := 5106) rfl rfl) rfl rfl rfl (fun h => Bool.noConfusion h) (fun h => zcn3 (congrArg (fun y => y.cls) h))
theorem zoX3_findRound : zMok mX3_findRound := zMc (zRn 3) zck3 (zws_in (i := 5115) rfl rfl) rfl rfl rfl (fun h => Bool.noConfusion h) (fun h => zcn3 (congrArg (fun y => y.cls) h))
theorem zoX3_findShortest : zMok mX3_findShortest := zMc (zRn 3) zck3 (zws_in (i := 5119) rfl rfl) rfl rfl rfl (fun h => Bool.noConfusion h) (fun h => zcn3 (congrArg (fun y => y.cls) h))
theorem zoX3_findRests : zMok mX3_findRests := zMc (zRn 3) zck3 (zws_in (i := 5126) rfl rfl) rfl rfl rfl (fun h => Bool.noConfusion h) (fun h => zcn3 (congrArg (fun y => y.cls) h))
theorem zoX3_daysOver : zMok mX3_daysOver := zMc (zRn 3) zck3 (zws_in (i := 5130) rfl rfl) rfl rfl rfl (fun h => Bool.noConfusion h) (fun h => zcn3 (congrArg (fun y => y.cls) h))
theorem zoX3_nextOf : zMok mX3_nextOf := zMc (zRn 3) zck3 (zws_in (i := 5134) rfl rfl) rfl rfl rfl (fun h => Bool.noConfusion h) (fun h => zcn3 (congrArg (fun y => y.cls) h))
theorem zoX4_init : zMok mX4_init := zMc (zRn 4) zck4 (zws_in (i := 1038) rfl rfl) rfl rfl rfl (fun _ => rfl) (fun h => zcn4 (congrArg (fun y => y.cls) h))
theorem zoX4_clear : zMok mX4_clear := zMc (zRn 4) zck4 (zws_in (i := 3037) rfl rfl) rfl rfl rfl (fun h => Bool.noConfusion h) (fun h => zcn4 (congrArg (fun y => y.cls) h))
theorem zoX4_boxLength : zMok mX4_boxLength := zMc (zRn 4) zck4 (zws_in (i := 4039) rfl rfl) rfl rfl rfl (fun h => Bool.noConfusion h) (fun h => zcn4 (congrArg (fun y => y.cls) h))
theorem zoX4_wayBetween : zMok mX4_wayBetween := zMc (zRn 4) zck4 (zws_in (i := 3170) rfl rfl) rfl rfl rfl (fun h => Bool.noConfusion h) (fun h => zcn4 (congrArg (fun y => y.cls) h))
theorem zoX4_hasSong : zMok mX4_hasSong := zMc (zRn 4) zck4 (zws_in (i := 3158) rfl rfl) rfl rfl rfl (fun h => Bool.noConfusion h) (fun h => zcn4 (congrArg (fun y => y.cls) h))
theorem zoX4_lastSpoutOf : zMok mX4_lastSpoutOf := zMc (zRn 4) zck4 (zws_in (i := 3203) rfl rfl) rfl rfl rfl (fun h => Bool.noConfusion h) (fun h => zcn4 (congrArg (fun y => y.cls) h))
theorem zoX5_init : zMok mX5_init := zMc (zRn 5) zck5 (zws_in (i := 2013) rfl rfl) rfl rfl rfl (fun _ => rfl) (fun h => zcn5 (congrArg (fun y => y.cls) h))
theorem zoX5_readPost : zMok mX5_readPost := zMc (zRn 5) zck5 (zws_in (i := 3033) rfl rfl) rfl rfl rfl (fun h => Bool.noConfusion h) (fun h => zcn5 (congrArg (fun y => y.cls) h))
theorem zoX5_faulty : zMok mX5_faulty := zMc (zRn 5) zck5 (zws_in (i := 3118) rfl rfl) rfl rfl rfl (fun h => Bool.noConfusion h) (fun h => zcn5 (congrArg (fun y => y.cls) h))
theorem zoX5_readLine : zMok mX5_readLine := zMc (zRn 5) zck5 (zws_in (i := 3044) rfl rfl) rfl rfl rfl (fun h => Bool.noConfusion h) (fun h => zcn5 (congrArg (fun y => y.cls) h))
theorem zoX5_readHead : zMok mX5_readHead := zMc (zRn 5) zck5 (zws_in (i := 3122) rfl rfl) rfl rfl rfl (fun h => Bool.noConfusion h) (fun h => zcn5 (congrArg (fun y => y.cls) h))
theorem zoX5_readIsland : zMok mX5_readIsland := zMc (zRn 5) zck5 (zws_in (i := 3138) rfl rfl) rfl rfl rfl (fun h => Bool.noConfusion h) (fun h => zcn5 (congrArg (fun y => y.cls) h))
theorem zoX5_readWay : zMok mX5_readWay := zMc (zRn 5) zck5 (zws_in (i := 3162) rfl rfl) rfl rfl rfl (fun h => Bool.noConfusion h) (fun h => zcn5 (congrArg (fun y => y.cls) h))
theorem zoX5_readWhale : zMok mX5_readWhale := zMc (zRn 5) zck5 (zws_in (i := 3176) rfl rfl) rfl rfl rfl (fun h => Bool.noConfusion h) (fun h => zcn5 (congrArg (fun y => y.cls) h))
theorem zoX5_readBox : zMok mX5_readBox := zMc (zRn 5) zck5 (zws_in (i := 3191) rfl rfl) rfl rfl rfl (fun h => Bool.noConfusion h) (fun h => zcn5 (congrArg (fun y => y.cls) h))
theorem zoX5_readSpout : zMok mX5_readSpout := zMc (zRn 5) zck5 (zws_in (i := 3199) rfl rfl) rfl rfl rfl (fun h => Bool.noConfusion h) (fun h => zcn5 (congrArg (fun y => y.cls) h))
theorem zoX5_word : zMok mX5_word := zMc (zRn 5) zck5 (zws_in (i := 3127) rfl rfl) rfl rfl rfl (fun h => Bool.noConfusion h) (fun h => zcn5 (congrArg (fun y => y.cls) h))
theorem zoX5_whole : zMok mX5_whole := zMc (zRn 5) zck5 (zws_in (i := 3131) rfl rfl) rfl rfl rfl (fun h => Bool.noConfusion h) (fun h => zcn5 (congrArg (fun y => y.cls) h))
theorem zoX5_newName : zMok mX5_newName := zMc (zRn 5) zck5 (zws_in (i := 3142) rfl rfl) rfl rfl rfl (fun h => Bool.noConfusion h) (fun h => zcn5 (congrArg (fun y => y.cls) h))
theorem zoX5_toldName : zMok mX5_toldName := zMc (zRn 5) zck5 (zws_in (i := 3166) rfl rfl) rfl rfl rfl (fun h => Bool.noConfusion h) (fun h => zcn5 (congrArg (fun y => y.cls) h))
theorem zoX5_nameOfToken : zMok mX5_nameOfToken := zMc (zRn 5) zck5 (zws_in (i := 3146) rfl rfl) rfl rfl rfl (fun h => Bool.noConfusion h) (fun h => zcn5 (congrArg (fun y => y.cls) h))
theorem zoX5_letters : zMok mX5_letters := zMc (zRn 5) zck5 (zws_in (i := 3150) rfl rfl) rfl rfl rfl (fun h => Bool.noConfusion h) (fun h => zcn5 (congrArg (fun y => y.cls) h))
theorem zoX5_songOfToken : zMok mX5_songOfToken := zMc (zRn 5) zck5 (zws_in (i := 3154) rfl rfl) rfl rfl rfl (fun h => Bool.noConfusion h) (fun h => zcn5 (congrArg (fun y => y.cls) h))
theorem zoX5_kindOfToken : zMok mX5_kindOfToken := zMc (zRn 5) zck5 (zws_in (i := 3180) rfl rfl) rfl rfl rfl (fun h => Bool.noConfusion h) (fun h => zcn5 (congrArg (fun y => y.cls) h))
theorem zoX5_sortOfLine : zMok mX5_sortOfLine := zMc (zRn 5) zck5 (zws_in (i := 3056) rfl rfl) rfl rfl rfl (fun h => Bool.noConfusion h) (fun h => zcn5 (congrArg (fun y => y.cls) h))
theorem zoX5_isToken : zMok mX5_isToken := zMc (zRn 5) zck5 (zws_in (i := 3061) rfl rfl) rfl rfl rfl (fun h => Bool.noConfusion h) (fun h => zcn5 (congrArg (fun y => y.cls) h))
theorem zoX5_nextToken : zMok mX5_nextToken := zMc (zRn 5) zck5 (zws_in (i := 3048) rfl rfl) rfl rfl rfl (fun h => Bool.noConfusion h) (fun h => zcn5 (congrArg (fun y => y.cls) h))
theorem zoX5_passAll : zMok mX5_passAll := zMc (zRn 5) zck5 (zws_in (i := 3052) rfl rfl) rfl rfl rfl (fun h => Bool.noConfusion h) (fun h => zcn5 (congrArg (fun y => y.cls) h))
theorem zoX6_init : zMok mX6_init := zMc (zRn 6) zck6 (zws_in (i := 2131) rfl rfl) rfl rfl rfl (fun _ => rfl) (fun h => zcn6 (congrArg (fun y => y.cls) h))
theorem zoX6_dayOfLeaving : zMok mX6_dayOfLeaving := zMc (zRn 6) zck6 (zws_in (i := 4097) rfl rfl) rfl rfl rfl (fun h => Bool.noConfusion h) (fun h => zcn6 (congrArg (fun y => y.cls) h))
theorem zoX6_findFirstDays : zMok mX6_findFirstDays := zMc (zRn 6) zck6 (zws_in (i := 4191) rfl rfl) rfl rfl rfl (fun h => Bool.noConfusion h) (fun h => zcn6 (congrArg (fun y => y.cls) h))
theorem zoX6_goes : zMok mX6_goes := zMc (zRn 6) zck6 (zws_in (i := 4200) rfl rfl) rfl rfl rfl (fun h => Bool.noConfusion h) (fun h => zcn6 (congrArg (fun y => y.cls) h))
theorem zoX6_firstDayAt : zMok mX6_firstDayAt := zMc (zRn 6) zck6 (zws_in (i := 4187) rfl rfl) rfl rfl rfl (fun h => Bool.noConfusion h) (fun h => zcn6 (congrArg (fun y => y.cls) h))
theorem zoX6_dayOfBringing : zMok mX6_dayOfBringing := zMc (zRn 6) zck6 (zws_in (i := 4209) rfl rfl) rfl rfl rfl (fun h => Bool.noConfusion h) (fun h => zcn6 (congrArg (fun y => y.cls) h))
theorem zoX6_soonestBringer : zMok mX6_soonestBringer := zMc (zRn 6) zck6 (zws_in (i := 4226) rfl rfl) rfl rfl rfl (fun h => Bool.noConfusion h) (fun h => zcn6 (congrArg (fun y => y.cls) h))
theorem zoX6_surestBringer : zMok mX6_surestBringer := zMc (zRn 6) zck6 (zws_in (i := 4235) rfl rfl) rfl rfl rfl (fun h => Bool.noConfusion h) (fun h => zcn6 (congrArg (fun y => y.cls) h))
theorem zoX6_bringersBy : zMok mX6_bringersBy := zMc (zRn 6) zck6 (zws_in (i := 5003) rfl rfl) rfl rfl rfl (fun h => Bool.noConfusion h) (fun h => zcn6 (congrArg (fun y => y.cls) h))
theorem zoX6_dayOfMeeting : zMok mX6_dayOfMeeting := zMc (zRn 6) zck6 (zws_in (i := 5054) rfl rfl) rfl rfl rfl (fun h => Bool.noConfusion h) (fun h => zcn6 (congrArg (fun y => y.cls) h))
theorem zoX6_fittingWhales : zMok mX6_fittingWhales := zMc (zRn 6) zck6 (zws_in (i := 5063) rfl rfl) rfl rfl rfl (fun h => Bool.noConfusion h) (fun h => zcn6 (congrArg (fun y => y.cls) h))
theorem zoX6_isFitting : zMok mX6_isFitting := zMc (zRn 6) zck6 (zws_in (i := 5067) rfl rfl) rfl rfl rfl (fun h => Bool.noConfusion h) (fun h => zcn6 (congrArg (fun y => y.cls) h))
theorem zoX6_islandsReached : zMok mX6_islandsReached := zMc (zRn 6) zck6 (zws_in (i := 5075) rfl rfl) rfl rfl rfl (fun h => Bool.noConfusion h) (fun h => zcn6 (congrArg (fun y => y.cls) h))
theorem zoX6_bestPier : zMok mX6_bestPier := zMc (zRn 6) zck6 (zws_in (i := 5084) rfl rfl) rfl rfl rfl (fun h => Bool.noConfusion h) (fun h => zcn6 (congrArg (fun y => y.cls) h))
theorem zoX6_whalesReaching : zMok mX6_whalesReaching := zMc (zRn 6) zck6 (zws_in (i := 5090) rfl rfl) rfl rfl rfl (fun h => Bool.noConfusion h) (fun h => zcn6 (congrArg (fun y => y.cls) h))
theorem zoX7_init : zMok mX7_init := zMc (zRn 7) zck7 (zws_in (i := 2101) rfl rfl) rfl rfl rfl (fun _ => rfl) (fun h => zcn7 (congrArg (fun y => y.cls) h))
theorem zoX7_fallIn : zMok mX7_fallIn := zMc (zRn 7) zck7 (zws_in (i := 4019) rfl rfl) rfl rfl rfl (fun h => Bool.noConfusion h) (fun h => zcn7 (congrArg (fun y => y.cls) h))
theorem zoX7_raised : zMok mX7_raised := zMc (zRn 7) zck7 (zws_in (i := 4023) rfl rfl) rfl rfl rfl (fun h => Bool.noConfusion h) (fun h => zcn7 (congrArg (fun y => y.cls) h))
theorem zoX7_songIn : zMok mX7_songIn := zMc (zRn 7) zck7 (zws_in (i := 4015) rfl rfl) rfl rfl rfl (fun h => Bool.noConfusion h) (fun h => zcn7 (congrArg (fun y => y.cls) h))
theorem zoX7_hearerOf : zMok mX7_hearerOf := zMc (zRn 7) zck7 (zws_in (i := 4051) rfl rfl) rfl rfl rfl (fun h => Bool.noConfusion h) (fun h => zcn7 (congrArg (fun y => y.cls) h))
theorem zoX7_apartness : zMok mX7_apartness := zMc (zRn 7) zck7 (zws_in (i := 4117) rfl rfl) rfl rfl rfl (fun h => Bool.noConfusion h) (fun h => zcn7 (congrArg (fun y => y.cls) h))
theorem zoX7_bearable : zMok mX7_bearable := zMc (zRn 7) zck7 (zws_in (i := 4125) rfl rfl) rfl rfl rfl (fun h => Bool.noConfusion h) (fun h => zcn7 (congrArg (fun y => y.cls) h))
theorem zoX7_mixedPairs : zMok mX7_mixedPairs := zMc (zRn 7) zck7 (zws_in (i := 4134) rfl rfl) rfl rfl rfl (fun h => Bool.noConfusion h) (fun h => zcn7 (congrArg (fun y => y.cls) h))
theorem zoX7_findNew : zMok mX7_findNew := zMc (zRn 7) zck7 (zws_in (i := 4146) rfl rfl) rfl rfl rfl (fun h => Bool.noConfusion h) (fun h => zcn7 (congrArg (fun y => y.cls) h))
theorem zoX7_keepSongsOf : zMok mX7_keepSongsOf := zMc (zRn 7) zck7 (zws_in (i := 4150) rfl rfl) rfl rfl rfl (fun h => Bool.noConfusion h) (fun h => zcn7 (congrArg (fun y => y.cls) h))
theorem zoX7_isOfNotes : zMok mX7_isOfNotes := zMc (zRn 7) zck7 (zws_in (i := 4155) rfl rfl) rfl rfl rfl (fun h => Bool.noConfusion h) (fun h => zcn7 (congrArg (fun y => y.cls) h))
theorem zoX7_isFarFromKept : zMok mX7_isFarFromKept := zMc (zRn 7) zck7 (zws_in (i := 4159) rfl rfl) rfl rfl rfl (fun h => Bool.noConfusion h) (fun h => zcn7 (congrArg (fun y => y.cls) h))
theorem zoX7_draw : zMok mX7_draw := zMc (zRn 7) zck7 (zws_in (i := 5155) rfl rfl) rfl rfl rfl (fun h => Bool.noConfusion h) (fun h => zcn7 (congrArg (fun y => y.cls) h))
theorem zoX7_slipped : zMok mX7_slipped := zMc (zRn 7) zck7 (zws_in (i := 5151) rfl rfl) rfl rfl rfl (fun h => Bool.noConfusion h) (fun h => zcn7 (congrArg (fun y => y.cls) h))
theorem zoX8_init : zMok mX8_init := zMc (zRn 8) zck8 (zws_in (i := 1135) rfl rfl) rfl rfl rfl (fun _ => rfl) (fun h => zcn8 (congrArg (fun y => y.cls) h))
theorem zoX9_init : zMok mX9_init := zMc (zRn 9) zck9 (zws_in (i := 1051) rfl rfl) rfl rfl rfl (fun _ => rfl) (fun h => zcn9 (congrArg (fun y => y.cls) h))
theorem zoX10_init : zMok mX10_init := zMc (zRn 10) zck10 (zws_in (i := 1082) rfl rfl) rfl rfl rfl (fun _ => rfl) (fun h => zcn10 (congrArg (fun y => y.cls) h))
theorem zoX11_init : zMok mX11_init := zMc (zRn 11) zck11 (zws_in (i := 1030) rfl rfl) rfl rfl rfl (fun _ => rfl) (fun h => absurd (congrArg (fun y => y.name) h) (by decide +kernel))
theorem zoX11_feed : zMok mX11_feed := zMc (zRn 11) zck11 (zws_in (i := 3017) rfl rfl) rfl rfl rfl (fun h => Bool.noConfusion h) (fun h => absurd (congrArg (fun y => y.name) h) (by decide +kernel))
theorem zoX11_post : zMok mX11_post := zMc (zRn 11) zck11 (zws_in (i := 3025) rfl rfl) rfl rfl rfl (fun h => Bool.noConfusion h) (fun h => absurd (congrArg (fun y => y.name) h) (by decide +kernel))
theorem zoX11_fault : zMok mX11_fault := zMc (zRn 11) zck11 (zws_in (i := 3219) rfl rfl) rfl rfl rfl (fun h => Bool.noConfusion h) (fun h => absurd (congrArg (fun y => y.name) h) (by decide +kernel))
theorem zoX11_where : zMok mX11_where := zMc (zRn 11) zck11 (zws_in (i := 3223) rfl rfl) rfl rfl rfl (fun h => Bool.noConfusion h) (fun h => absurd (congrArg (fun y => y.name) h) (by decide +kernel))
theorem zoX11_whale : zMok mX11_whale := zMc (zRn 11) zck11 (zws_in (i := 3227) rfl rfl) rfl rfl rfl (fun h => Bool.noConfusion h) (fun h => absurd (congrArg (fun y => y.name) h) (by decide +kernel))
theorem zoX11_box : zMok mX11_box := zMc (zRn 11) zck11 (zws_in (i := 3235) rfl rfl) rfl rfl rfl (fun h => Bool.noConfusion h) (fun h => absurd (congrArg (fun y => y.name) h) (by decide +kernel))
theorem zoX11_length : zMok mX11_length := zMc (zRn 11) zck11 (zws_in (i := 4003) rfl rfl) rfl rfl rfl (fun h => Bool.noConfusion h) (fun h => absurd (congrArg (fun y => y.name) h) (by decide +kernel))
theorem zoX11_note : zMok mX11_note := zMc (zRn 11) zck11 (zws_in (i := 4011) rfl rfl) rfl rfl rfl (fun h => Bool.noConfusion h) (fun h => absurd (congrArg (fun y => y.name) h) (by decide +kernel))
theorem zoX11_sung : zMok mX11_sung := zMc (zRn 11) zck11 (zws_in (i := 4031) rfl rfl) rfl rfl rfl (fun h => Bool.noConfusion h) (fun h => absurd (congrArg (fun y => y.name) h) (by decide +kernel))
theorem zoX11_heard : zMok mX11_heard := zMc (zRn 11) zck11 (zws_in (i := 4043) rfl rfl) rfl rfl rfl (fun h => Bool.noConfusion h) (fun h => absurd (congrArg (fun y => y.name) h) (by decide +kernel))
theorem zoX11_way : zMok mX11_way := zMc (zRn 11) zck11 (zws_in (i := 4064) rfl rfl) rfl rfl rfl (fun h => Bool.noConfusion h) (fun h => absurd (congrArg (fun y => y.name) h) (by decide +kernel))
theorem zoX11_season : zMok mX11_season := zMc (zRn 11) zck11 (zws_in (i := 4077) rfl rfl) rfl rfl rfl (fun h => Bool.noConfusion h) (fun h => absurd (congrArg (fun y => y.name) h) (by decide +kernel))
theorem zoX11_sets : zMok mX11_sets := zMc (zRn 11) zck11 (zws_in (i := 4089) rfl rfl) rfl rfl rfl (fun h => Bool.noConfusion h) (fun h => absurd (congrArg (fun y => y.name) h) (by decide +kernel))
theorem zoX11_sent : zMok mX11_sent := zMc (zRn 11) zck11 (zws_in (i := 4101) rfl rfl) rfl rfl rfl (fun h => Bool.noConfusion h) (fun h => absurd (congrArg (fun y => y.name) h) (by decide +kernel))
theorem zoX11_apart : zMok mX11_apart := zMc (zRn 11) zck11 (zws_in (i := 4113) rfl rfl) rfl rfl rfl (fun h => Bool.noConfusion h) (fun h => absurd (congrArg (fun y => y.name) h) (by decide +kernel))
theorem zoX11_bear : zMok mX11_bear := zMc (zRn 11) zck11 (zws_in (i := 4121) rfl rfl) rfl rfl rfl (fun h => Bool.noConfusion h) (fun h => absurd (congrArg (fun y => y.name) h) (by decide +kernel))
theorem zoX11_mixed : zMok mX11_mixed := zMc (zRn 11) zck11 (zws_in (i := 4130) rfl rfl) rfl rfl rfl (fun h => Bool.noConfusion h) (fun h => absurd (congrArg (fun y => y.name) h) (by decide +kernel))
theorem zoX11_fresh : zMok mX11_fresh := zMc (zRn 11) zck11 (zws_in (i := 4138) rfl rfl) rfl rfl rfl (fun h => Bool.noConfusion h) (fun h => absurd (congrArg (fun y => y.name) h) (by decide +kernel))
theorem zoX11_byTurns : zMok mX11_byTurns := zMc (zRn 11) zck11 (zws_in (i := 4163) rfl rfl) rfl rfl rfl (fun h => Bool.noConfusion h) (fun h => absurd (congrArg (fun y => y.name) h) (by decide +kernel))
theorem zoX11_near : zMok mX11_near := zMc (zRn 11) zck11 (zws_in (i := 4167) rfl rfl) rfl rfl rfl (fun h => Bool.noConfusion h) (fun h => absurd (congrArg (fun y => y.name) h) (by decide +kernel))
theorem zoX11_asNear : zMok mX11_asNear := zMc (zRn 11) zck11 (zws_in (i := 4171) rfl rfl) rfl rfl rfl (fun h => Bool.noConfusion h) (fun h => absurd (congrArg (fun y => y.name) h) (by decide +kernel))
theorem zoX11_heardIn : zMok mX11_heardIn := zMc (zRn 11) zck11 (zws_in (i := 4175) rfl rfl) rfl rfl rfl (fun h => Bool.noConfusion h) (fun h => absurd (congrArg (fun y => y.name) h) (by decide +kernel))
theorem zoX11_strange : zMok mX11_strange := zMc (zRn 11) zck11 (zws_in (i := 4179) rfl rfl) rfl rfl rfl (fun h => Bool.noConfusion h) (fun h => absurd (congrArg (fun y => y.name) h) (by decide +kernel))
theorem zoX11_arrival : zMok mX11_arrival := zMc (zRn 11) zck11 (zws_in (i := 4183) rfl rfl) rfl rfl rfl (fun h => Bool.noConfusion h) (fun h => absurd (congrArg (fun y => y.name) h) (by decide +kernel))
theorem zoX11_brings : zMok mX11_brings := zMc (zRn 11) zck11 (zws_in (i := 4205) rfl rfl) rfl rfl rfl (fun h => Bool.noConfusion h) (fun h => absurd (congrArg (fun y => y.name) h) (by decide +kernel))
theorem zoX11_soonest : zMok mX11_soonest := zMc (zRn 11) zck11 (zws_in (i := 4222) rfl rfl) rfl rfl rfl (fun h => Bool.noConfusion h) (fun h => absurd (congrArg (fun y => y.name) h) (by decide +kernel))
theorem zoX11_surest : zMok mX11_surest := zMc (zRn 11) zck11 (zws_in (i := 4231) rfl rfl) rfl rfl rfl (fun h => Bool.noConfusion h) (fun h => absurd (congrArg (fun y => y.name) h) (by decide +kernel))
theorem zoX11_by : zMok mX11_by := zMc (zRn 11) zck11 (zws_in (i := 4239) rfl rfl) rfl rfl rfl (fun h => Bool.noConfusion h) (fun h => absurd (congrArg (fun y => y.name) h) (by decide +kernel))
theorem zoX11_registered : zMok mX11_registered := zMc (zRn 11) zck11 (zws_in (i := 5007) rfl rfl) rfl rfl rfl (fun h => Bool.noConfusion h) (fun h => absurd (congrArg (fun y => y.name) h) (by decide +kernel))
theorem zoX11_match : zMok mX11_match := zMc (zRn 11) zck11 (zws_in (i := 5015) rfl rfl) rfl rfl rfl (fun h => Bool.noConfusion h) (fun h => absurd (congrArg (fun y => y.name) h) (by decide +kernel))
theorem zoX11_matchDays : zMok mX11_matchDays := zMc (zRn 11) zck11 (zws_in (i := 5042) rfl rfl) rfl rfl rfl (fun h => Bool.noConfusion h) (fun h => absurd (congrArg (fun y => y.name) h) (by decide +kernel))
theorem zoX11_matchOf : zMok mX11_matchOf := zMc (zRn 11) zck11 (zws_in (i := 5046) rfl rfl) rfl rfl rfl (fun h => Bool.noConfusion h) (fun h => absurd (congrArg (fun y => y.name) h) (by decide +kernel))
theorem zoX11_meet : zMok mX11_meet := zMc (zRn 11) zck11 (zws_in (i := 5050) rfl rfl) rfl rfl rfl (fun h => Bool.noConfusion h) (fun h => absurd (congrArg (fun y => y.name) h) (by decide +kernel))
theorem zoX11_fits : zMok mX11_fits := zMc (zRn 11) zck11 (zws_in (i := 5059) rfl rfl) rfl rfl rfl (fun h => Bool.noConfusion h) (fun h => absurd (congrArg (fun y => y.name) h) (by decide +kernel))
theorem zoX11_reach : zMok mX11_reach := zMc (zRn 11) zck11 (zws_in (i := 5071) rfl rfl) rfl rfl rfl (fun h => Bool.noConfusion h) (fun h => absurd (congrArg (fun y => y.name) h) (by decide +kernel))
theorem zoX11_pier : zMok mX11_pier := zMc (zRn 11) zck11 (zws_in (i := 5080) rfl rfl) rfl rfl rfl (fun h => Bool.noConfusion h) (fun h => absurd (congrArg (fun y => y.name) h) (by decide +kernel))
theorem zoX11_watch : zMok mX11_watch := zMc (zRn 11) zck11 (zws_in (i := 5098) rfl rfl) rfl rfl rfl (fun h => Bool.noConfusion h) (fun h => absurd (congrArg (fun y => y.name) h) (by decide +kernel))
theorem zoX11_round : zMok mX11_round := zMc (zRn 11) zck11 (zws_in (i := 5111) rfl rfl) rfl rfl rfl (fun h => Bool.noConfusion h) (fun h => absurd (congrArg (fun y => y.name) h) (by decide +kernel))
theorem zoX11_roundAt : zMok mX11_roundAt := zMc (zRn 11) zck11 (zws_in (i := 5138) rfl rfl) rfl rfl rfl (fun h => Bool.noConfusion h) (fun h => absurd (congrArg (fun y => y.name) h) (by decide +kernel))
theorem zoX11_decade : zMok mX11_decade := zMc (zRn 11) zck11 (zws_in (i := 5142) rfl rfl) rfl rfl rfl (fun h => Bool.noConfusion h) (fun h => absurd (congrArg (fun y => y.name) h) (by decide +kernel))
theorem zoX11_send : zMok mX11_send := zMc (zRn 11) zck11 (zws_in (i := 5163) rfl rfl) rfl rfl rfl (fun h => Bool.noConfusion h) (fun h => absurd (congrArg (fun y => y.name) h) (by decide +kernel))
theorem zoX11_tune : zMok mX11_tune := zMc (zRn 11) zck11 (zws_in (i := 5179) rfl rfl) rfl rfl rfl (fun h => Bool.noConfusion h) (fun h => absurd (congrArg (fun y => y.name) h) (by decide +kernel))
theorem zoX11_years : zMok mX11_years := zMc (zRn 11) zck11 (zws_in (i := 5192) rfl rfl) rfl rfl rfl (fun h => Bool.noConfusion h) (fun h => absurd (congrArg (fun y => y.name) h) (by decide +kernel))
theorem zoX11_close : zMok mX11_close := zMc (zRn 11) zck11 (zws_in (i := 5196) rfl rfl) rfl rfl rfl (fun h => Bool.noConfusion h) (fun h => absurd (congrArg (fun y => y.name) h) (by decide +kernel))
theorem zoX11_undo : zMok mX11_undo := zMc (zRn 11) zck11 (zws_in (i := 5200) rfl rfl) rfl rfl rfl (fun h => Bool.noConfusion h) (fun h => absurd (congrArg (fun y => y.name) h) (by decide +kernel))
theorem zoX11_image : zMok mX11_image := zMc (zRn 11) zck11 (zws_in (i := 5204) rfl rfl) rfl rfl rfl (fun h => Bool.noConfusion h) (fun h => absurd (congrArg (fun y => y.name) h) (by decide +kernel))
theorem zoX11_back : zMok mX11_back := zMc (zRn 11) zck11 (zws_in (i := 5208) rfl rfl) rfl rfl rfl (fun h => Bool.noConfusion h) (fun h => absurd (congrArg (fun y => y.name) h) (by decide +kernel))
theorem zoX11_size : zMok mX11_size := zMc (zRn 11) zck11 (zws_in (i := 5212) rfl rfl) rfl rfl rfl (fun h => Bool.noConfusion h) (fun h => absurd (congrArg (fun y => y.name) h) (by decide +kernel))
theorem zoX11_trouble : zMok mX11_trouble := zMc (zRn 11) zck11 (zws_in (i := 5216) rfl rfl) rfl rfl rfl (fun h => Bool.noConfusion h) (fun h => absurd (congrArg (fun y => y.name) h) (by decide +kernel))
theorem zoX11_granted : zMok mX11_granted := zMc (zRn 11) zck11 (zws_in (i := 3215) rfl rfl) rfl rfl rfl (fun h => Bool.noConfusion h) (fun h => absurd (congrArg (fun y => y.name) h) (by decide +kernel))
theorem zoX11_refused : zMok mX11_refused := zMc (zRn 11) zck11 (zws_in (i := 3029) rfl rfl) rfl rfl rfl (fun h => Bool.noConfusion h) (fun h => absurd (congrArg (fun y => y.name) h) (by decide +kernel))
theorem zoX11_hasGranted : zMok mX11_hasGranted := zMc (zRn 11) zck11 (zws_in (i := 5188) rfl rfl) rfl rfl rfl (fun h => Bool.noConfusion h) (fun h => absurd (congrArg (fun y => y.name) h) (by decide +kernel))
theorem zoX11_hasRefused : zMok mX11_hasRefused := zMc (zRn 11) zck11 (zws_in (i := 5183) rfl rfl) rfl rfl rfl (fun h => Bool.noConfusion h) (fun h => absurd (congrArg (fun y => y.name) h) (by decide +kernel))
theorem zoX11_hasPost : zMok mX11_hasPost := zMc (zRn 11) zck11 (zws_in (i := 4081) rfl rfl) rfl rfl rfl (fun h => Bool.noConfusion h) (fun h => absurd (congrArg (fun y => y.name) h) (by decide +kernel))
theorem zoX11_isIsland : zMok mX11_isIsland := zMc (zRn 11) zck11 (zws_in (i := 4007) rfl rfl) rfl rfl rfl (fun h => Bool.noConfusion h) (fun h => absurd (congrArg (fun y => y.name) h) (by decide +kernel))
theorem zoX11_areTwoIslands : zMok mX11_areTwoIslands := zMc (zRn 11) zck11 (zws_in (i := 4068) rfl rfl) rfl rfl rfl (fun h => Bool.noConfusion h) (fun h => absurd (congrArg (fun y => y.name) h) (by decide +kernel))
theorem zoX11_isWay : zMok mX11_isWay := zMc (zRn 11) zck11 (zws_in (i := 4093) rfl rfl) rfl rfl rfl (fun h => Bool.noConfusion h) (fun h => absurd (congrArg (fun y => y.name) h) (by decide +kernel))
theorem zoX11_isWhale : zMok mX11_isWhale := zMc (zRn 11) zck11 (zws_in (i := 3231) rfl rfl) rfl rfl rfl (fun h => Bool.noConfusion h) (fun h => absurd (congrArg (fun y => y.name) h) (by decide +kernel))
theorem zoX11_isBox : zMok mX11_isBox := zMc (zRn 11) zck11 (zws_in (i := 3239) rfl rfl) rfl rfl rfl (fun h => Bool.noConfusion h) (fun h => absurd (congrArg (fun y => y.name) h) (by decide +kernel))
theorem zoX11_isNoteOfBox : zMok mX11_isNoteOfBox := zMc (zRn 11) zck11 (zws_in (i := 4035) rfl rfl) rfl rfl rfl (fun h => Bool.noConfusion h) (fun h => absurd (congrArg (fun y => y.name) h) (by decide +kernel))
theorem zoX11_isWithin : zMok mX11_isWithin := zMc (zRn 11) zck11 (zws_in (i := 4085) rfl rfl) rfl rfl rfl (fun h => Bool.noConfusion h) (fun h => absurd (congrArg (fun y => y.name) h) (by decide +kernel))
theorem zoX11_refusalOfNewSong : zMok mX11_refusalOfNewSong := zMc (zRn 11) zck11 (zws_in (i := 4142) rfl rfl) rfl rfl rfl (fun h => Bool.noConfusion h) (fun h => absurd (congrArg (fun y => y.name) h) (by decide +kernel))
theorem zoX11_appendBytes : zMok mX11_appendBytes := zMc (zRn 11) zck11 (zws_in (i := 3021) rfl rfl) rfl rfl rfl (fun h => Bool.noConfusion h) (fun h => absurd (congrArg (fun y => y.name) h) (by decide +kernel))
theorem zoX11_takeDraft : zMok mX11_takeDraft := zMc (zRn 11) zck11 (zws_in (i := 3207) rfl rfl) rfl rfl rfl (fun h => Bool.noConfusion h) (fun h => absurd (congrArg (fun y => y.name) h) (by decide +kernel))
theorem zoX11_keepForUndo : zMok mX11_keepForUndo := zMc (zRn 11) zck11 (zws_in (i := 5167) rfl rfl) rfl rfl rfl (fun h => Bool.noConfusion h) (fun h => absurd (congrArg (fun y => y.name) h) (by decide +kernel))
theorem zoX11_hearerIn : zMok mX11_hearerIn := zMc (zRn 11) zck11 (zws_in (i := 4047) rfl rfl) rfl rfl rfl (fun h => Bool.noConfusion h) (fun h => absurd (congrArg (fun y => y.name) h) (by decide +kernel))
theorem zoX11_sentPart : zMok mX11_sentPart := zMc (zRn 11) zck11 (zws_in (i := 4109) rfl rfl) rfl rfl rfl (fun h => Bool.noConfusion h) (fun h => absurd (congrArg (fun y => y.name) h) (by decide +kernel))
theorem zoX11_heardWithSlips : zMok mX11_heardWithSlips := zMc (zRn 11) zck11 (zws_in (i := 5147) rfl rfl) rfl rfl rfl (fun h => Bool.noConfusion h) (fun h => absurd (congrArg (fun y => y.name) h) (by decide +kernel))
theorem zoX11_solveMatch : zMok mX11_solveMatch := zMc (zRn 11) zck11 (zws_in (i := 5019) rfl rfl) rfl rfl rfl (fun h => Bool.noConfusion h) (fun h => absurd (congrArg (fun y => y.name) h) (by decide +kernel))
theorem zoX11_commonDivisor : zMok mX11_commonDivisor := zMc (zRn 11) zck11 (zws_in (i := 5010) rfl rfl) rfl rfl rfl (fun h => Bool.noConfusion h) (fun h => absurd (congrArg (fun y => y.name) h) (by decide +kernel))
theorem zoX11_noteAt : zMok mX11_noteAt := zMc (zRn 11) zck11 (zws_in (i := 4026) rfl rfl) rfl rfl rfl (fun h => Bool.noConfusion h) (fun h => absurd (congrArg (fun y => y.name) h) (by decide +kernel))
theorem zoX11_withNote : zMok mX11_withNote := zMc (zRn 11) zck11 (zws_in (i := 5159) rfl rfl) rfl rfl rfl (fun h => Bool.noConfusion h) (fun h => absurd (congrArg (fun y => y.name) h) (by decide +kernel))
theorem zoX11_unlikeNotes : zMok mX11_unlikeNotes := zMc (zRn 11) zck11 (zws_in (i := 4054) rfl rfl) rfl rfl rfl (fun h => Bool.noConfusion h) (fun h => absurd (congrArg (fun y => y.name) h) (by decide +kernel))
theorem zoX12_init : zMok mX12_init := zMc (zRn 12) zck12 (zws_in (i := 6054) rfl rfl) rfl rfl rfl (fun _ => rfl) (fun h => zcn12 (congrArg (fun y => y.cls) h))
theorem zoX12_good : zMok mX12_good := zMc (zRn 12) zck12 (zws_in (i := 6185) rfl rfl) rfl rfl rfl (fun h => Bool.noConfusion h) (fun h => zcn12 (congrArg (fun y => y.cls) h))
theorem zoX12_no : zMok mX12_no := zMc (zRn 12) zck12 (zws_in (i := 6192) rfl rfl) rfl rfl rfl (fun h => Bool.noConfusion h) (fun h => zcn12 (congrArg (fun y => y.cls) h))
theorem zoX12_isNot : zMok mX12_isNot := zMc (zRn 12) zck12 (zws_in (i := 8173) rfl rfl) rfl rfl rfl (fun h => Bool.noConfusion h) (fun h => zcn12 (congrArg (fun y => y.cls) h))
theorem zoX12_in : zMok mX12_in := zMc (zRn 12) zck12 (zws_in (i := 6188) rfl rfl) rfl rfl rfl (fun h => Bool.noConfusion h) (fun h => zcn12 (congrArg (fun y => y.cls) h))
theorem zoX12_hasBit : zMok mX12_hasBit := zMc (zRn 12) zck12 (zws_in (i := 7172) rfl rfl) rfl rfl rfl (fun h => Bool.noConfusion h) (fun h => zcn12 (congrArg (fun y => y.cls) h))
theorem zoX12_ones : zMok mX12_ones := zMc (zRn 12) zck12 (zws_in (i := 8127) rfl rfl) rfl rfl rfl (fun h => Bool.noConfusion h) (fun h => zcn12 (congrArg (fun y => y.cls) h))
theorem zoX12_copy : zMok mX12_copy := zMc (zRn 12) zck12 (zws_in (i := 7081) rfl rfl) rfl rfl rfl (fun h => Bool.noConfusion h) (fun h => zcn12 (congrArg (fun y => y.cls) h))
theorem zoX12_later : zMok mX12_later := zMc (zRn 12) zck12 (zws_in (i := 8052) rfl rfl) rfl rfl rfl (fun h => Bool.noConfusion h) (fun h => zcn12 (congrArg (fun y => y.cls) h))
theorem zoX12_feed : zMok mX12_feed := zMc (zRn 12) zck12 (zws_in (i := 6177) rfl rfl) rfl rfl rfl (fun h => Bool.noConfusion h) (fun h => zcn12 (congrArg (fun y => y.cls) h))
theorem zoX12_look : zMok mX12_look := zMc (zRn 12) zck12 (zws_in (i := 6200) rfl rfl) rfl rfl rfl (fun h => Bool.noConfusion h) (fun h => zcn12 (congrArg (fun y => y.cls) h))
theorem zoX12_isSmall : zMok mX12_isSmall := zMc (zRn 12) zck12 (zws_in (i := 6203) rfl rfl) rfl rfl rfl (fun h => Bool.noConfusion h) (fun h => zcn12 (congrArg (fun y => y.cls) h))
theorem zoX12_isDigit : zMok mX12_isDigit := zMc (zRn 12) zck12 (zws_in (i := 6206) rfl rfl) rfl rfl rfl (fun h => Bool.noConfusion h) (fun h => zcn12 (congrArg (fun y => y.cls) h))
theorem zoX12_next : zMok mX12_next := zMc (zRn 12) zck12 (zws_in (i := 6196) rfl rfl) rfl rfl rfl (fun h => Bool.noConfusion h) (fun h => zcn12 (congrArg (fun y => y.cls) h))
theorem zoX12_wrong : zMok mX12_wrong := zMc (zRn 12) zck12 (zws_in (i := 6225) rfl rfl) rfl rfl rfl (fun h => Bool.noConfusion h) (fun h => zcn12 (congrArg (fun y => y.cls) h))
theorem zoX12_isWord : zMok mX12_isWord := zMc (zRn 12) zck12 (zws_in (i := 6215) rfl rfl) rfl rfl rfl (fun h => Bool.noConfusion h) (fun h => zcn12 (congrArg (fun y => y.cls) h))
theorem zoX12_takesWord : zMok mX12_takesWord := zMc (zRn 12) zck12 (zws_in (i := 6238) rfl rfl) rfl rfl rfl (fun h => Bool.noConfusion h) (fun h => zcn12 (congrArg (fun y => y.cls) h))
theorem zoX12_must : zMok mX12_must := zMc (zRn 12) zck12 (zws_in (i := 6234) rfl rfl) rfl rfl rfl (fun h => Bool.noConfusion h) (fun h => zcn12 (congrArg (fun y => y.cls) h))
theorem zoX12_mustName : zMok mX12_mustName := zMc (zRn 12) zck12 (zws_in (i := 7022) rfl rfl) rfl rfl rfl (fun h => Bool.noConfusion h) (fun h => zcn12 (congrArg (fun y => y.cls) h))
theorem zoX12_find : zMok mX12_find := zMc (zRn 12) zck12 (zws_in (i := 7030) rfl rfl) rfl rfl rfl (fun h => Bool.noConfusion h) (fun h => zcn12 (congrArg (fun y => y.cls) h))
theorem zoX12_newName : zMok mX12_newName := zMc (zRn 12) zck12 (zws_in (i := 7018) rfl rfl) rfl rfl rfl (fun h => Bool.noConfusion h) (fun h => zcn12 (congrArg (fun y => y.cls) h))
theorem zoX12_named : zMok mX12_named := zMc (zRn 12) zck12 (zws_in (i := 7046) rfl rfl) rfl rfl rfl (fun h => Bool.noConfusion h) (fun h => zcn12 (congrArg (fun y => y.cls) h))
theorem zoX12_islandPassed : zMok mX12_islandPassed := zMc (zRn 12) zck12 (zws_in (i := 7042) rfl rfl) rfl rfl rfl (fun h => Bool.noConfusion h) (fun h => zcn12 (congrArg (fun y => y.cls) h))
theorem zoX12_islandBehind : zMok mX12_islandBehind := zMc (zRn 12) zck12 (zws_in (i := 7064) rfl rfl) rfl rfl rfl (fun h => Bool.noConfusion h) (fun h => zcn12 (congrArg (fun y => y.cls) h))
theorem zoX12_number : zMok mX12_number := zMc (zRn 12) zck12 (zws_in (i := 7002) rfl rfl) rfl rfl rfl (fun h => Bool.noConfusion h) (fun h => zcn12 (congrArg (fun y => y.cls) h))
theorem zoX12_after : zMok mX12_after := zMc (zRn 12) zck12 (zws_in (i := 6230) rfl rfl) rfl rfl rfl (fun h => Bool.noConfusion h) (fun h => zcn12 (congrArg (fun y => y.cls) h))
theorem zoX12_post : zMok mX12_post := zMc (zRn 12) zck12 (zws_in (i := 6181) rfl rfl) rfl rfl rfl (fun h => Bool.noConfusion h) (fun h => zcn12 (congrArg (fun y => y.cls) h))
theorem zoX12_begins : zMok mX12_begins := zMc (zRn 12) zck12 (zws_in (i := 7010) rfl rfl) rfl rfl rfl (fun h => Bool.noConfusion h) (fun h => zcn12 (congrArg (fun y => y.cls) h))
theorem zoX12_readLine : zMok mX12_readLine := zMc (zRn 12) zck12 (zws_in (i := 6210) rfl rfl) rfl rfl rfl (fun h => Bool.noConfusion h) (fun h => zcn12 (congrArg (fun y => y.cls) h))
theorem zoX12_postLine : zMok mX12_postLine := zMc (zRn 12) zck12 (zws_in (i := 6221) rfl rfl) rfl rfl rfl (fun h => Bool.noConfusion h) (fun h => zcn12 (congrArg (fun y => y.cls) h))
theorem zoX12_islandLine : zMok mX12_islandLine := zMc (zRn 12) zck12 (zws_in (i := 7014) rfl rfl) rfl rfl rfl (fun h => Bool.noConfusion h) (fun h => zcn12 (congrArg (fun y => y.cls) h))
theorem zoX12_isSong : zMok mX12_isSong := zMc (zRn 12) zck12 (zws_in (i := 7034) rfl rfl) rfl rfl rfl (fun h => Bool.noConfusion h) (fun h => zcn12 (congrArg (fun y => y.cls) h))
theorem zoX12_wayLine : zMok mX12_wayLine := zMc (zRn 12) zck12 (zws_in (i := 7038) rfl rfl) rfl rfl rfl (fun h => Bool.noConfusion h) (fun h => zcn12 (congrArg (fun y => y.cls) h))
theorem zoX12_joins : zMok mX12_joins := zMc (zRn 12) zck12 (zws_in (i := 7049) rfl rfl) rfl rfl rfl (fun h => Bool.noConfusion h) (fun h => zcn12 (congrArg (fun y => y.cls) h))
theorem zoX12_whaleLine : zMok mX12_whaleLine := zMc (zRn 12) zck12 (zws_in (i := 7055) rfl rfl) rfl rfl rfl (fun h => Bool.noConfusion h) (fun h => zcn12 (congrArg (fun y => y.cls) h))
theorem zoX12_boxLine : zMok mX12_boxLine := zMc (zRn 12) zck12 (zws_in (i := 7070) rfl rfl) rfl rfl rfl (fun h => Bool.noConfusion h) (fun h => zcn12 (congrArg (fun y => y.cls) h))
theorem zoX12_spoutLine : zMok mX12_spoutLine := zMc (zRn 12) zck12 (zws_in (i := 7078) rfl rfl) rfl rfl rfl (fun h => Bool.noConfusion h) (fun h => zcn12 (congrArg (fun y => y.cls) h))
theorem zoX12_fault : zMok mX12_fault := zMc (zRn 12) zck12 (zws_in (i := 7085) rfl rfl) rfl rfl rfl (fun h => Bool.noConfusion h) (fun h => zcn12 (congrArg (fun y => y.cls) h))
theorem zoX12_where : zMok mX12_where := zMc (zRn 12) zck12 (zws_in (i := 7089) rfl rfl) rfl rfl rfl (fun h => Bool.noConfusion h) (fun h => zcn12 (congrArg (fun y => y.cls) h))
theorem zoX12_isIsland : zMok mX12_isIsland := zMc (zRn 12) zck12 (zws_in (i := 7121) rfl rfl) rfl rfl rfl (fun h => Bool.noConfusion h) (fun h => zcn12 (congrArg (fun y => y.cls) h))
theorem zoX12_isWhale : zMok mX12_isWhale := zMc (zRn 12) zck12 (zws_in (i := 7097) rfl rfl) rfl rfl rfl (fun h => Bool.noConfusion h) (fun h => zcn12 (congrArg (fun y => y.cls) h))
theorem zoX12_isBox : zMok mX12_isBox := zMc (zRn 12) zck12 (zws_in (i := 7109) rfl rfl) rfl rfl rfl (fun h => Bool.noConfusion h) (fun h => zcn12 (congrArg (fun y => y.cls) h))
theorem zoX12_ofWhale : zMok mX12_ofWhale := zMc (zRn 12) zck12 (zws_in (i := 7101) rfl rfl) rfl rfl rfl (fun h => Bool.noConfusion h) (fun h => zcn12 (congrArg (fun y => y.cls) h))
theorem zoX12_ofBox : zMok mX12_ofBox := zMc (zRn 12) zck12 (zws_in (i := 7113) rfl rfl) rfl rfl rfl (fun h => Bool.noConfusion h) (fun h => zcn12 (congrArg (fun y => y.cls) h))
theorem zoX12_songLong : zMok mX12_songLong := zMc (zRn 12) zck12 (zws_in (i := 7125) rfl rfl) rfl rfl rfl (fun h => Bool.noConfusion h) (fun h => zcn12 (congrArg (fun y => y.cls) h))
theorem zoX12_boxLong : zMok mX12_boxLong := zMc (zRn 12) zck12 (zws_in (i := 7141) rfl rfl) rfl rfl rfl (fun h => Bool.noConfusion h) (fun h => zcn12 (congrArg (fun y => y.cls) h))
theorem zoX12_noteIn : zMok mX12_noteIn := zMc (zRn 12) zck12 (zws_in (i := 7133) rfl rfl) rfl rfl rfl (fun h => Bool.noConfusion h) (fun h => zcn12 (congrArg (fun y => y.cls) h))
theorem zoX12_whale : zMok mX12_whale := zMc (zRn 12) zck12 (zws_in (i := 7093) rfl rfl) rfl rfl rfl (fun h => Bool.noConfusion h) (fun h => zcn12 (congrArg (fun y => y.cls) h))
theorem zoX12_box : zMok mX12_box := zMc (zRn 12) zck12 (zws_in (i := 7105) rfl rfl) rfl rfl rfl (fun h => Bool.noConfusion h) (fun h => zcn12 (congrArg (fun y => y.cls) h))
theorem zoX12_length : zMok mX12_length := zMc (zRn 12) zck12 (zws_in (i := 7117) rfl rfl) rfl rfl rfl (fun h => Bool.noConfusion h) (fun h => zcn12 (congrArg (fun y => y.cls) h))
theorem zoX12_note : zMok mX12_note := zMc (zRn 12) zck12 (zws_in (i := 7129) rfl rfl) rfl rfl rfl (fun h => Bool.noConfusion h) (fun h => zcn12 (congrArg (fun y => y.cls) h))
theorem zoX12_sung : zMok mX12_sung := zMc (zRn 12) zck12 (zws_in (i := 7137) rfl rfl) rfl rfl rfl (fun h => Bool.noConfusion h) (fun h => zcn12 (congrArg (fun y => y.cls) h))
theorem zoX12_unlike : zMok mX12_unlike := zMc (zRn 12) zck12 (zws_in (i := 7157) rfl rfl) rfl rfl rfl (fun h => Bool.noConfusion h) (fun h => zcn12 (congrArg (fun y => y.cls) h))
theorem zoX12_hearsIn : zMok mX12_hearsIn := zMc (zRn 12) zck12 (zws_in (i := 7153) rfl rfl) rfl rfl rfl (fun h => Bool.noConfusion h) (fun h => zcn12 (congrArg (fun y => y.cls) h))
theorem zoX12_heardNow : zMok mX12_heardNow := zMc (zRn 12) zck12 (zws_in (i := 7149) rfl rfl) rfl rfl rfl (fun h => Bool.noConfusion h) (fun h => zcn12 (congrArg (fun y => y.cls) h))
theorem zoX12_heard : zMok mX12_heard := zMc (zRn 12) zck12 (zws_in (i := 7145) rfl rfl) rfl rfl rfl (fun h => Bool.noConfusion h) (fun h => zcn12 (congrArg (fun y => y.cls) h))
theorem zoX12_isClosed : zMok mX12_isClosed := zMc (zRn 12) zck12 (zws_in (i := 7169) rfl rfl) rfl rfl rfl (fun h => Bool.noConfusion h) (fun h => zcn12 (congrArg (fun y => y.cls) h))
theorem zoX12_wayOf : zMok mX12_wayOf := zMc (zRn 12) zck12 (zws_in (i := 7165) rfl rfl) rfl rfl rfl (fun h => Bool.noConfusion h) (fun h => zcn12 (congrArg (fun y => y.cls) h))
theorem zoX12_way : zMok mX12_way := zMc (zRn 12) zck12 (zws_in (i := 7161) rfl rfl) rfl rfl rfl (fun h => Bool.noConfusion h) (fun h => zcn12 (congrArg (fun y => y.cls) h))
theorem zoX12_nearOf : zMok mX12_nearOf := zMc (zRn 12) zck12 (zws_in (i := 7180) rfl rfl) rfl rfl rfl (fun h => Bool.noConfusion h) (fun h => zcn12 (congrArg (fun y => y.cls) h))
theorem zoX12_near : zMok mX12_near := zMc (zRn 12) zck12 (zws_in (i := 7176) rfl rfl) rfl rfl rfl (fun h => Bool.noConfusion h) (fun h => zcn12 (congrArg (fun y => y.cls) h))
theorem zoX12_asNear : zMok mX12_asNear := zMc (zRn 12) zck12 (zws_in (i := 7184) rfl rfl) rfl rfl rfl (fun h => Bool.noConfusion h) (fun h => zcn12 (congrArg (fun y => y.cls) h))
theorem zoX12_sent : zMok mX12_sent := zMc (zRn 12) zck12 (zws_in (i := 7188) rfl rfl) rfl rfl rfl (fun h => Bool.noConfusion h) (fun h => zcn12 (congrArg (fun y => y.cls) h))
theorem zoX12_apartOf : zMok mX12_apartOf := zMc (zRn 12) zck12 (zws_in (i := 7196) rfl rfl) rfl rfl rfl (fun h => Bool.noConfusion h) (fun h => zcn12 (congrArg (fun y => y.cls) h))
theorem zoX12_apart : zMok mX12_apart := zMc (zRn 12) zck12 (zws_in (i := 7192) rfl rfl) rfl rfl rfl (fun h => Bool.noConfusion h) (fun h => zcn12 (congrArg (fun y => y.cls) h))
theorem zoX12_bear : zMok mX12_bear := zMc (zRn 12) zck12 (zws_in (i := 7200) rfl rfl) rfl rfl rfl (fun h => Bool.noConfusion h) (fun h => zcn12 (congrArg (fun y => y.cls) h))
theorem zoX12_mixed : zMok mX12_mixed := zMc (zRn 12) zck12 (zws_in (i := 7204) rfl rfl) rfl rfl rfl (fun h => Bool.noConfusion h) (fun h => zcn12 (congrArg (fun y => y.cls) h))
theorem zoX12_power : zMok mX12_power := zMc (zRn 12) zck12 (zws_in (i := 7220) rfl rfl) rfl rfl rfl (fun h => Bool.noConfusion h) (fun h => zcn12 (congrArg (fun y => y.cls) h))
theorem zoX12_digitsApart : zMok mX12_digitsApart := zMc (zRn 12) zck12 (zws_in (i := 7224) rfl rfl) rfl rfl rfl (fun h => Bool.noConfusion h) (fun h => zcn12 (congrArg (fun y => y.cls) h))
theorem zoX12_newSongs : zMok mX12_newSongs := zMc (zRn 12) zck12 (zws_in (i := 7216) rfl rfl) rfl rfl rfl (fun h => Bool.noConfusion h) (fun h => zcn12 (congrArg (fun y => y.cls) h))
theorem zoX12_songWhy : zMok mX12_songWhy := zMc (zRn 12) zck12 (zws_in (i := 7212) rfl rfl) rfl rfl rfl (fun h => Bool.noConfusion h) (fun h => zcn12 (congrArg (fun y => y.cls) h))
theorem zoX12_fresh : zMok mX12_fresh := zMc (zRn 12) zck12 (zws_in (i := 7208) rfl rfl) rfl rfl rfl (fun h => Bool.noConfusion h) (fun h => zcn12 (congrArg (fun y => y.cls) h))
theorem zoX12_byTurns : zMok mX12_byTurns := zMc (zRn 12) zck12 (zws_in (i := 7228) rfl rfl) rfl rfl rfl (fun h => Bool.noConfusion h) (fun h => zcn12 (congrArg (fun y => y.cls) h))
theorem zoX12_heardIn : zMok mX12_heardIn := zMc (zRn 12) zck12 (zws_in (i := 7232) rfl rfl) rfl rfl rfl (fun h => Bool.noConfusion h) (fun h => zcn12 (congrArg (fun y => y.cls) h))
theorem zoX12_hearsItself : zMok mX12_hearsItself := zMc (zRn 12) zck12 (zws_in (i := 8000) rfl rfl) rfl rfl rfl (fun h => Bool.noConfusion h) (fun h => zcn12 (congrArg (fun y => y.cls) h))
theorem zoX12_strange : zMok mX12_strange := zMc (zRn 12) zck12 (zws_in (i := 7236) rfl rfl) rfl rfl rfl (fun h => Bool.noConfusion h) (fun h => zcn12 (congrArg (fun y => y.cls) h))
theorem zoX12_dayBy : zMok mX12_dayBy := zMc (zRn 12) zck12 (zws_in (i := 8037) rfl rfl) rfl rfl rfl (fun h => Bool.noConfusion h) (fun h => zcn12 (congrArg (fun y => y.cls) h))
theorem zoX12_setsOut : zMok mX12_setsOut := zMc (zRn 12) zck12 (zws_in (i := 8016) rfl rfl) rfl rfl rfl (fun h => Bool.noConfusion h) (fun h => zcn12 (congrArg (fun y => y.cls) h))
theorem zoX12_seasonOf : zMok mX12_seasonOf := zMc (zRn 12) zck12 (zws_in (i := 8008) rfl rfl) rfl rfl rfl (fun h => Bool.noConfusion h) (fun h => zcn12 (congrArg (fun y => y.cls) h))
theorem zoX12_season : zMok mX12_season := zMc (zRn 12) zck12 (zws_in (i := 8004) rfl rfl) rfl rfl rfl (fun h => Bool.noConfusion h) (fun h => zcn12 (congrArg (fun y => y.cls) h))
theorem zoX12_sets : zMok mX12_sets := zMc (zRn 12) zck12 (zws_in (i := 8012) rfl rfl) rfl rfl rfl (fun h => Bool.noConfusion h) (fun h => zcn12 (congrArg (fun y => y.cls) h))
theorem zoX12_layDays : zMok mX12_layDays := zMc (zRn 12) zck12 (zws_in (i := 8028) rfl rfl) rfl rfl rfl (fun h => Bool.noConfusion h) (fun h => zcn12 (congrArg (fun y => y.cls) h))
theorem zoX12_goesBy : zMok mX12_goesBy := zMc (zRn 12) zck12 (zws_in (i := 8033) rfl rfl) rfl rfl rfl (fun h => Bool.noConfusion h) (fun h => zcn12 (congrArg (fun y => y.cls) h))
theorem zoX12_arrivalOf : zMok mX12_arrivalOf := zMc (zRn 12) zck12 (zws_in (i := 8024) rfl rfl) rfl rfl rfl (fun h => Bool.noConfusion h) (fun h => zcn12 (congrArg (fun y => y.cls) h))
theorem zoX12_arrival : zMok mX12_arrival := zMc (zRn 12) zck12 (zws_in (i := 8020) rfl rfl) rfl rfl rfl (fun h => Bool.noConfusion h) (fun h => zcn12 (congrArg (fun y => y.cls) h))
theorem zoX12_lays : zMok mX12_lays := zMc (zRn 12) zck12 (zws_in (i := 8049) rfl rfl) rfl rfl rfl (fun h => Bool.noConfusion h) (fun h => zcn12 (congrArg (fun y => y.cls) h))
theorem zoX12_bringsOf : zMok mX12_bringsOf := zMc (zRn 12) zck12 (zws_in (i := 8045) rfl rfl) rfl rfl rfl (fun h => Bool.noConfusion h) (fun h => zcn12 (congrArg (fun y => y.cls) h))
theorem zoX12_brings : zMok mX12_brings := zMc (zRn 12) zck12 (zws_in (i := 8041) rfl rfl) rfl rfl rfl (fun h => Bool.noConfusion h) (fun h => zcn12 (congrArg (fun y => y.cls) h))
theorem zoX12_soonest : zMok mX12_soonest := zMc (zRn 12) zck12 (zws_in (i := 8056) rfl rfl) rfl rfl rfl (fun h => Bool.noConfusion h) (fun h => zcn12 (congrArg (fun y => y.cls) h))
theorem zoX12_surestBut : zMok mX12_surestBut := zMc (zRn 12) zck12 (zws_in (i := 8064) rfl rfl) rfl rfl rfl (fun h => Bool.noConfusion h) (fun h => zcn12 (congrArg (fun y => y.cls) h))
theorem zoX12_surest : zMok mX12_surest := zMc (zRn 12) zck12 (zws_in (i := 8060) rfl rfl) rfl rfl rfl (fun h => Bool.noConfusion h) (fun h => zcn12 (congrArg (fun y => y.cls) h))
theorem zoX12_by : zMok mX12_by := zMc (zRn 12) zck12 (zws_in (i := 8068) rfl rfl) rfl rfl rfl (fun h => Bool.noConfusion h) (fun h => zcn12 (congrArg (fun y => y.cls) h))
theorem zoX12_lowest : zMok mX12_lowest := zMc (zRn 12) zck12 (zws_in (i := 8076) rfl rfl) rfl rfl rfl (fun h => Bool.noConfusion h) (fun h => zcn12 (congrArg (fun y => y.cls) h))
theorem zoX12_registered : zMok mX12_registered := zMc (zRn 12) zck12 (zws_in (i := 8072) rfl rfl) rfl rfl rfl (fun h => Bool.noConfusion h) (fun h => zcn12 (congrArg (fun y => y.cls) h))
theorem zoX12_tryMatch : zMok mX12_tryMatch := zMc (zRn 12) zck12 (zws_in (i := 8088) rfl rfl) rfl rfl rfl (fun h => Bool.noConfusion h) (fun h => zcn12 (congrArg (fun y => y.cls) h))
theorem zoX12_seekMatch : zMok mX12_seekMatch := zMc (zRn 12) zck12 (zws_in (i := 8084) rfl rfl) rfl rfl rfl (fun h => Bool.noConfusion h) (fun h => zcn12 (congrArg (fun y => y.cls) h))
theorem zoX12_match : zMok mX12_match := zMc (zRn 12) zck12 (zws_in (i := 8080) rfl rfl) rfl rfl rfl (fun h => Bool.noConfusion h) (fun h => zcn12 (congrArg (fun y => y.cls) h))
theorem zoX12_matchDays : zMok mX12_matchDays := zMc (zRn 12) zck12 (zws_in (i := 8092) rfl rfl) rfl rfl rfl (fun h => Bool.noConfusion h) (fun h => zcn12 (congrArg (fun y => y.cls) h))
theorem zoX12_matchOf : zMok mX12_matchOf := zMc (zRn 12) zck12 (zws_in (i := 8096) rfl rfl) rfl rfl rfl (fun h => Bool.noConfusion h) (fun h => zcn12 (congrArg (fun y => y.cls) h))
theorem zoX12_meet : zMok mX12_meet := zMc (zRn 12) zck12 (zws_in (i := 8100) rfl rfl) rfl rfl rfl (fun h => Bool.noConfusion h) (fun h => zcn12 (congrArg (fun y => y.cls) h))
theorem zoX12_fitsAll : zMok mX12_fitsAll := zMc (zRn 12) zck12 (zws_in (i := 8108) rfl rfl) rfl rfl rfl (fun h => Bool.noConfusion h) (fun h => zcn12 (congrArg (fun y => y.cls) h))
theorem zoX12_fits : zMok mX12_fits := zMc (zRn 12) zck12 (zws_in (i := 8104) rfl rfl) rfl rfl rfl (fun h => Bool.noConfusion h) (fun h => zcn12 (congrArg (fun y => y.cls) h))
theorem zoX12_reachOf : zMok mX12_reachOf := zMc (zRn 12) zck12 (zws_in (i := 8116) rfl rfl) rfl rfl rfl (fun h => Bool.noConfusion h) (fun h => zcn12 (congrArg (fun y => y.cls) h))
theorem zoX12_reach : zMok mX12_reach := zMc (zRn 12) zck12 (zws_in (i := 8112) rfl rfl) rfl rfl rfl (fun h => Bool.noConfusion h) (fun h => zcn12 (congrArg (fun y => y.cls) h))
theorem zoX12_pier : zMok mX12_pier := zMc (zRn 12) zck12 (zws_in (i := 8120) rfl rfl) rfl rfl rfl (fun h => Bool.noConfusion h) (fun h => zcn12 (congrArg (fun y => y.cls) h))
theorem zoX12_doLead : zMok mX12_doLead := zMc (zRn 12) zck12 (zws_in (i := 8131) rfl rfl) rfl rfl rfl (fun h => Bool.noConfusion h) (fun h => zcn12 (congrArg (fun y => y.cls) h))
theorem zoX12_watch : zMok mX12_watch := zMc (zRn 12) zck12 (zws_in (i := 8124) rfl rfl) rfl rfl rfl (fun h => Bool.noConfusion h) (fun h => zcn12 (congrArg (fun y => y.cls) h))
theorem zoX12_layFar : zMok mX12_layFar := zMc (zRn 12) zck12 (zws_in (i := 8143) rfl rfl) rfl rfl rfl (fun h => Bool.noConfusion h) (fun h => zcn12 (congrArg (fun y => y.cls) h))
theorem zoX12_tryRound : zMok mX12_tryRound := zMc (zRn 12) zck12 (zws_in (i := 8147) rfl rfl) rfl rfl rfl (fun h => Bool.noConfusion h) (fun h => zcn12 (congrArg (fun y => y.cls) h))
theorem zoX12_seekRound : zMok mX12_seekRound := zMc (zRn 12) zck12 (zws_in (i := 8139) rfl rfl) rfl rfl rfl (fun h => Bool.noConfusion h) (fun h => zcn12 (congrArg (fun y => y.cls) h))
theorem zoX12_round : zMok mX12_round := zMc (zRn 12) zck12 (zws_in (i := 8135) rfl rfl) rfl rfl rfl (fun h => Bool.noConfusion h) (fun h => zcn12 (congrArg (fun y => y.cls) h))
theorem zoX12_roundAt : zMok mX12_roundAt := zMc (zRn 12) zck12 (zws_in (i := 8151) rfl rfl) rfl rfl rfl (fun h => Bool.noConfusion h) (fun h => zcn12 (congrArg (fun y => y.cls) h))
theorem zoX12_decade : zMok mX12_decade := zMc (zRn 12) zck12 (zws_in (i := 8155) rfl rfl) rfl rfl rfl (fun h => Bool.noConfusion h) (fun h => zcn12 (congrArg (fun y => y.cls) h))
theorem zoX12_note1 : zMok mX12_note1 := zMc (zRn 12) zck12 (zws_in (i := 8165) rfl rfl) rfl rfl rfl (fun h => Bool.noConfusion h) (fun h => zcn12 (congrArg (fun y => y.cls) h))
theorem zoX12_send : zMok mX12_send := zMc (zRn 12) zck12 (zws_in (i := 8161) rfl rfl) rfl rfl rfl (fun h => Bool.noConfusion h) (fun h => zcn12 (congrArg (fun y => y.cls) h))
theorem zoX12_tune : zMok mX12_tune := zMc (zRn 12) zck12 (zws_in (i := 8169) rfl rfl) rfl rfl rfl (fun h => Bool.noConfusion h) (fun h => zcn12 (congrArg (fun y => y.cls) h))
theorem zoX12_years : zMok mX12_years := zMc (zRn 12) zck12 (zws_in (i := 8177) rfl rfl) rfl rfl rfl (fun h => Bool.noConfusion h) (fun h => zcn12 (congrArg (fun y => y.cls) h))
theorem zoX12_close : zMok mX12_close := zMc (zRn 12) zck12 (zws_in (i := 8181) rfl rfl) rfl rfl rfl (fun h => Bool.noConfusion h) (fun h => zcn12 (congrArg (fun y => y.cls) h))
theorem zoX12_undo : zMok mX12_undo := zMc (zRn 12) zck12 (zws_in (i := 8185) rfl rfl) rfl rfl rfl (fun h => Bool.noConfusion h) (fun h => zcn12 (congrArg (fun y => y.cls) h))
theorem zoX12_image : zMok mX12_image := zMc (zRn 12) zck12 (zws_in (i := 8189) rfl rfl) rfl rfl rfl (fun h => Bool.noConfusion h) (fun h => zcn12 (congrArg (fun y => y.cls) h))
theorem zoX12_back : zMok mX12_back := zMc (zRn 12) zck12 (zws_in (i := 8193) rfl rfl) rfl rfl rfl (fun h => Bool.noConfusion h) (fun h => zcn12 (congrArg (fun y => y.cls) h))
theorem zoX12_led : zMok mX12_led := zMc (zRn 12) zck12 (zws_in (i := 8197) rfl rfl) rfl rfl rfl (fun h => Bool.noConfusion h) (fun h => zcn12 (congrArg (fun y => y.cls) h))
theorem zoX12_size : zMok mX12_size := zMc (zRn 12) zck12 (zws_in (i := 8201) rfl rfl) rfl rfl rfl (fun h => Bool.noConfusion h) (fun h => zcn12 (congrArg (fun y => y.cls) h))
theorem zoX12_trouble : zMok mX12_trouble := zMc (zRn 12) zck12 (zws_in (i := 8205) rfl rfl) rfl rfl rfl (fun h => Bool.noConfusion h) (fun h => zcn12 (congrArg (fun y => y.cls) h))
theorem zoJ0_length_8abf5 : zMok mJ0_length_8abf5 := zMc (zRn 14) zck14 (zws_in (i := 3065) rfl rfl) rfl rfl rfl (fun h => Bool.noConfusion h) (fun h => zcn14 (congrArg (fun y => y.cls) h))
theorem zoJ0_charAt_5068e : zMok mJ0_charAt_5068e := zMc (zRn 14) zck14 (zws_in (i := 3075) rfl rfl) rfl rfl rfl (fun h => Bool.noConfusion h) (fun h => zcn14 (congrArg (fun y => y.cls) h))
theorem zoJ0_coder_7d493 : zMok mJ0_coder_7d493 := zMc (zRn 14) zck14 (zws_in (i := 3069) rfl rfl) rfl rfl rfl (fun h => Bool.noConfusion h) (fun h => zcn14 (congrArg (fun y => y.cls) h))
theorem zoJ0_isLatin1_aae02 : zMok mJ0_isLatin1_aae02 := zMc (zRn 14) zck14 (zws_in (i := 3079) rfl rfl) rfl rfl rfl (fun h => Bool.noConfusion h) (fun h => zcn14 (congrArg (fun y => y.cls) h))
theorem zoJ0_checkIndex_df160 : zMok mJ0_checkIndex_df160 := zMc (zRn 14) zck14 (zws_in (i := 3085) rfl rfl) rfl rfl rfl (fun h => Bool.noConfusion h) (fun h => zcn14 (congrArg (fun y => y.cls) h))
theorem zoJ1_charAt_3b067 : zMok mJ1_charAt_3b067 := zMc (zRn 15) zck15 (zws_in (i := 3082) rfl rfl) rfl rfl rfl (fun h => Bool.noConfusion h) (fun h => zcn15 (congrArg (fun y => y.cls) h))
theorem zoJ3_checkIndex_8e157 : zMok mJ3_checkIndex_8e157 := zMc (zRn 18) zck18 (zws_in (i := 3090) rfl rfl) rfl rfl rfl (fun h => Bool.noConfusion h) (fun h => zcn18 (congrArg (fun y => y.cls) h))
theorem zoJ7_fill_53178 : zMok mJ7_fill_53178 := zMc (zRn 17) zck17 (zws_in (i := 4195) rfl rfl) rfl rfl rfl (fun h => Bool.noConfusion h) (fun h => zcn17 (congrArg (fun y => y.cls) h))
theorem zoJ6_bitCount_0f7a4 : zMok mJ6_bitCount_0f7a4 := zMc (zRn 16) zck16 (zws_in (i := 4057) rfl rfl) rfl rfl rfl (fun h => Bool.noConfusion h) (fun h => zcn16 (congrArg (fun y => y.cls) h))
theorem zledc : Cond.code yX11_led cX11_led 4 (some .int) ∈ zws := zws_in (i := 5224) rfl rfl
def zmthC (o : Nat) (q : Nat × Nat × Nat × zM × Nat × Nat × Nat × Nat) : Bool := match q with
  | (k, kd, na, cm, pl, pi, ps, pn) => match kd with
    | 0 => decide (zpc pl = some (Cond.methodLink (zRn o) k cm.2.2.2.2.1)) && goodWord (Cond.methodLink (zRn o) k cm.2.2.2.2.1) && decide (zpc pi = some (Cond.instanceMethod cm.2.2.2.2.1)) && goodWord (Cond.instanceMethod cm.2.2.2.2.1) && decide (zpc ps = some (Cond.selects (zRn cm.2.1) cm.2.2.2.2.1 cm.2.2.2.2.1)) && goodWord (Cond.selects (zRn cm.2.1) cm.2.2.2.2.1 cm.2.2.2.2.1) && decide (zpc pn = some (Cond.initialized cm.2.2.2.2.1.cls)) && goodWord (Cond.initialized cm.2.2.2.2.1.cls) && decide ((parseMethodDescriptor cm.2.2.2.2.1.desc).map (fun d => d.parameters.length + 1) = some na)
    | 1 => decide (zpc pl = some (Cond.methodLink (zRn o) k cm.2.2.2.2.1)) && goodWord (Cond.methodLink (zRn o) k cm.2.2.2.2.1) && decide (zpc pi = some (Cond.static cm.2.2.2.2.1)) && goodWord (Cond.static cm.2.2.2.2.1) && decide (zpc pn = some (Cond.initialized cm.2.2.2.2.1.cls)) && goodWord (Cond.initialized cm.2.2.2.2.1.cls) && decide ((parseMethodDescriptor cm.2.2.2.2.1.desc).map (fun d => d.parameters.length) = some na)
    | 2 => decide (zpc pl = some (Cond.methodLink (zRn o) k cm.2.2.2.2.1)) && goodWord (Cond.methodLink (zRn o) k cm.2.2.2.2.1) && decide (zpc pi = some (Cond.instanceMethod cm.2.2.2.2.1)) && goodWord (Cond.instanceMethod cm.2.2.2.2.1) && decide (zpc pn = some (Cond.initialized cm.2.2.2.2.1.cls)) && goodWord (Cond.initialized cm.2.2.2.2.1.cls) && decide ((parseMethodDescriptor cm.2.2.2.2.1.desc).map (fun d => d.parameters.length + 1) = some na) && decide (cm.2.2.2.2.1.name = "<init>") && decide (cm.2.2.2.1 = none)
    | 3 => znm.any (fun r => decide (r.1 = o) && decide (r.2.1 = k) && decide (r.2.2.1.2.2.2.2.1 = cm.2.2.2.2.1)) && decide (zpc pi = some (Cond.static cm.2.2.2.2.1)) && goodWord (Cond.static cm.2.2.2.2.1) && decide (zpc pn = some (Cond.initialized cm.2.2.2.2.1.cls)) && goodWord (Cond.initialized cm.2.2.2.2.1.cls) && decide ((parseMethodDescriptor cm.2.2.2.2.1.desc).map (fun d => d.parameters.length) = some na)
    | 4 => znm.any (fun r => decide (r.1 = o) && decide (r.2.1 = k) && decide (r.2.2.1.2.2.2.2.1 = cm.2.2.2.2.1)) && decide (zpc pi = some (Cond.instanceMethod cm.2.2.2.2.1)) && goodWord (Cond.instanceMethod cm.2.2.2.2.1) && decide (zpc pn = some (Cond.initialized cm.2.2.2.2.1.cls)) && goodWord (Cond.initialized cm.2.2.2.2.1.cls) && decide ((parseMethodDescriptor cm.2.2.2.2.1.desc).map (fun d => d.parameters.length + 1) = some na) && decide (cm.2.2.2.2.1.name = "<init>") && decide (cm.2.2.2.1 = none)
    | 10 => decide (zpc pl = some (Cond.methodLink (zRn o) k Lib.objectInit)) && goodWord (Cond.methodLink (zRn o) k Lib.objectInit)
    | 11 => decide (zpc pl = some (Cond.methodLink (zRn o) k Lib.Math.max.name)) && goodWord (Cond.methodLink (zRn o) k Lib.Math.max.name)
    | 12 => decide (zpc pl = some (Cond.methodLink (zRn o) k Lib.Math.min.name)) && goodWord (Cond.methodLink (zRn o) k Lib.Math.min.name)
    | 13 => decide (zpc pl = some (Cond.methodLink (zRn o) k Lib.Math.abs.name)) && goodWord (Cond.methodLink (zRn o) k Lib.Math.abs.name)
    | 14 => decide (zpc pl = some (Cond.methodLink (zRn o) k arraycopyName)) && goodWord (Cond.methodLink (zRn o) k arraycopyName)
    | _ => decide (kd = 16)
set_option maxRecDepth 20000 in
theorem zmthK0 : (zmthTT.getD 0 []).all (zmthC 0) = true := by decide +kernel
set_option maxRecDepth 20000 in
theorem zmthK1 : (zmthTT.getD 1 []).all (zmthC 1) = true := by decide +kernel
set_option maxRecDepth 20000 in
theorem zmthK2 : (zmthTT.getD 2 []).all (zmthC 2) = true := by decide +kernel
set_option maxRecDepth 20000 in
theorem zmthK3 : (zmthTT.getD 3 []).all (zmthC 3) = true := by decide +kernel
set_option maxRecDepth 20000 in
theorem zmthK4 : (zmthTT.getD 4 []).all (zmthC 4) = true := by decide +kernel
set_option maxRecDepth 20000 in
theorem zmthK5 : (zmthTT.getD 5 []).all (zmthC 5) = true := by decide +kernel
set_option maxRecDepth 20000 in
theorem zmthK6 : (zmthTT.getD 6 []).all (zmthC 6) = true := by decide +kernel
set_option maxRecDepth 20000 in
theorem zmthK7 : (zmthTT.getD 7 []).all (zmthC 7) = true := by decide +kernel
set_option maxRecDepth 20000 in
theorem zmthK8 : (zmthTT.getD 8 []).all (zmthC 8) = true := by decide +kernel
set_option maxRecDepth 20000 in
theorem zmthK9 : (zmthTT.getD 9 []).all (zmthC 9) = true := by decide +kernel
set_option maxRecDepth 20000 in
theorem zmthK10 : (zmthTT.getD 10 []).all (zmthC 10) = true := by decide +kernel
set_option maxRecDepth 20000 in
theorem zmthK11 : (zmthTT.getD 11 []).all (zmthC 11) = true := by decide +kernel
set_option maxRecDepth 20000 in
theorem zmthK12 : (zmthTT.getD 12 []).all (zmthC 12) = true := by decide +kernel
set_option maxRecDepth 20000 in
theorem zmthK13 : (zmthTT.getD 13 []).all (zmthC 13) = true := by decide +kernel
set_option maxRecDepth 20000 in
theorem zmthK14 : (zmthTT.getD 14 []).all (zmthC 14) = true := by decide +kernel
set_option maxRecDepth 20000 in
theorem zmthK15 : (zmthTT.getD 15 []).all (zmthC 15) = true := by decide +kernel
set_option maxRecDepth 20000 in
theorem zmthK16 : (zmthTT.getD 16 []).all (zmthC 16) = true := by decide +kernel
set_option maxRecDepth 20000 in
theorem zmthK17 : (zmthTT.getD 17 []).all (zmthC 17) = true := by decide +kernel
set_option maxRecDepth 20000 in
theorem zmthK18 : (zmthTT.getD 18 []).all (zmthC 18) = true := by decide +kernel
theorem zmthK : ∀ o, o < 19 → (zmthTT.getD o []).all (zmthC o) = true
  | 0, _ => zmthK0
  | 1, _ => zmthK1
  | 2, _ => zmthK2
  | 3, _ => zmthK3
  | 4, _ => zmthK4
  | 5, _ => zmthK5
  | 6, _ => zmthK6
  | 7, _ => zmthK7
  | 8, _ => zmthK8
  | 9, _ => zmthK9
  | 10, _ => zmthK10
  | 11, _ => zmthK11
  | 12, _ => zmthK12
  | 13, _ => zmthK13
  | 14, _ => zmthK14
  | 15, _ => zmthK15
  | 16, _ => zmthK16
  | 17, _ => zmthK17
  | 18, _ => zmthK18
  | _ + 19, h => absurd h (by omega)
set_option maxRecDepth 20000 in
theorem zmM0 : ∀ q ∈ zmthT0, q.2.1 < 5 → zMok q.2.2.2.1 := List.forall_mem_cons.mpr ⟨fun h => absurd h (by decide), fun _ h => absurd h List.not_mem_nil⟩
set_option maxRecDepth 20000 in
theorem zmM1 : ∀ q ∈ zmthT1, q.2.1 < 5 → zMok q.2.2.2.1 := List.forall_mem_cons.mpr ⟨fun h => absurd h (by decide), List.forall_mem_cons.mpr ⟨fun _ => zoJ7_fill_53178, List.forall_mem_cons.mpr ⟨fun _ => zoX1_worth, List.forall_mem_cons.mpr ⟨fun h => absurd h (by decide), List.forall_mem_cons.mpr ⟨fun _ => zoX1_choose, List.forall_mem_cons.mpr ⟨fun _ => zoX1_firstBest, fun _ h => absurd h List.not_mem_nil⟩⟩⟩⟩⟩⟩
set_option maxRecDepth 20000 in
theorem zmM2 : ∀ q ∈ zmthT2, q.2.1 < 5 → zMok q.2.2.2.1 := List.forall_mem_cons.mpr ⟨fun h => absurd h (by decide), List.forall_mem_cons.mpr ⟨fun h => absurd h (by decide), fun _ h => absurd h List.not_mem_nil⟩⟩
set_option maxRecDepth 20000 in
theorem zmM3 : ∀ q ∈ zmthT3, q.2.1 < 5 → zMok q.2.2.2.1 := List.forall_mem_cons.mpr ⟨fun h => absurd h (by decide), List.forall_mem_cons.mpr ⟨fun _ => zoX3_waysOutOf, List.forall_mem_cons.mpr ⟨fun _ => zoJ6_bitCount_0f7a4, List.forall_mem_cons.mpr ⟨fun _ => zoX3_findShortest, List.forall_mem_cons.mpr ⟨fun _ => zoX3_findRests, List.forall_mem_cons.mpr ⟨fun _ => zoX3_nextOf, List.forall_mem_cons.mpr ⟨fun _ => zoJ7_fill_53178, List.forall_mem_cons.mpr ⟨fun h => absurd h (by decide), List.forall_mem_cons.mpr ⟨fun _ => zoX3_daysOver, fun _ h => absurd h List.not_mem_nil⟩⟩⟩⟩⟩⟩⟩⟩⟩
set_option maxRecDepth 20000 in
theorem zmM4 : ∀ q ∈ zmthT4, q.2.1 < 5 → zMok q.2.2.2.1 := List.forall_mem_cons.mpr ⟨fun h => absurd h (by decide), List.forall_mem_cons.mpr ⟨fun _ => zoX9_init, List.forall_mem_cons.mpr ⟨fun _ => zoX10_init, List.forall_mem_cons.mpr ⟨fun _ => zoX0_init, List.forall_mem_cons.mpr ⟨fun _ => zoX8_init, fun _ h => absurd h List.not_mem_nil⟩⟩⟩⟩⟩
set_option maxRecDepth 20000 in
theorem zmM5 : ∀ q ∈ zmthT5, q.2.1 < 5 → zMok q.2.2.2.1 := List.forall_mem_cons.mpr ⟨fun h => absurd h (by decide), List.forall_mem_cons.mpr ⟨fun _ => zoX4_clear, List.forall_mem_cons.mpr ⟨fun h => absurd h (by decide), List.forall_mem_cons.mpr ⟨fun _ => zoX5_readLine, List.forall_mem_cons.mpr ⟨fun _ => zoX5_nextToken, List.forall_mem_cons.mpr ⟨fun _ => zoX5_faulty, List.forall_mem_cons.mpr ⟨fun _ => zoX5_sortOfLine, List.forall_mem_cons.mpr ⟨fun _ => zoX5_readHead, List.forall_mem_cons.mpr ⟨fun _ => zoX5_readIsland, List.forall_mem_cons.mpr ⟨fun _ => zoX5_readWay, List.forall_mem_cons.mpr ⟨fun _ => zoX5_readWhale, List.forall_mem_cons.mpr ⟨fun _ => zoX5_readBox, List.forall_mem_cons.mpr ⟨fun _ => zoX5_readSpout, List.forall_mem_cons.mpr ⟨fun _ => zoX5_word, List.forall_mem_cons.mpr ⟨fun _ => zoX5_whole, List.forall_mem_cons.mpr ⟨fun _ => zoX5_newName, List.forall_mem_cons.mpr ⟨fun _ => zoX5_songOfToken, List.forall_mem_cons.mpr ⟨fun _ => zoX4_hasSong, List.forall_mem_cons.mpr ⟨fun _ => zoX5_toldName, List.forall_mem_cons.mpr ⟨fun _ => zoX4_wayBetween, List.forall_mem_cons.mpr ⟨fun _ => zoX5_kindOfToken, List.forall_mem_cons.mpr ⟨fun _ => zoX4_lastSpoutOf, List.forall_mem_cons.mpr ⟨fun _ => zoX5_isToken, List.forall_mem_cons.mpr ⟨fun _ => zoX5_nameOfToken, List.forall_mem_cons.mpr ⟨fun _ => zoX5_letters, List.forall_mem_cons.mpr ⟨fun _ => zoJ0_length_8abf5, List.forall_mem_cons.mpr ⟨fun _ => zoJ0_charAt_5068e, List.forall_mem_cons.mpr ⟨fun _ => zoX5_passAll, fun _ h => absurd h List.not_mem_nil⟩⟩⟩⟩⟩⟩⟩⟩⟩⟩⟩⟩⟩⟩⟩⟩⟩⟩⟩⟩⟩⟩⟩⟩⟩⟩⟩⟩
set_option maxRecDepth 20000 in
theorem zmM6 : ∀ q ∈ zmthT6, q.2.1 < 5 → zMok q.2.2.2.1 := List.forall_mem_cons.mpr ⟨fun h => absurd h (by decide), List.forall_mem_cons.mpr ⟨fun _ => zoJ7_fill_53178, List.forall_mem_cons.mpr ⟨fun _ => zoX2_isClosed, List.forall_mem_cons.mpr ⟨fun _ => zoX6_goes, List.forall_mem_cons.mpr ⟨fun _ => zoX6_dayOfLeaving, List.forall_mem_cons.mpr ⟨fun _ => zoX6_findFirstDays, List.forall_mem_cons.mpr ⟨fun _ => zoX2_isSent, List.forall_mem_cons.mpr ⟨fun _ => zoX4_boxLength, List.forall_mem_cons.mpr ⟨fun _ => zoX7_hearerOf, List.forall_mem_cons.mpr ⟨fun _ => zoX6_firstDayAt, List.forall_mem_cons.mpr ⟨fun h => absurd h (by decide), List.forall_mem_cons.mpr ⟨fun _ => zoX6_dayOfBringing, List.forall_mem_cons.mpr ⟨fun h => absurd h (by decide), List.forall_mem_cons.mpr ⟨fun _ => zoX6_isFitting, List.forall_mem_cons.mpr ⟨fun _ => zoX4_lastSpoutOf, List.forall_mem_cons.mpr ⟨fun _ => zoX6_fittingWhales, List.forall_mem_cons.mpr ⟨fun _ => zoJ6_bitCount_0f7a4, List.forall_mem_cons.mpr ⟨fun _ => zoX6_whalesReaching, List.forall_mem_cons.mpr ⟨fun h => absurd h (by decide), List.forall_mem_cons.mpr ⟨fun _ => zoX6_islandsReached, fun _ h => absurd h List.not_mem_nil⟩⟩⟩⟩⟩⟩⟩⟩⟩⟩⟩⟩⟩⟩⟩⟩⟩⟩⟩⟩
set_option maxRecDepth 20000 in
theorem zmM7 : ∀ q ∈ zmthT7, q.2.1 < 5 → zMok q.2.2.2.1 := List.forall_mem_cons.mpr ⟨fun h => absurd h (by decide), List.forall_mem_cons.mpr ⟨fun _ => zoX11_noteAt, List.forall_mem_cons.mpr ⟨fun _ => zoX7_fallIn, List.forall_mem_cons.mpr ⟨fun _ => zoX7_raised, List.forall_mem_cons.mpr ⟨fun _ => zoX11_unlikeNotes, List.forall_mem_cons.mpr ⟨fun _ => zoX7_apartness, List.forall_mem_cons.mpr ⟨fun _ => zoX7_keepSongsOf, List.forall_mem_cons.mpr ⟨fun _ => zoX7_isOfNotes, List.forall_mem_cons.mpr ⟨fun _ => zoX7_isFarFromKept, List.forall_mem_cons.mpr ⟨fun _ => zoX7_songIn, List.forall_mem_cons.mpr ⟨fun _ => zoX7_draw, List.forall_mem_cons.mpr ⟨fun _ => zoX11_withNote, fun _ h => absurd h List.not_mem_nil⟩⟩⟩⟩⟩⟩⟩⟩⟩⟩⟩⟩
set_option maxRecDepth 20000 in
theorem zmM8 : ∀ q ∈ zmthT8, q.2.1 < 5 → zMok q.2.2.2.1 := List.forall_mem_cons.mpr ⟨fun h => absurd h (by decide), fun _ h => absurd h List.not_mem_nil⟩
set_option maxRecDepth 20000 in
theorem zmM9 : ∀ q ∈ zmthT9, q.2.1 < 5 → zMok q.2.2.2.1 := List.forall_mem_cons.mpr ⟨fun h => absurd h (by decide), fun _ h => absurd h List.not_mem_nil⟩
set_option maxRecDepth 20000 in
theorem zmM10 : ∀ q ∈ zmthT10, q.2.1 < 5 → zMok q.2.2.2.1 := List.forall_mem_cons.mpr ⟨fun h => absurd h (by decide), fun _ h => absurd h List.not_mem_nil⟩
set_option maxRecDepth 20000 in
theorem zmM11 : ∀ q ∈ zmthT11, q.2.1 < 5 → zMok q.2.2.2.1 := List.forall_mem_cons.mpr ⟨fun h => absurd h (by decide), List.forall_mem_cons.mpr ⟨fun _ => zoX4_init, List.forall_mem_cons.mpr ⟨fun _ => zoX5_init, List.forall_mem_cons.mpr ⟨fun _ => zoX2_init, List.forall_mem_cons.mpr ⟨fun _ => zoX7_init, List.forall_mem_cons.mpr ⟨fun _ => zoX6_init, List.forall_mem_cons.mpr ⟨fun _ => zoX3_init, List.forall_mem_cons.mpr ⟨fun _ => zoX1_init, List.forall_mem_cons.mpr ⟨fun _ => zoX11_appendBytes, List.forall_mem_cons.mpr ⟨fun _ => zoX11_refused, List.forall_mem_cons.mpr ⟨fun _ => zoX5_readPost, List.forall_mem_cons.mpr ⟨fun _ => zoX11_takeDraft, List.forall_mem_cons.mpr ⟨fun _ => zoX11_granted, List.forall_mem_cons.mpr ⟨fun _ => zoX11_isWhale, List.forall_mem_cons.mpr ⟨fun _ => zoX11_isBox, List.forall_mem_cons.mpr ⟨fun _ => zoX11_isIsland, List.forall_mem_cons.mpr ⟨fun _ => zoX7_songIn, List.forall_mem_cons.mpr ⟨fun _ => zoX11_noteAt, List.forall_mem_cons.mpr ⟨fun _ => zoX11_isNoteOfBox, List.forall_mem_cons.mpr ⟨fun _ => zoX4_boxLength, List.forall_mem_cons.mpr ⟨fun _ => zoX11_hearerIn, List.forall_mem_cons.mpr ⟨fun _ => zoX11_areTwoIslands, List.forall_mem_cons.mpr ⟨fun _ => zoX4_wayBetween, List.forall_mem_cons.mpr ⟨fun _ => zoX2_isClosed, List.forall_mem_cons.mpr ⟨fun _ => zoX11_hasPost, List.forall_mem_cons.mpr ⟨fun _ => zoX11_isWithin, List.forall_mem_cons.mpr ⟨fun _ => zoX11_isWay, List.forall_mem_cons.mpr ⟨fun _ => zoX6_dayOfLeaving, List.forall_mem_cons.mpr ⟨fun _ => zoX2_isSent, List.forall_mem_cons.mpr ⟨fun _ => zoX11_sentPart, List.forall_mem_cons.mpr ⟨fun _ => zoX7_apartness, List.forall_mem_cons.mpr ⟨fun _ => zoX7_bearable, List.forall_mem_cons.mpr ⟨fun _ => zoX7_mixedPairs, List.forall_mem_cons.mpr ⟨fun _ => zoX11_refusalOfNewSong, List.forall_mem_cons.mpr ⟨fun _ => zoX7_findNew, List.forall_mem_cons.mpr ⟨fun _ => zoX7_hearerOf, List.forall_mem_cons.mpr ⟨fun _ => zoX6_firstDayAt, List.forall_mem_cons.mpr ⟨fun _ => zoX6_dayOfBringing, List.forall_mem_cons.mpr ⟨fun _ => zoX6_soonestBringer, List.forall_mem_cons.mpr ⟨fun _ => zoX6_surestBringer, List.forall_mem_cons.mpr ⟨fun _ => zoX6_bringersBy, List.forall_mem_cons.mpr ⟨fun _ => zoX11_commonDivisor, List.forall_mem_cons.mpr ⟨fun _ => zoX11_solveMatch, List.forall_mem_cons.mpr ⟨fun _ => zoX6_dayOfMeeting, List.forall_mem_cons.mpr ⟨fun _ => zoX6_fittingWhales, List.forall_mem_cons.mpr ⟨fun _ => zoX6_islandsReached, List.forall_mem_cons.mpr ⟨fun _ => zoX6_bestPier, List.forall_mem_cons.mpr ⟨fun _ => zoX3_fewestToWatch, List.forall_mem_cons.mpr ⟨fun _ => zoX3_findRound, List.forall_mem_cons.mpr ⟨fun _ => zoX11_heardWithSlips, List.forall_mem_cons.mpr ⟨fun _ => zoX11_keepForUndo, List.forall_mem_cons.mpr ⟨fun _ => zoX11_hasRefused, List.forall_mem_cons.mpr ⟨fun _ => zoX11_withNote, List.forall_mem_cons.mpr ⟨fun _ => zoX11_hasGranted, List.forall_mem_cons.mpr ⟨fun _ => zoX2_copyFrom, List.forall_mem_cons.mpr ⟨fun _ => zoX2_begin, List.forall_mem_cons.mpr ⟨fun h => absurd h (by decide), List.forall_mem_cons.mpr ⟨fun _ => zoX7_slipped, List.forall_mem_cons.mpr ⟨fun _ => zoX1_solve, List.forall_mem_cons.mpr ⟨fun h => absurd h (by decide), List.forall_mem_cons.mpr ⟨fun _ => zoJ6_bitCount_0f7a4, fun _ h => absurd h List.not_mem_nil⟩⟩⟩⟩⟩⟩⟩⟩⟩⟩⟩⟩⟩⟩⟩⟩⟩⟩⟩⟩⟩⟩⟩⟩⟩⟩⟩⟩⟩⟩⟩⟩⟩⟩⟩⟩⟩⟩⟩⟩⟩⟩⟩⟩⟩⟩⟩⟩⟩⟩⟩⟩⟩⟩⟩⟩⟩⟩⟩⟩⟩
set_option maxRecDepth 20000 in
theorem zmM12 : ∀ q ∈ zmthT12, q.2.1 < 5 → zMok q.2.2.2.1 := List.forall_mem_cons.mpr ⟨fun h => absurd h (by decide), List.forall_mem_cons.mpr ⟨fun _ => zoX12_look, List.forall_mem_cons.mpr ⟨fun _ => zoX12_isSmall, List.forall_mem_cons.mpr ⟨fun _ => zoX12_isDigit, List.forall_mem_cons.mpr ⟨fun _ => zoJ0_length_8abf5, List.forall_mem_cons.mpr ⟨fun _ => zoJ0_charAt_5068e, List.forall_mem_cons.mpr ⟨fun _ => zoX12_isWord, List.forall_mem_cons.mpr ⟨fun _ => zoX12_next, List.forall_mem_cons.mpr ⟨fun _ => zoX12_takesWord, List.forall_mem_cons.mpr ⟨fun _ => zoX12_wrong, List.forall_mem_cons.mpr ⟨fun _ => zoX12_mustName, List.forall_mem_cons.mpr ⟨fun _ => zoX12_find, List.forall_mem_cons.mpr ⟨fun _ => zoX12_in, List.forall_mem_cons.mpr ⟨fun _ => zoX12_named, List.forall_mem_cons.mpr ⟨fun _ => zoX12_must, List.forall_mem_cons.mpr ⟨fun _ => zoX12_islandPassed, List.forall_mem_cons.mpr ⟨fun _ => zoX12_number, List.forall_mem_cons.mpr ⟨fun _ => zoX12_good, List.forall_mem_cons.mpr ⟨fun _ => zoX12_no, List.forall_mem_cons.mpr ⟨fun _ => zoX12_readLine, List.forall_mem_cons.mpr ⟨fun _ => zoX12_copy, List.forall_mem_cons.mpr ⟨fun _ => zoX12_postLine, List.forall_mem_cons.mpr ⟨fun _ => zoX12_begins, List.forall_mem_cons.mpr ⟨fun _ => zoX12_islandLine, List.forall_mem_cons.mpr ⟨fun _ => zoX12_wayLine, List.forall_mem_cons.mpr ⟨fun _ => zoX12_whaleLine, List.forall_mem_cons.mpr ⟨fun _ => zoX12_boxLine, List.forall_mem_cons.mpr ⟨fun _ => zoX12_spoutLine, List.forall_mem_cons.mpr ⟨fun _ => zoX12_after, List.forall_mem_cons.mpr ⟨fun _ => zoX12_newName, List.forall_mem_cons.mpr ⟨fun _ => zoX12_isSong, List.forall_mem_cons.mpr ⟨fun _ => zoX12_joins, List.forall_mem_cons.mpr ⟨fun _ => zoX12_islandBehind, List.forall_mem_cons.mpr ⟨fun _ => zoX12_ofBox, List.forall_mem_cons.mpr ⟨fun _ => zoX12_songLong, List.forall_mem_cons.mpr ⟨fun _ => zoX12_isWhale, List.forall_mem_cons.mpr ⟨fun _ => zoX12_ofWhale, List.forall_mem_cons.mpr ⟨fun _ => zoX12_isBox, List.forall_mem_cons.mpr ⟨fun _ => zoX12_isIsland, List.forall_mem_cons.mpr ⟨fun _ => zoX12_noteIn, List.forall_mem_cons.mpr ⟨fun _ => zoX12_boxLong, List.forall_mem_cons.mpr ⟨fun _ => zoX12_unlike, List.forall_mem_cons.mpr ⟨fun _ => zoX12_hearsIn, List.forall_mem_cons.mpr ⟨fun _ => zoX12_heardNow, List.forall_mem_cons.mpr ⟨fun _ => zoX12_hasBit, List.forall_mem_cons.mpr ⟨fun _ => zoX12_isClosed, List.forall_mem_cons.mpr ⟨fun _ => zoX12_wayOf, List.forall_mem_cons.mpr ⟨fun _ => zoX12_nearOf, List.forall_mem_cons.mpr ⟨fun _ => zoX12_apartOf, List.forall_mem_cons.mpr ⟨fun _ => zoX12_power, List.forall_mem_cons.mpr ⟨fun _ => zoX12_digitsApart, List.forall_mem_cons.mpr ⟨fun _ => zoX12_songWhy, List.forall_mem_cons.mpr ⟨fun _ => zoX12_newSongs, List.forall_mem_cons.mpr ⟨fun _ => zoX12_hearsItself, List.forall_mem_cons.mpr ⟨fun _ => zoX12_setsOut, List.forall_mem_cons.mpr ⟨fun _ => zoX12_seasonOf, List.forall_mem_cons.mpr ⟨fun _ => zoX12_goesBy, List.forall_mem_cons.mpr ⟨fun _ => zoX12_dayBy, List.forall_mem_cons.mpr ⟨fun _ => zoX12_layDays, List.forall_mem_cons.mpr ⟨fun _ => zoX12_arrivalOf, List.forall_mem_cons.mpr ⟨fun _ => zoX12_later, List.forall_mem_cons.mpr ⟨fun _ => zoX12_lays, List.forall_mem_cons.mpr ⟨fun _ => zoX12_bringsOf, List.forall_mem_cons.mpr ⟨fun _ => zoX12_surestBut, List.forall_mem_cons.mpr ⟨fun _ => zoX12_lowest, List.forall_mem_cons.mpr ⟨fun _ => zoX12_tryMatch, List.forall_mem_cons.mpr ⟨fun _ => zoX12_seekMatch, List.forall_mem_cons.mpr ⟨fun _ => zoX12_fitsAll, List.forall_mem_cons.mpr ⟨fun _ => zoX12_reachOf, List.forall_mem_cons.mpr ⟨fun _ => zoX12_ones, List.forall_mem_cons.mpr ⟨fun _ => zoX12_doLead, List.forall_mem_cons.mpr ⟨fun _ => zoX12_tryRound, List.forall_mem_cons.mpr ⟨fun _ => zoX12_layFar, List.forall_mem_cons.mpr ⟨fun _ => zoX12_seekRound, List.forall_mem_cons.mpr ⟨fun _ => zoX12_note1, List.forall_mem_cons.mpr ⟨fun _ => zoX12_isNot, fun _ h => absurd h List.not_mem_nil⟩⟩⟩⟩⟩⟩⟩⟩⟩⟩⟩⟩⟩⟩⟩⟩⟩⟩⟩⟩⟩⟩⟩⟩⟩⟩⟩⟩⟩⟩⟩⟩⟩⟩⟩⟩⟩⟩⟩⟩⟩⟩⟩⟩⟩⟩⟩⟩⟩⟩⟩⟩⟩⟩⟩⟩⟩⟩⟩⟩⟩⟩⟩⟩⟩⟩⟩⟩⟩⟩⟩⟩⟩⟩⟩⟩
set_option maxRecDepth 20000 in
theorem zmM13 : ∀ q ∈ zmthT13, q.2.1 < 5 → zMok q.2.2.2.1 := List.forall_mem_cons.mpr ⟨fun _ => zoX11_init, List.forall_mem_cons.mpr ⟨fun _ => zoX12_init, List.forall_mem_cons.mpr ⟨fun _ => zoX11_feed, List.forall_mem_cons.mpr ⟨fun _ => zoX12_feed, List.forall_mem_cons.mpr ⟨fun _ => zoX11_post, List.forall_mem_cons.mpr ⟨fun _ => zoX12_post, List.forall_mem_cons.mpr ⟨fun _ => zoX11_fault, List.forall_mem_cons.mpr ⟨fun _ => zoX12_fault, List.forall_mem_cons.mpr ⟨fun _ => zoX11_where, List.forall_mem_cons.mpr ⟨fun _ => zoX12_where, List.forall_mem_cons.mpr ⟨fun _ => zoX11_whale, List.forall_mem_cons.mpr ⟨fun _ => zoX12_whale, List.forall_mem_cons.mpr ⟨fun _ => zoX11_box, List.forall_mem_cons.mpr ⟨fun _ => zoX12_box, List.forall_mem_cons.mpr ⟨fun _ => zoX11_length, List.forall_mem_cons.mpr ⟨fun _ => zoX12_length, List.forall_mem_cons.mpr ⟨fun _ => zoX11_note, List.forall_mem_cons.mpr ⟨fun _ => zoX12_note, List.forall_mem_cons.mpr ⟨fun _ => zoX11_sung, List.forall_mem_cons.mpr ⟨fun _ => zoX12_sung, List.forall_mem_cons.mpr ⟨fun _ => zoX11_heard, List.forall_mem_cons.mpr ⟨fun _ => zoX12_heard, List.forall_mem_cons.mpr ⟨fun _ => zoX11_way, List.forall_mem_cons.mpr ⟨fun _ => zoX12_way, List.forall_mem_cons.mpr ⟨fun _ => zoX11_season, List.forall_mem_cons.mpr ⟨fun _ => zoX12_season, List.forall_mem_cons.mpr ⟨fun _ => zoX11_sets, List.forall_mem_cons.mpr ⟨fun _ => zoX12_sets, List.forall_mem_cons.mpr ⟨fun _ => zoX11_sent, List.forall_mem_cons.mpr ⟨fun _ => zoX12_sent, List.forall_mem_cons.mpr ⟨fun _ => zoX11_apart, List.forall_mem_cons.mpr ⟨fun _ => zoX12_apart, List.forall_mem_cons.mpr ⟨fun _ => zoX11_bear, List.forall_mem_cons.mpr ⟨fun _ => zoX12_bear, List.forall_mem_cons.mpr ⟨fun _ => zoX11_mixed, List.forall_mem_cons.mpr ⟨fun _ => zoX12_mixed, List.forall_mem_cons.mpr ⟨fun _ => zoX11_fresh, List.forall_mem_cons.mpr ⟨fun _ => zoX12_fresh, List.forall_mem_cons.mpr ⟨fun _ => zoX11_byTurns, List.forall_mem_cons.mpr ⟨fun _ => zoX12_byTurns, List.forall_mem_cons.mpr ⟨fun _ => zoX11_near, List.forall_mem_cons.mpr ⟨fun _ => zoX12_near, List.forall_mem_cons.mpr ⟨fun _ => zoX11_asNear, List.forall_mem_cons.mpr ⟨fun _ => zoX12_asNear, List.forall_mem_cons.mpr ⟨fun _ => zoX11_heardIn, List.forall_mem_cons.mpr ⟨fun _ => zoX12_heardIn, List.forall_mem_cons.mpr ⟨fun _ => zoX11_strange, List.forall_mem_cons.mpr ⟨fun _ => zoX12_strange, List.forall_mem_cons.mpr ⟨fun _ => zoX11_arrival, List.forall_mem_cons.mpr ⟨fun _ => zoX12_arrival, List.forall_mem_cons.mpr ⟨fun _ => zoX11_brings, List.forall_mem_cons.mpr ⟨fun _ => zoX12_brings, List.forall_mem_cons.mpr ⟨fun _ => zoX11_soonest, List.forall_mem_cons.mpr ⟨fun _ => zoX12_soonest, List.forall_mem_cons.mpr ⟨fun _ => zoX11_surest, List.forall_mem_cons.mpr ⟨fun _ => zoX12_surest, List.forall_mem_cons.mpr ⟨fun _ => zoX11_by, List.forall_mem_cons.mpr ⟨fun _ => zoX12_by, List.forall_mem_cons.mpr ⟨fun _ => zoX11_registered, List.forall_mem_cons.mpr ⟨fun _ => zoX12_registered, List.forall_mem_cons.mpr ⟨fun _ => zoX11_match, List.forall_mem_cons.mpr ⟨fun _ => zoX12_match, List.forall_mem_cons.mpr ⟨fun _ => zoX11_matchDays, List.forall_mem_cons.mpr ⟨fun _ => zoX12_matchDays, List.forall_mem_cons.mpr ⟨fun _ => zoX11_matchOf, List.forall_mem_cons.mpr ⟨fun _ => zoX12_matchOf, List.forall_mem_cons.mpr ⟨fun _ => zoX11_meet, List.forall_mem_cons.mpr ⟨fun _ => zoX12_meet, List.forall_mem_cons.mpr ⟨fun _ => zoX11_fits, List.forall_mem_cons.mpr ⟨fun _ => zoX12_fits, List.forall_mem_cons.mpr ⟨fun _ => zoX11_reach, List.forall_mem_cons.mpr ⟨fun _ => zoX12_reach, List.forall_mem_cons.mpr ⟨fun _ => zoX11_pier, List.forall_mem_cons.mpr ⟨fun _ => zoX12_pier, List.forall_mem_cons.mpr ⟨fun _ => zoX11_watch, List.forall_mem_cons.mpr ⟨fun _ => zoX12_watch, List.forall_mem_cons.mpr ⟨fun _ => zoX11_round, List.forall_mem_cons.mpr ⟨fun _ => zoX12_round, List.forall_mem_cons.mpr ⟨fun _ => zoX11_roundAt, List.forall_mem_cons.mpr ⟨fun _ => zoX12_roundAt, List.forall_mem_cons.mpr ⟨fun _ => zoX11_decade, List.forall_mem_cons.mpr ⟨fun _ => zoX12_decade, List.forall_mem_cons.mpr ⟨fun _ => zoX11_send, List.forall_mem_cons.mpr ⟨fun _ => zoX12_send, List.forall_mem_cons.mpr ⟨fun _ => zoX11_tune, List.forall_mem_cons.mpr ⟨fun _ => zoX12_tune, List.forall_mem_cons.mpr ⟨fun _ => zoX11_years, List.forall_mem_cons.mpr ⟨fun _ => zoX12_years, List.forall_mem_cons.mpr ⟨fun _ => zoX11_close, List.forall_mem_cons.mpr ⟨fun _ => zoX12_close, List.forall_mem_cons.mpr ⟨fun _ => zoX11_undo, List.forall_mem_cons.mpr ⟨fun _ => zoX12_undo, List.forall_mem_cons.mpr ⟨fun _ => zoX11_image, List.forall_mem_cons.mpr ⟨fun _ => zoX12_image, List.forall_mem_cons.mpr ⟨fun _ => zoX11_back, List.forall_mem_cons.mpr ⟨fun _ => zoX12_back, List.forall_mem_cons.mpr ⟨fun h => absurd h (by decide), List.forall_mem_cons.mpr ⟨fun _ => zoX12_led, List.forall_mem_cons.mpr ⟨fun _ => zoX11_size, List.forall_mem_cons.mpr ⟨fun _ => zoX12_size, List.forall_mem_cons.mpr ⟨fun _ => zoX11_trouble, List.forall_mem_cons.mpr ⟨fun _ => zoX12_trouble, fun _ h => absurd h List.not_mem_nil⟩⟩⟩⟩⟩⟩⟩⟩⟩⟩⟩⟩⟩⟩⟩⟩⟩⟩⟩⟩⟩⟩⟩⟩⟩⟩⟩⟩⟩⟩⟩⟩⟩⟩⟩⟩⟩⟩⟩⟩⟩⟩⟩⟩⟩⟩⟩⟩⟩⟩⟩⟩⟩⟩⟩⟩⟩⟩⟩⟩⟩⟩⟩⟩⟩⟩⟩⟩⟩⟩⟩⟩⟩⟩⟩⟩⟩⟩⟩⟩⟩⟩⟩⟩⟩⟩⟩⟩⟩⟩⟩⟩⟩⟩⟩⟩⟩⟩⟩⟩⟩⟩
set_option maxRecDepth 20000 in
theorem zmM14 : ∀ q ∈ zmthT14, q.2.1 < 5 → zMok q.2.2.2.1 := List.forall_mem_cons.mpr ⟨fun _ => zoJ0_coder_7d493, List.forall_mem_cons.mpr ⟨fun _ => zoJ0_isLatin1_aae02, List.forall_mem_cons.mpr ⟨fun _ => zoJ1_charAt_3b067, List.forall_mem_cons.mpr ⟨fun _ => zoJ3_checkIndex_8e157, fun _ h => absurd h List.not_mem_nil⟩⟩⟩⟩
set_option maxRecDepth 20000 in
theorem zmM15 : ∀ q ∈ zmthT15, q.2.1 < 5 → zMok q.2.2.2.1 := List.forall_mem_cons.mpr ⟨fun _ => zoJ0_checkIndex_df160, fun _ h => absurd h List.not_mem_nil⟩
set_option maxRecDepth 20000 in
theorem zmM16 : ∀ q ∈ zmthT16, q.2.1 < 5 → zMok q.2.2.2.1 := fun _ h => absurd h List.not_mem_nil
set_option maxRecDepth 20000 in
theorem zmM17 : ∀ q ∈ zmthT17, q.2.1 < 5 → zMok q.2.2.2.1 := fun _ h => absurd h List.not_mem_nil
set_option maxRecDepth 20000 in
theorem zmM18 : ∀ q ∈ zmthT18, q.2.1 < 5 → zMok q.2.2.2.1 := fun _ h => absurd h List.not_mem_nil
theorem zmM : ∀ o, o < 19 → ∀ q ∈ zmthTT.getD o [], q.2.1 < 5 → zMok q.2.2.2.1
  | 0, _ => zmM0
  | 1, _ => zmM1
  | 2, _ => zmM2
  | 3, _ => zmM3
  | 4, _ => zmM4
  | 5, _ => zmM5
  | 6, _ => zmM6
  | 7, _ => zmM7
  | 8, _ => zmM8
  | 9, _ => zmM9
  | 10, _ => zmM10
  | 11, _ => zmM11
  | 12, _ => zmM12
  | 13, _ => zmM13
  | 14, _ => zmM14
  | 15, _ => zmM15
  | 16, _ => zmM16
  | 17, _ => zmM17
  | 18, _ => zmM18
  | _ + 19, h => absurd h (by omega)
set_option maxRecDepth 20000 in
theorem zobjK : Cond.instanceMethod Lib.objectInit ∈ zws ∧ Cond.code Lib.objectInit ⟨#[0xb1]⟩ 1 none ∈ zws := ⟨zws_in (i := 1032) (by decide +kernel) (by decide +kernel), zws_in (i := 1033) (by decide +kernel) (by decide +kernel)⟩
set_option maxRecDepth 20000 in
theorem zmaxK : Cond.static Lib.Math.max.name ∈ zws ∧ Cond.initialized "java/lang/Math" ∈ zws ∧ Cond.code Lib.Math.max.name Lib.Math.max.code 2 (some .int) ∈ zws := ⟨zws_in (i := 4217) (by decide +kernel) (by decide +kernel), zws_in (i := 1014) (by decide +kernel) (by decide +kernel), zws_in (i := 4218) (by decide +kernel) (by decide +kernel)⟩
set_option maxRecDepth 20000 in
theorem zminK : Cond.static Lib.Math.min.name ∈ zws ∧ Cond.initialized "java/lang/Math" ∈ zws ∧ Cond.code Lib.Math.min.name Lib.Math.min.code 2 (some .int) ∈ zws := ⟨zws_in (i := 3039) (by decide +kernel) (by decide +kernel), zws_in (i := 1014) (by decide +kernel) (by decide +kernel), zws_in (i := 3040) (by decide +kernel) (by decide +kernel)⟩
set_option maxRecDepth 20000 in
theorem zabsK : Cond.static Lib.Math.abs.name ∈ zws ∧ Cond.initialized "java/lang/Math" ∈ zws ∧ Cond.code Lib.Math.abs.name Lib.Math.abs.code 1 (some .int) ∈ zws := ⟨zws_in (i := 5093) (by decide +kernel) (by decide +kernel), zws_in (i := 1014) (by decide +kernel) (by decide +kernel), zws_in (i := 5094) (by decide +kernel) (by decide +kernel)⟩
set_option maxRecDepth 20000 in
theorem zcpyK : Cond.native arraycopyName ∈ zws ∧ Cond.static arraycopyName ∈ zws ∧ Cond.initialized "java/lang/System" ∈ zws := ⟨zws_in (i := 5174) (by decide +kernel) (by decide +kernel), zws_in (i := 5173) (by decide +kernel) (by decide +kernel), zws_in (i := 1021) (by decide +kernel) (by decide +kernel)⟩
