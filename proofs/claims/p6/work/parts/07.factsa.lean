def zpc (p : Nat) : Option Cond := match p / 1000 with
  | 0 => (k2_sels lw_privs)[p % 1000]?
  | 1 => tables_1_1[p % 1000]?
  | 2 => tables_1_2[p % 1000]?
  | 3 => tables_1_3[p % 1000]?
  | 4 => tables_1_4[p % 1000]?
  | 5 => tables_1_5[p % 1000]?
  | 6 => tables_1_6[p % 1000]?
  | 7 => tables_1_7[p % 1000]?
  | _ => tables_1_8[p % 1000]?
theorem zpc_in {p : Nat} {w : Cond} (h : zpc p = some w) : w ∈ lw_tbl := by
  unfold zpc at h
  unfold lw_tbl tables_1
  split at h
  · exact List.mem_append_left _ (List.mem_of_getElem? h)
  · exact List.mem_append_right _ (List.mem_append_left _ (List.mem_of_getElem? h))
  · exact List.mem_append_right _ (List.mem_append_right _ (List.mem_append_left _ (List.mem_of_getElem? h)))
  · exact List.mem_append_right _ (List.mem_append_right _ (List.mem_append_right _ (List.mem_append_left _ (List.mem_of_getElem? h))))
  · exact List.mem_append_right _ (List.mem_append_right _ (List.mem_append_right _ (List.mem_append_right _ (List.mem_append_left _ (List.mem_of_getElem? h)))))
  · exact List.mem_append_right _ (List.mem_append_right _ (List.mem_append_right _ (List.mem_append_right _ (List.mem_append_right _ (List.mem_append_left _ (List.mem_of_getElem? h))))))
  · exact List.mem_append_right _ (List.mem_append_right _ (List.mem_append_right _ (List.mem_append_right _ (List.mem_append_right _ (List.mem_append_right _ (List.mem_append_left _ (List.mem_of_getElem? h)))))))
  · exact List.mem_append_right _ (List.mem_append_right _ (List.mem_append_right _ (List.mem_append_right _ (List.mem_append_right _ (List.mem_append_right _ (List.mem_append_right _ (List.mem_append_left _ (List.mem_of_getElem? h))))))))
  · exact List.mem_append_right _ (List.mem_append_right _ (List.mem_append_right _ (List.mem_append_right _ (List.mem_append_right _ (List.mem_append_right _ (List.mem_append_right _ (List.mem_append_right _ (List.mem_of_getElem? h))))))))
theorem zws_in {i : Nat} {w : Cond} (h1 : zpc i = some w) (h2 : goodWord w = true) : w ∈ zws := List.mem_filter.mpr ⟨zpc_in h1, h2⟩
theorem zws_of {ws : List Cond} (ps : List Nat) (h1 : ps.map (fun i => zpc i) = ws.map some) (h2 : ws.all goodWord = true) : ∀ w ∈ ws, w ∈ zws := by
  intro w hw
  have h3 : some w ∈ ps.map (fun i => zpc i) := by rw [h1]; exact List.mem_map.mpr ⟨w, hw, rfl⟩
  obtain ⟨i, -, hi⟩ := List.mem_map.mp h3
  exact zws_in hi (List.all_eq_true.mp h2 w hw)
theorem zws_good : ∀ w ∈ zws, (w.onTables && w.keeps) = true ∨ ∃ ty, w = .arrayClass ty := fun w hw => good_of_word (List.mem_filter.mp hw).2
theorem zws_tbl : ∀ w ∈ zws, w ∈ lw_tbl := fun w hw => (List.mem_filter.mp hw).1
theorem zlook_mem {α : Type} {l : List (Nat × α)} {i : Nat} {v : α} (h : zlook l i = some v) : (i, v) ∈ l := by
  induction l with
  | nil => cases h
  | cons q t ih =>
    unfold zlook at h
    split at h
    · next e => cases h; subst e; exact List.mem_cons_self
    · exact List.mem_cons_of_mem _ (ih h)
set_option maxRecDepth 20000 in
theorem zcw0 : ∀ w ∈ u_ws RX0 TX0 4, w ∈ zws := zws_of [1123, 1125, 1127, 1129] (by decide +kernel) (by decide +kernel)
set_option maxRecDepth 20000 in
theorem zcw1 : ∀ w ∈ u_ws RX1 TX1 5, w ∈ zws := zws_of [2193, 2195, 2197, 2199, 2201] (by decide +kernel) (by decide +kernel)
set_option maxRecDepth 20000 in
theorem zcw2 : ∀ w ∈ u_ws RX2 TX2 7, w ∈ zws := zws_of [2082, 2084, 2086, 2088, 2090, 2092, 2094] (by decide +kernel) (by decide +kernel)
set_option maxRecDepth 20000 in
theorem zcw3 : ∀ w ∈ u_ws RX3 TX3 4, w ∈ zws := zws_of [2169, 2171, 2173, 2175] (by decide +kernel) (by decide +kernel)
set_option maxRecDepth 20000 in
theorem zcw4 : ∀ w ∈ u_ws RX4 TX4 15, w ∈ zws := zws_of [1218, 1220, 1222, 1224, 1226, 1228, 1230, 1232, 1234, 1236, 1238, 2000, 2002, 2004, 2006] (by decide +kernel) (by decide +kernel)
set_option maxRecDepth 20000 in
theorem zcw5 : ∀ w ∈ u_ws RX5 TX5 13, w ∈ zws := zws_of [2030, 2032, 2034, 2036, 2038, 2040, 2042, 2044, 2046, 2048, 2050, 2052, 2054] (by decide +kernel) (by decide +kernel)
set_option maxRecDepth 20000 in
theorem zcw6 : ∀ w ∈ u_ws RX6 TX6 7, w ∈ zws := zws_of [2142, 2144, 2146, 2148, 2150, 2152, 2154] (by decide +kernel) (by decide +kernel)
set_option maxRecDepth 20000 in
theorem zcw7 : ∀ w ∈ u_ws RX7 TX7 6, w ∈ zws := zws_of [2114, 2116, 2118, 2120, 2122, 2124] (by decide +kernel) (by decide +kernel)
set_option maxRecDepth 20000 in
theorem zcw8 : ∀ w ∈ u_ws RX8 TX8 3, w ∈ zws := zws_of [1144, 1146, 1148] (by decide +kernel) (by decide +kernel)
set_option maxRecDepth 20000 in
theorem zcw9 : ∀ w ∈ u_ws RX9 TX9 4, w ∈ zws := zws_of [1068, 1070, 1072, 1074] (by decide +kernel) (by decide +kernel)
set_option maxRecDepth 20000 in
theorem zcw10 : ∀ w ∈ u_ws RX10 TX10 4, w ∈ zws := zws_of [1096, 1098, 1100, 1102] (by decide +kernel) (by decide +kernel)
set_option maxRecDepth 20000 in
theorem zcw11 : ∀ w ∈ u_ws RX11 TX11 16, w ∈ zws := zws_of [2221, 2223, 2225, 2227, 2229, 2231, 2233, 2235, 2237, 2239, 3001, 3003, 3005, 3007, 3009, 3011] (by decide +kernel) (by decide +kernel)
set_option maxRecDepth 20000 in
theorem zcw12 : ∀ w ∈ u_ws RX12 TX12 39, w ∈ zws := zws_of [6095, 6097, 6099, 6101, 6103, 6105, 6107, 6109, 6111, 6113, 6115, 6117, 6119, 6121, 6123, 6125, 6127, 6129, 6131, 6133, 6135, 6137, 6139, 6141, 6143, 6145, 6147, 6149, 6151, 6153, 6155, 6157, 6159, 6161, 6163, 6165, 6167, 6169, 6171] (by decide +kernel) (by decide +kernel)
