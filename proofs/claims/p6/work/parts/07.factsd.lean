def zrefT (t : FieldType) : Bool := match t with
  | .object _ => true
  | .array _ => true
  | _ => false
def zftok (ci f : Nat) : Bool := match (zft ci).getD f 9 with
  | 0 => decide (zty ci f = .int)
  | 1 => decide (zty ci f = .boolean)
  | 3 => zrefT (zty ci f)
  | _ => false
theorem zft_ok : (List.range 13).all (fun ci => (List.range (zft ci).length).all (fun f => zftok ci f && decide ((zTT ci f).1 = zRn ci))) = true := by decide +kernel
def zfldC (o : Nat) (q : Nat × Nat × Nat × Nat) : Bool := decide (q.2.1 < 13) && decide (q.2.2.1 < (zft q.2.1).length) && decide (zpc q.2.2.2 = some (Cond.fieldLink (zRn o) q.1 (zRn q.2.1) (zTT q.2.1 q.2.2.1).2.1 (zTT q.2.1 q.2.2.1).2.2.1)) && goodWord (Cond.fieldLink (zRn o) q.1 (zRn q.2.1) (zTT q.2.1 q.2.2.1).2.1 (zTT q.2.1 q.2.2.1).2.2.1)
set_option maxRecDepth 20000 in
theorem zfldK0 : (zfldTT.getD 0 []).all (zfldC 0) = true := by decide +kernel
set_option maxRecDepth 20000 in
theorem zfldK1 : (zfldTT.getD 1 []).all (zfldC 1) = true := by decide +kernel
set_option maxRecDepth 20000 in
theorem zfldK2 : (zfldTT.getD 2 []).all (zfldC 2) = true := by decide +kernel
set_option maxRecDepth 20000 in
theorem zfldK3 : (zfldTT.getD 3 []).all (zfldC 3) = true := by decide +kernel
set_option maxRecDepth 20000 in
theorem zfldK4 : (zfldTT.getD 4 []).all (zfldC 4) = true := by decide +kernel
set_option maxRecDepth 20000 in
theorem zfldK5 : (zfldTT.getD 5 []).all (zfldC 5) = true := by decide +kernel
set_option maxRecDepth 20000 in
theorem zfldK6 : (zfldTT.getD 6 []).all (zfldC 6) = true := by decide +kernel
set_option maxRecDepth 20000 in
theorem zfldK7 : (zfldTT.getD 7 []).all (zfldC 7) = true := by decide +kernel
set_option maxRecDepth 20000 in
theorem zfldK8 : (zfldTT.getD 8 []).all (zfldC 8) = true := by decide +kernel
set_option maxRecDepth 20000 in
theorem zfldK9 : (zfldTT.getD 9 []).all (zfldC 9) = true := by decide +kernel
set_option maxRecDepth 20000 in
theorem zfldK10 : (zfldTT.getD 10 []).all (zfldC 10) = true := by decide +kernel
set_option maxRecDepth 20000 in
theorem zfldK11 : (zfldTT.getD 11 []).all (zfldC 11) = true := by decide +kernel
set_option maxRecDepth 20000 in
theorem zfldK12 : (zfldTT.getD 12 []).all (zfldC 12) = true := by decide +kernel
set_option maxRecDepth 20000 in
theorem zfldK13 : (zfldTT.getD 13 []).all (zfldC 13) = true := by decide +kernel
set_option maxRecDepth 20000 in
theorem zfldK14 : (zfldTT.getD 14 []).all (zfldC 14) = true := by decide +kernel
set_option maxRecDepth 20000 in
theorem zfldK15 : (zfldTT.getD 15 []).all (zfldC 15) = true := by decide +kernel
set_option maxRecDepth 20000 in
theorem zfldK16 : (zfldTT.getD 16 []).all (zfldC 16) = true := by decide +kernel
set_option maxRecDepth 20000 in
theorem zfldK17 : (zfldTT.getD 17 []).all (zfldC 17) = true := by decide +kernel
set_option maxRecDepth 20000 in
theorem zfldK18 : (zfldTT.getD 18 []).all (zfldC 18) = true := by decide +kernel
