set_option maxRecDepth 100000 in
theorem zy0 : zL228_0.all (rwOk code) = true := by decide +kernel
set_option maxRecDepth 100000 in
theorem zy1 : zL228_1.all (rwOk code) = true := by decide +kernel
set_option maxRecDepth 100000 in
theorem zy2 : zL228_2.all (rwOk code) = true := by decide +kernel
set_option maxRecDepth 100000 in
theorem zy3 : zL228_3.all (rwOk code) = true := by decide +kernel
set_option maxRecDepth 100000 in
theorem zy4 : zL228_4.all (rwOk code) = true := by decide +kernel
set_option maxRecDepth 100000 in
theorem zy5 : zL228_5.all (rwOk code) = true := by decide +kernel
set_option maxRecDepth 100000 in
theorem zy6 : zL228_6.all (rwOk code) = true := by decide +kernel
set_option maxRecDepth 100000 in
theorem zy7 : zL228_7.all (rwOk code) = true := by decide +kernel
set_option maxRecDepth 100000 in
theorem zy8 : zL228_8.all (rwOk code) = true := by decide +kernel
set_option maxRecDepth 100000 in
theorem zy9 : zL228_9.all (rwOk code) = true := by decide +kernel
set_option maxRecDepth 100000 in
theorem zy10 : zL228_10.all (rwOk code) = true := by decide +kernel
set_option maxRecDepth 100000 in
theorem zy11 : zL228_11.all (rwOk code) = true := by decide +kernel
set_option maxRecDepth 100000 in
theorem zy12 : zL228_12.all (rwOk code) = true := by decide +kernel
set_option maxRecDepth 100000 in
theorem zy13 : zL228_13.all (rwOk code) = true := by decide +kernel
set_option maxRecDepth 100000 in
theorem zy14 : zL228_14.all (rwOk code) = true := by decide +kernel
set_option maxRecDepth 100000 in
theorem zy15 : zL228_15.all (rwOk code) = true := by decide +kernel
set_option maxRecDepth 100000 in
theorem zy16 : zL228_16.all (rwOk code) = true := by decide +kernel
set_option maxRecDepth 100000 in
theorem zy17 : zL228_17.all (rwOk code) = true := by decide +kernel
set_option maxRecDepth 100000 in
theorem zy18 : zL228_18.all (rwOk code) = true := by decide +kernel
set_option maxRecDepth 100000 in
theorem zy19 : zL228_19.all (rwOk code) = true := by decide +kernel
set_option maxRecDepth 100000 in
theorem zy20 : zL228_20.all (rwOk code) = true := by decide +kernel
set_option maxRecDepth 100000 in
theorem zy21 : zL228_21.all (rwOk code) = true := by decide +kernel
set_option maxRecDepth 100000 in
theorem zy22 : zL228_22.all (rwOk code) = true := by decide +kernel
set_option maxRecDepth 100000 in
theorem zy23 : zL228_23.all (rwOk code) = true := by decide +kernel
set_option maxRecDepth 100000 in
theorem zy24 : zL228_24.all (rwOk code) = true := by decide +kernel
set_option maxRecDepth 100000 in
theorem zy25 : zL228_25.all (rwOk code) = true := by decide +kernel
set_option maxRecDepth 100000 in
theorem zy26 : zL228_26.all (rwOk code) = true := by decide +kernel
set_option maxRecDepth 100000 in
theorem zy27 : zL228_27.all (rwOk code) = true := by decide +kernel
theorem all_app {b : ByteArray} {x y : List (Nat × Row)} (hx : x.all (rwOk b) = true) (hy : y.all (rwOk b) = true) : (x ++ y).all (rwOk b) = true := by rw [List.all_append, hx, hy]; rfl
theorem zyL : (zfl zL228).all (rwOk code) = true := all_app zy0 (all_app zy1 (all_app zy2 (all_app zy3 (all_app zy4 (all_app zy5 (all_app zy6 (all_app zy7 (all_app zy8 (all_app zy9 (all_app zy10 (all_app zy11 (all_app zy12 (all_app zy13 (all_app zy14 (all_app zy15 (all_app zy16 (all_app zy17 (all_app zy18 (all_app zy19 (all_app zy20 (all_app zy21 (all_app zy22 (all_app zy23 (all_app zy24 (all_app zy25 (all_app zy26 (all_app zy27 (rfl))))))))))))))))))))))))))))
theorem dcOk {z pc : Nat} {r : Row} (hz : z < 229) (h : row z pc = some r) : rwOk (mB z) (pc, r) = true := by
  have hm : (pc, r) ∈ mW z := rwc_mem h
  rcases Nat.lt_or_ge z 228 with q | q
  · exact List.all_eq_true.mp (dc_w z (List.mem_range.mpr q)) _ hm
  · have e : z = 228 := by omega
    subst e
    exact List.all_eq_true.mp zyL _ hm
