set_option maxRecDepth 100000 in
theorem zyL : (zfl zL228).all (rwOk code) = true := dkW_ok _ 0 _ (dkA_0 _) (by decide +kernel)
theorem dcOk {z pc : Nat} {r : Row} (hz : z < 229) (h : row z pc = some r) : rwOk (mB z) (pc, r) = true := by
  have hm : (pc, r) ∈ mW z := rwc_mem h
  rcases Nat.lt_or_ge z 228 with q | q
  · exact List.all_eq_true.mp (dc_w z (List.mem_range.mpr q)) _ hm
  · have e : z = 228 := by omega
    subst e
    exact List.all_eq_true.mp zyL _ hm
