/-- the first list's words stand in the second, in its order -/
def sbq : List Cond → List Cond → Bool
  | [], _ => true
  | _ :: _, [] => false
  | x :: xs, y :: ys => if x = y then sbq xs ys else sbq (x :: xs) ys
theorem sbq_ok : ∀ (b a : List Cond), sbq a b = true → ∀ w ∈ a, w ∈ b
  | _, [], _, w, hw => absurd hw List.not_mem_nil
  | [], _ :: _, h, _, _ => by simp [sbq] at h
  | y :: ys, x :: xs, h, w, hw => by
    rw [sbq] at h
    split at h
    · rename_i e
      rcases List.mem_cons.mp hw with rfl | hw
      · rw [e]; exact List.mem_cons_self
      · exact List.mem_cons_of_mem _ (sbq_ok ys xs h w hw)
    · exact List.mem_cons_of_mem _ (sbq_ok ys (x :: xs) h w hw)
def zC (ci : Nat) : vw_C := zCl.getD ci ("", zT0, 0)
def flW (q : Nat × Nat × Nat) : Cond := Cond.fieldLink (cN (q.1 / 10000)) (q.1 % 10000) (zC q.2.1).1 ((zC q.2.1).2.1 q.2.2).2.1 ((zC q.2.1).2.1 q.2.2).2.2.1
def flB (q : Nat × Nat × Nat) : Bool := q.2.1 == 15 || (decide (q.2.1 < 8) && (decide (q.2.2 < (zC q.2.1).2.2) && decide (((zC q.2.1).2.1 q.2.2).1 = (zC q.2.1).1)))
theorem fl_b : FLT.all flB = true := by decide +kernel
set_option maxRecDepth 100000 in
theorem fl_w : ∀ w ∈ (FLT.filter (fun q => !(q.2.1 == 15))).map flW, w ∈ lw_tbl := sbq_ok lw_tbl _ (by decide +kernel)
def mlW (q : Nat × Nat × Bool) : Cond := if q.2.1 = 1000 then Cond.methodLink (cN (q.1 / 10000)) (q.1 % 10000) Lib.Math.max.name else if q.2.1 = 1001 then Cond.methodLink (cN (q.1 / 10000)) (q.1 % 10000) Lib.Math.min.name else if q.2.1 = 1002 then Cond.methodLink (cN (q.1 / 10000)) (q.1 % 10000) arraycopyName else if q.2.2 = true then Cond.methodLinkNest (cN (q.1 / 10000)) (q.1 % 10000) (mY q.2.1) "EarRows" else Cond.methodLink (cN (q.1 / 10000)) (q.1 % 10000) (mY q.2.1)
theorem ml_b : MLT.all (fun q => decide (q.2.1 < 228) || decide (1000 ≤ q.2.1)) = true := by decide +kernel
set_option maxRecDepth 100000 in
theorem ml_w : ∀ w ∈ MLT.map mlW, w ∈ lw_tbl := sbq_ok lw_tbl _ (by decide +kernel)
set_option maxRecDepth 100000 in
theorem zc_all : ∀ w ∈ CLT.map (fun q => Cond.constant (cN (q.1 / 10000)) (q.1 % 10000) q.2), w ∈ lw_tbl := sbq_ok lw_tbl _ (by decide +kernel)
set_option maxRecDepth 100000 in
theorem zl_all : ∀ w ∈ LLT.map (fun q => Cond.constantLong (cN (q.1 / 10000)) (q.1 % 10000) q.2), w ∈ lw_tbl := sbq_ok lw_tbl _ (by decide +kernel)
set_option maxRecDepth 100000 in
theorem zs_all : ∀ w ∈ SLT.map (fun q => Cond.stringRef (cN (q.1 / 10000)) (q.1 % 10000) (stL.getD q.2 "")), w ∈ lw_tbl := sbq_ok lw_tbl _ (by decide +kernel)
def pmC : List Nat := [54, 111, 117, 112, 107, 1, 2, 55, 56, 4, 3, 57, 5, 58, 59, 60, 114, 113, 7, 8, 25, 61, 108, 214, 216, 62, 63, 64, 65, 217, 218, 66, 67, 68, 110, 9, 12, 13, 215, 14, 27, 69, 15, 70, 17, 16, 71, 72, 78, 0, 24, 73, 74, 75, 10, 11, 76, 77, 109, 28, 79, 80, 81, 26, 82, 83, 18, 84, 19, 6, 220, 85, 86, 21, 23, 22, 87, 88, 89, 29, 90, 91, 92, 34, 93, 94, 36, 49, 50, 52, 51, 35, 37, 47, 53, 221, 223, 222, 224, 226, 225, 227, 38, 48, 39, 40, 41, 42, 43, 44, 45, 46, 95, 115, 116, 31, 219, 96, 30, 32, 97, 33, 98, 99, 101, 100, 102, 103, 104, 105, 20, 106, 124, 123, 119, 120, 118, 125, 127, 126, 129, 128, 130, 137, 134, 135, 136, 132, 141, 131, 133, 140, 138, 139, 142, 143, 145, 144, 146, 147, 154, 153, 152, 151, 150, 148, 149, 155, 157, 156, 158, 160, 159, 121, 122, 161, 162, 166, 164, 163, 167, 168, 169, 165, 170, 171, 172, 174, 173, 175, 212, 176, 179, 177, 178, 180, 181, 182, 184, 183, 185, 186, 199, 188, 187, 194, 193, 189, 197, 190, 191, 196, 192, 195, 198, 202, 200, 203, 201, 204, 205, 207, 206, 208, 209, 210, 211, 213]
def pmS : List Nat := [111, 117, 112, 59, 114, 113, 214, 216, 63, 217, 218, 215, 220, 91, 226, 225, 227, 45, 115, 116, 219, 123, 119, 134, 135, 132, 138, 144, 121, 183, 200, 201]
def pmI : List Nat := [54, 107, 1, 2, 55, 56, 4, 3, 57, 5, 58, 60, 7, 8, 25, 61, 108, 62, 64, 65, 66, 67, 68, 110, 9, 12, 13, 14, 27, 69, 15, 70, 17, 16, 71, 72, 78, 0, 24, 73, 74, 75, 10, 11, 76, 77, 109, 28, 79, 80, 81, 26, 82, 83, 18, 84, 19, 6, 85, 86, 21, 23, 22, 87, 88, 89, 29, 90, 92, 34, 93, 94, 36, 49, 50, 52, 51, 35, 37, 47, 53, 221, 223, 222, 224, 38, 48, 39, 40, 41, 42, 43, 44, 46, 95, 31, 96, 30, 32, 97, 33, 98, 99, 101, 100, 102, 103, 104, 105, 20, 106, 124, 120, 118, 125, 127, 126, 129, 128, 130, 137, 136, 141, 131, 133, 140, 139, 142, 143, 145, 146, 147, 154, 153, 152, 151, 150, 148, 149, 155, 157, 156, 158, 160, 159, 122, 161, 162, 166, 164, 163, 167, 168, 169, 165, 170, 171, 172, 174, 173, 175, 212, 176, 179, 177, 178, 180, 181, 182, 184, 185, 186, 199, 188, 187, 194, 193, 189, 197, 190, 191, 196, 192, 195, 198, 202, 203, 204, 205, 207, 206, 208, 209, 210, 211, 213]
def pmV : List Nat := [107, 108, 110, 13, 14, 78, 11, 109, 52, 51, 37, 47, 38, 48, 39, 40, 41, 42, 43, 44, 46, 101, 120, 118, 126, 128, 136, 131, 133, 140, 139, 153, 152, 151, 150, 148, 149, 156, 159, 122, 164, 163, 165, 173, 177, 178, 188, 187, 194, 193, 189, 197, 190, 191, 196, 192, 195, 198, 206, 54, 1, 2, 55, 56, 4, 3, 57, 5, 58, 60, 7, 8, 25, 61, 62, 64, 65, 66, 67, 68, 9, 12, 27, 69, 15, 70, 17, 16, 71, 72, 0, 24, 73, 74, 75, 10, 76, 77, 28, 79, 80, 81, 26, 82, 83, 18, 84, 19, 6, 85, 86, 21, 23, 22, 87, 88, 89, 29, 90, 92, 34, 93, 94, 36, 49, 50, 35, 53, 221, 223, 222, 224, 95, 31, 96, 30, 32, 97, 33, 98, 99, 100, 102, 103, 104, 105, 20, 106, 124, 125, 127, 129, 130, 137, 141, 142, 143, 145, 146, 147, 154, 155, 157, 158, 160, 161, 162, 166, 167, 168, 169, 170, 171, 172, 174, 175, 212, 176, 179, 180, 181, 182, 184, 185, 186, 199, 202, 203, 204, 205, 207, 208, 209, 210, 211, 213]
def pmN : List Nat := [13, 6, 0, 1, 3, 4, 5, 2, 7, 8, 9, 10, 11, 12]
theorem inT1 {w : Cond} (h : w ∈ tables_1_1) : w ∈ lw_tbl := by
  show w ∈ k2_sels lw_privs ++ (tables_1_1 ++ (tables_1_2 ++ (tables_1_3 ++ (tables_1_4 ++ (tables_1_5 ++ (tables_1_6))))))
  exact List.mem_append_right _ (List.mem_append_left _ h)
theorem inT2 {w : Cond} (h : w ∈ tables_1_2) : w ∈ lw_tbl := by
  show w ∈ k2_sels lw_privs ++ (tables_1_1 ++ (tables_1_2 ++ (tables_1_3 ++ (tables_1_4 ++ (tables_1_5 ++ (tables_1_6))))))
  exact List.mem_append_right _ (List.mem_append_right _ (List.mem_append_left _ h))
theorem inT3 {w : Cond} (h : w ∈ tables_1_3) : w ∈ lw_tbl := by
  show w ∈ k2_sels lw_privs ++ (tables_1_1 ++ (tables_1_2 ++ (tables_1_3 ++ (tables_1_4 ++ (tables_1_5 ++ (tables_1_6))))))
  exact List.mem_append_right _ (List.mem_append_right _ (List.mem_append_right _ (List.mem_append_left _ h)))
theorem inT4 {w : Cond} (h : w ∈ tables_1_4) : w ∈ lw_tbl := by
  show w ∈ k2_sels lw_privs ++ (tables_1_1 ++ (tables_1_2 ++ (tables_1_3 ++ (tables_1_4 ++ (tables_1_5 ++ (tables_1_6))))))
  exact List.mem_append_right _ (List.mem_append_right _ (List.mem_append_right _ (List.mem_append_right _ (List.mem_append_left _ h))))
theorem inT5 {w : Cond} (h : w ∈ tables_1_5) : w ∈ lw_tbl := by
  show w ∈ k2_sels lw_privs ++ (tables_1_1 ++ (tables_1_2 ++ (tables_1_3 ++ (tables_1_4 ++ (tables_1_5 ++ (tables_1_6))))))
  exact List.mem_append_right _ (List.mem_append_right _ (List.mem_append_right _ (List.mem_append_right _ (List.mem_append_right _ (List.mem_append_left _ h)))))
theorem inT6 {w : Cond} (h : w ∈ tables_1_6) : w ∈ lw_tbl := by
  show w ∈ k2_sels lw_privs ++ (tables_1_1 ++ (tables_1_2 ++ (tables_1_3 ++ (tables_1_4 ++ (tables_1_5 ++ (tables_1_6))))))
  exact List.mem_append_right _ (List.mem_append_right _ (List.mem_append_right _ (List.mem_append_right _ (List.mem_append_right _ (List.mem_append_right _ (h))))))
def cdW (z : Nat) : Cond := Cond.code (mY z) (mB z) (mL z) (mR z)
theorem cw54 : cdW 54 ∈ lw_tbl := inT1 (List.mem_of_getElem? (i := 215) rfl)
theorem cw111 : cdW 111 ∈ lw_tbl := inT1 (List.mem_of_getElem? (i := 218) rfl)
theorem cw117 : cdW 117 ∈ lw_tbl := inT1 (List.mem_of_getElem? (i := 221) rfl)
theorem cw112 : cdW 112 ∈ lw_tbl := inT1 (List.mem_of_getElem? (i := 224) rfl)
theorem cw107 : cdW 107 ∈ lw_tbl := inT1 (List.mem_of_getElem? (i := 229) rfl)
theorem cw1 : cdW 1 ∈ lw_tbl := inT1 (List.mem_of_getElem? (i := 233) rfl)
theorem cw2 : cdW 2 ∈ lw_tbl := inT1 (List.mem_of_getElem? (i := 239) rfl)
theorem cw55 : cdW 55 ∈ lw_tbl := inT2 (List.mem_of_getElem? (i := 3) rfl)
theorem cw56 : cdW 56 ∈ lw_tbl := inT2 (List.mem_of_getElem? (i := 7) rfl)
theorem cw4 : cdW 4 ∈ lw_tbl := inT2 (List.mem_of_getElem? (i := 11) rfl)
theorem cw3 : cdW 3 ∈ lw_tbl := inT2 (List.mem_of_getElem? (i := 15) rfl)
theorem cw57 : cdW 57 ∈ lw_tbl := inT2 (List.mem_of_getElem? (i := 21) rfl)
theorem cw5 : cdW 5 ∈ lw_tbl := inT2 (List.mem_of_getElem? (i := 25) rfl)
theorem cw58 : cdW 58 ∈ lw_tbl := inT2 (List.mem_of_getElem? (i := 29) rfl)
theorem cw59 : cdW 59 ∈ lw_tbl := inT2 (List.mem_of_getElem? (i := 32) rfl)
theorem cw60 : cdW 60 ∈ lw_tbl := inT2 (List.mem_of_getElem? (i := 36) rfl)
theorem cw114 : cdW 114 ∈ lw_tbl := inT2 (List.mem_of_getElem? (i := 39) rfl)
theorem cw113 : cdW 113 ∈ lw_tbl := inT2 (List.mem_of_getElem? (i := 42) rfl)
theorem cw7 : cdW 7 ∈ lw_tbl := inT2 (List.mem_of_getElem? (i := 46) rfl)
theorem cw8 : cdW 8 ∈ lw_tbl := inT2 (List.mem_of_getElem? (i := 51) rfl)
theorem cw25 : cdW 25 ∈ lw_tbl := inT2 (List.mem_of_getElem? (i := 56) rfl)
theorem cw61 : cdW 61 ∈ lw_tbl := inT2 (List.mem_of_getElem? (i := 60) rfl)
theorem cw108 : cdW 108 ∈ lw_tbl := inT2 (List.mem_of_getElem? (i := 64) rfl)
theorem cw214 : cdW 214 ∈ lw_tbl := inT2 (List.mem_of_getElem? (i := 67) rfl)
theorem cw216 : cdW 216 ∈ lw_tbl := inT2 (List.mem_of_getElem? (i := 73) rfl)
theorem cw62 : cdW 62 ∈ lw_tbl := inT2 (List.mem_of_getElem? (i := 77) rfl)
theorem cw63 : cdW 63 ∈ lw_tbl := inT2 (List.mem_of_getElem? (i := 80) rfl)
theorem cw64 : cdW 64 ∈ lw_tbl := inT2 (List.mem_of_getElem? (i := 84) rfl)
theorem cw65 : cdW 65 ∈ lw_tbl := inT2 (List.mem_of_getElem? (i := 88) rfl)
theorem cw217 : cdW 217 ∈ lw_tbl := inT2 (List.mem_of_getElem? (i := 91) rfl)
theorem cw218 : cdW 218 ∈ lw_tbl := inT2 (List.mem_of_getElem? (i := 94) rfl)
theorem cw66 : cdW 66 ∈ lw_tbl := inT2 (List.mem_of_getElem? (i := 99) rfl)
theorem cw67 : cdW 67 ∈ lw_tbl := inT2 (List.mem_of_getElem? (i := 103) rfl)
theorem cw68 : cdW 68 ∈ lw_tbl := inT2 (List.mem_of_getElem? (i := 107) rfl)
theorem cw110 : cdW 110 ∈ lw_tbl := inT2 (List.mem_of_getElem? (i := 111) rfl)
theorem cw9 : cdW 9 ∈ lw_tbl := inT2 (List.mem_of_getElem? (i := 116) rfl)
theorem cw12 : cdW 12 ∈ lw_tbl := inT2 (List.mem_of_getElem? (i := 120) rfl)
theorem cw13 : cdW 13 ∈ lw_tbl := inT2 (List.mem_of_getElem? (i := 125) rfl)
theorem cw215 : cdW 215 ∈ lw_tbl := inT2 (List.mem_of_getElem? (i := 129) rfl)
theorem cw14 : cdW 14 ∈ lw_tbl := inT2 (List.mem_of_getElem? (i := 134) rfl)
theorem cw27 : cdW 27 ∈ lw_tbl := inT2 (List.mem_of_getElem? (i := 139) rfl)
theorem cw69 : cdW 69 ∈ lw_tbl := inT2 (List.mem_of_getElem? (i := 143) rfl)
theorem cw15 : cdW 15 ∈ lw_tbl := inT2 (List.mem_of_getElem? (i := 147) rfl)
theorem cw70 : cdW 70 ∈ lw_tbl := inT2 (List.mem_of_getElem? (i := 151) rfl)
theorem cw17 : cdW 17 ∈ lw_tbl := inT2 (List.mem_of_getElem? (i := 155) rfl)
theorem cw16 : cdW 16 ∈ lw_tbl := inT2 (List.mem_of_getElem? (i := 159) rfl)
theorem cw71 : cdW 71 ∈ lw_tbl := inT2 (List.mem_of_getElem? (i := 163) rfl)
theorem cw72 : cdW 72 ∈ lw_tbl := inT2 (List.mem_of_getElem? (i := 167) rfl)
theorem cw78 : cdW 78 ∈ lw_tbl := inT2 (List.mem_of_getElem? (i := 171) rfl)
theorem cw0 : cdW 0 ∈ lw_tbl := inT2 (List.mem_of_getElem? (i := 175) rfl)
theorem cw24 : cdW 24 ∈ lw_tbl := inT2 (List.mem_of_getElem? (i := 182) rfl)
theorem cw73 : cdW 73 ∈ lw_tbl := inT2 (List.mem_of_getElem? (i := 186) rfl)
theorem cw74 : cdW 74 ∈ lw_tbl := inT2 (List.mem_of_getElem? (i := 190) rfl)
theorem cw75 : cdW 75 ∈ lw_tbl := inT2 (List.mem_of_getElem? (i := 196) rfl)
theorem cw10 : cdW 10 ∈ lw_tbl := inT2 (List.mem_of_getElem? (i := 200) rfl)
theorem cw11 : cdW 11 ∈ lw_tbl := inT2 (List.mem_of_getElem? (i := 204) rfl)
theorem cw76 : cdW 76 ∈ lw_tbl := inT2 (List.mem_of_getElem? (i := 208) rfl)
theorem cw77 : cdW 77 ∈ lw_tbl := inT2 (List.mem_of_getElem? (i := 212) rfl)
theorem cw109 : cdW 109 ∈ lw_tbl := inT2 (List.mem_of_getElem? (i := 216) rfl)
theorem cw28 : cdW 28 ∈ lw_tbl := inT2 (List.mem_of_getElem? (i := 220) rfl)
theorem cw79 : cdW 79 ∈ lw_tbl := inT2 (List.mem_of_getElem? (i := 224) rfl)
theorem cw80 : cdW 80 ∈ lw_tbl := inT2 (List.mem_of_getElem? (i := 229) rfl)
theorem cw81 : cdW 81 ∈ lw_tbl := inT2 (List.mem_of_getElem? (i := 233) rfl)
theorem cw26 : cdW 26 ∈ lw_tbl := inT2 (List.mem_of_getElem? (i := 237) rfl)
theorem cw82 : cdW 82 ∈ lw_tbl := inT3 (List.mem_of_getElem? (i := 1) rfl)
theorem cw83 : cdW 83 ∈ lw_tbl := inT3 (List.mem_of_getElem? (i := 5) rfl)
theorem cw18 : cdW 18 ∈ lw_tbl := inT3 (List.mem_of_getElem? (i := 9) rfl)
theorem cw84 : cdW 84 ∈ lw_tbl := inT3 (List.mem_of_getElem? (i := 13) rfl)
theorem cw19 : cdW 19 ∈ lw_tbl := inT3 (List.mem_of_getElem? (i := 17) rfl)
theorem cw6 : cdW 6 ∈ lw_tbl := inT3 (List.mem_of_getElem? (i := 21) rfl)
theorem cw220 : cdW 220 ∈ lw_tbl := inT3 (List.mem_of_getElem? (i := 24) rfl)
theorem cw85 : cdW 85 ∈ lw_tbl := inT3 (List.mem_of_getElem? (i := 28) rfl)
theorem cw86 : cdW 86 ∈ lw_tbl := inT3 (List.mem_of_getElem? (i := 33) rfl)
theorem cw21 : cdW 21 ∈ lw_tbl := inT3 (List.mem_of_getElem? (i := 37) rfl)
theorem cw23 : cdW 23 ∈ lw_tbl := inT3 (List.mem_of_getElem? (i := 41) rfl)
theorem cw22 : cdW 22 ∈ lw_tbl := inT3 (List.mem_of_getElem? (i := 46) rfl)
theorem cw87 : cdW 87 ∈ lw_tbl := inT3 (List.mem_of_getElem? (i := 50) rfl)
theorem cw88 : cdW 88 ∈ lw_tbl := inT3 (List.mem_of_getElem? (i := 55) rfl)
theorem cw89 : cdW 89 ∈ lw_tbl := inT3 (List.mem_of_getElem? (i := 59) rfl)
theorem cw29 : cdW 29 ∈ lw_tbl := inT3 (List.mem_of_getElem? (i := 63) rfl)
theorem cw90 : cdW 90 ∈ lw_tbl := inT3 (List.mem_of_getElem? (i := 68) rfl)
theorem cw91 : cdW 91 ∈ lw_tbl := inT3 (List.mem_of_getElem? (i := 72) rfl)
theorem cw92 : cdW 92 ∈ lw_tbl := inT3 (List.mem_of_getElem? (i := 76) rfl)
theorem cw34 : cdW 34 ∈ lw_tbl := inT3 (List.mem_of_getElem? (i := 80) rfl)
theorem cw93 : cdW 93 ∈ lw_tbl := inT3 (List.mem_of_getElem? (i := 84) rfl)
theorem cw94 : cdW 94 ∈ lw_tbl := inT3 (List.mem_of_getElem? (i := 88) rfl)
theorem cw36 : cdW 36 ∈ lw_tbl := inT3 (List.mem_of_getElem? (i := 92) rfl)
theorem cw49 : cdW 49 ∈ lw_tbl := inT3 (List.mem_of_getElem? (i := 96) rfl)
theorem cw50 : cdW 50 ∈ lw_tbl := inT3 (List.mem_of_getElem? (i := 100) rfl)
theorem cw52 : cdW 52 ∈ lw_tbl := inT3 (List.mem_of_getElem? (i := 104) rfl)
theorem cw51 : cdW 51 ∈ lw_tbl := inT3 (List.mem_of_getElem? (i := 108) rfl)
theorem cw35 : cdW 35 ∈ lw_tbl := inT3 (List.mem_of_getElem? (i := 112) rfl)
theorem cw37 : cdW 37 ∈ lw_tbl := inT3 (List.mem_of_getElem? (i := 117) rfl)
theorem cw47 : cdW 47 ∈ lw_tbl := inT3 (List.mem_of_getElem? (i := 122) rfl)
theorem cw53 : cdW 53 ∈ lw_tbl := inT3 (List.mem_of_getElem? (i := 126) rfl)
theorem cw221 : cdW 221 ∈ lw_tbl := inT3 (List.mem_of_getElem? (i := 130) rfl)
theorem cw223 : cdW 223 ∈ lw_tbl := inT3 (List.mem_of_getElem? (i := 134) rfl)
theorem cw222 : cdW 222 ∈ lw_tbl := inT3 (List.mem_of_getElem? (i := 140) rfl)
theorem cw224 : cdW 224 ∈ lw_tbl := inT3 (List.mem_of_getElem? (i := 144) rfl)
theorem cw226 : cdW 226 ∈ lw_tbl := inT3 (List.mem_of_getElem? (i := 147) rfl)
theorem cw225 : cdW 225 ∈ lw_tbl := inT3 (List.mem_of_getElem? (i := 150) rfl)
theorem cw227 : cdW 227 ∈ lw_tbl := inT3 (List.mem_of_getElem? (i := 155) rfl)
theorem cw38 : cdW 38 ∈ lw_tbl := inT3 (List.mem_of_getElem? (i := 179) rfl)
theorem cw48 : cdW 48 ∈ lw_tbl := inT3 (List.mem_of_getElem? (i := 183) rfl)
theorem cw39 : cdW 39 ∈ lw_tbl := inT3 (List.mem_of_getElem? (i := 190) rfl)
theorem cw40 : cdW 40 ∈ lw_tbl := inT3 (List.mem_of_getElem? (i := 196) rfl)
theorem cw41 : cdW 41 ∈ lw_tbl := inT3 (List.mem_of_getElem? (i := 201) rfl)
theorem cw42 : cdW 42 ∈ lw_tbl := inT3 (List.mem_of_getElem? (i := 206) rfl)
theorem cw43 : cdW 43 ∈ lw_tbl := inT3 (List.mem_of_getElem? (i := 210) rfl)
theorem cw44 : cdW 44 ∈ lw_tbl := inT3 (List.mem_of_getElem? (i := 214) rfl)
theorem cw45 : cdW 45 ∈ lw_tbl := inT3 (List.mem_of_getElem? (i := 217) rfl)
theorem cw46 : cdW 46 ∈ lw_tbl := inT3 (List.mem_of_getElem? (i := 233) rfl)
theorem cw95 : cdW 95 ∈ lw_tbl := inT3 (List.mem_of_getElem? (i := 237) rfl)
theorem cw115 : cdW 115 ∈ lw_tbl := inT4 (List.mem_of_getElem? (i := 0) rfl)
theorem cw116 : cdW 116 ∈ lw_tbl := inT4 (List.mem_of_getElem? (i := 3) rfl)
theorem cw31 : cdW 31 ∈ lw_tbl := inT4 (List.mem_of_getElem? (i := 7) rfl)
theorem cw219 : cdW 219 ∈ lw_tbl := inT4 (List.mem_of_getElem? (i := 10) rfl)
theorem cw96 : cdW 96 ∈ lw_tbl := inT4 (List.mem_of_getElem? (i := 14) rfl)
theorem cw30 : cdW 30 ∈ lw_tbl := inT4 (List.mem_of_getElem? (i := 18) rfl)
theorem cw32 : cdW 32 ∈ lw_tbl := inT4 (List.mem_of_getElem? (i := 23) rfl)
theorem cw97 : cdW 97 ∈ lw_tbl := inT4 (List.mem_of_getElem? (i := 27) rfl)
theorem cw33 : cdW 33 ∈ lw_tbl := inT4 (List.mem_of_getElem? (i := 31) rfl)
theorem cw98 : cdW 98 ∈ lw_tbl := inT4 (List.mem_of_getElem? (i := 36) rfl)
theorem cw99 : cdW 99 ∈ lw_tbl := inT4 (List.mem_of_getElem? (i := 41) rfl)
theorem cw101 : cdW 101 ∈ lw_tbl := inT4 (List.mem_of_getElem? (i := 45) rfl)
theorem cw100 : cdW 100 ∈ lw_tbl := inT4 (List.mem_of_getElem? (i := 49) rfl)
theorem cw102 : cdW 102 ∈ lw_tbl := inT4 (List.mem_of_getElem? (i := 53) rfl)
theorem cw103 : cdW 103 ∈ lw_tbl := inT4 (List.mem_of_getElem? (i := 57) rfl)
theorem cw104 : cdW 104 ∈ lw_tbl := inT4 (List.mem_of_getElem? (i := 61) rfl)
theorem cw105 : cdW 105 ∈ lw_tbl := inT4 (List.mem_of_getElem? (i := 65) rfl)
theorem cw20 : cdW 20 ∈ lw_tbl := inT4 (List.mem_of_getElem? (i := 69) rfl)
theorem cw106 : cdW 106 ∈ lw_tbl := inT4 (List.mem_of_getElem? (i := 73) rfl)
theorem cw124 : cdW 124 ∈ lw_tbl := inT4 (List.mem_of_getElem? (i := 158) rfl)
theorem cw123 : cdW 123 ∈ lw_tbl := inT4 (List.mem_of_getElem? (i := 161) rfl)
theorem cw119 : cdW 119 ∈ lw_tbl := inT4 (List.mem_of_getElem? (i := 164) rfl)
theorem cw120 : cdW 120 ∈ lw_tbl := inT4 (List.mem_of_getElem? (i := 168) rfl)
theorem cw118 : cdW 118 ∈ lw_tbl := inT4 (List.mem_of_getElem? (i := 173) rfl)
theorem cw125 : cdW 125 ∈ lw_tbl := inT4 (List.mem_of_getElem? (i := 177) rfl)
theorem cw127 : cdW 127 ∈ lw_tbl := inT4 (List.mem_of_getElem? (i := 181) rfl)
theorem cw126 : cdW 126 ∈ lw_tbl := inT4 (List.mem_of_getElem? (i := 185) rfl)
theorem cw129 : cdW 129 ∈ lw_tbl := inT4 (List.mem_of_getElem? (i := 189) rfl)
theorem cw128 : cdW 128 ∈ lw_tbl := inT4 (List.mem_of_getElem? (i := 193) rfl)
theorem cw130 : cdW 130 ∈ lw_tbl := inT4 (List.mem_of_getElem? (i := 197) rfl)
theorem cw137 : cdW 137 ∈ lw_tbl := inT4 (List.mem_of_getElem? (i := 201) rfl)
theorem cw134 : cdW 134 ∈ lw_tbl := inT4 (List.mem_of_getElem? (i := 204) rfl)
theorem cw135 : cdW 135 ∈ lw_tbl := inT4 (List.mem_of_getElem? (i := 207) rfl)
theorem cw136 : cdW 136 ∈ lw_tbl := inT4 (List.mem_of_getElem? (i := 212) rfl)
theorem cw132 : cdW 132 ∈ lw_tbl := inT4 (List.mem_of_getElem? (i := 215) rfl)
theorem cw141 : cdW 141 ∈ lw_tbl := inT4 (List.mem_of_getElem? (i := 219) rfl)
theorem cw131 : cdW 131 ∈ lw_tbl := inT4 (List.mem_of_getElem? (i := 223) rfl)
theorem cw133 : cdW 133 ∈ lw_tbl := inT4 (List.mem_of_getElem? (i := 227) rfl)
theorem cw140 : cdW 140 ∈ lw_tbl := inT4 (List.mem_of_getElem? (i := 231) rfl)
theorem cw138 : cdW 138 ∈ lw_tbl := inT4 (List.mem_of_getElem? (i := 234) rfl)
theorem cw139 : cdW 139 ∈ lw_tbl := inT4 (List.mem_of_getElem? (i := 239) rfl)
theorem cw142 : cdW 142 ∈ lw_tbl := inT5 (List.mem_of_getElem? (i := 3) rfl)
theorem cw143 : cdW 143 ∈ lw_tbl := inT5 (List.mem_of_getElem? (i := 7) rfl)
theorem cw145 : cdW 145 ∈ lw_tbl := inT5 (List.mem_of_getElem? (i := 11) rfl)
theorem cw144 : cdW 144 ∈ lw_tbl := inT5 (List.mem_of_getElem? (i := 14) rfl)
theorem cw146 : cdW 146 ∈ lw_tbl := inT5 (List.mem_of_getElem? (i := 19) rfl)
theorem cw147 : cdW 147 ∈ lw_tbl := inT5 (List.mem_of_getElem? (i := 23) rfl)
theorem cw154 : cdW 154 ∈ lw_tbl := inT5 (List.mem_of_getElem? (i := 27) rfl)
theorem cw153 : cdW 153 ∈ lw_tbl := inT5 (List.mem_of_getElem? (i := 31) rfl)
theorem cw152 : cdW 152 ∈ lw_tbl := inT5 (List.mem_of_getElem? (i := 36) rfl)
theorem cw151 : cdW 151 ∈ lw_tbl := inT5 (List.mem_of_getElem? (i := 40) rfl)
theorem cw150 : cdW 150 ∈ lw_tbl := inT5 (List.mem_of_getElem? (i := 44) rfl)
theorem cw148 : cdW 148 ∈ lw_tbl := inT5 (List.mem_of_getElem? (i := 48) rfl)
theorem cw149 : cdW 149 ∈ lw_tbl := inT5 (List.mem_of_getElem? (i := 52) rfl)
theorem cw155 : cdW 155 ∈ lw_tbl := inT5 (List.mem_of_getElem? (i := 56) rfl)
theorem cw157 : cdW 157 ∈ lw_tbl := inT5 (List.mem_of_getElem? (i := 60) rfl)
theorem cw156 : cdW 156 ∈ lw_tbl := inT5 (List.mem_of_getElem? (i := 64) rfl)
theorem cw158 : cdW 158 ∈ lw_tbl := inT5 (List.mem_of_getElem? (i := 68) rfl)
theorem cw160 : cdW 160 ∈ lw_tbl := inT5 (List.mem_of_getElem? (i := 72) rfl)
theorem cw159 : cdW 159 ∈ lw_tbl := inT5 (List.mem_of_getElem? (i := 76) rfl)
theorem cw121 : cdW 121 ∈ lw_tbl := inT5 (List.mem_of_getElem? (i := 79) rfl)
theorem cw122 : cdW 122 ∈ lw_tbl := inT5 (List.mem_of_getElem? (i := 83) rfl)
theorem cw161 : cdW 161 ∈ lw_tbl := inT5 (List.mem_of_getElem? (i := 87) rfl)
theorem cw162 : cdW 162 ∈ lw_tbl := inT5 (List.mem_of_getElem? (i := 91) rfl)
theorem cw166 : cdW 166 ∈ lw_tbl := inT5 (List.mem_of_getElem? (i := 96) rfl)
theorem cw164 : cdW 164 ∈ lw_tbl := inT5 (List.mem_of_getElem? (i := 100) rfl)
theorem cw163 : cdW 163 ∈ lw_tbl := inT5 (List.mem_of_getElem? (i := 104) rfl)
theorem cw167 : cdW 167 ∈ lw_tbl := inT5 (List.mem_of_getElem? (i := 108) rfl)
theorem cw168 : cdW 168 ∈ lw_tbl := inT5 (List.mem_of_getElem? (i := 112) rfl)
theorem cw169 : cdW 169 ∈ lw_tbl := inT5 (List.mem_of_getElem? (i := 116) rfl)
theorem cw165 : cdW 165 ∈ lw_tbl := inT5 (List.mem_of_getElem? (i := 120) rfl)
theorem cw170 : cdW 170 ∈ lw_tbl := inT5 (List.mem_of_getElem? (i := 127) rfl)
theorem cw171 : cdW 171 ∈ lw_tbl := inT5 (List.mem_of_getElem? (i := 131) rfl)
theorem cw172 : cdW 172 ∈ lw_tbl := inT5 (List.mem_of_getElem? (i := 135) rfl)
theorem cw174 : cdW 174 ∈ lw_tbl := inT5 (List.mem_of_getElem? (i := 139) rfl)
theorem cw173 : cdW 173 ∈ lw_tbl := inT5 (List.mem_of_getElem? (i := 143) rfl)
theorem cw175 : cdW 175 ∈ lw_tbl := inT5 (List.mem_of_getElem? (i := 147) rfl)
theorem cw212 : cdW 212 ∈ lw_tbl := inT5 (List.mem_of_getElem? (i := 151) rfl)
theorem cw176 : cdW 176 ∈ lw_tbl := inT5 (List.mem_of_getElem? (i := 155) rfl)
theorem cw179 : cdW 179 ∈ lw_tbl := inT5 (List.mem_of_getElem? (i := 159) rfl)
theorem cw177 : cdW 177 ∈ lw_tbl := inT5 (List.mem_of_getElem? (i := 163) rfl)
theorem cw178 : cdW 178 ∈ lw_tbl := inT5 (List.mem_of_getElem? (i := 167) rfl)
theorem cw180 : cdW 180 ∈ lw_tbl := inT5 (List.mem_of_getElem? (i := 171) rfl)
theorem cw181 : cdW 181 ∈ lw_tbl := inT5 (List.mem_of_getElem? (i := 175) rfl)
theorem cw182 : cdW 182 ∈ lw_tbl := inT5 (List.mem_of_getElem? (i := 179) rfl)
theorem cw184 : cdW 184 ∈ lw_tbl := inT5 (List.mem_of_getElem? (i := 184) rfl)
theorem cw183 : cdW 183 ∈ lw_tbl := inT5 (List.mem_of_getElem? (i := 188) rfl)
theorem cw185 : cdW 185 ∈ lw_tbl := inT5 (List.mem_of_getElem? (i := 192) rfl)
theorem cw186 : cdW 186 ∈ lw_tbl := inT5 (List.mem_of_getElem? (i := 196) rfl)
theorem cw199 : cdW 199 ∈ lw_tbl := inT5 (List.mem_of_getElem? (i := 200) rfl)
theorem cw188 : cdW 188 ∈ lw_tbl := inT5 (List.mem_of_getElem? (i := 204) rfl)
theorem cw187 : cdW 187 ∈ lw_tbl := inT5 (List.mem_of_getElem? (i := 208) rfl)
theorem cw194 : cdW 194 ∈ lw_tbl := inT5 (List.mem_of_getElem? (i := 212) rfl)
theorem cw193 : cdW 193 ∈ lw_tbl := inT5 (List.mem_of_getElem? (i := 216) rfl)
theorem cw189 : cdW 189 ∈ lw_tbl := inT5 (List.mem_of_getElem? (i := 220) rfl)
theorem cw197 : cdW 197 ∈ lw_tbl := inT5 (List.mem_of_getElem? (i := 226) rfl)
theorem cw190 : cdW 190 ∈ lw_tbl := inT5 (List.mem_of_getElem? (i := 230) rfl)
theorem cw191 : cdW 191 ∈ lw_tbl := inT5 (List.mem_of_getElem? (i := 235) rfl)
theorem cw196 : cdW 196 ∈ lw_tbl := inT6 (List.mem_of_getElem? (i := 0) rfl)
theorem cw192 : cdW 192 ∈ lw_tbl := inT6 (List.mem_of_getElem? (i := 6) rfl)
theorem cw195 : cdW 195 ∈ lw_tbl := inT6 (List.mem_of_getElem? (i := 11) rfl)
theorem cw198 : cdW 198 ∈ lw_tbl := inT6 (List.mem_of_getElem? (i := 20) rfl)
theorem cw202 : cdW 202 ∈ lw_tbl := inT6 (List.mem_of_getElem? (i := 24) rfl)
theorem cw200 : cdW 200 ∈ lw_tbl := inT6 (List.mem_of_getElem? (i := 27) rfl)
theorem cw203 : cdW 203 ∈ lw_tbl := inT6 (List.mem_of_getElem? (i := 31) rfl)
theorem cw201 : cdW 201 ∈ lw_tbl := inT6 (List.mem_of_getElem? (i := 35) rfl)
theorem cw204 : cdW 204 ∈ lw_tbl := inT6 (List.mem_of_getElem? (i := 39) rfl)
theorem cw205 : cdW 205 ∈ lw_tbl := inT6 (List.mem_of_getElem? (i := 43) rfl)
theorem cw207 : cdW 207 ∈ lw_tbl := inT6 (List.mem_of_getElem? (i := 48) rfl)
theorem cw206 : cdW 206 ∈ lw_tbl := inT6 (List.mem_of_getElem? (i := 52) rfl)
theorem cw208 : cdW 208 ∈ lw_tbl := inT6 (List.mem_of_getElem? (i := 56) rfl)
theorem cw209 : cdW 209 ∈ lw_tbl := inT6 (List.mem_of_getElem? (i := 60) rfl)
theorem cw210 : cdW 210 ∈ lw_tbl := inT6 (List.mem_of_getElem? (i := 64) rfl)
theorem cw211 : cdW 211 ∈ lw_tbl := inT6 (List.mem_of_getElem? (i := 68) rfl)
theorem cw213 : cdW 213 ∈ lw_tbl := inT6 (List.mem_of_getElem? (i := 73) rfl)
set_option maxRecDepth 100000 in
theorem cq0 : ∀ z ∈ ([54, 111, 117, 112, 107, 1, 2, 55, 56, 4, 3, 57, 5, 58, 59, 60, 114, 113, 7] : List Nat), cdW z ∈ lw_tbl := List.forall_mem_cons.mpr ⟨cw54, List.forall_mem_cons.mpr ⟨cw111, List.forall_mem_cons.mpr ⟨cw117, List.forall_mem_cons.mpr ⟨cw112, List.forall_mem_cons.mpr ⟨cw107, List.forall_mem_cons.mpr ⟨cw1, List.forall_mem_cons.mpr ⟨cw2, List.forall_mem_cons.mpr ⟨cw55, List.forall_mem_cons.mpr ⟨cw56, List.forall_mem_cons.mpr ⟨cw4, List.forall_mem_cons.mpr ⟨cw3, List.forall_mem_cons.mpr ⟨cw57, List.forall_mem_cons.mpr ⟨cw5, List.forall_mem_cons.mpr ⟨cw58, List.forall_mem_cons.mpr ⟨cw59, List.forall_mem_cons.mpr ⟨cw60, List.forall_mem_cons.mpr ⟨cw114, List.forall_mem_cons.mpr ⟨cw113, List.forall_mem_cons.mpr ⟨cw7, fun _ h => absurd h List.not_mem_nil⟩⟩⟩⟩⟩⟩⟩⟩⟩⟩⟩⟩⟩⟩⟩⟩⟩⟩⟩
set_option maxRecDepth 100000 in
theorem cq1 : ∀ z ∈ ([8, 25, 61, 108, 214, 216, 62, 63, 64, 65, 217, 218, 66, 67, 68, 110, 9, 12, 13] : List Nat), cdW z ∈ lw_tbl := List.forall_mem_cons.mpr ⟨cw8, List.forall_mem_cons.mpr ⟨cw25, List.forall_mem_cons.mpr ⟨cw61, List.forall_mem_cons.mpr ⟨cw108, List.forall_mem_cons.mpr ⟨cw214, List.forall_mem_cons.mpr ⟨cw216, List.forall_mem_cons.mpr ⟨cw62, List.forall_mem_cons.mpr ⟨cw63, List.forall_mem_cons.mpr ⟨cw64, List.forall_mem_cons.mpr ⟨cw65, List.forall_mem_cons.mpr ⟨cw217, List.forall_mem_cons.mpr ⟨cw218, List.forall_mem_cons.mpr ⟨cw66, List.forall_mem_cons.mpr ⟨cw67, List.forall_mem_cons.mpr ⟨cw68, List.forall_mem_cons.mpr ⟨cw110, List.forall_mem_cons.mpr ⟨cw9, List.forall_mem_cons.mpr ⟨cw12, List.forall_mem_cons.mpr ⟨cw13, fun _ h => absurd h List.not_mem_nil⟩⟩⟩⟩⟩⟩⟩⟩⟩⟩⟩⟩⟩⟩⟩⟩⟩⟩⟩
set_option maxRecDepth 100000 in
theorem cq2 : ∀ z ∈ ([215, 14, 27, 69, 15, 70, 17, 16, 71, 72, 78, 0, 24, 73, 74, 75, 10, 11, 76] : List Nat), cdW z ∈ lw_tbl := List.forall_mem_cons.mpr ⟨cw215, List.forall_mem_cons.mpr ⟨cw14, List.forall_mem_cons.mpr ⟨cw27, List.forall_mem_cons.mpr ⟨cw69, List.forall_mem_cons.mpr ⟨cw15, List.forall_mem_cons.mpr ⟨cw70, List.forall_mem_cons.mpr ⟨cw17, List.forall_mem_cons.mpr ⟨cw16, List.forall_mem_cons.mpr ⟨cw71, List.forall_mem_cons.mpr ⟨cw72, List.forall_mem_cons.mpr ⟨cw78, List.forall_mem_cons.mpr ⟨cw0, List.forall_mem_cons.mpr ⟨cw24, List.forall_mem_cons.mpr ⟨cw73, List.forall_mem_cons.mpr ⟨cw74, List.forall_mem_cons.mpr ⟨cw75, List.forall_mem_cons.mpr ⟨cw10, List.forall_mem_cons.mpr ⟨cw11, List.forall_mem_cons.mpr ⟨cw76, fun _ h => absurd h List.not_mem_nil⟩⟩⟩⟩⟩⟩⟩⟩⟩⟩⟩⟩⟩⟩⟩⟩⟩⟩⟩
set_option maxRecDepth 100000 in
theorem cq3 : ∀ z ∈ ([77, 109, 28, 79, 80, 81, 26, 82, 83, 18, 84, 19, 6, 220, 85, 86, 21, 23, 22] : List Nat), cdW z ∈ lw_tbl := List.forall_mem_cons.mpr ⟨cw77, List.forall_mem_cons.mpr ⟨cw109, List.forall_mem_cons.mpr ⟨cw28, List.forall_mem_cons.mpr ⟨cw79, List.forall_mem_cons.mpr ⟨cw80, List.forall_mem_cons.mpr ⟨cw81, List.forall_mem_cons.mpr ⟨cw26, List.forall_mem_cons.mpr ⟨cw82, List.forall_mem_cons.mpr ⟨cw83, List.forall_mem_cons.mpr ⟨cw18, List.forall_mem_cons.mpr ⟨cw84, List.forall_mem_cons.mpr ⟨cw19, List.forall_mem_cons.mpr ⟨cw6, List.forall_mem_cons.mpr ⟨cw220, List.forall_mem_cons.mpr ⟨cw85, List.forall_mem_cons.mpr ⟨cw86, List.forall_mem_cons.mpr ⟨cw21, List.forall_mem_cons.mpr ⟨cw23, List.forall_mem_cons.mpr ⟨cw22, fun _ h => absurd h List.not_mem_nil⟩⟩⟩⟩⟩⟩⟩⟩⟩⟩⟩⟩⟩⟩⟩⟩⟩⟩⟩
set_option maxRecDepth 100000 in
theorem cq4 : ∀ z ∈ ([87, 88, 89, 29, 90, 91, 92, 34, 93, 94, 36, 49, 50, 52, 51, 35, 37, 47, 53] : List Nat), cdW z ∈ lw_tbl := List.forall_mem_cons.mpr ⟨cw87, List.forall_mem_cons.mpr ⟨cw88, List.forall_mem_cons.mpr ⟨cw89, List.forall_mem_cons.mpr ⟨cw29, List.forall_mem_cons.mpr ⟨cw90, List.forall_mem_cons.mpr ⟨cw91, List.forall_mem_cons.mpr ⟨cw92, List.forall_mem_cons.mpr ⟨cw34, List.forall_mem_cons.mpr ⟨cw93, List.forall_mem_cons.mpr ⟨cw94, List.forall_mem_cons.mpr ⟨cw36, List.forall_mem_cons.mpr ⟨cw49, List.forall_mem_cons.mpr ⟨cw50, List.forall_mem_cons.mpr ⟨cw52, List.forall_mem_cons.mpr ⟨cw51, List.forall_mem_cons.mpr ⟨cw35, List.forall_mem_cons.mpr ⟨cw37, List.forall_mem_cons.mpr ⟨cw47, List.forall_mem_cons.mpr ⟨cw53, fun _ h => absurd h List.not_mem_nil⟩⟩⟩⟩⟩⟩⟩⟩⟩⟩⟩⟩⟩⟩⟩⟩⟩⟩⟩
set_option maxRecDepth 100000 in
theorem cq5 : ∀ z ∈ ([221, 223, 222, 224, 226, 225, 227, 38, 48, 39, 40, 41, 42, 43, 44, 45, 46, 95, 115] : List Nat), cdW z ∈ lw_tbl := List.forall_mem_cons.mpr ⟨cw221, List.forall_mem_cons.mpr ⟨cw223, List.forall_mem_cons.mpr ⟨cw222, List.forall_mem_cons.mpr ⟨cw224, List.forall_mem_cons.mpr ⟨cw226, List.forall_mem_cons.mpr ⟨cw225, List.forall_mem_cons.mpr ⟨cw227, List.forall_mem_cons.mpr ⟨cw38, List.forall_mem_cons.mpr ⟨cw48, List.forall_mem_cons.mpr ⟨cw39, List.forall_mem_cons.mpr ⟨cw40, List.forall_mem_cons.mpr ⟨cw41, List.forall_mem_cons.mpr ⟨cw42, List.forall_mem_cons.mpr ⟨cw43, List.forall_mem_cons.mpr ⟨cw44, List.forall_mem_cons.mpr ⟨cw45, List.forall_mem_cons.mpr ⟨cw46, List.forall_mem_cons.mpr ⟨cw95, List.forall_mem_cons.mpr ⟨cw115, fun _ h => absurd h List.not_mem_nil⟩⟩⟩⟩⟩⟩⟩⟩⟩⟩⟩⟩⟩⟩⟩⟩⟩⟩⟩
set_option maxRecDepth 100000 in
theorem cq6 : ∀ z ∈ ([116, 31, 219, 96, 30, 32, 97, 33, 98, 99, 101, 100, 102, 103, 104, 105, 20, 106, 124] : List Nat), cdW z ∈ lw_tbl := List.forall_mem_cons.mpr ⟨cw116, List.forall_mem_cons.mpr ⟨cw31, List.forall_mem_cons.mpr ⟨cw219, List.forall_mem_cons.mpr ⟨cw96, List.forall_mem_cons.mpr ⟨cw30, List.forall_mem_cons.mpr ⟨cw32, List.forall_mem_cons.mpr ⟨cw97, List.forall_mem_cons.mpr ⟨cw33, List.forall_mem_cons.mpr ⟨cw98, List.forall_mem_cons.mpr ⟨cw99, List.forall_mem_cons.mpr ⟨cw101, List.forall_mem_cons.mpr ⟨cw100, List.forall_mem_cons.mpr ⟨cw102, List.forall_mem_cons.mpr ⟨cw103, List.forall_mem_cons.mpr ⟨cw104, List.forall_mem_cons.mpr ⟨cw105, List.forall_mem_cons.mpr ⟨cw20, List.forall_mem_cons.mpr ⟨cw106, List.forall_mem_cons.mpr ⟨cw124, fun _ h => absurd h List.not_mem_nil⟩⟩⟩⟩⟩⟩⟩⟩⟩⟩⟩⟩⟩⟩⟩⟩⟩⟩⟩
set_option maxRecDepth 100000 in
theorem cq7 : ∀ z ∈ ([123, 119, 120, 118, 125, 127, 126, 129, 128, 130, 137, 134, 135, 136, 132, 141, 131, 133, 140] : List Nat), cdW z ∈ lw_tbl := List.forall_mem_cons.mpr ⟨cw123, List.forall_mem_cons.mpr ⟨cw119, List.forall_mem_cons.mpr ⟨cw120, List.forall_mem_cons.mpr ⟨cw118, List.forall_mem_cons.mpr ⟨cw125, List.forall_mem_cons.mpr ⟨cw127, List.forall_mem_cons.mpr ⟨cw126, List.forall_mem_cons.mpr ⟨cw129, List.forall_mem_cons.mpr ⟨cw128, List.forall_mem_cons.mpr ⟨cw130, List.forall_mem_cons.mpr ⟨cw137, List.forall_mem_cons.mpr ⟨cw134, List.forall_mem_cons.mpr ⟨cw135, List.forall_mem_cons.mpr ⟨cw136, List.forall_mem_cons.mpr ⟨cw132, List.forall_mem_cons.mpr ⟨cw141, List.forall_mem_cons.mpr ⟨cw131, List.forall_mem_cons.mpr ⟨cw133, List.forall_mem_cons.mpr ⟨cw140, fun _ h => absurd h List.not_mem_nil⟩⟩⟩⟩⟩⟩⟩⟩⟩⟩⟩⟩⟩⟩⟩⟩⟩⟩⟩
set_option maxRecDepth 100000 in
theorem cq8 : ∀ z ∈ ([138, 139, 142, 143, 145, 144, 146, 147, 154, 153, 152, 151, 150, 148, 149, 155, 157, 156, 158] : List Nat), cdW z ∈ lw_tbl := List.forall_mem_cons.mpr ⟨cw138, List.forall_mem_cons.mpr ⟨cw139, List.forall_mem_cons.mpr ⟨cw142, List.forall_mem_cons.mpr ⟨cw143, List.forall_mem_cons.mpr ⟨cw145, List.forall_mem_cons.mpr ⟨cw144, List.forall_mem_cons.mpr ⟨cw146, List.forall_mem_cons.mpr ⟨cw147, List.forall_mem_cons.mpr ⟨cw154, List.forall_mem_cons.mpr ⟨cw153, List.forall_mem_cons.mpr ⟨cw152, List.forall_mem_cons.mpr ⟨cw151, List.forall_mem_cons.mpr ⟨cw150, List.forall_mem_cons.mpr ⟨cw148, List.forall_mem_cons.mpr ⟨cw149, List.forall_mem_cons.mpr ⟨cw155, List.forall_mem_cons.mpr ⟨cw157, List.forall_mem_cons.mpr ⟨cw156, List.forall_mem_cons.mpr ⟨cw158, fun _ h => absurd h List.not_mem_nil⟩⟩⟩⟩⟩⟩⟩⟩⟩⟩⟩⟩⟩⟩⟩⟩⟩⟩⟩
set_option maxRecDepth 100000 in
theorem cq9 : ∀ z ∈ ([160, 159, 121, 122, 161, 162, 166, 164, 163, 167, 168, 169, 165, 170, 171, 172, 174, 173, 175] : List Nat), cdW z ∈ lw_tbl := List.forall_mem_cons.mpr ⟨cw160, List.forall_mem_cons.mpr ⟨cw159, List.forall_mem_cons.mpr ⟨cw121, List.forall_mem_cons.mpr ⟨cw122, List.forall_mem_cons.mpr ⟨cw161, List.forall_mem_cons.mpr ⟨cw162, List.forall_mem_cons.mpr ⟨cw166, List.forall_mem_cons.mpr ⟨cw164, List.forall_mem_cons.mpr ⟨cw163, List.forall_mem_cons.mpr ⟨cw167, List.forall_mem_cons.mpr ⟨cw168, List.forall_mem_cons.mpr ⟨cw169, List.forall_mem_cons.mpr ⟨cw165, List.forall_mem_cons.mpr ⟨cw170, List.forall_mem_cons.mpr ⟨cw171, List.forall_mem_cons.mpr ⟨cw172, List.forall_mem_cons.mpr ⟨cw174, List.forall_mem_cons.mpr ⟨cw173, List.forall_mem_cons.mpr ⟨cw175, fun _ h => absurd h List.not_mem_nil⟩⟩⟩⟩⟩⟩⟩⟩⟩⟩⟩⟩⟩⟩⟩⟩⟩⟩⟩
set_option maxRecDepth 100000 in
theorem cq10 : ∀ z ∈ ([212, 176, 179, 177, 178, 180, 181, 182, 184, 183, 185, 186, 199, 188, 187, 194, 193, 189, 197] : List Nat), cdW z ∈ lw_tbl := List.forall_mem_cons.mpr ⟨cw212, List.forall_mem_cons.mpr ⟨cw176, List.forall_mem_cons.mpr ⟨cw179, List.forall_mem_cons.mpr ⟨cw177, List.forall_mem_cons.mpr ⟨cw178, List.forall_mem_cons.mpr ⟨cw180, List.forall_mem_cons.mpr ⟨cw181, List.forall_mem_cons.mpr ⟨cw182, List.forall_mem_cons.mpr ⟨cw184, List.forall_mem_cons.mpr ⟨cw183, List.forall_mem_cons.mpr ⟨cw185, List.forall_mem_cons.mpr ⟨cw186, List.forall_mem_cons.mpr ⟨cw199, List.forall_mem_cons.mpr ⟨cw188, List.forall_mem_cons.mpr ⟨cw187, List.forall_mem_cons.mpr ⟨cw194, List.forall_mem_cons.mpr ⟨cw193, List.forall_mem_cons.mpr ⟨cw189, List.forall_mem_cons.mpr ⟨cw197, fun _ h => absurd h List.not_mem_nil⟩⟩⟩⟩⟩⟩⟩⟩⟩⟩⟩⟩⟩⟩⟩⟩⟩⟩⟩
set_option maxRecDepth 100000 in
theorem cq11 : ∀ z ∈ ([190, 191, 196, 192, 195, 198, 202, 200, 203, 201, 204, 205, 207, 206, 208, 209, 210, 211, 213] : List Nat), cdW z ∈ lw_tbl := List.forall_mem_cons.mpr ⟨cw190, List.forall_mem_cons.mpr ⟨cw191, List.forall_mem_cons.mpr ⟨cw196, List.forall_mem_cons.mpr ⟨cw192, List.forall_mem_cons.mpr ⟨cw195, List.forall_mem_cons.mpr ⟨cw198, List.forall_mem_cons.mpr ⟨cw202, List.forall_mem_cons.mpr ⟨cw200, List.forall_mem_cons.mpr ⟨cw203, List.forall_mem_cons.mpr ⟨cw201, List.forall_mem_cons.mpr ⟨cw204, List.forall_mem_cons.mpr ⟨cw205, List.forall_mem_cons.mpr ⟨cw207, List.forall_mem_cons.mpr ⟨cw206, List.forall_mem_cons.mpr ⟨cw208, List.forall_mem_cons.mpr ⟨cw209, List.forall_mem_cons.mpr ⟨cw210, List.forall_mem_cons.mpr ⟨cw211, List.forall_mem_cons.mpr ⟨cw213, fun _ h => absurd h List.not_mem_nil⟩⟩⟩⟩⟩⟩⟩⟩⟩⟩⟩⟩⟩⟩⟩⟩⟩⟩⟩
set_option maxRecDepth 100000 in
theorem pc_w : ∀ z ∈ pmC, cdW z ∈ lw_tbl := List.forall_mem_append.mpr ⟨cq0, List.forall_mem_append.mpr ⟨cq1, List.forall_mem_append.mpr ⟨cq2, List.forall_mem_append.mpr ⟨cq3, List.forall_mem_append.mpr ⟨cq4, List.forall_mem_append.mpr ⟨cq5, List.forall_mem_append.mpr ⟨cq6, List.forall_mem_append.mpr ⟨cq7, List.forall_mem_append.mpr ⟨cq8, List.forall_mem_append.mpr ⟨cq9, List.forall_mem_append.mpr ⟨cq10, cq11⟩⟩⟩⟩⟩⟩⟩⟩⟩⟩⟩
set_option maxRecDepth 100000 in
theorem ps_w : ∀ w ∈ pmS.map (fun z => Cond.static (mY z)), w ∈ lw_tbl := sbq_ok lw_tbl _ (by decide +kernel)
set_option maxRecDepth 100000 in
theorem pi_w : ∀ w ∈ pmI.map (fun z => Cond.instanceMethod (mY z)), w ∈ lw_tbl := sbq_ok lw_tbl _ (by decide +kernel)
set_option maxRecDepth 100000 in
theorem pv_w : ∀ w ∈ pmV.map (fun z => Cond.selects (mY z).cls (mY z) (mY z)), w ∈ lw_tbl := sbq_ok lw_tbl _ (by decide +kernel)
set_option maxRecDepth 100000 in
theorem pn_w : ∀ w ∈ pmN.map (fun c => Cond.initialized (cN c)), w ∈ lw_tbl := sbq_ok lw_tbl _ (by decide +kernel)
def mtB (z : Nat) : Bool := pmC.contains z && ((if mS z then pmS.contains z else pmI.contains z && pmV.contains z) && (pmN.contains (mO z) && (decide ((mY z).cls = cN (mO z)) && (plainName (mY z).cls && (decide ((mY z).cls ≠ "java/lang/invoke/MethodHandle") && (decide ((mY z).cls ≠ "java/lang/invoke/VarHandle") && (decide ((parseMethodDescriptor (mY z).desc).map (fun d => d.parameters.length) = some (mA z)) && decide (mL z ≤ 18))))))))
set_option maxRecDepth 100000 in
theorem mt_b : (List.range 228).all mtB = true := by decide +kernel
theorem mtOk {z : Nat} (h : z < 228) : Cond.code (mY z) (mB z) (mL z) (mR z) ∈ lw_tbl ∧ (if mS z = true then Cond.static (mY z) ∈ lw_tbl else Cond.instanceMethod (mY z) ∈ lw_tbl ∧ Cond.selects (mY z).cls (mY z) (mY z) ∈ lw_tbl) ∧ Cond.initialized (mY z).cls ∈ lw_tbl ∧ (mY z).cls = cN (mO z) ∧ plainName (mY z).cls = true ∧ ((mY z).cls ≠ "java/lang/invoke/MethodHandle" ∧ (mY z).cls ≠ "java/lang/invoke/VarHandle") ∧ (parseMethodDescriptor (mY z).desc).map (fun d => d.parameters.length) = some (mA z) ∧ mL z ≤ 18 := by
  have hb := List.all_eq_true.mp mt_b z (List.mem_range.mpr h)
  simp only [mtB, Bool.and_eq_true, decide_eq_true_eq, List.contains_iff_mem] at hb
  obtain ⟨h1, h2, h3, h4, h5, h6, h7, h8, h9⟩ := hb
  refine ⟨pc_w z h1, ?_, ?_, h4, h5, ⟨h6, h7⟩, h8, h9⟩
  · cases hs : mS z with
    | true =>
      rw [if_pos rfl]
      simp only [hs, if_true, List.contains_iff_mem] at h2
      exact ps_w _ (List.mem_map.mpr ⟨z, h2, rfl⟩)
    | false =>
      rw [if_neg (by decide)]
      simp only [hs, Bool.false_eq_true, if_false, Bool.and_eq_true, List.contains_iff_mem] at h2
      exact ⟨pi_w _ (List.mem_map.mpr ⟨z, h2.1, rfl⟩), pv_w _ (List.mem_map.mpr ⟨z, h2.2, rfl⟩)⟩
  · rw [h4]
    exact pn_w _ (List.mem_map.mpr ⟨mO z, h3, rfl⟩)
