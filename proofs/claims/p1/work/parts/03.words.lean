/-- the words of a field link -/
def FlOk (q : Nat × Nat × Nat) : Prop := q.2.1 = 15 ∨ ∃ C T N, zCl[q.2.1]? = some (C, T, N) ∧ q.2.2 < N ∧ (T q.2.2).1 = C ∧ Cond.fieldLink (cN (q.1 / 10000)) (q.1 % 10000) C (T q.2.2).2.1 (T q.2.2).2.2.1 ∈ lw_tbl
set_option maxRecDepth 100000 in
theorem zf0 : FlOk (9, 0, 0) := Or.inr ⟨_, _, _, rfl, by decide, rfl, List.mem_of_getElem? (i := 140) rfl⟩
set_option maxRecDepth 100000 in
theorem zf1 : FlOk (17, 0, 1) := Or.inr ⟨_, _, _, rfl, by decide, rfl, List.mem_of_getElem? (i := 141) rfl⟩
set_option maxRecDepth 100000 in
theorem zf2 : FlOk (21, 0, 2) := Or.inr ⟨_, _, _, rfl, by decide, rfl, List.mem_of_getElem? (i := 144) rfl⟩
set_option maxRecDepth 100000 in
theorem zf3 : FlOk (25, 0, 3) := Or.inr ⟨_, _, _, rfl, by decide, rfl, List.mem_of_getElem? (i := 147) rfl⟩
set_option maxRecDepth 100000 in
theorem zf4 : FlOk (28, 0, 4) := Or.inr ⟨_, _, _, rfl, by decide, rfl, List.mem_of_getElem? (i := 150) rfl⟩
set_option maxRecDepth 100000 in
theorem zf5 : FlOk (31, 0, 5) := Or.inr ⟨_, _, _, rfl, by decide, rfl, List.mem_of_getElem? (i := 152) rfl⟩
set_option maxRecDepth 100000 in
theorem zf6 : FlOk (34, 0, 6) := Or.inr ⟨_, _, _, rfl, by decide, rfl, List.mem_of_getElem? (i := 155) rfl⟩
set_option maxRecDepth 100000 in
theorem zf7 : FlOk (73, 1, 0) := Or.inr ⟨_, _, _, rfl, by decide, rfl, List.mem_of_getElem? (i := 99) rfl⟩
set_option maxRecDepth 100000 in
theorem zf8 : FlOk (76, 1, 1) := Or.inr ⟨_, _, _, rfl, by decide, rfl, List.mem_of_getElem? (i := 102) rfl⟩
set_option maxRecDepth 100000 in
theorem zf9 : FlOk (79, 1, 3) := Or.inr ⟨_, _, _, rfl, by decide, rfl, List.mem_of_getElem? (i := 109) rfl⟩
set_option maxRecDepth 100000 in
theorem zf10 : FlOk (82, 1, 4) := Or.inr ⟨_, _, _, rfl, by decide, rfl, List.mem_of_getElem? (i := 112) rfl⟩
set_option maxRecDepth 100000 in
theorem zf11 : FlOk (85, 1, 5) := Or.inr ⟨_, _, _, rfl, by decide, rfl, List.mem_of_getElem? (i := 115) rfl⟩
set_option maxRecDepth 100000 in
theorem zf12 : FlOk (98, 1, 7) := Or.inr ⟨_, _, _, rfl, by decide, rfl, List.mem_of_getElem? (i := 121) rfl⟩
set_option maxRecDepth 100000 in
theorem zf13 : FlOk (112, 1, 2) := Or.inr ⟨_, _, _, rfl, by decide, rfl, List.mem_of_getElem? (i := 106) rfl⟩
set_option maxRecDepth 100000 in
theorem zf14 : FlOk (10009, 1, 0) := Or.inr ⟨_, _, _, rfl, by decide, rfl, List.mem_of_getElem? (i := 97) rfl⟩
set_option maxRecDepth 100000 in
theorem zf15 : FlOk (10015, 1, 1) := Or.inr ⟨_, _, _, rfl, by decide, rfl, List.mem_of_getElem? (i := 100) rfl⟩
set_option maxRecDepth 100000 in
theorem zf16 : FlOk (10018, 1, 2) := Or.inr ⟨_, _, _, rfl, by decide, rfl, List.mem_of_getElem? (i := 103) rfl⟩
set_option maxRecDepth 100000 in
theorem zf17 : FlOk (10021, 1, 3) := Or.inr ⟨_, _, _, rfl, by decide, rfl, List.mem_of_getElem? (i := 107) rfl⟩
set_option maxRecDepth 100000 in
theorem zf18 : FlOk (10024, 1, 4) := Or.inr ⟨_, _, _, rfl, by decide, rfl, List.mem_of_getElem? (i := 110) rfl⟩
set_option maxRecDepth 100000 in
theorem zf19 : FlOk (10027, 1, 5) := Or.inr ⟨_, _, _, rfl, by decide, rfl, List.mem_of_getElem? (i := 113) rfl⟩
set_option maxRecDepth 100000 in
theorem zf20 : FlOk (10030, 1, 6) := Or.inr ⟨_, _, _, rfl, by decide, rfl, List.mem_of_getElem? (i := 116) rfl⟩
set_option maxRecDepth 100000 in
theorem zf21 : FlOk (10034, 1, 7) := Or.inr ⟨_, _, _, rfl, by decide, rfl, List.mem_of_getElem? (i := 119) rfl⟩
set_option maxRecDepth 100000 in
theorem zf22 : FlOk (20009, 2, 0) := Or.inr ⟨_, _, _, rfl, by decide, rfl, List.mem_of_getElem? (i := 232) rfl⟩
set_option maxRecDepth 100000 in
theorem zf23 : FlOk (20015, 2, 1) := Or.inr ⟨_, _, _, rfl, by decide, rfl, List.mem_of_getElem? (i := 234) rfl⟩
set_option maxRecDepth 100000 in
theorem zf24 : FlOk (20019, 2, 2) := Or.inr ⟨_, _, _, rfl, by decide, rfl, List.mem_of_getElem? (i := 236) rfl⟩
set_option maxRecDepth 100000 in
theorem zf25 : FlOk (30009, 3, 0) := Or.inr ⟨_, _, _, rfl, by decide, rfl, List.mem_of_getElem? (i := 179) rfl⟩
set_option maxRecDepth 100000 in
theorem zf26 : FlOk (30015, 3, 1) := Or.inr ⟨_, _, _, rfl, by decide, rfl, List.mem_of_getElem? (i := 181) rfl⟩
set_option maxRecDepth 100000 in
theorem zf27 : FlOk (40014, 4, 0) := Or.inr ⟨_, _, _, rfl, by decide, rfl, List.mem_of_getElem? (i := 221) rfl⟩
set_option maxRecDepth 100000 in
theorem zf28 : FlOk (40027, 5, 2) := Or.inr ⟨_, _, _, rfl, by decide, rfl, List.mem_of_getElem? (i := 204) rfl⟩
set_option maxRecDepth 100000 in
theorem zf29 : FlOk (40035, 5, 3) := Or.inr ⟨_, _, _, rfl, by decide, rfl, List.mem_of_getElem? (i := 206) rfl⟩
set_option maxRecDepth 100000 in
theorem zf30 : FlOk (40086, 0, 5) := Or.inr ⟨_, _, _, rfl, by decide, rfl, List.mem_of_getElem? (i := 153) rfl⟩
set_option maxRecDepth 100000 in
theorem zf31 : FlOk (40088, 0, 6) := Or.inr ⟨_, _, _, rfl, by decide, rfl, List.mem_of_getElem? (i := 157) rfl⟩
set_option maxRecDepth 100000 in
theorem zf32 : FlOk (40090, 0, 3) := Or.inr ⟨_, _, _, rfl, by decide, rfl, List.mem_of_getElem? (i := 149) rfl⟩
set_option maxRecDepth 100000 in
theorem zf33 : FlOk (40111, 0, 1) := Or.inr ⟨_, _, _, rfl, by decide, rfl, List.mem_of_getElem? (i := 143) rfl⟩
set_option maxRecDepth 100000 in
theorem zf34 : FlOk (40115, 0, 2) := Or.inr ⟨_, _, _, rfl, by decide, rfl, List.mem_of_getElem? (i := 146) rfl⟩
set_option maxRecDepth 100000 in
theorem zf35 : FlOk (40118, 1, 2) := Or.inr ⟨_, _, _, rfl, by decide, rfl, List.mem_of_getElem? (i := 105) rfl⟩
set_option maxRecDepth 100000 in
theorem zf36 : FlOk (40124, 1, 6) := Or.inr ⟨_, _, _, rfl, by decide, rfl, List.mem_of_getElem? (i := 118) rfl⟩
set_option maxRecDepth 100000 in
theorem zf37 : FlOk (40146, 5, 4) := Or.inr ⟨_, _, _, rfl, by decide, rfl, List.mem_of_getElem? (i := 209) rfl⟩
set_option maxRecDepth 100000 in
theorem zf38 : FlOk (50007, 5, 0) := Or.inr ⟨_, _, _, rfl, by decide, rfl, List.mem_of_getElem? (i := 202) rfl⟩
set_option maxRecDepth 100000 in
theorem zf39 : FlOk (50013, 5, 1) := Or.inr ⟨_, _, _, rfl, by decide, rfl, List.mem_of_getElem? (i := 203) rfl⟩
set_option maxRecDepth 100000 in
theorem zf40 : FlOk (50020, 3, 1) := Or.inr ⟨_, _, _, rfl, by decide, rfl, List.mem_of_getElem? (i := 182) rfl⟩
set_option maxRecDepth 100000 in
theorem zf41 : FlOk (50029, 5, 2) := Or.inr ⟨_, _, _, rfl, by decide, rfl, List.mem_of_getElem? (i := 205) rfl⟩
set_option maxRecDepth 100000 in
theorem zf42 : FlOk (50032, 5, 3) := Or.inr ⟨_, _, _, rfl, by decide, rfl, List.mem_of_getElem? (i := 207) rfl⟩
set_option maxRecDepth 100000 in
theorem zf43 : FlOk (50035, 5, 4) := Or.inr ⟨_, _, _, rfl, by decide, rfl, List.mem_of_getElem? (i := 208) rfl⟩
set_option maxRecDepth 100000 in
theorem zf44 : FlOk (50051, 3, 0) := Or.inr ⟨_, _, _, rfl, by decide, rfl, List.mem_of_getElem? (i := 180) rfl⟩
set_option maxRecDepth 100000 in
theorem zf45 : FlOk (60010, 6, 0) := Or.inr ⟨_, _, _, rfl, by decide, rfl, List.mem_of_getElem? (i := 246) rfl⟩
set_option maxRecDepth 100000 in
theorem zf46 : FlOk (60016, 6, 1) := Or.inr ⟨_, _, _, rfl, by decide, rfl, List.mem_of_getElem? (i := 247) rfl⟩
set_option maxRecDepth 100000 in
theorem zf47 : FlOk (60019, 6, 2) := Or.inr ⟨_, _, _, rfl, by decide, rfl, List.mem_of_getElem? (i := 248) rfl⟩
set_option maxRecDepth 100000 in
theorem zf48 : FlOk (60022, 6, 3) := Or.inr ⟨_, _, _, rfl, by decide, rfl, List.mem_of_getElem? (i := 249) rfl⟩
set_option maxRecDepth 100000 in
theorem zf49 : FlOk (60029, 6, 4) := Or.inr ⟨_, _, _, rfl, by decide, rfl, List.mem_of_getElem? (i := 250) rfl⟩
set_option maxRecDepth 100000 in
theorem zf50 : FlOk (60038, 6, 5) := Or.inr ⟨_, _, _, rfl, by decide, rfl, List.mem_of_getElem? (i := 251) rfl⟩
set_option maxRecDepth 100000 in
theorem zf51 : FlOk (60044, 6, 6) := Or.inr ⟨_, _, _, rfl, by decide, rfl, List.mem_of_getElem? (i := 252) rfl⟩
set_option maxRecDepth 100000 in
theorem zf52 : FlOk (60048, 6, 7) := Or.inr ⟨_, _, _, rfl, by decide, rfl, List.mem_of_getElem? (i := 253) rfl⟩
set_option maxRecDepth 100000 in
theorem zf53 : FlOk (60092, 0, 5) := Or.inr ⟨_, _, _, rfl, by decide, rfl, List.mem_of_getElem? (i := 154) rfl⟩
set_option maxRecDepth 100000 in
theorem zf54 : FlOk (60096, 0, 6) := Or.inr ⟨_, _, _, rfl, by decide, rfl, List.mem_of_getElem? (i := 156) rfl⟩
set_option maxRecDepth 100000 in
theorem zf55 : FlOk (60099, 0, 3) := Or.inr ⟨_, _, _, rfl, by decide, rfl, List.mem_of_getElem? (i := 148) rfl⟩
set_option maxRecDepth 100000 in
theorem zf56 : FlOk (60116, 0, 2) := Or.inr ⟨_, _, _, rfl, by decide, rfl, List.mem_of_getElem? (i := 145) rfl⟩
set_option maxRecDepth 100000 in
theorem zf57 : FlOk (60122, 0, 1) := Or.inr ⟨_, _, _, rfl, by decide, rfl, List.mem_of_getElem? (i := 142) rfl⟩
set_option maxRecDepth 100000 in
theorem zf58 : FlOk (60126, 1, 0) := Or.inr ⟨_, _, _, rfl, by decide, rfl, List.mem_of_getElem? (i := 98) rfl⟩
set_option maxRecDepth 100000 in
theorem zf59 : FlOk (60131, 1, 1) := Or.inr ⟨_, _, _, rfl, by decide, rfl, List.mem_of_getElem? (i := 101) rfl⟩
set_option maxRecDepth 100000 in
theorem zf60 : FlOk (60134, 1, 2) := Or.inr ⟨_, _, _, rfl, by decide, rfl, List.mem_of_getElem? (i := 104) rfl⟩
set_option maxRecDepth 100000 in
theorem zf61 : FlOk (60137, 1, 3) := Or.inr ⟨_, _, _, rfl, by decide, rfl, List.mem_of_getElem? (i := 108) rfl⟩
set_option maxRecDepth 100000 in
theorem zf62 : FlOk (60140, 1, 4) := Or.inr ⟨_, _, _, rfl, by decide, rfl, List.mem_of_getElem? (i := 111) rfl⟩
set_option maxRecDepth 100000 in
theorem zf63 : FlOk (60143, 1, 5) := Or.inr ⟨_, _, _, rfl, by decide, rfl, List.mem_of_getElem? (i := 114) rfl⟩
set_option maxRecDepth 100000 in
theorem zf64 : FlOk (60146, 1, 6) := Or.inr ⟨_, _, _, rfl, by decide, rfl, List.mem_of_getElem? (i := 117) rfl⟩
set_option maxRecDepth 100000 in
theorem zf65 : FlOk (60149, 1, 7) := Or.inr ⟨_, _, _, rfl, by decide, rfl, List.mem_of_getElem? (i := 120) rfl⟩
set_option maxRecDepth 100000 in
theorem zf66 : FlOk (60157, 0, 4) := Or.inr ⟨_, _, _, rfl, by decide, rfl, List.mem_of_getElem? (i := 151) rfl⟩
set_option maxRecDepth 100000 in
theorem zf67 : FlOk (60244, 3, 1) := Or.inr ⟨_, _, _, rfl, by decide, rfl, List.mem_of_getElem? (i := 183) rfl⟩
set_option maxRecDepth 100000 in
theorem zf68 : FlOk (60263, 2, 2) := Or.inr ⟨_, _, _, rfl, by decide, rfl, List.mem_of_getElem? (i := 237) rfl⟩
set_option maxRecDepth 100000 in
theorem zf69 : FlOk (60268, 2, 0) := Or.inr ⟨_, _, _, rfl, by decide, rfl, List.mem_of_getElem? (i := 233) rfl⟩
set_option maxRecDepth 100000 in
theorem zf70 : FlOk (60276, 2, 1) := Or.inr ⟨_, _, _, rfl, by decide, rfl, List.mem_of_getElem? (i := 235) rfl⟩
set_option maxRecDepth 100000 in
theorem zf71 : FlOk (70009, 7, 0) := Or.inr ⟨_, _, _, rfl, by decide, rfl, List.mem_of_getElem? (i := 867) rfl⟩
set_option maxRecDepth 100000 in
theorem zf72 : FlOk (70013, 7, 1) := Or.inr ⟨_, _, _, rfl, by decide, rfl, List.mem_of_getElem? (i := 868) rfl⟩
set_option maxRecDepth 100000 in
theorem zf73 : FlOk (70016, 7, 2) := Or.inr ⟨_, _, _, rfl, by decide, rfl, List.mem_of_getElem? (i := 869) rfl⟩
set_option maxRecDepth 100000 in
theorem zf74 : FlOk (70019, 7, 4) := Or.inr ⟨_, _, _, rfl, by decide, rfl, List.mem_of_getElem? (i := 871) rfl⟩
set_option maxRecDepth 100000 in
theorem zf75 : FlOk (70022, 7, 6) := Or.inr ⟨_, _, _, rfl, by decide, rfl, List.mem_of_getElem? (i := 873) rfl⟩
set_option maxRecDepth 100000 in
theorem zf76 : FlOk (70039, 7, 13) := Or.inr ⟨_, _, _, rfl, by decide, rfl, List.mem_of_getElem? (i := 880) rfl⟩
set_option maxRecDepth 100000 in
theorem zf77 : FlOk (70043, 7, 14) := Or.inr ⟨_, _, _, rfl, by decide, rfl, List.mem_of_getElem? (i := 881) rfl⟩
set_option maxRecDepth 100000 in
theorem zf78 : FlOk (70046, 7, 18) := Or.inr ⟨_, _, _, rfl, by decide, rfl, List.mem_of_getElem? (i := 885) rfl⟩
set_option maxRecDepth 100000 in
theorem zf79 : FlOk (70049, 7, 19) := Or.inr ⟨_, _, _, rfl, by decide, rfl, List.mem_of_getElem? (i := 886) rfl⟩
set_option maxRecDepth 100000 in
theorem zf80 : FlOk (70052, 7, 20) := Or.inr ⟨_, _, _, rfl, by decide, rfl, List.mem_of_getElem? (i := 887) rfl⟩
set_option maxRecDepth 100000 in
theorem zf81 : FlOk (70056, 7, 21) := Or.inr ⟨_, _, _, rfl, by decide, rfl, List.mem_of_getElem? (i := 888) rfl⟩
set_option maxRecDepth 100000 in
theorem zf82 : FlOk (70124, 7, 5) := Or.inr ⟨_, _, _, rfl, by decide, rfl, List.mem_of_getElem? (i := 872) rfl⟩
set_option maxRecDepth 100000 in
theorem zf83 : FlOk (70192, 7, 7) := Or.inr ⟨_, _, _, rfl, by decide, rfl, List.mem_of_getElem? (i := 874) rfl⟩
set_option maxRecDepth 100000 in
theorem zf84 : FlOk (70195, 7, 9) := Or.inr ⟨_, _, _, rfl, by decide, rfl, List.mem_of_getElem? (i := 876) rfl⟩
set_option maxRecDepth 100000 in
theorem zf85 : FlOk (70198, 7, 8) := Or.inr ⟨_, _, _, rfl, by decide, rfl, List.mem_of_getElem? (i := 875) rfl⟩
set_option maxRecDepth 100000 in
theorem zf86 : FlOk (70204, 7, 11) := Or.inr ⟨_, _, _, rfl, by decide, rfl, List.mem_of_getElem? (i := 878) rfl⟩
set_option maxRecDepth 100000 in
theorem zf87 : FlOk (70207, 7, 10) := Or.inr ⟨_, _, _, rfl, by decide, rfl, List.mem_of_getElem? (i := 877) rfl⟩
set_option maxRecDepth 100000 in
theorem zf88 : FlOk (70217, 7, 12) := Or.inr ⟨_, _, _, rfl, by decide, rfl, List.mem_of_getElem? (i := 879) rfl⟩
set_option maxRecDepth 100000 in
theorem zf89 : FlOk (70228, 7, 15) := Or.inr ⟨_, _, _, rfl, by decide, rfl, List.mem_of_getElem? (i := 882) rfl⟩
set_option maxRecDepth 100000 in
theorem zf90 : FlOk (70235, 7, 16) := Or.inr ⟨_, _, _, rfl, by decide, rfl, List.mem_of_getElem? (i := 883) rfl⟩
set_option maxRecDepth 100000 in
theorem zf91 : FlOk (70266, 7, 17) := Or.inr ⟨_, _, _, rfl, by decide, rfl, List.mem_of_getElem? (i := 884) rfl⟩
set_option maxRecDepth 100000 in
theorem zf92 : FlOk (70299, 7, 3) := Or.inr ⟨_, _, _, rfl, by decide, rfl, List.mem_of_getElem? (i := 870) rfl⟩
set_option maxRecDepth 100000 in
theorem zf93 : FlOk (100009, 15, 0) := Or.inl rfl
set_option maxRecDepth 100000 in
theorem zf94 : FlOk (100015, 15, 1) := Or.inl rfl
set_option maxRecDepth 100000 in
theorem zf_all : ∀ q ∈ FLT, FlOk q := List.forall_mem_cons.mpr ⟨zf0, List.forall_mem_cons.mpr ⟨zf1, List.forall_mem_cons.mpr ⟨zf2, List.forall_mem_cons.mpr ⟨zf3, List.forall_mem_cons.mpr ⟨zf4, List.forall_mem_cons.mpr ⟨zf5, List.forall_mem_cons.mpr ⟨zf6, List.forall_mem_cons.mpr ⟨zf7, List.forall_mem_cons.mpr ⟨zf8, List.forall_mem_cons.mpr ⟨zf9, List.forall_mem_cons.mpr ⟨zf10, List.forall_mem_cons.mpr ⟨zf11, List.forall_mem_cons.mpr ⟨zf12, List.forall_mem_cons.mpr ⟨zf13, List.forall_mem_cons.mpr ⟨zf14, List.forall_mem_cons.mpr ⟨zf15, List.forall_mem_cons.mpr ⟨zf16, List.forall_mem_cons.mpr ⟨zf17, List.forall_mem_cons.mpr ⟨zf18, List.forall_mem_cons.mpr ⟨zf19, List.forall_mem_cons.mpr ⟨zf20, List.forall_mem_cons.mpr ⟨zf21, List.forall_mem_cons.mpr ⟨zf22, List.forall_mem_cons.mpr ⟨zf23, List.forall_mem_cons.mpr ⟨zf24, List.forall_mem_cons.mpr ⟨zf25, List.forall_mem_cons.mpr ⟨zf26, List.forall_mem_cons.mpr ⟨zf27, List.forall_mem_cons.mpr ⟨zf28, List.forall_mem_cons.mpr ⟨zf29, List.forall_mem_cons.mpr ⟨zf30, List.forall_mem_cons.mpr ⟨zf31, List.forall_mem_cons.mpr ⟨zf32, List.forall_mem_cons.mpr ⟨zf33, List.forall_mem_cons.mpr ⟨zf34, List.forall_mem_cons.mpr ⟨zf35, List.forall_mem_cons.mpr ⟨zf36, List.forall_mem_cons.mpr ⟨zf37, List.forall_mem_cons.mpr ⟨zf38, List.forall_mem_cons.mpr ⟨zf39, List.forall_mem_cons.mpr ⟨zf40, List.forall_mem_cons.mpr ⟨zf41, List.forall_mem_cons.mpr ⟨zf42, List.forall_mem_cons.mpr ⟨zf43, List.forall_mem_cons.mpr ⟨zf44, List.forall_mem_cons.mpr ⟨zf45, List.forall_mem_cons.mpr ⟨zf46, List.forall_mem_cons.mpr ⟨zf47, List.forall_mem_cons.mpr ⟨zf48, List.forall_mem_cons.mpr ⟨zf49, List.forall_mem_cons.mpr ⟨zf50, List.forall_mem_cons.mpr ⟨zf51, List.forall_mem_cons.mpr ⟨zf52, List.forall_mem_cons.mpr ⟨zf53, List.forall_mem_cons.mpr ⟨zf54, List.forall_mem_cons.mpr ⟨zf55, List.forall_mem_cons.mpr ⟨zf56, List.forall_mem_cons.mpr ⟨zf57, List.forall_mem_cons.mpr ⟨zf58, List.forall_mem_cons.mpr ⟨zf59, List.forall_mem_cons.mpr ⟨zf60, List.forall_mem_cons.mpr ⟨zf61, List.forall_mem_cons.mpr ⟨zf62, List.forall_mem_cons.mpr ⟨zf63, List.forall_mem_cons.mpr ⟨zf64, List.forall_mem_cons.mpr ⟨zf65, List.forall_mem_cons.mpr ⟨zf66, List.forall_mem_cons.mpr ⟨zf67, List.forall_mem_cons.mpr ⟨zf68, List.forall_mem_cons.mpr ⟨zf69, List.forall_mem_cons.mpr ⟨zf70, List.forall_mem_cons.mpr ⟨zf71, List.forall_mem_cons.mpr ⟨zf72, List.forall_mem_cons.mpr ⟨zf73, List.forall_mem_cons.mpr ⟨zf74, List.forall_mem_cons.mpr ⟨zf75, List.forall_mem_cons.mpr ⟨zf76, List.forall_mem_cons.mpr ⟨zf77, List.forall_mem_cons.mpr ⟨zf78, List.forall_mem_cons.mpr ⟨zf79, List.forall_mem_cons.mpr ⟨zf80, List.forall_mem_cons.mpr ⟨zf81, List.forall_mem_cons.mpr ⟨zf82, List.forall_mem_cons.mpr ⟨zf83, List.forall_mem_cons.mpr ⟨zf84, List.forall_mem_cons.mpr ⟨zf85, List.forall_mem_cons.mpr ⟨zf86, List.forall_mem_cons.mpr ⟨zf87, List.forall_mem_cons.mpr ⟨zf88, List.forall_mem_cons.mpr ⟨zf89, List.forall_mem_cons.mpr ⟨zf90, List.forall_mem_cons.mpr ⟨zf91, List.forall_mem_cons.mpr ⟨zf92, List.forall_mem_cons.mpr ⟨zf93, List.forall_mem_cons.mpr ⟨zf94, fun _ h => absurd h List.not_mem_nil⟩⟩⟩⟩⟩⟩⟩⟩⟩⟩⟩⟩⟩⟩⟩⟩⟩⟩⟩⟩⟩⟩⟩⟩⟩⟩⟩⟩⟩⟩⟩⟩⟩⟩⟩⟩⟩⟩⟩⟩⟩⟩⟩⟩⟩⟩⟩⟩⟩⟩⟩⟩⟩⟩⟩⟩⟩⟩⟩⟩⟩⟩⟩⟩⟩⟩⟩⟩⟩⟩⟩⟩⟩⟩⟩⟩⟩⟩⟩⟩⟩⟩⟩⟩⟩⟩⟩⟩⟩⟩⟩⟩⟩⟩⟩
def MlOk (q : Nat × Nat × Bool) : Prop := if q.2.1 = 1000 then Cond.methodLink (cN (q.1 / 10000)) (q.1 % 10000) Lib.Math.max.name ∈ lw_tbl else if q.2.1 = 1001 then Cond.methodLink (cN (q.1 / 10000)) (q.1 % 10000) Lib.Math.min.name ∈ lw_tbl else if q.2.1 = 1002 then Cond.methodLink (cN (q.1 / 10000)) (q.1 % 10000) arraycopyName ∈ lw_tbl else q.2.1 < 228 ∧ (if q.2.2 = true then Cond.methodLinkNest (cN (q.1 / 10000)) (q.1 % 10000) (mY q.2.1) "EarRows" else Cond.methodLink (cN (q.1 / 10000)) (q.1 % 10000) (mY q.2.1)) ∈ lw_tbl
set_option maxRecDepth 100000 in
theorem zm0 : MlOk (38, 1002, false) := (List.mem_of_getElem? (i := 475) rfl : _ ∈ lw_tbl)
set_option maxRecDepth 100000 in
theorem zm1 : MlOk (44, 24, false) := (⟨by decide, List.mem_of_getElem? (i := 478) rfl⟩ : _ ∧ _ ∈ lw_tbl)
set_option maxRecDepth 100000 in
theorem zm2 : MlOk (48, 111, true) := (⟨by decide, List.mem_of_getElem? (i := 293) rfl⟩ : _ ∧ _ ∈ lw_tbl)
set_option maxRecDepth 100000 in
theorem zm3 : MlOk (52, 112, true) := (⟨by decide, List.mem_of_getElem? (i := 294) rfl⟩ : _ ∧ _ ∈ lw_tbl)
set_option maxRecDepth 100000 in
theorem zm4 : MlOk (55, 1, false) := (⟨by decide, List.mem_of_getElem? (i := 315) rfl⟩ : _ ∧ _ ∈ lw_tbl)
set_option maxRecDepth 100000 in
theorem zm5 : MlOk (59, 3, false) := (⟨by decide, List.mem_of_getElem? (i := 311) rfl⟩ : _ ∧ _ ∈ lw_tbl)
set_option maxRecDepth 100000 in
theorem zm6 : MlOk (63, 220, false) := (⟨by decide, List.mem_of_getElem? (i := 561) rfl⟩ : _ ∧ _ ∈ lw_tbl)
set_option maxRecDepth 100000 in
theorem zm7 : MlOk (69, 7, false) := (⟨by decide, List.mem_of_getElem? (i := 351) rfl⟩ : _ ∧ _ ∈ lw_tbl)
set_option maxRecDepth 100000 in
theorem zm8 : MlOk (88, 25, false) := (⟨by decide, List.mem_of_getElem? (i := 352) rfl⟩ : _ ∧ _ ∈ lw_tbl)
set_option maxRecDepth 100000 in
theorem zm9 : MlOk (91, 12, false) := (⟨by decide, List.mem_of_getElem? (i := 416) rfl⟩ : _ ∧ _ ∈ lw_tbl)
set_option maxRecDepth 100000 in
theorem zm10 : MlOk (95, 11, false) := (⟨by decide, List.mem_of_getElem? (i := 500) rfl⟩ : _ ∧ _ ∈ lw_tbl)
set_option maxRecDepth 100000 in
theorem zm11 : MlOk (102, 5, false) := (⟨by decide, List.mem_of_getElem? (i := 420) rfl⟩ : _ ∧ _ ∈ lw_tbl)
set_option maxRecDepth 100000 in
theorem zm12 : MlOk (106, 13, false) := (⟨by decide, List.mem_of_getElem? (i := 421) rfl⟩ : _ ∧ _ ∈ lw_tbl)
set_option maxRecDepth 100000 in
theorem zm13 : MlOk (109, 14, false) := (⟨by decide, List.mem_of_getElem? (i := 430) rfl⟩ : _ ∧ _ ∈ lw_tbl)
set_option maxRecDepth 100000 in
theorem zm14 : MlOk (115, 214, false) := (⟨by decide, List.mem_of_getElem? (i := 425) rfl⟩ : _ ∧ _ ∈ lw_tbl)
set_option maxRecDepth 100000 in
theorem zm15 : MlOk (120, 215, false) := (⟨by decide, List.mem_of_getElem? (i := 426) rfl⟩ : _ ∧ _ ∈ lw_tbl)
set_option maxRecDepth 100000 in
theorem zm16 : MlOk (123, 1001, false) := (List.mem_of_getElem? (i := 429) rfl : _ ∈ lw_tbl)
set_option maxRecDepth 100000 in
theorem zm17 : MlOk (128, 216, false) := (⟨by decide, List.mem_of_getElem? (i := 434) rfl⟩ : _ ∧ _ ∈ lw_tbl)
set_option maxRecDepth 100000 in
theorem zm18 : MlOk (131, 27, false) := (⟨by decide, List.mem_of_getElem? (i := 435) rfl⟩ : _ ∧ _ ∈ lw_tbl)
set_option maxRecDepth 100000 in
theorem zm19 : MlOk (134, 21, false) := (⟨by decide, List.mem_of_getElem? (i := 581) rfl⟩ : _ ∧ _ ∈ lw_tbl)
set_option maxRecDepth 100000 in
theorem zm20 : MlOk (137, 22, false) := (⟨by decide, List.mem_of_getElem? (i := 582) rfl⟩ : _ ∧ _ ∈ lw_tbl)
set_option maxRecDepth 100000 in
theorem zm21 : MlOk (20022, 219, false) := (⟨by decide, List.mem_of_getElem? (i := 787) rfl⟩ : _ ∧ _ ∈ lw_tbl)
set_option maxRecDepth 100000 in
theorem zm22 : MlOk (40020, 49, false) := (⟨by decide, List.mem_of_getElem? (i := 632) rfl⟩ : _ ∧ _ ∈ lw_tbl)
set_option maxRecDepth 100000 in
theorem zm23 : MlOk (40023, 37, false) := (⟨by decide, List.mem_of_getElem? (i := 653) rfl⟩ : _ ∧ _ ∈ lw_tbl)
set_option maxRecDepth 100000 in
theorem zm24 : MlOk (40031, 46, false) := (⟨by decide, List.mem_of_getElem? (i := 769) rfl⟩ : _ ∧ _ ∈ lw_tbl)
set_option maxRecDepth 100000 in
theorem zm25 : MlOk (40040, 47, false) := (⟨by decide, List.mem_of_getElem? (i := 658) rfl⟩ : _ ∧ _ ∈ lw_tbl)
set_option maxRecDepth 100000 in
theorem zm26 : MlOk (40044, 38, false) := (⟨by decide, List.mem_of_getElem? (i := 715) rfl⟩ : _ ∧ _ ∈ lw_tbl)
set_option maxRecDepth 100000 in
theorem zm27 : MlOk (40049, 39, false) := (⟨by decide, List.mem_of_getElem? (i := 726) rfl⟩ : _ ∧ _ ∈ lw_tbl)
set_option maxRecDepth 100000 in
theorem zm28 : MlOk (40054, 40, false) := (⟨by decide, List.mem_of_getElem? (i := 732) rfl⟩ : _ ∧ _ ∈ lw_tbl)
set_option maxRecDepth 100000 in
theorem zm29 : MlOk (40059, 41, false) := (⟨by decide, List.mem_of_getElem? (i := 737) rfl⟩ : _ ∧ _ ∈ lw_tbl)
set_option maxRecDepth 100000 in
theorem zm30 : MlOk (40064, 42, false) := (⟨by decide, List.mem_of_getElem? (i := 742) rfl⟩ : _ ∧ _ ∈ lw_tbl)
set_option maxRecDepth 100000 in
theorem zm31 : MlOk (40067, 43, false) := (⟨by decide, List.mem_of_getElem? (i := 746) rfl⟩ : _ ∧ _ ∈ lw_tbl)
set_option maxRecDepth 100000 in
theorem zm32 : MlOk (40070, 48, false) := (⟨by decide, List.mem_of_getElem? (i := 719) rfl⟩ : _ ∧ _ ∈ lw_tbl)
set_option maxRecDepth 100000 in
theorem zm33 : MlOk (40076, 2, false) := (⟨by decide, List.mem_of_getElem? (i := 724) rfl⟩ : _ ∧ _ ∈ lw_tbl)
set_option maxRecDepth 100000 in
theorem zm34 : MlOk (40082, 6, false) := (⟨by decide, List.mem_of_getElem? (i := 730) rfl⟩ : _ ∧ _ ∈ lw_tbl)
set_option maxRecDepth 100000 in
theorem zm35 : MlOk (40092, 44, false) := (⟨by decide, List.mem_of_getElem? (i := 750) rfl⟩ : _ ∧ _ ∈ lw_tbl)
set_option maxRecDepth 100000 in
theorem zm36 : MlOk (40096, 7, false) := (⟨by decide, List.mem_of_getElem? (i := 763) rfl⟩ : _ ∧ _ ∈ lw_tbl)
set_option maxRecDepth 100000 in
theorem zm37 : MlOk (40099, 50, false) := (⟨by decide, List.mem_of_getElem? (i := 714) rfl⟩ : _ ∧ _ ∈ lw_tbl)
set_option maxRecDepth 100000 in
theorem zm38 : MlOk (40108, 8, false) := (⟨by decide, List.mem_of_getElem? (i := 767) rfl⟩ : _ ∧ _ ∈ lw_tbl)
set_option maxRecDepth 100000 in
theorem zm39 : MlOk (40127, 45, false) := (⟨by decide, List.mem_of_getElem? (i := 754) rfl⟩ : _ ∧ _ ∈ lw_tbl)
set_option maxRecDepth 100000 in
theorem zm40 : MlOk (40131, 53, false) := (⟨by decide, List.mem_of_getElem? (i := 662) rfl⟩ : _ ∧ _ ∈ lw_tbl)
set_option maxRecDepth 100000 in
theorem zm41 : MlOk (50017, 50, false) := (⟨by decide, List.mem_of_getElem? (i := 636) rfl⟩ : _ ∧ _ ∈ lw_tbl)
set_option maxRecDepth 100000 in
theorem zm42 : MlOk (50025, 52, false) := (⟨by decide, List.mem_of_getElem? (i := 640) rfl⟩ : _ ∧ _ ∈ lw_tbl)
set_option maxRecDepth 100000 in
theorem zm43 : MlOk (50038, 51, false) := (⟨by decide, List.mem_of_getElem? (i := 644) rfl⟩ : _ ∧ _ ∈ lw_tbl)
set_option maxRecDepth 100000 in
theorem zm44 : MlOk (50042, 35, false) := (⟨by decide, List.mem_of_getElem? (i := 648) rfl⟩ : _ ∧ _ ∈ lw_tbl)
set_option maxRecDepth 100000 in
theorem zm45 : MlOk (50045, 1001, false) := (List.mem_of_getElem? (i := 652) rfl : _ ∈ lw_tbl)
set_option maxRecDepth 100000 in
theorem zm46 : MlOk (50055, 221, false) := (⟨by decide, List.mem_of_getElem? (i := 666) rfl⟩ : _ ∧ _ ∈ lw_tbl)
set_option maxRecDepth 100000 in
theorem zm47 : MlOk (50061, 222, false) := (⟨by decide, List.mem_of_getElem? (i := 676) rfl⟩ : _ ∧ _ ∈ lw_tbl)
set_option maxRecDepth 100000 in
theorem zm48 : MlOk (60053, 111, false) := (⟨by decide, List.mem_of_getElem? (i := 275) rfl⟩ : _ ∧ _ ∈ lw_tbl)
set_option maxRecDepth 100000 in
theorem zm49 : MlOk (60057, 112, false) := (⟨by decide, List.mem_of_getElem? (i := 281) rfl⟩ : _ ∧ _ ∈ lw_tbl)
set_option maxRecDepth 100000 in
theorem zm50 : MlOk (60060, 117, false) := (⟨by decide, List.mem_of_getElem? (i := 278) rfl⟩ : _ ∧ _ ∈ lw_tbl)
set_option maxRecDepth 100000 in
theorem zm51 : MlOk (60065, 107, false) := (⟨by decide, List.mem_of_getElem? (i := 285) rfl⟩ : _ ∧ _ ∈ lw_tbl)
set_option maxRecDepth 100000 in
theorem zm52 : MlOk (60069, 1, false) := (⟨by decide, List.mem_of_getElem? (i := 289) rfl⟩ : _ ∧ _ ∈ lw_tbl)
set_option maxRecDepth 100000 in
theorem zm53 : MlOk (60073, 2, false) := (⟨by decide, List.mem_of_getElem? (i := 295) rfl⟩ : _ ∧ _ ∈ lw_tbl)
set_option maxRecDepth 100000 in
theorem zm54 : MlOk (60077, 4, false) := (⟨by decide, List.mem_of_getElem? (i := 307) rfl⟩ : _ ∧ _ ∈ lw_tbl)
set_option maxRecDepth 100000 in
theorem zm55 : MlOk (60081, 3, false) := (⟨by decide, List.mem_of_getElem? (i := 316) rfl⟩ : _ ∧ _ ∈ lw_tbl)
set_option maxRecDepth 100000 in
theorem zm56 : MlOk (60084, 5, false) := (⟨by decide, List.mem_of_getElem? (i := 321) rfl⟩ : _ ∧ _ ∈ lw_tbl)
set_option maxRecDepth 100000 in
theorem zm57 : MlOk (60088, 59, false) := (⟨by decide, List.mem_of_getElem? (i := 329) rfl⟩ : _ ∧ _ ∈ lw_tbl)
set_option maxRecDepth 100000 in
theorem zm58 : MlOk (60102, 114, false) := (⟨by decide, List.mem_of_getElem? (i := 336) rfl⟩ : _ ∧ _ ∈ lw_tbl)
set_option maxRecDepth 100000 in
theorem zm59 : MlOk (60105, 113, false) := (⟨by decide, List.mem_of_getElem? (i := 339) rfl⟩ : _ ∧ _ ∈ lw_tbl)
set_option maxRecDepth 100000 in
theorem zm60 : MlOk (60108, 7, false) := (⟨by decide, List.mem_of_getElem? (i := 342) rfl⟩ : _ ∧ _ ∈ lw_tbl)
set_option maxRecDepth 100000 in
theorem zm61 : MlOk (60113, 8, false) := (⟨by decide, List.mem_of_getElem? (i := 347) rfl⟩ : _ ∧ _ ∈ lw_tbl)
set_option maxRecDepth 100000 in
theorem zm62 : MlOk (60119, 108, false) := (⟨by decide, List.mem_of_getElem? (i := 360) rfl⟩ : _ ∧ _ ∈ lw_tbl)
set_option maxRecDepth 100000 in
theorem zm63 : MlOk (60152, 214, false) := (⟨by decide, List.mem_of_getElem? (i := 364) rfl⟩ : _ ∧ _ ∈ lw_tbl)
set_option maxRecDepth 100000 in
theorem zm64 : MlOk (60160, 216, false) := (⟨by decide, List.mem_of_getElem? (i := 370) rfl⟩ : _ ∧ _ ∈ lw_tbl)
set_option maxRecDepth 100000 in
theorem zm65 : MlOk (60163, 63, false) := (⟨by decide, List.mem_of_getElem? (i := 377) rfl⟩ : _ ∧ _ ∈ lw_tbl)
set_option maxRecDepth 100000 in
theorem zm66 : MlOk (60166, 217, false) := (⟨by decide, List.mem_of_getElem? (i := 388) rfl⟩ : _ ∧ _ ∈ lw_tbl)
set_option maxRecDepth 100000 in
theorem zm67 : MlOk (60170, 110, false) := (⟨by decide, List.mem_of_getElem? (i := 407) rfl⟩ : _ ∧ _ ∈ lw_tbl)
set_option maxRecDepth 100000 in
theorem zm68 : MlOk (60174, 9, false) := (⟨by decide, List.mem_of_getElem? (i := 412) rfl⟩ : _ ∧ _ ∈ lw_tbl)
set_option maxRecDepth 100000 in
theorem zm69 : MlOk (60177, 15, false) := (⟨by decide, List.mem_of_getElem? (i := 443) rfl⟩ : _ ∧ _ ∈ lw_tbl)
set_option maxRecDepth 100000 in
theorem zm70 : MlOk (60180, 17, false) := (⟨by decide, List.mem_of_getElem? (i := 451) rfl⟩ : _ ∧ _ ∈ lw_tbl)
set_option maxRecDepth 100000 in
theorem zm71 : MlOk (60183, 16, false) := (⟨by decide, List.mem_of_getElem? (i := 455) rfl⟩ : _ ∧ _ ∈ lw_tbl)
set_option maxRecDepth 100000 in
theorem zm72 : MlOk (60186, 78, false) := (⟨by decide, List.mem_of_getElem? (i := 467) rfl⟩ : _ ∧ _ ∈ lw_tbl)
set_option maxRecDepth 100000 in
theorem zm73 : MlOk (60189, 0, false) := (⟨by decide, List.mem_of_getElem? (i := 471) rfl⟩ : _ ∧ _ ∈ lw_tbl)
set_option maxRecDepth 100000 in
theorem zm74 : MlOk (60193, 12, false) := (⟨by decide, List.mem_of_getElem? (i := 490) rfl⟩ : _ ∧ _ ∈ lw_tbl)
set_option maxRecDepth 100000 in
theorem zm75 : MlOk (60197, 10, false) := (⟨by decide, List.mem_of_getElem? (i := 496) rfl⟩ : _ ∧ _ ∈ lw_tbl)
set_option maxRecDepth 100000 in
theorem zm76 : MlOk (60200, 109, false) := (⟨by decide, List.mem_of_getElem? (i := 512) rfl⟩ : _ ∧ _ ∈ lw_tbl)
set_option maxRecDepth 100000 in
theorem zm77 : MlOk (60203, 28, false) := (⟨by decide, List.mem_of_getElem? (i := 516) rfl⟩ : _ ∧ _ ∈ lw_tbl)
set_option maxRecDepth 100000 in
theorem zm78 : MlOk (60207, 25, false) := (⟨by decide, List.mem_of_getElem? (i := 524) rfl⟩ : _ ∧ _ ∈ lw_tbl)
set_option maxRecDepth 100000 in
theorem zm79 : MlOk (60210, 26, false) := (⟨by decide, List.mem_of_getElem? (i := 533) rfl⟩ : _ ∧ _ ∈ lw_tbl)
set_option maxRecDepth 100000 in
theorem zm80 : MlOk (60213, 18, false) := (⟨by decide, List.mem_of_getElem? (i := 545) rfl⟩ : _ ∧ _ ∈ lw_tbl)
set_option maxRecDepth 100000 in
theorem zm81 : MlOk (60216, 19, false) := (⟨by decide, List.mem_of_getElem? (i := 553) rfl⟩ : _ ∧ _ ∈ lw_tbl)
set_option maxRecDepth 100000 in
theorem zm82 : MlOk (60219, 6, false) := (⟨by decide, List.mem_of_getElem? (i := 557) rfl⟩ : _ ∧ _ ∈ lw_tbl)
set_option maxRecDepth 100000 in
theorem zm83 : MlOk (60222, 1001, false) := (List.mem_of_getElem? (i := 568) rfl : _ ∈ lw_tbl)
set_option maxRecDepth 100000 in
theorem zm84 : MlOk (60227, 21, false) := (⟨by decide, List.mem_of_getElem? (i := 573) rfl⟩ : _ ∧ _ ∈ lw_tbl)
set_option maxRecDepth 100000 in
theorem zm85 : MlOk (60230, 23, false) := (⟨by decide, List.mem_of_getElem? (i := 577) rfl⟩ : _ ∧ _ ∈ lw_tbl)
set_option maxRecDepth 100000 in
theorem zm86 : MlOk (60233, 22, false) := (⟨by decide, List.mem_of_getElem? (i := 590) rfl⟩ : _ ∧ _ ∈ lw_tbl)
set_option maxRecDepth 100000 in
theorem zm87 : MlOk (60236, 29, false) := (⟨by decide, List.mem_of_getElem? (i := 599) rfl⟩ : _ ∧ _ ∈ lw_tbl)
set_option maxRecDepth 100000 in
theorem zm88 : MlOk (60240, 91, false) := (⟨by decide, List.mem_of_getElem? (i := 609) rfl⟩ : _ ∧ _ ∈ lw_tbl)
set_option maxRecDepth 100000 in
theorem zm89 : MlOk (60245, 34, false) := (⟨by decide, List.mem_of_getElem? (i := 616) rfl⟩ : _ ∧ _ ∈ lw_tbl)
set_option maxRecDepth 100000 in
theorem zm90 : MlOk (60249, 36, false) := (⟨by decide, List.mem_of_getElem? (i := 628) rfl⟩ : _ ∧ _ ∈ lw_tbl)
set_option maxRecDepth 100000 in
theorem zm91 : MlOk (60253, 115, false) := (⟨by decide, List.mem_of_getElem? (i := 777) rfl⟩ : _ ∧ _ ∈ lw_tbl)
set_option maxRecDepth 100000 in
theorem zm92 : MlOk (60256, 116, false) := (⟨by decide, List.mem_of_getElem? (i := 780) rfl⟩ : _ ∧ _ ∈ lw_tbl)
set_option maxRecDepth 100000 in
theorem zm93 : MlOk (60259, 31, false) := (⟨by decide, List.mem_of_getElem? (i := 783) rfl⟩ : _ ∧ _ ∈ lw_tbl)
set_option maxRecDepth 100000 in
theorem zm94 : MlOk (60264, 30, false) := (⟨by decide, List.mem_of_getElem? (i := 794) rfl⟩ : _ ∧ _ ∈ lw_tbl)
set_option maxRecDepth 100000 in
theorem zm95 : MlOk (60272, 32, false) := (⟨by decide, List.mem_of_getElem? (i := 799) rfl⟩ : _ ∧ _ ∈ lw_tbl)
set_option maxRecDepth 100000 in
theorem zm96 : MlOk (60279, 33, false) := (⟨by decide, List.mem_of_getElem? (i := 807) rfl⟩ : _ ∧ _ ∈ lw_tbl)
set_option maxRecDepth 100000 in
theorem zm97 : MlOk (60282, 1002, false) := (List.mem_of_getElem? (i := 811) rfl : _ ∈ lw_tbl)
set_option maxRecDepth 100000 in
theorem zm98 : MlOk (60290, 101, false) := (⟨by decide, List.mem_of_getElem? (i := 821) rfl⟩ : _ ∧ _ ∈ lw_tbl)
set_option maxRecDepth 100000 in
theorem zm99 : MlOk (60293, 20, false) := (⟨by decide, List.mem_of_getElem? (i := 845) rfl⟩ : _ ∧ _ ∈ lw_tbl)
set_option maxRecDepth 100000 in
theorem zm100 : MlOk (70060, 121, false) := (⟨by decide, List.mem_of_getElem? (i := 1096) rfl⟩ : _ ∧ _ ∈ lw_tbl)
set_option maxRecDepth 100000 in
theorem zm101 : MlOk (70064, 119, false) := (⟨by decide, List.mem_of_getElem? (i := 941) rfl⟩ : _ ∧ _ ∈ lw_tbl)
set_option maxRecDepth 100000 in
theorem zm102 : MlOk (70068, 123, false) := (⟨by decide, List.mem_of_getElem? (i := 938) rfl⟩ : _ ∧ _ ∈ lw_tbl)
set_option maxRecDepth 100000 in
theorem zm103 : MlOk (70072, 120, false) := (⟨by decide, List.mem_of_getElem? (i := 944) rfl⟩ : _ ∧ _ ∈ lw_tbl)
set_option maxRecDepth 100000 in
theorem zm104 : MlOk (70076, 118, false) := (⟨by decide, List.mem_of_getElem? (i := 949) rfl⟩ : _ ∧ _ ∈ lw_tbl)
set_option maxRecDepth 100000 in
theorem zm105 : MlOk (70080, 126, false) := (⟨by decide, List.mem_of_getElem? (i := 961) rfl⟩ : _ ∧ _ ∈ lw_tbl)
set_option maxRecDepth 100000 in
theorem zm106 : MlOk (70083, 128, false) := (⟨by decide, List.mem_of_getElem? (i := 969) rfl⟩ : _ ∧ _ ∈ lw_tbl)
set_option maxRecDepth 100000 in
theorem zm107 : MlOk (70086, 132, false) := (⟨by decide, List.mem_of_getElem? (i := 992) rfl⟩ : _ ∧ _ ∈ lw_tbl)
set_option maxRecDepth 100000 in
theorem zm108 : MlOk (70089, 134, false) := (⟨by decide, List.mem_of_getElem? (i := 981) rfl⟩ : _ ∧ _ ∈ lw_tbl)
set_option maxRecDepth 100000 in
theorem zm109 : MlOk (70092, 135, false) := (⟨by decide, List.mem_of_getElem? (i := 984) rfl⟩ : _ ∧ _ ∈ lw_tbl)
set_option maxRecDepth 100000 in
theorem zm110 : MlOk (70096, 136, false) := (⟨by decide, List.mem_of_getElem? (i := 988) rfl⟩ : _ ∧ _ ∈ lw_tbl)
set_option maxRecDepth 100000 in
theorem zm111 : MlOk (70100, 1001, false) := (List.mem_of_getElem? (i := 1014) rfl : _ ∈ lw_tbl)
set_option maxRecDepth 100000 in
theorem zm112 : MlOk (70105, 133, false) := (⟨by decide, List.mem_of_getElem? (i := 1003) rfl⟩ : _ ∧ _ ∈ lw_tbl)
set_option maxRecDepth 100000 in
theorem zm113 : MlOk (70108, 131, false) := (⟨by decide, List.mem_of_getElem? (i := 999) rfl⟩ : _ ∧ _ ∈ lw_tbl)
set_option maxRecDepth 100000 in
theorem zm114 : MlOk (70111, 140, false) := (⟨by decide, List.mem_of_getElem? (i := 1007) rfl⟩ : _ ∧ _ ∈ lw_tbl)
set_option maxRecDepth 100000 in
theorem zm115 : MlOk (70114, 138, false) := (⟨by decide, List.mem_of_getElem? (i := 1011) rfl⟩ : _ ∧ _ ∈ lw_tbl)
set_option maxRecDepth 100000 in
theorem zm116 : MlOk (70117, 139, false) := (⟨by decide, List.mem_of_getElem? (i := 1015) rfl⟩ : _ ∧ _ ∈ lw_tbl)
set_option maxRecDepth 100000 in
theorem zm117 : MlOk (70120, 144, false) := (⟨by decide, List.mem_of_getElem? (i := 1031) rfl⟩ : _ ∧ _ ∈ lw_tbl)
set_option maxRecDepth 100000 in
theorem zm118 : MlOk (70128, 150, false) := (⟨by decide, List.mem_of_getElem? (i := 1060) rfl⟩ : _ ∧ _ ∈ lw_tbl)
set_option maxRecDepth 100000 in
theorem zm119 : MlOk (70132, 148, false) := (⟨by decide, List.mem_of_getElem? (i := 1064) rfl⟩ : _ ∧ _ ∈ lw_tbl)
set_option maxRecDepth 100000 in
theorem zm120 : MlOk (70135, 149, false) := (⟨by decide, List.mem_of_getElem? (i := 1068) rfl⟩ : _ ∧ _ ∈ lw_tbl)
set_option maxRecDepth 100000 in
theorem zm121 : MlOk (70139, 151, false) := (⟨by decide, List.mem_of_getElem? (i := 1056) rfl⟩ : _ ∧ _ ∈ lw_tbl)
set_option maxRecDepth 100000 in
theorem zm122 : MlOk (70142, 153, false) := (⟨by decide, List.mem_of_getElem? (i := 1047) rfl⟩ : _ ∧ _ ∈ lw_tbl)
set_option maxRecDepth 100000 in
theorem zm123 : MlOk (70146, 152, false) := (⟨by decide, List.mem_of_getElem? (i := 1052) rfl⟩ : _ ∧ _ ∈ lw_tbl)
set_option maxRecDepth 100000 in
theorem zm124 : MlOk (70149, 156, false) := (⟨by decide, List.mem_of_getElem? (i := 1080) rfl⟩ : _ ∧ _ ∈ lw_tbl)
set_option maxRecDepth 100000 in
theorem zm125 : MlOk (70153, 159, false) := (⟨by decide, List.mem_of_getElem? (i := 1092) rfl⟩ : _ ∧ _ ∈ lw_tbl)
set_option maxRecDepth 100000 in
theorem zm126 : MlOk (70157, 122, false) := (⟨by decide, List.mem_of_getElem? (i := 1099) rfl⟩ : _ ∧ _ ∈ lw_tbl)
set_option maxRecDepth 100000 in
theorem zm127 : MlOk (70161, 163, false) := (⟨by decide, List.mem_of_getElem? (i := 1120) rfl⟩ : _ ∧ _ ∈ lw_tbl)
set_option maxRecDepth 100000 in
theorem zm128 : MlOk (70164, 164, false) := (⟨by decide, List.mem_of_getElem? (i := 1116) rfl⟩ : _ ∧ _ ∈ lw_tbl)
set_option maxRecDepth 100000 in
theorem zm129 : MlOk (70167, 165, false) := (⟨by decide, List.mem_of_getElem? (i := 1136) rfl⟩ : _ ∧ _ ∈ lw_tbl)
set_option maxRecDepth 100000 in
theorem zm130 : MlOk (70170, 1000, false) := (List.mem_of_getElem? (i := 1140) rfl : _ ∈ lw_tbl)
set_option maxRecDepth 100000 in
theorem zm131 : MlOk (70173, 173, false) := (⟨by decide, List.mem_of_getElem? (i := 1159) rfl⟩ : _ ∧ _ ∈ lw_tbl)
set_option maxRecDepth 100000 in
theorem zm132 : MlOk (70176, 212, false) := (⟨by decide, List.mem_of_getElem? (i := 1167) rfl⟩ : _ ∧ _ ∈ lw_tbl)
set_option maxRecDepth 100000 in
theorem zm133 : MlOk (70179, 177, false) := (⟨by decide, List.mem_of_getElem? (i := 1179) rfl⟩ : _ ∧ _ ∈ lw_tbl)
set_option maxRecDepth 100000 in
theorem zm134 : MlOk (70182, 178, false) := (⟨by decide, List.mem_of_getElem? (i := 1183) rfl⟩ : _ ∧ _ ∈ lw_tbl)
set_option maxRecDepth 100000 in
theorem zm135 : MlOk (70188, 183, false) := (⟨by decide, List.mem_of_getElem? (i := 1205) rfl⟩ : _ ∧ _ ∈ lw_tbl)
set_option maxRecDepth 100000 in
theorem zm136 : MlOk (70201, 187, false) := (⟨by decide, List.mem_of_getElem? (i := 1224) rfl⟩ : _ ∧ _ ∈ lw_tbl)
set_option maxRecDepth 100000 in
theorem zm137 : MlOk (70210, 221, false) := (⟨by decide, List.mem_of_getElem? (i := 1240) rfl⟩ : _ ∧ _ ∈ lw_tbl)
set_option maxRecDepth 100000 in
theorem zm138 : MlOk (70213, 222, false) := (⟨by decide, List.mem_of_getElem? (i := 1241) rfl⟩ : _ ∧ _ ∈ lw_tbl)
set_option maxRecDepth 100000 in
theorem zm139 : MlOk (70221, 188, false) := (⟨by decide, List.mem_of_getElem? (i := 1220) rfl⟩ : _ ∧ _ ∈ lw_tbl)
set_option maxRecDepth 100000 in
theorem zm140 : MlOk (70224, 190, false) := (⟨by decide, List.mem_of_getElem? (i := 1246) rfl⟩ : _ ∧ _ ∈ lw_tbl)
set_option maxRecDepth 100000 in
theorem zm141 : MlOk (70231, 189, false) := (⟨by decide, List.mem_of_getElem? (i := 1236) rfl⟩ : _ ∧ _ ∈ lw_tbl)
set_option maxRecDepth 100000 in
theorem zm142 : MlOk (70238, 193, false) := (⟨by decide, List.mem_of_getElem? (i := 1232) rfl⟩ : _ ∧ _ ∈ lw_tbl)
set_option maxRecDepth 100000 in
theorem zm143 : MlOk (70241, 197, false) := (⟨by decide, List.mem_of_getElem? (i := 1242) rfl⟩ : _ ∧ _ ∈ lw_tbl)
set_option maxRecDepth 100000 in
theorem zm144 : MlOk (70246, 195, false) := (⟨by decide, List.mem_of_getElem? (i := 1267) rfl⟩ : _ ∧ _ ∈ lw_tbl)
set_option maxRecDepth 100000 in
theorem zm145 : MlOk (70251, 191, false) := (⟨by decide, List.mem_of_getElem? (i := 1251) rfl⟩ : _ ∧ _ ∈ lw_tbl)
set_option maxRecDepth 100000 in
theorem zm146 : MlOk (70254, 192, false) := (⟨by decide, List.mem_of_getElem? (i := 1262) rfl⟩ : _ ∧ _ ∈ lw_tbl)
set_option maxRecDepth 100000 in
theorem zm147 : MlOk (70272, 196, false) := (⟨by decide, List.mem_of_getElem? (i := 1256) rfl⟩ : _ ∧ _ ∈ lw_tbl)
set_option maxRecDepth 100000 in
theorem zm148 : MlOk (70280, 194, false) := (⟨by decide, List.mem_of_getElem? (i := 1228) rfl⟩ : _ ∧ _ ∈ lw_tbl)
set_option maxRecDepth 100000 in
theorem zm149 : MlOk (70283, 198, false) := (⟨by decide, List.mem_of_getElem? (i := 1276) rfl⟩ : _ ∧ _ ∈ lw_tbl)
set_option maxRecDepth 100000 in
theorem zm150 : MlOk (70286, 200, false) := (⟨by decide, List.mem_of_getElem? (i := 1284) rfl⟩ : _ ∧ _ ∈ lw_tbl)
set_option maxRecDepth 100000 in
theorem zm151 : MlOk (70290, 201, false) := (⟨by decide, List.mem_of_getElem? (i := 1292) rfl⟩ : _ ∧ _ ∈ lw_tbl)
set_option maxRecDepth 100000 in
theorem zm152 : MlOk (70296, 206, false) := (⟨by decide, List.mem_of_getElem? (i := 1308) rfl⟩ : _ ∧ _ ∈ lw_tbl)
set_option maxRecDepth 100000 in
theorem zm153 : MlOk (80009, 1001, false) := (List.mem_of_getElem? (i := 367) rfl : _ ∈ lw_tbl)
set_option maxRecDepth 100000 in
theorem zm154 : MlOk (80015, 218, false) := (⟨by decide, List.mem_of_getElem? (i := 391) rfl⟩ : _ ∧ _ ∈ lw_tbl)
set_option maxRecDepth 100000 in
theorem zm155 : MlOk (100335, 223, false) := (⟨by decide, List.mem_of_getElem? (i := 670) rfl⟩ : _ ∧ _ ∈ lw_tbl)
set_option maxRecDepth 100000 in
theorem zm156 : MlOk (100492, 224, false) := (⟨by decide, List.mem_of_getElem? (i := 680) rfl⟩ : _ ∧ _ ∈ lw_tbl)
set_option maxRecDepth 100000 in
theorem zm157 : MlOk (100495, 226, false) := (⟨by decide, List.mem_of_getElem? (i := 684) rfl⟩ : _ ∧ _ ∈ lw_tbl)
set_option maxRecDepth 100000 in
theorem zm158 : MlOk (101059, 227, false) := (⟨by decide, List.mem_of_getElem? (i := 692) rfl⟩ : _ ∧ _ ∈ lw_tbl)
set_option maxRecDepth 100000 in
theorem zm159 : MlOk (110009, 225, false) := (⟨by decide, List.mem_of_getElem? (i := 687) rfl⟩ : _ ∧ _ ∈ lw_tbl)
set_option maxRecDepth 100000 in
theorem zm160 : MlOk (130013, 54, false) := (⟨by decide, List.mem_of_getElem? (i := 271) rfl⟩ : _ ∧ _ ∈ lw_tbl)
set_option maxRecDepth 100000 in
theorem zm161 : MlOk (130017, 124, false) := (⟨by decide, List.mem_of_getElem? (i := 934) rfl⟩ : _ ∧ _ ∈ lw_tbl)
set_option maxRecDepth 100000 in
theorem zm162 : MlOk (130018, 55, false) := (⟨by decide, List.mem_of_getElem? (i := 299) rfl⟩ : _ ∧ _ ∈ lw_tbl)
set_option maxRecDepth 100000 in
theorem zm163 : MlOk (130022, 125, false) := (⟨by decide, List.mem_of_getElem? (i := 953) rfl⟩ : _ ∧ _ ∈ lw_tbl)
set_option maxRecDepth 100000 in
theorem zm164 : MlOk (130023, 56, false) := (⟨by decide, List.mem_of_getElem? (i := 303) rfl⟩ : _ ∧ _ ∈ lw_tbl)
set_option maxRecDepth 100000 in
theorem zm165 : MlOk (130027, 127, false) := (⟨by decide, List.mem_of_getElem? (i := 957) rfl⟩ : _ ∧ _ ∈ lw_tbl)
set_option maxRecDepth 100000 in
theorem zm166 : MlOk (130028, 57, false) := (⟨by decide, List.mem_of_getElem? (i := 317) rfl⟩ : _ ∧ _ ∈ lw_tbl)
set_option maxRecDepth 100000 in
theorem zm167 : MlOk (130031, 129, false) := (⟨by decide, List.mem_of_getElem? (i := 965) rfl⟩ : _ ∧ _ ∈ lw_tbl)
set_option maxRecDepth 100000 in
theorem zm168 : MlOk (130032, 58, false) := (⟨by decide, List.mem_of_getElem? (i := 325) rfl⟩ : _ ∧ _ ∈ lw_tbl)
set_option maxRecDepth 100000 in
theorem zm169 : MlOk (130035, 130, false) := (⟨by decide, List.mem_of_getElem? (i := 973) rfl⟩ : _ ∧ _ ∈ lw_tbl)
set_option maxRecDepth 100000 in
theorem zm170 : MlOk (130036, 60, false) := (⟨by decide, List.mem_of_getElem? (i := 332) rfl⟩ : _ ∧ _ ∈ lw_tbl)
set_option maxRecDepth 100000 in
theorem zm171 : MlOk (130039, 137, false) := (⟨by decide, List.mem_of_getElem? (i := 977) rfl⟩ : _ ∧ _ ∈ lw_tbl)
set_option maxRecDepth 100000 in
theorem zm172 : MlOk (130040, 61, false) := (⟨by decide, List.mem_of_getElem? (i := 356) rfl⟩ : _ ∧ _ ∈ lw_tbl)
set_option maxRecDepth 100000 in
theorem zm173 : MlOk (130043, 141, false) := (⟨by decide, List.mem_of_getElem? (i := 995) rfl⟩ : _ ∧ _ ∈ lw_tbl)
set_option maxRecDepth 100000 in
theorem zm174 : MlOk (130044, 62, false) := (⟨by decide, List.mem_of_getElem? (i := 373) rfl⟩ : _ ∧ _ ∈ lw_tbl)
set_option maxRecDepth 100000 in
theorem zm175 : MlOk (130047, 142, false) := (⟨by decide, List.mem_of_getElem? (i := 1019) rfl⟩ : _ ∧ _ ∈ lw_tbl)
set_option maxRecDepth 100000 in
theorem zm176 : MlOk (130048, 64, false) := (⟨by decide, List.mem_of_getElem? (i := 380) rfl⟩ : _ ∧ _ ∈ lw_tbl)
set_option maxRecDepth 100000 in
theorem zm177 : MlOk (130051, 143, false) := (⟨by decide, List.mem_of_getElem? (i := 1023) rfl⟩ : _ ∧ _ ∈ lw_tbl)
set_option maxRecDepth 100000 in
theorem zm178 : MlOk (130052, 65, false) := (⟨by decide, List.mem_of_getElem? (i := 384) rfl⟩ : _ ∧ _ ∈ lw_tbl)
set_option maxRecDepth 100000 in
theorem zm179 : MlOk (130055, 145, false) := (⟨by decide, List.mem_of_getElem? (i := 1027) rfl⟩ : _ ∧ _ ∈ lw_tbl)
set_option maxRecDepth 100000 in
theorem zm180 : MlOk (130056, 66, false) := (⟨by decide, List.mem_of_getElem? (i := 395) rfl⟩ : _ ∧ _ ∈ lw_tbl)
set_option maxRecDepth 100000 in
theorem zm181 : MlOk (130059, 146, false) := (⟨by decide, List.mem_of_getElem? (i := 1035) rfl⟩ : _ ∧ _ ∈ lw_tbl)
set_option maxRecDepth 100000 in
theorem zm182 : MlOk (130060, 67, false) := (⟨by decide, List.mem_of_getElem? (i := 399) rfl⟩ : _ ∧ _ ∈ lw_tbl)
set_option maxRecDepth 100000 in
theorem zm183 : MlOk (130063, 147, false) := (⟨by decide, List.mem_of_getElem? (i := 1039) rfl⟩ : _ ∧ _ ∈ lw_tbl)
set_option maxRecDepth 100000 in
theorem zm184 : MlOk (130064, 68, false) := (⟨by decide, List.mem_of_getElem? (i := 403) rfl⟩ : _ ∧ _ ∈ lw_tbl)
set_option maxRecDepth 100000 in
theorem zm185 : MlOk (130067, 154, false) := (⟨by decide, List.mem_of_getElem? (i := 1043) rfl⟩ : _ ∧ _ ∈ lw_tbl)
set_option maxRecDepth 100000 in
theorem zm186 : MlOk (130068, 69, false) := (⟨by decide, List.mem_of_getElem? (i := 439) rfl⟩ : _ ∧ _ ∈ lw_tbl)
set_option maxRecDepth 100000 in
theorem zm187 : MlOk (130072, 155, false) := (⟨by decide, List.mem_of_getElem? (i := 1072) rfl⟩ : _ ∧ _ ∈ lw_tbl)
set_option maxRecDepth 100000 in
theorem zm188 : MlOk (130073, 70, false) := (⟨by decide, List.mem_of_getElem? (i := 447) rfl⟩ : _ ∧ _ ∈ lw_tbl)
set_option maxRecDepth 100000 in
theorem zm189 : MlOk (130076, 157, false) := (⟨by decide, List.mem_of_getElem? (i := 1076) rfl⟩ : _ ∧ _ ∈ lw_tbl)
set_option maxRecDepth 100000 in
theorem zm190 : MlOk (130077, 71, false) := (⟨by decide, List.mem_of_getElem? (i := 459) rfl⟩ : _ ∧ _ ∈ lw_tbl)
set_option maxRecDepth 100000 in
theorem zm191 : MlOk (130080, 158, false) := (⟨by decide, List.mem_of_getElem? (i := 1084) rfl⟩ : _ ∧ _ ∈ lw_tbl)
set_option maxRecDepth 100000 in
theorem zm192 : MlOk (130081, 72, false) := (⟨by decide, List.mem_of_getElem? (i := 463) rfl⟩ : _ ∧ _ ∈ lw_tbl)
set_option maxRecDepth 100000 in
theorem zm193 : MlOk (130084, 160, false) := (⟨by decide, List.mem_of_getElem? (i := 1088) rfl⟩ : _ ∧ _ ∈ lw_tbl)
set_option maxRecDepth 100000 in
theorem zm194 : MlOk (130085, 73, false) := (⟨by decide, List.mem_of_getElem? (i := 482) rfl⟩ : _ ∧ _ ∈ lw_tbl)
set_option maxRecDepth 100000 in
theorem zm195 : MlOk (130088, 161, false) := (⟨by decide, List.mem_of_getElem? (i := 1103) rfl⟩ : _ ∧ _ ∈ lw_tbl)
set_option maxRecDepth 100000 in
theorem zm196 : MlOk (130089, 74, false) := (⟨by decide, List.mem_of_getElem? (i := 486) rfl⟩ : _ ∧ _ ∈ lw_tbl)
set_option maxRecDepth 100000 in
theorem zm197 : MlOk (130092, 162, false) := (⟨by decide, List.mem_of_getElem? (i := 1107) rfl⟩ : _ ∧ _ ∈ lw_tbl)
set_option maxRecDepth 100000 in
theorem zm198 : MlOk (130093, 75, false) := (⟨by decide, List.mem_of_getElem? (i := 492) rfl⟩ : _ ∧ _ ∈ lw_tbl)
set_option maxRecDepth 100000 in
theorem zm199 : MlOk (130096, 166, false) := (⟨by decide, List.mem_of_getElem? (i := 1112) rfl⟩ : _ ∧ _ ∈ lw_tbl)
set_option maxRecDepth 100000 in
theorem zm200 : MlOk (130097, 76, false) := (⟨by decide, List.mem_of_getElem? (i := 504) rfl⟩ : _ ∧ _ ∈ lw_tbl)
set_option maxRecDepth 100000 in
theorem zm201 : MlOk (130100, 167, false) := (⟨by decide, List.mem_of_getElem? (i := 1124) rfl⟩ : _ ∧ _ ∈ lw_tbl)
set_option maxRecDepth 100000 in
theorem zm202 : MlOk (130101, 77, false) := (⟨by decide, List.mem_of_getElem? (i := 508) rfl⟩ : _ ∧ _ ∈ lw_tbl)
set_option maxRecDepth 100000 in
theorem zm203 : MlOk (130104, 168, false) := (⟨by decide, List.mem_of_getElem? (i := 1128) rfl⟩ : _ ∧ _ ∈ lw_tbl)
set_option maxRecDepth 100000 in
theorem zm204 : MlOk (130105, 79, false) := (⟨by decide, List.mem_of_getElem? (i := 520) rfl⟩ : _ ∧ _ ∈ lw_tbl)
set_option maxRecDepth 100000 in
theorem zm205 : MlOk (130108, 169, false) := (⟨by decide, List.mem_of_getElem? (i := 1132) rfl⟩ : _ ∧ _ ∈ lw_tbl)
set_option maxRecDepth 100000 in
theorem zm206 : MlOk (130109, 80, false) := (⟨by decide, List.mem_of_getElem? (i := 525) rfl⟩ : _ ∧ _ ∈ lw_tbl)
set_option maxRecDepth 100000 in
theorem zm207 : MlOk (130112, 170, false) := (⟨by decide, List.mem_of_getElem? (i := 1143) rfl⟩ : _ ∧ _ ∈ lw_tbl)
set_option maxRecDepth 100000 in
theorem zm208 : MlOk (130113, 81, false) := (⟨by decide, List.mem_of_getElem? (i := 529) rfl⟩ : _ ∧ _ ∈ lw_tbl)
set_option maxRecDepth 100000 in
theorem zm209 : MlOk (130116, 171, false) := (⟨by decide, List.mem_of_getElem? (i := 1147) rfl⟩ : _ ∧ _ ∈ lw_tbl)
set_option maxRecDepth 100000 in
theorem zm210 : MlOk (130117, 82, false) := (⟨by decide, List.mem_of_getElem? (i := 537) rfl⟩ : _ ∧ _ ∈ lw_tbl)
set_option maxRecDepth 100000 in
theorem zm211 : MlOk (130120, 172, false) := (⟨by decide, List.mem_of_getElem? (i := 1151) rfl⟩ : _ ∧ _ ∈ lw_tbl)
set_option maxRecDepth 100000 in
theorem zm212 : MlOk (130121, 83, false) := (⟨by decide, List.mem_of_getElem? (i := 541) rfl⟩ : _ ∧ _ ∈ lw_tbl)
set_option maxRecDepth 100000 in
theorem zm213 : MlOk (130124, 174, false) := (⟨by decide, List.mem_of_getElem? (i := 1155) rfl⟩ : _ ∧ _ ∈ lw_tbl)
set_option maxRecDepth 100000 in
theorem zm214 : MlOk (130125, 84, false) := (⟨by decide, List.mem_of_getElem? (i := 549) rfl⟩ : _ ∧ _ ∈ lw_tbl)
set_option maxRecDepth 100000 in
theorem zm215 : MlOk (130128, 175, false) := (⟨by decide, List.mem_of_getElem? (i := 1163) rfl⟩ : _ ∧ _ ∈ lw_tbl)
set_option maxRecDepth 100000 in
theorem zm216 : MlOk (130129, 85, false) := (⟨by decide, List.mem_of_getElem? (i := 564) rfl⟩ : _ ∧ _ ∈ lw_tbl)
set_option maxRecDepth 100000 in
theorem zm217 : MlOk (130132, 176, false) := (⟨by decide, List.mem_of_getElem? (i := 1171) rfl⟩ : _ ∧ _ ∈ lw_tbl)
set_option maxRecDepth 100000 in
theorem zm218 : MlOk (130133, 86, false) := (⟨by decide, List.mem_of_getElem? (i := 569) rfl⟩ : _ ∧ _ ∈ lw_tbl)
set_option maxRecDepth 100000 in
theorem zm219 : MlOk (130136, 179, false) := (⟨by decide, List.mem_of_getElem? (i := 1175) rfl⟩ : _ ∧ _ ∈ lw_tbl)
set_option maxRecDepth 100000 in
theorem zm220 : MlOk (130137, 87, false) := (⟨by decide, List.mem_of_getElem? (i := 586) rfl⟩ : _ ∧ _ ∈ lw_tbl)
set_option maxRecDepth 100000 in
theorem zm221 : MlOk (130140, 180, false) := (⟨by decide, List.mem_of_getElem? (i := 1187) rfl⟩ : _ ∧ _ ∈ lw_tbl)
set_option maxRecDepth 100000 in
theorem zm222 : MlOk (130141, 88, false) := (⟨by decide, List.mem_of_getElem? (i := 591) rfl⟩ : _ ∧ _ ∈ lw_tbl)
set_option maxRecDepth 100000 in
theorem zm223 : MlOk (130144, 181, false) := (⟨by decide, List.mem_of_getElem? (i := 1191) rfl⟩ : _ ∧ _ ∈ lw_tbl)
set_option maxRecDepth 100000 in
theorem zm224 : MlOk (130145, 89, false) := (⟨by decide, List.mem_of_getElem? (i := 595) rfl⟩ : _ ∧ _ ∈ lw_tbl)
set_option maxRecDepth 100000 in
theorem zm225 : MlOk (130148, 182, false) := (⟨by decide, List.mem_of_getElem? (i := 1195) rfl⟩ : _ ∧ _ ∈ lw_tbl)
set_option maxRecDepth 100000 in
theorem zm226 : MlOk (130149, 90, false) := (⟨by decide, List.mem_of_getElem? (i := 604) rfl⟩ : _ ∧ _ ∈ lw_tbl)
set_option maxRecDepth 100000 in
theorem zm227 : MlOk (130153, 184, false) := (⟨by decide, List.mem_of_getElem? (i := 1200) rfl⟩ : _ ∧ _ ∈ lw_tbl)
set_option maxRecDepth 100000 in
theorem zm228 : MlOk (130154, 92, false) := (⟨by decide, List.mem_of_getElem? (i := 612) rfl⟩ : _ ∧ _ ∈ lw_tbl)
set_option maxRecDepth 100000 in
theorem zm229 : MlOk (130157, 185, false) := (⟨by decide, List.mem_of_getElem? (i := 1208) rfl⟩ : _ ∧ _ ∈ lw_tbl)
set_option maxRecDepth 100000 in
theorem zm230 : MlOk (130158, 93, false) := (⟨by decide, List.mem_of_getElem? (i := 620) rfl⟩ : _ ∧ _ ∈ lw_tbl)
set_option maxRecDepth 100000 in
theorem zm231 : MlOk (130161, 186, false) := (⟨by decide, List.mem_of_getElem? (i := 1212) rfl⟩ : _ ∧ _ ∈ lw_tbl)
set_option maxRecDepth 100000 in
theorem zm232 : MlOk (130162, 94, false) := (⟨by decide, List.mem_of_getElem? (i := 624) rfl⟩ : _ ∧ _ ∈ lw_tbl)
set_option maxRecDepth 100000 in
theorem zm233 : MlOk (130165, 199, false) := (⟨by decide, List.mem_of_getElem? (i := 1216) rfl⟩ : _ ∧ _ ∈ lw_tbl)
set_option maxRecDepth 100000 in
theorem zm234 : MlOk (130166, 95, false) := (⟨by decide, List.mem_of_getElem? (i := 773) rfl⟩ : _ ∧ _ ∈ lw_tbl)
set_option maxRecDepth 100000 in
theorem zm235 : MlOk (130169, 202, false) := (⟨by decide, List.mem_of_getElem? (i := 1280) rfl⟩ : _ ∧ _ ∈ lw_tbl)
set_option maxRecDepth 100000 in
theorem zm236 : MlOk (130172, 96, false) := (⟨by decide, List.mem_of_getElem? (i := 790) rfl⟩ : _ ∧ _ ∈ lw_tbl)
set_option maxRecDepth 100000 in
theorem zm237 : MlOk (130176, 203, false) := (⟨by decide, List.mem_of_getElem? (i := 1287) rfl⟩ : _ ∧ _ ∈ lw_tbl)
set_option maxRecDepth 100000 in
theorem zm238 : MlOk (130177, 97, false) := (⟨by decide, List.mem_of_getElem? (i := 803) rfl⟩ : _ ∧ _ ∈ lw_tbl)
set_option maxRecDepth 100000 in
theorem zm239 : MlOk (130181, 204, false) := (⟨by decide, List.mem_of_getElem? (i := 1295) rfl⟩ : _ ∧ _ ∈ lw_tbl)
set_option maxRecDepth 100000 in
theorem zm240 : MlOk (130182, 98, false) := (⟨by decide, List.mem_of_getElem? (i := 812) rfl⟩ : _ ∧ _ ∈ lw_tbl)
set_option maxRecDepth 100000 in
theorem zm241 : MlOk (130185, 205, false) := (⟨by decide, List.mem_of_getElem? (i := 1299) rfl⟩ : _ ∧ _ ∈ lw_tbl)
set_option maxRecDepth 100000 in
theorem zm242 : MlOk (130186, 99, false) := (⟨by decide, List.mem_of_getElem? (i := 817) rfl⟩ : _ ∧ _ ∈ lw_tbl)
set_option maxRecDepth 100000 in
theorem zm243 : MlOk (130189, 207, false) := (⟨by decide, List.mem_of_getElem? (i := 1304) rfl⟩ : _ ∧ _ ∈ lw_tbl)
set_option maxRecDepth 100000 in
theorem zm244 : MlOk (130190, 100, false) := (⟨by decide, List.mem_of_getElem? (i := 825) rfl⟩ : _ ∧ _ ∈ lw_tbl)
set_option maxRecDepth 100000 in
theorem zm245 : MlOk (130193, 208, false) := (⟨by decide, List.mem_of_getElem? (i := 1312) rfl⟩ : _ ∧ _ ∈ lw_tbl)
set_option maxRecDepth 100000 in
theorem zm246 : MlOk (130194, 102, false) := (⟨by decide, List.mem_of_getElem? (i := 829) rfl⟩ : _ ∧ _ ∈ lw_tbl)
set_option maxRecDepth 100000 in
theorem zm247 : MlOk (130197, 209, false) := (⟨by decide, List.mem_of_getElem? (i := 1316) rfl⟩ : _ ∧ _ ∈ lw_tbl)
set_option maxRecDepth 100000 in
theorem zm248 : MlOk (130198, 103, false) := (⟨by decide, List.mem_of_getElem? (i := 833) rfl⟩ : _ ∧ _ ∈ lw_tbl)
set_option maxRecDepth 100000 in
theorem zm249 : MlOk (130201, 210, false) := (⟨by decide, List.mem_of_getElem? (i := 1320) rfl⟩ : _ ∧ _ ∈ lw_tbl)
set_option maxRecDepth 100000 in
theorem zm250 : MlOk (130202, 104, false) := (⟨by decide, List.mem_of_getElem? (i := 837) rfl⟩ : _ ∧ _ ∈ lw_tbl)
set_option maxRecDepth 100000 in
theorem zm251 : MlOk (130205, 211, false) := (⟨by decide, List.mem_of_getElem? (i := 1324) rfl⟩ : _ ∧ _ ∈ lw_tbl)
set_option maxRecDepth 100000 in
theorem zm252 : MlOk (130206, 105, false) := (⟨by decide, List.mem_of_getElem? (i := 841) rfl⟩ : _ ∧ _ ∈ lw_tbl)
set_option maxRecDepth 100000 in
theorem zm253 : MlOk (130209, 212, false) := (⟨by decide, List.mem_of_getElem? (i := 1328) rfl⟩ : _ ∧ _ ∈ lw_tbl)
set_option maxRecDepth 100000 in
theorem zm254 : MlOk (130210, 106, false) := (⟨by decide, List.mem_of_getElem? (i := 849) rfl⟩ : _ ∧ _ ∈ lw_tbl)
set_option maxRecDepth 100000 in
theorem zm255 : MlOk (130213, 213, false) := (⟨by decide, List.mem_of_getElem? (i := 1329) rfl⟩ : _ ∧ _ ∈ lw_tbl)
set_option maxRecDepth 100000 in
theorem zm_all : ∀ q ∈ MLT, MlOk q := List.forall_mem_cons.mpr ⟨zm0, List.forall_mem_cons.mpr ⟨zm1, List.forall_mem_cons.mpr ⟨zm2, List.forall_mem_cons.mpr ⟨zm3, List.forall_mem_cons.mpr ⟨zm4, List.forall_mem_cons.mpr ⟨zm5, List.forall_mem_cons.mpr ⟨zm6, List.forall_mem_cons.mpr ⟨zm7, List.forall_mem_cons.mpr ⟨zm8, List.forall_mem_cons.mpr ⟨zm9, List.forall_mem_cons.mpr ⟨zm10, List.forall_mem_cons.mpr ⟨zm11, List.forall_mem_cons.mpr ⟨zm12, List.forall_mem_cons.mpr ⟨zm13, List.forall_mem_cons.mpr ⟨zm14, List.forall_mem_cons.mpr ⟨zm15, List.forall_mem_cons.mpr ⟨zm16, List.forall_mem_cons.mpr ⟨zm17, List.forall_mem_cons.mpr ⟨zm18, List.forall_mem_cons.mpr ⟨zm19, List.forall_mem_cons.mpr ⟨zm20, List.forall_mem_cons.mpr ⟨zm21, List.forall_mem_cons.mpr ⟨zm22, List.forall_mem_cons.mpr ⟨zm23, List.forall_mem_cons.mpr ⟨zm24, List.forall_mem_cons.mpr ⟨zm25, List.forall_mem_cons.mpr ⟨zm26, List.forall_mem_cons.mpr ⟨zm27, List.forall_mem_cons.mpr ⟨zm28, List.forall_mem_cons.mpr ⟨zm29, List.forall_mem_cons.mpr ⟨zm30, List.forall_mem_cons.mpr ⟨zm31, List.forall_mem_cons.mpr ⟨zm32, List.forall_mem_cons.mpr ⟨zm33, List.forall_mem_cons.mpr ⟨zm34, List.forall_mem_cons.mpr ⟨zm35, List.forall_mem_cons.mpr ⟨zm36, List.forall_mem_cons.mpr ⟨zm37, List.forall_mem_cons.mpr ⟨zm38, List.forall_mem_cons.mpr ⟨zm39, List.forall_mem_cons.mpr ⟨zm40, List.forall_mem_cons.mpr ⟨zm41, List.forall_mem_cons.mpr ⟨zm42, List.forall_mem_cons.mpr ⟨zm43, List.forall_mem_cons.mpr ⟨zm44, List.forall_mem_cons.mpr ⟨zm45, List.forall_mem_cons.mpr ⟨zm46, List.forall_mem_cons.mpr ⟨zm47, List.forall_mem_cons.mpr ⟨zm48, List.forall_mem_cons.mpr ⟨zm49, List.forall_mem_cons.mpr ⟨zm50, List.forall_mem_cons.mpr ⟨zm51, List.forall_mem_cons.mpr ⟨zm52, List.forall_mem_cons.mpr ⟨zm53, List.forall_mem_cons.mpr ⟨zm54, List.forall_mem_cons.mpr ⟨zm55, List.forall_mem_cons.mpr ⟨zm56, List.forall_mem_cons.mpr ⟨zm57, List.forall_mem_cons.mpr ⟨zm58, List.forall_mem_cons.mpr ⟨zm59, List.forall_mem_cons.mpr ⟨zm60, List.forall_mem_cons.mpr ⟨zm61, List.forall_mem_cons.mpr ⟨zm62, List.forall_mem_cons.mpr ⟨zm63, List.forall_mem_cons.mpr ⟨zm64, List.forall_mem_cons.mpr ⟨zm65, List.forall_mem_cons.mpr ⟨zm66, List.forall_mem_cons.mpr ⟨zm67, List.forall_mem_cons.mpr ⟨zm68, List.forall_mem_cons.mpr ⟨zm69, List.forall_mem_cons.mpr ⟨zm70, List.forall_mem_cons.mpr ⟨zm71, List.forall_mem_cons.mpr ⟨zm72, List.forall_mem_cons.mpr ⟨zm73, List.forall_mem_cons.mpr ⟨zm74, List.forall_mem_cons.mpr ⟨zm75, List.forall_mem_cons.mpr ⟨zm76, List.forall_mem_cons.mpr ⟨zm77, List.forall_mem_cons.mpr ⟨zm78, List.forall_mem_cons.mpr ⟨zm79, List.forall_mem_cons.mpr ⟨zm80, List.forall_mem_cons.mpr ⟨zm81, List.forall_mem_cons.mpr ⟨zm82, List.forall_mem_cons.mpr ⟨zm83, List.forall_mem_cons.mpr ⟨zm84, List.forall_mem_cons.mpr ⟨zm85, List.forall_mem_cons.mpr ⟨zm86, List.forall_mem_cons.mpr ⟨zm87, List.forall_mem_cons.mpr ⟨zm88, List.forall_mem_cons.mpr ⟨zm89, List.forall_mem_cons.mpr ⟨zm90, List.forall_mem_cons.mpr ⟨zm91, List.forall_mem_cons.mpr ⟨zm92, List.forall_mem_cons.mpr ⟨zm93, List.forall_mem_cons.mpr ⟨zm94, List.forall_mem_cons.mpr ⟨zm95, List.forall_mem_cons.mpr ⟨zm96, List.forall_mem_cons.mpr ⟨zm97, List.forall_mem_cons.mpr ⟨zm98, List.forall_mem_cons.mpr ⟨zm99, List.forall_mem_cons.mpr ⟨zm100, List.forall_mem_cons.mpr ⟨zm101, List.forall_mem_cons.mpr ⟨zm102, List.forall_mem_cons.mpr ⟨zm103, List.forall_mem_cons.mpr ⟨zm104, List.forall_mem_cons.mpr ⟨zm105, List.forall_mem_cons.mpr ⟨zm106, List.forall_mem_cons.mpr ⟨zm107, List.forall_mem_cons.mpr ⟨zm108, List.forall_mem_cons.mpr ⟨zm109, List.forall_mem_cons.mpr ⟨zm110, List.forall_mem_cons.mpr ⟨zm111, List.forall_mem_cons.mpr ⟨zm112, List.forall_mem_cons.mpr ⟨zm113, List.forall_mem_cons.mpr ⟨zm114, List.forall_mem_cons.mpr ⟨zm115, List.forall_mem_cons.mpr ⟨zm116, List.forall_mem_cons.mpr ⟨zm117, List.forall_mem_cons.mpr ⟨zm118, List.forall_mem_cons.mpr ⟨zm119, List.forall_mem_cons.mpr ⟨zm120, List.forall_mem_cons.mpr ⟨zm121, List.forall_mem_cons.mpr ⟨zm122, List.forall_mem_cons.mpr ⟨zm123, List.forall_mem_cons.mpr ⟨zm124, List.forall_mem_cons.mpr ⟨zm125, List.forall_mem_cons.mpr ⟨zm126, List.forall_mem_cons.mpr ⟨zm127, List.forall_mem_cons.mpr ⟨zm128, List.forall_mem_cons.mpr ⟨zm129, List.forall_mem_cons.mpr ⟨zm130, List.forall_mem_cons.mpr ⟨zm131, List.forall_mem_cons.mpr ⟨zm132, List.forall_mem_cons.mpr ⟨zm133, List.forall_mem_cons.mpr ⟨zm134, List.forall_mem_cons.mpr ⟨zm135, List.forall_mem_cons.mpr ⟨zm136, List.forall_mem_cons.mpr ⟨zm137, List.forall_mem_cons.mpr ⟨zm138, List.forall_mem_cons.mpr ⟨zm139, List.forall_mem_cons.mpr ⟨zm140, List.forall_mem_cons.mpr ⟨zm141, List.forall_mem_cons.mpr ⟨zm142, List.forall_mem_cons.mpr ⟨zm143, List.forall_mem_cons.mpr ⟨zm144, List.forall_mem_cons.mpr ⟨zm145, List.forall_mem_cons.mpr ⟨zm146, List.forall_mem_cons.mpr ⟨zm147, List.forall_mem_cons.mpr ⟨zm148, List.forall_mem_cons.mpr ⟨zm149, List.forall_mem_cons.mpr ⟨zm150, List.forall_mem_cons.mpr ⟨zm151, List.forall_mem_cons.mpr ⟨zm152, List.forall_mem_cons.mpr ⟨zm153, List.forall_mem_cons.mpr ⟨zm154, List.forall_mem_cons.mpr ⟨zm155, List.forall_mem_cons.mpr ⟨zm156, List.forall_mem_cons.mpr ⟨zm157, List.forall_mem_cons.mpr ⟨zm158, List.forall_mem_cons.mpr ⟨zm159, List.forall_mem_cons.mpr ⟨zm160, List.forall_mem_cons.mpr ⟨zm161, List.forall_mem_cons.mpr ⟨zm162, List.forall_mem_cons.mpr ⟨zm163, List.forall_mem_cons.mpr ⟨zm164, List.forall_mem_cons.mpr ⟨zm165, List.forall_mem_cons.mpr ⟨zm166, List.forall_mem_cons.mpr ⟨zm167, List.forall_mem_cons.mpr ⟨zm168, List.forall_mem_cons.mpr ⟨zm169, List.forall_mem_cons.mpr ⟨zm170, List.forall_mem_cons.mpr ⟨zm171, List.forall_mem_cons.mpr ⟨zm172, List.forall_mem_cons.mpr ⟨zm173, List.forall_mem_cons.mpr ⟨zm174, List.forall_mem_cons.mpr ⟨zm175, List.forall_mem_cons.mpr ⟨zm176, List.forall_mem_cons.mpr ⟨zm177, List.forall_mem_cons.mpr ⟨zm178, List.forall_mem_cons.mpr ⟨zm179, List.forall_mem_cons.mpr ⟨zm180, List.forall_mem_cons.mpr ⟨zm181, List.forall_mem_cons.mpr ⟨zm182, List.forall_mem_cons.mpr ⟨zm183, List.forall_mem_cons.mpr ⟨zm184, List.forall_mem_cons.mpr ⟨zm185, List.forall_mem_cons.mpr ⟨zm186, List.forall_mem_cons.mpr ⟨zm187, List.forall_mem_cons.mpr ⟨zm188, List.forall_mem_cons.mpr ⟨zm189, List.forall_mem_cons.mpr ⟨zm190, List.forall_mem_cons.mpr ⟨zm191, List.forall_mem_cons.mpr ⟨zm192, List.forall_mem_cons.mpr ⟨zm193, List.forall_mem_cons.mpr ⟨zm194, List.forall_mem_cons.mpr ⟨zm195, List.forall_mem_cons.mpr ⟨zm196, List.forall_mem_cons.mpr ⟨zm197, List.forall_mem_cons.mpr ⟨zm198, List.forall_mem_cons.mpr ⟨zm199, List.forall_mem_cons.mpr ⟨zm200, List.forall_mem_cons.mpr ⟨zm201, List.forall_mem_cons.mpr ⟨zm202, List.forall_mem_cons.mpr ⟨zm203, List.forall_mem_cons.mpr ⟨zm204, List.forall_mem_cons.mpr ⟨zm205, List.forall_mem_cons.mpr ⟨zm206, List.forall_mem_cons.mpr ⟨zm207, List.forall_mem_cons.mpr ⟨zm208, List.forall_mem_cons.mpr ⟨zm209, List.forall_mem_cons.mpr ⟨zm210, List.forall_mem_cons.mpr ⟨zm211, List.forall_mem_cons.mpr ⟨zm212, List.forall_mem_cons.mpr ⟨zm213, List.forall_mem_cons.mpr ⟨zm214, List.forall_mem_cons.mpr ⟨zm215, List.forall_mem_cons.mpr ⟨zm216, List.forall_mem_cons.mpr ⟨zm217, List.forall_mem_cons.mpr ⟨zm218, List.forall_mem_cons.mpr ⟨zm219, List.forall_mem_cons.mpr ⟨zm220, List.forall_mem_cons.mpr ⟨zm221, List.forall_mem_cons.mpr ⟨zm222, List.forall_mem_cons.mpr ⟨zm223, List.forall_mem_cons.mpr ⟨zm224, List.forall_mem_cons.mpr ⟨zm225, List.forall_mem_cons.mpr ⟨zm226, List.forall_mem_cons.mpr ⟨zm227, List.forall_mem_cons.mpr ⟨zm228, List.forall_mem_cons.mpr ⟨zm229, List.forall_mem_cons.mpr ⟨zm230, List.forall_mem_cons.mpr ⟨zm231, List.forall_mem_cons.mpr ⟨zm232, List.forall_mem_cons.mpr ⟨zm233, List.forall_mem_cons.mpr ⟨zm234, List.forall_mem_cons.mpr ⟨zm235, List.forall_mem_cons.mpr ⟨zm236, List.forall_mem_cons.mpr ⟨zm237, List.forall_mem_cons.mpr ⟨zm238, List.forall_mem_cons.mpr ⟨zm239, List.forall_mem_cons.mpr ⟨zm240, List.forall_mem_cons.mpr ⟨zm241, List.forall_mem_cons.mpr ⟨zm242, List.forall_mem_cons.mpr ⟨zm243, List.forall_mem_cons.mpr ⟨zm244, List.forall_mem_cons.mpr ⟨zm245, List.forall_mem_cons.mpr ⟨zm246, List.forall_mem_cons.mpr ⟨zm247, List.forall_mem_cons.mpr ⟨zm248, List.forall_mem_cons.mpr ⟨zm249, List.forall_mem_cons.mpr ⟨zm250, List.forall_mem_cons.mpr ⟨zm251, List.forall_mem_cons.mpr ⟨zm252, List.forall_mem_cons.mpr ⟨zm253, List.forall_mem_cons.mpr ⟨zm254, List.forall_mem_cons.mpr ⟨zm255, fun _ h => absurd h List.not_mem_nil⟩⟩⟩⟩⟩⟩⟩⟩⟩⟩⟩⟩⟩⟩⟩⟩⟩⟩⟩⟩⟩⟩⟩⟩⟩⟩⟩⟩⟩⟩⟩⟩⟩⟩⟩⟩⟩⟩⟩⟩⟩⟩⟩⟩⟩⟩⟩⟩⟩⟩⟩⟩⟩⟩⟩⟩⟩⟩⟩⟩⟩⟩⟩⟩⟩⟩⟩⟩⟩⟩⟩⟩⟩⟩⟩⟩⟩⟩⟩⟩⟩⟩⟩⟩⟩⟩⟩⟩⟩⟩⟩⟩⟩⟩⟩⟩⟩⟩⟩⟩⟩⟩⟩⟩⟩⟩⟩⟩⟩⟩⟩⟩⟩⟩⟩⟩⟩⟩⟩⟩⟩⟩⟩⟩⟩⟩⟩⟩⟩⟩⟩⟩⟩⟩⟩⟩⟩⟩⟩⟩⟩⟩⟩⟩⟩⟩⟩⟩⟩⟩⟩⟩⟩⟩⟩⟩⟩⟩⟩⟩⟩⟩⟩⟩⟩⟩⟩⟩⟩⟩⟩⟩⟩⟩⟩⟩⟩⟩⟩⟩⟩⟩⟩⟩⟩⟩⟩⟩⟩⟩⟩⟩⟩⟩⟩⟩⟩⟩⟩⟩⟩⟩⟩⟩⟩⟩⟩⟩⟩⟩⟩⟩⟩⟩⟩⟩⟩⟩⟩⟩⟩⟩⟩⟩⟩⟩⟩⟩⟩⟩⟩⟩⟩⟩⟩⟩⟩⟩⟩⟩⟩⟩⟩⟩⟩⟩⟩⟩⟩⟩⟩⟩⟩⟩⟩⟩
set_option maxRecDepth 100000 in
theorem zc_all : ∀ q ∈ CLT, Cond.constant (cN (q.1 / 10000)) (q.1 % 10000) q.2 ∈ lw_tbl := List.forall_mem_cons.mpr ⟨List.mem_of_getElem? (i := 284) rfl, List.forall_mem_cons.mpr ⟨List.mem_of_getElem? (i := 346) rfl, List.forall_mem_cons.mpr ⟨List.mem_of_getElem? (i := 394) rfl, List.forall_mem_cons.mpr ⟨List.mem_of_getElem? (i := 411) rfl, List.forall_mem_cons.mpr ⟨List.mem_of_getElem? (i := 491) rfl, List.forall_mem_cons.mpr ⟨List.mem_of_getElem? (i := 608) rfl, List.forall_mem_cons.mpr ⟨List.mem_of_getElem? (i := 798) rfl, List.forall_mem_cons.mpr ⟨List.mem_of_getElem? (i := 948) rfl, List.forall_mem_cons.mpr ⟨List.mem_of_getElem? (i := 987) rfl, List.forall_mem_cons.mpr ⟨List.mem_of_getElem? (i := 1034) rfl, List.forall_mem_cons.mpr ⟨List.mem_of_getElem? (i := 1051) rfl, List.forall_mem_cons.mpr ⟨List.mem_of_getElem? (i := 1111) rfl, List.forall_mem_cons.mpr ⟨List.mem_of_getElem? (i := 1204) rfl, List.forall_mem_cons.mpr ⟨List.mem_of_getElem? (i := 1291) rfl, fun _ h => absurd h List.not_mem_nil⟩⟩⟩⟩⟩⟩⟩⟩⟩⟩⟩⟩⟩⟩
set_option maxRecDepth 100000 in
theorem zl_all : ∀ q ∈ LLT, Cond.constantLong (cN (q.1 / 10000)) (q.1 % 10000) q.2 ∈ lw_tbl := List.forall_mem_cons.mpr ⟨List.mem_of_getElem? (i := 603) rfl, List.forall_mem_cons.mpr ⟨List.mem_of_getElem? (i := 816) rfl, List.forall_mem_cons.mpr ⟨List.mem_of_getElem? (i := 1199) rfl, List.forall_mem_cons.mpr ⟨List.mem_of_getElem? (i := 1303) rfl, List.forall_mem_cons.mpr ⟨List.mem_of_getElem? (i := 1333) rfl, fun _ h => absurd h List.not_mem_nil⟩⟩⟩⟩⟩
set_option maxRecDepth 100000 in
theorem zs_all : ∀ q ∈ SLT, Cond.stringRef (cN (q.1 / 10000)) (q.1 % 10000) (stL.getD q.2 "") ∈ lw_tbl := List.forall_mem_cons.mpr ⟨List.mem_of_getElem? (i := 657) rfl, List.forall_mem_cons.mpr ⟨List.mem_of_getElem? (i := 725) rfl, List.forall_mem_cons.mpr ⟨List.mem_of_getElem? (i := 731) rfl, List.forall_mem_cons.mpr ⟨List.mem_of_getElem? (i := 736) rfl, List.forall_mem_cons.mpr ⟨List.mem_of_getElem? (i := 741) rfl, List.forall_mem_cons.mpr ⟨List.mem_of_getElem? (i := 723) rfl, List.forall_mem_cons.mpr ⟨List.mem_of_getElem? (i := 764) rfl, List.forall_mem_cons.mpr ⟨List.mem_of_getElem? (i := 765) rfl, List.forall_mem_cons.mpr ⟨List.mem_of_getElem? (i := 766) rfl, List.forall_mem_cons.mpr ⟨List.mem_of_getElem? (i := 768) rfl, List.forall_mem_cons.mpr ⟨List.mem_of_getElem? (i := 757) rfl, List.forall_mem_cons.mpr ⟨List.mem_of_getElem? (i := 758) rfl, List.forall_mem_cons.mpr ⟨List.mem_of_getElem? (i := 759) rfl, List.forall_mem_cons.mpr ⟨List.mem_of_getElem? (i := 760) rfl, List.forall_mem_cons.mpr ⟨List.mem_of_getElem? (i := 761) rfl, List.forall_mem_cons.mpr ⟨List.mem_of_getElem? (i := 762) rfl, List.forall_mem_cons.mpr ⟨List.mem_of_getElem? (i := 861) rfl, List.forall_mem_cons.mpr ⟨List.mem_of_getElem? (i := 862) rfl, List.forall_mem_cons.mpr ⟨List.mem_of_getElem? (i := 863) rfl, List.forall_mem_cons.mpr ⟨List.mem_of_getElem? (i := 864) rfl, List.forall_mem_cons.mpr ⟨List.mem_of_getElem? (i := 865) rfl, List.forall_mem_cons.mpr ⟨List.mem_of_getElem? (i := 866) rfl, List.forall_mem_cons.mpr ⟨List.mem_of_getElem? (i := 1266) rfl, List.forall_mem_cons.mpr ⟨List.mem_of_getElem? (i := 1272) rfl, List.forall_mem_cons.mpr ⟨List.mem_of_getElem? (i := 1273) rfl, List.forall_mem_cons.mpr ⟨List.mem_of_getElem? (i := 1274) rfl, List.forall_mem_cons.mpr ⟨List.mem_of_getElem? (i := 1275) rfl, List.forall_mem_cons.mpr ⟨List.mem_of_getElem? (i := 1271) rfl, List.forall_mem_cons.mpr ⟨List.mem_of_getElem? (i := 1250) rfl, List.forall_mem_cons.mpr ⟨List.mem_of_getElem? (i := 1255) rfl, List.forall_mem_cons.mpr ⟨List.mem_of_getElem? (i := 1260) rfl, List.forall_mem_cons.mpr ⟨List.mem_of_getElem? (i := 1261) rfl, fun _ h => absurd h List.not_mem_nil⟩⟩⟩⟩⟩⟩⟩⟩⟩⟩⟩⟩⟩⟩⟩⟩⟩⟩⟩⟩⟩⟩⟩⟩⟩⟩⟩⟩⟩⟩⟩⟩
/-- a row is what the bytes say -/
def swOk (pc : Nat) (d lo hi : Int) (offs : Array Int) (r : Row) : Bool := decide ((pc : Int) + d = (r.2.2.1 : Int)) && (decide (hi = lo + (r.2.2.2.length : Int) - 1) && (decide (-1000 ≤ lo ∧ hi ≤ 1000) && (decide (offs.size = r.2.2.2.length) && (List.range r.2.2.2.length).all (fun j => decide ((r.2.2.2.getD j (0, 0)).1 = Int32.ofInt (lo + (j : Int)) ∧ (pc : Int) + offs.getD j 0 = ((r.2.2.2.getD j (0, 0)).2 : Int))))))
def rwOk (b : ByteArray) (q : Nat × Row) : Bool := decide (decode b q.1 = .ok (q.2.1, q.2.2.1)) && (match q.2.1 with
  | .if_icmp _ off => decide ((q.1 : Int) + off = (q.2.2.2.1 : Int))
  | .ifCond _ off => decide ((q.1 : Int) + off = (q.2.2.2.1 : Int))
  | .goto off => decide ((q.1 : Int) + off = (q.2.2.2.1 : Int))
  | .tableswitch d lo hi offs => swOk q.1 d lo hi offs q.2
  | _ => true)
def MtOk (q : ME) : Prop := q.2.2.all (rwOk q.1.2.1) = true ∧ Cond.code q.1.1 q.1.2.1 q.1.2.2.1 q.1.2.2.2 ∈ lw_tbl ∧ Cond.initialized q.1.1.cls ∈ lw_tbl ∧ (if q.2.1.2.2.2.1 = true then Cond.static q.1.1 ∈ lw_tbl else Cond.instanceMethod q.1.1 ∈ lw_tbl ∧ Cond.selects q.1.1.cls q.1.1 q.1.1 ∈ lw_tbl) ∧ q.1.1.cls = cN q.2.1.1 ∧ plainName q.1.1.cls = true ∧ (q.1.1.cls ≠ "java/lang/invoke/MethodHandle" ∧ q.1.1.cls ≠ "java/lang/invoke/VarHandle") ∧ (parseMethodDescriptor q.1.1.desc).map (fun d => d.parameters.length) = some q.2.1.2.2.1 ∧ q.1.2.2.1 ≤ 18
set_option maxRecDepth 100000 in
theorem zr0 : zL0.all (rwOk prog_2_method_2_code) = true := by decide +kernel
set_option maxRecDepth 100000 in
theorem zk0 : MtOk zM0 := ⟨zr0, List.mem_of_getElem? (i := 474) rfl, List.mem_of_getElem? (i := 61) rfl, ⟨List.mem_of_getElem? (i := 472) rfl, List.mem_of_getElem? (i := 473) rfl⟩, rfl, by decide +kernel, ⟨by decide +kernel, by decide +kernel⟩, by decide +kernel, by decide⟩
set_option maxRecDepth 100000 in
theorem zr1 : zL1.all (rwOk prog_2_method_3_code) = true := by decide +kernel
set_option maxRecDepth 100000 in
theorem zk1 : MtOk zM1 := ⟨zr1, List.mem_of_getElem? (i := 292) rfl, List.mem_of_getElem? (i := 61) rfl, ⟨List.mem_of_getElem? (i := 290) rfl, List.mem_of_getElem? (i := 291) rfl⟩, rfl, by decide +kernel, ⟨by decide +kernel, by decide +kernel⟩, by decide +kernel, by decide⟩
set_option maxRecDepth 100000 in
theorem zr2 : zL2.all (rwOk prog_2_method_4_code) = true := by decide +kernel
set_option maxRecDepth 100000 in
theorem zk2 : MtOk zM2 := ⟨zr2, List.mem_of_getElem? (i := 298) rfl, List.mem_of_getElem? (i := 61) rfl, ⟨List.mem_of_getElem? (i := 296) rfl, List.mem_of_getElem? (i := 297) rfl⟩, rfl, by decide +kernel, ⟨by decide +kernel, by decide +kernel⟩, by decide +kernel, by decide⟩
set_option maxRecDepth 100000 in
theorem zr3 : zL3.all (rwOk prog_2_method_5_code) = true := by decide +kernel
set_option maxRecDepth 100000 in
theorem zk3 : MtOk zM3 := ⟨zr3, List.mem_of_getElem? (i := 314) rfl, List.mem_of_getElem? (i := 61) rfl, ⟨List.mem_of_getElem? (i := 312) rfl, List.mem_of_getElem? (i := 313) rfl⟩, rfl, by decide +kernel, ⟨by decide +kernel, by decide +kernel⟩, by decide +kernel, by decide⟩
set_option maxRecDepth 100000 in
theorem zr4 : zL4.all (rwOk prog_2_method_6_code) = true := by decide +kernel
set_option maxRecDepth 100000 in
theorem zk4 : MtOk zM4 := ⟨zr4, List.mem_of_getElem? (i := 310) rfl, List.mem_of_getElem? (i := 61) rfl, ⟨List.mem_of_getElem? (i := 308) rfl, List.mem_of_getElem? (i := 309) rfl⟩, rfl, by decide +kernel, ⟨by decide +kernel, by decide +kernel⟩, by decide +kernel, by decide⟩
set_option maxRecDepth 100000 in
theorem zr5 : zL5.all (rwOk prog_2_method_7_code) = true := by decide +kernel
set_option maxRecDepth 100000 in
theorem zk5 : MtOk zM5 := ⟨zr5, List.mem_of_getElem? (i := 324) rfl, List.mem_of_getElem? (i := 61) rfl, ⟨List.mem_of_getElem? (i := 322) rfl, List.mem_of_getElem? (i := 323) rfl⟩, rfl, by decide +kernel, ⟨by decide +kernel, by decide +kernel⟩, by decide +kernel, by decide⟩
set_option maxRecDepth 100000 in
theorem zr6 : zL6.all (rwOk prog_2_method_8_code) = true := by decide +kernel
set_option maxRecDepth 100000 in
theorem zk6 : MtOk zM6 := ⟨zr6, List.mem_of_getElem? (i := 560) rfl, List.mem_of_getElem? (i := 61) rfl, ⟨List.mem_of_getElem? (i := 558) rfl, List.mem_of_getElem? (i := 559) rfl⟩, rfl, by decide +kernel, ⟨by decide +kernel, by decide +kernel⟩, by decide +kernel, by decide⟩
set_option maxRecDepth 100000 in
theorem zr7 : zL7.all (rwOk prog_2_method_9_code) = true := by decide +kernel
set_option maxRecDepth 100000 in
theorem zk7 : MtOk zM7 := ⟨zr7, List.mem_of_getElem? (i := 345) rfl, List.mem_of_getElem? (i := 61) rfl, ⟨List.mem_of_getElem? (i := 343) rfl, List.mem_of_getElem? (i := 344) rfl⟩, rfl, by decide +kernel, ⟨by decide +kernel, by decide +kernel⟩, by decide +kernel, by decide⟩
set_option maxRecDepth 100000 in
theorem zr8 : zL8.all (rwOk prog_2_method_10_code) = true := by decide +kernel
set_option maxRecDepth 100000 in
theorem zk8 : MtOk zM8 := ⟨zr8, List.mem_of_getElem? (i := 350) rfl, List.mem_of_getElem? (i := 61) rfl, ⟨List.mem_of_getElem? (i := 348) rfl, List.mem_of_getElem? (i := 349) rfl⟩, rfl, by decide +kernel, ⟨by decide +kernel, by decide +kernel⟩, by decide +kernel, by decide⟩
set_option maxRecDepth 100000 in
theorem zr9 : zL9.all (rwOk prog_2_method_11_code) = true := by decide +kernel
set_option maxRecDepth 100000 in
theorem zk9 : MtOk zM9 := ⟨zr9, List.mem_of_getElem? (i := 415) rfl, List.mem_of_getElem? (i := 61) rfl, ⟨List.mem_of_getElem? (i := 413) rfl, List.mem_of_getElem? (i := 414) rfl⟩, rfl, by decide +kernel, ⟨by decide +kernel, by decide +kernel⟩, by decide +kernel, by decide⟩
set_option maxRecDepth 100000 in
theorem zr10 : zL10.all (rwOk prog_2_method_12_code) = true := by decide +kernel
set_option maxRecDepth 100000 in
theorem zk10 : MtOk zM10 := ⟨zr10, List.mem_of_getElem? (i := 499) rfl, List.mem_of_getElem? (i := 61) rfl, ⟨List.mem_of_getElem? (i := 497) rfl, List.mem_of_getElem? (i := 498) rfl⟩, rfl, by decide +kernel, ⟨by decide +kernel, by decide +kernel⟩, by decide +kernel, by decide⟩
set_option maxRecDepth 100000 in
theorem zr11 : zL11.all (rwOk prog_2_method_13_code) = true := by decide +kernel
set_option maxRecDepth 100000 in
theorem zk11 : MtOk zM11 := ⟨zr11, List.mem_of_getElem? (i := 503) rfl, List.mem_of_getElem? (i := 61) rfl, ⟨List.mem_of_getElem? (i := 502) rfl, List.mem_of_getElem? (i := 6) rfl⟩, rfl, by decide +kernel, ⟨by decide +kernel, by decide +kernel⟩, by decide +kernel, by decide⟩
set_option maxRecDepth 100000 in
theorem zr12 : zL12.all (rwOk prog_2_method_14_code) = true := by decide +kernel
set_option maxRecDepth 100000 in
theorem zk12 : MtOk zM12 := ⟨zr12, List.mem_of_getElem? (i := 419) rfl, List.mem_of_getElem? (i := 61) rfl, ⟨List.mem_of_getElem? (i := 417) rfl, List.mem_of_getElem? (i := 418) rfl⟩, rfl, by decide +kernel, ⟨by decide +kernel, by decide +kernel⟩, by decide +kernel, by decide⟩
set_option maxRecDepth 100000 in
theorem zr13 : zL13.all (rwOk prog_2_method_15_code) = true := by decide +kernel
set_option maxRecDepth 100000 in
theorem zk13 : MtOk zM13 := ⟨zr13, List.mem_of_getElem? (i := 424) rfl, List.mem_of_getElem? (i := 61) rfl, ⟨List.mem_of_getElem? (i := 423) rfl, List.mem_of_getElem? (i := 3) rfl⟩, rfl, by decide +kernel, ⟨by decide +kernel, by decide +kernel⟩, by decide +kernel, by decide⟩
set_option maxRecDepth 100000 in
theorem zr14 : zL14.all (rwOk prog_2_method_16_code) = true := by decide +kernel
set_option maxRecDepth 100000 in
theorem zk14 : MtOk zM14 := ⟨zr14, List.mem_of_getElem? (i := 433) rfl, List.mem_of_getElem? (i := 61) rfl, ⟨List.mem_of_getElem? (i := 432) rfl, List.mem_of_getElem? (i := 4) rfl⟩, rfl, by decide +kernel, ⟨by decide +kernel, by decide +kernel⟩, by decide +kernel, by decide⟩
set_option maxRecDepth 100000 in
theorem zr15 : zL15.all (rwOk prog_2_method_17_code) = true := by decide +kernel
set_option maxRecDepth 100000 in
theorem zk15 : MtOk zM15 := ⟨zr15, List.mem_of_getElem? (i := 446) rfl, List.mem_of_getElem? (i := 61) rfl, ⟨List.mem_of_getElem? (i := 444) rfl, List.mem_of_getElem? (i := 445) rfl⟩, rfl, by decide +kernel, ⟨by decide +kernel, by decide +kernel⟩, by decide +kernel, by decide⟩
set_option maxRecDepth 100000 in
theorem zr16 : zL16.all (rwOk prog_2_method_18_code) = true := by decide +kernel
set_option maxRecDepth 100000 in
theorem zk16 : MtOk zM16 := ⟨zr16, List.mem_of_getElem? (i := 458) rfl, List.mem_of_getElem? (i := 61) rfl, ⟨List.mem_of_getElem? (i := 456) rfl, List.mem_of_getElem? (i := 457) rfl⟩, rfl, by decide +kernel, ⟨by decide +kernel, by decide +kernel⟩, by decide +kernel, by decide⟩
set_option maxRecDepth 100000 in
theorem zr17 : zL17.all (rwOk prog_2_method_19_code) = true := by decide +kernel
set_option maxRecDepth 100000 in
theorem zk17 : MtOk zM17 := ⟨zr17, List.mem_of_getElem? (i := 454) rfl, List.mem_of_getElem? (i := 61) rfl, ⟨List.mem_of_getElem? (i := 452) rfl, List.mem_of_getElem? (i := 453) rfl⟩, rfl, by decide +kernel, ⟨by decide +kernel, by decide +kernel⟩, by decide +kernel, by decide⟩
set_option maxRecDepth 100000 in
theorem zr18 : zL18.all (rwOk prog_2_method_20_code) = true := by decide +kernel
set_option maxRecDepth 100000 in
theorem zk18 : MtOk zM18 := ⟨zr18, List.mem_of_getElem? (i := 548) rfl, List.mem_of_getElem? (i := 61) rfl, ⟨List.mem_of_getElem? (i := 546) rfl, List.mem_of_getElem? (i := 547) rfl⟩, rfl, by decide +kernel, ⟨by decide +kernel, by decide +kernel⟩, by decide +kernel, by decide⟩
set_option maxRecDepth 100000 in
theorem zr19 : zL19.all (rwOk prog_2_method_21_code) = true := by decide +kernel
set_option maxRecDepth 100000 in
theorem zk19 : MtOk zM19 := ⟨zr19, List.mem_of_getElem? (i := 556) rfl, List.mem_of_getElem? (i := 61) rfl, ⟨List.mem_of_getElem? (i := 554) rfl, List.mem_of_getElem? (i := 555) rfl⟩, rfl, by decide +kernel, ⟨by decide +kernel, by decide +kernel⟩, by decide +kernel, by decide⟩
set_option maxRecDepth 100000 in
theorem zr20 : zL20.all (rwOk prog_2_method_22_code) = true := by decide +kernel
set_option maxRecDepth 100000 in
theorem zk20 : MtOk zM20 := ⟨zr20, List.mem_of_getElem? (i := 848) rfl, List.mem_of_getElem? (i := 61) rfl, ⟨List.mem_of_getElem? (i := 846) rfl, List.mem_of_getElem? (i := 847) rfl⟩, rfl, by decide +kernel, ⟨by decide +kernel, by decide +kernel⟩, by decide +kernel, by decide⟩
set_option maxRecDepth 100000 in
theorem zr21 : zL21.all (rwOk prog_2_method_23_code) = true := by decide +kernel
set_option maxRecDepth 100000 in
theorem zk21 : MtOk zM21 := ⟨zr21, List.mem_of_getElem? (i := 576) rfl, List.mem_of_getElem? (i := 61) rfl, ⟨List.mem_of_getElem? (i := 574) rfl, List.mem_of_getElem? (i := 575) rfl⟩, rfl, by decide +kernel, ⟨by decide +kernel, by decide +kernel⟩, by decide +kernel, by decide⟩
set_option maxRecDepth 100000 in
theorem zr22 : zL22.all (rwOk prog_2_method_24_code) = true := by decide +kernel
set_option maxRecDepth 100000 in
theorem zk22 : MtOk zM22 := ⟨zr22, List.mem_of_getElem? (i := 585) rfl, List.mem_of_getElem? (i := 61) rfl, ⟨List.mem_of_getElem? (i := 583) rfl, List.mem_of_getElem? (i := 584) rfl⟩, rfl, by decide +kernel, ⟨by decide +kernel, by decide +kernel⟩, by decide +kernel, by decide⟩
set_option maxRecDepth 100000 in
theorem zr23 : zL23.all (rwOk prog_2_method_25_code) = true := by decide +kernel
set_option maxRecDepth 100000 in
theorem zk23 : MtOk zM23 := ⟨zr23, List.mem_of_getElem? (i := 580) rfl, List.mem_of_getElem? (i := 61) rfl, ⟨List.mem_of_getElem? (i := 578) rfl, List.mem_of_getElem? (i := 579) rfl⟩, rfl, by decide +kernel, ⟨by decide +kernel, by decide +kernel⟩, by decide +kernel, by decide⟩
set_option maxRecDepth 100000 in
theorem zr24 : zL24.all (rwOk prog_3_method_2_code) = true := by decide +kernel
set_option maxRecDepth 100000 in
theorem zk24 : MtOk zM24 := ⟨zr24, List.mem_of_getElem? (i := 481) rfl, List.mem_of_getElem? (i := 62) rfl, ⟨List.mem_of_getElem? (i := 479) rfl, List.mem_of_getElem? (i := 480) rfl⟩, rfl, by decide +kernel, ⟨by decide +kernel, by decide +kernel⟩, by decide +kernel, by decide⟩
set_option maxRecDepth 100000 in
theorem zr25 : zL25.all (rwOk prog_3_method_3_code) = true := by decide +kernel
set_option maxRecDepth 100000 in
theorem zk25 : MtOk zM25 := ⟨zr25, List.mem_of_getElem? (i := 355) rfl, List.mem_of_getElem? (i := 62) rfl, ⟨List.mem_of_getElem? (i := 353) rfl, List.mem_of_getElem? (i := 354) rfl⟩, rfl, by decide +kernel, ⟨by decide +kernel, by decide +kernel⟩, by decide +kernel, by decide⟩
set_option maxRecDepth 100000 in
theorem zr26 : zL26.all (rwOk prog_3_method_4_code) = true := by decide +kernel
set_option maxRecDepth 100000 in
theorem zk26 : MtOk zM26 := ⟨zr26, List.mem_of_getElem? (i := 536) rfl, List.mem_of_getElem? (i := 62) rfl, ⟨List.mem_of_getElem? (i := 534) rfl, List.mem_of_getElem? (i := 535) rfl⟩, rfl, by decide +kernel, ⟨by decide +kernel, by decide +kernel⟩, by decide +kernel, by decide⟩
set_option maxRecDepth 100000 in
theorem zr27 : zL27.all (rwOk prog_3_method_5_code) = true := by decide +kernel
set_option maxRecDepth 100000 in
theorem zk27 : MtOk zM27 := ⟨zr27, List.mem_of_getElem? (i := 438) rfl, List.mem_of_getElem? (i := 62) rfl, ⟨List.mem_of_getElem? (i := 436) rfl, List.mem_of_getElem? (i := 437) rfl⟩, rfl, by decide +kernel, ⟨by decide +kernel, by decide +kernel⟩, by decide +kernel, by decide⟩
set_option maxRecDepth 100000 in
theorem zr28 : zL28.all (rwOk prog_3_method_6_code) = true := by decide +kernel
set_option maxRecDepth 100000 in
theorem zk28 : MtOk zM28 := ⟨zr28, List.mem_of_getElem? (i := 519) rfl, List.mem_of_getElem? (i := 62) rfl, ⟨List.mem_of_getElem? (i := 517) rfl, List.mem_of_getElem? (i := 518) rfl⟩, rfl, by decide +kernel, ⟨by decide +kernel, by decide +kernel⟩, by decide +kernel, by decide⟩
set_option maxRecDepth 100000 in
theorem zr29 : zL29.all (rwOk prog_3_method_7_code) = true := by decide +kernel
set_option maxRecDepth 100000 in
theorem zk29 : MtOk zM29 := ⟨zr29, List.mem_of_getElem? (i := 602) rfl, List.mem_of_getElem? (i := 62) rfl, ⟨List.mem_of_getElem? (i := 600) rfl, List.mem_of_getElem? (i := 601) rfl⟩, rfl, by decide +kernel, ⟨by decide +kernel, by decide +kernel⟩, by decide +kernel, by decide⟩
set_option maxRecDepth 100000 in
theorem zr30 : zL30.all (rwOk prog_5_method_2_code) = true := by decide +kernel
set_option maxRecDepth 100000 in
theorem zk30 : MtOk zM30 := ⟨zr30, List.mem_of_getElem? (i := 797) rfl, List.mem_of_getElem? (i := 66) rfl, ⟨List.mem_of_getElem? (i := 795) rfl, List.mem_of_getElem? (i := 796) rfl⟩, rfl, by decide +kernel, ⟨by decide +kernel, by decide +kernel⟩, by decide +kernel, by decide⟩
set_option maxRecDepth 100000 in
theorem zr31 : zL31.all (rwOk prog_5_method_3_code) = true := by decide +kernel
set_option maxRecDepth 100000 in
theorem zk31 : MtOk zM31 := ⟨zr31, List.mem_of_getElem? (i := 786) rfl, List.mem_of_getElem? (i := 66) rfl, ⟨List.mem_of_getElem? (i := 784) rfl, List.mem_of_getElem? (i := 785) rfl⟩, rfl, by decide +kernel, ⟨by decide +kernel, by decide +kernel⟩, by decide +kernel, by decide⟩
set_option maxRecDepth 100000 in
theorem zr32 : zL32.all (rwOk prog_5_method_4_code) = true := by decide +kernel
set_option maxRecDepth 100000 in
theorem zk32 : MtOk zM32 := ⟨zr32, List.mem_of_getElem? (i := 802) rfl, List.mem_of_getElem? (i := 66) rfl, ⟨List.mem_of_getElem? (i := 800) rfl, List.mem_of_getElem? (i := 801) rfl⟩, rfl, by decide +kernel, ⟨by decide +kernel, by decide +kernel⟩, by decide +kernel, by decide⟩
set_option maxRecDepth 100000 in
theorem zr33 : zL33.all (rwOk prog_5_method_5_code) = true := by decide +kernel
set_option maxRecDepth 100000 in
theorem zk33 : MtOk zM33 := ⟨zr33, List.mem_of_getElem? (i := 810) rfl, List.mem_of_getElem? (i := 66) rfl, ⟨List.mem_of_getElem? (i := 808) rfl, List.mem_of_getElem? (i := 809) rfl⟩, rfl, by decide +kernel, ⟨by decide +kernel, by decide +kernel⟩, by decide +kernel, by decide⟩
set_option maxRecDepth 100000 in
theorem zr34 : zL34.all (rwOk prog_6_method_2_code) = true := by decide +kernel
set_option maxRecDepth 100000 in
theorem zk34 : MtOk zM34 := ⟨zr34, List.mem_of_getElem? (i := 619) rfl, List.mem_of_getElem? (i := 63) rfl, ⟨List.mem_of_getElem? (i := 617) rfl, List.mem_of_getElem? (i := 618) rfl⟩, rfl, by decide +kernel, ⟨by decide +kernel, by decide +kernel⟩, by decide +kernel, by decide⟩
set_option maxRecDepth 100000 in
theorem zr35 : zL35.all (rwOk prog_6_method_3_code) = true := by decide +kernel
set_option maxRecDepth 100000 in
theorem zk35 : MtOk zM35 := ⟨zr35, List.mem_of_getElem? (i := 651) rfl, List.mem_of_getElem? (i := 63) rfl, ⟨List.mem_of_getElem? (i := 649) rfl, List.mem_of_getElem? (i := 650) rfl⟩, rfl, by decide +kernel, ⟨by decide +kernel, by decide +kernel⟩, by decide +kernel, by decide⟩
set_option maxRecDepth 100000 in
theorem zr36 : zL36.all (rwOk prog_7_method_2_code) = true := by decide +kernel
set_option maxRecDepth 100000 in
theorem zk36 : MtOk zM36 := ⟨zr36, List.mem_of_getElem? (i := 631) rfl, List.mem_of_getElem? (i := 64) rfl, ⟨List.mem_of_getElem? (i := 629) rfl, List.mem_of_getElem? (i := 630) rfl⟩, rfl, by decide +kernel, ⟨by decide +kernel, by decide +kernel⟩, by decide +kernel, by decide⟩
set_option maxRecDepth 100000 in
theorem zr37 : zL37.all (rwOk prog_7_method_3_code) = true := by decide +kernel
set_option maxRecDepth 100000 in
theorem zk37 : MtOk zM37 := ⟨zr37, List.mem_of_getElem? (i := 656) rfl, List.mem_of_getElem? (i := 64) rfl, ⟨List.mem_of_getElem? (i := 655) rfl, List.mem_of_getElem? (i := 10) rfl⟩, rfl, by decide +kernel, ⟨by decide +kernel, by decide +kernel⟩, by decide +kernel, by decide⟩
set_option maxRecDepth 100000 in
theorem zr38 : zL38.all (rwOk prog_7_method_4_code) = true := by decide +kernel
set_option maxRecDepth 100000 in
theorem zk38 : MtOk zM38 := ⟨zr38, List.mem_of_getElem? (i := 718) rfl, List.mem_of_getElem? (i := 64) rfl, ⟨List.mem_of_getElem? (i := 717) rfl, List.mem_of_getElem? (i := 12) rfl⟩, rfl, by decide +kernel, ⟨by decide +kernel, by decide +kernel⟩, by decide +kernel, by decide⟩
set_option maxRecDepth 100000 in
theorem zr39 : zL39.all (rwOk prog_7_method_5_code) = true := by decide +kernel
set_option maxRecDepth 100000 in
theorem zk39 : MtOk zM39 := ⟨zr39, List.mem_of_getElem? (i := 729) rfl, List.mem_of_getElem? (i := 64) rfl, ⟨List.mem_of_getElem? (i := 728) rfl, List.mem_of_getElem? (i := 14) rfl⟩, rfl, by decide +kernel, ⟨by decide +kernel, by decide +kernel⟩, by decide +kernel, by decide⟩
set_option maxRecDepth 100000 in
theorem zr40 : zL40.all (rwOk prog_7_method_6_code) = true := by decide +kernel
set_option maxRecDepth 100000 in
theorem zk40 : MtOk zM40 := ⟨zr40, List.mem_of_getElem? (i := 735) rfl, List.mem_of_getElem? (i := 64) rfl, ⟨List.mem_of_getElem? (i := 734) rfl, List.mem_of_getElem? (i := 15) rfl⟩, rfl, by decide +kernel, ⟨by decide +kernel, by decide +kernel⟩, by decide +kernel, by decide⟩
set_option maxRecDepth 100000 in
theorem zr41 : zL41.all (rwOk prog_7_method_7_code) = true := by decide +kernel
set_option maxRecDepth 100000 in
theorem zk41 : MtOk zM41 := ⟨zr41, List.mem_of_getElem? (i := 740) rfl, List.mem_of_getElem? (i := 64) rfl, ⟨List.mem_of_getElem? (i := 739) rfl, List.mem_of_getElem? (i := 16) rfl⟩, rfl, by decide +kernel, ⟨by decide +kernel, by decide +kernel⟩, by decide +kernel, by decide⟩
set_option maxRecDepth 100000 in
theorem zr42 : zL42.all (rwOk prog_7_method_8_code) = true := by decide +kernel
set_option maxRecDepth 100000 in
theorem zk42 : MtOk zM42 := ⟨zr42, List.mem_of_getElem? (i := 745) rfl, List.mem_of_getElem? (i := 64) rfl, ⟨List.mem_of_getElem? (i := 744) rfl, List.mem_of_getElem? (i := 17) rfl⟩, rfl, by decide +kernel, ⟨by decide +kernel, by decide +kernel⟩, by decide +kernel, by decide⟩
set_option maxRecDepth 100000 in
theorem zr43 : zL43.all (rwOk prog_7_method_9_code) = true := by decide +kernel
set_option maxRecDepth 100000 in
theorem zk43 : MtOk zM43 := ⟨zr43, List.mem_of_getElem? (i := 749) rfl, List.mem_of_getElem? (i := 64) rfl, ⟨List.mem_of_getElem? (i := 748) rfl, List.mem_of_getElem? (i := 18) rfl⟩, rfl, by decide +kernel, ⟨by decide +kernel, by decide +kernel⟩, by decide +kernel, by decide⟩
set_option maxRecDepth 100000 in
theorem zr44 : zL44.all (rwOk prog_7_method_10_code) = true := by decide +kernel
set_option maxRecDepth 100000 in
theorem zk44 : MtOk zM44 := ⟨zr44, List.mem_of_getElem? (i := 753) rfl, List.mem_of_getElem? (i := 64) rfl, ⟨List.mem_of_getElem? (i := 752) rfl, List.mem_of_getElem? (i := 19) rfl⟩, rfl, by decide +kernel, ⟨by decide +kernel, by decide +kernel⟩, by decide +kernel, by decide⟩
set_option maxRecDepth 100000 in
theorem zr45 : zL45.all (rwOk prog_7_method_11_code) = true := by decide +kernel
set_option maxRecDepth 100000 in
theorem zk45 : MtOk zM45 := ⟨zr45, List.mem_of_getElem? (i := 756) rfl, List.mem_of_getElem? (i := 64) rfl, List.mem_of_getElem? (i := 755) rfl, rfl, by decide +kernel, ⟨by decide +kernel, by decide +kernel⟩, by decide +kernel, by decide⟩
set_option maxRecDepth 100000 in
theorem zr46 : zL46.all (rwOk prog_7_method_12_code) = true := by decide +kernel
set_option maxRecDepth 100000 in
theorem zk46 : MtOk zM46 := ⟨zr46, List.mem_of_getElem? (i := 772) rfl, List.mem_of_getElem? (i := 64) rfl, ⟨List.mem_of_getElem? (i := 771) rfl, List.mem_of_getElem? (i := 20) rfl⟩, rfl, by decide +kernel, ⟨by decide +kernel, by decide +kernel⟩, by decide +kernel, by decide⟩
set_option maxRecDepth 100000 in
theorem zr47 : zL47.all (rwOk prog_7_method_13_code) = true := by decide +kernel
set_option maxRecDepth 100000 in
theorem zk47 : MtOk zM47 := ⟨zr47, List.mem_of_getElem? (i := 661) rfl, List.mem_of_getElem? (i := 64) rfl, ⟨List.mem_of_getElem? (i := 660) rfl, List.mem_of_getElem? (i := 11) rfl⟩, rfl, by decide +kernel, ⟨by decide +kernel, by decide +kernel⟩, by decide +kernel, by decide⟩
set_option maxRecDepth 100000 in
theorem zr48 : zL48.all (rwOk prog_7_method_14_code) = true := by decide +kernel
set_option maxRecDepth 100000 in
theorem zk48 : MtOk zM48 := ⟨zr48, List.mem_of_getElem? (i := 722) rfl, List.mem_of_getElem? (i := 64) rfl, ⟨List.mem_of_getElem? (i := 721) rfl, List.mem_of_getElem? (i := 13) rfl⟩, rfl, by decide +kernel, ⟨by decide +kernel, by decide +kernel⟩, by decide +kernel, by decide⟩
set_option maxRecDepth 100000 in
theorem zr49 : zL49.all (rwOk prog_8_method_2_code) = true := by decide +kernel
set_option maxRecDepth 100000 in
theorem zk49 : MtOk zM49 := ⟨zr49, List.mem_of_getElem? (i := 635) rfl, List.mem_of_getElem? (i := 65) rfl, ⟨List.mem_of_getElem? (i := 633) rfl, List.mem_of_getElem? (i := 634) rfl⟩, rfl, by decide +kernel, ⟨by decide +kernel, by decide +kernel⟩, by decide +kernel, by decide⟩
set_option maxRecDepth 100000 in
theorem zr50 : zL50.all (rwOk prog_8_method_3_code) = true := by decide +kernel
set_option maxRecDepth 100000 in
theorem zk50 : MtOk zM50 := ⟨zr50, List.mem_of_getElem? (i := 639) rfl, List.mem_of_getElem? (i := 65) rfl, ⟨List.mem_of_getElem? (i := 637) rfl, List.mem_of_getElem? (i := 638) rfl⟩, rfl, by decide +kernel, ⟨by decide +kernel, by decide +kernel⟩, by decide +kernel, by decide⟩
set_option maxRecDepth 100000 in
theorem zr51 : zL51.all (rwOk prog_8_method_4_code) = true := by decide +kernel
set_option maxRecDepth 100000 in
theorem zk51 : MtOk zM51 := ⟨zr51, List.mem_of_getElem? (i := 647) rfl, List.mem_of_getElem? (i := 65) rfl, ⟨List.mem_of_getElem? (i := 646) rfl, List.mem_of_getElem? (i := 9) rfl⟩, rfl, by decide +kernel, ⟨by decide +kernel, by decide +kernel⟩, by decide +kernel, by decide⟩
set_option maxRecDepth 100000 in
theorem zr52 : zL52.all (rwOk prog_8_method_5_code) = true := by decide +kernel
set_option maxRecDepth 100000 in
theorem zk52 : MtOk zM52 := ⟨zr52, List.mem_of_getElem? (i := 643) rfl, List.mem_of_getElem? (i := 65) rfl, ⟨List.mem_of_getElem? (i := 642) rfl, List.mem_of_getElem? (i := 8) rfl⟩, rfl, by decide +kernel, ⟨by decide +kernel, by decide +kernel⟩, by decide +kernel, by decide⟩
set_option maxRecDepth 100000 in
theorem zr53 : zL53.all (rwOk prog_8_method_6_code) = true := by decide +kernel
set_option maxRecDepth 100000 in
theorem zk53 : MtOk zM53 := ⟨zr53, List.mem_of_getElem? (i := 665) rfl, List.mem_of_getElem? (i := 65) rfl, ⟨List.mem_of_getElem? (i := 663) rfl, List.mem_of_getElem? (i := 664) rfl⟩, rfl, by decide +kernel, ⟨by decide +kernel, by decide +kernel⟩, by decide +kernel, by decide⟩
set_option maxRecDepth 100000 in
theorem zr54 : zL54.all (rwOk prog_1_method_2_code) = true := by decide +kernel
set_option maxRecDepth 100000 in
theorem zk54 : MtOk zM54 := ⟨zr54, List.mem_of_getElem? (i := 274) rfl, List.mem_of_getElem? (i := 60) rfl, ⟨List.mem_of_getElem? (i := 272) rfl, List.mem_of_getElem? (i := 273) rfl⟩, rfl, by decide +kernel, ⟨by decide +kernel, by decide +kernel⟩, by decide +kernel, by decide⟩
set_option maxRecDepth 100000 in
theorem zr55 : zL55.all (rwOk prog_1_method_3_code) = true := by decide +kernel
set_option maxRecDepth 100000 in
theorem zk55 : MtOk zM55 := ⟨zr55, List.mem_of_getElem? (i := 302) rfl, List.mem_of_getElem? (i := 60) rfl, ⟨List.mem_of_getElem? (i := 300) rfl, List.mem_of_getElem? (i := 301) rfl⟩, rfl, by decide +kernel, ⟨by decide +kernel, by decide +kernel⟩, by decide +kernel, by decide⟩
set_option maxRecDepth 100000 in
theorem zr56 : zL56.all (rwOk prog_1_method_4_code) = true := by decide +kernel
set_option maxRecDepth 100000 in
theorem zk56 : MtOk zM56 := ⟨zr56, List.mem_of_getElem? (i := 306) rfl, List.mem_of_getElem? (i := 60) rfl, ⟨List.mem_of_getElem? (i := 304) rfl, List.mem_of_getElem? (i := 305) rfl⟩, rfl, by decide +kernel, ⟨by decide +kernel, by decide +kernel⟩, by decide +kernel, by decide⟩
set_option maxRecDepth 100000 in
theorem zr57 : zL57.all (rwOk prog_1_method_5_code) = true := by decide +kernel
set_option maxRecDepth 100000 in
theorem zk57 : MtOk zM57 := ⟨zr57, List.mem_of_getElem? (i := 320) rfl, List.mem_of_getElem? (i := 60) rfl, ⟨List.mem_of_getElem? (i := 318) rfl, List.mem_of_getElem? (i := 319) rfl⟩, rfl, by decide +kernel, ⟨by decide +kernel, by decide +kernel⟩, by decide +kernel, by decide⟩
set_option maxRecDepth 100000 in
theorem zr58 : zL58.all (rwOk prog_1_method_6_code) = true := by decide +kernel
set_option maxRecDepth 100000 in
theorem zk58 : MtOk zM58 := ⟨zr58, List.mem_of_getElem? (i := 328) rfl, List.mem_of_getElem? (i := 60) rfl, ⟨List.mem_of_getElem? (i := 326) rfl, List.mem_of_getElem? (i := 327) rfl⟩, rfl, by decide +kernel, ⟨by decide +kernel, by decide +kernel⟩, by decide +kernel, by decide⟩
set_option maxRecDepth 100000 in
theorem zr59 : zL59.all (rwOk prog_1_method_7_code) = true := by decide +kernel
set_option maxRecDepth 100000 in
theorem zk59 : MtOk zM59 := ⟨zr59, List.mem_of_getElem? (i := 331) rfl, List.mem_of_getElem? (i := 60) rfl, List.mem_of_getElem? (i := 330) rfl, rfl, by decide +kernel, ⟨by decide +kernel, by decide +kernel⟩, by decide +kernel, by decide⟩
set_option maxRecDepth 100000 in
theorem zr60 : zL60.all (rwOk prog_1_method_8_code) = true := by decide +kernel
set_option maxRecDepth 100000 in
theorem zk60 : MtOk zM60 := ⟨zr60, List.mem_of_getElem? (i := 335) rfl, List.mem_of_getElem? (i := 60) rfl, ⟨List.mem_of_getElem? (i := 333) rfl, List.mem_of_getElem? (i := 334) rfl⟩, rfl, by decide +kernel, ⟨by decide +kernel, by decide +kernel⟩, by decide +kernel, by decide⟩
set_option maxRecDepth 100000 in
theorem zr61 : zL61.all (rwOk prog_1_method_9_code) = true := by decide +kernel
set_option maxRecDepth 100000 in
theorem zk61 : MtOk zM61 := ⟨zr61, List.mem_of_getElem? (i := 359) rfl, List.mem_of_getElem? (i := 60) rfl, ⟨List.mem_of_getElem? (i := 357) rfl, List.mem_of_getElem? (i := 358) rfl⟩, rfl, by decide +kernel, ⟨by decide +kernel, by decide +kernel⟩, by decide +kernel, by decide⟩
set_option maxRecDepth 100000 in
theorem zr62 : zL62.all (rwOk prog_1_method_10_code) = true := by decide +kernel
set_option maxRecDepth 100000 in
theorem zk62 : MtOk zM62 := ⟨zr62, List.mem_of_getElem? (i := 376) rfl, List.mem_of_getElem? (i := 60) rfl, ⟨List.mem_of_getElem? (i := 374) rfl, List.mem_of_getElem? (i := 375) rfl⟩, rfl, by decide +kernel, ⟨by decide +kernel, by decide +kernel⟩, by decide +kernel, by decide⟩
set_option maxRecDepth 100000 in
theorem zr63 : zL63.all (rwOk prog_1_method_11_code) = true := by decide +kernel
set_option maxRecDepth 100000 in
theorem zk63 : MtOk zM63 := ⟨zr63, List.mem_of_getElem? (i := 379) rfl, List.mem_of_getElem? (i := 60) rfl, List.mem_of_getElem? (i := 378) rfl, rfl, by decide +kernel, ⟨by decide +kernel, by decide +kernel⟩, by decide +kernel, by decide⟩
set_option maxRecDepth 100000 in
theorem zr64 : zL64.all (rwOk prog_1_method_12_code) = true := by decide +kernel
set_option maxRecDepth 100000 in
theorem zk64 : MtOk zM64 := ⟨zr64, List.mem_of_getElem? (i := 383) rfl, List.mem_of_getElem? (i := 60) rfl, ⟨List.mem_of_getElem? (i := 381) rfl, List.mem_of_getElem? (i := 382) rfl⟩, rfl, by decide +kernel, ⟨by decide +kernel, by decide +kernel⟩, by decide +kernel, by decide⟩
set_option maxRecDepth 100000 in
theorem zr65 : zL65.all (rwOk prog_1_method_13_code) = true := by decide +kernel
set_option maxRecDepth 100000 in
theorem zk65 : MtOk zM65 := ⟨zr65, List.mem_of_getElem? (i := 387) rfl, List.mem_of_getElem? (i := 60) rfl, ⟨List.mem_of_getElem? (i := 385) rfl, List.mem_of_getElem? (i := 386) rfl⟩, rfl, by decide +kernel, ⟨by decide +kernel, by decide +kernel⟩, by decide +kernel, by decide⟩
set_option maxRecDepth 100000 in
theorem zr66 : zL66.all (rwOk prog_1_method_14_code) = true := by decide +kernel
set_option maxRecDepth 100000 in
theorem zk66 : MtOk zM66 := ⟨zr66, List.mem_of_getElem? (i := 398) rfl, List.mem_of_getElem? (i := 60) rfl, ⟨List.mem_of_getElem? (i := 396) rfl, List.mem_of_getElem? (i := 397) rfl⟩, rfl, by decide +kernel, ⟨by decide +kernel, by decide +kernel⟩, by decide +kernel, by decide⟩
set_option maxRecDepth 100000 in
theorem zr67 : zL67.all (rwOk prog_1_method_15_code) = true := by decide +kernel
set_option maxRecDepth 100000 in
theorem zk67 : MtOk zM67 := ⟨zr67, List.mem_of_getElem? (i := 402) rfl, List.mem_of_getElem? (i := 60) rfl, ⟨List.mem_of_getElem? (i := 400) rfl, List.mem_of_getElem? (i := 401) rfl⟩, rfl, by decide +kernel, ⟨by decide +kernel, by decide +kernel⟩, by decide +kernel, by decide⟩
set_option maxRecDepth 100000 in
theorem zr68 : zL68.all (rwOk prog_1_method_16_code) = true := by decide +kernel
set_option maxRecDepth 100000 in
theorem zk68 : MtOk zM68 := ⟨zr68, List.mem_of_getElem? (i := 406) rfl, List.mem_of_getElem? (i := 60) rfl, ⟨List.mem_of_getElem? (i := 404) rfl, List.mem_of_getElem? (i := 405) rfl⟩, rfl, by decide +kernel, ⟨by decide +kernel, by decide +kernel⟩, by decide +kernel, by decide⟩
set_option maxRecDepth 100000 in
theorem zr69 : zL69.all (rwOk prog_1_method_17_code) = true := by decide +kernel
set_option maxRecDepth 100000 in
theorem zk69 : MtOk zM69 := ⟨zr69, List.mem_of_getElem? (i := 442) rfl, List.mem_of_getElem? (i := 60) rfl, ⟨List.mem_of_getElem? (i := 440) rfl, List.mem_of_getElem? (i := 441) rfl⟩, rfl, by decide +kernel, ⟨by decide +kernel, by decide +kernel⟩, by decide +kernel, by decide⟩
set_option maxRecDepth 100000 in
theorem zr70 : zL70.all (rwOk prog_1_method_18_code) = true := by decide +kernel
set_option maxRecDepth 100000 in
theorem zk70 : MtOk zM70 := ⟨zr70, List.mem_of_getElem? (i := 450) rfl, List.mem_of_getElem? (i := 60) rfl, ⟨List.mem_of_getElem? (i := 448) rfl, List.mem_of_getElem? (i := 449) rfl⟩, rfl, by decide +kernel, ⟨by decide +kernel, by decide +kernel⟩, by decide +kernel, by decide⟩
set_option maxRecDepth 100000 in
theorem zr71 : zL71.all (rwOk prog_1_method_19_code) = true := by decide +kernel
set_option maxRecDepth 100000 in
theorem zk71 : MtOk zM71 := ⟨zr71, List.mem_of_getElem? (i := 462) rfl, List.mem_of_getElem? (i := 60) rfl, ⟨List.mem_of_getElem? (i := 460) rfl, List.mem_of_getElem? (i := 461) rfl⟩, rfl, by decide +kernel, ⟨by decide +kernel, by decide +kernel⟩, by decide +kernel, by decide⟩
set_option maxRecDepth 100000 in
theorem zr72 : zL72.all (rwOk prog_1_method_20_code) = true := by decide +kernel
set_option maxRecDepth 100000 in
theorem zk72 : MtOk zM72 := ⟨zr72, List.mem_of_getElem? (i := 466) rfl, List.mem_of_getElem? (i := 60) rfl, ⟨List.mem_of_getElem? (i := 464) rfl, List.mem_of_getElem? (i := 465) rfl⟩, rfl, by decide +kernel, ⟨by decide +kernel, by decide +kernel⟩, by decide +kernel, by decide⟩
set_option maxRecDepth 100000 in
theorem zr73 : zL73.all (rwOk prog_1_method_21_code) = true := by decide +kernel
set_option maxRecDepth 100000 in
theorem zk73 : MtOk zM73 := ⟨zr73, List.mem_of_getElem? (i := 485) rfl, List.mem_of_getElem? (i := 60) rfl, ⟨List.mem_of_getElem? (i := 483) rfl, List.mem_of_getElem? (i := 484) rfl⟩, rfl, by decide +kernel, ⟨by decide +kernel, by decide +kernel⟩, by decide +kernel, by decide⟩
set_option maxRecDepth 100000 in
theorem zr74 : zL74.all (rwOk prog_1_method_22_code) = true := by decide +kernel
set_option maxRecDepth 100000 in
theorem zk74 : MtOk zM74 := ⟨zr74, List.mem_of_getElem? (i := 489) rfl, List.mem_of_getElem? (i := 60) rfl, ⟨List.mem_of_getElem? (i := 487) rfl, List.mem_of_getElem? (i := 488) rfl⟩, rfl, by decide +kernel, ⟨by decide +kernel, by decide +kernel⟩, by decide +kernel, by decide⟩
set_option maxRecDepth 100000 in
theorem zr75 : zL75.all (rwOk prog_1_method_23_code) = true := by decide +kernel
set_option maxRecDepth 100000 in
theorem zk75 : MtOk zM75 := ⟨zr75, List.mem_of_getElem? (i := 495) rfl, List.mem_of_getElem? (i := 60) rfl, ⟨List.mem_of_getElem? (i := 493) rfl, List.mem_of_getElem? (i := 494) rfl⟩, rfl, by decide +kernel, ⟨by decide +kernel, by decide +kernel⟩, by decide +kernel, by decide⟩
set_option maxRecDepth 100000 in
theorem zr76 : zL76.all (rwOk prog_1_method_24_code) = true := by decide +kernel
set_option maxRecDepth 100000 in
theorem zk76 : MtOk zM76 := ⟨zr76, List.mem_of_getElem? (i := 507) rfl, List.mem_of_getElem? (i := 60) rfl, ⟨List.mem_of_getElem? (i := 505) rfl, List.mem_of_getElem? (i := 506) rfl⟩, rfl, by decide +kernel, ⟨by decide +kernel, by decide +kernel⟩, by decide +kernel, by decide⟩
set_option maxRecDepth 100000 in
theorem zr77 : zL77.all (rwOk prog_1_method_25_code) = true := by decide +kernel
set_option maxRecDepth 100000 in
theorem zk77 : MtOk zM77 := ⟨zr77, List.mem_of_getElem? (i := 511) rfl, List.mem_of_getElem? (i := 60) rfl, ⟨List.mem_of_getElem? (i := 509) rfl, List.mem_of_getElem? (i := 510) rfl⟩, rfl, by decide +kernel, ⟨by decide +kernel, by decide +kernel⟩, by decide +kernel, by decide⟩
set_option maxRecDepth 100000 in
theorem zr78 : zL78.all (rwOk prog_1_method_26_code) = true := by decide +kernel
set_option maxRecDepth 100000 in
theorem zk78 : MtOk zM78 := ⟨zr78, List.mem_of_getElem? (i := 470) rfl, List.mem_of_getElem? (i := 60) rfl, ⟨List.mem_of_getElem? (i := 469) rfl, List.mem_of_getElem? (i := 5) rfl⟩, rfl, by decide +kernel, ⟨by decide +kernel, by decide +kernel⟩, by decide +kernel, by decide⟩
set_option maxRecDepth 100000 in
theorem zr79 : zL79.all (rwOk prog_1_method_27_code) = true := by decide +kernel
set_option maxRecDepth 100000 in
theorem zk79 : MtOk zM79 := ⟨zr79, List.mem_of_getElem? (i := 523) rfl, List.mem_of_getElem? (i := 60) rfl, ⟨List.mem_of_getElem? (i := 521) rfl, List.mem_of_getElem? (i := 522) rfl⟩, rfl, by decide +kernel, ⟨by decide +kernel, by decide +kernel⟩, by decide +kernel, by decide⟩
set_option maxRecDepth 100000 in
theorem zr80 : zL80.all (rwOk prog_1_method_28_code) = true := by decide +kernel
set_option maxRecDepth 100000 in
theorem zk80 : MtOk zM80 := ⟨zr80, List.mem_of_getElem? (i := 528) rfl, List.mem_of_getElem? (i := 60) rfl, ⟨List.mem_of_getElem? (i := 526) rfl, List.mem_of_getElem? (i := 527) rfl⟩, rfl, by decide +kernel, ⟨by decide +kernel, by decide +kernel⟩, by decide +kernel, by decide⟩
set_option maxRecDepth 100000 in
theorem zr81 : zL81.all (rwOk prog_1_method_29_code) = true := by decide +kernel
set_option maxRecDepth 100000 in
theorem zk81 : MtOk zM81 := ⟨zr81, List.mem_of_getElem? (i := 532) rfl, List.mem_of_getElem? (i := 60) rfl, ⟨List.mem_of_getElem? (i := 530) rfl, List.mem_of_getElem? (i := 531) rfl⟩, rfl, by decide +kernel, ⟨by decide +kernel, by decide +kernel⟩, by decide +kernel, by decide⟩
set_option maxRecDepth 100000 in
theorem zr82 : zL82.all (rwOk prog_1_method_30_code) = true := by decide +kernel
set_option maxRecDepth 100000 in
theorem zk82 : MtOk zM82 := ⟨zr82, List.mem_of_getElem? (i := 540) rfl, List.mem_of_getElem? (i := 60) rfl, ⟨List.mem_of_getElem? (i := 538) rfl, List.mem_of_getElem? (i := 539) rfl⟩, rfl, by decide +kernel, ⟨by decide +kernel, by decide +kernel⟩, by decide +kernel, by decide⟩
set_option maxRecDepth 100000 in
theorem zr83 : zL83.all (rwOk prog_1_method_31_code) = true := by decide +kernel
set_option maxRecDepth 100000 in
theorem zk83 : MtOk zM83 := ⟨zr83, List.mem_of_getElem? (i := 544) rfl, List.mem_of_getElem? (i := 60) rfl, ⟨List.mem_of_getElem? (i := 542) rfl, List.mem_of_getElem? (i := 543) rfl⟩, rfl, by decide +kernel, ⟨by decide +kernel, by decide +kernel⟩, by decide +kernel, by decide⟩
set_option maxRecDepth 100000 in
theorem zr84 : zL84.all (rwOk prog_1_method_32_code) = true := by decide +kernel
set_option maxRecDepth 100000 in
theorem zk84 : MtOk zM84 := ⟨zr84, List.mem_of_getElem? (i := 552) rfl, List.mem_of_getElem? (i := 60) rfl, ⟨List.mem_of_getElem? (i := 550) rfl, List.mem_of_getElem? (i := 551) rfl⟩, rfl, by decide +kernel, ⟨by decide +kernel, by decide +kernel⟩, by decide +kernel, by decide⟩
set_option maxRecDepth 100000 in
theorem zr85 : zL85.all (rwOk prog_1_method_33_code) = true := by decide +kernel
set_option maxRecDepth 100000 in
theorem zk85 : MtOk zM85 := ⟨zr85, List.mem_of_getElem? (i := 567) rfl, List.mem_of_getElem? (i := 60) rfl, ⟨List.mem_of_getElem? (i := 565) rfl, List.mem_of_getElem? (i := 566) rfl⟩, rfl, by decide +kernel, ⟨by decide +kernel, by decide +kernel⟩, by decide +kernel, by decide⟩
set_option maxRecDepth 100000 in
theorem zr86 : zL86.all (rwOk prog_1_method_34_code) = true := by decide +kernel
set_option maxRecDepth 100000 in
theorem zk86 : MtOk zM86 := ⟨zr86, List.mem_of_getElem? (i := 572) rfl, List.mem_of_getElem? (i := 60) rfl, ⟨List.mem_of_getElem? (i := 570) rfl, List.mem_of_getElem? (i := 571) rfl⟩, rfl, by decide +kernel, ⟨by decide +kernel, by decide +kernel⟩, by decide +kernel, by decide⟩
set_option maxRecDepth 100000 in
theorem zr87 : zL87.all (rwOk prog_1_method_35_code) = true := by decide +kernel
set_option maxRecDepth 100000 in
theorem zk87 : MtOk zM87 := ⟨zr87, List.mem_of_getElem? (i := 589) rfl, List.mem_of_getElem? (i := 60) rfl, ⟨List.mem_of_getElem? (i := 587) rfl, List.mem_of_getElem? (i := 588) rfl⟩, rfl, by decide +kernel, ⟨by decide +kernel, by decide +kernel⟩, by decide +kernel, by decide⟩
set_option maxRecDepth 100000 in
theorem zr88 : zL88.all (rwOk prog_1_method_36_code) = true := by decide +kernel
set_option maxRecDepth 100000 in
theorem zk88 : MtOk zM88 := ⟨zr88, List.mem_of_getElem? (i := 594) rfl, List.mem_of_getElem? (i := 60) rfl, ⟨List.mem_of_getElem? (i := 592) rfl, List.mem_of_getElem? (i := 593) rfl⟩, rfl, by decide +kernel, ⟨by decide +kernel, by decide +kernel⟩, by decide +kernel, by decide⟩
set_option maxRecDepth 100000 in
theorem zr89 : zL89.all (rwOk prog_1_method_37_code) = true := by decide +kernel
set_option maxRecDepth 100000 in
theorem zk89 : MtOk zM89 := ⟨zr89, List.mem_of_getElem? (i := 598) rfl, List.mem_of_getElem? (i := 60) rfl, ⟨List.mem_of_getElem? (i := 596) rfl, List.mem_of_getElem? (i := 597) rfl⟩, rfl, by decide +kernel, ⟨by decide +kernel, by decide +kernel⟩, by decide +kernel, by decide⟩
set_option maxRecDepth 100000 in
theorem zr90 : zL90.all (rwOk prog_1_method_38_code) = true := by decide +kernel
set_option maxRecDepth 100000 in
theorem zk90 : MtOk zM90 := ⟨zr90, List.mem_of_getElem? (i := 607) rfl, List.mem_of_getElem? (i := 60) rfl, ⟨List.mem_of_getElem? (i := 605) rfl, List.mem_of_getElem? (i := 606) rfl⟩, rfl, by decide +kernel, ⟨by decide +kernel, by decide +kernel⟩, by decide +kernel, by decide⟩
set_option maxRecDepth 100000 in
theorem zr91 : zL91.all (rwOk prog_1_method_39_code) = true := by decide +kernel
set_option maxRecDepth 100000 in
theorem zk91 : MtOk zM91 := ⟨zr91, List.mem_of_getElem? (i := 611) rfl, List.mem_of_getElem? (i := 60) rfl, List.mem_of_getElem? (i := 610) rfl, rfl, by decide +kernel, ⟨by decide +kernel, by decide +kernel⟩, by decide +kernel, by decide⟩
set_option maxRecDepth 100000 in
theorem zr92 : zL92.all (rwOk prog_1_method_40_code) = true := by decide +kernel
set_option maxRecDepth 100000 in
theorem zk92 : MtOk zM92 := ⟨zr92, List.mem_of_getElem? (i := 615) rfl, List.mem_of_getElem? (i := 60) rfl, ⟨List.mem_of_getElem? (i := 613) rfl, List.mem_of_getElem? (i := 614) rfl⟩, rfl, by decide +kernel, ⟨by decide +kernel, by decide +kernel⟩, by decide +kernel, by decide⟩
set_option maxRecDepth 100000 in
theorem zr93 : zL93.all (rwOk prog_1_method_41_code) = true := by decide +kernel
set_option maxRecDepth 100000 in
theorem zk93 : MtOk zM93 := ⟨zr93, List.mem_of_getElem? (i := 623) rfl, List.mem_of_getElem? (i := 60) rfl, ⟨List.mem_of_getElem? (i := 621) rfl, List.mem_of_getElem? (i := 622) rfl⟩, rfl, by decide +kernel, ⟨by decide +kernel, by decide +kernel⟩, by decide +kernel, by decide⟩
set_option maxRecDepth 100000 in
theorem zr94 : zL94.all (rwOk prog_1_method_42_code) = true := by decide +kernel
set_option maxRecDepth 100000 in
theorem zk94 : MtOk zM94 := ⟨zr94, List.mem_of_getElem? (i := 627) rfl, List.mem_of_getElem? (i := 60) rfl, ⟨List.mem_of_getElem? (i := 625) rfl, List.mem_of_getElem? (i := 626) rfl⟩, rfl, by decide +kernel, ⟨by decide +kernel, by decide +kernel⟩, by decide +kernel, by decide⟩
set_option maxRecDepth 100000 in
theorem zr95 : zL95.all (rwOk prog_1_method_43_code) = true := by decide +kernel
set_option maxRecDepth 100000 in
theorem zk95 : MtOk zM95 := ⟨zr95, List.mem_of_getElem? (i := 776) rfl, List.mem_of_getElem? (i := 60) rfl, ⟨List.mem_of_getElem? (i := 774) rfl, List.mem_of_getElem? (i := 775) rfl⟩, rfl, by decide +kernel, ⟨by decide +kernel, by decide +kernel⟩, by decide +kernel, by decide⟩
set_option maxRecDepth 100000 in
theorem zr96 : zL96.all (rwOk prog_1_method_44_code) = true := by decide +kernel
set_option maxRecDepth 100000 in
theorem zk96 : MtOk zM96 := ⟨zr96, List.mem_of_getElem? (i := 793) rfl, List.mem_of_getElem? (i := 60) rfl, ⟨List.mem_of_getElem? (i := 791) rfl, List.mem_of_getElem? (i := 792) rfl⟩, rfl, by decide +kernel, ⟨by decide +kernel, by decide +kernel⟩, by decide +kernel, by decide⟩
set_option maxRecDepth 100000 in
theorem zr97 : zL97.all (rwOk prog_1_method_45_code) = true := by decide +kernel
set_option maxRecDepth 100000 in
theorem zk97 : MtOk zM97 := ⟨zr97, List.mem_of_getElem? (i := 806) rfl, List.mem_of_getElem? (i := 60) rfl, ⟨List.mem_of_getElem? (i := 804) rfl, List.mem_of_getElem? (i := 805) rfl⟩, rfl, by decide +kernel, ⟨by decide +kernel, by decide +kernel⟩, by decide +kernel, by decide⟩
set_option maxRecDepth 100000 in
theorem zr98 : zL98.all (rwOk prog_1_method_46_code) = true := by decide +kernel
set_option maxRecDepth 100000 in
theorem zk98 : MtOk zM98 := ⟨zr98, List.mem_of_getElem? (i := 815) rfl, List.mem_of_getElem? (i := 60) rfl, ⟨List.mem_of_getElem? (i := 813) rfl, List.mem_of_getElem? (i := 814) rfl⟩, rfl, by decide +kernel, ⟨by decide +kernel, by decide +kernel⟩, by decide +kernel, by decide⟩
set_option maxRecDepth 100000 in
theorem zr99 : zL99.all (rwOk prog_1_method_47_code) = true := by decide +kernel
set_option maxRecDepth 100000 in
theorem zk99 : MtOk zM99 := ⟨zr99, List.mem_of_getElem? (i := 820) rfl, List.mem_of_getElem? (i := 60) rfl, ⟨List.mem_of_getElem? (i := 818) rfl, List.mem_of_getElem? (i := 819) rfl⟩, rfl, by decide +kernel, ⟨by decide +kernel, by decide +kernel⟩, by decide +kernel, by decide⟩
set_option maxRecDepth 100000 in
theorem zr100 : zL100.all (rwOk prog_1_method_48_code) = true := by decide +kernel
set_option maxRecDepth 100000 in
theorem zk100 : MtOk zM100 := ⟨zr100, List.mem_of_getElem? (i := 828) rfl, List.mem_of_getElem? (i := 60) rfl, ⟨List.mem_of_getElem? (i := 826) rfl, List.mem_of_getElem? (i := 827) rfl⟩, rfl, by decide +kernel, ⟨by decide +kernel, by decide +kernel⟩, by decide +kernel, by decide⟩
set_option maxRecDepth 100000 in
theorem zr101 : zL101.all (rwOk prog_1_method_49_code) = true := by decide +kernel
set_option maxRecDepth 100000 in
theorem zk101 : MtOk zM101 := ⟨zr101, List.mem_of_getElem? (i := 824) rfl, List.mem_of_getElem? (i := 60) rfl, ⟨List.mem_of_getElem? (i := 823) rfl, List.mem_of_getElem? (i := 21) rfl⟩, rfl, by decide +kernel, ⟨by decide +kernel, by decide +kernel⟩, by decide +kernel, by decide⟩
set_option maxRecDepth 100000 in
theorem zr102 : zL102.all (rwOk prog_1_method_50_code) = true := by decide +kernel
set_option maxRecDepth 100000 in
theorem zk102 : MtOk zM102 := ⟨zr102, List.mem_of_getElem? (i := 832) rfl, List.mem_of_getElem? (i := 60) rfl, ⟨List.mem_of_getElem? (i := 830) rfl, List.mem_of_getElem? (i := 831) rfl⟩, rfl, by decide +kernel, ⟨by decide +kernel, by decide +kernel⟩, by decide +kernel, by decide⟩
set_option maxRecDepth 100000 in
theorem zr103 : zL103.all (rwOk prog_1_method_51_code) = true := by decide +kernel
set_option maxRecDepth 100000 in
theorem zk103 : MtOk zM103 := ⟨zr103, List.mem_of_getElem? (i := 836) rfl, List.mem_of_getElem? (i := 60) rfl, ⟨List.mem_of_getElem? (i := 834) rfl, List.mem_of_getElem? (i := 835) rfl⟩, rfl, by decide +kernel, ⟨by decide +kernel, by decide +kernel⟩, by decide +kernel, by decide⟩
set_option maxRecDepth 100000 in
theorem zr104 : zL104.all (rwOk prog_1_method_52_code) = true := by decide +kernel
set_option maxRecDepth 100000 in
theorem zk104 : MtOk zM104 := ⟨zr104, List.mem_of_getElem? (i := 840) rfl, List.mem_of_getElem? (i := 60) rfl, ⟨List.mem_of_getElem? (i := 838) rfl, List.mem_of_getElem? (i := 839) rfl⟩, rfl, by decide +kernel, ⟨by decide +kernel, by decide +kernel⟩, by decide +kernel, by decide⟩
set_option maxRecDepth 100000 in
theorem zr105 : zL105.all (rwOk prog_1_method_53_code) = true := by decide +kernel
set_option maxRecDepth 100000 in
theorem zk105 : MtOk zM105 := ⟨zr105, List.mem_of_getElem? (i := 844) rfl, List.mem_of_getElem? (i := 60) rfl, ⟨List.mem_of_getElem? (i := 842) rfl, List.mem_of_getElem? (i := 843) rfl⟩, rfl, by decide +kernel, ⟨by decide +kernel, by decide +kernel⟩, by decide +kernel, by decide⟩
set_option maxRecDepth 100000 in
theorem zr106 : zL106.all (rwOk prog_1_method_54_code) = true := by decide +kernel
set_option maxRecDepth 100000 in
theorem zk106 : MtOk zM106 := ⟨zr106, List.mem_of_getElem? (i := 852) rfl, List.mem_of_getElem? (i := 60) rfl, ⟨List.mem_of_getElem? (i := 850) rfl, List.mem_of_getElem? (i := 851) rfl⟩, rfl, by decide +kernel, ⟨by decide +kernel, by decide +kernel⟩, by decide +kernel, by decide⟩
set_option maxRecDepth 100000 in
theorem zr107 : zL107.all (rwOk prog_1_method_55_code) = true := by decide +kernel
set_option maxRecDepth 100000 in
theorem zk107 : MtOk zM107 := ⟨zr107, List.mem_of_getElem? (i := 288) rfl, List.mem_of_getElem? (i := 60) rfl, ⟨List.mem_of_getElem? (i := 287) rfl, List.mem_of_getElem? (i := 0) rfl⟩, rfl, by decide +kernel, ⟨by decide +kernel, by decide +kernel⟩, by decide +kernel, by decide⟩
set_option maxRecDepth 100000 in
theorem zr108 : zL108.all (rwOk prog_1_method_56_code) = true := by decide +kernel
set_option maxRecDepth 100000 in
theorem zk108 : MtOk zM108 := ⟨zr108, List.mem_of_getElem? (i := 363) rfl, List.mem_of_getElem? (i := 60) rfl, ⟨List.mem_of_getElem? (i := 362) rfl, List.mem_of_getElem? (i := 1) rfl⟩, rfl, by decide +kernel, ⟨by decide +kernel, by decide +kernel⟩, by decide +kernel, by decide⟩
set_option maxRecDepth 100000 in
theorem zr109 : zL109.all (rwOk prog_1_method_57_code) = true := by decide +kernel
set_option maxRecDepth 100000 in
theorem zk109 : MtOk zM109 := ⟨zr109, List.mem_of_getElem? (i := 515) rfl, List.mem_of_getElem? (i := 60) rfl, ⟨List.mem_of_getElem? (i := 514) rfl, List.mem_of_getElem? (i := 7) rfl⟩, rfl, by decide +kernel, ⟨by decide +kernel, by decide +kernel⟩, by decide +kernel, by decide⟩
set_option maxRecDepth 100000 in
theorem zr110 : zL110.all (rwOk prog_1_method_58_code) = true := by decide +kernel
set_option maxRecDepth 100000 in
theorem zk110 : MtOk zM110 := ⟨zr110, List.mem_of_getElem? (i := 410) rfl, List.mem_of_getElem? (i := 60) rfl, ⟨List.mem_of_getElem? (i := 409) rfl, List.mem_of_getElem? (i := 2) rfl⟩, rfl, by decide +kernel, ⟨by decide +kernel, by decide +kernel⟩, by decide +kernel, by decide⟩
set_option maxRecDepth 100000 in
theorem zr111 : zL111.all (rwOk prog_1_method_59_code) = true := by decide +kernel
set_option maxRecDepth 100000 in
theorem zk111 : MtOk zM111 := ⟨zr111, List.mem_of_getElem? (i := 277) rfl, List.mem_of_getElem? (i := 60) rfl, List.mem_of_getElem? (i := 276) rfl, rfl, by decide +kernel, ⟨by decide +kernel, by decide +kernel⟩, by decide +kernel, by decide⟩
set_option maxRecDepth 100000 in
theorem zr112 : zL112.all (rwOk prog_1_method_60_code) = true := by decide +kernel
set_option maxRecDepth 100000 in
theorem zk112 : MtOk zM112 := ⟨zr112, List.mem_of_getElem? (i := 283) rfl, List.mem_of_getElem? (i := 60) rfl, List.mem_of_getElem? (i := 282) rfl, rfl, by decide +kernel, ⟨by decide +kernel, by decide +kernel⟩, by decide +kernel, by decide⟩
set_option maxRecDepth 100000 in
theorem zr113 : zL113.all (rwOk prog_1_method_61_code) = true := by decide +kernel
set_option maxRecDepth 100000 in
theorem zk113 : MtOk zM113 := ⟨zr113, List.mem_of_getElem? (i := 341) rfl, List.mem_of_getElem? (i := 60) rfl, List.mem_of_getElem? (i := 340) rfl, rfl, by decide +kernel, ⟨by decide +kernel, by decide +kernel⟩, by decide +kernel, by decide⟩
set_option maxRecDepth 100000 in
theorem zr114 : zL114.all (rwOk prog_1_method_62_code) = true := by decide +kernel
set_option maxRecDepth 100000 in
theorem zk114 : MtOk zM114 := ⟨zr114, List.mem_of_getElem? (i := 338) rfl, List.mem_of_getElem? (i := 60) rfl, List.mem_of_getElem? (i := 337) rfl, rfl, by decide +kernel, ⟨by decide +kernel, by decide +kernel⟩, by decide +kernel, by decide⟩
set_option maxRecDepth 100000 in
theorem zr115 : zL115.all (rwOk prog_1_method_63_code) = true := by decide +kernel
set_option maxRecDepth 100000 in
theorem zk115 : MtOk zM115 := ⟨zr115, List.mem_of_getElem? (i := 779) rfl, List.mem_of_getElem? (i := 60) rfl, List.mem_of_getElem? (i := 778) rfl, rfl, by decide +kernel, ⟨by decide +kernel, by decide +kernel⟩, by decide +kernel, by decide⟩
set_option maxRecDepth 100000 in
theorem zr116 : zL116.all (rwOk prog_1_method_64_code) = true := by decide +kernel
set_option maxRecDepth 100000 in
theorem zk116 : MtOk zM116 := ⟨zr116, List.mem_of_getElem? (i := 782) rfl, List.mem_of_getElem? (i := 60) rfl, List.mem_of_getElem? (i := 781) rfl, rfl, by decide +kernel, ⟨by decide +kernel, by decide +kernel⟩, by decide +kernel, by decide⟩
set_option maxRecDepth 100000 in
theorem zr117 : zL117.all (rwOk prog_1_method_65_code) = true := by decide +kernel
set_option maxRecDepth 100000 in
theorem zk117 : MtOk zM117 := ⟨zr117, List.mem_of_getElem? (i := 280) rfl, List.mem_of_getElem? (i := 60) rfl, List.mem_of_getElem? (i := 279) rfl, rfl, by decide +kernel, ⟨by decide +kernel, by decide +kernel⟩, by decide +kernel, by decide⟩
set_option maxRecDepth 100000 in
theorem zr118 : zL118.all (rwOk prog_10_method_2_code) = true := by decide +kernel
set_option maxRecDepth 100000 in
theorem zk118 : MtOk zM118 := ⟨zr118, List.mem_of_getElem? (i := 952) rfl, List.mem_of_getElem? (i := 67) rfl, ⟨List.mem_of_getElem? (i := 951) rfl, List.mem_of_getElem? (i := 23) rfl⟩, rfl, by decide +kernel, ⟨by decide +kernel, by decide +kernel⟩, by decide +kernel, by decide⟩
set_option maxRecDepth 100000 in
theorem zr119 : zL119.all (rwOk prog_10_method_3_code) = true := by decide +kernel
set_option maxRecDepth 100000 in
theorem zk119 : MtOk zM119 := ⟨zr119, List.mem_of_getElem? (i := 943) rfl, List.mem_of_getElem? (i := 67) rfl, List.mem_of_getElem? (i := 942) rfl, rfl, by decide +kernel, ⟨by decide +kernel, by decide +kernel⟩, by decide +kernel, by decide⟩
set_option maxRecDepth 100000 in
theorem zr120 : zL120.all (rwOk prog_10_method_4_code) = true := by decide +kernel
set_option maxRecDepth 100000 in
theorem zk120 : MtOk zM120 := ⟨zr120, List.mem_of_getElem? (i := 947) rfl, List.mem_of_getElem? (i := 67) rfl, ⟨List.mem_of_getElem? (i := 946) rfl, List.mem_of_getElem? (i := 22) rfl⟩, rfl, by decide +kernel, ⟨by decide +kernel, by decide +kernel⟩, by decide +kernel, by decide⟩
set_option maxRecDepth 100000 in
theorem zr121 : zL121.all (rwOk prog_10_method_5_code) = true := by decide +kernel
set_option maxRecDepth 100000 in
theorem zk121 : MtOk zM121 := ⟨zr121, List.mem_of_getElem? (i := 1098) rfl, List.mem_of_getElem? (i := 67) rfl, List.mem_of_getElem? (i := 1097) rfl, rfl, by decide +kernel, ⟨by decide +kernel, by decide +kernel⟩, by decide +kernel, by decide⟩
set_option maxRecDepth 100000 in
theorem zr122 : zL122.all (rwOk prog_10_method_6_code) = true := by decide +kernel
set_option maxRecDepth 100000 in
theorem zk122 : MtOk zM122 := ⟨zr122, List.mem_of_getElem? (i := 1102) rfl, List.mem_of_getElem? (i := 67) rfl, ⟨List.mem_of_getElem? (i := 1101) rfl, List.mem_of_getElem? (i := 39) rfl⟩, rfl, by decide +kernel, ⟨by decide +kernel, by decide +kernel⟩, by decide +kernel, by decide⟩
set_option maxRecDepth 100000 in
theorem zr123 : zL123.all (rwOk prog_10_method_7_code) = true := by decide +kernel
set_option maxRecDepth 100000 in
theorem zk123 : MtOk zM123 := ⟨zr123, List.mem_of_getElem? (i := 940) rfl, List.mem_of_getElem? (i := 67) rfl, List.mem_of_getElem? (i := 939) rfl, rfl, by decide +kernel, ⟨by decide +kernel, by decide +kernel⟩, by decide +kernel, by decide⟩
set_option maxRecDepth 100000 in
theorem zr124 : zL124.all (rwOk prog_10_method_8_code) = true := by decide +kernel
set_option maxRecDepth 100000 in
theorem zk124 : MtOk zM124 := ⟨zr124, List.mem_of_getElem? (i := 937) rfl, List.mem_of_getElem? (i := 67) rfl, ⟨List.mem_of_getElem? (i := 935) rfl, List.mem_of_getElem? (i := 936) rfl⟩, rfl, by decide +kernel, ⟨by decide +kernel, by decide +kernel⟩, by decide +kernel, by decide⟩
set_option maxRecDepth 100000 in
theorem zr125 : zL125.all (rwOk prog_10_method_9_code) = true := by decide +kernel
set_option maxRecDepth 100000 in
theorem zk125 : MtOk zM125 := ⟨zr125, List.mem_of_getElem? (i := 956) rfl, List.mem_of_getElem? (i := 67) rfl, ⟨List.mem_of_getElem? (i := 954) rfl, List.mem_of_getElem? (i := 955) rfl⟩, rfl, by decide +kernel, ⟨by decide +kernel, by decide +kernel⟩, by decide +kernel, by decide⟩
set_option maxRecDepth 100000 in
theorem zr126 : zL126.all (rwOk prog_10_method_10_code) = true := by decide +kernel
set_option maxRecDepth 100000 in
theorem zk126 : MtOk zM126 := ⟨zr126, List.mem_of_getElem? (i := 964) rfl, List.mem_of_getElem? (i := 67) rfl, ⟨List.mem_of_getElem? (i := 963) rfl, List.mem_of_getElem? (i := 24) rfl⟩, rfl, by decide +kernel, ⟨by decide +kernel, by decide +kernel⟩, by decide +kernel, by decide⟩
set_option maxRecDepth 100000 in
theorem zr127 : zL127.all (rwOk prog_10_method_11_code) = true := by decide +kernel
set_option maxRecDepth 100000 in
theorem zk127 : MtOk zM127 := ⟨zr127, List.mem_of_getElem? (i := 960) rfl, List.mem_of_getElem? (i := 67) rfl, ⟨List.mem_of_getElem? (i := 958) rfl, List.mem_of_getElem? (i := 959) rfl⟩, rfl, by decide +kernel, ⟨by decide +kernel, by decide +kernel⟩, by decide +kernel, by decide⟩
set_option maxRecDepth 100000 in
theorem zr128 : zL128.all (rwOk prog_10_method_12_code) = true := by decide +kernel
set_option maxRecDepth 100000 in
theorem zk128 : MtOk zM128 := ⟨zr128, List.mem_of_getElem? (i := 972) rfl, List.mem_of_getElem? (i := 67) rfl, ⟨List.mem_of_getElem? (i := 971) rfl, List.mem_of_getElem? (i := 25) rfl⟩, rfl, by decide +kernel, ⟨by decide +kernel, by decide +kernel⟩, by decide +kernel, by decide⟩
set_option maxRecDepth 100000 in
theorem zr129 : zL129.all (rwOk prog_10_method_13_code) = true := by decide +kernel
set_option maxRecDepth 100000 in
theorem zk129 : MtOk zM129 := ⟨zr129, List.mem_of_getElem? (i := 968) rfl, List.mem_of_getElem? (i := 67) rfl, ⟨List.mem_of_getElem? (i := 966) rfl, List.mem_of_getElem? (i := 967) rfl⟩, rfl, by decide +kernel, ⟨by decide +kernel, by decide +kernel⟩, by decide +kernel, by decide⟩
set_option maxRecDepth 100000 in
theorem zr130 : zL130.all (rwOk prog_10_method_14_code) = true := by decide +kernel
set_option maxRecDepth 100000 in
theorem zk130 : MtOk zM130 := ⟨zr130, List.mem_of_getElem? (i := 976) rfl, List.mem_of_getElem? (i := 67) rfl, ⟨List.mem_of_getElem? (i := 974) rfl, List.mem_of_getElem? (i := 975) rfl⟩, rfl, by decide +kernel, ⟨by decide +kernel, by decide +kernel⟩, by decide +kernel, by decide⟩
set_option maxRecDepth 100000 in
theorem zr131 : zL131.all (rwOk prog_10_method_15_code) = true := by decide +kernel
set_option maxRecDepth 100000 in
theorem zk131 : MtOk zM131 := ⟨zr131, List.mem_of_getElem? (i := 1002) rfl, List.mem_of_getElem? (i := 67) rfl, ⟨List.mem_of_getElem? (i := 1001) rfl, List.mem_of_getElem? (i := 27) rfl⟩, rfl, by decide +kernel, ⟨by decide +kernel, by decide +kernel⟩, by decide +kernel, by decide⟩
set_option maxRecDepth 100000 in
theorem zr132 : zL132.all (rwOk prog_10_method_16_code) = true := by decide +kernel
set_option maxRecDepth 100000 in
theorem zk132 : MtOk zM132 := ⟨zr132, List.mem_of_getElem? (i := 994) rfl, List.mem_of_getElem? (i := 67) rfl, List.mem_of_getElem? (i := 993) rfl, rfl, by decide +kernel, ⟨by decide +kernel, by decide +kernel⟩, by decide +kernel, by decide⟩
set_option maxRecDepth 100000 in
theorem zr133 : zL133.all (rwOk prog_10_method_17_code) = true := by decide +kernel
set_option maxRecDepth 100000 in
theorem zk133 : MtOk zM133 := ⟨zr133, List.mem_of_getElem? (i := 1006) rfl, List.mem_of_getElem? (i := 67) rfl, ⟨List.mem_of_getElem? (i := 1005) rfl, List.mem_of_getElem? (i := 28) rfl⟩, rfl, by decide +kernel, ⟨by decide +kernel, by decide +kernel⟩, by decide +kernel, by decide⟩
set_option maxRecDepth 100000 in
theorem zr134 : zL134.all (rwOk prog_10_method_18_code) = true := by decide +kernel
set_option maxRecDepth 100000 in
theorem zk134 : MtOk zM134 := ⟨zr134, List.mem_of_getElem? (i := 983) rfl, List.mem_of_getElem? (i := 67) rfl, List.mem_of_getElem? (i := 982) rfl, rfl, by decide +kernel, ⟨by decide +kernel, by decide +kernel⟩, by decide +kernel, by decide⟩
set_option maxRecDepth 100000 in
theorem zr135 : zL135.all (rwOk prog_10_method_19_code) = true := by decide +kernel
set_option maxRecDepth 100000 in
theorem zk135 : MtOk zM135 := ⟨zr135, List.mem_of_getElem? (i := 986) rfl, List.mem_of_getElem? (i := 67) rfl, List.mem_of_getElem? (i := 985) rfl, rfl, by decide +kernel, ⟨by decide +kernel, by decide +kernel⟩, by decide +kernel, by decide⟩
set_option maxRecDepth 100000 in
theorem zr136 : zL136.all (rwOk prog_10_method_20_code) = true := by decide +kernel
set_option maxRecDepth 100000 in
theorem zk136 : MtOk zM136 := ⟨zr136, List.mem_of_getElem? (i := 991) rfl, List.mem_of_getElem? (i := 67) rfl, ⟨List.mem_of_getElem? (i := 990) rfl, List.mem_of_getElem? (i := 26) rfl⟩, rfl, by decide +kernel, ⟨by decide +kernel, by decide +kernel⟩, by decide +kernel, by decide⟩
set_option maxRecDepth 100000 in
theorem zr137 : zL137.all (rwOk prog_10_method_21_code) = true := by decide +kernel
set_option maxRecDepth 100000 in
theorem zk137 : MtOk zM137 := ⟨zr137, List.mem_of_getElem? (i := 980) rfl, List.mem_of_getElem? (i := 67) rfl, ⟨List.mem_of_getElem? (i := 978) rfl, List.mem_of_getElem? (i := 979) rfl⟩, rfl, by decide +kernel, ⟨by decide +kernel, by decide +kernel⟩, by decide +kernel, by decide⟩
set_option maxRecDepth 100000 in
theorem zr138 : zL138.all (rwOk prog_10_method_22_code) = true := by decide +kernel
set_option maxRecDepth 100000 in
theorem zk138 : MtOk zM138 := ⟨zr138, List.mem_of_getElem? (i := 1013) rfl, List.mem_of_getElem? (i := 67) rfl, List.mem_of_getElem? (i := 1012) rfl, rfl, by decide +kernel, ⟨by decide +kernel, by decide +kernel⟩, by decide +kernel, by decide⟩
set_option maxRecDepth 100000 in
theorem zr139 : zL139.all (rwOk prog_10_method_23_code) = true := by decide +kernel
set_option maxRecDepth 100000 in
theorem zk139 : MtOk zM139 := ⟨zr139, List.mem_of_getElem? (i := 1018) rfl, List.mem_of_getElem? (i := 67) rfl, ⟨List.mem_of_getElem? (i := 1017) rfl, List.mem_of_getElem? (i := 30) rfl⟩, rfl, by decide +kernel, ⟨by decide +kernel, by decide +kernel⟩, by decide +kernel, by decide⟩
set_option maxRecDepth 100000 in
theorem zr140 : zL140.all (rwOk prog_10_method_24_code) = true := by decide +kernel
set_option maxRecDepth 100000 in
theorem zk140 : MtOk zM140 := ⟨zr140, List.mem_of_getElem? (i := 1010) rfl, List.mem_of_getElem? (i := 67) rfl, ⟨List.mem_of_getElem? (i := 1009) rfl, List.mem_of_getElem? (i := 29) rfl⟩, rfl, by decide +kernel, ⟨by decide +kernel, by decide +kernel⟩, by decide +kernel, by decide⟩
set_option maxRecDepth 100000 in
theorem zr141 : zL141.all (rwOk prog_10_method_25_code) = true := by decide +kernel
set_option maxRecDepth 100000 in
theorem zk141 : MtOk zM141 := ⟨zr141, List.mem_of_getElem? (i := 998) rfl, List.mem_of_getElem? (i := 67) rfl, ⟨List.mem_of_getElem? (i := 996) rfl, List.mem_of_getElem? (i := 997) rfl⟩, rfl, by decide +kernel, ⟨by decide +kernel, by decide +kernel⟩, by decide +kernel, by decide⟩
set_option maxRecDepth 100000 in
theorem zr142 : zL142.all (rwOk prog_10_method_26_code) = true := by decide +kernel
set_option maxRecDepth 100000 in
theorem zk142 : MtOk zM142 := ⟨zr142, List.mem_of_getElem? (i := 1022) rfl, List.mem_of_getElem? (i := 67) rfl, ⟨List.mem_of_getElem? (i := 1020) rfl, List.mem_of_getElem? (i := 1021) rfl⟩, rfl, by decide +kernel, ⟨by decide +kernel, by decide +kernel⟩, by decide +kernel, by decide⟩
set_option maxRecDepth 100000 in
theorem zr143 : zL143.all (rwOk prog_10_method_27_code) = true := by decide +kernel
set_option maxRecDepth 100000 in
theorem zk143 : MtOk zM143 := ⟨zr143, List.mem_of_getElem? (i := 1026) rfl, List.mem_of_getElem? (i := 67) rfl, ⟨List.mem_of_getElem? (i := 1024) rfl, List.mem_of_getElem? (i := 1025) rfl⟩, rfl, by decide +kernel, ⟨by decide +kernel, by decide +kernel⟩, by decide +kernel, by decide⟩
set_option maxRecDepth 100000 in
theorem zr144 : zL144.all (rwOk prog_10_method_28_code) = true := by decide +kernel
set_option maxRecDepth 100000 in
theorem zk144 : MtOk zM144 := ⟨zr144, List.mem_of_getElem? (i := 1033) rfl, List.mem_of_getElem? (i := 67) rfl, List.mem_of_getElem? (i := 1032) rfl, rfl, by decide +kernel, ⟨by decide +kernel, by decide +kernel⟩, by decide +kernel, by decide⟩
set_option maxRecDepth 100000 in
theorem zr145 : zL145.all (rwOk prog_10_method_29_code) = true := by decide +kernel
set_option maxRecDepth 100000 in
theorem zk145 : MtOk zM145 := ⟨zr145, List.mem_of_getElem? (i := 1030) rfl, List.mem_of_getElem? (i := 67) rfl, ⟨List.mem_of_getElem? (i := 1028) rfl, List.mem_of_getElem? (i := 1029) rfl⟩, rfl, by decide +kernel, ⟨by decide +kernel, by decide +kernel⟩, by decide +kernel, by decide⟩
set_option maxRecDepth 100000 in
theorem zr146 : zL146.all (rwOk prog_10_method_30_code) = true := by decide +kernel
set_option maxRecDepth 100000 in
theorem zk146 : MtOk zM146 := ⟨zr146, List.mem_of_getElem? (i := 1038) rfl, List.mem_of_getElem? (i := 67) rfl, ⟨List.mem_of_getElem? (i := 1036) rfl, List.mem_of_getElem? (i := 1037) rfl⟩, rfl, by decide +kernel, ⟨by decide +kernel, by decide +kernel⟩, by decide +kernel, by decide⟩
set_option maxRecDepth 100000 in
theorem zr147 : zL147.all (rwOk prog_10_method_31_code) = true := by decide +kernel
set_option maxRecDepth 100000 in
theorem zk147 : MtOk zM147 := ⟨zr147, List.mem_of_getElem? (i := 1042) rfl, List.mem_of_getElem? (i := 67) rfl, ⟨List.mem_of_getElem? (i := 1040) rfl, List.mem_of_getElem? (i := 1041) rfl⟩, rfl, by decide +kernel, ⟨by decide +kernel, by decide +kernel⟩, by decide +kernel, by decide⟩
set_option maxRecDepth 100000 in
theorem zr148 : zL148.all (rwOk prog_10_method_32_code) = true := by decide +kernel
set_option maxRecDepth 100000 in
theorem zk148 : MtOk zM148 := ⟨zr148, List.mem_of_getElem? (i := 1067) rfl, List.mem_of_getElem? (i := 67) rfl, ⟨List.mem_of_getElem? (i := 1066) rfl, List.mem_of_getElem? (i := 35) rfl⟩, rfl, by decide +kernel, ⟨by decide +kernel, by decide +kernel⟩, by decide +kernel, by decide⟩
set_option maxRecDepth 100000 in
theorem zr149 : zL149.all (rwOk prog_10_method_33_code) = true := by decide +kernel
set_option maxRecDepth 100000 in
theorem zk149 : MtOk zM149 := ⟨zr149, List.mem_of_getElem? (i := 1071) rfl, List.mem_of_getElem? (i := 67) rfl, ⟨List.mem_of_getElem? (i := 1070) rfl, List.mem_of_getElem? (i := 36) rfl⟩, rfl, by decide +kernel, ⟨by decide +kernel, by decide +kernel⟩, by decide +kernel, by decide⟩
set_option maxRecDepth 100000 in
theorem zr150 : zL150.all (rwOk prog_10_method_34_code) = true := by decide +kernel
set_option maxRecDepth 100000 in
theorem zk150 : MtOk zM150 := ⟨zr150, List.mem_of_getElem? (i := 1063) rfl, List.mem_of_getElem? (i := 67) rfl, ⟨List.mem_of_getElem? (i := 1062) rfl, List.mem_of_getElem? (i := 34) rfl⟩, rfl, by decide +kernel, ⟨by decide +kernel, by decide +kernel⟩, by decide +kernel, by decide⟩
set_option maxRecDepth 100000 in
theorem zr151 : zL151.all (rwOk prog_10_method_35_code) = true := by decide +kernel
set_option maxRecDepth 100000 in
theorem zk151 : MtOk zM151 := ⟨zr151, List.mem_of_getElem? (i := 1059) rfl, List.mem_of_getElem? (i := 67) rfl, ⟨List.mem_of_getElem? (i := 1058) rfl, List.mem_of_getElem? (i := 33) rfl⟩, rfl, by decide +kernel, ⟨by decide +kernel, by decide +kernel⟩, by decide +kernel, by decide⟩
set_option maxRecDepth 100000 in
theorem zr152 : zL152.all (rwOk prog_10_method_36_code) = true := by decide +kernel
set_option maxRecDepth 100000 in
theorem zk152 : MtOk zM152 := ⟨zr152, List.mem_of_getElem? (i := 1055) rfl, List.mem_of_getElem? (i := 67) rfl, ⟨List.mem_of_getElem? (i := 1054) rfl, List.mem_of_getElem? (i := 32) rfl⟩, rfl, by decide +kernel, ⟨by decide +kernel, by decide +kernel⟩, by decide +kernel, by decide⟩
set_option maxRecDepth 100000 in
theorem zr153 : zL153.all (rwOk prog_10_method_37_code) = true := by decide +kernel
set_option maxRecDepth 100000 in
theorem zk153 : MtOk zM153 := ⟨zr153, List.mem_of_getElem? (i := 1050) rfl, List.mem_of_getElem? (i := 67) rfl, ⟨List.mem_of_getElem? (i := 1049) rfl, List.mem_of_getElem? (i := 31) rfl⟩, rfl, by decide +kernel, ⟨by decide +kernel, by decide +kernel⟩, by decide +kernel, by decide⟩
set_option maxRecDepth 100000 in
theorem zr154 : zL154.all (rwOk prog_10_method_38_code) = true := by decide +kernel
set_option maxRecDepth 100000 in
theorem zk154 : MtOk zM154 := ⟨zr154, List.mem_of_getElem? (i := 1046) rfl, List.mem_of_getElem? (i := 67) rfl, ⟨List.mem_of_getElem? (i := 1044) rfl, List.mem_of_getElem? (i := 1045) rfl⟩, rfl, by decide +kernel, ⟨by decide +kernel, by decide +kernel⟩, by decide +kernel, by decide⟩
set_option maxRecDepth 100000 in
theorem zr155 : zL155.all (rwOk prog_10_method_39_code) = true := by decide +kernel
set_option maxRecDepth 100000 in
theorem zk155 : MtOk zM155 := ⟨zr155, List.mem_of_getElem? (i := 1075) rfl, List.mem_of_getElem? (i := 67) rfl, ⟨List.mem_of_getElem? (i := 1073) rfl, List.mem_of_getElem? (i := 1074) rfl⟩, rfl, by decide +kernel, ⟨by decide +kernel, by decide +kernel⟩, by decide +kernel, by decide⟩
set_option maxRecDepth 100000 in
theorem zr156 : zL156.all (rwOk prog_10_method_40_code) = true := by decide +kernel
set_option maxRecDepth 100000 in
theorem zk156 : MtOk zM156 := ⟨zr156, List.mem_of_getElem? (i := 1083) rfl, List.mem_of_getElem? (i := 67) rfl, ⟨List.mem_of_getElem? (i := 1082) rfl, List.mem_of_getElem? (i := 37) rfl⟩, rfl, by decide +kernel, ⟨by decide +kernel, by decide +kernel⟩, by decide +kernel, by decide⟩
set_option maxRecDepth 100000 in
theorem zr157 : zL157.all (rwOk prog_10_method_41_code) = true := by decide +kernel
set_option maxRecDepth 100000 in
theorem zk157 : MtOk zM157 := ⟨zr157, List.mem_of_getElem? (i := 1079) rfl, List.mem_of_getElem? (i := 67) rfl, ⟨List.mem_of_getElem? (i := 1077) rfl, List.mem_of_getElem? (i := 1078) rfl⟩, rfl, by decide +kernel, ⟨by decide +kernel, by decide +kernel⟩, by decide +kernel, by decide⟩
set_option maxRecDepth 100000 in
theorem zr158 : zL158.all (rwOk prog_10_method_42_code) = true := by decide +kernel
set_option maxRecDepth 100000 in
theorem zk158 : MtOk zM158 := ⟨zr158, List.mem_of_getElem? (i := 1087) rfl, List.mem_of_getElem? (i := 67) rfl, ⟨List.mem_of_getElem? (i := 1085) rfl, List.mem_of_getElem? (i := 1086) rfl⟩, rfl, by decide +kernel, ⟨by decide +kernel, by decide +kernel⟩, by decide +kernel, by decide⟩
set_option maxRecDepth 100000 in
theorem zr159 : zL159.all (rwOk prog_10_method_43_code) = true := by decide +kernel
set_option maxRecDepth 100000 in
theorem zk159 : MtOk zM159 := ⟨zr159, List.mem_of_getElem? (i := 1095) rfl, List.mem_of_getElem? (i := 67) rfl, ⟨List.mem_of_getElem? (i := 1094) rfl, List.mem_of_getElem? (i := 38) rfl⟩, rfl, by decide +kernel, ⟨by decide +kernel, by decide +kernel⟩, by decide +kernel, by decide⟩
set_option maxRecDepth 100000 in
theorem zr160 : zL160.all (rwOk prog_10_method_44_code) = true := by decide +kernel
set_option maxRecDepth 100000 in
theorem zk160 : MtOk zM160 := ⟨zr160, List.mem_of_getElem? (i := 1091) rfl, List.mem_of_getElem? (i := 67) rfl, ⟨List.mem_of_getElem? (i := 1089) rfl, List.mem_of_getElem? (i := 1090) rfl⟩, rfl, by decide +kernel, ⟨by decide +kernel, by decide +kernel⟩, by decide +kernel, by decide⟩
set_option maxRecDepth 100000 in
theorem zr161 : zL161.all (rwOk prog_10_method_45_code) = true := by decide +kernel
set_option maxRecDepth 100000 in
theorem zk161 : MtOk zM161 := ⟨zr161, List.mem_of_getElem? (i := 1106) rfl, List.mem_of_getElem? (i := 67) rfl, ⟨List.mem_of_getElem? (i := 1104) rfl, List.mem_of_getElem? (i := 1105) rfl⟩, rfl, by decide +kernel, ⟨by decide +kernel, by decide +kernel⟩, by decide +kernel, by decide⟩
set_option maxRecDepth 100000 in
theorem zr162 : zL162.all (rwOk prog_10_method_46_code) = true := by decide +kernel
set_option maxRecDepth 100000 in
theorem zk162 : MtOk zM162 := ⟨zr162, List.mem_of_getElem? (i := 1110) rfl, List.mem_of_getElem? (i := 67) rfl, ⟨List.mem_of_getElem? (i := 1108) rfl, List.mem_of_getElem? (i := 1109) rfl⟩, rfl, by decide +kernel, ⟨by decide +kernel, by decide +kernel⟩, by decide +kernel, by decide⟩
set_option maxRecDepth 100000 in
theorem zr163 : zL163.all (rwOk prog_10_method_47_code) = true := by decide +kernel
set_option maxRecDepth 100000 in
theorem zk163 : MtOk zM163 := ⟨zr163, List.mem_of_getElem? (i := 1123) rfl, List.mem_of_getElem? (i := 67) rfl, ⟨List.mem_of_getElem? (i := 1122) rfl, List.mem_of_getElem? (i := 41) rfl⟩, rfl, by decide +kernel, ⟨by decide +kernel, by decide +kernel⟩, by decide +kernel, by decide⟩
set_option maxRecDepth 100000 in
theorem zr164 : zL164.all (rwOk prog_10_method_48_code) = true := by decide +kernel
set_option maxRecDepth 100000 in
theorem zk164 : MtOk zM164 := ⟨zr164, List.mem_of_getElem? (i := 1119) rfl, List.mem_of_getElem? (i := 67) rfl, ⟨List.mem_of_getElem? (i := 1118) rfl, List.mem_of_getElem? (i := 40) rfl⟩, rfl, by decide +kernel, ⟨by decide +kernel, by decide +kernel⟩, by decide +kernel, by decide⟩
set_option maxRecDepth 100000 in
theorem zr165 : zL165.all (rwOk prog_10_method_49_code) = true := by decide +kernel
set_option maxRecDepth 100000 in
theorem zk165 : MtOk zM165 := ⟨zr165, List.mem_of_getElem? (i := 1139) rfl, List.mem_of_getElem? (i := 67) rfl, ⟨List.mem_of_getElem? (i := 1138) rfl, List.mem_of_getElem? (i := 42) rfl⟩, rfl, by decide +kernel, ⟨by decide +kernel, by decide +kernel⟩, by decide +kernel, by decide⟩
set_option maxRecDepth 100000 in
theorem zr166 : zL166.all (rwOk prog_10_method_50_code) = true := by decide +kernel
set_option maxRecDepth 100000 in
theorem zk166 : MtOk zM166 := ⟨zr166, List.mem_of_getElem? (i := 1115) rfl, List.mem_of_getElem? (i := 67) rfl, ⟨List.mem_of_getElem? (i := 1113) rfl, List.mem_of_getElem? (i := 1114) rfl⟩, rfl, by decide +kernel, ⟨by decide +kernel, by decide +kernel⟩, by decide +kernel, by decide⟩
set_option maxRecDepth 100000 in
theorem zr167 : zL167.all (rwOk prog_10_method_51_code) = true := by decide +kernel
set_option maxRecDepth 100000 in
theorem zk167 : MtOk zM167 := ⟨zr167, List.mem_of_getElem? (i := 1127) rfl, List.mem_of_getElem? (i := 67) rfl, ⟨List.mem_of_getElem? (i := 1125) rfl, List.mem_of_getElem? (i := 1126) rfl⟩, rfl, by decide +kernel, ⟨by decide +kernel, by decide +kernel⟩, by decide +kernel, by decide⟩
set_option maxRecDepth 100000 in
theorem zr168 : zL168.all (rwOk prog_10_method_52_code) = true := by decide +kernel
set_option maxRecDepth 100000 in
theorem zk168 : MtOk zM168 := ⟨zr168, List.mem_of_getElem? (i := 1131) rfl, List.mem_of_getElem? (i := 67) rfl, ⟨List.mem_of_getElem? (i := 1129) rfl, List.mem_of_getElem? (i := 1130) rfl⟩, rfl, by decide +kernel, ⟨by decide +kernel, by decide +kernel⟩, by decide +kernel, by decide⟩
set_option maxRecDepth 100000 in
theorem zr169 : zL169.all (rwOk prog_10_method_53_code) = true := by decide +kernel
set_option maxRecDepth 100000 in
theorem zk169 : MtOk zM169 := ⟨zr169, List.mem_of_getElem? (i := 1135) rfl, List.mem_of_getElem? (i := 67) rfl, ⟨List.mem_of_getElem? (i := 1133) rfl, List.mem_of_getElem? (i := 1134) rfl⟩, rfl, by decide +kernel, ⟨by decide +kernel, by decide +kernel⟩, by decide +kernel, by decide⟩
set_option maxRecDepth 100000 in
theorem zr170 : zL170.all (rwOk prog_10_method_54_code) = true := by decide +kernel
set_option maxRecDepth 100000 in
theorem zk170 : MtOk zM170 := ⟨zr170, List.mem_of_getElem? (i := 1146) rfl, List.mem_of_getElem? (i := 67) rfl, ⟨List.mem_of_getElem? (i := 1144) rfl, List.mem_of_getElem? (i := 1145) rfl⟩, rfl, by decide +kernel, ⟨by decide +kernel, by decide +kernel⟩, by decide +kernel, by decide⟩
set_option maxRecDepth 100000 in
theorem zr171 : zL171.all (rwOk prog_10_method_55_code) = true := by decide +kernel
set_option maxRecDepth 100000 in
theorem zk171 : MtOk zM171 := ⟨zr171, List.mem_of_getElem? (i := 1150) rfl, List.mem_of_getElem? (i := 67) rfl, ⟨List.mem_of_getElem? (i := 1148) rfl, List.mem_of_getElem? (i := 1149) rfl⟩, rfl, by decide +kernel, ⟨by decide +kernel, by decide +kernel⟩, by decide +kernel, by decide⟩
set_option maxRecDepth 100000 in
theorem zr172 : zL172.all (rwOk prog_10_method_56_code) = true := by decide +kernel
set_option maxRecDepth 100000 in
theorem zk172 : MtOk zM172 := ⟨zr172, List.mem_of_getElem? (i := 1154) rfl, List.mem_of_getElem? (i := 67) rfl, ⟨List.mem_of_getElem? (i := 1152) rfl, List.mem_of_getElem? (i := 1153) rfl⟩, rfl, by decide +kernel, ⟨by decide +kernel, by decide +kernel⟩, by decide +kernel, by decide⟩
set_option maxRecDepth 100000 in
theorem zr173 : zL173.all (rwOk prog_10_method_57_code) = true := by decide +kernel
set_option maxRecDepth 100000 in
theorem zk173 : MtOk zM173 := ⟨zr173, List.mem_of_getElem? (i := 1162) rfl, List.mem_of_getElem? (i := 67) rfl, ⟨List.mem_of_getElem? (i := 1161) rfl, List.mem_of_getElem? (i := 43) rfl⟩, rfl, by decide +kernel, ⟨by decide +kernel, by decide +kernel⟩, by decide +kernel, by decide⟩
set_option maxRecDepth 100000 in
theorem zr174 : zL174.all (rwOk prog_10_method_58_code) = true := by decide +kernel
set_option maxRecDepth 100000 in
theorem zk174 : MtOk zM174 := ⟨zr174, List.mem_of_getElem? (i := 1158) rfl, List.mem_of_getElem? (i := 67) rfl, ⟨List.mem_of_getElem? (i := 1156) rfl, List.mem_of_getElem? (i := 1157) rfl⟩, rfl, by decide +kernel, ⟨by decide +kernel, by decide +kernel⟩, by decide +kernel, by decide⟩
set_option maxRecDepth 100000 in
theorem zr175 : zL175.all (rwOk prog_10_method_59_code) = true := by decide +kernel
set_option maxRecDepth 100000 in
theorem zk175 : MtOk zM175 := ⟨zr175, List.mem_of_getElem? (i := 1166) rfl, List.mem_of_getElem? (i := 67) rfl, ⟨List.mem_of_getElem? (i := 1164) rfl, List.mem_of_getElem? (i := 1165) rfl⟩, rfl, by decide +kernel, ⟨by decide +kernel, by decide +kernel⟩, by decide +kernel, by decide⟩
set_option maxRecDepth 100000 in
theorem zr176 : zL176.all (rwOk prog_10_method_60_code) = true := by decide +kernel
set_option maxRecDepth 100000 in
theorem zk176 : MtOk zM176 := ⟨zr176, List.mem_of_getElem? (i := 1174) rfl, List.mem_of_getElem? (i := 67) rfl, ⟨List.mem_of_getElem? (i := 1172) rfl, List.mem_of_getElem? (i := 1173) rfl⟩, rfl, by decide +kernel, ⟨by decide +kernel, by decide +kernel⟩, by decide +kernel, by decide⟩
set_option maxRecDepth 100000 in
theorem zr177 : zL177.all (rwOk prog_10_method_61_code) = true := by decide +kernel
set_option maxRecDepth 100000 in
theorem zk177 : MtOk zM177 := ⟨zr177, List.mem_of_getElem? (i := 1182) rfl, List.mem_of_getElem? (i := 67) rfl, ⟨List.mem_of_getElem? (i := 1181) rfl, List.mem_of_getElem? (i := 44) rfl⟩, rfl, by decide +kernel, ⟨by decide +kernel, by decide +kernel⟩, by decide +kernel, by decide⟩
set_option maxRecDepth 100000 in
theorem zr178 : zL178.all (rwOk prog_10_method_62_code) = true := by decide +kernel
set_option maxRecDepth 100000 in
theorem zk178 : MtOk zM178 := ⟨zr178, List.mem_of_getElem? (i := 1186) rfl, List.mem_of_getElem? (i := 67) rfl, ⟨List.mem_of_getElem? (i := 1185) rfl, List.mem_of_getElem? (i := 45) rfl⟩, rfl, by decide +kernel, ⟨by decide +kernel, by decide +kernel⟩, by decide +kernel, by decide⟩
set_option maxRecDepth 100000 in
theorem zr179 : zL179.all (rwOk prog_10_method_63_code) = true := by decide +kernel
set_option maxRecDepth 100000 in
theorem zk179 : MtOk zM179 := ⟨zr179, List.mem_of_getElem? (i := 1178) rfl, List.mem_of_getElem? (i := 67) rfl, ⟨List.mem_of_getElem? (i := 1176) rfl, List.mem_of_getElem? (i := 1177) rfl⟩, rfl, by decide +kernel, ⟨by decide +kernel, by decide +kernel⟩, by decide +kernel, by decide⟩
set_option maxRecDepth 100000 in
theorem zr180 : zL180.all (rwOk prog_10_method_64_code) = true := by decide +kernel
set_option maxRecDepth 100000 in
theorem zk180 : MtOk zM180 := ⟨zr180, List.mem_of_getElem? (i := 1190) rfl, List.mem_of_getElem? (i := 67) rfl, ⟨List.mem_of_getElem? (i := 1188) rfl, List.mem_of_getElem? (i := 1189) rfl⟩, rfl, by decide +kernel, ⟨by decide +kernel, by decide +kernel⟩, by decide +kernel, by decide⟩
set_option maxRecDepth 100000 in
theorem zr181 : zL181.all (rwOk prog_10_method_65_code) = true := by decide +kernel
set_option maxRecDepth 100000 in
theorem zk181 : MtOk zM181 := ⟨zr181, List.mem_of_getElem? (i := 1194) rfl, List.mem_of_getElem? (i := 67) rfl, ⟨List.mem_of_getElem? (i := 1192) rfl, List.mem_of_getElem? (i := 1193) rfl⟩, rfl, by decide +kernel, ⟨by decide +kernel, by decide +kernel⟩, by decide +kernel, by decide⟩
set_option maxRecDepth 100000 in
theorem zr182 : zL182.all (rwOk prog_10_method_66_code) = true := by decide +kernel
set_option maxRecDepth 100000 in
theorem zk182 : MtOk zM182 := ⟨zr182, List.mem_of_getElem? (i := 1198) rfl, List.mem_of_getElem? (i := 67) rfl, ⟨List.mem_of_getElem? (i := 1196) rfl, List.mem_of_getElem? (i := 1197) rfl⟩, rfl, by decide +kernel, ⟨by decide +kernel, by decide +kernel⟩, by decide +kernel, by decide⟩
set_option maxRecDepth 100000 in
theorem zr183 : zL183.all (rwOk prog_10_method_67_code) = true := by decide +kernel
set_option maxRecDepth 100000 in
theorem zk183 : MtOk zM183 := ⟨zr183, List.mem_of_getElem? (i := 1207) rfl, List.mem_of_getElem? (i := 67) rfl, List.mem_of_getElem? (i := 1206) rfl, rfl, by decide +kernel, ⟨by decide +kernel, by decide +kernel⟩, by decide +kernel, by decide⟩
set_option maxRecDepth 100000 in
theorem zr184 : zL184.all (rwOk prog_10_method_68_code) = true := by decide +kernel
set_option maxRecDepth 100000 in
theorem zk184 : MtOk zM184 := ⟨zr184, List.mem_of_getElem? (i := 1203) rfl, List.mem_of_getElem? (i := 67) rfl, ⟨List.mem_of_getElem? (i := 1201) rfl, List.mem_of_getElem? (i := 1202) rfl⟩, rfl, by decide +kernel, ⟨by decide +kernel, by decide +kernel⟩, by decide +kernel, by decide⟩
set_option maxRecDepth 100000 in
theorem zr185 : zL185.all (rwOk prog_10_method_69_code) = true := by decide +kernel
set_option maxRecDepth 100000 in
theorem zk185 : MtOk zM185 := ⟨zr185, List.mem_of_getElem? (i := 1211) rfl, List.mem_of_getElem? (i := 67) rfl, ⟨List.mem_of_getElem? (i := 1209) rfl, List.mem_of_getElem? (i := 1210) rfl⟩, rfl, by decide +kernel, ⟨by decide +kernel, by decide +kernel⟩, by decide +kernel, by decide⟩
set_option maxRecDepth 100000 in
theorem zr186 : zL186.all (rwOk prog_10_method_70_code) = true := by decide +kernel
set_option maxRecDepth 100000 in
theorem zk186 : MtOk zM186 := ⟨zr186, List.mem_of_getElem? (i := 1215) rfl, List.mem_of_getElem? (i := 67) rfl, ⟨List.mem_of_getElem? (i := 1213) rfl, List.mem_of_getElem? (i := 1214) rfl⟩, rfl, by decide +kernel, ⟨by decide +kernel, by decide +kernel⟩, by decide +kernel, by decide⟩
set_option maxRecDepth 100000 in
theorem zr187 : zL187.all (rwOk prog_10_method_71_code) = true := by decide +kernel
set_option maxRecDepth 100000 in
theorem zk187 : MtOk zM187 := ⟨zr187, List.mem_of_getElem? (i := 1227) rfl, List.mem_of_getElem? (i := 67) rfl, ⟨List.mem_of_getElem? (i := 1226) rfl, List.mem_of_getElem? (i := 47) rfl⟩, rfl, by decide +kernel, ⟨by decide +kernel, by decide +kernel⟩, by decide +kernel, by decide⟩
set_option maxRecDepth 100000 in
theorem zr188 : zL188.all (rwOk prog_10_method_72_code) = true := by decide +kernel
set_option maxRecDepth 100000 in
theorem zk188 : MtOk zM188 := ⟨zr188, List.mem_of_getElem? (i := 1223) rfl, List.mem_of_getElem? (i := 67) rfl, ⟨List.mem_of_getElem? (i := 1222) rfl, List.mem_of_getElem? (i := 46) rfl⟩, rfl, by decide +kernel, ⟨by decide +kernel, by decide +kernel⟩, by decide +kernel, by decide⟩
set_option maxRecDepth 100000 in
theorem zr189 : zL189.all (rwOk prog_10_method_73_code) = true := by decide +kernel
set_option maxRecDepth 100000 in
theorem zk189 : MtOk zM189 := ⟨zr189, List.mem_of_getElem? (i := 1239) rfl, List.mem_of_getElem? (i := 67) rfl, ⟨List.mem_of_getElem? (i := 1238) rfl, List.mem_of_getElem? (i := 50) rfl⟩, rfl, by decide +kernel, ⟨by decide +kernel, by decide +kernel⟩, by decide +kernel, by decide⟩
set_option maxRecDepth 100000 in
theorem zr190 : zL190.all (rwOk prog_10_method_74_code) = true := by decide +kernel
set_option maxRecDepth 100000 in
theorem zk190 : MtOk zM190 := ⟨zr190, List.mem_of_getElem? (i := 1249) rfl, List.mem_of_getElem? (i := 67) rfl, ⟨List.mem_of_getElem? (i := 1248) rfl, List.mem_of_getElem? (i := 52) rfl⟩, rfl, by decide +kernel, ⟨by decide +kernel, by decide +kernel⟩, by decide +kernel, by decide⟩
set_option maxRecDepth 100000 in
theorem zr191 : zL191.all (rwOk prog_10_method_75_code) = true := by decide +kernel
set_option maxRecDepth 100000 in
theorem zk191 : MtOk zM191 := ⟨zr191, List.mem_of_getElem? (i := 1254) rfl, List.mem_of_getElem? (i := 67) rfl, ⟨List.mem_of_getElem? (i := 1253) rfl, List.mem_of_getElem? (i := 53) rfl⟩, rfl, by decide +kernel, ⟨by decide +kernel, by decide +kernel⟩, by decide +kernel, by decide⟩
set_option maxRecDepth 100000 in
theorem zr192 : zL192.all (rwOk prog_10_method_76_code) = true := by decide +kernel
set_option maxRecDepth 100000 in
theorem zk192 : MtOk zM192 := ⟨zr192, List.mem_of_getElem? (i := 1265) rfl, List.mem_of_getElem? (i := 67) rfl, ⟨List.mem_of_getElem? (i := 1264) rfl, List.mem_of_getElem? (i := 55) rfl⟩, rfl, by decide +kernel, ⟨by decide +kernel, by decide +kernel⟩, by decide +kernel, by decide⟩
set_option maxRecDepth 100000 in
theorem zr193 : zL193.all (rwOk prog_10_method_77_code) = true := by decide +kernel
set_option maxRecDepth 100000 in
theorem zk193 : MtOk zM193 := ⟨zr193, List.mem_of_getElem? (i := 1235) rfl, List.mem_of_getElem? (i := 67) rfl, ⟨List.mem_of_getElem? (i := 1234) rfl, List.mem_of_getElem? (i := 49) rfl⟩, rfl, by decide +kernel, ⟨by decide +kernel, by decide +kernel⟩, by decide +kernel, by decide⟩
set_option maxRecDepth 100000 in
theorem zr194 : zL194.all (rwOk prog_10_method_78_code) = true := by decide +kernel
set_option maxRecDepth 100000 in
theorem zk194 : MtOk zM194 := ⟨zr194, List.mem_of_getElem? (i := 1231) rfl, List.mem_of_getElem? (i := 67) rfl, ⟨List.mem_of_getElem? (i := 1230) rfl, List.mem_of_getElem? (i := 48) rfl⟩, rfl, by decide +kernel, ⟨by decide +kernel, by decide +kernel⟩, by decide +kernel, by decide⟩
set_option maxRecDepth 100000 in
theorem zr195 : zL195.all (rwOk prog_10_method_79_code) = true := by decide +kernel
set_option maxRecDepth 100000 in
theorem zk195 : MtOk zM195 := ⟨zr195, List.mem_of_getElem? (i := 1270) rfl, List.mem_of_getElem? (i := 67) rfl, ⟨List.mem_of_getElem? (i := 1269) rfl, List.mem_of_getElem? (i := 56) rfl⟩, rfl, by decide +kernel, ⟨by decide +kernel, by decide +kernel⟩, by decide +kernel, by decide⟩
set_option maxRecDepth 100000 in
theorem zr196 : zL196.all (rwOk prog_10_method_80_code) = true := by decide +kernel
set_option maxRecDepth 100000 in
theorem zk196 : MtOk zM196 := ⟨zr196, List.mem_of_getElem? (i := 1259) rfl, List.mem_of_getElem? (i := 67) rfl, ⟨List.mem_of_getElem? (i := 1258) rfl, List.mem_of_getElem? (i := 54) rfl⟩, rfl, by decide +kernel, ⟨by decide +kernel, by decide +kernel⟩, by decide +kernel, by decide⟩
set_option maxRecDepth 100000 in
theorem zr197 : zL197.all (rwOk prog_10_method_81_code) = true := by decide +kernel
set_option maxRecDepth 100000 in
theorem zk197 : MtOk zM197 := ⟨zr197, List.mem_of_getElem? (i := 1245) rfl, List.mem_of_getElem? (i := 67) rfl, ⟨List.mem_of_getElem? (i := 1244) rfl, List.mem_of_getElem? (i := 51) rfl⟩, rfl, by decide +kernel, ⟨by decide +kernel, by decide +kernel⟩, by decide +kernel, by decide⟩
set_option maxRecDepth 100000 in
theorem zr198 : zL198.all (rwOk prog_10_method_82_code) = true := by decide +kernel
set_option maxRecDepth 100000 in
theorem zk198 : MtOk zM198 := ⟨zr198, List.mem_of_getElem? (i := 1279) rfl, List.mem_of_getElem? (i := 67) rfl, ⟨List.mem_of_getElem? (i := 1278) rfl, List.mem_of_getElem? (i := 57) rfl⟩, rfl, by decide +kernel, ⟨by decide +kernel, by decide +kernel⟩, by decide +kernel, by decide⟩
set_option maxRecDepth 100000 in
theorem zr199 : zL199.all (rwOk prog_10_method_83_code) = true := by decide +kernel
set_option maxRecDepth 100000 in
theorem zk199 : MtOk zM199 := ⟨zr199, List.mem_of_getElem? (i := 1219) rfl, List.mem_of_getElem? (i := 67) rfl, ⟨List.mem_of_getElem? (i := 1217) rfl, List.mem_of_getElem? (i := 1218) rfl⟩, rfl, by decide +kernel, ⟨by decide +kernel, by decide +kernel⟩, by decide +kernel, by decide⟩
set_option maxRecDepth 100000 in
theorem zr200 : zL200.all (rwOk prog_10_method_84_code) = true := by decide +kernel
set_option maxRecDepth 100000 in
theorem zk200 : MtOk zM200 := ⟨zr200, List.mem_of_getElem? (i := 1286) rfl, List.mem_of_getElem? (i := 67) rfl, List.mem_of_getElem? (i := 1285) rfl, rfl, by decide +kernel, ⟨by decide +kernel, by decide +kernel⟩, by decide +kernel, by decide⟩
set_option maxRecDepth 100000 in
theorem zr201 : zL201.all (rwOk prog_10_method_85_code) = true := by decide +kernel
set_option maxRecDepth 100000 in
theorem zk201 : MtOk zM201 := ⟨zr201, List.mem_of_getElem? (i := 1294) rfl, List.mem_of_getElem? (i := 67) rfl, List.mem_of_getElem? (i := 1293) rfl, rfl, by decide +kernel, ⟨by decide +kernel, by decide +kernel⟩, by decide +kernel, by decide⟩
set_option maxRecDepth 100000 in
theorem zr202 : zL202.all (rwOk prog_10_method_86_code) = true := by decide +kernel
set_option maxRecDepth 100000 in
theorem zk202 : MtOk zM202 := ⟨zr202, List.mem_of_getElem? (i := 1283) rfl, List.mem_of_getElem? (i := 67) rfl, ⟨List.mem_of_getElem? (i := 1281) rfl, List.mem_of_getElem? (i := 1282) rfl⟩, rfl, by decide +kernel, ⟨by decide +kernel, by decide +kernel⟩, by decide +kernel, by decide⟩
set_option maxRecDepth 100000 in
theorem zr203 : zL203.all (rwOk prog_10_method_87_code) = true := by decide +kernel
set_option maxRecDepth 100000 in
theorem zk203 : MtOk zM203 := ⟨zr203, List.mem_of_getElem? (i := 1290) rfl, List.mem_of_getElem? (i := 67) rfl, ⟨List.mem_of_getElem? (i := 1288) rfl, List.mem_of_getElem? (i := 1289) rfl⟩, rfl, by decide +kernel, ⟨by decide +kernel, by decide +kernel⟩, by decide +kernel, by decide⟩
set_option maxRecDepth 100000 in
theorem zr204 : zL204.all (rwOk prog_10_method_88_code) = true := by decide +kernel
set_option maxRecDepth 100000 in
theorem zk204 : MtOk zM204 := ⟨zr204, List.mem_of_getElem? (i := 1298) rfl, List.mem_of_getElem? (i := 67) rfl, ⟨List.mem_of_getElem? (i := 1296) rfl, List.mem_of_getElem? (i := 1297) rfl⟩, rfl, by decide +kernel, ⟨by decide +kernel, by decide +kernel⟩, by decide +kernel, by decide⟩
set_option maxRecDepth 100000 in
theorem zr205 : zL205.all (rwOk prog_10_method_89_code) = true := by decide +kernel
set_option maxRecDepth 100000 in
theorem zk205 : MtOk zM205 := ⟨zr205, List.mem_of_getElem? (i := 1302) rfl, List.mem_of_getElem? (i := 67) rfl, ⟨List.mem_of_getElem? (i := 1300) rfl, List.mem_of_getElem? (i := 1301) rfl⟩, rfl, by decide +kernel, ⟨by decide +kernel, by decide +kernel⟩, by decide +kernel, by decide⟩
set_option maxRecDepth 100000 in
theorem zr206 : zL206.all (rwOk prog_10_method_90_code) = true := by decide +kernel
set_option maxRecDepth 100000 in
theorem zk206 : MtOk zM206 := ⟨zr206, List.mem_of_getElem? (i := 1311) rfl, List.mem_of_getElem? (i := 67) rfl, ⟨List.mem_of_getElem? (i := 1310) rfl, List.mem_of_getElem? (i := 58) rfl⟩, rfl, by decide +kernel, ⟨by decide +kernel, by decide +kernel⟩, by decide +kernel, by decide⟩
set_option maxRecDepth 100000 in
theorem zr207 : zL207.all (rwOk prog_10_method_91_code) = true := by decide +kernel
set_option maxRecDepth 100000 in
theorem zk207 : MtOk zM207 := ⟨zr207, List.mem_of_getElem? (i := 1307) rfl, List.mem_of_getElem? (i := 67) rfl, ⟨List.mem_of_getElem? (i := 1305) rfl, List.mem_of_getElem? (i := 1306) rfl⟩, rfl, by decide +kernel, ⟨by decide +kernel, by decide +kernel⟩, by decide +kernel, by decide⟩
set_option maxRecDepth 100000 in
theorem zr208 : zL208.all (rwOk prog_10_method_92_code) = true := by decide +kernel
set_option maxRecDepth 100000 in
theorem zk208 : MtOk zM208 := ⟨zr208, List.mem_of_getElem? (i := 1315) rfl, List.mem_of_getElem? (i := 67) rfl, ⟨List.mem_of_getElem? (i := 1313) rfl, List.mem_of_getElem? (i := 1314) rfl⟩, rfl, by decide +kernel, ⟨by decide +kernel, by decide +kernel⟩, by decide +kernel, by decide⟩
set_option maxRecDepth 100000 in
theorem zr209 : zL209.all (rwOk prog_10_method_93_code) = true := by decide +kernel
set_option maxRecDepth 100000 in
theorem zk209 : MtOk zM209 := ⟨zr209, List.mem_of_getElem? (i := 1319) rfl, List.mem_of_getElem? (i := 67) rfl, ⟨List.mem_of_getElem? (i := 1317) rfl, List.mem_of_getElem? (i := 1318) rfl⟩, rfl, by decide +kernel, ⟨by decide +kernel, by decide +kernel⟩, by decide +kernel, by decide⟩
set_option maxRecDepth 100000 in
theorem zr210 : zL210.all (rwOk prog_10_method_94_code) = true := by decide +kernel
set_option maxRecDepth 100000 in
theorem zk210 : MtOk zM210 := ⟨zr210, List.mem_of_getElem? (i := 1323) rfl, List.mem_of_getElem? (i := 67) rfl, ⟨List.mem_of_getElem? (i := 1321) rfl, List.mem_of_getElem? (i := 1322) rfl⟩, rfl, by decide +kernel, ⟨by decide +kernel, by decide +kernel⟩, by decide +kernel, by decide⟩
set_option maxRecDepth 100000 in
theorem zr211 : zL211.all (rwOk prog_10_method_95_code) = true := by decide +kernel
set_option maxRecDepth 100000 in
theorem zk211 : MtOk zM211 := ⟨zr211, List.mem_of_getElem? (i := 1327) rfl, List.mem_of_getElem? (i := 67) rfl, ⟨List.mem_of_getElem? (i := 1325) rfl, List.mem_of_getElem? (i := 1326) rfl⟩, rfl, by decide +kernel, ⟨by decide +kernel, by decide +kernel⟩, by decide +kernel, by decide⟩
set_option maxRecDepth 100000 in
theorem zr212 : zL212.all (rwOk prog_10_method_96_code) = true := by decide +kernel
set_option maxRecDepth 100000 in
theorem zk212 : MtOk zM212 := ⟨zr212, List.mem_of_getElem? (i := 1170) rfl, List.mem_of_getElem? (i := 67) rfl, ⟨List.mem_of_getElem? (i := 1168) rfl, List.mem_of_getElem? (i := 1169) rfl⟩, rfl, by decide +kernel, ⟨by decide +kernel, by decide +kernel⟩, by decide +kernel, by decide⟩
set_option maxRecDepth 100000 in
theorem zr213 : zL213.all (rwOk prog_10_method_97_code) = true := by decide +kernel
set_option maxRecDepth 100000 in
theorem zk213 : MtOk zM213 := ⟨zr213, List.mem_of_getElem? (i := 1332) rfl, List.mem_of_getElem? (i := 67) rfl, ⟨List.mem_of_getElem? (i := 1330) rfl, List.mem_of_getElem? (i := 1331) rfl⟩, rfl, by decide +kernel, ⟨by decide +kernel, by decide +kernel⟩, by decide +kernel, by decide⟩
set_option maxRecDepth 100000 in
theorem zr214 : zL214.all (rwOk prog_4_method_2_code) = true := by decide +kernel
set_option maxRecDepth 100000 in
theorem zk214 : MtOk zM214 := ⟨zr214, List.mem_of_getElem? (i := 366) rfl, List.mem_of_getElem? (i := 68) rfl, List.mem_of_getElem? (i := 365) rfl, rfl, by decide +kernel, ⟨by decide +kernel, by decide +kernel⟩, by decide +kernel, by decide⟩
set_option maxRecDepth 100000 in
theorem zr215 : zL215.all (rwOk prog_4_method_3_code) = true := by decide +kernel
set_option maxRecDepth 100000 in
theorem zk215 : MtOk zM215 := ⟨zr215, List.mem_of_getElem? (i := 428) rfl, List.mem_of_getElem? (i := 68) rfl, List.mem_of_getElem? (i := 427) rfl, rfl, by decide +kernel, ⟨by decide +kernel, by decide +kernel⟩, by decide +kernel, by decide⟩
set_option maxRecDepth 100000 in
theorem zr216 : zL216.all (rwOk prog_4_method_4_code) = true := by decide +kernel
set_option maxRecDepth 100000 in
theorem zk216 : MtOk zM216 := ⟨zr216, List.mem_of_getElem? (i := 372) rfl, List.mem_of_getElem? (i := 68) rfl, List.mem_of_getElem? (i := 371) rfl, rfl, by decide +kernel, ⟨by decide +kernel, by decide +kernel⟩, by decide +kernel, by decide⟩
set_option maxRecDepth 100000 in
theorem zr217 : zL217.all (rwOk prog_4_method_5_code) = true := by decide +kernel
set_option maxRecDepth 100000 in
theorem zk217 : MtOk zM217 := ⟨zr217, List.mem_of_getElem? (i := 390) rfl, List.mem_of_getElem? (i := 68) rfl, List.mem_of_getElem? (i := 389) rfl, rfl, by decide +kernel, ⟨by decide +kernel, by decide +kernel⟩, by decide +kernel, by decide⟩
set_option maxRecDepth 100000 in
theorem zr218 : zL218.all (rwOk prog_4_method_6_code) = true := by decide +kernel
set_option maxRecDepth 100000 in
theorem zk218 : MtOk zM218 := ⟨zr218, List.mem_of_getElem? (i := 393) rfl, List.mem_of_getElem? (i := 68) rfl, List.mem_of_getElem? (i := 392) rfl, rfl, by decide +kernel, ⟨by decide +kernel, by decide +kernel⟩, by decide +kernel, by decide⟩
set_option maxRecDepth 100000 in
theorem zr219 : zL219.all (rwOk prog_16_method_101_code) = true := by decide +kernel
set_option maxRecDepth 100000 in
theorem zk219 : MtOk zM219 := ⟨zr219, List.mem_of_getElem? (i := 789) rfl, List.mem_of_getElem? (i := 71) rfl, List.mem_of_getElem? (i := 788) rfl, rfl, by decide +kernel, ⟨by decide +kernel, by decide +kernel⟩, by decide +kernel, by decide⟩
set_option maxRecDepth 100000 in
theorem zr220 : zL220.all (rwOk prog_16_method_103_code) = true := by decide +kernel
set_option maxRecDepth 100000 in
theorem zk220 : MtOk zM220 := ⟨zr220, List.mem_of_getElem? (i := 563) rfl, List.mem_of_getElem? (i := 71) rfl, List.mem_of_getElem? (i := 562) rfl, rfl, by decide +kernel, ⟨by decide +kernel, by decide +kernel⟩, by decide +kernel, by decide⟩
set_option maxRecDepth 100000 in
theorem zr221 : zL221.all (rwOk prog_12_method_54_code) = true := by decide +kernel
set_option maxRecDepth 100000 in
theorem zk221 : MtOk zM221 := ⟨zr221, List.mem_of_getElem? (i := 669) rfl, List.mem_of_getElem? (i := 72) rfl, ⟨List.mem_of_getElem? (i := 667) rfl, List.mem_of_getElem? (i := 668) rfl⟩, rfl, by decide +kernel, ⟨by decide +kernel, by decide +kernel⟩, by decide +kernel, by decide⟩
set_option maxRecDepth 100000 in
theorem zr222 : zL222.all (rwOk prog_12_method_56_code) = true := by decide +kernel
set_option maxRecDepth 100000 in
theorem zk222 : MtOk zM222 := ⟨zr222, List.mem_of_getElem? (i := 679) rfl, List.mem_of_getElem? (i := 72) rfl, ⟨List.mem_of_getElem? (i := 677) rfl, List.mem_of_getElem? (i := 678) rfl⟩, rfl, by decide +kernel, ⟨by decide +kernel, by decide +kernel⟩, by decide +kernel, by decide⟩
set_option maxRecDepth 100000 in
theorem zr223 : zL223.all (rwOk prog_12_method_152_code) = true := by decide +kernel
set_option maxRecDepth 100000 in
theorem zk223 : MtOk zM223 := ⟨zr223, List.mem_of_getElem? (i := 673) rfl, List.mem_of_getElem? (i := 72) rfl, ⟨List.mem_of_getElem? (i := 671) rfl, List.mem_of_getElem? (i := 672) rfl⟩, rfl, by decide +kernel, ⟨by decide +kernel, by decide +kernel⟩, by decide +kernel, by decide⟩
set_option maxRecDepth 100000 in
theorem zr224 : zL224.all (rwOk prog_12_method_154_code) = true := by decide +kernel
set_option maxRecDepth 100000 in
theorem zk224 : MtOk zM224 := ⟨zr224, List.mem_of_getElem? (i := 683) rfl, List.mem_of_getElem? (i := 72) rfl, ⟨List.mem_of_getElem? (i := 681) rfl, List.mem_of_getElem? (i := 682) rfl⟩, rfl, by decide +kernel, ⟨by decide +kernel, by decide +kernel⟩, by decide +kernel, by decide⟩
set_option maxRecDepth 100000 in
theorem zr225 : zL225.all (rwOk prog_12_method_155_code) = true := by decide +kernel
set_option maxRecDepth 100000 in
theorem zk225 : MtOk zM225 := ⟨zr225, List.mem_of_getElem? (i := 689) rfl, List.mem_of_getElem? (i := 72) rfl, List.mem_of_getElem? (i := 688) rfl, rfl, by decide +kernel, ⟨by decide +kernel, by decide +kernel⟩, by decide +kernel, by decide⟩
set_option maxRecDepth 100000 in
theorem zr226 : zL226.all (rwOk prog_13_method_2_code) = true := by decide +kernel
set_option maxRecDepth 100000 in
theorem zk226 : MtOk zM226 := ⟨zr226, List.mem_of_getElem? (i := 686) rfl, List.mem_of_getElem? (i := 73) rfl, List.mem_of_getElem? (i := 685) rfl, rfl, by decide +kernel, ⟨by decide +kernel, by decide +kernel⟩, by decide +kernel, by decide⟩
set_option maxRecDepth 100000 in
theorem zr227 : zL227.all (rwOk prog_17_method_11_code) = true := by decide +kernel
set_option maxRecDepth 100000 in
theorem zk227 : MtOk zM227 := ⟨zr227, List.mem_of_getElem? (i := 694) rfl, List.mem_of_getElem? (i := 74) rfl, List.mem_of_getElem? (i := 693) rfl, rfl, by decide +kernel, ⟨by decide +kernel, by decide +kernel⟩, by decide +kernel, by decide⟩
def mT0 : List ME := [zM0, zM1, zM2, zM3, zM4, zM5, zM6, zM7, zM8, zM9, zM10, zM11, zM12, zM13, zM14, zM15, zM16, zM17, zM18, zM19, zM20, zM21, zM22, zM23, zM24, zM25, zM26, zM27, zM28, zM29, zM30, zM31, zM32, zM33, zM34, zM35, zM36, zM37, zM38, zM39, zM40, zM41, zM42, zM43, zM44, zM45, zM46, zM47, zM48, zM49, zM50, zM51, zM52, zM53, zM54, zM55, zM56, zM57, zM58, zM59, zM60, zM61, zM62, zM63, zM64, zM65, zM66, zM67, zM68, zM69, zM70, zM71, zM72, zM73, zM74, zM75, zM76, zM77, zM78, zM79, zM80, zM81, zM82, zM83, zM84, zM85, zM86, zM87, zM88, zM89, zM90, zM91, zM92, zM93, zM94, zM95, zM96, zM97, zM98, zM99, zM100, zM101, zM102, zM103, zM104, zM105, zM106, zM107, zM108, zM109, zM110, zM111, zM112, zM113, zM114, zM115, zM116, zM117, zM118, zM119, zM120, zM121, zM122, zM123, zM124, zM125, zM126, zM127, zM128, zM129, zM130, zM131, zM132, zM133, zM134, zM135, zM136, zM137, zM138, zM139, zM140, zM141, zM142, zM143, zM144, zM145, zM146, zM147, zM148, zM149, zM150, zM151, zM152, zM153, zM154, zM155, zM156, zM157, zM158, zM159, zM160, zM161, zM162, zM163, zM164, zM165, zM166, zM167, zM168, zM169, zM170, zM171, zM172, zM173, zM174, zM175, zM176, zM177, zM178, zM179, zM180, zM181, zM182, zM183, zM184, zM185, zM186, zM187, zM188, zM189, zM190, zM191, zM192, zM193, zM194, zM195, zM196, zM197, zM198, zM199, zM200, zM201, zM202, zM203, zM204, zM205, zM206, zM207, zM208, zM209, zM210, zM211, zM212, zM213, zM214, zM215, zM216, zM217, zM218, zM219, zM220, zM221, zM222, zM223, zM224, zM225, zM226, zM227]
set_option maxRecDepth 100000 in
theorem zq0 : ∀ q ∈ ([zM0, zM1, zM2, zM3, zM4, zM5, zM6, zM7, zM8, zM9, zM10, zM11, zM12, zM13, zM14, zM15, zM16, zM17, zM18] : List ME), MtOk q := List.forall_mem_cons.mpr ⟨zk0, List.forall_mem_cons.mpr ⟨zk1, List.forall_mem_cons.mpr ⟨zk2, List.forall_mem_cons.mpr ⟨zk3, List.forall_mem_cons.mpr ⟨zk4, List.forall_mem_cons.mpr ⟨zk5, List.forall_mem_cons.mpr ⟨zk6, List.forall_mem_cons.mpr ⟨zk7, List.forall_mem_cons.mpr ⟨zk8, List.forall_mem_cons.mpr ⟨zk9, List.forall_mem_cons.mpr ⟨zk10, List.forall_mem_cons.mpr ⟨zk11, List.forall_mem_cons.mpr ⟨zk12, List.forall_mem_cons.mpr ⟨zk13, List.forall_mem_cons.mpr ⟨zk14, List.forall_mem_cons.mpr ⟨zk15, List.forall_mem_cons.mpr ⟨zk16, List.forall_mem_cons.mpr ⟨zk17, List.forall_mem_cons.mpr ⟨zk18, fun _ h => absurd h List.not_mem_nil⟩⟩⟩⟩⟩⟩⟩⟩⟩⟩⟩⟩⟩⟩⟩⟩⟩⟩⟩
set_option maxRecDepth 100000 in
theorem zq1 : ∀ q ∈ ([zM19, zM20, zM21, zM22, zM23, zM24, zM25, zM26, zM27, zM28, zM29, zM30, zM31, zM32, zM33, zM34, zM35, zM36, zM37] : List ME), MtOk q := List.forall_mem_cons.mpr ⟨zk19, List.forall_mem_cons.mpr ⟨zk20, List.forall_mem_cons.mpr ⟨zk21, List.forall_mem_cons.mpr ⟨zk22, List.forall_mem_cons.mpr ⟨zk23, List.forall_mem_cons.mpr ⟨zk24, List.forall_mem_cons.mpr ⟨zk25, List.forall_mem_cons.mpr ⟨zk26, List.forall_mem_cons.mpr ⟨zk27, List.forall_mem_cons.mpr ⟨zk28, List.forall_mem_cons.mpr ⟨zk29, List.forall_mem_cons.mpr ⟨zk30, List.forall_mem_cons.mpr ⟨zk31, List.forall_mem_cons.mpr ⟨zk32, List.forall_mem_cons.mpr ⟨zk33, List.forall_mem_cons.mpr ⟨zk34, List.forall_mem_cons.mpr ⟨zk35, List.forall_mem_cons.mpr ⟨zk36, List.forall_mem_cons.mpr ⟨zk37, fun _ h => absurd h List.not_mem_nil⟩⟩⟩⟩⟩⟩⟩⟩⟩⟩⟩⟩⟩⟩⟩⟩⟩⟩⟩
set_option maxRecDepth 100000 in
theorem zq2 : ∀ q ∈ ([zM38, zM39, zM40, zM41, zM42, zM43, zM44, zM45, zM46, zM47, zM48, zM49, zM50, zM51, zM52, zM53, zM54, zM55, zM56] : List ME), MtOk q := List.forall_mem_cons.mpr ⟨zk38, List.forall_mem_cons.mpr ⟨zk39, List.forall_mem_cons.mpr ⟨zk40, List.forall_mem_cons.mpr ⟨zk41, List.forall_mem_cons.mpr ⟨zk42, List.forall_mem_cons.mpr ⟨zk43, List.forall_mem_cons.mpr ⟨zk44, List.forall_mem_cons.mpr ⟨zk45, List.forall_mem_cons.mpr ⟨zk46, List.forall_mem_cons.mpr ⟨zk47, List.forall_mem_cons.mpr ⟨zk48, List.forall_mem_cons.mpr ⟨zk49, List.forall_mem_cons.mpr ⟨zk50, List.forall_mem_cons.mpr ⟨zk51, List.forall_mem_cons.mpr ⟨zk52, List.forall_mem_cons.mpr ⟨zk53, List.forall_mem_cons.mpr ⟨zk54, List.forall_mem_cons.mpr ⟨zk55, List.forall_mem_cons.mpr ⟨zk56, fun _ h => absurd h List.not_mem_nil⟩⟩⟩⟩⟩⟩⟩⟩⟩⟩⟩⟩⟩⟩⟩⟩⟩⟩⟩
set_option maxRecDepth 100000 in
theorem zq3 : ∀ q ∈ ([zM57, zM58, zM59, zM60, zM61, zM62, zM63, zM64, zM65, zM66, zM67, zM68, zM69, zM70, zM71, zM72, zM73, zM74, zM75] : List ME), MtOk q := List.forall_mem_cons.mpr ⟨zk57, List.forall_mem_cons.mpr ⟨zk58, List.forall_mem_cons.mpr ⟨zk59, List.forall_mem_cons.mpr ⟨zk60, List.forall_mem_cons.mpr ⟨zk61, List.forall_mem_cons.mpr ⟨zk62, List.forall_mem_cons.mpr ⟨zk63, List.forall_mem_cons.mpr ⟨zk64, List.forall_mem_cons.mpr ⟨zk65, List.forall_mem_cons.mpr ⟨zk66, List.forall_mem_cons.mpr ⟨zk67, List.forall_mem_cons.mpr ⟨zk68, List.forall_mem_cons.mpr ⟨zk69, List.forall_mem_cons.mpr ⟨zk70, List.forall_mem_cons.mpr ⟨zk71, List.forall_mem_cons.mpr ⟨zk72, List.forall_mem_cons.mpr ⟨zk73, List.forall_mem_cons.mpr ⟨zk74, List.forall_mem_cons.mpr ⟨zk75, fun _ h => absurd h List.not_mem_nil⟩⟩⟩⟩⟩⟩⟩⟩⟩⟩⟩⟩⟩⟩⟩⟩⟩⟩⟩
set_option maxRecDepth 100000 in
theorem zq4 : ∀ q ∈ ([zM76, zM77, zM78, zM79, zM80, zM81, zM82, zM83, zM84, zM85, zM86, zM87, zM88, zM89, zM90, zM91, zM92, zM93, zM94] : List ME), MtOk q := List.forall_mem_cons.mpr ⟨zk76, List.forall_mem_cons.mpr ⟨zk77, List.forall_mem_cons.mpr ⟨zk78, List.forall_mem_cons.mpr ⟨zk79, List.forall_mem_cons.mpr ⟨zk80, List.forall_mem_cons.mpr ⟨zk81, List.forall_mem_cons.mpr ⟨zk82, List.forall_mem_cons.mpr ⟨zk83, List.forall_mem_cons.mpr ⟨zk84, List.forall_mem_cons.mpr ⟨zk85, List.forall_mem_cons.mpr ⟨zk86, List.forall_mem_cons.mpr ⟨zk87, List.forall_mem_cons.mpr ⟨zk88, List.forall_mem_cons.mpr ⟨zk89, List.forall_mem_cons.mpr ⟨zk90, List.forall_mem_cons.mpr ⟨zk91, List.forall_mem_cons.mpr ⟨zk92, List.forall_mem_cons.mpr ⟨zk93, List.forall_mem_cons.mpr ⟨zk94, fun _ h => absurd h List.not_mem_nil⟩⟩⟩⟩⟩⟩⟩⟩⟩⟩⟩⟩⟩⟩⟩⟩⟩⟩⟩
set_option maxRecDepth 100000 in
theorem zq5 : ∀ q ∈ ([zM95, zM96, zM97, zM98, zM99, zM100, zM101, zM102, zM103, zM104, zM105, zM106, zM107, zM108, zM109, zM110, zM111, zM112, zM113] : List ME), MtOk q := List.forall_mem_cons.mpr ⟨zk95, List.forall_mem_cons.mpr ⟨zk96, List.forall_mem_cons.mpr ⟨zk97, List.forall_mem_cons.mpr ⟨zk98, List.forall_mem_cons.mpr ⟨zk99, List.forall_mem_cons.mpr ⟨zk100, List.forall_mem_cons.mpr ⟨zk101, List.forall_mem_cons.mpr ⟨zk102, List.forall_mem_cons.mpr ⟨zk103, List.forall_mem_cons.mpr ⟨zk104, List.forall_mem_cons.mpr ⟨zk105, List.forall_mem_cons.mpr ⟨zk106, List.forall_mem_cons.mpr ⟨zk107, List.forall_mem_cons.mpr ⟨zk108, List.forall_mem_cons.mpr ⟨zk109, List.forall_mem_cons.mpr ⟨zk110, List.forall_mem_cons.mpr ⟨zk111, List.forall_mem_cons.mpr ⟨zk112, List.forall_mem_cons.mpr ⟨zk113, fun _ h => absurd h List.not_mem_nil⟩⟩⟩⟩⟩⟩⟩⟩⟩⟩⟩⟩⟩⟩⟩⟩⟩⟩⟩
set_option maxRecDepth 100000 in
theorem zq6 : ∀ q ∈ ([zM114, zM115, zM116, zM117, zM118, zM119, zM120, zM121, zM122, zM123, zM124, zM125, zM126, zM127, zM128, zM129, zM130, zM131, zM132] : List ME), MtOk q := List.forall_mem_cons.mpr ⟨zk114, List.forall_mem_cons.mpr ⟨zk115, List.forall_mem_cons.mpr ⟨zk116, List.forall_mem_cons.mpr ⟨zk117, List.forall_mem_cons.mpr ⟨zk118, List.forall_mem_cons.mpr ⟨zk119, List.forall_mem_cons.mpr ⟨zk120, List.forall_mem_cons.mpr ⟨zk121, List.forall_mem_cons.mpr ⟨zk122, List.forall_mem_cons.mpr ⟨zk123, List.forall_mem_cons.mpr ⟨zk124, List.forall_mem_cons.mpr ⟨zk125, List.forall_mem_cons.mpr ⟨zk126, List.forall_mem_cons.mpr ⟨zk127, List.forall_mem_cons.mpr ⟨zk128, List.forall_mem_cons.mpr ⟨zk129, List.forall_mem_cons.mpr ⟨zk130, List.forall_mem_cons.mpr ⟨zk131, List.forall_mem_cons.mpr ⟨zk132, fun _ h => absurd h List.not_mem_nil⟩⟩⟩⟩⟩⟩⟩⟩⟩⟩⟩⟩⟩⟩⟩⟩⟩⟩⟩
set_option maxRecDepth 100000 in
theorem zq7 : ∀ q ∈ ([zM133, zM134, zM135, zM136, zM137, zM138, zM139, zM140, zM141, zM142, zM143, zM144, zM145, zM146, zM147, zM148, zM149, zM150, zM151] : List ME), MtOk q := List.forall_mem_cons.mpr ⟨zk133, List.forall_mem_cons.mpr ⟨zk134, List.forall_mem_cons.mpr ⟨zk135, List.forall_mem_cons.mpr ⟨zk136, List.forall_mem_cons.mpr ⟨zk137, List.forall_mem_cons.mpr ⟨zk138, List.forall_mem_cons.mpr ⟨zk139, List.forall_mem_cons.mpr ⟨zk140, List.forall_mem_cons.mpr ⟨zk141, List.forall_mem_cons.mpr ⟨zk142, List.forall_mem_cons.mpr ⟨zk143, List.forall_mem_cons.mpr ⟨zk144, List.forall_mem_cons.mpr ⟨zk145, List.forall_mem_cons.mpr ⟨zk146, List.forall_mem_cons.mpr ⟨zk147, List.forall_mem_cons.mpr ⟨zk148, List.forall_mem_cons.mpr ⟨zk149, List.forall_mem_cons.mpr ⟨zk150, List.forall_mem_cons.mpr ⟨zk151, fun _ h => absurd h List.not_mem_nil⟩⟩⟩⟩⟩⟩⟩⟩⟩⟩⟩⟩⟩⟩⟩⟩⟩⟩⟩
set_option maxRecDepth 100000 in
theorem zq8 : ∀ q ∈ ([zM152, zM153, zM154, zM155, zM156, zM157, zM158, zM159, zM160, zM161, zM162, zM163, zM164, zM165, zM166, zM167, zM168, zM169, zM170] : List ME), MtOk q := List.forall_mem_cons.mpr ⟨zk152, List.forall_mem_cons.mpr ⟨zk153, List.forall_mem_cons.mpr ⟨zk154, List.forall_mem_cons.mpr ⟨zk155, List.forall_mem_cons.mpr ⟨zk156, List.forall_mem_cons.mpr ⟨zk157, List.forall_mem_cons.mpr ⟨zk158, List.forall_mem_cons.mpr ⟨zk159, List.forall_mem_cons.mpr ⟨zk160, List.forall_mem_cons.mpr ⟨zk161, List.forall_mem_cons.mpr ⟨zk162, List.forall_mem_cons.mpr ⟨zk163, List.forall_mem_cons.mpr ⟨zk164, List.forall_mem_cons.mpr ⟨zk165, List.forall_mem_cons.mpr ⟨zk166, List.forall_mem_cons.mpr ⟨zk167, List.forall_mem_cons.mpr ⟨zk168, List.forall_mem_cons.mpr ⟨zk169, List.forall_mem_cons.mpr ⟨zk170, fun _ h => absurd h List.not_mem_nil⟩⟩⟩⟩⟩⟩⟩⟩⟩⟩⟩⟩⟩⟩⟩⟩⟩⟩⟩
set_option maxRecDepth 100000 in
theorem zq9 : ∀ q ∈ ([zM171, zM172, zM173, zM174, zM175, zM176, zM177, zM178, zM179, zM180, zM181, zM182, zM183, zM184, zM185, zM186, zM187, zM188, zM189] : List ME), MtOk q := List.forall_mem_cons.mpr ⟨zk171, List.forall_mem_cons.mpr ⟨zk172, List.forall_mem_cons.mpr ⟨zk173, List.forall_mem_cons.mpr ⟨zk174, List.forall_mem_cons.mpr ⟨zk175, List.forall_mem_cons.mpr ⟨zk176, List.forall_mem_cons.mpr ⟨zk177, List.forall_mem_cons.mpr ⟨zk178, List.forall_mem_cons.mpr ⟨zk179, List.forall_mem_cons.mpr ⟨zk180, List.forall_mem_cons.mpr ⟨zk181, List.forall_mem_cons.mpr ⟨zk182, List.forall_mem_cons.mpr ⟨zk183, List.forall_mem_cons.mpr ⟨zk184, List.forall_mem_cons.mpr ⟨zk185, List.forall_mem_cons.mpr ⟨zk186, List.forall_mem_cons.mpr ⟨zk187, List.forall_mem_cons.mpr ⟨zk188, List.forall_mem_cons.mpr ⟨zk189, fun _ h => absurd h List.not_mem_nil⟩⟩⟩⟩⟩⟩⟩⟩⟩⟩⟩⟩⟩⟩⟩⟩⟩⟩⟩
set_option maxRecDepth 100000 in
theorem zq10 : ∀ q ∈ ([zM190, zM191, zM192, zM193, zM194, zM195, zM196, zM197, zM198, zM199, zM200, zM201, zM202, zM203, zM204, zM205, zM206, zM207, zM208] : List ME), MtOk q := List.forall_mem_cons.mpr ⟨zk190, List.forall_mem_cons.mpr ⟨zk191, List.forall_mem_cons.mpr ⟨zk192, List.forall_mem_cons.mpr ⟨zk193, List.forall_mem_cons.mpr ⟨zk194, List.forall_mem_cons.mpr ⟨zk195, List.forall_mem_cons.mpr ⟨zk196, List.forall_mem_cons.mpr ⟨zk197, List.forall_mem_cons.mpr ⟨zk198, List.forall_mem_cons.mpr ⟨zk199, List.forall_mem_cons.mpr ⟨zk200, List.forall_mem_cons.mpr ⟨zk201, List.forall_mem_cons.mpr ⟨zk202, List.forall_mem_cons.mpr ⟨zk203, List.forall_mem_cons.mpr ⟨zk204, List.forall_mem_cons.mpr ⟨zk205, List.forall_mem_cons.mpr ⟨zk206, List.forall_mem_cons.mpr ⟨zk207, List.forall_mem_cons.mpr ⟨zk208, fun _ h => absurd h List.not_mem_nil⟩⟩⟩⟩⟩⟩⟩⟩⟩⟩⟩⟩⟩⟩⟩⟩⟩⟩⟩
set_option maxRecDepth 100000 in
theorem zq11 : ∀ q ∈ ([zM209, zM210, zM211, zM212, zM213, zM214, zM215, zM216, zM217, zM218, zM219, zM220, zM221, zM222, zM223, zM224, zM225, zM226, zM227] : List ME), MtOk q := List.forall_mem_cons.mpr ⟨zk209, List.forall_mem_cons.mpr ⟨zk210, List.forall_mem_cons.mpr ⟨zk211, List.forall_mem_cons.mpr ⟨zk212, List.forall_mem_cons.mpr ⟨zk213, List.forall_mem_cons.mpr ⟨zk214, List.forall_mem_cons.mpr ⟨zk215, List.forall_mem_cons.mpr ⟨zk216, List.forall_mem_cons.mpr ⟨zk217, List.forall_mem_cons.mpr ⟨zk218, List.forall_mem_cons.mpr ⟨zk219, List.forall_mem_cons.mpr ⟨zk220, List.forall_mem_cons.mpr ⟨zk221, List.forall_mem_cons.mpr ⟨zk222, List.forall_mem_cons.mpr ⟨zk223, List.forall_mem_cons.mpr ⟨zk224, List.forall_mem_cons.mpr ⟨zk225, List.forall_mem_cons.mpr ⟨zk226, List.forall_mem_cons.mpr ⟨zk227, fun _ h => absurd h List.not_mem_nil⟩⟩⟩⟩⟩⟩⟩⟩⟩⟩⟩⟩⟩⟩⟩⟩⟩⟩⟩
set_option maxRecDepth 100000 in
theorem zk_all : ∀ q ∈ mT0, MtOk q := List.forall_mem_append.mpr ⟨zq0, List.forall_mem_append.mpr ⟨zq1, List.forall_mem_append.mpr ⟨zq2, List.forall_mem_append.mpr ⟨zq3, List.forall_mem_append.mpr ⟨zq4, List.forall_mem_append.mpr ⟨zq5, List.forall_mem_append.mpr ⟨zq6, List.forall_mem_append.mpr ⟨zq7, List.forall_mem_append.mpr ⟨zq8, List.forall_mem_append.mpr ⟨zq9, List.forall_mem_append.mpr ⟨zq10, zq11⟩⟩⟩⟩⟩⟩⟩⟩⟩⟩⟩
set_option maxRecDepth 100000 in
theorem zrL : zL228.all (rwOk code) = true := by decide +kernel
set_option maxRecDepth 100000 in
theorem mE_ok {z : Nat} (h : z < 228) : MtOk (mE z) := by
  have e : mTab = mT0 ++ [zM228] := rfl
  have hl : z < mT0.length := h
  have e2 : mE z = mT0[z] := by
    unfold mE
    rw [e, List.getD_eq_getElem?_getD, List.getElem?_append_left hl, List.getElem?_eq_getElem hl]
    rfl
  rw [e2]
  exact zk_all _ (List.getElem_mem hl)
set_option maxRecDepth 100000 in
theorem lw_good : GoodIn lw_tbl lw_tbl := fun w hw => ⟨hw, good_of_word (List.all_eq_true.mp (by decide +kernel : lw_tbl.all goodWord = true) w hw)⟩
