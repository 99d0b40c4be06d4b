/-! THE CONSTRUCTORS: a second small machine, which makes cells; handle h is the cell N + h -/
abbrev NC : Type := Nat × List Value
abbrev NE : Type := (MethodName × ByteArray × Nat) × (Nat × Nat × Nat × Nat × Nat) × List (Nat × Row)
def nR0 : List (Nat × Row) := [(0, .aload_n 0, 1, 0, []), (1, .invokespecial 3, 3, 0, []), (4, .return_, 1, 0, [])]
abbrev nM0 : NE := ((⟨"EarRows$Gleaner", "<init>", "()V"⟩, prog_3_method_1_code, 1), (1, 1, 0, 0, 0), nR0)
def nR1 : List (Nat × Row) := [(0, .aload_n 0, 1, 0, []), (1, .invokespecial 3, 3, 0, []), (4, .aload_n 0, 1, 0, []), (5, .bipush 40, 2, 0, []), (7, .newarray .long, 2, 0, []), (9, .putfield 9, 3, 0, []), (12, .aload_n 0, 1, 0, []), (13, .iconst 0, 1, 0, []), (14, .putfield 15, 3, 0, []), (17, .aload_n 0, 1, 0, []), (18, .iconst 0, 1, 0, []), (19, .putfield 19, 3, 0, []), (22, .return_, 1, 0, [])]
abbrev nM1 : NE := ((⟨"EarRows$Sheet", "<init>", "()V"⟩, prog_5_method_1_code, 1), (2, 1, 0, 1, 40), nR1)
def nR2 : List (Nat × Row) := [(0, .aload_n 0, 1, 0, []), (1, .invokespecial 3, 3, 0, []), (4, .aload_n 0, 1, 0, []), (5, .bipush 120, 2, 0, []), (7, .newarray .byte, 2, 0, []), (9, .putfield 9, 3, 0, []), (12, .aload_n 0, 1, 0, []), (13, .iconst 0, 1, 0, []), (14, .putfield 15, 3, 0, []), (17, .return_, 1, 0, [])]
abbrev nM2 : NE := ((⟨"EarRows$Tape", "<init>", "()V"⟩, prog_6_method_1_code, 1), (3, 1, 0, 1, 120), nR2)
def nR3 : List (Nat × Row) := [(0, .aload_n 0, 1, 0, []), (1, .invokespecial 1, 3, 0, []), (4, .aload_n 0, 1, 0, []), (5, .aload_n 1, 1, 0, []), (6, .putfield 7, 3, 0, []), (9, .return_, 1, 0, [])]
abbrev nM3 : NE := ((⟨"EarRows$Tokens", "<init>", "(LEarRows$Tape;)V"⟩, prog_8_method_1_code, 2), (5, 1, 1, 0, 0), nR3)
def nR4 : List (Nat × Row) := [(0, .aload_n 0, 1, 0, []), (1, .invokespecial 3, 3, 0, []), (4, .aload_n 0, 1, 0, []), (5, .new 9, 3, 0, []), (8, .dup, 1, 0, []), (9, .aload_n 1, 1, 0, []), (10, .invokespecial 11, 3, 0, []), (13, .putfield 14, 3, 0, []), (16, .return_, 1, 0, [])]
abbrev nM4 : NE := ((⟨"EarRows$TextReader", "<init>", "(LEarRows$Tape;)V"⟩, prog_7_method_1_code, 2), (4, 2, 1, 1, 5), nR4)
def nR5 : List (Nat × Row) := [(0, .aload_n 0, 1, 0, []), (1, .invokespecial 3, 3, 0, []), (4, .aload_n 0, 1, 0, []), (5, .bipush 64, 2, 0, []), (7, .newarray .int, 2, 0, []), (9, .putfield 9, 3, 0, []), (12, .aload_n 0, 1, 0, []), (13, .bipush 9, 2, 0, []), (15, .anewarray 15, 3, 0, []), (18, .putfield 17, 3, 0, []), (21, .aload_n 0, 1, 0, []), (22, .iconst 0, 1, 0, []), (23, .putfield 21, 3, 0, []), (26, .aload_n 0, 1, 0, []), (27, .sipush 500, 3, 0, []), (30, .putfield 25, 3, 0, []), (33, .aload_n 0, 1, 0, []), (34, .iconst 0, 1, 0, []), (35, .putfield 28, 3, 0, []), (38, .aload_n 0, 1, 0, []), (39, .bipush 10, 2, 0, []), (41, .putfield 31, 3, 0, []), (44, .aload_n 0, 1, 0, []), (45, .sipush 9999, 3, 0, []), (48, .putfield 34, 3, 0, []), (51, .iconst 0, 1, 0, []), (52, .istore_n 1, 1, 0, []), (53, .iload_n 1, 1, 0, []), (54, .bipush 9, 2, 0, []), (56, .if_icmp .ge 22, 3, 78, []), (59, .aload_n 0, 1, 0, []), (60, .getfield 17, 3, 0, []), (63, .iload_n 1, 1, 0, []), (64, .new 15, 3, 0, []), (67, .dup, 1, 0, []), (68, .invokespecial 37, 3, 0, []), (71, .aastore, 1, 0, []), (72, .iinc 1 1, 3, 0, []), (75, .goto (-22), 3, 53, []), (78, .return_, 1, 0, [])]
abbrev nM5 : NE := ((⟨"EarRows$Field", "<init>", "()V"⟩, prog_2_method_1_code, 2), (0, 2, 0, 11, 145), nR5)
def nR6 : List (Nat × Row) := [(0, .aload_n 0, 1, 0, []), (1, .invokespecial 1, 3, 0, []), (4, .aload_n 0, 1, 0, []), (5, .new 7, 3, 0, []), (8, .dup, 1, 0, []), (9, .invokespecial 9, 3, 0, []), (12, .putfield 10, 3, 0, []), (15, .aload_n 0, 1, 0, []), (16, .new 7, 3, 0, []), (19, .dup, 1, 0, []), (20, .invokespecial 9, 3, 0, []), (23, .putfield 16, 3, 0, []), (26, .aload_n 0, 1, 0, []), (27, .new 7, 3, 0, []), (30, .dup, 1, 0, []), (31, .invokespecial 9, 3, 0, []), (34, .putfield 19, 3, 0, []), (37, .aload_n 0, 1, 0, []), (38, .iconst 0, 1, 0, []), (39, .putfield 22, 3, 0, []), (42, .aload_n 0, 1, 0, []), (43, .new 26, 3, 0, []), (46, .dup, 1, 0, []), (47, .invokespecial 28, 3, 0, []), (50, .putfield 29, 3, 0, []), (53, .aload_n 0, 1, 0, []), (54, .new 33, 3, 0, []), (57, .dup, 1, 0, []), (58, .aload_n 0, 1, 0, []), (59, .getfield 29, 3, 0, []), (62, .invokespecial 35, 3, 0, []), (65, .putfield 38, 3, 0, []), (68, .aload_n 0, 1, 0, []), (69, .iconst 4, 1, 0, []), (70, .anewarray 42, 3, 0, []), (73, .putfield 44, 3, 0, []), (76, .aload_n 0, 1, 0, []), (77, .bipush 7, 2, 0, []), (79, .newarray .int, 2, 0, []), (81, .putfield 48, 3, 0, []), (84, .iconst 0, 1, 0, []), (85, .istore_n 1, 1, 0, []), (86, .iload_n 1, 1, 0, []), (87, .iconst 4, 1, 0, []), (88, .if_icmp .ge 22, 3, 110, []), (91, .aload_n 0, 1, 0, []), (92, .getfield 44, 3, 0, []), (95, .iload_n 1, 1, 0, []), (96, .new 42, 3, 0, []), (99, .dup, 1, 0, []), (100, .invokespecial 52, 3, 0, []), (103, .aastore, 1, 0, []), (104, .iinc 1 1, 3, 0, []), (107, .goto (-21), 3, 86, []), (110, .return_, 1, 0, [])]
abbrev nM6 : NE := ((⟨"EarRows", "<init>", "()V"⟩, prog_1_method_1_code, 2), (6, 3, 0, 50, 767), nR6)
def nR7 : List (Nat × Row) := [(0, .aload_n 0, 1, 0, []), (1, .invokespecial 1, 3, 0, []), (4, .aload_n 0, 1, 0, []), (5, .sipush 141, 3, 0, []), (8, .newarray .int, 2, 0, []), (10, .putfield 9, 3, 0, []), (13, .aload_n 0, 1, 0, []), (14, .sipush 141, 3, 0, []), (17, .newarray .int, 2, 0, []), (19, .putfield 13, 3, 0, []), (22, .aload_n 0, 1, 0, []), (23, .sipush 141, 3, 0, []), (26, .newarray .int, 2, 0, []), (28, .putfield 16, 3, 0, []), (31, .aload_n 0, 1, 0, []), (32, .bipush 8, 2, 0, []), (34, .newarray .int, 2, 0, []), (36, .putfield 19, 3, 0, []), (39, .aload_n 0, 1, 0, []), (40, .bipush 120, 2, 0, []), (42, .newarray .int, 2, 0, []), (44, .putfield 22, 3, 0, []), (47, .aload_n 0, 1, 0, []), (48, .bipush 6, 2, 0, []), (50, .anewarray 25, 3, 0, []), (53, .dup, 1, 0, []), (54, .iconst 0, 1, 0, []), (55, .ldc 27, 2, 0, []), (57, .aastore, 1, 0, []), (58, .dup, 1, 0, []), (59, .iconst 1, 1, 0, []), (60, .ldc 29, 2, 0, []), (62, .aastore, 1, 0, []), (63, .dup, 1, 0, []), (64, .iconst 2, 1, 0, []), (65, .ldc 31, 2, 0, []), (67, .aastore, 1, 0, []), (68, .dup, 1, 0, []), (69, .iconst 3, 1, 0, []), (70, .ldc 33, 2, 0, []), (72, .aastore, 1, 0, []), (73, .dup, 1, 0, []), (74, .iconst 4, 1, 0, []), (75, .ldc 35, 2, 0, []), (77, .aastore, 1, 0, []), (78, .dup, 1, 0, []), (79, .iconst 5, 1, 0, []), (80, .ldc 37, 2, 0, []), (82, .aastore, 1, 0, []), (83, .putfield 39, 3, 0, []), (86, .aload_n 0, 1, 0, []), (87, .sipush 600, 3, 0, []), (90, .newarray .int, 2, 0, []), (92, .putfield 43, 3, 0, []), (95, .aload_n 0, 1, 0, []), (96, .iconst 4, 1, 0, []), (97, .newarray .int, 2, 0, []), (99, .putfield 46, 3, 0, []), (102, .aload_n 0, 1, 0, []), (103, .iconst 4, 1, 0, []), (104, .newarray .int, 2, 0, []), (106, .putfield 49, 3, 0, []), (109, .aload_n 0, 1, 0, []), (110, .sipush 160, 3, 0, []), (113, .newarray .long, 2, 0, []), (115, .putfield 52, 3, 0, []), (118, .aload_n 0, 1, 0, []), (119, .bipush 40, 2, 0, []), (121, .newarray .long, 2, 0, []), (123, .putfield 56, 3, 0, []), (126, .aload_n 0, 1, 0, []), (127, .getfield 9, 3, 0, []), (130, .bipush 65, 2, 0, []), (132, .bipush 10, 2, 0, []), (134, .iastore, 1, 0, []), (135, .aload_n 0, 1, 0, []), (136, .getfield 9, 3, 0, []), (139, .bipush 66, 2, 0, []), (141, .sipush 9999, 3, 0, []), (144, .iastore, 1, 0, []), (145, .aload_n 0, 1, 0, []), (146, .getfield 9, 3, 0, []), (149, .bipush 67, 2, 0, []), (151, .sipush 500, 3, 0, []), (154, .iastore, 1, 0, []), (155, .return_, 1, 0, [])]
abbrev nM7 : NE := ((⟨"EarRowsModel", "<init>", "()V"⟩, prog_10_method_1_code, 1), (7, 1, 0, 11, 1365), nR7)
def nE (z : Nat) : NE := match z with
  | 0 => nM0
  | 1 => nM1
  | 2 => nM2
  | 3 => nM3
  | 4 => nM4
  | 5 => nM5
  | 6 => nM6
  | _ => nM7
def nY (z : Nat) : MethodName := (nE z).1.1
def nB (z : Nat) : ByteArray := (nE z).1.2.1
def nL (z : Nat) : Nat := (nE z).1.2.2
def nO (z : Nat) : Nat := (nE z).2.1.1
def nK (z : Nat) : Nat := (nE z).2.1.2.1
def nA (z : Nat) : Nat := (nE z).2.1.2.2.1
def nCc (z : Nat) : Nat := (nE z).2.1.2.2.2.1
def nCs (z : Nat) : Nat := (nE z).2.1.2.2.2.2
def nW (z : Nat) : List (Nat × Row) := (nE z).2.2
def NNL : List (Nat × Nat) := [(60007, 0), (15, 1), (60026, 3), (60033, 4), (40009, 5), (60042, 2)]
def NAL : List (Nat × Nat) := [(15, 11), (60042, 12), (70025, 13)]
def NSL : List (Nat × Nat × Bool) := [(60001, 99, false), (60009, 5, false), (3, 99, false), (37, 0, true), (10003, 99, false), (60028, 2, true), (30003, 99, false), (60035, 4, false), (40003, 99, false), (40011, 3, false), (50001, 99, false), (60052, 1, true), (20003, 99, false), (70001, 99, false)]
def arN : List String := ["", "", "", "", "", "", "", "", "", "", "", "EarRows$Gleaner", "EarRows$Sheet", "java/lang/String"]
set_option maxRecDepth 100000 in
theorem nn_w : ∀ w ∈ NNL.map (fun q => Cond.classLink (cN (q.1 / 10000)) (q.1 % 10000) (cN q.2)), w ∈ lw_tbl := sbq_ok lw_tbl _ (by decide +kernel)
set_option maxRecDepth 100000 in
theorem na_w : ∀ w ∈ NAL.map (fun q => Cond.classLink (cN (q.1 / 10000)) (q.1 % 10000) (arN.getD q.2 "")), w ∈ lw_tbl := sbq_ok lw_tbl _ (by decide +kernel)
theorem nn_b : ∀ q ∈ NNL, q.2 < 8 := by decide +kernel
theorem na_b : ∀ q ∈ NAL, 11 ≤ q.2 ∧ q.2 ≤ 13 := by decide +kernel
def nsW (q : Nat × Nat × Bool) : Cond := if q.2.1 = 99 then Cond.methodLink (cN (q.1 / 10000)) (q.1 % 10000) objectInit else if q.2.2 = true then Cond.methodLinkNest (cN (q.1 / 10000)) (q.1 % 10000) (nY q.2.1) "EarRows" else Cond.methodLink (cN (q.1 / 10000)) (q.1 % 10000) (nY q.2.1)
set_option maxRecDepth 100000 in
theorem ns_w : ∀ w ∈ NSL.map nsW, w ∈ lw_tbl := sbq_ok lw_tbl _ (by decide +kernel)
theorem ns_b : ∀ q ∈ NSL, q.2.1 < 8 ∨ q.2.1 = 99 := by decide +kernel
def pnI : List Nat := [6, 0, 1, 3, 4, 5, 2, 7]
set_option maxRecDepth 100000 in
theorem ni_w : ∀ w ∈ pnI.map (fun c => Cond.instantiable (cN c) (nfL.getD c 0)), w ∈ lw_tbl := sbq_ok lw_tbl _ (by decide +kernel)
theorem ni_a : ∀ c, c < 8 → c ∈ pnI := by decide +kernel
theorem nj_a : ∀ c, c < 8 → c ∈ pmN := by decide +kernel
theorem inst_in {c : Nat} (h : c < 8) : Cond.instantiable (cN c) (nfL.getD c 0) ∈ TBL := inTBL (ni_w _ (List.mem_map.mpr ⟨c, ni_a c h, rfl⟩)) rfl
theorem init_in {c : Nat} (h : c < 8) : Cond.initialized (cN c) ∈ TBL := inTBL (pn_w _ (List.mem_map.mpr ⟨c, nj_a c h, rfl⟩)) rfl
def pnM : List Nat := [6, 5, 0, 2, 4, 3, 1, 7]
set_option maxRecDepth 100000 in
theorem nm_w : ∀ w ∈ pnM.map (fun z => Cond.instanceMethod (nY z)), w ∈ lw_tbl := sbq_ok lw_tbl _ (by decide +kernel)
theorem nm_a : ∀ c, c < 8 → c ∈ pnM := by decide +kernel
theorem nc0 : Cond.code (nY 0) (nB 0) (nL 0) none ∈ lw_tbl := inT1 (List.mem_of_getElem? (i := 36) rfl)
theorem nc1 : Cond.code (nY 1) (nB 1) (nL 1) none ∈ lw_tbl := inT1 (List.mem_of_getElem? (i := 171) rfl)
theorem nc2 : Cond.code (nY 2) (nB 2) (nL 2) none ∈ lw_tbl := inT1 (List.mem_of_getElem? (i := 118) rfl)
theorem nc3 : Cond.code (nY 3) (nB 3) (nL 3) none ∈ lw_tbl := inT1 (List.mem_of_getElem? (i := 141) rfl)
theorem nc4 : Cond.code (nY 4) (nB 4) (nL 4) none ∈ lw_tbl := inT1 (List.mem_of_getElem? (i := 135) rfl)
theorem nc5 : Cond.code (nY 5) (nB 5) (nL 5) none ∈ lw_tbl := inT1 (List.mem_of_getElem? (i := 29) rfl)
theorem nc6 : Cond.code (nY 6) (nB 6) (nL 6) none ∈ lw_tbl := inT1 (List.mem_of_getElem? (i := 21) rfl)
theorem nc7 : Cond.code (nY 7) (nB 7) (nL 7) none ∈ lw_tbl := inT4 (List.mem_of_getElem? (i := 78) rfl)
theorem nc_in {z : Nat} (h : z < 8) : Cond.code (nY z) (nB z) (nL z) none ∈ TBL := by
  refine inTBL ?_ rfl
  match z, h with
  | 0, _ => exact nc0
  | 1, _ => exact nc1
  | 2, _ => exact nc2
  | 3, _ => exact nc3
  | 4, _ => exact nc4
  | 5, _ => exact nc5
  | 6, _ => exact nc6
  | 7, _ => exact nc7
theorem nobj : Cond.code objectInit ⟨#[0xb1]⟩ 1 none ∈ TBL := inTBL (inT1 (List.mem_of_getElem? (i := 24) rfl)) rfl
theorem nobjI : Cond.instanceMethod objectInit ∈ TBL := inTBL (inT1 (List.mem_of_getElem? (i := 23) rfl)) rfl
theorem narr0 : Cond.arrayClass .int ∈ TBL := inTBL (inT1 (List.mem_of_getElem? (i := 80) rfl)) rfl
theorem narr1 : Cond.arrayClass .byte ∈ TBL := inTBL (inT1 (List.mem_of_getElem? (i := 130) rfl)) rfl
theorem narr2 : Cond.arrayClass .long ∈ TBL := inTBL (inT1 (List.mem_of_getElem? (i := 186) rfl)) rfl
theorem nover11 : Cond.arrayOver (.object "EarRows$Gleaner") ∈ lw_tbl := inT1 (List.mem_of_getElem? (i := 32) rfl)
theorem nover12 : Cond.arrayOver (.object "EarRows$Sheet") ∈ lw_tbl := inT1 (List.mem_of_getElem? (i := 167) rfl)
theorem nover13 : Cond.arrayOver (.object "java/lang/String") ∈ lw_tbl := inT4 (List.mem_of_getElem? (i := 81) rfl)
set_option maxRecDepth 100000 in
theorem nd0 : (nW 0).all (fun q => decide (decode (nB 0) q.1 = .ok (q.2.1, q.2.2.1)) && (match q.2.1 with
  | .if_icmp _ off => decide ((q.1 : Int) + off = (q.2.2.2.1 : Int))
  | .goto off => decide ((q.1 : Int) + off = (q.2.2.2.1 : Int))
  | _ => true)) = true := by decide +kernel
set_option maxRecDepth 100000 in
theorem nd1 : (nW 1).all (fun q => decide (decode (nB 1) q.1 = .ok (q.2.1, q.2.2.1)) && (match q.2.1 with
  | .if_icmp _ off => decide ((q.1 : Int) + off = (q.2.2.2.1 : Int))
  | .goto off => decide ((q.1 : Int) + off = (q.2.2.2.1 : Int))
  | _ => true)) = true := by decide +kernel
set_option maxRecDepth 100000 in
theorem nd2 : (nW 2).all (fun q => decide (decode (nB 2) q.1 = .ok (q.2.1, q.2.2.1)) && (match q.2.1 with
  | .if_icmp _ off => decide ((q.1 : Int) + off = (q.2.2.2.1 : Int))
  | .goto off => decide ((q.1 : Int) + off = (q.2.2.2.1 : Int))
  | _ => true)) = true := by decide +kernel
set_option maxRecDepth 100000 in
theorem nd3 : (nW 3).all (fun q => decide (decode (nB 3) q.1 = .ok (q.2.1, q.2.2.1)) && (match q.2.1 with
  | .if_icmp _ off => decide ((q.1 : Int) + off = (q.2.2.2.1 : Int))
  | .goto off => decide ((q.1 : Int) + off = (q.2.2.2.1 : Int))
  | _ => true)) = true := by decide +kernel
set_option maxRecDepth 100000 in
theorem nd4 : (nW 4).all (fun q => decide (decode (nB 4) q.1 = .ok (q.2.1, q.2.2.1)) && (match q.2.1 with
  | .if_icmp _ off => decide ((q.1 : Int) + off = (q.2.2.2.1 : Int))
  | .goto off => decide ((q.1 : Int) + off = (q.2.2.2.1 : Int))
  | _ => true)) = true := by decide +kernel
set_option maxRecDepth 100000 in
theorem nd5 : (nW 5).all (fun q => decide (decode (nB 5) q.1 = .ok (q.2.1, q.2.2.1)) && (match q.2.1 with
  | .if_icmp _ off => decide ((q.1 : Int) + off = (q.2.2.2.1 : Int))
  | .goto off => decide ((q.1 : Int) + off = (q.2.2.2.1 : Int))
  | _ => true)) = true := by decide +kernel
set_option maxRecDepth 100000 in
theorem nd6 : (nW 6).all (fun q => decide (decode (nB 6) q.1 = .ok (q.2.1, q.2.2.1)) && (match q.2.1 with
  | .if_icmp _ off => decide ((q.1 : Int) + off = (q.2.2.2.1 : Int))
  | .goto off => decide ((q.1 : Int) + off = (q.2.2.2.1 : Int))
  | _ => true)) = true := by decide +kernel
set_option maxRecDepth 100000 in
theorem nd7 : (nW 7).all (fun q => decide (decode (nB 7) q.1 = .ok (q.2.1, q.2.2.1)) && (match q.2.1 with
  | .if_icmp _ off => decide ((q.1 : Int) + off = (q.2.2.2.1 : Int))
  | .goto off => decide ((q.1 : Int) + off = (q.2.2.2.1 : Int))
  | _ => true)) = true := by decide +kernel
theorem ndk : ∀ z, z < 8 → plainName (nY z).cls = true ∧ (nY z).cls = cN (nO z) ∧ (nY z).cls ≠ "java/lang/invoke/MethodHandle" ∧ (nY z).cls ≠ "java/lang/invoke/VarHandle" ∧ (parseMethodDescriptor (nY z).desc).map (fun d => d.parameters.length) = some (nA z) ∧ nL z ≤ 18 ∧ (nY z).name = "<init>" ∧ nO z < 8 := by decide +kernel
