/-! 16.ctor -/
/-! THE CONSTRUCTORS: a second small machine, which makes cells; handle h is the cell N + h -/
abbrev NC : Type := Nat × List Value
abbrev NE : Type := (MethodName × ByteArray × Nat) × (Nat × Nat × Nat × Nat × Nat) × List (Nat × Row)
def nR0 : List (Nat × Row) := [(0, .aload_n 0, 1, 0, []), (1, .invokespecial 3, 3, 0, []), (4, .return_, 1, 0, [])]
abbrev nM0 : NE := ((⟨"EarRows$Gleaner", "<init>", "()V"⟩, prog_3_method_1_code, 1), (1, 1, 0, 0, 0), nR0)
def nR1 : List (Nat × Row) := [(0, .aload_n 0, 1, 0, []), (1, .invokespecial 3, 3, 0, []), (4, .aload_n 0, 1, 0, []), (5, .bipush 40, 2, 0, []), (7, .newarray .long, 2, 0, []), (9, .putfield 9, 3, 0, []), (12, .aload_n 0, 1, 0, []), (13, .iconst 0, 1, 0, []), (14, .putfield 15, 3, 0, []), (17, .aload_n 0, 1, 0, []), (18, .iconst 0, 1, 0, []), (19, .putfield 19, 3, 0, []), (22, .return_, 1, 0, [])]
abbrev nM1 : NE := ((⟨"EarRows$Sheet", "<init>", "()V"⟩, prog_5_method_1_code, 1), (2, 1, 0, 1, 40), nR1)
def nR2 : List (Nat × Row) := [(0, .aload_n 0, 1, 0, []), (1, .invokespecial 3, 3, 0, []), (4, .aload_n 0, 1, 0, []), (5, .bipush 120, 2, 0, []), (7, .newarray .byte, 2, 0, []), (9, .putfield 9, 3, 0, []), (12, .aload_n 0, 1, 0, []), (13, .iconst 0, 1, 0, []), (14, .putfield 15, 3, 0, []), (17, .return_, 1, 0, [])]
abbrev nM2 : NE := ((⟨"EarRows$Tape", "<init>", "()V"⟩, prog_6_method_1_code, 1), (3, 1, 0, 1, 120), nR2)
def nR3 : List (Nat × Row) := [(0, .aload_n 0, 1, 0, []), (1, .invokespecial 1, 3, 0, []), (4, .aload_n 0, 1, 0, []), (5, .aload_n 1, 1, 0, []), (6, .putfield 7, 3, 0, []), (9, .return_, 1, 0, [])]
abbrev nM3 : NE := ((⟨"EarRows$Tokens", "<init>", "(LEarRows$Tape;)V"⟩, prog_8_method_1_code, 2), (5, 1, 1, 0, 0), nR3)
def nR4 : List (Nat × Row) := [(0, .aload_n 0, 1, 0, []), (1, .invokespecial 3, 3, 0, []), (4, .aload_n 0, 1, 0, []), (5, .new 9, 3, 0, []), (8, .dup, 1, 0, []), (9, .aload_n 1, 1, 0, []), (10, .invokespecial 11, 3, 0, []), (13, .putfield 14, 3, 0, []), (16, .return_, 1, 0, [])]
abbrev nM4 : NE := ((⟨"EarRows$TextReader", "<init>", "(LEarRows$Tape;)V"⟩, prog_7_method_1_code, 2), (4, 2, 1, 1, 5), nR4)
def nR5 : List (Nat × Row) := [(0, .aload_n 0, 1, 0, []), (1, .invokespecial 3, 3, 0, []), (4, .aload_n 0, 1, 0, []), (5, .bipush 64, 2, 0, []), (7, .newarray .int, 2, 0, []), (9, .putfield 9, 3, 0, []), (12, .aload_n 0, 1, 0, []), (13, .bipush 9, 2, 0, []), (15, .anewarray 15, 3, 0, []), (18, .putfield 17, 3, 0, []), (21, .aload_n 0, 1, 0, []), (22, .iconst 0, 1, 0, []), (23, .putfield 21, 3, 0, []), (26, .aload_n 0, 1, 0, []), (27, .sipush 500, 3, 0, []), (30, .putfield 25, 3, 0, []), (33, .aload_n 0, 1, 0, []), (34, .iconst 0, 1, 0, []), (35, .putfield 28, 3, 0, []), (38, .aload_n 0, 1, 0, []), (39, .bipush 10, 2, 0, []), (41, .putfield 31, 3, 0, []), (44, .aload_n 0, 1, 0, []), (45, .sipush 9999, 3, 0, []), (48, .putfield 34, 3, 0, []), (51, .iconst 0, 1, 0, []), (52, .istore_n 1, 1, 0, []), (53, .iload_n 1, 1, 0, []), (54, .bipush 9, 2, 0, []), (56, .if_icmp .ge 22, 3, 78, []), (59, .aload_n 0, 1, 0, []), (60, .getfield 17, 3, 0, []), (63, .iload_n 1, 1, 0, []), (64, .new 15, 3, 0, []), (67, .dup, 1, 0, []), (68, .invokespecial 37, 3, 0, []), (71, .aastore, 1, 0, []), (72, .iinc 1 1, 3, 0, []), (75, .goto (-22), 3, 53, []), (78, .return_, 1, 0, [])]
abbrev nM5 : NE := ((⟨"EarRows$Field", "<init>", "()V"⟩, prog_2_method_1_code, 2), (0, 2, 0, 11, 145), nR5)
def nR6 : List (Nat × Row) := [(0, .aload_n 0, 1, 0, []), (1, .invokespecial 1, 3, 0, []), (4, .aload_n 0, 1, 0, []), (5, .new 7, 3, 0, []), (8, .dup, 1, 0, []), (9, .invokespecial 9, 3, 0, []), (12, .putfield 10, 3, 0, []), (15, .aload_n 0, 1, 0, []), (16, .new 7, 3, 0, []), (19, .dup, 1, 0, []), (20, .invokespecial 9, 3, 0, []), (23, .putfield 16, 3, 0, []), (26, .aload_n 0, 1, 0, []), (27, .new 7, 3, 0, []), (30, .dup, 1, 0, []), (31, .invokespecial 9, 3, 0, []), (34, .putfield 19, 3, 0, []), (37, .aload_n 0, 1, 0, []), (38, .iconst 0, 1, 0, []), (39, .putfield 22, 3, 0, []), (42, .aload_n 0, 1, 0, []), (43, .new 26, 3, 0, []), (46, .dup, 1, 0, []), (47, .invokespecial 28, 3, 0, []), (50, .putfield 29, 3, 0, []), (53, .aload_n 0, 1, 0, []), (54, .new 33, 3, 0, []), (57, .dup, 1, 0, []), (58, .aload_n 0, 1, 0, []), (59, .getfield 29, 3, 0, []), (62, .invokespecial 35, 3, 0, []), (65, .putfield 38, 3, 0, []), (68, .aload_n 0, 1, 0, []), (69, .iconst 4, 1, 0, []), (70, .anewarray 42, 3, 0, []), (73, .putfield 44, 3, 0, []), (76, .aload_n 0, 1, 0, []), (77, .bipush 7, 2, 0, []), (79, .newarray .int, 2, 0, []), (81, .putfield 48, 3, 0, []), (84, .iconst 0, 1, 0, []), (85, .istore_n 1, 1, 0, []), (86, .iload_n 1, 1, 0, []), (87, .iconst 4, 1, 0, []), (88, .if_icmp .ge 22, 3, 110, []), (91, .aload_n 0, 1, 0, []), (92, .getfield 44, 3, 0, []), (95, .iload_n 1, 1, 0, []), (96, .new 42, 3, 0, []), (99, .dup, 1, 0, []), (100, .invokespecial 52, 3, 0, []), (103, .aastore, 1, 0, []), (104, .iinc 1 1, 3, 0, []), (107, .goto (-21), 3, 86, []), (110, .return_, 1, 0, [])]
abbrev nM6 : NE := ((⟨"EarRows", "<init>", "()V"⟩, prog_1_method_1_code, 2), (6, 3, 0, 50, 767), nR6)
def nR7 : List (Nat × Row) := [(0, .aload_n 0, 1, 0, []), (1, .invokespecial 1, 3, 0, []), (4, .aload_n 0, 1, 0, []), (5, .sipush 141, 3, 0, []), (8, .newarray .int, 2, 0, []), (10, .putfield 9, 3, 0, []), (13, .aload_n 0, 1, 0, []), (14, .sipush 141, 3, 0, []), (17, .newarray .int, 2, 0, []), (19, .putfield 13, 3, 0, []), (22, .aload_n 0, 1, 0, []), (23, .sipush 141, 3, 0, []), (26, .newarray .int, 2, 0, []), (28, .putfield 16, 3, 0, []), (31, .aload_n 0, 1, 0, []), (32, .bipush 8, 2, 0, []), (34, .newarray .int, 2, 0, []), (36, .putfield 19, 3, 0, []), (39, .aload_n 0, 1, 0, []), (40, .bipush 120, 2, 0, []), (42, .newarray .int, 2, 0, []), (44, .putfield 22, 3, 0, []), (47, .aload_n 0, 1, 0, []), (48, .bipush 6, 2, 0, []), (50, .anewarray 25, 3, 0, []), (53, .dup, 1, 0, []), (54, .iconst 0, 1, 0, []), (55, .ldc 27, 2, 0, []), (57, .aastore, 1, 0, []), (58, .dup, 1, 0, []), (59, .iconst 1, 1, 0, []), (60, .ldc 29, 2, 0, []), (62, .aastore, 1, 0, []), (63, .dup, 1, 0, []), (64, .iconst 2, 1, 0, []), (65, .ldc 31, 2, 0, []), (67, .aastore, 1, 0, []), (68, .dup, 1, 0, []), (69, .iconst 3, 1, 0, []), (70, .ldc 33, 2, 0, []), (72, .aastore, 1, 0, []), (73, .dup, 1, 0, []), (74, .iconst 4, 1, 0, []), (75, .ldc 35, 2, 0, []), (77, .aastore, 1, 0, []), (78, .dup, 1, 0, []), (79, .iconst 5, 1, 0, []), (80, .ldc 37, 2, 0, []), (82, .aastore, 1, 0, []), (83, .putfield 39, 3, 0, []), (86, .aload_n 0, 1, 0, []), (87, .sipush 600, 3, 0, []), (90, .newarray .int, 2, 0, []), (92, .putfield 43, 3, 0, []), (95, .aload_n 0, 1, 0, []), (96, .iconst 4, 1, 0, []), (97, .newarray .int, 2, 0, []), (99, .putfield 46, 3, 0, []), (102, .aload_n 0, 1, 0, []), (103, .iconst 4, 1, 0, []), (104, .newarray .int, 2, 0, []), (106, .putfield 49, 3, 0, []), (109, .aload_n 0, 1, 0, []), (110, .sipush 160, 3, 0, []), (113, .newarray .long, 2, 0, []), (115, .putfield 52, 3, 0, []), (118, .aload_n 0, 1, 0, []), (119, .bipush 40, 2, 0, []), (121, .newarray .long, 2, 0, []), (123, .putfield 56, 3, 0, []), (126, .aload_n 0, 1, 0, []), (127, .getfield 9, 3, 0, []), (130, .bipush 65, 2, 0, []), (132, .bipush 10, 2, 0, []), (134, .iastore, 1, 0, []), (135, .aload_n 0, 1, 0, []), (136, .getfield 9, 3, 0, []), (139, .bipush 66, 2, 0, []), (141, .sipush 9999, 3, 0, []), (144, .iastore, 1, 0, []), (145, .aload_n 0, 1, 0, []), (146, .getfield 9, 3, 0, []), (149, .bipush 67, 2, 0, []), (151, .sipush 500, 3, 0, []), (154, .iastore, 1, 0, []), (155, .return_, 1, 0, [])]
abbrev nM7 : NE := ((⟨"EarRowsModel", "<init>", "()V"⟩, prog_10_method_1_code, 1), (7, 1, 0, 11, 1365), nR7)
def nE (z : Nat) : NE := match z with
  | 0 => nM0
  | 1 => nM1
  | 2 => nM2
  | 3 => nM3
  | 4 => nM4
  | 5 => nM5
  | 6 => nM6
  | _ => nM7
def nY (z : Nat) : MethodName := (nE z).1.1
def nB (z : Nat) : ByteArray := (nE z).1.2.1
def nL (z : Nat) : Nat := (nE z).1.2.2
def nO (z : Nat) : Nat := (nE z).2.1.1
def nK (z : Nat) : Nat := (nE z).2.1.2.1
def nA (z : Nat) : Nat := (nE z).2.1.2.2.1
def nCc (z : Nat) : Nat := (nE z).2.1.2.2.2.1
def nCs (z : Nat) : Nat := (nE z).2.1.2.2.2.2
def nW (z : Nat) : List (Nat × Row) := (nE z).2.2
def NNL : List (Nat × Nat) := [(60007, 0), (15, 1), (60026, 3), (60033, 4), (40009, 5), (60042, 2)]
def NAL : List (Nat × Nat) := [(15, 11), (60042, 12), (70025, 13)]
def NSL : List (Nat × Nat × Bool) := [(60001, 99, false), (60009, 5, false), (3, 99, false), (37, 0, true), (10003, 99, false), (60028, 2, true), (30003, 99, false), (60035, 4, false), (40003, 99, false), (40011, 3, false), (50001, 99, false), (60052, 1, true), (20003, 99, false), (70001, 99, false)]
def arN : List String := ["", "", "", "", "", "", "", "", "", "", "", "EarRows$Gleaner", "EarRows$Sheet", "java/lang/String"]
set_option maxRecDepth 100000 in
theorem nn_w : ∀ w ∈ NNL.map (fun q => Cond.classLink (cN (q.1 / 10000)) (q.1 % 10000) (cN q.2)), w ∈ lw_tbl := sbq_ok lw_tbl _ (by decide +kernel)
set_option maxRecDepth 100000 in
theorem na_w : ∀ w ∈ NAL.map (fun q => Cond.classLink (cN (q.1 / 10000)) (q.1 % 10000) (arN.getD q.2 "")), w ∈ lw_tbl := sbq_ok lw_tbl _ (by decide +kernel)
theorem nn_b : ∀ q ∈ NNL, q.2 < 8 := by decide +kernel
theorem na_b : ∀ q ∈ NAL, 11 ≤ q.2 ∧ q.2 ≤ 13 := by decide +kernel
def nsW (q : Nat × Nat × Bool) : Cond := if q.2.1 = 99 then Cond.methodLink (cN (q.1 / 10000)) (q.1 % 10000) objectInit else if q.2.2 = true then Cond.methodLinkNest (cN (q.1 / 10000)) (q.1 % 10000) (nY q.2.1) "EarRows" else Cond.methodLink (cN (q.1 / 10000)) (q.1 % 10000) (nY q.2.1)
set_option maxRecDepth 100000 in
theorem ns_w : ∀ w ∈ NSL.map nsW, w ∈ lw_tbl := sbq_ok lw_tbl _ (by decide +kernel)
theorem ns_b : ∀ q ∈ NSL, q.2.1 < 8 ∨ q.2.1 = 99 := by decide +kernel
def pnI : List Nat := [6, 0, 1, 3, 4, 5, 2, 7]
set_option maxRecDepth 100000 in
theorem ni_w : ∀ w ∈ pnI.map (fun c => Cond.instantiable (cN c) (nfL.getD c 0)), w ∈ lw_tbl := sbq_ok lw_tbl _ (by decide +kernel)
theorem ni_a : ∀ c, c < 8 → c ∈ pnI := by decide +kernel
theorem nj_a : ∀ c, c < 8 → c ∈ pmN := by decide +kernel
theorem inst_in {c : Nat} (h : c < 8) : Cond.instantiable (cN c) (nfL.getD c 0) ∈ TBL := inTBL (ni_w _ (List.mem_map.mpr ⟨c, ni_a c h, rfl⟩)) rfl
theorem init_in {c : Nat} (h : c < 8) : Cond.initialized (cN c) ∈ TBL := inTBL (pn_w _ (List.mem_map.mpr ⟨c, nj_a c h, rfl⟩)) rfl
def pnM : List Nat := [6, 5, 0, 2, 4, 3, 1, 7]
set_option maxRecDepth 100000 in
theorem nm_w : ∀ w ∈ pnM.map (fun z => Cond.instanceMethod (nY z)), w ∈ lw_tbl := sbq_ok lw_tbl _ (by decide +kernel)
theorem nm_a : ∀ c, c < 8 → c ∈ pnM := by decide +kernel
theorem nc0 : Cond.code (nY 0) (nB 0) (nL 0) none ∈ lw_tbl := inT1 (List.mem_of_getElem? (i := 36) rfl)
theorem nc1 : Cond.code (nY 1) (nB 1) (nL 1) none ∈ lw_tbl := inT1 (List.mem_of_getElem? (i := 171) rfl)
theorem nc2 : Cond.code (nY 2) (nB 2) (nL 2) none ∈ lw_tbl := inT1 (List.mem_of_getElem? (i := 118) rfl)
theorem nc3 : Cond.code (nY 3) (nB 3) (nL 3) none ∈ lw_tbl := inT1 (List.mem_of_getElem? (i := 141) rfl)
theorem nc4 : Cond.code (nY 4) (nB 4) (nL 4) none ∈ lw_tbl := inT1 (List.mem_of_getElem? (i := 135) rfl)
theorem nc5 : Cond.code (nY 5) (nB 5) (nL 5) none ∈ lw_tbl := inT1 (List.mem_of_getElem? (i := 29) rfl)
theorem nc6 : Cond.code (nY 6) (nB 6) (nL 6) none ∈ lw_tbl := inT1 (List.mem_of_getElem? (i := 21) rfl)
theorem nc7 : Cond.code (nY 7) (nB 7) (nL 7) none ∈ lw_tbl := inT4 (List.mem_of_getElem? (i := 78) rfl)
theorem nc_in {z : Nat} (h : z < 8) : Cond.code (nY z) (nB z) (nL z) none ∈ TBL := by
  refine inTBL ?_ rfl
  match z, h with
  | 0, _ => exact nc0
  | 1, _ => exact nc1
  | 2, _ => exact nc2
  | 3, _ => exact nc3
  | 4, _ => exact nc4
  | 5, _ => exact nc5
  | 6, _ => exact nc6
  | 7, _ => exact nc7
theorem nobj : Cond.code objectInit ⟨#[0xb1]⟩ 1 none ∈ TBL := inTBL (inT1 (List.mem_of_getElem? (i := 24) rfl)) rfl
theorem nobjI : Cond.instanceMethod objectInit ∈ TBL := inTBL (inT1 (List.mem_of_getElem? (i := 23) rfl)) rfl
theorem narr0 : Cond.arrayClass .int ∈ TBL := inTBL (inT1 (List.mem_of_getElem? (i := 80) rfl)) rfl
theorem narr1 : Cond.arrayClass .byte ∈ TBL := inTBL (inT1 (List.mem_of_getElem? (i := 130) rfl)) rfl
theorem narr2 : Cond.arrayClass .long ∈ TBL := inTBL (inT1 (List.mem_of_getElem? (i := 186) rfl)) rfl
theorem nover11 : Cond.arrayOver (.object "EarRows$Gleaner") ∈ lw_tbl := inT1 (List.mem_of_getElem? (i := 32) rfl)
theorem nover12 : Cond.arrayOver (.object "EarRows$Sheet") ∈ lw_tbl := inT1 (List.mem_of_getElem? (i := 167) rfl)
theorem nover13 : Cond.arrayOver (.object "java/lang/String") ∈ lw_tbl := inT4 (List.mem_of_getElem? (i := 81) rfl)
set_option maxRecDepth 100000 in
theorem nd0 : (nW 0).all (fun q => decide (decode (nB 0) q.1 = .ok (q.2.1, q.2.2.1)) && (match q.2.1 with
  | .if_icmp _ off => decide ((q.1 : Int) + off = (q.2.2.2.1 : Int))
  | .goto off => decide ((q.1 : Int) + off = (q.2.2.2.1 : Int))
  | _ => true)) = true := by decide +kernel
set_option maxRecDepth 100000 in
theorem nd1 : (nW 1).all (fun q => decide (decode (nB 1) q.1 = .ok (q.2.1, q.2.2.1)) && (match q.2.1 with
  | .if_icmp _ off => decide ((q.1 : Int) + off = (q.2.2.2.1 : Int))
  | .goto off => decide ((q.1 : Int) + off = (q.2.2.2.1 : Int))
  | _ => true)) = true := by decide +kernel
set_option maxRecDepth 100000 in
theorem nd2 : (nW 2).all (fun q => decide (decode (nB 2) q.1 = .ok (q.2.1, q.2.2.1)) && (match q.2.1 with
  | .if_icmp _ off => decide ((q.1 : Int) + off = (q.2.2.2.1 : Int))
  | .goto off => decide ((q.1 : Int) + off = (q.2.2.2.1 : Int))
  | _ => true)) = true := by decide +kernel
set_option maxRecDepth 100000 in
theorem nd3 : (nW 3).all (fun q => decide (decode (nB 3) q.1 = .ok (q.2.1, q.2.2.1)) && (match q.2.1 with
  | .if_icmp _ off => decide ((q.1 : Int) + off = (q.2.2.2.1 : Int))
  | .goto off => decide ((q.1 : Int) + off = (q.2.2.2.1 : Int))
  | _ => true)) = true := by decide +kernel
set_option maxRecDepth 100000 in
theorem nd4 : (nW 4).all (fun q => decide (decode (nB 4) q.1 = .ok (q.2.1, q.2.2.1)) && (match q.2.1 with
  | .if_icmp _ off => decide ((q.1 : Int) + off = (q.2.2.2.1 : Int))
  | .goto off => decide ((q.1 : Int) + off = (q.2.2.2.1 : Int))
  | _ => true)) = true := by decide +kernel
set_option maxRecDepth 100000 in
theorem nd5 : (nW 5).all (fun q => decide (decode (nB 5) q.1 = .ok (q.2.1, q.2.2.1)) && (match q.2.1 with
  | .if_icmp _ off => decide ((q.1 : Int) + off = (q.2.2.2.1 : Int))
  | .goto off => decide ((q.1 : Int) + off = (q.2.2.2.1 : Int))
  | _ => true)) = true := by decide +kernel
set_option maxRecDepth 100000 in
theorem nd6 : (nW 6).all (fun q => decide (decode (nB 6) q.1 = .ok (q.2.1, q.2.2.1)) && (match q.2.1 with
  | .if_icmp _ off => decide ((q.1 : Int) + off = (q.2.2.2.1 : Int))
  | .goto off => decide ((q.1 : Int) + off = (q.2.2.2.1 : Int))
  | _ => true)) = true := by decide +kernel
set_option maxRecDepth 100000 in
theorem nd7 : (nW 7).all (fun q => decide (decode (nB 7) q.1 = .ok (q.2.1, q.2.2.1)) && (match q.2.1 with
  | .if_icmp _ off => decide ((q.1 : Int) + off = (q.2.2.2.1 : Int))
  | .goto off => decide ((q.1 : Int) + off = (q.2.2.2.1 : Int))
  | _ => true)) = true := by decide +kernel
theorem ndk : ∀ z, z < 8 → plainName (nY z).cls = true ∧ (nY z).cls = cN (nO z) ∧ (nY z).cls ≠ "java/lang/invoke/MethodHandle" ∧ (nY z).cls ≠ "java/lang/invoke/VarHandle" ∧ (parseMethodDescriptor (nY z).desc).map (fun d => d.parameters.length) = some (nA z) ∧ nL z ≤ 18 ∧ (nY z).name = "<init>" ∧ nO z < 8 := by decide +kernel
/-! 17.make -/
def gI (vs : List Value) (j : Nat) : Int32 := match vs.getD j .null with
  | .int x => x
  | _ => 0
def gL (vs : List Value) (j : Nat) : Int64 := match vs.getD j .null with
  | .long x => x
  | _ => 0
def gR (u : UV) (vs : List Value) (j : Nat) : Option Nat := match vs.getD j .null with
  | .ref h => some (xA u h)
  | _ => none
def nt (u : UV) (c : NC) : va_E := if c.1 < 8 then .inr (c.1, c.2.map (tv u)) else if c.1 < 10 then .inl (xC u c.1, c.2.length, .inl (gI c.2)) else if c.1 = 10 then .inl (xC u 10, c.2.length, .inr (.inl (gL c.2))) else .inl (xC u c.1, c.2.length, .inr (.inr (.inr (.inr (gR u c.2)))))
def nw (u : UV) (ws : List NC) : va_W := ws.zipIdx.map (fun q => (xA u q.2, nt u q.1))
theorem nw_at (u : UV) (ws : List NC) (h : Nat) : (nw u ws)[h]? = (ws[h]?).map (fun c => (xA u h, nt u c)) := by
  unfold nw
  rw [List.getElem?_map, List.getElem?_zipIdx]
  cases ws[h]? <;> simp
theorem nw_get {u : UV} {ws : List NC} {h : Nat} {c : NC} (e : ws[h]? = some c) : (nw u ws)[h]? = some (xA u h, nt u c) := by rw [nw_at, e]; rfl
theorem nw_len (u : UV) (ws : List NC) : (nw u ws).length = ws.length := by unfold nw; rw [List.length_map, List.length_zipIdx]
theorem nw_set {u : UV} {ws : List NC} {h : Nat} {c0 c : NC} {x : va_E} (e : ws[h]? = some c0) (hx : x = nt u c) : (nw u ws).set h (xA u h, x) = nw u (ws.set h c) := by
  subst hx
  have hl := (List.getElem?_eq_some_iff.mp e).1
  apply List.ext_getElem?
  intro j
  by_cases hj : j = h
  · subst hj
    rw [List.getElem?_set_self (by rw [nw_len]; exact hl), nw_at, List.getElem?_set_self hl]
    rfl
  · rw [List.getElem?_set_ne (Ne.symm hj), nw_at, nw_at, List.getElem?_set_ne (Ne.symm hj)]
theorem nw_app (u : UV) (ws : List NC) (c : NC) : nw u (ws ++ [c]) = nw u ws ++ [(xA u ws.length, nt u c)] := by
  unfold nw
  rw [List.zipIdx_append, List.map_append]
  simp
theorem nw_D {u : UV} {N : Nat} (hx : ∀ h, h < 63 → xA u h = N + h) {ws : List NC} (hl : ws.length ≤ 63) : va_D (fun q => N ≤ q) (nw u ws) := by
  have key : ∀ (i : Nat) (q : Nat × va_E), (nw u ws)[i]? = some q → i < 63 ∧ q.1 = N + i := by
    intro i q hq
    rw [nw_at] at hq
    cases hc : ws[i]? with
    | none => rw [hc] at hq; cases hq
    | some c =>
      rw [hc] at hq
      have hi : i < 63 := by have := (List.getElem?_eq_some_iff.mp hc).1; omega
      cases hq
      exact ⟨hi, hx i hi⟩
  refine ⟨fun i j p q hp hq e => ?_, fun k q hq => ?_⟩
  · have h1 := (key i p hp).2
    have h2 := (key j q hq).2
    omega
  · have h1 := (key k q hq).2
    show N ≤ q.1
    omega
def df (ci : Nat) : List Value := (List.range (nfL.getD ci 0)).map (fun k => if rt ci k = true then .null else .int 0)
theorem df_ok : ∀ ci, ci < 8 → ∀ j, j < nfL.getD ci 0 → defaultValue (zty ci j) = (df ci).getD j .null ∧ ((df ci).getD j .null = .null ∨ (df ci).getD j .null = .int 0) := by decide +kernel
def pfo (ci k : Nat) (v : Value) : Bool := match v with
  | .int x => !(rt ci k) && (!(bz ci k) || x == 0)
  | .ref _ => rt ci k
  | _ => false
def aso (ws : List NC) (k v : Nat) : Bool := if k = 13 then decide (100 ≤ v) && decide (v < 116) else decide ((ws[v]?).map (fun q => q.1) = some (k - 10))
/-! the machine -/
def nst (go : Nat → List Value → List Value → List NC → Nat → Nat → Option (List NC)) (call : Nat → List Value → List NC → Option (List NC)) (z pc : Nat) (r : Row) (lv st : List Value) (ws : List NC) (c s : Nat) : Option (List NC) :=
  match r.1 with
  | .aload_n i => match lv[(i : Nat)]? with
    | some (.ref h) => go (pc + 1) lv (.ref h :: st) ws c s
    | _ => none
  | .iload_n i => match lv[(i : Nat)]? with
    | some (.int x) => go (pc + 1) lv (.int x :: st) ws c s
    | _ => none
  | .istore_n i => match st with
    | .int x :: st => if (i : Nat) < lv.length then go (pc + 1) (lv.set i (.int x)) st ws c s else none
    | _ => none
  | .iinc i n => match lv[i]? with
    | some (.int x) => go (pc + 3) (lv.set i (.int (x + Int32.ofInt n))) st ws c s
    | _ => none
  | .iconst n => go (pc + 1) lv (.int (Int32.ofInt n) :: st) ws c s
  | .bipush n => go (pc + 2) lv (.int (Int8.ofInt n).toInt32 :: st) ws c s
  | .sipush n => go (pc + 3) lv (.int (Int16.ofInt n).toInt32 :: st) ws c s
  | .ldc i => match lk SLT (nO z) i with
    | some n => if i < 10000 ∧ n < 16 then go (pc + 2) lv (.ref (100 + n) :: st) ws c s else none
    | none => none
  | .dup => match st with
    | .ref h :: st => go (pc + 1) lv (.ref h :: .ref h :: st) ws c s
    | _ => none
  | .if_icmp .ge _ => match st with
    | .int b :: .int a :: st => if b ≤ a then go r.2.2.1 lv st ws c s else go (pc + 3) lv st ws c s
    | _ => none
  | .goto _ => go r.2.2.1 lv st ws c s
  | .new i => match lk NNL (nO z) i with
    | some ci => if i < 10000 ∧ ws.length < 63 ∧ c + 1 ≤ nCc z ∧ s + nfL.getD ci 0 ≤ nCs z then go (pc + 3) lv (.ref ws.length :: st) (ws ++ [(ci, df ci)]) (c + 1) (s + nfL.getD ci 0) else none
    | none => none
  | .newarray t => match st with
    | .int n :: st => if ¬ n < 0 ∧ n.toNatClampNeg ≤ 1000 ∧ ws.length < 63 ∧ c + 1 ≤ nCc z ∧ s + n.toNatClampNeg ≤ nCs z then
        (match t with
        | .int => go (pc + 2) lv (.ref ws.length :: st) (ws ++ [(8, List.replicate n.toNatClampNeg (.int 0))]) (c + 1) (s + n.toNatClampNeg)
        | .byte => go (pc + 2) lv (.ref ws.length :: st) (ws ++ [(9, List.replicate n.toNatClampNeg (.int 0))]) (c + 1) (s + n.toNatClampNeg)
        | .long => go (pc + 2) lv (.ref ws.length :: st) (ws ++ [(10, List.replicate n.toNatClampNeg (.long 0))]) (c + 1) (s + n.toNatClampNeg)
        | _ => none) else none
    | _ => none
  | .anewarray i => match st with
    | .int n :: st => match lk NAL (nO z) i with
      | some k => if i < 10000 ∧ ¬ n < 0 ∧ n.toNatClampNeg ≤ 1000 ∧ ws.length < 63 ∧ c + 1 ≤ nCc z ∧ s + n.toNatClampNeg ≤ nCs z then go (pc + 3) lv (.ref ws.length :: st) (ws ++ [(k, List.replicate n.toNatClampNeg .null)]) (c + 1) (s + n.toNatClampNeg) else none
      | none => none
    | _ => none
  | .aastore => match st with
    | .ref v :: .int i :: .ref h :: st => match ws[h]? with
      | some (k, vs) => if 11 ≤ k ∧ k ≤ 13 ∧ ¬ i < 0 ∧ i.toNatClampNeg < vs.length ∧ aso ws k v = true then go (pc + 1) lv st (ws.set h (k, vs.set i.toNatClampNeg (.ref v))) c s else none
      | none => none
    | _ => none
  | .iastore => match st with
    | .int x :: .int i :: .ref h :: st => match ws[h]? with
      | some (k, vs) => if k = 8 ∧ ¬ i < 0 ∧ i.toNatClampNeg < vs.length then go (pc + 1) lv st (ws.set h (k, vs.set i.toNatClampNeg (.int x))) c s else none
      | none => none
    | _ => none
  | .getfield i => match st with
    | .ref h :: st => match lk FLT (nO z) i, ws[h]? with
      | some (ci, k), some (k0, vs) => if i < 10000 ∧ ci < 8 ∧ k0 = ci then (match vs[k]? with
        | some v => go (pc + 3) lv (v :: st) ws c s
        | none => none) else none
      | _, _ => none
    | _ => none
  | .putfield i => match st with
    | v :: .ref h :: st => match lk FLT (nO z) i, ws[h]? with
      | some (ci, k), some (k0, vs) => if i < 10000 ∧ ci < 8 ∧ k0 = ci ∧ ci = nO z ∧ k < vs.length ∧ pfo ci k v = true then go (pc + 3) lv st (ws.set h (ci, vs.set k v)) c s else none
      | _, _ => none
    | _ => none
  | .invokespecial i => match lk NSL (nO z) i with
    | some (z', _) => if z' = 99 then (match st with
        | .ref _ :: st => if i < 10000 ∧ cats st ≤ 8 then go (pc + 3) lv st ws c s else none
        | _ => none)
      else if i < 10000 ∧ z' < 8 ∧ nK z' < nK z ∧ nA z' + 1 ≤ st.length ∧ cats (st.drop (nA z' + 1)) ≤ 8 ∧ (slots1 (st.take (nA z' + 1))).length ≤ nL z' ∧ c + nCc z' ≤ nCc z ∧ s + nCs z' ≤ nCs z ∧ (st.take (nA z' + 1)).all (fun v => decide (v.category = 1)) = true then
        (match st[nA z']? with
        | some (.ref _) => match call z' ((st.take (nA z' + 1)).reverse) ws with
          | some ws1 => if ws1.length ≤ 63 then go (pc + 3) lv (st.drop (nA z' + 1)) ws1 (c + nCc z') (s + nCs z') else none
          | none => none
        | _ => none) else none
    | none => none
  | .return_ => match st with
    | [] => if c ≤ nCc z ∧ s ≤ nCs z then some ws else none
    | _ => none
  | _ => none
def nrow (z pc : Nat) : Option Row := (nW z).lookup pc
def nrun : Nat → Nat → Nat → List Value → List Value → List NC → Nat → Nat → Option (List NC)
  | 0, _, _, _, _, _, _, _ => none
  | f + 1, z, pc, lv, st, ws, c, s => match nrow z pc with
    | none => none
    | some r => nst (nrun f z) (fun z' as ws => nrun f z' 0 (ent (nL z') as) [] ws 0 0) z pc r lv st ws c s
/-- what EarRows() and EarRowsModel() make -/
def nW1 : Option (List NC) := nrun 2000 6 0 (ent (nL 6) [.ref 0]) [] [(6, df 6)] 0 0
def nW2 : Option (List NC) := nW1.bind (fun w => nrun 2000 7 0 (ent (nL 7) [.ref 51]) [] (w ++ [(7, df 7)]) 0 0)
theorem nW2_some : nW2.isSome = true := by decide +kernel
theorem nW1_len : (nW1.map List.length) = some 51 := by decide +kernel
theorem nW2_len : (nW2.map List.length) = some 63 := by decide +kernel
/-! 18.nsound -/
def inN (u : UV) (N : Nat) (s : State) : Prop := va_K (xD u) zCl (tyL u) s ∧ (∀ h, h < 63 → xA u h = N + h) ∧ vk_S 16 lenS bytS (fun i => xA u (100 + i)) (fun i => xA u (200 + i)) (fun q => N ≤ q) s s.heap ∧ (∀ q ∈ SLT, vk_R (cN (q.1 / 10000)) (q.1 % 10000) (stL.getD q.2 "") (xA u (100 + q.2)) s) ∧ (∀ q ∈ NSL, q.2.2 = true → va_Nw (.methodLinkNest (cN (q.1 / 10000)) (q.1 % 10000) (nY q.2.1) "EarRows") s) ∧ (va_AO "EarRows$Gleaner" s ∧ va_AO "EarRows$Sheet" s ∧ va_AO "java/lang/String" s) ∧ (xF u).category = 1
theorem inN.mv {u : UV} {N : Nat} {s U : State} (h : inN u N s) (hk : ∀ q : Nat, q < s.heap.size → ¬ N ≤ q → U.heap[q]? = s.heap[q]?) (hA : s.vm.Alike U.vm)
    (hR : ∀ own k tx a, vk_R own k tx a s → vk_R own k tx a U) (hN : ∀ a i x h, va_Nw (.methodLinkNest a i x h) s → va_Nw (.methodLinkNest a i x h) U) : inN u N U := by
  obtain ⟨h1, h2, h6, h9, h10, ⟨h11, h12, h13⟩, h14⟩ := h
  exact ⟨va_K.moved hA h1, h2, (h6.kept hk).moved hA, fun q hq => hR _ _ _ _ (h9 q hq), fun q hq e => hN _ _ _ _ (h10 q hq e), ⟨h11.moved hA, h12.moved hA, h13.moved hA⟩, h14⟩
theorem inN.go {u : UV} {N : Nat} {s U : State} {H : Heap} {locs : List Loc} (h : inN u N s) (hS : va_S (fun q => N ≤ q) s.heap H locs) (hU : U.heap = H) (hW : s.WarmedH U.vm) : inN u N U := by
  subst hU
  exact h.mv hS.2.1 hW.alike (fun _ _ _ _ q => q.warm hW) (fun _ _ _ _ q => va_Nw.warmM hW q)
theorem inN.blind {u : UV} {N : Nat} {U : State} (h : inN u N U) (g : JFrame) (mk : MethodId) (a : Array Value) : inN u N (U.calling g mk a) :=
  h.mv (fun _ _ _ => rfl) (Vm.Alike.refl U.vm) (fun _ _ _ _ q => vk_R.same rfl q) (fun _ _ _ _ q => va_Nw.same rfl rfl q)
def wsN (z : Nat) : List Cond := Cond.code (nY z) (nB z) (nL z) none :: TBL
def rmN (z : Nat) : Room := { frames := nK z, cells := nCc z, slots := nCs z, locals := 37 * nK z }
def pcN (u : UV) (N : Nat) (as : List Value) (ws : List NC) : Array Value → State → Prop := fun a U => a = (as.map (tv u)).toArray ∧ inN u N U ∧ U.heap.size = N + ws.length ∧ va_P (xD u) zCl (nw u ws) U.heap
def qcN (u : UV) (N : Nat) (ws : List NC) : Array Value → State → Outcome → State → Prop := fun _ st oc t => (oc = .returned none ∧ t.heap.size = N + ws.length ∧ va_P (xD u) zCl (nw u ws) t.heap) ∧ va_F (fun q => N ≤ q) st t
def NCall (u : UV) (N z : Nat) (as : List Value) (ws ws' : List NC) : Prop := Met u.1 (nY z) (wsN z) (rmN z) (pcN u N as ws) (qcN u N ws') (nCc z) (nCs z) (fun q => N ≤ q)
def ncx (u : UV) (N z : Nat) (p : Program) (R : Room) (s : State) (m : MethodId) (args : Array Value) (meth : Method) (cd : Code) : Prop :=
  p.tables.exec = Jvm.exec ∧ cd.code = nB z ∧ cd.maxLocals = nL z ∧ s.vm.findClass (cN (nO z)) = some m.cls ∧ (∀ w ∈ TBL, w.before args s = true) ∧ inN u N s ∧ meth.name = "<init>" ∧ nK z ≤ R.frames ∧ 37 * nK z ≤ R.locals ∧ nCc z ≤ R.cells ∧ nCs z ≤ R.slots ∧ (∀ q, s.heap.size ≤ q → N ≤ q)
def nrt (u : UV) (N z : Nat) (p : Program) (e : Env) (R : Room) (s : State) (m : MethodId) (args : Array Value) (below : List Frame) (meth : Method) (cd : Code) (Z : State → Prop) (ws' : List NC) : Prop :=
  ∀ (H : Heap) (locs : List Loc) (ls : Array Slot) (pc c sl : Nat), c ≤ nCc z → sl ≤ nCs z → H.size = N + ws'.length → va_P (xD u) zCl (nw u ws') H → va_S (fun q => N ≤ q) s.heap H locs → decode (nB z) pc = .ok (.return_, 1) → W p u.1 e R s m args below meth cd H locs c sl Z (F0 m pc ls [])
def NW (u : UV) (N z pc : Nat) (lv st : List Value) (ws : List NC) (c sl : Nat) (ws' : List NC) : Prop :=
  ∀ (p : Program) (e : Env) (R : Room) (s : State) (m : MethodId) (args : Array Value) (below : List Frame) (meth : Method) (cd : Code) (Z : State → Prop) (H : Heap) (locs : List Loc) (ls : Array Slot),
    ncx u N z p R s m args meth cd → nrt u N z p e R s m args below meth cd Z ws' → H.size = N + ws.length → ws.length ≤ 63 → va_P (xD u) zCl (nw u ws) H → va_S (fun q => N ≤ q) s.heap H locs → lv_has ls (nL z) (asl u lv) → lv.length = nL z → (∀ v ∈ lv, v.category = 1) →
    W p u.1 e R s m args below meth cd H locs c sl Z (F0 m pc ls (st.map (tv u)))
def ilen2 (ins : Instr) : Nat := match ins with
  | .new _ => 3
  | .anewarray _ => 3
  | .newarray _ => 2
  | .invokespecial _ => 3
  | i => ilen i
theorem nl_w : (List.range 8).all (fun z => (nW z).all (fun q => ilen2 q.2.1 == q.2.2.1)) = true := by decide +kernel
theorem nd_w {z : Nat} (h : z < 8) : (nW z).all (fun q => decide (decode (nB z) q.1 = .ok (q.2.1, q.2.2.1)) && (match q.2.1 with
  | .if_icmp _ off => decide ((q.1 : Int) + off = (q.2.2.2.1 : Int))
  | .goto off => decide ((q.1 : Int) + off = (q.2.2.2.1 : Int))
  | _ => true)) = true := by
  match z, h with
  | 0, _ => exact nd0
  | 1, _ => exact nd1
  | 2, _ => exact nd2
  | 3, _ => exact nd3
  | 4, _ => exact nd4
  | 5, _ => exact nd5
  | 6, _ => exact nd6
  | 7, _ => exact nd7
theorem nrow_mem {z pc : Nat} {r : Row} (h : nrow z pc = some r) : (pc, r) ∈ nW z := by
  unfold nrow at h
  generalize nW z = l at h
  induction l with
  | nil => simp at h
  | cons a l ih =>
    obtain ⟨a1, a2⟩ := a
    simp only [List.lookup] at h
    split at h
    · rename_i e
      cases h
      rw [eq_of_beq e]
      exact List.mem_cons_self
    · exact List.mem_cons_of_mem _ (ih h)
theorem n_dec {z pc : Nat} {r : Row} {ins : Instr} {n : Nat} (hz : z < 8) (hr : nrow z pc = some r) (e : r.1 = ins) (hn : ilen2 ins = n) : decode (nB z) pc = .ok (ins, n) := by
  have h1 := List.all_eq_true.mp (nd_w hz) _ (nrow_mem hr)
  rw [Bool.and_eq_true, decide_eq_true_eq] at h1
  have h2 := List.all_eq_true.mp (List.all_eq_true.mp nl_w z (List.mem_range.mpr hz)) _ (nrow_mem hr)
  rw [beq_iff_eq] at h2
  dsimp only at h1 h2
  rw [← hn, ← e, h2]
  exact h1.1
theorem n_tgt {z pc : Nat} {r : Row} {off : Int} (hz : z < 8) (hr : nrow z pc = some r) (e : (∃ c, r.1 = .if_icmp c off) ∨ r.1 = .goto off) : (pc : Int) + off = (r.2.2.1 : Int) := by
  have h1 := List.all_eq_true.mp (nd_w hz) _ (nrow_mem hr)
  rw [Bool.and_eq_true] at h1
  obtain ⟨i, l, t, sw⟩ := r
  dsimp only at e h1 ⊢
  rcases e with ⟨c, rfl⟩ | rfl
  · exact of_decide_eq_true h1.2
  · exact of_decide_eq_true h1.2
abbrev Gn (u : UV) (N z : Nat) (ws' : List NC) (go : Nat → List Value → List Value → List NC → Nat → Nat → Option (List NC)) : Prop := ∀ pc lv st ws c s, go pc lv st ws c s = some ws' → NW u N z pc lv st ws c s ws'
theorem lv_upN {u : UV} (hF : (xF u).category = 1) {ls : Array Slot} {n i : Nat} {lv : List Value} {v : Value} (hv : v ≠ .null) (hg : ∀ v ∈ lv, v.category = 1) (hi : i < lv.length)
    (h : lv_has ls n ((i, tv u v) :: (asl u lv).filter (fun q => !(q.1 == i) && !(q.1 + 1 == i && q.2.category == 2)))) : lv_has ls n (asl u (lv.set i v)) := by
  refine ⟨h.1, h.2.1, fun q hq => ?_⟩
  obtain ⟨j, w, h1, h2, rfl⟩ := mem_asl.mp hq
  by_cases hj : j = i
  · subst hj
    rw [List.getElem?_set_self hi] at h1
    cases h1
    exact h.2.2 _ List.mem_cons_self
  · rw [List.getElem?_set_ne (Ne.symm hj)] at h1
    refine h.2.2 _ (List.mem_cons_of_mem _ (List.mem_filter.mpr ⟨mem_asl.mpr ⟨j, w, h1, h2, rfl⟩, ?_⟩))
    have hc : ¬ (tv u w).category = 2 := by
      rw [tv_cat hF, hg w (List.mem_of_getElem? h1)]
      decide
    simp only [Bool.and_eq_true, Bool.not_eq_true', beq_eq_false_iff_ne, Bool.and_eq_false_iff, ne_eq]
    exact ⟨hj, Or.inr hc⟩
section NN
variable {u : UV} {N z pc : Nat} {r : Row} {lv st : List Value} {ws ws' : List NC} {c s : Nat} {go : Nat → List Value → List Value → List NC → Nat → Nat → Option (List NC)} {call : Nat → List Value → List NC → Option (List NC)}
theorem m_aload_n {i : Fin 4} (hz : z < 8) (hr : nrow z pc = some r) (hg : Gn u N z ws' go) (ei : r.1 = .aload_n i) (h : nst go call z pc r lv st ws c s = some ws') : NW u N z pc lv st ws c s ws' := by
  simp only [nst, ei] at h
  split at h
  · rename_i x hx
    intro p e R s0 m args below meth cd Z H locs ls C T Hz Hn P S L N1 G
    exact lv_aload_n C.1 C.2.1 (n_dec hz hr ei rfl) rfl (lv_get L hx (by simp)) (hg _ _ _ _ _ _ h p e R s0 m args below meth cd Z H locs ls C T Hz Hn P S L N1 G)
  · cases h
theorem m_iload_n {i : Fin 4} (hz : z < 8) (hr : nrow z pc = some r) (hg : Gn u N z ws' go) (ei : r.1 = .iload_n i) (h : nst go call z pc r lv st ws c s = some ws') : NW u N z pc lv st ws c s ws' := by
  simp only [nst, ei] at h
  split at h
  · rename_i x hx
    intro p e R s0 m args below meth cd Z H locs ls C T Hz Hn P S L N1 G
    exact lv_iload_n C.1 C.2.1 (n_dec hz hr ei rfl) rfl (lv_get L hx (by simp)) (hg _ _ _ _ _ _ h p e R s0 m args below meth cd Z H locs ls C T Hz Hn P S L N1 G)
  · cases h
theorem m_istore_n {i : Fin 4} (hz : z < 8) (hr : nrow z pc = some r) (hg : Gn u N z ws' go) (ei : r.1 = .istore_n i) (h : nst go call z pc r lv st ws c s = some ws') : NW u N z pc lv st ws c s ws' := by
  simp only [nst, ei] at h
  split at h
  · rename_i x s1
    split at h
    · rename_i hc
      intro p e R s0 m args below meth cd Z H locs ls C T Hz Hn P S L N1 G
      exact lv_istore_n C.1 C.2.1 (n_dec hz hr ei rfl) rfl L (by rw [← N1]; exact hc) rfl (fun ls2 h2 => hg _ _ _ _ _ _ h p e R s0 m args below meth cd Z H locs ls2 C T Hz Hn P S (lv_upN C.2.2.2.2.2.1.2.2.2.2.2.2 (v := .int x) (by simp) G hc h2) (by rw [List.length_set]; exact N1) (fun v hv => (List.mem_or_eq_of_mem_set hv).elim (G v) (fun q => by rw [q]; rfl)))
    · cases h
  · cases h
theorem m_iinc {i : Nat} {n : Int} (hz : z < 8) (hr : nrow z pc = some r) (hg : Gn u N z ws' go) (ei : r.1 = .iinc i n) (h : nst go call z pc r lv st ws c s = some ws') : NW u N z pc lv st ws c s ws' := by
  simp only [nst, ei] at h
  split at h
  · rename_i x hx
    intro p e R s0 m args below meth cd Z H locs ls C T Hz Hn P S L N1 G
    have hc : i < lv.length := (List.getElem?_eq_some_iff.mp hx).1
    obtain ⟨k, hk⟩ := List.getElem?_of_mem (mem_asl.mpr ⟨i, .int x, hx, by simp, rfl⟩ : (i, tv u (.int x)) ∈ asl u lv)
    exact lv_iinc C.1 C.2.1 (n_dec hz hr ei rfl) L (k := k) hk rfl (by rw [← N1]; exact hc) rfl (fun ls2 h2 => hg _ _ _ _ _ _ h p e R s0 m args below meth cd Z H locs ls2 C T Hz Hn P S (lv_upN C.2.2.2.2.2.1.2.2.2.2.2.2 (v := .int (x + Int32.ofInt n)) (by simp) G hc h2) (by rw [List.length_set]; exact N1) (fun v hv => (List.mem_or_eq_of_mem_set hv).elim (G v) (fun q => by rw [q]; rfl)))
  · cases h
theorem m_iconst {n : Int} (hz : z < 8) (hr : nrow z pc = some r) (hg : Gn u N z ws' go) (ei : r.1 = .iconst n) (h : nst go call z pc r lv st ws c s = some ws') : NW u N z pc lv st ws c s ws' := by
  simp only [nst, ei] at h
  intro p e R s0 m args below meth cd Z H locs ls C T Hz Hn P S L N1 G
  exact lv_iconst C.1 C.2.1 (n_dec hz hr ei rfl) rfl (hg _ _ _ _ _ _ h p e R s0 m args below meth cd Z H locs ls C T Hz Hn P S L N1 G)
theorem m_bipush {n : Int} (hz : z < 8) (hr : nrow z pc = some r) (hg : Gn u N z ws' go) (ei : r.1 = .bipush n) (h : nst go call z pc r lv st ws c s = some ws') : NW u N z pc lv st ws c s ws' := by
  simp only [nst, ei] at h
  intro p e R s0 m args below meth cd Z H locs ls C T Hz Hn P S L N1 G
  exact lv_bipush C.1 C.2.1 (n_dec hz hr ei rfl) rfl (hg _ _ _ _ _ _ h p e R s0 m args below meth cd Z H locs ls C T Hz Hn P S L N1 G)
theorem m_sipush {n : Int} (hz : z < 8) (hr : nrow z pc = some r) (hg : Gn u N z ws' go) (ei : r.1 = .sipush n) (h : nst go call z pc r lv st ws c s = some ws') : NW u N z pc lv st ws c s ws' := by
  simp only [nst, ei] at h
  intro p e R s0 m args below meth cd Z H locs ls C T Hz Hn P S L N1 G
  exact lv_sipush C.1 C.2.1 (n_dec hz hr ei rfl) rfl (hg _ _ _ _ _ _ h p e R s0 m args below meth cd Z H locs ls C T Hz Hn P S L N1 G)
theorem m_ldc {i : Nat} (hz : z < 8) (hr : nrow z pc = some r) (hg : Gn u N z ws' go) (ei : r.1 = .ldc i) (h : nst go call z pc r lv st ws c s = some ws') : NW u N z pc lv st ws c s ws' := by
  simp only [nst, ei] at h
  split at h
  · rename_i n hn
    split at h
    · rename_i hc
      intro p e R s0 m args below meth cd Z H locs ls C T Hz Hn P S L N1 G
      have hq := C.2.2.2.2.2.1.2.2.2.1 _ (lk_mem hn)
      dsimp only at hq
      rw [(key_d hc.1).1, (key_d hc.1).2] at hq
      exact va_ldcS C.1 C.2.1 C.2.2.2.1 hq (n_dec hz hr ei rfl) (hg _ _ _ _ _ _ h p e R s0 m args below meth cd Z H locs ls C T Hz Hn P S L N1 G)
    · cases h
  · cases h
theorem m_dup (hz : z < 8) (hr : nrow z pc = some r) (hg : Gn u N z ws' go) (ei : r.1 = .dup) (h : nst go call z pc r lv st ws c s = some ws') : NW u N z pc lv st ws c s ws' := by
  simp only [nst, ei] at h
  split at h
  · intro p e R s0 m args below meth cd Z H locs ls C T Hz Hn P S L N1 G
    exact lv_dup C.1 C.2.1 (n_dec hz hr ei rfl) rfl (hg _ _ _ _ _ _ h p e R s0 m args below meth cd Z H locs ls C T Hz Hn P S L N1 G)
  · cases h
theorem m_icmp_ge {off : Int} (hz : z < 8) (hr : nrow z pc = some r) (hg : Gn u N z ws' go) (ei : r.1 = .if_icmp .ge off) (h : nst go call z pc r lv st ws c s = some ws') : NW u N z pc lv st ws c s ws' := by
  simp only [nst, ei] at h
  split at h
  · intro p e R s0 m args below meth cd Z H locs ls C T Hz Hn P S L N1 G
    refine lv_icmp_ge C.1 C.2.1 (n_dec hz hr ei rfl) (n_tgt hz hr (Or.inl ⟨_, ei⟩)) (fun q => ?_) (fun q => ?_)
    · rw [if_pos q] at h
      exact hg _ _ _ _ _ _ h p e R s0 m args below meth cd Z H locs ls C T Hz Hn P S L N1 G
    · rw [if_neg q] at h
      exact hg _ _ _ _ _ _ h p e R s0 m args below meth cd Z H locs ls C T Hz Hn P S L N1 G
  · cases h
theorem m_goto {off : Int} (hz : z < 8) (hr : nrow z pc = some r) (hg : Gn u N z ws' go) (ei : r.1 = .goto off) (h : nst go call z pc r lv st ws c s = some ws') : NW u N z pc lv st ws c s ws' := by
  simp only [nst, ei] at h
  intro p e R s0 m args below meth cd Z H locs ls C T Hz Hn P S L N1 G
  exact lv_goto C.1 C.2.1 (n_dec hz hr ei rfl) (n_tgt hz hr (Or.inr ei)) (hg _ _ _ _ _ _ h p e R s0 m args below meth cd Z H locs ls C T Hz Hn P S L N1 G)
theorem nw_new {c0 : NC} {H H1 : Heap} {H0 : Heap} {locs : List Loc} (hx : ∀ h, h < 63 → xA u h = N + h) (Hz : H.size = N + ws.length) (hl : ws.length < 63) (P : va_P (xD u) zCl (nw u ws) H) (S : va_S (fun q => N ≤ q) H0 H locs) (z1 : H1.size = H.size + 1) (o1 : ∀ q : Nat, q < H.size → H1[q]? = H[q]?) (hc : va_at (xD u) zCl (xA u ws.length, nt u c0) H1) :
    H1.size = N + (ws ++ [c0]).length ∧ (ws ++ [c0]).length ≤ 63 ∧ va_P (xD u) zCl (nw u (ws ++ [c0])) H1 ∧ va_S (fun q => N ≤ q) H0 H1 locs := by
  refine ⟨by rw [z1, Hz, List.length_append]; simp; omega, by rw [List.length_append]; simp; omega, ?_, ⟨Nat.le_trans S.1 (by omega), fun q h1 h2 => (o1 q (Nat.lt_of_lt_of_le h1 S.1)).trans (S.2.1 q h1 h2), S.2.2⟩⟩
  rw [nw_app]
  refine (P.kept (fun k x hx2 => o1 x.1 ((P k x hx2).lt))).app (fun k x hk => ?_)
  have hz2 : k < 1 := (List.getElem?_eq_some_iff.mp hk).1
  rw [show k = 0 by omega] at hk
  cases hk
  exact hc
theorem m_new {i : Nat} (hz : z < 8) (hr : nrow z pc = some r) (hg : Gn u N z ws' go) (ei : r.1 = .new i) (h : nst go call z pc r lv st ws c s = some ws') : NW u N z pc lv st ws c s ws' := by
  simp only [nst, ei] at h
  split at h
  · rename_i ci hci
    split at h
    · rename_i hc
      obtain ⟨c1, c2, c3, c4⟩ := hc
      intro p e R s0 m args below meth cd Z H locs ls C T Hz Hn P S L N1 G
      have hw := nn_w _ (List.mem_map.mpr ⟨_, lk_mem hci, rfl⟩)
      have hb := nn_b _ (lk_mem hci)
      dsimp only at hw hb
      rw [(key_d c1).1, (key_d c1).2] at hw
      obtain ⟨z1, z2, z3, z4, z5, z6⟩ := zC_ok hb
      have hKn := C.2.2.2.2.2.1.1.1 ci _ z1
      rw [z6] at hKn
      have hxs := C.2.2.2.2.2.1.2.1
      refine W.newcK C.1 C.2.1 C.2.2.2.1 (C.2.2.2.2.1 _ (inTBL hw rfl)) (C.2.2.2.2.1 _ (inst_in hb)) (C.2.2.2.2.1 _ (init_in hb)) rfl (n_dec hz hr ei rfl) (Nat.le_trans c3 C.2.2.2.2.2.2.2.2.2.1) (Nat.le_trans c4 C.2.2.2.2.2.2.2.2.2.2.1) hKn.2.1 rfl fun H1 kC hkC e1 zz o1 => ?_
      have hob := u_born (zty ci) C.2.2.2.2.1 z2 (by rw [z6]; exact hKn) hkC e1 z3
      have hat : va_at (xD u) zCl (xA u ws.length, nt u (ci, df ci)) H1 := by
        unfold nt
        rw [if_pos hb, hxs _ c2, ← Hz]
        refine ⟨_, z1, hob.to (fun j hj => ?_)⟩
        rw [z5] at hj
        obtain ⟨q1, q2⟩ := df_ok ci hb j hj
        rw [q1]
        unfold vp_V
        rw [List.getD_eq_getElem?_getD, List.getD_eq_getElem?_getD, List.getElem?_map]
        rw [List.getD_eq_getElem?_getD] at q2
        cases hd : (df ci)[j]? with
        | none => rfl
        | some v =>
          rw [hd] at q2
          rcases q2 with q2 | q2
          · have q2 : v = .null := q2
            subst q2; rfl
          · have q2 : v = .int 0 := q2
            subst q2; rfl
      obtain ⟨a1, a2, a3, a4⟩ := nw_new hxs Hz c2 P S zz o1 hat
      have hfin := hg _ _ _ _ _ _ h p e R s0 m args below meth cd Z H1 locs ls C T a1 a2 a3 a4 L N1 G
      have ea : (tv u (.ref ws.length)) = .ref H.size := by
        show Value.ref (xA u ws.length) = _
        rw [hxs _ c2, ← Hz]
      rw [List.map_cons, ea] at hfin
      exact hfin
    · cases h
  · cases h
theorem gI_rep (n : Nat) : ∀ cA : ClassId, vp_cell cA (n, .inl (gI (List.replicate n (.int 0)))) = arrV cA n (fun _ => .int 0) := by
  intro cA
  rw [vp_cell_i]
  congr 1
  funext j
  unfold gI
  rw [List.getD_eq_getElem?_getD]
  cases h : (List.replicate n (Value.int 0))[j]? with
  | none => rfl
  | some v =>
    have := (List.mem_replicate.mp (List.mem_of_getElem? h)).2
    subst this
    rfl
theorem gL_rep (n : Nat) : ∀ cA : ClassId, vp_cell cA (n, .inr (.inl (gL (List.replicate n (.long 0))))) = arrV cA n (fun _ => .long 0) := by
  intro cA
  rw [vp_cell_l]
  congr 1
  funext j
  unfold gL
  rw [List.getD_eq_getElem?_getD]
  cases h : (List.replicate n (Value.long 0))[j]? with
  | none => rfl
  | some v =>
    have := (List.mem_replicate.mp (List.mem_of_getElem? h)).2
    subst this
    rfl
theorem gR_rep (n : Nat) : ∀ cA : ClassId, vp_cell cA (n, .inr (.inr (.inr (.inr (gR u (List.replicate n .null)))))) = arrV cA n (fun _ => .null) := by
  intro cA
  rw [vp_cell_q]
  congr 1
  funext j
  unfold gR
  rw [List.getD_eq_getElem?_getD]
  cases h : (List.replicate n Value.null)[j]? with
  | none => rfl
  | some v =>
    have := (List.mem_replicate.mp (List.mem_of_getElem? h)).2
    subst this
    rfl
theorem m_newarray {t : ArrayType} (hz : z < 8) (hr : nrow z pc = some r) (hg : Gn u N z ws' go) (ei : r.1 = .newarray t) (h : nst go call z pc r lv st ws c s = some ws') : NW u N z pc lv st ws c s ws' := by
  simp only [nst, ei] at h
  split at h
  · rename_i n s1
    split at h
    · rename_i hc
      obtain ⟨c1, c2, c3, c4, c5⟩ := hc
      intro p e R s0 m args below meth cd Z H locs ls C T Hz Hn P S L N1 G
      have hxs := C.2.2.2.2.2.1.2.1
      have ea : (tv u (.ref ws.length)) = .ref H.size := by
        show Value.ref (xA u ws.length) = _
        rw [hxs _ c3, ← Hz]
      split at h
      · refine va_newaK (atype := .int) C.1 C.2.1 (C.2.2.2.2.1 _ narr0) rfl (n_dec hz hr ei rfl) rfl c1 rfl (Nat.le_trans (Nat.mul_le_mul_right _ c2) (by decide)) (Nat.le_trans c4 C.2.2.2.2.2.2.2.2.2.1) (Nat.le_trans c5 C.2.2.2.2.2.2.2.2.2.2.1) rfl fun H1 cA e1 zz o1 hA hNm => ?_
        have hcA : cA = xC u 8 := Option.some.inj (hNm.symm.trans (C.2.2.2.2.2.1.1.2 0 (xC u 8, .int) rfl).2)
        obtain ⟨a1, a2, a3, a4⟩ := nw_new (c0 := (8, List.replicate n.toNatClampNeg (.int 0))) hxs Hz c3 P S zz o1 (by
          show H1[xA u ws.length]? = some (vp_cell (xC u 8) ((List.replicate n.toNatClampNeg (Value.int 0)).length, .inl (gI _)))
          rw [hxs _ c3, ← Hz, List.length_replicate, gI_rep, e1, hcA]
          rfl)
        have hfin := hg _ _ _ _ _ _ h p e R s0 m args below meth cd Z H1 locs ls C T a1 a2 a3 a4 L N1 G
        rw [List.map_cons, ea] at hfin
        exact hfin
      · refine va_newaK (atype := .byte) C.1 C.2.1 (C.2.2.2.2.1 _ narr1) rfl (n_dec hz hr ei rfl) rfl c1 rfl (Nat.le_trans (Nat.mul_le_mul_right _ c2) (by decide)) (Nat.le_trans c4 C.2.2.2.2.2.2.2.2.2.1) (Nat.le_trans c5 C.2.2.2.2.2.2.2.2.2.2.1) rfl fun H1 cA e1 zz o1 hA hNm => ?_
        have hcA : cA = xC u 9 := Option.some.inj (hNm.symm.trans (C.2.2.2.2.2.1.1.2 1 (xC u 9, .byte) rfl).2)
        obtain ⟨a1, a2, a3, a4⟩ := nw_new (c0 := (9, List.replicate n.toNatClampNeg (.int 0))) hxs Hz c3 P S zz o1 (by
          show H1[xA u ws.length]? = some (vp_cell (xC u 9) ((List.replicate n.toNatClampNeg (Value.int 0)).length, .inl (gI _)))
          rw [hxs _ c3, ← Hz, List.length_replicate, gI_rep, e1, hcA]
          rfl)
        have hfin := hg _ _ _ _ _ _ h p e R s0 m args below meth cd Z H1 locs ls C T a1 a2 a3 a4 L N1 G
        rw [List.map_cons, ea] at hfin
        exact hfin
      · refine va_newaK (atype := .long) C.1 C.2.1 (C.2.2.2.2.1 _ narr2) rfl (n_dec hz hr ei rfl) rfl c1 rfl (Nat.le_trans (Nat.mul_le_mul_right _ c2) (by decide)) (Nat.le_trans c4 C.2.2.2.2.2.2.2.2.2.1) (Nat.le_trans c5 C.2.2.2.2.2.2.2.2.2.2.1) rfl fun H1 cA e1 zz o1 hA hNm => ?_
        have hcA : cA = xC u 10 := Option.some.inj (hNm.symm.trans (C.2.2.2.2.2.1.1.2 2 (xC u 10, .long) rfl).2)
        obtain ⟨a1, a2, a3, a4⟩ := nw_new (c0 := (10, List.replicate n.toNatClampNeg (.long 0))) hxs Hz c3 P S zz o1 (by
          show H1[xA u ws.length]? = some (vp_cell (xC u 10) ((List.replicate n.toNatClampNeg (Value.long 0)).length, .inr (.inl (gL _))))
          rw [hxs _ c3, ← Hz, List.length_replicate, gL_rep, e1, hcA]
          rfl)
        have hfin := hg _ _ _ _ _ _ h p e R s0 m args below meth cd Z H1 locs ls C T a1 a2 a3 a4 L N1 G
        rw [List.map_cons, ea] at hfin
        exact hfin
      · cases h
    · cases h
  · cases h
theorem nover {k : Nat} (h1 : 11 ≤ k) (h2 : k ≤ 13) {s : State} (h : inN u N s) : va_AO (arN.getD k "") s ∧ (tyL u)[k - 8]? = some (xC u k, .object (arN.getD k "")) := by
  have hk : k = 11 ∨ k = 12 ∨ k = 13 := by omega
  rcases hk with rfl | rfl | rfl
  · exact ⟨h.2.2.2.2.2.1.1, rfl⟩
  · exact ⟨h.2.2.2.2.2.1.2.1, rfl⟩
  · exact ⟨h.2.2.2.2.2.1.2.2, rfl⟩
theorem nt_q {k : Nat} {vs : List Value} (h1 : 11 ≤ k) : nt u (k, vs) = .inl (xC u k, vs.length, .inr (.inr (.inr (.inr (gR u vs))))) := by
  unfold nt
  dsimp only
  rw [if_neg (by omega), if_neg (by omega), if_neg (by omega)]
theorem m_anewarray {i : Nat} (hz : z < 8) (hr : nrow z pc = some r) (hg : Gn u N z ws' go) (ei : r.1 = .anewarray i) (h : nst go call z pc r lv st ws c s = some ws') : NW u N z pc lv st ws c s ws' := by
  simp only [nst, ei] at h
  split at h
  · rename_i n s1
    split at h
    · rename_i k hk
      split at h
      · rename_i hc
        obtain ⟨c0, c1, c2, c3, c4, c5⟩ := hc
        intro p e R s0 m args below meth cd Z H locs ls C T Hz Hn P S L N1 G
        have hxs := C.2.2.2.2.2.1.2.1
        have ea : (tv u (.ref ws.length)) = .ref H.size := by
          show Value.ref (xA u ws.length) = _
          rw [hxs _ c3, ← Hz]
        have hw := na_w _ (List.mem_map.mpr ⟨_, lk_mem hk, rfl⟩)
        have hb := na_b _ (lk_mem hk)
        dsimp only at hw hb
        rw [(key_d c0).1, (key_d c0).2] at hw
        obtain ⟨v1, v2⟩ := nover hb.1 hb.2 C.2.2.2.2.2.1
        refine W.anew C.1 C.2.1 C.2.2.2.1 (C.2.2.2.2.1 _ (inTBL hw rfl)) (va_AO.use v1) rfl (n_dec hz hr ei rfl) rfl c1 (Nat.le_trans (Nat.mul_le_mul_right _ c2) (by decide)) (Nat.le_trans c4 C.2.2.2.2.2.2.2.2.2.1) (Nat.le_trans c5 C.2.2.2.2.2.2.2.2.2.2.1) fun cA kA comp f1 f2 f3 f4 => ?_
        obtain ⟨kA2, comp2, w1, w2, w3, w4⟩ := (C.2.2.2.2.2.1.1.2 _ _ v2).2
        have hcA : cA = xC u k := Option.some.inj (f1.symm.trans w4)
        generalize hH1 : H.push ({ cls := cA, slots := Array.replicate n.toNatClampNeg .null, vm := .none } : Cell) = H1
        have zz : H1.size = H.size + 1 := by rw [← hH1, Array.size_push]
        have e1 : H1[H.size]? = some (arrV cA n.toNatClampNeg (fun _ => .null)) := by rw [← hH1, Array.getElem?_push_size, ← arrV_new]
        have o1 : ∀ q : Nat, q < H.size → H1[q]? = H[q]? := fun q hq => by rw [← hH1, Array.getElem?_push, if_neg (Nat.ne_of_lt hq)]
        obtain ⟨a1, a2, a3, a4⟩ := nw_new (c0 := (k, List.replicate n.toNatClampNeg .null)) hxs Hz c3 P S zz o1 (by
          rw [nt_q hb.1]
          show H1[xA u ws.length]? = some (vp_cell (xC u k) ((List.replicate n.toNatClampNeg Value.null).length, .inr (.inr (.inr (.inr (gR u _))))))
          rw [hxs _ c3, ← Hz, List.length_replicate, gR_rep, e1, hcA])
        have hfin := hg _ _ _ _ _ _ h p e R s0 m args below meth cd Z H1 locs ls C T a1 a2 a3 a4 L N1 G
        rw [List.map_cons, ea] at hfin
        exact hfin
      · cases h
    · cases h
  · cases h
end NN
/-! 19.nsound -/
section NM
variable {u : UV} {N z pc : Nat} {r : Row} {lv st : List Value} {ws ws' : List NC} {c s : Nat} {go : Nat → List Value → List Value → List NC → Nat → Nat → Option (List NC)} {call : Nat → List Value → List NC → Option (List NC)}
theorem gR_set {vs : List Value} {i v : Nat} (hi : i < vs.length) : gR u (vs.set i (.ref v)) = va_up (gR u vs) i (some (xA u v)) := by
  funext j
  unfold gR va_up
  dsimp only
  rw [List.getD_eq_getElem?_getD, List.getD_eq_getElem?_getD]
  by_cases hj : j = i
  · subst hj
    rw [List.getElem?_set_self hi, if_pos rfl]
    rfl
  · rw [List.getElem?_set_ne (Ne.symm hj), if_neg hj]
theorem gI_set {vs : List Value} {i : Nat} {x : Int32} (hi : i < vs.length) : gI (vs.set i (.int x)) = upd (gI vs) i x := by
  funext j
  unfold gI upd
  dsimp only
  rw [List.getD_eq_getElem?_getD, List.getD_eq_getElem?_getD]
  by_cases hj : j = i
  · subst hj
    rw [List.getElem?_set_self hi, if_pos rfl]
    rfl
  · rw [List.getElem?_set_ne (Ne.symm hj), if_neg hj]
theorem in_of {i : Int32} {n : Nat} (h1 : ¬ i < 0) (h2 : i.toNatClampNeg < n) : vp_in i n := fun q => q.elim h1 (fun z => by omega)
theorem nt_o {k : Nat} {vs : List Value} (h : k < 8) : nt u (k, vs) = .inr (k, vs.map (tv u)) := by
  unfold nt
  rw [if_pos h]
theorem m_aastore (hz : z < 8) (hr : nrow z pc = some r) (hg : Gn u N z ws' go) (ei : r.1 = .aastore) (h : nst go call z pc r lv st ws c s = some ws') : NW u N z pc lv st ws c s ws' := by
  simp only [nst, ei] at h
  split at h
  · rename_i v i h0 s1
    split at h
    · rename_i k vs hws
      split at h
      · rename_i hc
        obtain ⟨c1, c2, c3, c4, c5⟩ := hc
        intro p e R s0 m args below meth cd Z H locs ls C T Hz Hn P S L N1 G
        obtain ⟨v1, v2⟩ := nover c1 c2 C.2.2.2.2.2.1
        have hD := nw_D (ws := ws) C.2.2.2.2.2.1.2.1 Hn
        have ha : (nw u ws)[h0]? = some (xA u h0, .inl (xC u k, vs.length, .inr (.inr (.inr (.inr (gR u vs)))))) := by rw [nw_get hws, nt_q c1]
        have hlt : i.toNatClampNeg < vs.length := c4
        obtain ⟨kA, comp, k1, k2, k3, k4⟩ := (C.2.2.2.2.2.1.1.2 _ _ v2).2
        have fin : ∀ cellV : Cell, H[xA u v]? = some cellV → cellV.vm.isStatics = false → s0.vm.findClass (arN.getD k "") = some cellV.cls → W p u.1 e R s0 m args below meth cd H locs c s Z (F0 m pc ls (.ref (xA u v) :: .int i :: .ref (xA u h0) :: s1.map (tv u))) := by
          intro cellV g1 g3 g4
          have hcc : comp = cellV.cls := Option.some.inj (k3.symm.trans g4)
          obtain ⟨kC, hkC, -⟩ := Vm.findClass_spec k3
          refine W.aast C.1 C.2.1 (P h0 _ ha) (fun q h => by cases h) (fun h => by cases h) k1 k2 rfl hkC ⟨c3, by show _ < (arrV _ _ _).slots.size; rw [arrV_size]; exact hlt⟩ g1 (fun q h => by rw [h] at g3; cases g3) (by rw [← hcc]; exact hkC) (by rw [← hcc]; exact va_asg _ _) rfl rfl (n_dec hz hr ei rfl) fun H1 e1 zz oq => ?_
          have P1 := P.set hD ha (e := .inl (xC u k, vs.length, .inr (.inr (.inr (.inr (va_up (gR u vs) i.toNatClampNeg (some (xA u v)))))))) (by
            show H1[xA u h0]? = some (vp_cell _ _)
            rw [e1, vp_cell_q, vp_cell_q, arrV_store]
            congr 2
            funext q
            by_cases hq : q = i.toNatClampNeg
            · subst hq
              simp [updV, va_up, va_rf]
            · simp [updV, va_up, hq]) oq
          rw [nw_set (c := (k, vs.set i.toNatClampNeg (.ref v))) hws (by rw [nt_q c1, List.length_set, gR_set hlt])] at P1
          exact hg _ _ _ _ _ _ h p e R s0 m args below meth cd Z H1 _ ls C T (by rw [List.length_set, zz]; exact Hz) (by rw [List.length_set]; exact Hn) P1 (S.put zz oq (hD.2 h0 _ ha)) L N1 G
        unfold aso at c5
        by_cases h13 : k = 13
        · subst h13
          rw [if_pos rfl, Bool.and_eq_true, decide_eq_true_eq, decide_eq_true_eq] at c5
          obtain ⟨j, rfl⟩ := hsplit v 100 c5.1
          have hj : j < 16 := by omega
          obtain ⟨cell, q1, q2, q3, q4⟩ := (C.2.2.2.2.2.1.2.2.1.1 j hj).1.kept S.2.1
          exact fin cell q1 q2 q3
        · rw [if_neg h13, decide_eq_true_eq] at c5
          cases hv : ws[v]? with
          | none => rw [hv] at c5; cases c5
          | some cv =>
            obtain ⟨kv, vv⟩ := cv
            rw [hv] at c5
            have c5 : kv = k - 10 := Option.some.inj c5
            have hkv : kv < 8 := by omega
            obtain ⟨z1, z2, z3, z4, z5, z6⟩ := zC_ok hkv
            obtain ⟨cell, q1, q2, q3⟩ := va_recv C.2.2.2.2.2.1.1 P z1 (q0 := v) (a := xA u v) (fs := vv.map (tv u)) (by rw [nw_get hv, nt_o hkv])
            refine fin cell q1 q2 ?_
            rw [z6] at q3
            have hk2 : k = 11 ∨ k = 12 := by omega
            rcases hk2 with rfl | rfl
            · rw [c5] at q3; exact q3
            · rw [c5] at q3; exact q3
      · cases h
    · cases h
  · cases h
theorem m_iastore (hz : z < 8) (hr : nrow z pc = some r) (hg : Gn u N z ws' go) (ei : r.1 = .iastore) (h : nst go call z pc r lv st ws c s = some ws') : NW u N z pc lv st ws c s ws' := by
  simp only [nst, ei] at h
  split at h
  · rename_i x i h0 s1
    split at h
    · rename_i k vs hws
      split at h
      · rename_i hc
        obtain ⟨rfl, c3, c4⟩ := hc
        intro p e R s0 m args below meth cd Z H locs ls C T Hz Hn P S L N1 G
        have hD := nw_D (ws := ws) C.2.2.2.2.2.1.2.1 Hn
        have ha : (nw u ws)[h0]? = some (xA u h0, .inl (xC u 8, vs.length, .inl (gI vs))) := nw_get hws
        refine W.iast C.1 C.2.1 (P h0 _ ha) ((C.2.2.2.2.2.1.1.2 0 (xC u 8, .int) rfl).1 vs.length (fun j => .int (gI vs j))) (fun q => by cases q) (by show ¬ (i < 0 ∨ (arrV _ _ _).slots.size ≤ _); rw [arrV_size]; exact in_of c3 c4) rfl rfl (n_dec hz hr ei rfl) fun H1 e1 zz oq => ?_
        have P1 := P.set hD ha (e := .inl (xC u 8, vs.length, .inl (upd (gI vs) i.toNatClampNeg x))) (by
          show H1[xA u h0]? = some (vp_cell _ _)
          rw [e1, vp_cell_i, vp_cell_i, arrV_store]
          congr 2
          funext q
          by_cases hq : q = i.toNatClampNeg
          · subst hq
            simp [updV, upd]
          · simp [updV, upd, hq]) oq
        rw [nw_set (c := (8, vs.set i.toNatClampNeg (.int x))) hws (by rw [← gI_set c4]; show _ = Sum.inl (xC u 8, (vs.set _ _).length, _); rw [List.length_set])] at P1
        exact hg _ _ _ _ _ _ h p e R s0 m args below meth cd Z H1 _ ls C T (by rw [List.length_set, zz]; exact Hz) (by rw [List.length_set]; exact Hn) P1 (S.put zz oq (hD.2 h0 _ ha)) L N1 G
      · cases h
    · cases h
  · cases h
end NM
section NP
variable {p : Program} {l : Launch} {e : Env} {R : Room} {s : State} {m : MethodId} {args : Array Value} {below : List Frame} {meth : Method} {c : Code} {H : Heap} {locs : List Loc} {cells slots : Nat} {Q : State → Prop}
variable {cc : ByteArray} {pc : Nat} {ls : Array Slot} {rest : List Value} {D : va_G} {cl : List vw_C} {A : Nat → Prop} {a : Nat} {tys : List (ClassId × FieldType)} {ws : va_W} {H0 : Heap}
theorem vn_put (hexec : p.tables.exec = Jvm.exec) (hb : c.code = cc) {own ref C : String} {T : u_T} {N ci index : Nat} {Ts : List Cond} (hts : ∀ w ∈ Ts, w.before args s = true) (hin : ∀ w ∈ u_ws C T N, w ∈ Ts) (ty0 : Nat → FieldType) (hty : ∀ k, k < N → parseFieldDescriptor (T k).2.2.1 = some (ty0 k)) (hnm : ∀ a, a < N → ∀ b, b < N → a ≠ b → (T a).2.1 ≠ (T b).2.1) (hown : s.vm.findClass own = some m.cls) (hK : va_K D cl tys s) (hP : va_P D cl ws H) (hD : va_D A ws) (hS0 : va_S A H0 H locs) (q0 : Nat) {fs : List Value} (he : ws[q0]? = some (a, .inr (ci, fs))) (hc : cl[ci]? = some (C, T, N)) (k : Nat) (hk : k < N) (hlink : (Cond.fieldLink own index ref (T k).2.1 (T k).2.2.1).before args s = true) (hsame : ∀ x, s.fieldFound? (T k).1 (T k).2.1 (T k).2.2.1 = some x → s.fieldFound? ref (T k).2.1 (T k).2.2.1 = some x) (hin2 : meth.name = "<init>") (hdecl : (T k).1 = own) {ty : FieldType} {v : Value} (hd : parseFieldDescriptor (T k).2.2.1 = some ty) (hn : narrow ty v = v) (hfit : fits ty v = true) (hl : k < fs.length)
    (hdg : decode cc pc = .ok (.putfield index, 3)) (kk : ∀ (H1 : Heap) (locs1 : List Loc), H1.size = H.size → va_P D cl (ws.set q0 (a, .inr (ci, fs.set k v))) H1 → va_S A H0 H1 locs1 → W p l e R s m args below meth c H1 locs1 cells slots Q (F0 m (pc + 3) ls rest)) : W p l e R s m args below meth c H locs cells slots Q (F0 m pc ls (v :: .ref a :: rest)) := by
  have hap := va_apart (own := own) hts hin ty0 hty hnm hK hc
  obtain ⟨r, h1, cell, q1, q2, q3, q4⟩ := hP q0 _ he
  have hr : r = (C, T, N) := Option.some.inj (h1.symm.trans hc)
  subst hr
  obtain ⟨hS, hfc, kC, hkC, hkind⟩ := hK.1 ci _ hc
  obtain ⟨cf, kf, fi, f, hi, hsl⟩ := hS k hk
  have hlay := hts _ (hin _ (u_in_lay hk))
  have hst := (u_facts hfc hkC (u_lays hts hin hk) hi).1
  unfold u_lay at hlay
  by_cases hfin : (T k).2.2.2 = true
  · rw [if_pos hfin] at hlay
    have hcf : m.cls = cf := by
      obtain ⟨_, _, c', _, _, _, -, -, hf', -, -, -, hown2, -⟩ := Cond.laysFinal_spec hlay
      have e1 : c' = cf := by have := hi.symm.trans hf'; simp at this; exact this.1.symm
      rw [hdecl] at hown2
      rw [← e1]; exact Option.some.inj (hown.symm.trans hown2)
    have h6 := u_fits hfc hkC hkind (Or.inr hlay) hi hd hn hfit
    refine W.putFinK hexec hb hown hlink (hsame _ hi) hst hcf hin2 (by rw [q2]; exact h6) q1 q3 (by rw [hsl]; exact k2_hasslot (q4 k hk)) rfl rfl hdg fun H' e1 e2 e3 => ?_
    rw [hsl] at e1 ⊢
    exact kk H' _ e2 (hP.set hD he ⟨_, hc, t_OB.to (V := updV (vp_V fs) k v) ⟨_, e1, q2, q3, t_set q4 hap hk v⟩ (fun j _ => vp_updV_set hl v j)⟩ e3) (hS0.put e2 e3 (hD.2 q0 _ he))
  · rw [if_neg hfin] at hlay
    have h6 := u_store hfc hkC hkind hlay hi hd hn hfit
    refine W.putK hexec hb (f := f) ⟨hown, hlink, ⟨_, _, _, hsame _ hi⟩, hst⟩ (by rw [q2]; exact h6) q1 q3 (by rw [hsl]; exact k2_hasslot (q4 k hk)) rfl rfl hdg fun H' e1 e2 e3 => ?_
    rw [hsl] at e1 ⊢
    exact kk H' _ e2 (hP.set hD he ⟨_, hc, t_OB.to (V := updV (vp_V fs) k v) ⟨_, e1, q2, q3, t_set q4 hap hk v⟩ (fun j _ => vp_updV_set hl v j)⟩ e3) (hS0.put e2 e3 (hD.2 q0 _ he))
end NP
theorem zC_ref : ∀ ci, ci < 8 → ∀ k, k < nfL.getD ci 0 → rt ci k = true → (∀ a, fits (zty ci k) (.ref a) = true) := by
  intro ci hci k hk hr a
  have key : ∀ ci, ci < 8 → ∀ k, k < nfL.getD ci 0 → rt ci k = true → (match zty ci k with | .object _ => true | .array _ => true | _ => false) = true := by decide +kernel
  have := key ci hci k hk hr
  revert this
  cases zty ci k <;> simp [fits]
theorem nar_ref (ty : FieldType) (a : Nat) : narrow ty (.ref a) = .ref a := by cases ty <;> rfl
section NQ
variable {u : UV} {N z pc : Nat} {r : Row} {lv st : List Value} {ws ws' : List NC} {c s : Nat} {go : Nat → List Value → List Value → List NC → Nat → Nat → Option (List NC)} {call : Nat → List Value → List NC → Option (List NC)}
theorem m_getfield {i : Nat} (hz : z < 8) (hr : nrow z pc = some r) (hg : Gn u N z ws' go) (ei : r.1 = .getfield i) (h : nst go call z pc r lv st ws c s = some ws') : NW u N z pc lv st ws c s ws' := by
  simp only [nst, ei] at h
  split at h
  · rename_i h0 s1
    split at h
    · rename_i ci k k0 vs hk hws
      split at h
      · rename_i hc
        obtain ⟨c1, c2, rfl⟩ := hc
        split at h
        · rename_i v hv
          intro p e R s0 m args below meth cd Z H locs ls C T Hz Hn P S L N1 G
          obtain ⟨f1, f2, f3, f4⟩ := fl_at c1 hk (by omega)
          obtain ⟨z1, z2, z3, z4, z5, z6⟩ := zC_ok f1
          exact va_get C.1 C.2.1 C.2.2.2.2.1 z2 C.2.2.2.1 C.2.2.2.2.2.1.1 P h0 (fs := vs.map (tv u)) (ci := k0) (by rw [nw_get hws, nt_o c2]) z1 k f2 (C.2.2.2.2.1 _ f4) (fun x q => by rw [f3] at q; exact q) (by rw [List.getElem?_map, hv]; rfl) (n_dec hz hr ei rfl) (hg _ _ _ _ _ _ h p e R s0 m args below meth cd Z H locs ls C T Hz Hn P S L N1 G)
        · cases h
      · cases h
    · cases h
  · cases h
theorem m_putfield {i : Nat} (hz : z < 8) (hr : nrow z pc = some r) (hg : Gn u N z ws' go) (ei : r.1 = .putfield i) (h : nst go call z pc r lv st ws c s = some ws') : NW u N z pc lv st ws c s ws' := by
  simp only [nst, ei] at h
  split at h
  · rename_i v h0 s1
    split at h
    · rename_i ci k k0 vs hk hws
      split at h
      · rename_i hc
        obtain ⟨c1, c2, rfl, c4, c5, c6⟩ := hc
        intro p e R s0 m args below meth cd Z H locs ls C T Hz Hn P S L N1 G
        obtain ⟨f1, f2, f3, f4⟩ := fl_at c1 hk (by omega)
        obtain ⟨z1, z2, z3, z4, z5, z6⟩ := zC_ok f1
        have hk2 : k < nfL.getD k0 0 := by rw [← z5]; exact f2
        have hD := nw_D (ws := ws) C.2.2.2.2.2.1.2.1 Hn
        have hnf : narrow (zty k0 k) (tv u v) = tv u v ∧ fits (zty k0 k) (tv u v) = true := by
          unfold pfo at c6
          split at c6
          · rename_i x
            simp only [Bool.and_eq_true, Bool.or_eq_true, Bool.not_eq_true', beq_iff_eq] at c6
            obtain ⟨q1, q2⟩ := zC_fin k0 f1 k hk2 c6.1
            rw [q2]
            by_cases hb : bz k0 k = true
            · rw [if_pos hb]
              rcases c6.2 with hx | hx
              · rw [hb] at hx; cases hx
              · subst hx; exact ⟨rfl, rfl⟩
            · rw [if_neg hb]; exact ⟨rfl, rfl⟩
          · exact ⟨nar_ref _ _, zC_ref k0 f1 k hk2 c6 _⟩
          · cases c6
        refine vn_put C.1 C.2.1 C.2.2.2.2.1 z2 (zty k0) z3 z4 C.2.2.2.1 C.2.2.2.2.2.1.1 P hD S h0 (fs := vs.map (tv u)) (ci := k0) (by rw [nw_get hws, nt_o c2]) z1 k f2 (C.2.2.2.2.1 _ f4) (fun x q => by rw [f3] at q; exact q) C.2.2.2.2.2.2.1 (by rw [f3, z6, c4]) (z3 k f2) hnf.1 hnf.2 (by rw [List.length_map]; exact c5) (n_dec hz hr ei rfl) (fun H1 locs1 zz P1 S1 => ?_)
        rw [nw_set (c := (k0, vs.set k v)) hws (by rw [nt_o c2, List.map_set])] at P1
        exact hg _ _ _ _ _ _ h p e R s0 m args below meth cd Z H1 locs1 ls C T (by rw [List.length_set, zz]; exact Hz) (by rw [List.length_set]; exact Hn) P1 S1 L N1 G
      · cases h
    · cases h
  · cases h
theorem m_return (hz : z < 8) (hr : nrow z pc = some r) (hg : Gn u N z ws' go) (ei : r.1 = .return_) (h : nst go call z pc r lv st ws c s = some ws') : NW u N z pc lv st ws c s ws' := by
  simp only [nst, ei] at h
  split at h
  · split at h
    · rename_i hc
      cases h
      intro p e R s0 m args below meth cd Z H locs ls C T Hz Hn P S L N1 G
      exact T H locs ls pc c s hc.1 hc.2 Hz P S (n_dec hz hr ei rfl)
    · cases h
  · cases h
theorem vn_call {p : Program} {l : Launch} {e : Env} {R : Room} {s : State} {m : MethodId} {args : Array Value} {below : List Frame} {meth : Method} {c : Code} {H : Heap} {locs : List Loc} {cells slots mc ms : Nat} {Q : State → Prop} {pc : Nat} {ls : Array Slot} {rest st0 : List Value} {a : Array Value} {w1 : List NC} (hr : va_Run p l e R s m args below meth c H locs cells slots mc ms (F0 m pc ls st0) rest (qcN u N w1 a) (fun q => N ≤ q)) (hS : va_S (fun q => N ≤ q) s.heap H locs)
    (kk : ∀ (H1 : Heap) (locs1 : List Loc), H1.size = N + w1.length → va_P (xD u) zCl (nw u w1) H1 → va_S (fun q => N ≤ q) s.heap H1 locs1 → W p l e R s m args below meth c H1 locs1 (cells + mc) (slots + ms) Q (F0 m (pc + 3) ls rest)) : W p l e R s m args below meth c H locs cells slots Q (F0 m pc ls st0) := by
  intro T hT X
  obtain ⟨v, st₀, t, T', L, h0, X', hL, e1, e2, ⟨⟨hv, hsz, hp⟩, hz, hk⟩, st⟩ := hr T hT X
  cases hv
  rw [h0] at hz hk
  obtain ⟨t2, a1, b1⟩ := kk T'.heap (locs ++ L) (by rw [e1]; exact hsz) (by rw [e1]; exact hp)
    ⟨Nat.le_trans hS.1 (by rw [e1]; exact hz), fun q h1 h2 => by rw [e1, hk q (Nat.lt_of_lt_of_le h1 hS.1) h2]; exact hS.2.1 q h1 h2, fun q hq => by
      rcases List.mem_append.mp hq with h | h
      · exact hS.2.2 q h
      · exact hL q h⟩ T' rfl X'
  exact ⟨t2, st t2 a1, b1⟩
theorem blindN (u : UV) (N : Nat) (as : List Value) (ws : List NC) : FrameBlind (pcN u N as ws) := fun a U g mk q => ⟨q.1, q.2.1.blind g mk a, q.2.2⟩
theorem goodN {z : Nat} (h : z < 8) : GoodIn TBL (wsN z) := fun w hw => by
  rcases List.mem_cons.mp hw with rfl | hw
  · exact ⟨nc_in h, Or.inl rfl⟩
  · exact ⟨hw, good_of_word (tblMem w hw).2⟩
set_option maxHeartbeats 4000000 in
theorem m_invokespecial {i : Nat} (hz : z < 8) (hr : nrow z pc = some r) (hg : Gn u N z ws' go) (hcall : ∀ z' as w w1, z' < 8 → (slots1 as).length ≤ nL z' → as.all (fun v => decide (v.category = 1)) = true → call z' as w = some w1 → w.length ≤ 63 → NCall u N z' as w w1) (ei : r.1 = .invokespecial i) (h : nst go call z pc r lv st ws c s = some ws') : NW u N z pc lv st ws c s ws' := by
  simp only [nst, ei] at h
  split at h
  · rename_i z' b hlk
    have hns := ns_w _ (List.mem_map.mpr ⟨_, lk_mem hlk, rfl⟩)
    split at h
    · rename_i h99
      subst h99
      split at h
      · rename_i h0 s1
        split at h
        · rename_i hc
          intro p e R s0 m args below meth cd Z H locs ls C T Hz Hn P S L N1 G
          unfold nsW at hns
          dsimp only at hns
          rw [if_pos rfl, (key_d hc.1).1, (key_d hc.1).2] at hns
          have hk1 : 1 ≤ nK z := by
            have : ∀ z, z < 8 → 1 ≤ nK z := by decide +kernel
            exact this z hz
          refine W.objInit C.1 C.2.1 C.2.2.2.1 (C.2.2.2.2.1 _ (inTBL hns rfl)) (C.2.2.2.2.1 _ nobjI) (C.2.2.2.2.1 _ nobj) rfl (by rw [C.2.2.1]; exact L.1) rfl (n_dec hz hr ei rfl) (Nat.le_trans hk1 C.2.2.2.2.2.2.2.1) ?_ (hg _ _ _ _ _ _ h p e R s0 m args below meth cd Z H locs ls C T Hz Hn P S L N1 G)
          have h9 := C.2.2.2.2.2.2.2.2.1
          rw [map_cats C.2.2.2.2.2.1.2.2.2.2.2.2]
          show 2 * 0 + cats s1 + 12 ≤ R.locals
          omega
        · cases h
      · cases h
    · rename_i h99
      split at h
      · rename_i hc
        obtain ⟨c0, c1, c2, c3, c4, c5, c6, c7, c8⟩ := hc
        split at h
        · rename_i h0 hrc
          split at h
          · rename_i w1 hw1
            split at h
            · rename_i hlen
              intro p e R s0 m args below meth cd Z H locs ls C T Hz Hn P S L N1 G
              have hF := C.2.2.2.2.2.1.2.2.2.2.2.2
              have hlr : ∀ l : List Value, (slots1 l.reverse).length = (slots1 l).length := by
                intro l
                unfold slots1
                rw [List.length_flatMap, List.length_flatMap, List.map_reverse, List.sum_reverse]
              have hM := hcall z' _ ws w1 c1 (by rw [hlr]; exact c5) (by rw [List.all_reverse]; exact c8) hw1 Hn
              unfold nsW at hns
              dsimp only at hns
              rw [if_neg h99, (key_d c0).1, (key_d c0).2] at hns
              obtain ⟨d1, d2, d3, d4, d5, d6, d7, d8⟩ := ndk z' c1
              have hn : nA z' < st.length := by omega
              have htk : (st.take (nA z' + 1)).reverse = .ref h0 :: (st.take (nA z')).reverse := by
                rw [List.take_add_one, hrc]
                simp
              have hstk : st.map (tv u) = ((((st.take (nA z')).reverse).map (tv u)).reverse) ++ Value.ref (xA u h0) :: (st.drop (nA z' + 1)).map (tv u) := by
                have e1 : st = st.take (nA z') ++ Value.ref h0 :: st.drop (nA z' + 1) := by
                  conv => lhs; rw [← List.take_append_drop (nA z') st]
                  congr 1
                  rw [List.drop_eq_getElem_cons hn]
                  congr 1
                  have := List.getElem?_eq_getElem hn
                  rw [hrc] at this
                  exact (Option.some.inj this).symm
                conv => lhs; rw [e1]
                rw [List.map_append, List.map_reverse, List.reverse_reverse]
                rfl
              have hln : (((st.take (nA z')).reverse).map (tv u)).length = nA z' := by
                rw [List.length_map, List.length_reverse, List.length_take]; omega
              have hpre : PreS s0 H (pcN u N ((st.take (nA z' + 1)).reverse) ws) (Value.ref (xA u h0) :: ((st.take (nA z')).reverse).map (tv u)) := ⟨blindN u N _ ws, fun U hU hW => ⟨by rw [htk]; rfl, C.2.2.2.2.2.1.go S hU hW, by rw [hU]; exact Hz, by rw [hU]; exact P⟩⟩
              have hR : (rmN z').frames + 1 ≤ R.frames ∧ 8 + (nL z' + 11) + (rmN z').locals ≤ R.locals := by
                have h8 := C.2.2.2.2.2.2.2.1
                have h9 := C.2.2.2.2.2.2.2.2.1
                show nK z' + 1 ≤ R.frames ∧ 8 + (nL z' + 11) + 37 * nK z' ≤ R.locals
                omega
              have hroom : 2 * (F0 m pc ls (st.map (tv u))).monitorRoom + (((st.drop (nA z' + 1)).map (tv u)).map fun v => v.category).sum ≤ 8 := by
                rw [map_cats hF]
                show 2 * 0 + _ ≤ 8
                omega
              have hini : (Cond.initialized (nY z').cls).before args s0 = true := by rw [d2]; exact C.2.2.2.2.1 _ (init_in d8)
              have hcf : c + nCc z' ≤ R.cells ∧ s + nCs z' ≤ R.slots := ⟨Nat.le_trans c6 C.2.2.2.2.2.2.2.2.2.1, Nat.le_trans c7 C.2.2.2.2.2.2.2.2.2.2.1⟩
              have him := C.2.2.2.2.1 _ (inTBL (nm_w _ (List.mem_map.mpr ⟨z', nm_a z' c1, rfl⟩)) rfl)
              have fin : va_Run p u.1 e R s0 m args below meth cd H locs c s (nCc z') (nCs z') (F0 m pc ls (st.map (tv u))) ((st.drop (nA z' + 1)).map (tv u)) (qcN u N w1 (Value.ref (xA u h0) :: ((st.take (nA z')).reverse).map (tv u)).toArray) (fun q => N ≤ q) := by
                by_cases hb : b = true
                · subst hb
                  have hnn := C.2.2.2.2.2.1.2.2.2.2.1 _ (lk_mem hlk) rfl
                  dsimp only at hnn
                  rw [(key_d c0).1, (key_d c0).2] at hnn
                  exact va_runIN (n := nA z') ⟨C.1, C.2.1, C.2.2.1, C.2.2.2.1, C.2.2.2.2.1⟩ hM ⟨va_cnB (nA z') C.2.2.2.2.1 (goodN c1) rfl rfl rfl hnn hini ⟨d3, d4, d5⟩ hR, d7, him⟩ hpre rfl hln L.1 hstk hroom (n_dec hz hr ei rfl) hcf
                · rw [if_neg hb] at hns
                  exact va_runI (n := nA z') ⟨C.1, C.2.1, C.2.2.1, C.2.2.2.1, C.2.2.2.2.1⟩ hM (cwI (nA z') C.2.2.2.2.1 (goodN c1) rfl rfl rfl hini (C.2.2.2.2.1 _ (inTBL hns rfl)) him d7 ⟨d3, d4, d5⟩ hR) hpre rfl hln L.1 hstk hroom (n_dec hz hr ei rfl) hcf
              exact vn_call fin S (fun H1 locs1 a1 P1 S1 => hg _ _ _ _ _ _ h p e R s0 m args below meth cd Z H1 locs1 ls C T a1 hlen P1 S1 L N1 G)
            · cases h
          · cases h
        · cases h
      · cases h
  · cases h
set_option maxHeartbeats 4000000 in
theorem nst_ok (hz : z < 8) (hr : nrow z pc = some r) (hg : Gn u N z ws' go) (hcall : ∀ z' as w w1, z' < 8 → (slots1 as).length ≤ nL z' → as.all (fun v => decide (v.category = 1)) = true → call z' as w = some w1 → w.length ≤ 63 → NCall u N z' as w w1) (h : nst go call z pc r lv st ws c s = some ws') : NW u N z pc lv st ws c s ws' := by
  cases ei : r.1 with
  | aload_n i => exact m_aload_n hz hr hg ei h
  | iload_n i => exact m_iload_n hz hr hg ei h
  | istore_n i => exact m_istore_n hz hr hg ei h
  | iinc i n => exact m_iinc hz hr hg ei h
  | iconst n => exact m_iconst hz hr hg ei h
  | bipush n => exact m_bipush hz hr hg ei h
  | sipush n => exact m_sipush hz hr hg ei h
  | ldc i => exact m_ldc hz hr hg ei h
  | dup => exact m_dup hz hr hg ei h
  | if_icmp cnd off => cases cnd with
    | ge => exact m_icmp_ge hz hr hg ei h
    | _ => simp only [nst, ei] at h; cases h
  | goto off => exact m_goto hz hr hg ei h
  | new i => exact m_new hz hr hg ei h
  | newarray t => exact m_newarray hz hr hg ei h
  | anewarray i => exact m_anewarray hz hr hg ei h
  | aastore => exact m_aastore hz hr hg ei h
  | iastore => exact m_iastore hz hr hg ei h
  | getfield i => exact m_getfield hz hr hg ei h
  | putfield i => exact m_putfield hz hr hg ei h
  | invokespecial i => exact m_invokespecial hz hr hg hcall ei h
  | return_ => exact m_return hz hr hg ei h
  | _ => simp only [nst, ei] at h; cases h
end NQ
theorem ncall_of {u : UV} {N z : Nat} {as : List Value} {ws ws' : List NC} (hz : z < 8) (hn : (slots1 as).length ≤ nL z) (hg : as.all (fun v => decide (v.category = 1)) = true) (hw : ws.length ≤ 63) (h : NW u N z 0 (ent (nL z) as) [] ws 0 0 ws') : NCall u N z as ws ws' := by
  obtain ⟨d1, d2, d3, d4, d5, d6, d7, d8⟩ := ndk z hz
  refine Met.ofW (cc := nB z) (maxL := nL z) (ret := none) d1 rfl ?_
  intro p e s m args below meth c s₁ B hml hv
  obtain ⟨rfl, hI, hsz, hP⟩ := hv
  have hts := atoms_spec (ws := wsN z) B.pre
  have hF := hI.2.2.2.2.2.2
  rw [lg_entry_eq]
  have hown : s.vm.findClass (cN (nO z)) = some m.cls := by rw [← d2]; exact findClass_of_methodNamed B.named
  have hlen : (lg_sl (as.map (tv u))).length ≤ nL z := by rw [sl_len hF]; exact hn
  have hin : meth.name = "<init>" := by rw [← d7]; exact (name_of_methodNamed B.named B.method).1
  have hent : (ent (nL z) as).length = nL z := by
    unfold ent
    rw [List.length_append, List.length_replicate]
    omega
  refine h p e (headSpec (wsN z) (rmN z)).room s m _ below meth c _ s.heap [] _ ⟨B.exec, B.bytes, hml, hown, fun w hw => hts w (List.mem_cons_of_mem _ hw), hI, hin, Nat.le_refl _, Nat.le_refl _, Nat.le_refl _, Nat.le_refl _, fun q hq => by omega⟩ ?_ hsz hw hP va_S.rf ?_ hent ?_
  · intro H locs ls pc c1 sl h1 h2 h3 P S hd
    refine W.widen h1 h2 ?_
    exact W.vret B.exec B.bytes B.returns (fun t ht _ => ⟨⟨rfl, by rw [ht]; exact h3, by rw [ht]; exact P⟩, S.F ht⟩) S.2.2 hd B.notSynchronized
  · have hlv := lv_entry (as.map (tv u)) hlen
    refine ⟨hlv.1, hlv.2.1, fun q hq => hlv.2.2 q ?_⟩
    obtain ⟨i, v, h1, h2, rfl⟩ := mem_asl.mp hq
    have h3 : (slots1 as)[i]? = some v := by
      unfold ent at h1
      rcases Nat.lt_or_ge i (slots1 as).length with q | q
      · rwa [List.getElem?_append_left q] at h1
      · rw [List.getElem?_append_right q] at h1
        have := List.mem_replicate.mp (List.mem_of_getElem? h1)
        exact absurd this.2 h2
    have := slots_at hF as 0 i v h3 h2
    rwa [Nat.zero_add] at this
  · intro v hv
    rw [List.all_eq_true] at hg
    unfold ent at hv
    rcases List.mem_append.mp hv with hv | hv
    · obtain ⟨a, ha, hva⟩ := List.mem_flatMap.mp hv
      have := of_decide_eq_true (hg a ha)
      rw [if_neg (by rw [this]; decide)] at hva
      rw [List.mem_singleton.mp hva]
      exact this
    · rw [(List.mem_replicate.mp hv).2]; rfl
theorem nrun_ok {u : UV} {N : Nat} : ∀ (f z pc : Nat) (lv st : List Value) (ws : List NC) (c s : Nat) (ws' : List NC), z < 8 → nrun f z pc lv st ws c s = some ws' → NW u N z pc lv st ws c s ws'
  | 0, _, _, _, _, _, _, _, _, _, h => by cases h
  | f + 1, z, pc, lv, st, ws, c, s, ws', hz, h => by
    unfold nrun at h
    cases hr : nrow z pc with
    | none => rw [hr] at h; cases h
    | some r =>
      rw [hr] at h
      exact nst_ok hz hr (fun pc lv st ws c s h => nrun_ok f z pc lv st ws c s ws' hz h) (fun z' as w w1 hz' h1 h2 h3 h4 => ncall_of hz' h1 h2 h4 (nrun_ok f z' 0 _ _ w 0 0 w1 hz' h3)) h
/-! 20.world -/
/-! what the constructors leave, in the first machine's words -/
def nZ : List NC := nW2.getD []
theorem nZ_len : nZ.length = 63 := by decide +kernel
def hi0 : HI := fun h k => gI (nZ.getD h (0, [])).2 k
def hl0 : HL := fun h k => gL (nZ.getD h (0, [])).2 k
def nzB (h : Nat) : Bool := match nZ[h]? with
  | some (k, vs) => (k == kd h) && (if k < 8 then decide (vs = (List.range (nfL.getD k 0)).map (fun j => if rt k j = true then Value.ref (rf h j) else Value.int (gI vs j))) else decide (vs.length = ln h) && (if k < 11 then true else (List.range (ln h)).all (fun j => decide (vs[j]? = some (Value.ref (rf h j))))))
  | none => false
theorem nzB_ok : (List.range 63).all nzB = true := by decide +kernel
theorem arrV_cong {c : ClassId} {n : Nat} {f g : Nat → Value} (h : ∀ j, j < n → f j = g j) : arrV c n f = arrV c n g := by
  unfold arrV
  have e : (fun j : Fin n => f j.val) = (fun j : Fin n => g j.val) := funext (fun j => h j.val j.isLt)
  rw [e]
theorem nz_at {u : UV} {h : Nat} {H : Heap} (hh : h < 63) (P : va_P (xD u) zCl (nw u nZ) H) : va_at (xD u) zCl (xA u h, en u hi0 hl0 h) H := by
  have hb := List.all_eq_true.mp nzB_ok h (List.mem_range.mpr hh)
  unfold nzB at hb
  split at hb
  · rename_i k vs hz
    have hp := P h _ (nw_get hz)
    rw [Bool.and_eq_true, beq_iff_eq] at hb
    obtain ⟨hk, hb⟩ := hb
    have hgd : nZ.getD h (0, []) = (k, vs) := by rw [List.getD_eq_getElem?_getD, hz]; rfl
    have hgi : hi0 h = gI vs := by funext j; unfold hi0; rw [hgd]
    have hgl : hl0 h = gL vs := by funext j; unfold hl0; rw [hgd]
    by_cases h8 : k < 8
    · rw [if_pos h8, decide_eq_true_eq] at hb
      rw [nt_o h8] at hp
      rw [en_o hk.symm h8]
      have e : vs.map (tv u) = fds u hi0 h k := by
        conv => lhs; rw [hb]
        unfold fds
        rw [List.map_map]
        apply List.map_congr_left
        intro j _
        show tv u _ = _
        rw [hgi]
        dsimp only
        by_cases hr : rt k j = true
        · rw [if_pos hr, if_pos hr]; rfl
        · rw [if_neg hr, if_neg hr]; rfl
      rw [← e]
      exact hp
    · rw [if_neg h8, Bool.and_eq_true, decide_eq_true_eq] at hb
      obtain ⟨hl, hb⟩ := hb
      have hk13 : k ≤ 13 := by
        have : ∀ h, h < 63 → kd h ≤ 13 := by decide +kernel
        rw [hk]; exact this h hh
      have hc : k = 8 ∨ k = 9 ∨ k = 10 ∨ 11 ≤ k := by omega
      rcases hc with rfl | rfl | rfl | h11
      · rw [en_i hk.symm, hgi, ← hl]; exact hp
      · rw [en_b hk.symm, hgi, ← hl]; exact hp
      · rw [en_l hk.symm, hgl, ← hl]; exact hp
      · rw [if_neg (by omega)] at hb
        rw [nt_q h11] at hp
        rw [en_a hk.symm h11]
        show H[xA u h]? = some (vp_cell _ _)
        have hp : H[xA u h]? = some (vp_cell (xC u k) (vs.length, .inr (.inr (.inr (.inr (gR u vs)))))) := hp
        rw [hp, vp_cell_q, vp_cell_q, hl]
        refine congrArg some (arrV_cong (fun i hi => ?_))
        have hj := List.all_eq_true.mp hb i (List.mem_range.mpr hi)
        rw [decide_eq_true_eq] at hj
        have : gR u vs i = some (xA u (rf h i)) := by
          unfold gR
          rw [List.getD_eq_getElem?_getD, hj]
          rfl
        rw [this]
  · cases hb
theorem nz_wd {u : UV} {H : Heap} (P : va_P (xD u) zCl (nw u nZ) H) : va_P (xD u) zCl (wd u hi0 hl0) H := by
  intro k q hk
  unfold wd at hk
  rw [List.getElem?_map] at hk
  cases hr : (List.range 63)[k]? with
  | none => rw [hr] at hk; cases hk
  | some j =>
    have hlt : k < 63 := by have := (List.getElem?_eq_some_iff.mp hr).1; simpa using this
    rw [List.getElem?_range hlt] at hk
    cases hk
    exact nz_at hlt P
/-! 21.strs -/
def trE : List Nat := [144, 134, 136, 138, 140, 142, 38, 74, 47, 52, 57, 62, 102, 104, 106, 122]
def moE : List Nat := [27, 29, 31, 33, 35, 37, 244, 264, 249, 258, 260, 262, 269, 270, 276, 278]
def trO : List Nat := [6, 7, 8, 9, 10, 11, 1, 2, 3, 4, 5, 0, 12, 13, 14, 15]
def moO : List Nat := [0, 1, 2, 3, 4, 5, 12, 13, 14, 15, 6, 7, 8, 9, 10, 11]
def tmT (i : Nat) : Term := .string "EarRows$TextReader" (trE.getD i 0)
def tmM (i : Nat) : Term := .string "EarRowsModel" (moE.getD i 0)
def tmV (i : Nat) : Term := .field (tmT i) "java/lang/String" "value" "[B"
def strW (i : Nat) : List Cond := [Cond.exactly (tmT i) "java/lang/String", Cond.eq (.field (tmT i) "java/lang/String" "coder" "B") (.int 0), Cond.arrayOf (tmV i) .byte, Cond.eq (.length (tmV i)) (.int (Int32.ofNat (lenS.getD i 0)))] ++ (List.range (lenS.getD i 0)).map (fun j => Cond.eq (.elem (tmV i) (.int (Int32.ofNat j))) (.int ((bytS.getD i []).getD j 0)))
set_option maxRecDepth 100000 in
theorem str_w : ∀ w ∈ trO.flatMap strW, w ∈ flatC narrow_1 := sbq_ok _ _ (by decide +kernel)
set_option maxRecDepth 100000 in
theorem pair_w : ∀ w ∈ moO.map (fun i => Cond.eq (tmT i) (tmM i)), w ∈ flatC narrow_1 := sbq_ok _ _ (by decide +kernel)
theorem trO_all : ∀ i, i < 16 → i ∈ trO ∧ i ∈ moO := by decide +kernel
theorem str_ne : ∀ i, i < 16 → ∀ j, j < 16 → lenS.getD i 0 = lenS.getD j 0 → (∀ k, k < lenS.getD i 0 → (bytS.getD i []).getD k 0 = (bytS.getD j []).getD k 0) → i = j := by decide +kernel
theorem len_lt : ∀ i, i < 16 → lenS.getD i 0 < 20 := by decide +kernel
theorem slt_t : ∀ q ∈ SLT, q.2 < 16 ∧ ((q.1 / 10000 = 4 ∧ q.1 % 10000 = trE.getD q.2 0) ∨ (q.1 / 10000 = 7 ∧ q.1 % 10000 = moE.getD q.2 0)) := by decide +kernel
theorem strs {args : Array Value} {s : State} {A : Nat → Prop} (h : ∀ w ∈ flatC narrow_1, w.before args s = true) (hts : ∀ w ∈ lw_tbl, w.before args s = true) (hA : ∀ a : Nat, a < s.heap.size → ¬ A a) :
    ∃ adK adV : Nat → Nat, vk_S 16 lenS bytS adK adV A s s.heap ∧ ∀ q ∈ SLT, vk_R (cN (q.1 / 10000)) (q.1 % 10000) (stL.getD q.2 "") (adK q.2) s := by
  have hw : ∀ i, i < 16 → ∀ w ∈ strW i, w.before args s = true := fun i hi w hw => h w (str_w w (List.mem_flatMap.mpr ⟨i, (trO_all i hi).1, hw⟩))
  have h0 : ∀ i : Nat, ∃ q : Nat × Nat, i < 16 → (tmT i).eval args s none [] s = some (.ref q.1) ∧ va_O "java/lang/String" q.1 A s s.heap ∧ va_OF "java/lang/String" "coder" "B" (.int 0) q.1 A s s.heap ∧ va_OF "java/lang/String" "value" "[B" (.ref q.2) q.1 A s s.heap ∧ va_T .byte q.2 (lenS.getD i 0) (fun j => .int ((bytS.getD i []).getD j 0)) A s s.heap := by
    intro i
    by_cases hi : i < 16
    · have hex := hw i hi _ (List.mem_append_left _ List.mem_cons_self)
      have hco := hw i hi _ (List.mem_append_left _ (List.mem_cons_of_mem _ List.mem_cons_self))
      have har := hw i hi _ (List.mem_append_left _ (List.mem_cons_of_mem _ (List.mem_cons_of_mem _ List.mem_cons_self)))
      have hle := hw i hi _ (List.mem_append_left _ (List.mem_cons_of_mem _ (List.mem_cons_of_mem _ (List.mem_cons_of_mem _ List.mem_cons_self))))
      have hel : ∀ j, j < lenS.getD i 0 → (Cond.eq (.elem (tmV i) (.int (Int32.ofNat j))) (.int ((bytS.getD i []).getD j 0))).before args s = true := fun j hj => hw i hi _ (List.mem_append_right _ (List.mem_map.mpr ⟨j, List.mem_range.mpr hj, rfl⟩))
      obtain ⟨a, c, cA, kA, q1, q2, q3, q4, q5, q6, -⟩ := Cond.exactly_spec (args := args) (first := s) (o := none) (s := s) (idx := []) (t := tmT i) (cls := "java/lang/String") hex
      obtain ⟨t, ht, hT⟩ := va_Tof (f := fun j => .int ((bytS.getD i []).getD j 0)) (A := A) (Nat.lt_of_lt_of_le (len_lt i hi) (by decide)) har (va_eqt hle) (fun j hj => va_eqt (hel j hj)) hA
      exact ⟨(a, t), fun _ => ⟨q1, ⟨cA, q3, q5, by rw [q6]; exact q2, hA a (Array.getElem?_eq_some_iff.mp q3).1⟩, vk_OFof q1 (va_eqt hco) hA, vk_OFof q1 ht hA, hT⟩⟩
    · exact ⟨(0, 0), fun h => absurd h hi⟩
  obtain ⟨ad, had⟩ := Classical.axiomOfChoice h0
  refine ⟨fun i => (ad i).1, fun i => (ad i).2, ⟨fun i hi => (had i hi).2, fun i j hi hj e => ?_⟩, fun q hq => ?_⟩
  · obtain ⟨-, -, -, ⟨cf, k, fi, f, cell, g1, g2, g3, g4, g5, g6⟩, ⟨ca, t1, t2, t3, t4, t5, t6, t7⟩⟩ := had i hi
    obtain ⟨-, -, -, ⟨cf', k', fi', f', cell', w1, w2, w3, w4, w5, w6⟩, ⟨ca', v1, v2, v3, v4, v5, v6, v7⟩⟩ := had j hj
    have e : (ad i).1 = (ad j).1 := e
    cases g1.symm.trans w1
    rw [e] at g3
    cases g3.symm.trans w3
    have e2 : (ad i).2 = (ad j).2 := by
      have := g5.symm.trans w5
      simpa using this
    rw [e2] at t1
    cases t1.symm.trans v1
    have hl : lenS.getD i 0 = lenS.getD j 0 := by
      have h1 : nI (lenS.getD i 0) = nI (lenS.getD j 0) := t5.symm.trans v5
      exact (nI_eq (Nat.lt_of_lt_of_le (len_lt i hi) (by decide)) (Nat.lt_of_lt_of_le (len_lt j hj) (by decide))).mp h1
    refine str_ne i hi j hj hl (fun k hk => ?_)
    have := (t6 k hk).symm.trans (v6 k (by rw [← hl]; exact hk))
    simpa using this
  · have hr := hts _ (zs_all _ (List.mem_map.mpr ⟨q, hq, rfl⟩))
    obtain ⟨hlt, hc⟩ := slt_t q hq
    have hev := (had q.2 hlt).1
    rcases hc with ⟨c1, c2⟩ | ⟨c1, c2⟩
    · rw [c1, c2] at hr ⊢
      refine vk_R.of (A := args) hr hev
    · rw [c1, c2] at hr ⊢
      refine vk_R.of (A := args) hr ?_
      exact va_eqR (h _ (pair_w _ (List.mem_map.mpr ⟨q.2, (trO_all q.2 hlt).2, rfl⟩))) hev
/-! 22.skel -/
-- ===== end of PART A; then your names; then what follows =====
/-! THE CLAIM OUT OF ONE WALK OF THE LAW'S BODY. Your part is whole_start (and what it stands on); all else here is the same for every law, but numbers. -/
def R_law : String := "EarRowsLaw"
def lw_P (b : Addr) (xs : List Int32) (args : Array Value) (s : State) : Prop := args = #[.ref b] ∧ s.IntsAt b xs ∧ xs.length ≤ 3072 ∧ (Jvm.Cond.and given_1 narrow_1).before args s = true
def lw_Q (_ : Array Value) (s : State) (o : Outcome) (t : State) : Prop := o = .returned (some (.int 1)) ∧ Framed s o t [] 600000 7302249
def lw_Z (below : List Frame) (a : Array Value) (s : State) : State → Prop := fun t => ∃ o, t.status = .running ∧ Ended t below o ∧ lw_Q a s o t
/-- the law's own end, with 1 on the stack, nothing written that was there before, its room as the claim has it -/
theorem lw_ret {p : Program} {l : Launch} {e : Env} {s : State} {m : MethodId} {below : List Frame} {meth : Method} {c : Code} {b : Nat} (hx : p.tables.exec = Jvm.exec) (hb : c.code = code) (hr : meth.sig.returnType = ret) (hlocks : meth.locks = false) {pc : Nat} {H : Heap} {ls : Array Slot} (hdg : decode code pc = .ok (.ireturn, 1)) : W p l e room_1 s m #[Value.ref b] below meth c H [] 600000 7302249 (lw_Z below #[Value.ref b] s) (F0 m pc ls [.int 1]) := by
  intro T hT X
  obtain ⟨fs, hret, hrun, hended, hW, hframe⟩ := X.leave (v := some (.int 1)) (hlocks := hlocks) (fun h => by rw [hr] at h; cases h)
  have hmeth' : T.vm.method? m = some meth := X.method'
  refine ⟨T.setFrames fs, ?_, .returned (some (.int 1)), hrun, hended, rfl, ⟨_, rfl⟩, hW, hframe⟩
  jvm_step X.here [X.here.top, hx, hb, hdg, hmeth', hr, ret, narrow_b1]
  (try refine ⟨rfl, ?_⟩); (try refine ⟨rfl, ?_⟩)
  first | (intro acts; rw [hret _ acts rfl rfl rfl]) | rw [hret _ _ rfl rfl rfl]
  exact Steps.refl _
/-- what holds at the law's entry: the machine, the code, the tables' words (any of lw_tbl by 'hts w (by decide +kernel)'), the script of L ints xs at the cell b, what the Statement gives of the start (any of its parts by flat_of_before) -/
def lw_At (p : Program) (s : State) (m : MethodId) (meth : Method) (c : Code) (b L : Nat) (xs : Nat → Int32) : Prop :=
  p.tables.exec = Jvm.exec ∧ c.code = code ∧ meth.sig.returnType = ret ∧ c.maxLocals = 4 ∧ s.vm.findClass R_law = some m.cls ∧ (∀ w ∈ lw_tbl, w.before #[Value.ref b] s = true) ∧ va_X b L xs s s.heap ∧ b < s.heap.size ∧ meth.locks = false ∧ (Jvm.Cond.and given_1 narrow_1).before #[Value.ref b] s = true
/-! 23.start -/
theorem d_law_0 : decode code 0 = .ok (.new 7, 3) := by decide +kernel
theorem d_law_3 : decode code 3 = .ok (.dup, 1) := by decide +kernel
theorem d_law_4 : decode code 4 = .ok (.invokespecial 9, 3) := by decide +kernel
theorem d_law_7 : decode code 7 = .ok (.astore_n 1, 1) := by decide +kernel
theorem d_law_8 : decode code 8 = .ok (.new 10, 3) := by decide +kernel
theorem d_law_11 : decode code 11 = .ok (.dup, 1) := by decide +kernel
theorem d_law_12 : decode code 12 = .ok (.invokespecial 12, 3) := by decide +kernel
theorem d_law_15 : decode code 15 = .ok (.astore_n 2, 1) := by decide +kernel
theorem d_law_16 : decode code 16 = .ok (.iconst 0, 1) := by decide +kernel
theorem d_law_17 : decode code 17 = .ok (.istore_n 3, 1) := by decide +kernel
theorem lw_c1 : Cond.classLink "EarRowsLaw" 7 "EarRows" ∈ lw_tbl := inT1 (List.mem_of_getElem? (i := 17) rfl)
theorem lw_c2 : Cond.classLink "EarRowsLaw" 10 "EarRowsModel" ∈ lw_tbl := inT4 (List.mem_of_getElem? (i := 74) rfl)
theorem lw_m1 : Cond.methodLink "EarRowsLaw" 9 (nY 6) ∈ lw_tbl := inT1 (List.mem_of_getElem? (i := 19) rfl)
theorem lw_m2 : Cond.methodLink "EarRowsLaw" 12 (nY 7) ∈ lw_tbl := inT4 (List.mem_of_getElem? (i := 76) rfl)
theorem lw_z1 : Cond.laysStatic "java/lang/String" "COMPACT_STRINGS" "Z" ∈ lw_tbl := inT3 (List.mem_of_getElem? (i := 136) rfl)
theorem lw_z2 : Cond.laysStatic "jdk/internal/util/Preconditions" "SIOOBE_FORMATTER" "Ljava/util/function/BiFunction;" ∈ lw_tbl := inT3 (List.mem_of_getElem? (i := 152) rfl)
theorem lw_y1 : Cond.initialized "java/lang/String" ∈ lw_tbl := inT1 (List.mem_of_getElem? (i := 13) rfl)
theorem lw_y2 : Cond.initialized "jdk/internal/util/Preconditions" ∈ lw_tbl := inT1 (List.mem_of_getElem? (i := 15) rfl)
set_option maxRecDepth 100000 in
theorem lw_nar : ∀ w ∈ [Cond.eq (.static "java/lang/String" "COMPACT_STRINGS" "Z") (.int 1), Cond.isRef (.static "jdk/internal/util/Preconditions" "SIOOBE_FORMATTER" "Ljava/util/function/BiFunction;")], w ∈ flatC narrow_1 := sbq_ok _ _ (by decide +kernel)
/-- the two steps 'new C' and its constructor without arguments, in the law -/
theorem law_make {p : Program} {e : Env} {R : Room} {s : State} {m : MethodId} {args : Array Value} {below : List Frame} {meth : Method} {c : Code} {H : Heap} {locs : List Loc} {cells slots : Nat} {Q : State → Prop} {pc : Nat} {ls : Array Slot} {u : UV} {N z ci i1 i2 : Nat} {ws w1 : List NC} (hx : p.tables.exec = Jvm.exec) (hb : c.code = code) (hml : c.maxLocals = 4) (hsz : ls.size = 4) (hown : s.vm.findClass "EarRowsLaw" = some m.cls) (hts : ∀ w ∈ lw_tbl, w.before args s = true) (hI : inN u N s) (hNs : s.heap.size = N)
    (hz : z < 8) (hci : nO z = ci) (hA : nA z = 0) (hl1 : nL z ≥ 1) (hlen : ws.length < 63) (hlk1 : Cond.classLink "EarRowsLaw" i1 (cN ci) ∈ lw_tbl) (hlk2 : Cond.methodLink "EarRowsLaw" i2 (nY z) ∈ lw_tbl) (hrun : nrun 2000 z 0 (ent (nL z) [.ref ws.length]) [] (ws ++ [(ci, df ci)]) 0 0 = some w1)
    (hcl : cells + 1 + nCc z ≤ R.cells) (hsl : slots + nfL.getD ci 0 + nCs z ≤ R.slots) (hR : nK z + 1 ≤ R.frames ∧ 8 + (nL z + 11) + 37 * nK z ≤ R.locals)
    (d0 : decode code pc = .ok (.new i1, 3)) (d3 : decode code (pc + 3) = .ok (.dup, 1)) (d4 : decode code (pc + 4) = .ok (.invokespecial i2, 3)) (Hz : H.size = N + ws.length) (P : va_P (xD u) zCl (nw u ws) H) (S : va_S (fun q => N ≤ q) s.heap H locs)
    (kk : ∀ (H1 : Heap) (locs1 : List Loc), H1.size = N + w1.length → va_P (xD u) zCl (nw u w1) H1 → va_S (fun q => N ≤ q) s.heap H1 locs1 → W p u.1 e R s m args below meth c H1 locs1 (cells + 1 + nCc z) (slots + nfL.getD ci 0 + nCs z) Q (F0 m (pc + 7) ls [.ref (N + ws.length)])) : W p u.1 e R s m args below meth c H locs cells slots Q (F0 m pc ls []) := by
  obtain ⟨d1', d2', d3', d4', d5', d6', d7', d8'⟩ := ndk z hz
  have hb8 : ci < 8 := by rw [← hci]; exact d8'
  have htb : ∀ w ∈ TBL, w.before args s = true := fun w hw => hts w (tblMem w hw).1
  obtain ⟨z1, z2, z3, z4, z5, z6⟩ := zC_ok hb8
  have hKn := hI.1.1 ci _ z1
  rw [z6] at hKn
  have hxs := hI.2.1
  refine W.newcK hx hb hown (hts _ hlk1) (htb _ (inst_in hb8)) (htb _ (init_in hb8)) rfl d0 (by omega) (by omega) hKn.2.1 rfl fun H1 kC hkC e1 zz o1 => ?_
  have hob := u_born (zty ci) htb z2 (by rw [z6]; exact hKn) hkC e1 z3
  have hat : va_at (xD u) zCl (xA u ws.length, nt u (ci, df ci)) H1 := by
    rw [nt_o hb8, hxs _ hlen, ← Hz]
    refine ⟨_, z1, hob.to (fun j hj => ?_)⟩
    rw [z5] at hj
    obtain ⟨q1, q2⟩ := df_ok ci hb8 j hj
    rw [q1]
    unfold vp_V
    rw [List.getD_eq_getElem?_getD, List.getD_eq_getElem?_getD, List.getElem?_map]
    rw [List.getD_eq_getElem?_getD] at q2
    cases hd : (df ci)[j]? with
    | none => rfl
    | some v =>
      rw [hd] at q2
      rcases q2 with q2 | q2
      · have q2 : v = .null := q2
        subst q2; rfl
      · have q2 : v = .int 0 := q2
        subst q2; rfl
  obtain ⟨a1, a2, a3, a4⟩ := nw_new hxs Hz hlen P S zz o1 hat
  have ead : H.size = xA u ws.length := by rw [hxs _ hlen]; exact Hz
  refine lv_dup hx hb d3 rfl ?_
  have hM : NCall u N z [.ref ws.length] (ws ++ [(ci, df ci)]) w1 := ncall_of hz (by show 1 ≤ nL z; exact hl1) rfl a2 (nrun_ok 2000 z 0 _ _ _ 0 0 w1 hz hrun)
  have hpre : PreS s H1 (pcN u N [.ref ws.length] (ws ++ [(ci, df ci)])) (Value.ref (xA u ws.length) :: []) := ⟨blindN u N _ _, fun U hU hW => ⟨rfl, hI.go a4 hU hW, by rw [hU]; exact a1, by rw [hU]; exact a3⟩⟩
  have hini : (Cond.initialized (nY z).cls).before args s = true := by rw [d2']; exact htb _ (init_in d8')
  have him := htb _ (inTBL (nm_w _ (List.mem_map.mpr ⟨z, nm_a z hz, rfl⟩)) rfl)
  have fin : va_Run p u.1 e R s m args below meth c H1 locs (cells + 1) (slots + nfL.getD ci 0) (nCc z) (nCs z) (F0 m (pc + 3 + 1) ls [.ref H.size, .ref H.size]) [.ref H.size] (qcN u N w1 (Value.ref (xA u ws.length) :: []).toArray) (fun q => N ≤ q) := by
    refine va_runI (n := 0) (nL := 4) ⟨hx, hb, hml, hown, htb⟩ hM (cwI 0 htb (goodN hz) rfl rfl rfl hini (htb _ (inTBL hlk2 rfl)) him d7' ⟨d3', d4', by rw [← hA]; exact d5'⟩ hR) hpre rfl rfl hsz ?_ (by show 2 * 0 + 1 ≤ 8; omega) d4 ⟨by omega, by omega⟩
    show [Value.ref H.size, Value.ref H.size] = [Value.ref (xA u ws.length), Value.ref H.size]
    rw [← ead]
  refine vn_call fin a4 (fun H2 locs2 b1 P2 S2 => ?_)
  have hf := kk H2 locs2 b1 P2 S2
  rw [← Hz] at hf
  exact hf
theorem nw1_ex : ∃ w, nW1 = some w ∧ w.length = 51 := by
  cases h : nW1 with
  | none => have := nW1_len; rw [h] at this; cases this
  | some w => have := nW1_len; rw [h] at this; exact ⟨w, rfl, Option.some.inj this⟩
set_option maxHeartbeats 4000000 in
/-- THE LAW up to its loop -/
theorem law_start {p : Program} {e : Env} {s : State} {m : MethodId} {below : List Frame} {meth : Method} {c : Code} (l : Launch) {b L : Nat} {xs : Nat → Int32} (C0 : lw_At p s m meth c b L xs)
    (hw : ∀ u : UV, u.1 = l → xN u = L → xX u = xs → Wp u 228 18 [.ref 99, .ref 0, .ref 51, .int 0] [] hi0 hl0 (fun r _ _ => r = some (.int 1))) : W p l e room_1 s m #[Value.ref b] below meth c s.heap [] 0 0 (lw_Z below #[Value.ref b] s) (entryFrame m ([Value.ref b] : List Value).toArray 4) := by
  obtain ⟨hx, hb, hr, hml, hown, hts, hX, hbl, hlocks, hgv⟩ := C0
  have hnar : ∀ w ∈ flatC narrow_1, w.before #[Value.ref b] s = true := fun w hw => flat_of_before _ hgv w (List.mem_append_right _ hw)
  have hA : ∀ a : Nat, a < s.heap.size → ¬ (fun q : Nat => s.heap.size ≤ q) a := fun a h => Nat.not_le.mpr h
  obtain ⟨adK, adV, hS1, hR1⟩ := strs (A := fun q => s.heap.size ≤ q) hnar hts hA
  have hinst : ∀ ci, ci < 8 → (Cond.instantiable (cN ci) (nfL.getD ci 0)).before #[Value.ref b] s = true := fun ci h => hts _ (tblMem _ (inst_in h)).1
  have hkn : ∀ ci, ∃ q : ClassId × (Nat → Nat), ci < 8 → u_Kn s (zC ci).1 (zC ci).2.1 (zC ci).2.2 q.1 q.2 := by
    intro ci
    by_cases h : ci < 8
    · obtain ⟨z1, z2, z3, z4, z5, z6⟩ := zC_ok h
      obtain ⟨cc, ii, hk⟩ := u_known (C := (zC ci).1) (T := (zC ci).2.1) (N := (zC ci).2.2) (n := nfL.getD ci 0) (fun w hw => hts w (tblMem w hw).1) z2 (by rw [z6]; exact hinst ci h)
      exact ⟨(cc, ii), fun _ => hk⟩
    · exact ⟨(0, fun _ => 0), fun q => absurd q h⟩
  obtain ⟨dd, hdd⟩ := Classical.axiomOfChoice hkn
  obtain ⟨a8, k8, p8, f8, g8, e8⟩ := Cond.arrayClass_spec (hts _ (tblMem _ narr0).1)
  obtain ⟨a9, k9, p9, f9, g9, e9⟩ := Cond.arrayClass_spec (hts _ (tblMem _ narr1).1)
  obtain ⟨a10, k10, p10, f10, g10, e10⟩ := Cond.arrayClass_spec (hts _ (tblMem _ narr2).1)
  obtain ⟨p11, a11, k11, f11, i11, g11, e11, h11⟩ := Cond.arrayOver_spec (hts _ nover11)
  obtain ⟨p12, a12, k12, f12, i12, g12, e12, h12⟩ := Cond.arrayOver_spec (hts _ nover12)
  obtain ⟨p13, a13, k13, f13, i13, g13, e13, h13⟩ := Cond.arrayOver_spec (hts _ nover13)
  obtain ⟨fv, hfv, hfc⟩ : ∃ fv : Value, va_Z "jdk/internal/util/Preconditions" "SIOOBE_FORMATTER" "Ljava/util/function/BiFunction;" fv (fun q => s.heap.size ≤ q) s s.heap ∧ fv.category = 1 := by
    rcases va_Zqof (hts _ lw_z2) (hts _ lw_y2) (hnar _ (lw_nar _ (List.mem_cons_of_mem _ List.mem_cons_self))) hA with q | ⟨t, q⟩
    · exact ⟨_, q, rfl⟩
    · exact ⟨_, q, rfl⟩
  have hcs := va_Zof (A := fun q => s.heap.size ≤ q) (hts _ lw_z1) (hts _ lw_y1) (va_eqi (hnar _ (lw_nar _ List.mem_cons_self))) hA
  generalize hu : ((l, (fun k => (dd k).1, fun k => (dd k).2), (fun h => if h < 63 then s.heap.size + h else if h = 99 then b else if h < 200 then adK (h - 100) else adV (h - 200)), (fun k => if k = 8 then a8 else if k = 9 then a9 else if k = 10 then a10 else if k = 11 then a11 else if k = 12 then a12 else a13), (b, L, xs), fv) : UV) = u
  have u1 : u.1 = l := by rw [← hu]
  have u2 : xN u = L := by rw [← hu]
  have u3 : xX u = xs := by rw [← hu]
  have u4 : xF u = fv := by rw [← hu]
  have uA : ∀ h, h < 63 → xA u h = s.heap.size + h := by intro h hh; rw [← hu]; show (if h < 63 then _ else _) = _; rw [if_pos hh]
  have u99 : xA u 99 = b := by rw [← hu]; rfl
  have uK : ∀ i, i < 16 → xA u (100 + i) = adK i := by
    intro i hi
    rw [← hu]
    show (if 100 + i < 63 then _ else if 100 + i = 99 then _ else if 100 + i < 200 then _ else _) = _
    rw [if_neg (by omega), if_neg (by omega), if_pos (by omega), show 100 + i - 100 = i by omega]
  have uV : ∀ i, i < 16 → xA u (200 + i) = adV i := by
    intro i hi
    rw [← hu]
    show (if 200 + i < 63 then _ else if 200 + i = 99 then _ else if 200 + i < 200 then _ else _) = _
    rw [if_neg (by omega), if_neg (by omega), if_neg (by omega), show 200 + i - 200 = i by omega]
  have hvk : vk_S 16 lenS bytS (fun i => xA u (100 + i)) (fun i => xA u (200 + i)) (fun q => s.heap.size ≤ q) s s.heap := by
    refine ⟨fun i hi => ?_, fun i j hi hj e => ?_⟩
    · dsimp only
      rw [uK i hi, uV i hi]
      exact hS1.1 i hi
    · dsimp only at e
      rw [uK i hi, uK j hj] at e
      exact hS1.2 i j hi hj e
  have hRk : ∀ q ∈ SLT, vk_R (cN (q.1 / 10000)) (q.1 % 10000) (stL.getD q.2 "") (xA u (100 + q.2)) s := by
    intro q hq
    rw [uK _ (slt_t q hq).1]
    exact hR1 q hq
  have hK : va_K (xD u) zCl (tyL u) s := by
    refine ⟨fun k q hq => ?_, fun k q hq => ?_⟩
    · have hk : k < 8 := (List.getElem?_eq_some_iff.mp hq).1
      obtain ⟨z1, -⟩ := zC_ok hk
      cases hq.symm.trans z1
      rw [← hu]
      exact hdd k hk
    · have hk : k < 6 := (List.getElem?_eq_some_iff.mp hq).1
      rw [← hu] at hq
      have hc : k = 0 ∨ k = 1 ∨ k = 2 ∨ k = 3 ∨ k = 4 ∨ k = 5 := by omega
      rcases hc with rfl | rfl | rfl | rfl | rfl | rfl
      · cases hq; exact ⟨fun n z => ⟨fun k h => (by cases h), k8, g8, p8, e8⟩, f8⟩
      · cases hq; exact ⟨fun n z => ⟨fun k h => (by cases h), k9, g9, p9, e9⟩, f9⟩
      · cases hq; exact ⟨fun n z => ⟨fun k h => (by cases h), k10, g10, p10, e10⟩, f10⟩
      · cases hq; exact ⟨fun n z => ⟨fun k h => (by cases h), k11, g11, p11, e11⟩, k11, p11, g11, e11, f11, h11⟩
      · cases hq; exact ⟨fun n z => ⟨fun k h => (by cases h), k12, g12, p12, e12⟩, k12, p12, g12, e12, f12, h12⟩
      · cases hq; exact ⟨fun n z => ⟨fun k h => (by cases h), k13, g13, p13, e13⟩, k13, p13, g13, e13, f13, h13⟩
  have hI : inN u s.heap.size s := by
    refine ⟨hK, uA, hvk, hRk, fun q hq e => ?_, ⟨va_AO.of (hts _ nover11), va_AO.of (hts _ nover12), va_AO.of (hts _ nover13)⟩, by rw [u4]; exact hfc⟩
    have h1 := hts _ (ns_w _ (List.mem_map.mpr ⟨q, hq, rfl⟩))
    have h2 : ¬ q.2.1 = 99 := by
      have : ∀ q ∈ NSL, q.2.2 = true → ¬ q.2.1 = 99 := by decide +kernel
      exact this q hq e
    unfold nsW at h1
    rw [if_neg h2, if_pos e] at h1
    exact va_Nw.of rfl h1
  have hl := lv_entry ([.ref b]) (n := 4) (Nat.le_of_ble_eq_true rfl)
  rw [lg_entry_eq]
  generalize (lg_sl ([.ref b]) ++ List.replicate (4 - (lg_sl ([.ref b])).length) Slot.unset).toArray = ls at hl ⊢
  have hl : lv_has ls 4 [(0, .ref b)] := hl
  obtain ⟨w1, hw1, hlen1⟩ := nw1_ex
  obtain ⟨w2, hw2⟩ : ∃ w, nW2 = some w := Option.isSome_iff_exists.mp nW2_some
  have hrun1 : nrun 2000 6 0 (ent (nL 6) [.ref 0]) [] [(6, df 6)] 0 0 = some w1 := hw1
  have hrun2 : nrun 2000 7 0 (ent (nL 7) [.ref w1.length]) [] (w1 ++ [(7, df 7)]) 0 0 = some w2 := by
    have h2 := hw2
    unfold nW2 at h2
    rw [hw1] at h2
    rw [hlen1]
    exact h2
  have hz2 : nZ = w2 := by unfold nZ; rw [hw2]; rfl
  rw [← u1]
  refine law_make (u := u) (ws := []) (z := 6) (ci := 6) hx hb hml hl.1 hown hts hI rfl (by decide) rfl rfl (by decide) (by decide) lw_c1 lw_m1 hrun1 (Nat.le_of_ble_eq_true rfl) (Nat.le_of_ble_eq_true rfl) ⟨Nat.le_of_ble_eq_true rfl, Nat.le_of_ble_eq_true rfl⟩ d_law_0 d_law_3 d_law_4 rfl (fun k q h => by simp [nw] at h) va_S.rf (fun H1 locs1 a1 P1 S1 => ?_)
  refine lv_astore_n (lv' := [(1, .ref (s.heap.size + 0)), (0, .ref b)]) hx hb d_law_7 rfl hl (by decide) rfl (fun ls hl => ?_)
  refine law_make (u := u) (ws := w1) (z := 7) (ci := 7) hx hb hml hl.1 hown hts hI rfl (by decide) rfl rfl (by decide) (by rw [hlen1]; decide) lw_c2 lw_m2 hrun2 (Nat.le_of_ble_eq_true rfl) (Nat.le_of_ble_eq_true rfl) ⟨Nat.le_of_ble_eq_true rfl, Nat.le_of_ble_eq_true rfl⟩ d_law_8 d_law_11 d_law_12 a1 P1 S1 (fun H2 locs2 a2 P2 S2 => ?_)
  refine lv_astore_n (lv' := [(2, .ref (s.heap.size + w1.length)), (1, .ref (s.heap.size + 0)), (0, .ref b)]) hx hb d_law_15 rfl hl (by decide) rfl (fun ls hl => ?_)
  refine lv_iconst (v := 0) hx hb d_law_16 (by decide) ?_
  refine lv_istore_n (lv' := [(3, .int 0), (2, .ref (s.heap.size + w1.length)), (1, .ref (s.heap.size + 0)), (0, .ref b)]) hx hb d_law_17 rfl hl (by decide) rfl (fun ls hl => ?_)
  refine va_forget (fun q hq => S2.2.2 q hq) ?_
  have hAS : ∀ q, aS u q → s.heap.size ≤ q := by
    rintro q ⟨h, hh, rfl⟩
    rw [uA h hh]
    exact Nat.le_add_right _ _
  have hUU : inU u s := by
    refine ⟨hK, fun i j hi hj e => ?_, ⟨?_, ?_, ?_⟩, hvk.narrow hAS, hcs.narrow hAS, by rw [u4]; exact hfv.narrow hAS, hRk, fun q hq e => ?_, by rw [u4]; exact hfc⟩
    · rw [uA i hi, uA j hj] at e; omega
    · rw [u99, u2, u3]; exact hX
    · rw [u99]; exact hbl
    · rw [u99]; exact fun q => absurd (hAS _ q) (Nat.not_le.mpr hbl)
    · have h1 := hts _ (ml_w _ (List.mem_map.mpr ⟨q, hq, rfl⟩))
      have h2 : ∀ q ∈ MLT, q.2.2 = true → ¬ q.2.1 = 1000 ∧ ¬ q.2.1 = 1001 ∧ ¬ q.2.1 = 1002 := by decide +kernel
      obtain ⟨b1, b2, b3⟩ := h2 q hq e
      unfold mlW at h1
      rw [if_neg b1, if_neg b2, if_neg b3, if_pos e] at h1
      exact va_Nw.of rfl h1
  rw [← hz2] at P2
  have hP := nz_wd P2
  refine hw u u1 u2 u3 p e room_1 s m #[Value.ref b] below meth c _ _ _ H2 [] ls ⟨hx, hb, hr, hml, hown, fun w hw => hts w (tblMem w hw).1, hUU, Nat.le_of_ble_eq_true rfl, Nat.le_of_ble_eq_true rfl, Nat.le_of_ble_eq_true rfl, Nat.le_of_ble_eq_true rfl⟩ ?_ ?_ hP ⟨S2.1, fun q h1 h2 => S2.2.1 q h1 (Nat.not_le.mpr h1), fun q h => by cases h⟩ ?_ rfl
  · intro r hi hl' H locs ls pc ins hk P S hro hd
    subst hk
    obtain ⟨e1, -⟩ := hro
    subst e1
    refine va_forget (fun q hq => hAS _ (S.2.2 q hq)) ?_
    refine W.widen (k := 600000) (n := 7302249) (Nat.le_of_ble_eq_true rfl) (Nat.le_of_ble_eq_true rfl) ?_
    rw [u1]
    exact lw_ret hx hb hr hlocks hd
  · intro _ v hv
    simp only [List.mem_cons, List.not_mem_nil, or_false] at hv
    rcases hv with rfl | rfl | rfl | rfl <;> rfl
  · refine ⟨hl.1, hl.2.1, fun q hq => hl.2.2 q ?_⟩
    obtain ⟨i, v, h1, h2, rfl⟩ := mem_asl.mp hq
    have hi : i < 4 := (List.getElem?_eq_some_iff.mp h1).1
    have hc : i = 0 ∨ i = 1 ∨ i = 2 ∨ i = 3 := by omega
    rcases hc with rfl | rfl | rfl | rfl
    · cases h1
      show (0, Value.ref (xA u 99)) ∈ _
      rw [u99]; simp
    · cases h1
      show (1, Value.ref (xA u 0)) ∈ _
      rw [uA 0 (by decide)]; simp
    · cases h1
      show (2, Value.ref (xA u 51)) ∈ _
      rw [uA 51 (by decide), hlen1]; simp
    · cases h1
      show (3, Value.int 0) ∈ _
      simp
