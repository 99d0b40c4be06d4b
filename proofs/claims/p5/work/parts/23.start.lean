theorem d_law_0 : decode code 0 = .ok (.new 7, 3) := by decide +kernel
theorem d_law_3 : decode code 3 = .ok (.dup, 1) := by decide +kernel
theorem d_law_4 : decode code 4 = .ok (.invokespecial 9, 3) := by decide +kernel
theorem d_law_7 : decode code 7 = .ok (.astore_n 1, 1) := by decide +kernel
theorem d_law_8 : decode code 8 = .ok (.new 10, 3) := by decide +kernel
theorem d_law_11 : decode code 11 = .ok (.dup, 1) := by decide +kernel
theorem d_law_12 : decode code 12 = .ok (.invokespecial 12, 3) := by decide +kernel
theorem d_law_15 : decode code 15 = .ok (.astore_n 2, 1) := by decide +kernel
theorem d_law_16 : decode code 16 = .ok (.iconst 0, 1) := by decide +kernel
theorem d_law_17 : decode code 17 = .ok (.istore_n 3, 1) := by decide +kernel
theorem lw_c1 : Cond.classLink "EarRowsLaw" 7 "EarRows" ∈ lw_tbl := inT1 (List.mem_of_getElem? (i := 17) rfl)
theorem lw_c2 : Cond.classLink "EarRowsLaw" 10 "EarRowsModel" ∈ lw_tbl := inT4 (List.mem_of_getElem? (i := 74) rfl)
theorem lw_m1 : Cond.methodLink "EarRowsLaw" 9 (nY 6) ∈ lw_tbl := inT1 (List.mem_of_getElem? (i := 19) rfl)
theorem lw_m2 : Cond.methodLink "EarRowsLaw" 12 (nY 7) ∈ lw_tbl := inT4 (List.mem_of_getElem? (i := 76) rfl)
theorem lw_z1 : Cond.laysStatic "java/lang/String" "COMPACT_STRINGS" "Z" ∈ lw_tbl := inT3 (List.mem_of_getElem? (i := 136) rfl)
theorem lw_z2 : Cond.laysStatic "jdk/internal/util/Preconditions" "SIOOBE_FORMATTER" "Ljava/util/function/BiFunction;" ∈ lw_tbl := inT3 (List.mem_of_getElem? (i := 152) rfl)
theorem lw_y1 : Cond.initialized "java/lang/String" ∈ lw_tbl := inT1 (List.mem_of_getElem? (i := 13) rfl)
theorem lw_y2 : Cond.initialized "jdk/internal/util/Preconditions" ∈ lw_tbl := inT1 (List.mem_of_getElem? (i := 15) rfl)
set_option maxRecDepth 100000 in
theorem lw_nar : ∀ w ∈ [Cond.eq (.static "java/lang/String" "COMPACT_STRINGS" "Z") (.int 1), Cond.isRef (.static "jdk/internal/util/Preconditions" "SIOOBE_FORMATTER" "Ljava/util/function/BiFunction;")], w ∈ flatC narrow_1 := sbq_ok _ _ (by decide +kernel)
/-- the two steps 'new C' and its constructor without arguments, in the law -/
theorem law_make {p : Program} {e : Env} {R : Room} {s : State} {m : MethodId} {args : Array Value} {below : List Frame} {meth : Method} {c : Code} {H : Heap} {locs : List Loc} {cells slots : Nat} {Q : State → Prop} {pc : Nat} {ls : Array Slot} {u : UV} {N z ci i1 i2 : Nat} {ws w1 : List NC} (hx : p.tables.exec = Jvm.exec) (hb : c.code = code) (hml : c.maxLocals = 4) (hsz : ls.size = 4) (hown : s.vm.findClass "EarRowsLaw" = some m.cls) (hts : ∀ w ∈ lw_tbl, w.before args s = true) (hI : inN u N s) (hNs : s.heap.size = N)
    (hz : z < 8) (hci : nO z = ci) (hA : nA z = 0) (hl1 : nL z ≥ 1) (hlen : ws.length < 63) (hlk1 : Cond.classLink "EarRowsLaw" i1 (cN ci) ∈ lw_tbl) (hlk2 : Cond.methodLink "EarRowsLaw" i2 (nY z) ∈ lw_tbl) (hrun : nrun 2000 z 0 (ent (nL z) [.ref ws.length]) [] (ws ++ [(ci, df ci)]) 0 0 = some w1)
    (hcl : cells + 1 + nCc z ≤ R.cells) (hsl : slots + nfL.getD ci 0 + nCs z ≤ R.slots) (hR : nK z + 1 ≤ R.frames ∧ 8 + (nL z + 11) + 37 * nK z ≤ R.locals)
    (d0 : decode code pc = .ok (.new i1, 3)) (d3 : decode code (pc + 3) = .ok (.dup, 1)) (d4 : decode code (pc + 4) = .ok (.invokespecial i2, 3)) (Hz : H.size = N + ws.length) (P : va_P (xD u) zCl (nw u ws) H) (S : va_S (fun q => N ≤ q) s.heap H locs)
    (kk : ∀ (H1 : Heap) (locs1 : List Loc), H1.size = N + w1.length → va_P (xD u) zCl (nw u w1) H1 → va_S (fun q => N ≤ q) s.heap H1 locs1 → W p u.1 e R s m args below meth c H1 locs1 (cells + 1 + nCc z) (slots + nfL.getD ci 0 + nCs z) Q (F0 m (pc + 7) ls [.ref (N + ws.length)])) : W p u.1 e R s m args below meth c H locs cells slots Q (F0 m pc ls []) := by
  obtain ⟨d1', d2', d3', d4', d5', d6', d7', d8'⟩ := ndk z hz
  have hb8 : ci < 8 := by rw [← hci]; exact d8'
  have htb : ∀ w ∈ TBL, w.before args s = true := fun w hw => hts w (tblMem w hw).1
  obtain ⟨z1, z2, z3, z4, z5, z6⟩ := zC_ok hb8
  have hKn := hI.1.1 ci _ z1
  rw [z6] at hKn
  have hxs := hI.2.1
  refine W.newcK hx hb hown (hts _ hlk1) (htb _ (inst_in hb8)) (htb _ (init_in hb8)) rfl d0 (by omega) (by omega) hKn.2.1 rfl fun H1 kC hkC e1 zz o1 => ?_
  have hob := u_born (zty ci) htb z2 (by rw [z6]; exact hKn) hkC e1 z3
  have hat : va_at (xD u) zCl (xA u ws.length, nt u (ci, df ci)) H1 := by
    rw [nt_o hb8, hxs _ hlen, ← Hz]
    refine ⟨_, z1, hob.to (fun j hj => ?_)⟩
    rw [z5] at hj
    obtain ⟨q1, q2⟩ := df_ok ci hb8 j hj
    rw [q1]
    unfold vp_V
    rw [List.getD_eq_getElem?_getD, List.getD_eq_getElem?_getD, List.getElem?_map]
    rw [List.getD_eq_getElem?_getD] at q2
    cases hd : (df ci)[j]? with
    | none => rfl
    | some v =>
      rw [hd] at q2
      rcases q2 with q2 | q2
      · have q2 : v = .null := q2
        subst q2; rfl
      · have q2 : v = .int 0 := q2
        subst q2; rfl
  obtain ⟨a1, a2, a3, a4⟩ := nw_new hxs Hz hlen P S zz o1 hat
  have ead : H.size = xA u ws.length := by rw [hxs _ hlen]; exact Hz
  refine lv_dup hx hb d3 rfl ?_
  have hM : NCall u N z [.ref ws.length] (ws ++ [(ci, df ci)]) w1 := ncall_of hz (by show 1 ≤ nL z; exact hl1) rfl a2 (nrun_ok 2000 z 0 _ _ _ 0 0 w1 hz hrun)
  have hpre : PreS s H1 (pcN u N [.ref ws.length] (ws ++ [(ci, df ci)])) (Value.ref (xA u ws.length) :: []) := ⟨blindN u N _ _, fun U hU hW => ⟨rfl, hI.go a4 hU hW, by rw [hU]; exact a1, by rw [hU]; exact a3⟩⟩
  have hini : (Cond.initialized (nY z).cls).before args s = true := by rw [d2']; exact htb _ (init_in d8')
  have him := htb _ (inTBL (nm_w _ (List.mem_map.mpr ⟨z, nm_a z hz, rfl⟩)) rfl)
  have fin : va_Run p u.1 e R s m args below meth c H1 locs (cells + 1) (slots + nfL.getD ci 0) (nCc z) (nCs z) (F0 m (pc + 3 + 1) ls [.ref H.size, .ref H.size]) [.ref H.size] (qcN u N w1 (Value.ref (xA u ws.length) :: []).toArray) (fun q => N ≤ q) := by
    refine va_runI (n := 0) (nL := 4) ⟨hx, hb, hml, hown, htb⟩ hM (cwI 0 htb (goodN hz) rfl rfl rfl hini (htb _ (inTBL hlk2 rfl)) him d7' ⟨d3', d4', by rw [← hA]; exact d5'⟩ hR) hpre rfl rfl hsz ?_ (by show 2 * 0 + 1 ≤ 8; omega) d4 ⟨by omega, by omega⟩
    show [Value.ref H.size, Value.ref H.size] = [Value.ref (xA u ws.length), Value.ref H.size]
    rw [← ead]
  refine vn_call fin a4 (fun H2 locs2 b1 P2 S2 => ?_)
  have hf := kk H2 locs2 b1 P2 S2
  rw [← Hz] at hf
  exact hf
theorem nw1_ex : ∃ w, nW1 = some w ∧ w.length = 51 := by
  cases h : nW1 with
  | none => have := nW1_len; rw [h] at this; cases this
  | some w => have := nW1_len; rw [h] at this; exact ⟨w, rfl, Option.some.inj this⟩
set_option maxHeartbeats 4000000 in
/-- THE LAW up to its loop -/
theorem law_start {p : Program} {e : Env} {s : State} {m : MethodId} {below : List Frame} {meth : Method} {c : Code} (l : Launch) {b L : Nat} {xs : Nat → Int32} (C0 : lw_At p s m meth c b L xs)
    (hw : ∀ u : UV, u.1 = l → xN u = L → xX u = xs → Wp u 228 18 [.ref 99, .ref 0, .ref 51, .int 0] [] hi0 hl0 (fun r _ _ => r = some (.int 1))) : W p l e room_1 s m #[Value.ref b] below meth c s.heap [] 0 0 (lw_Z below #[Value.ref b] s) (entryFrame m ([Value.ref b] : List Value).toArray 4) := by
  obtain ⟨hx, hb, hr, hml, hown, hts, hX, hbl, hlocks, hgv⟩ := C0
  have hnar : ∀ w ∈ flatC narrow_1, w.before #[Value.ref b] s = true := fun w hw => flat_of_before _ hgv w (List.mem_append_right _ hw)
  have hA : ∀ a : Nat, a < s.heap.size → ¬ (fun q : Nat => s.heap.size ≤ q) a := fun a h => Nat.not_le.mpr h
  obtain ⟨adK, adV, hS1, hR1⟩ := strs (A := fun q => s.heap.size ≤ q) hnar hts hA
  have hinst : ∀ ci, ci < 8 → (Cond.instantiable (cN ci) (nfL.getD ci 0)).before #[Value.ref b] s = true := fun ci h => hts _ (tblMem _ (inst_in h)).1
  have hkn : ∀ ci, ∃ q : ClassId × (Nat → Nat), ci < 8 → u_Kn s (zC ci).1 (zC ci).2.1 (zC ci).2.2 q.1 q.2 := by
    intro ci
    by_cases h : ci < 8
    · obtain ⟨z1, z2, z3, z4, z5, z6⟩ := zC_ok h
      obtain ⟨cc, ii, hk⟩ := u_known (C := (zC ci).1) (T := (zC ci).2.1) (N := (zC ci).2.2) (n := nfL.getD ci 0) (fun w hw => hts w (tblMem w hw).1) z2 (by rw [z6]; exact hinst ci h)
      exact ⟨(cc, ii), fun _ => hk⟩
    · exact ⟨(0, fun _ => 0), fun q => absurd q h⟩
  obtain ⟨dd, hdd⟩ := Classical.axiomOfChoice hkn
  obtain ⟨a8, k8, p8, f8, g8, e8⟩ := Cond.arrayClass_spec (hts _ (tblMem _ narr0).1)
  obtain ⟨a9, k9, p9, f9, g9, e9⟩ := Cond.arrayClass_spec (hts _ (tblMem _ narr1).1)
  obtain ⟨a10, k10, p10, f10, g10, e10⟩ := Cond.arrayClass_spec (hts _ (tblMem _ narr2).1)
  obtain ⟨p11, a11, k11, f11, i11, g11, e11, h11⟩ := Cond.arrayOver_spec (hts _ nover11)
  obtain ⟨p12, a12, k12, f12, i12, g12, e12, h12⟩ := Cond.arrayOver_spec (hts _ nover12)
  obtain ⟨p13, a13, k13, f13, i13, g13, e13, h13⟩ := Cond.arrayOver_spec (hts _ nover13)
  obtain ⟨fv, hfv, hfc⟩ : ∃ fv : Value, va_Z "jdk/internal/util/Preconditions" "SIOOBE_FORMATTER" "Ljava/util/function/BiFunction;" fv (fun q => s.heap.size ≤ q) s s.heap ∧ fv.category = 1 := by
    rcases va_Zqof (hts _ lw_z2) (hts _ lw_y2) (hnar _ (lw_nar _ (List.mem_cons_of_mem _ List.mem_cons_self))) hA with q | ⟨t, q⟩
    · exact ⟨_, q, rfl⟩
    · exact ⟨_, q, rfl⟩
  have hcs := va_Zof (A := fun q => s.heap.size ≤ q) (hts _ lw_z1) (hts _ lw_y1) (va_eqi (hnar _ (lw_nar _ List.mem_cons_self))) hA
  generalize hu : ((l, (fun k => (dd k).1, fun k => (dd k).2), (fun h => if h < 63 then s.heap.size + h else if h = 99 then b else if h < 200 then adK (h - 100) else adV (h - 200)), (fun k => if k = 8 then a8 else if k = 9 then a9 else if k = 10 then a10 else if k = 11 then a11 else if k = 12 then a12 else a13), (b, L, xs), fv) : UV) = u
  have u1 : u.1 = l := by rw [← hu]
  have u2 : xN u = L := by rw [← hu]
  have u3 : xX u = xs := by rw [← hu]
  have u4 : xF u = fv := by rw [← hu]
  have uA : ∀ h, h < 63 → xA u h = s.heap.size + h := by intro h hh; rw [← hu]; show (if h < 63 then _ else _) = _; rw [if_pos hh]
  have u99 : xA u 99 = b := by rw [← hu]; rfl
  have uK : ∀ i, i < 16 → xA u (100 + i) = adK i := by
    intro i hi
    rw [← hu]
    show (if 100 + i < 63 then _ else if 100 + i = 99 then _ else if 100 + i < 200 then _ else _) = _
    rw [if_neg (by omega), if_neg (by omega), if_pos (by omega), show 100 + i - 100 = i by omega]
  have uV : ∀ i, i < 16 → xA u (200 + i) = adV i := by
    intro i hi
    rw [← hu]
    show (if 200 + i < 63 then _ else if 200 + i = 99 then _ else if 200 + i < 200 then _ else _) = _
    rw [if_neg (by omega), if_neg (by omega), if_neg (by omega), show 200 + i - 200 = i by omega]
  have hvk : vk_S 16 lenS bytS (fun i => xA u (100 + i)) (fun i => xA u (200 + i)) (fun q => s.heap.size ≤ q) s s.heap := by
    refine ⟨fun i hi => ?_, fun i j hi hj e => ?_⟩
    · dsimp only
      rw [uK i hi, uV i hi]
      exact hS1.1 i hi
    · dsimp only at e
      rw [uK i hi, uK j hj] at e
      exact hS1.2 i j hi hj e
  have hRk : ∀ q ∈ SLT, vk_R (cN (q.1 / 10000)) (q.1 % 10000) (stL.getD q.2 "") (xA u (100 + q.2)) s := by
    intro q hq
    rw [uK _ (slt_t q hq).1]
    exact hR1 q hq
  have hK : va_K (xD u) zCl (tyL u) s := by
    refine ⟨fun k q hq => ?_, fun k q hq => ?_⟩
    · have hk : k < 8 := (List.getElem?_eq_some_iff.mp hq).1
      obtain ⟨z1, -⟩ := zC_ok hk
      cases hq.symm.trans z1
      rw [← hu]
      exact hdd k hk
    · have hk : k < 6 := (List.getElem?_eq_some_iff.mp hq).1
      rw [← hu] at hq
      have hc : k = 0 ∨ k = 1 ∨ k = 2 ∨ k = 3 ∨ k = 4 ∨ k = 5 := by omega
      rcases hc with rfl | rfl | rfl | rfl | rfl | rfl
      · cases hq; exact ⟨fun n z => ⟨fun k h => (by cases h), k8, g8, p8, e8⟩, f8⟩
      · cases hq; exact ⟨fun n z => ⟨fun k h => (by cases h), k9, g9, p9, e9⟩, f9⟩
      · cases hq; exact ⟨fun n z => ⟨fun k h => (by cases h), k10, g10, p10, e10⟩, f10⟩
      · cases hq; exact ⟨fun n z => ⟨fun k h => (by cases h), k11, g11, p11, e11⟩, k11, p11, g11, e11, f11, h11⟩
      · cases hq; exact ⟨fun n z => ⟨fun k h => (by cases h), k12, g12, p12, e12⟩, k12, p12, g12, e12, f12, h12⟩
      · cases hq; exact ⟨fun n z => ⟨fun k h => (by cases h), k13, g13, p13, e13⟩, k13, p13, g13, e13, f13, h13⟩
  have hI : inN u s.heap.size s := by
    refine ⟨hK, uA, hvk, hRk, fun q hq e => ?_, ⟨va_AO.of (hts _ nover11), va_AO.of (hts _ nover12), va_AO.of (hts _ nover13)⟩, by rw [u4]; exact hfc⟩
    have h1 := hts _ (ns_w _ (List.mem_map.mpr ⟨q, hq, rfl⟩))
    have h2 : ¬ q.2.1 = 99 := by
      have : ∀ q ∈ NSL, q.2.2 = true → ¬ q.2.1 = 99 := by decide +kernel
      exact this q hq e
    unfold nsW at h1
    rw [if_neg h2, if_pos e] at h1
    exact va_Nw.of rfl h1
  have hl := lv_entry ([.ref b]) (n := 4) (Nat.le_of_ble_eq_true rfl)
  rw [lg_entry_eq]
  generalize (lg_sl ([.ref b]) ++ List.replicate (4 - (lg_sl ([.ref b])).length) Slot.unset).toArray = ls at hl ⊢
  have hl : lv_has ls 4 [(0, .ref b)] := hl
  obtain ⟨w1, hw1, hlen1⟩ := nw1_ex
  obtain ⟨w2, hw2⟩ : ∃ w, nW2 = some w := Option.isSome_iff_exists.mp nW2_some
  have hrun1 : nrun 2000 6 0 (ent (nL 6) [.ref 0]) [] [(6, df 6)] 0 0 = some w1 := hw1
  have hrun2 : nrun 2000 7 0 (ent (nL 7) [.ref w1.length]) [] (w1 ++ [(7, df 7)]) 0 0 = some w2 := by
    have h2 := hw2
    unfold nW2 at h2
    rw [hw1] at h2
    rw [hlen1]
    exact h2
  have hz2 : nZ = w2 := by unfold nZ; rw [hw2]; rfl
  rw [← u1]
  refine law_make (u := u) (ws := []) (z := 6) (ci := 6) hx hb hml hl.1 hown hts hI rfl (by decide) rfl rfl (by decide) (by decide) lw_c1 lw_m1 hrun1 (Nat.le_of_ble_eq_true rfl) (Nat.le_of_ble_eq_true rfl) ⟨Nat.le_of_ble_eq_true rfl, Nat.le_of_ble_eq_true rfl⟩ d_law_0 d_law_3 d_law_4 rfl (fun k q h => by simp [nw] at h) va_S.rf (fun H1 locs1 a1 P1 S1 => ?_)
  refine lv_astore_n (lv' := [(1, .ref (s.heap.size + 0)), (0, .ref b)]) hx hb d_law_7 rfl hl (by decide) rfl (fun ls hl => ?_)
  refine law_make (u := u) (ws := w1) (z := 7) (ci := 7) hx hb hml hl.1 hown hts hI rfl (by decide) rfl rfl (by decide) (by rw [hlen1]; decide) lw_c2 lw_m2 hrun2 (Nat.le_of_ble_eq_true rfl) (Nat.le_of_ble_eq_true rfl) ⟨Nat.le_of_ble_eq_true rfl, Nat.le_of_ble_eq_true rfl⟩ d_law_8 d_law_11 d_law_12 a1 P1 S1 (fun H2 locs2 a2 P2 S2 => ?_)
  refine lv_astore_n (lv' := [(2, .ref (s.heap.size + w1.length)), (1, .ref (s.heap.size + 0)), (0, .ref b)]) hx hb d_law_15 rfl hl (by decide) rfl (fun ls hl => ?_)
  refine lv_iconst (v := 0) hx hb d_law_16 (by decide) ?_
  refine lv_istore_n (lv' := [(3, .int 0), (2, .ref (s.heap.size + w1.length)), (1, .ref (s.heap.size + 0)), (0, .ref b)]) hx hb d_law_17 rfl hl (by decide) rfl (fun ls hl => ?_)
  refine va_forget (fun q hq => S2.2.2 q hq) ?_
  have hAS : ∀ q, aS u q → s.heap.size ≤ q := by
    rintro q ⟨h, hh, rfl⟩
    rw [uA h hh]
    exact Nat.le_add_right _ _
  have hUU : inU u s := by
    refine ⟨hK, fun i j hi hj e => ?_, ⟨?_, ?_, ?_⟩, hvk.narrow hAS, hcs.narrow hAS, by rw [u4]; exact hfv.narrow hAS, hRk, fun q hq e => ?_, by rw [u4]; exact hfc⟩
    · rw [uA i hi, uA j hj] at e; omega
    · rw [u99, u2, u3]; exact hX
    · rw [u99]; exact hbl
    · rw [u99]; exact fun q => absurd (hAS _ q) (Nat.not_le.mpr hbl)
    · have h1 := hts _ (ml_w _ (List.mem_map.mpr ⟨q, hq, rfl⟩))
      have h2 : ∀ q ∈ MLT, q.2.2 = true → ¬ q.2.1 = 1000 ∧ ¬ q.2.1 = 1001 ∧ ¬ q.2.1 = 1002 := by decide +kernel
      obtain ⟨b1, b2, b3⟩ := h2 q hq e
      unfold mlW at h1
      rw [if_neg b1, if_neg b2, if_neg b3, if_pos e] at h1
      exact va_Nw.of rfl h1
  rw [← hz2] at P2
  have hP := nz_wd P2
  refine hw u u1 u2 u3 p e room_1 s m #[Value.ref b] below meth c _ _ _ H2 [] ls ⟨hx, hb, hr, hml, hown, fun w hw => hts w (tblMem w hw).1, hUU, Nat.le_of_ble_eq_true rfl, Nat.le_of_ble_eq_true rfl, Nat.le_of_ble_eq_true rfl, Nat.le_of_ble_eq_true rfl⟩ ?_ ?_ hP ⟨S2.1, fun q h1 h2 => S2.2.1 q h1 (Nat.not_le.mpr h1), fun q h => by cases h⟩ ?_ rfl
  · intro r hi hl' H locs ls pc ins hk P S hro hd
    subst hk
    obtain ⟨e1, -⟩ := hro
    subst e1
    refine va_forget (fun q hq => hAS _ (S.2.2 q hq)) ?_
    refine W.widen (k := 600000) (n := 7302249) (Nat.le_of_ble_eq_true rfl) (Nat.le_of_ble_eq_true rfl) ?_
    rw [u1]
    exact lw_ret hx hb hr hlocks hd
  · intro _ v hv
    simp only [List.mem_cons, List.not_mem_nil, or_false] at hv
    rcases hv with rfl | rfl | rfl | rfl <;> rfl
  · refine ⟨hl.1, hl.2.1, fun q hq => hl.2.2 q ?_⟩
    obtain ⟨i, v, h1, h2, rfl⟩ := mem_asl.mp hq
    have hi : i < 4 := (List.getElem?_eq_some_iff.mp h1).1
    have hc : i = 0 ∨ i = 1 ∨ i = 2 ∨ i = 3 := by omega
    rcases hc with rfl | rfl | rfl | rfl
    · cases h1
      show (0, Value.ref (xA u 99)) ∈ _
      rw [u99]; simp
    · cases h1
      show (1, Value.ref (xA u 0)) ∈ _
      rw [uA 0 (by decide)]; simp
    · cases h1
      show (2, Value.ref (xA u 51)) ∈ _
      rw [uA 51 (by decide), hlen1]; simp
    · cases h1
      show (3, Value.int 0) ∈ _
      simp
