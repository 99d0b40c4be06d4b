def nsp (ins : Instr) : Bool := match ins with
  | .new _ => false
  | .anewarray _ => false
  | .newarray _ => false
  | .invokespecial _ => false
  | _ => true
theorem hsplit (h n : Nat) (q : n ≤ h) : ∃ j, h = n + j := ⟨h - n, by omega⟩
theorem fs_w : ∀ w ∈ (FLT.filter (fun q => q.2.1 == 15)).map (fun q => Cond.fieldLink (cN (q.1 / 10000)) (q.1 % 10000) "java/lang/String" (if q.2.2 = 0 then "value" else "coder") (if q.2.2 = 0 then "[B" else "B")), w ∈ lw_tbl := sbq_ok lw_tbl _ (by decide +kernel)
theorem fs_b : ∀ q ∈ FLT, q.2.1 = 15 → q.2.2 = 0 ∨ q.2.2 = 1 := by decide +kernel
theorem zl_w : ∀ w ∈ [Cond.fieldLink "java/lang/String" 38 "java/lang/String" "COMPACT_STRINGS" "Z", Cond.fieldLink "java/lang/String" 1053 "jdk/internal/util/Preconditions" "SIOOBE_FORMATTER" "Ljava/util/function/BiFunction;"], w ∈ lw_tbl := sbq_ok lw_tbl _ (by decide +kernel)
theorem lay_good (C : String) (T : u_T) (k : Nat) : goodWord (u_lay C T k) = true := by
  unfold u_lay
  split <;> rfl
theorem us_in {C : String} {T : u_T} {N : Nat} (h : ∀ w ∈ u_ws C T N, w ∈ lw_tbl) : ∀ w ∈ u_ws C T N, w ∈ TBL := by
  intro w hw
  refine inTBL (h w hw) ?_
  obtain ⟨k, -, rfl⟩ := List.mem_map.mp hw
  exact lay_good C T k
theorem zC_ok {ci : Nat} (h : ci < 8) : zCl[ci]? = some (zC ci) ∧ (∀ w ∈ u_ws (zC ci).1 (zC ci).2.1 (zC ci).2.2, w ∈ TBL) ∧ (∀ k, k < (zC ci).2.2 → parseFieldDescriptor ((zC ci).2.1 k).2.2.1 = some (zty ci k)) ∧ (∀ a, a < (zC ci).2.2 → ∀ b, b < (zC ci).2.2 → a ≠ b → ((zC ci).2.1 a).2.1 ≠ ((zC ci).2.1 b).2.1) ∧ (zC ci).2.2 = nfL.getD ci 0 ∧ (zC ci).1 = cN ci := by
  match ci, h with
  | 0, _ => exact ⟨rfl, us_in zw0, zo0, zn0, rfl, rfl⟩
  | 1, _ => exact ⟨rfl, us_in zw1, zo1, zn1, rfl, rfl⟩
  | 2, _ => exact ⟨rfl, us_in zw2, zo2, zn2, rfl, rfl⟩
  | 3, _ => exact ⟨rfl, us_in zw3, zo3, zn3, rfl, rfl⟩
  | 4, _ => exact ⟨rfl, us_in zw4, zo4, zn4, rfl, rfl⟩
  | 5, _ => exact ⟨rfl, us_in zw5, zo5, zn5, rfl, rfl⟩
  | 6, _ => exact ⟨rfl, us_in zw6, zo6, zn6, rfl, rfl⟩
  | 7, _ => exact ⟨rfl, us_in zw7, zo7, zn7, rfl, rfl⟩
theorem zC_fin : ∀ ci, ci < 8 → ∀ k, k < nfL.getD ci 0 → rt ci k = false → ((zC ci).2.1 k).2.2.2 = false ∧ zty ci k = (if bz ci k = true then .boolean else .int) := by decide +kernel
theorem fl_at {o i ci k : Nat} (hi : i < 10000) (h : lk FLT o i = some (ci, k)) (hc : ¬ ci = 15) : ci < 8 ∧ k < (zC ci).2.2 ∧ ((zC ci).2.1 k).1 = (zC ci).1 ∧ Cond.fieldLink (cN o) i (zC ci).1 ((zC ci).2.1 k).2.1 ((zC ci).2.1 k).2.2.1 ∈ TBL := by
  have hm := lk_mem h
  have hb := List.all_eq_true.mp fl_b _ hm
  simp only [flB, Bool.or_eq_true, Bool.and_eq_true, decide_eq_true_eq, beq_iff_eq] at hb
  rcases hb with hb | ⟨h1, h2, h3⟩
  · exact absurd hb hc
  · have hw := fl_w _ (List.mem_map.mpr ⟨_, List.mem_filter.mpr ⟨hm, by simpa using hc⟩, rfl⟩)
    unfold flW at hw
    dsimp only at hw
    rw [(key_d hi).1, (key_d hi).2] at hw
    exact ⟨h1, h2, h3, inTBL hw rfl⟩
section VW
variable {u : UV} {y pc : Nat} {r : Row} {lv st : List Value} {hi : HI} {hl : HL} {K : Option Value → HI → HL → Prop} {go : Nat → List Value → List Value → HI → HL → Prop}
theorem pl_of (hz : y < 229) (hr : row y pc = some r) {ins : Instr} (ei : r.1 = ins) (hs : nsp ins = true) : ipl ins < 10000 := by
  subst ei
  exact rw_pl hz hr (by revert hs; cases r.1 <;> simp [nsp])

theorem v_ldc {i : Nat} (hz : y < 229) (hr : row y pc = some r) (hg : Gk u y K go) (ei : r.1 = .ldc i) (h : vi u go K y pc r lv st hi hl) : Wp u y pc lv st hi hl K := by
  simp only [vi, ei] at h
  have hp : i < 10000 := pl_of hz hr ei rfl
  split at h
  · rename_i v hv
    have hw := zc_all _ (List.mem_map.mpr ⟨_, lk_mem hv, rfl⟩)
    dsimp only at hw
    rw [(key_d hp).1, (key_d hp).2] at hw
    intro p e R s m args below meth c cells slots Z H locs ls C T G P S L N
    exact lv_ldc C.1 C.2.1 C.2.2.2.2.1 (C.2.2.2.2.2.1 _ (inTBL hw rfl)) (rw_dec hz hr ei rfl rfl (by decide)) (hg _ _ _ _ _ h p e R s m args below meth c cells slots Z H locs ls C T G P S L N)
  · split at h
    · rename_i n hn
      intro p e R s m args below meth c cells slots Z H locs ls C T G P S L N
      have hq := C.2.2.2.2.2.2.1.2.2.2.2.2.2.1 _ (lk_mem hn)
      dsimp only at hq
      rw [(key_d hp).1, (key_d hp).2] at hq
      exact va_ldcS C.1 C.2.1 C.2.2.2.2.1 hq (rw_dec hz hr ei rfl rfl (by decide)) (hg _ _ _ _ _ h p e R s m args below meth c cells slots Z H locs ls C T G P S L N)
    · exact h.elim
theorem vx_ldcw {p : Program} {l : Launch} {e : Env} {R : Room} {s : State} {m : MethodId} {args : Array Value} {below : List Frame} {meth : Method} {c : Code} {H : Heap} {locs : List Loc} {cells slots : Nat} {Q : State → Prop} {cc : ByteArray} {pc : Nat} {ls : Array Slot} {rest : List Value} (hexec : p.tables.exec = Jvm.exec) (hb : c.code = cc) {own tx : String} {index q : Nat} (hown : s.vm.findClass own = some m.cls) (hZ : vk_R own index tx q s) (hdg : decode cc pc = .ok (.ldc_w index, 3))
    (k : W p l e R s m args below meth c H locs cells slots Q (F0 m (pc + 3) ls (.ref q :: rest))) : W p l e R s m args below meth c H locs cells slots Q (F0 m pc ls rest) := by
  intro T hT X
  obtain ⟨t, a1, b1⟩ := k T hT X
  refine ⟨t, ?_, b1⟩
  obtain ⟨k, cf, i, a', hk, hcf, hcp, -, hr, hev'⟩ := Cond.stringRef_spec hown hZ.1
  cases hZ.2.symm.trans hev'
  obtain ⟨k', hk', he⟩ := X.warmed.alike.2.2 _ _ hk
  have hr' : k'.resolved[index]? = some (some (.string q)) := by
    rcases X.warmed.entry hk hk' index with h | ⟨h, -⟩
    · rw [h]; exact hr
    · rw [hr] at h; cases h
  jvm_step X.here [hexec, hb, hdg, ldc_w.wp_string (e := e) (s := T) (f := F0 m pc ls rest) X.here.top hk' (by rw [he]; exact hcf) hcp hr']
  exact a1
theorem v_ldc_w {i : Nat} (hz : y < 229) (hr : row y pc = some r) (hg : Gk u y K go) (ei : r.1 = .ldc_w i) (h : vi u go K y pc r lv st hi hl) : Wp u y pc lv st hi hl K := by
  simp only [vi, ei] at h
  have hp : i < 10000 := pl_of hz hr ei rfl
  split at h
  · rename_i v hv
    have hw := zc_all _ (List.mem_map.mpr ⟨_, lk_mem hv, rfl⟩)
    dsimp only at hw
    rw [(key_d hp).1, (key_d hp).2] at hw
    intro p e R s m args below meth c cells slots Z H locs ls C T G P S L N
    exact lv_ldcw C.1 C.2.1 C.2.2.2.2.1 (C.2.2.2.2.2.1 _ (inTBL hw rfl)) (rw_dec hz hr ei rfl rfl (by decide)) (hg _ _ _ _ _ h p e R s m args below meth c cells slots Z H locs ls C T G P S L N)
  · split at h
    · rename_i n hn
      intro p e R s m args below meth c cells slots Z H locs ls C T G P S L N
      have hq := C.2.2.2.2.2.2.1.2.2.2.2.2.2.1 _ (lk_mem hn)
      dsimp only at hq
      rw [(key_d hp).1, (key_d hp).2] at hq
      exact vx_ldcw C.1 C.2.1 C.2.2.2.2.1 hq (rw_dec hz hr ei rfl rfl (by decide)) (hg _ _ _ _ _ h p e R s m args below meth c cells slots Z H locs ls C T G P S L N)
    · exact h.elim
theorem v_ldc2_w {i : Nat} (hz : y < 229) (hr : row y pc = some r) (hg : Gk u y K go) (ei : r.1 = .ldc2_w i) (h : vi u go K y pc r lv st hi hl) : Wp u y pc lv st hi hl K := by
  simp only [vi, ei] at h
  have hp : i < 10000 := pl_of hz hr ei rfl
  split at h
  · rename_i v hv
    have hw := zl_all _ (List.mem_map.mpr ⟨_, lk_mem hv, rfl⟩)
    dsimp only at hw
    rw [(key_d hp).1, (key_d hp).2] at hw
    intro p e R s m args below meth c cells slots Z H locs ls C T G P S L N
    exact lv_ldc2 C.1 C.2.1 C.2.2.2.2.1 (C.2.2.2.2.2.1 _ (inTBL hw rfl)) (rw_dec hz hr ei rfl rfl (by decide)) (hg _ _ _ _ _ h p e R s m args below meth c cells slots Z H locs ls C T G P S L N)
  · exact h.elim
theorem swd_of {x : Int32} : ∀ (l : List (Int32 × Nat)), (∀ j, j < l.length → ¬ x = (l.getD j (0, 0)).1) → swd x l
  | [], _ => trivial
  | q :: l, h => ⟨h 0 (by simp), swd_of l (fun j hj => by have := h (j + 1) (by simp; omega); simpa using this)⟩
theorem swc_at {x : Int32} {g : Nat → Prop} : ∀ (l : List (Int32 × Nat)), swc x g l → ∀ j, j < l.length → x = (l.getD j (0, 0)).1 → g (l.getD j (0, 0)).2
  | [], _, j, hj, _ => by simp at hj
  | q :: l, h, 0, _, e => h.1 (by simpa using e)
  | q :: l, h, j + 1, hj, e => by
    have := swc_at l h.2 j (by simp at hj; omega) (by simpa using e)
    simpa using this
theorem i32_of {x : Int32} {z : Int} (h : x.toInt = z) : x = Int32.ofInt z := by rw [← h, Int32.ofInt_toInt]
theorem i32_ne {x : Int32} {z : Int} (h1 : -2147483648 ≤ z) (h2 : z ≤ 2147483647) (h : x.toInt ≠ z) : ¬ x = Int32.ofInt z := by
  intro e
  apply h
  rw [e, Int32.toInt_ofInt]
  exact Int.bmod_eq_of_le (by simpa using h1) (by simpa using (by omega : z < 2147483648))
theorem v_tableswitch {d lo hi2 : Int} {offs : Array Int} (hz : y < 229) (hr : row y pc = some r) (hg : Gk u y K go) (ei : r.1 = .tableswitch d lo hi2 offs) (h : vi u go K y pc r lv st hi hl) : Wp u y pc lv st hi hl K := by
  simp only [vi, ei] at h
  have h1 := dcOk hz hr
  unfold rwOk at h1
  rw [Bool.and_eq_true, decide_eq_true_eq] at h1
  obtain ⟨i0, l0, t0, sw⟩ := r
  dsimp only at ei h h1
  subst ei
  obtain ⟨hd, hsw⟩ := h1
  unfold swOk at hsw
  dsimp only at hsw hd
  simp only [Bool.and_eq_true, decide_eq_true_eq] at hsw
  obtain ⟨e1, e2, ⟨e3, e4⟩, e5, e6⟩ := hsw
  unfold b1 at h
  split at h
  · rename_i x s0
    intro p e R s m args below meth c cells slots Z H locs ls C T G P S L N
    by_cases hx : x.toInt < lo ∨ hi2 < x.toInt
    · refine lv_tableOut C.1 C.2.1 hd hx e1 (hg _ _ _ _ _ (h.1 (swd_of sw (fun j hj => ?_))) p e R s m args below meth c cells slots Z H locs ls C T G P S L N)
      have h6 := List.all_eq_true.mp e6 j (List.mem_range.mpr hj)
      rw [decide_eq_true_eq] at h6
      rw [h6.1]
      exact i32_ne (by omega) (by omega) (by omega)
    · have hx1 : ¬ x.toInt < lo := fun q => hx (Or.inl q)
      have hx2 : ¬ hi2 < x.toInt := fun q => hx (Or.inr q)
      have hj : (x.toInt - lo).toNat < sw.length := by omega
      have h6 := List.all_eq_true.mp e6 _ (List.mem_range.mpr hj)
      rw [decide_eq_true_eq] at h6
      have ho : offs[(x.toInt - lo).toNat]? = some (offs.getD (x.toInt - lo).toNat 0) := by
        rw [Array.getD_eq_getD_getElem?, Array.getElem?_eq_getElem (by omega)]
        rfl
      refine lv_tableIn C.1 C.2.1 hd hx1 hx2 ho h6.2 (hg _ _ _ _ _ (swc_at sw h.2 _ hj ?_) p e R s m args below meth c cells slots Z H locs ls C T G P S L N)
      rw [h6.1]
      exact i32_of (by omega)
  · exact h.elim
theorem v_getfield {i : Nat} (hz : y < 229) (hr : row y pc = some r) (hg : Gk u y K go) (ei : r.1 = .getfield i) (h : vi u go K y pc r lv st hi hl) : Wp u y pc lv st hi hl K := by
  simp only [vi, ei] at h
  have hp : i < 10000 := pl_of hz hr ei rfl
  unfold r1 at h
  split at h
  · rename_i h0 s0
    split at h
    · rename_i ci k hk
      split at h
      · rename_i h15
        subst h15
        obtain ⟨⟨ha, hb⟩, h⟩ := h
        obtain ⟨j, rfl⟩ := hsplit h0 100 ha
        have hj : j < 16 := by have hb' : (100 + j : Nat) < 116 := hb; omega
        have hw := fs_w _ (List.mem_map.mpr ⟨_, List.mem_filter.mpr ⟨lk_mem hk, by simp⟩, rfl⟩)
        have hk2 := fs_b _ (lk_mem hk) rfl
        dsimp only at hw hk2
        rw [(key_d hp).1, (key_d hp).2] at hw
        intro p e R s m args below meth c cells slots Z H locs ls C T G P S L N
        have hV := (C.2.2.2.2.2.2.1.2.2.2.1.1 j hj)
        rcases hk2 with rfl | rfl
        · refine vk_getf C.1 C.2.1 hV.2.2.1 S C.2.2.2.2.1 (C.2.2.2.2.2.1 _ (inTBL hw rfl)) (fun x q => q) (rw_dec hz hr ei rfl rfl (by decide)) ?_
          have h := hg _ _ _ _ _ h p e R s m args below meth c cells slots Z H locs ls C T G P S L N
          rw [if_pos rfl, show (100 + j + 100 : Nat) = 200 + j by omega] at h
          exact h
        · refine vk_getf C.1 C.2.1 hV.2.1 S C.2.2.2.2.1 (C.2.2.2.2.2.1 _ (inTBL hw rfl)) (fun x q => q) (rw_dec hz hr ei rfl rfl (by decide)) ?_
          exact hg _ _ _ _ _ h p e R s m args below meth c cells slots Z H locs ls C T G P S L N
      · rename_i h15
        obtain ⟨f1, f2, f3, f4⟩ := fl_at hp hk h15
        obtain ⟨z1, z2, z3, z4, z5, z6⟩ := zC_ok f1
        obtain ⟨hkd, h⟩ := h
        intro p e R s m args below meth c cells slots Z H locs ls C T G P S L N
        refine va_get C.1 C.2.1 C.2.2.2.2.2.1 z2 C.2.2.2.2.1 C.2.2.2.2.2.2.1.1 P h0 (fs := fds u hi h0 ci) (ci := ci) (by rw [wd_at (by omega), en_o hkd f1]) z1 k f2 (C.2.2.2.2.2.1 _ f4) (fun x q => by rw [f3] at q; exact q) (fds_at (by rw [← z5]; exact f2)) (rw_dec hz hr ei rfl rfl (by decide)) ?_
        have h := hg _ _ _ _ _ h p e R s m args below meth c cells slots Z H locs ls C T G P S L N
        by_cases hrt : rt ci k = true
        · rw [if_pos hrt] at h ⊢
          exact h
        · rw [if_neg hrt] at h ⊢
          exact h
    · exact h.elim
  · exact h.elim
theorem v_putfield {i : Nat} (hz : y < 229) (hr : row y pc = some r) (hg : Gk u y K go) (ei : r.1 = .putfield i) (h : vi u go K y pc r lv st hi hl) : Wp u y pc lv st hi hl K := by
  simp only [vi, ei] at h
  have hp : i < 10000 := pl_of hz hr ei rfl
  unfold b1 at h
  split at h
  · rename_i v s0
    unfold r1 at h
    split at h
    · rename_i h0 s1
      split at h
      · rename_i ci k hk
        split at h
        · rename_i hc
          obtain ⟨hc, hc8⟩ := hc
          obtain ⟨f1, f2, f3, f4⟩ := fl_at hp hk (by omega)
          obtain ⟨z1, z2, z3, z4, z5, z6⟩ := zC_ok f1
          obtain ⟨hkd, hbv, h⟩ := h
          have hk' : k < nfL.getD ci 0 := by rw [← z5]; exact f2
          obtain ⟨q1, q2⟩ := zC_fin ci f1 k hk' hc
          intro p e R s m args below meth c cells slots Z H locs ls C T G P S L N
          have hne : kd h0 ≠ 14 := by omega
          refine va_put C.1 C.2.1 C.2.2.2.2.2.1 z2 (zty ci) z3 z4 C.2.2.2.2.1 C.2.2.2.2.2.2.1.1 P (wd_D C.2.2.2.2.2.2.1 hi hl) S h0 (fs := fds u hi h0 ci) (ci := ci) (by rw [wd_at hne, en_o hkd f1]) z1 k f2 (C.2.2.2.2.2.1 _ f4) (fun x q => by rw [f3] at q; exact q) q1 (ty := zty ci k) (v := .int v) (z3 k f2) ?_ ?_ ?_ (rw_dec hz hr ei rfl rfl (by decide)) (fun H1 locs1 P1 _ S1 => ?_)
          · rw [q2]
            by_cases hz1 : bz ci k = true
            · rw [if_pos hz1] at hbv ⊢
              rcases hbv with rfl | rfl <;> rfl
            · rw [if_neg hz1]; rfl
          · rw [q2]
            by_cases hz1 : bz ci k = true
            · rw [if_pos hz1] at hbv ⊢
              rcases hbv with rfl | rfl <;> rfl
            · rw [if_neg hz1]; rfl
          · unfold fds; rw [List.length_map, List.length_range]; exact hk'
          · rw [wd_set (hi' := up2 hi h0 k v) (hl' := hl) hne (by rw [en_o hkd f1, fds_set hk' hc]) (fun j hj => up2_ne hj) (fun _ _ => rfl)] at P1
            exact hg _ _ _ _ _ h p e R s m args below meth c cells slots Z H1 locs1 ls C T G P1 S1 L N
        · exact h.elim
      · exact h.elim
    · exact h.elim
  · exact h.elim
theorem v_getstatic {i : Nat} (hz : y < 229) (hr : row y pc = some r) (hg : Gk u y K go) (ei : r.1 = .getstatic i) (h : vi u go K y pc r lv st hi hl) : Wp u y pc lv st hi hl K := by
  simp only [vi, ei] at h
  split at h
  · rename_i ho
    split at h
    · rename_i h1
      subst h1
      intro p e R s m args below meth c cells slots Z H locs ls C T G P S L N
      have ho2 : cN (mO y) = "java/lang/String" := by rw [ho]; rfl
      refine va_gets C.1 C.2.1 C.2.2.2.2.2.2.1.2.2.2.2.1 S C.2.2.2.2.1 (C.2.2.2.2.2.1 _ (inTBL (by rw [ho2]; exact zl_w _ List.mem_cons_self) rfl)) (fun x q => q) (rw_dec hz hr ei rfl rfl (by decide)) (hg _ _ _ _ _ h p e R s m args below meth c cells slots Z H locs ls C T G P S L N)
    · split at h
      · rename_i h1
        subst h1
        intro p e R s m args below meth c cells slots Z H locs ls C T G P S L N
        have ho2 : cN (mO y) = "java/lang/String" := by rw [ho]; rfl
        refine va_gets C.1 C.2.1 C.2.2.2.2.2.2.1.2.2.2.2.2.1 S C.2.2.2.2.1 (C.2.2.2.2.2.1 _ (inTBL (by rw [ho2]; exact zl_w _ (List.mem_cons_of_mem _ List.mem_cons_self)) rfl)) (fun x q => q) (rw_dec hz hr ei rfl rfl (by decide)) (hg _ _ _ _ _ h p e R s m args below meth c cells slots Z H locs ls C T G P S L N)
      · exact h.elim
  · exact h.elim
theorem v_arraylength (hz : y < 229) (hr : row y pc = some r) (hg : Gk u y K go) (ei : r.1 = .arraylength) (h : vi u go K y pc r lv st hi hl) : Wp u y pc lv st hi hl K := by
  simp only [vi, ei] at h
  unfold r1 at h
  split at h
  · rename_i h0 s0
    intro p e R s m args below meth c cells slots Z H locs ls C T G P S L N
    split at h
    · obtain ⟨rfl, h⟩ := h
      have hV := C.2.2.2.2.2.2.1.2.2.1
      exact va_slen C.1 C.2.1 hV.1 hV.2.1 hV.2.2 S (rw_dec hz hr ei rfl rfl (by decide)) (hg _ _ _ _ _ h p e R s m args below meth c cells slots Z H locs ls C T G P S L N)
    · split at h
      · obtain ⟨⟨ha, hb⟩, h⟩ := h
        obtain ⟨j, rfl⟩ := hsplit h0 200 ha
        have hj : j < 16 := by have hb' : (200 + j : Nat) < 216 := hb; omega
        have hV := (C.2.2.2.2.2.2.1.2.2.2.1.1 j hj).2.2.2
        have h := hg _ _ _ _ _ h p e R s m args below meth c cells slots Z H locs ls C T G P S L N
        rw [show (200 + j - 200 : Nat) = j by omega] at h
        exact va_tlen C.1 C.2.1 hV S rfl (rw_dec hz hr ei rfl rfl (by decide)) h
      · obtain ⟨⟨ha, hb⟩, h⟩ := h
        obtain ⟨x, hx, hx2⟩ := en_arr (u := u) (hi := hi) (hl := hl) ha hb
        obtain ⟨ty, hty⟩ := ty_at (u := u) ha hb
        exact va_alen C.1 C.2.1 C.2.2.2.2.2.2.1.1 P h0 (kd h0 - 8) (by rw [wd_at (by omega), hx]) hty (by rw [hx2]) (rw_dec hz hr ei rfl rfl (by decide)) (hg _ _ _ _ _ h p e R s m args below meth c cells slots Z H locs ls C T G P S L N)
  · exact h.elim
theorem v_iaload (hz : y < 229) (hr : row y pc = some r) (hg : Gk u y K go) (ei : r.1 = .iaload) (h : vi u go K y pc r lv st hi hl) : Wp u y pc lv st hi hl K := by
  simp only [vi, ei] at h
  unfold ra at h
  split at h
  · rename_i i0 h0 s0
    intro p e R s m args below meth c cells slots Z H locs ls C T G P S L N
    split at h
    · obtain ⟨⟨rfl, hin⟩, h⟩ := h
      have hV := C.2.2.2.2.2.2.1.2.2.1
      exact va_sld C.1 C.2.1 hV.1 hV.2.1 hV.2.2 S hin (rw_dec hz hr ei rfl rfl (by decide)) (hg _ _ _ _ _ h p e R s m args below meth c cells slots Z H locs ls C T G P S L N)
    · obtain ⟨⟨hkd, hin⟩, h⟩ := h
      exact va_iald C.1 C.2.1 C.2.2.2.2.2.2.1.1 P h0 0 (by rw [wd_at (by omega), en_i hkd]) rfl hin (rw_dec hz hr ei rfl rfl (by decide)) (hg _ _ _ _ _ h p e R s m args below meth c cells slots Z H locs ls C T G P S L N)
  · exact h.elim
theorem v_baload (hz : y < 229) (hr : row y pc = some r) (hg : Gk u y K go) (ei : r.1 = .baload) (h : vi u go K y pc r lv st hi hl) : Wp u y pc lv st hi hl K := by
  simp only [vi, ei] at h
  unfold ra at h
  split at h
  · rename_i i0 h0 s0
    intro p e R s m args below meth c cells slots Z H locs ls C T G P S L N
    split at h
    · obtain ⟨⟨⟨ha, hb⟩, hin⟩, h⟩ := h
      obtain ⟨j, rfl⟩ := hsplit h0 200 ha
      have hj : j < 16 := by have hb' : (200 + j : Nat) < 216 := hb; omega
      have hV := (C.2.2.2.2.2.2.1.2.2.2.1.1 j hj).2.2.2
      have h := hg _ _ _ _ _ h p e R s m args below meth c cells slots Z H locs ls C T G P S L N
      rw [show (200 + j - 200 : Nat) = j by omega] at h hin
      exact va_tb C.1 C.2.1 hV S hin rfl (rw_dec hz hr ei rfl rfl (by decide)) h
    · obtain ⟨⟨hkd, hin⟩, h⟩ := h
      exact va_bald C.1 C.2.1 C.2.2.2.2.2.2.1.1 P h0 1 (by rw [wd_at (by omega), en_b hkd]) rfl hin (rw_dec hz hr ei rfl rfl (by decide)) (hg _ _ _ _ _ h p e R s m args below meth c cells slots Z H locs ls C T G P S L N)
  · exact h.elim
theorem v_laload (hz : y < 229) (hr : row y pc = some r) (hg : Gk u y K go) (ei : r.1 = .laload) (h : vi u go K y pc r lv st hi hl) : Wp u y pc lv st hi hl K := by
  simp only [vi, ei] at h
  unfold ra at h
  split at h
  · rename_i i0 h0 s0
    intro p e R s m args below meth c cells slots Z H locs ls C T G P S L N
    obtain ⟨⟨hkd, hin⟩, h⟩ := h
    exact va_lald C.1 C.2.1 C.2.2.2.2.2.2.1.1 P h0 2 (by rw [wd_at (by omega), en_l hkd]) rfl hin (rw_dec hz hr ei rfl rfl (by decide)) (hg _ _ _ _ _ h p e R s m args below meth c cells slots Z H locs ls C T G P S L N)
  · exact h.elim
theorem v_aaload (hz : y < 229) (hr : row y pc = some r) (hg : Gk u y K go) (ei : r.1 = .aaload) (h : vi u go K y pc r lv st hi hl) : Wp u y pc lv st hi hl K := by
  simp only [vi, ei] at h
  unfold ra at h
  split at h
  · rename_i i0 h0 s0
    intro p e R s m args below meth c cells slots Z H locs ls C T G P S L N
    obtain ⟨⟨⟨ha, hb⟩, hin⟩, h⟩ := h
    obtain ⟨Cn, hty⟩ := ty_ref (u := u) ha hb
    exact va_aldq C.1 C.2.1 C.2.2.2.2.2.2.1.1 P h0 (kd h0 - 8) (f := fun k => some (xA u (rf h0 k))) (by rw [wd_at (by omega), en_a rfl ha]) hty hin (rw_dec hz hr ei rfl rfl (by decide)) (hg _ _ _ _ _ h p e R s m args below meth c cells slots Z H locs ls C T G P S L N)
  · exact h.elim
theorem v_iastore (hz : y < 229) (hr : row y pc = some r) (hg : Gk u y K go) (ei : r.1 = .iastore) (h : vi u go K y pc r lv st hi hl) : Wp u y pc lv st hi hl K := by
  simp only [vi, ei] at h
  unfold b1 at h
  split at h
  · rename_i x s0
    unfold ra at h
    split at h
    · rename_i i0 h0 s1
      intro p e R s m args below meth c cells slots Z H locs ls C T G P S L N
      obtain ⟨⟨hkd, hin⟩, h⟩ := h
      have hne : kd h0 ≠ 14 := by omega
      refine va_iast C.1 C.2.1 C.2.2.2.2.2.2.1.1 P (wd_D C.2.2.2.2.2.2.1 hi hl) S h0 0 (by rw [wd_at hne, en_i hkd]) rfl hin (rw_dec hz hr ei rfl rfl (by decide)) (fun H1 locs1 P1 _ S1 => ?_)
      rw [wd_set (hi' := up2 hi h0 i0.toNatClampNeg x) (hl' := hl) hne (by rw [en_i hkd, up2_at]) (fun j hj => up2_ne hj) (fun _ _ => rfl)] at P1
      exact hg _ _ _ _ _ h p e R s m args below meth c cells slots Z H1 locs1 ls C T G P1 S1 L N
    · exact h.elim
  · exact h.elim
theorem v_bastore (hz : y < 229) (hr : row y pc = some r) (hg : Gk u y K go) (ei : r.1 = .bastore) (h : vi u go K y pc r lv st hi hl) : Wp u y pc lv st hi hl K := by
  simp only [vi, ei] at h
  unfold b1 at h
  split at h
  · rename_i x s0
    unfold ra at h
    split at h
    · rename_i i0 h0 s1
      intro p e R s m args below meth c cells slots Z H locs ls C T G P S L N
      obtain ⟨⟨hkd, hin⟩, h⟩ := h
      have hne : kd h0 ≠ 14 := by omega
      refine va_bast C.1 C.2.1 C.2.2.2.2.2.2.1.1 P (wd_D C.2.2.2.2.2.2.1 hi hl) S h0 1 (by rw [wd_at hne, en_b hkd]) rfl hin (rw_dec hz hr ei rfl rfl (by decide)) (fun H1 locs1 P1 _ S1 => ?_)
      rw [wd_set (hi' := up2 hi h0 i0.toNatClampNeg x.toInt8.toInt32) (hl' := hl) hne (by rw [en_b hkd, up2_at, vp_nar_byte]) (fun j hj => up2_ne hj) (fun _ _ => rfl)] at P1
      exact hg _ _ _ _ _ h p e R s m args below meth c cells slots Z H1 locs1 ls C T G P1 S1 L N
    · exact h.elim
  · exact h.elim
theorem v_lastore (hz : y < 229) (hr : row y pc = some r) (hg : Gk u y K go) (ei : r.1 = .lastore) (h : vi u go K y pc r lv st hi hl) : Wp u y pc lv st hi hl K := by
  simp only [vi, ei] at h
  unfold l1 at h
  split at h
  · rename_i x s0
    unfold ra at h
    split at h
    · rename_i i0 h0 s1
      intro p e R s m args below meth c cells slots Z H locs ls C T G P S L N
      obtain ⟨⟨hkd, hin⟩, h⟩ := h
      have hne : kd h0 ≠ 14 := by omega
      refine va_last C.1 C.2.1 C.2.2.2.2.2.2.1.1 P (wd_D C.2.2.2.2.2.2.1 hi hl) S h0 2 (by rw [wd_at hne, en_l hkd]) rfl hin (rw_dec hz hr ei rfl rfl (by decide)) (fun H1 locs1 P1 _ S1 => ?_)
      rw [wd_set (hi' := hi) (hl' := upl hl h0 i0.toNatClampNeg x) hne (by rw [en_l hkd, upl_at]) (fun _ _ => rfl) (fun j hj => upl_ne hj)] at P1
      exact hg _ _ _ _ _ h p e R s m args below meth c cells slots Z H1 locs1 ls C T G P1 S1 L N
    · exact h.elim
  · exact h.elim
theorem v_ireturn (hz : y < 229) (hr : row y pc = some r) (hg : Gk u y K go) (ei : r.1 = .ireturn) (h : vi u go K y pc r lv st hi hl) : Wp u y pc lv st hi hl K := by
  simp only [vi, ei] at h
  split at h
  · rename_i v
    intro p e R s m args below meth c cells slots Z H locs ls C T G P S L N
    refine T (some (.int v)) hi hl H locs ls pc .ireturn h.2 P S ⟨rfl, ?_⟩ (rw_dec hz hr ei rfl rfl (by decide))
    have h1 := h.1
    unfold rz at h1
    split at h1
    · rename_i e1; exact ⟨_, e1, rfl⟩
    · rename_i e1
      refine ⟨_, e1, ?_⟩
      rcases h1 with rfl | rfl <;> rfl
    · rename_i e1; exact ⟨_, e1, h1⟩
    · rename_i e1; exact ⟨_, e1, h1⟩
    · exact h1.elim
  · exact h.elim
theorem v_lreturn (hz : y < 229) (hr : row y pc = some r) (hg : Gk u y K go) (ei : r.1 = .lreturn) (h : vi u go K y pc r lv st hi hl) : Wp u y pc lv st hi hl K := by
  simp only [vi, ei] at h
  split at h
  · rename_i v
    intro p e R s m args below meth c cells slots Z H locs ls C T G P S L N
    exact T (some (.long v)) hi hl H locs ls pc .lreturn h.2 P S ⟨rfl, h.1⟩ (rw_dec hz hr ei rfl rfl (by decide))
  · exact h.elim
theorem v_areturn (hz : y < 229) (hr : row y pc = some r) (hg : Gk u y K go) (ei : r.1 = .areturn) (h : vi u go K y pc r lv st hi hl) : Wp u y pc lv st hi hl K := by
  simp only [vi, ei] at h
  split at h
  · rename_i v
    intro p e R s m args below meth c cells slots Z H locs ls C T G P S L N
    exact T (some (.ref v)) hi hl H locs ls pc .areturn h.2 P S ⟨rfl, h.1⟩ (rw_dec hz hr ei rfl rfl (by decide))
  · exact h.elim
theorem v_return (hz : y < 229) (hr : row y pc = some r) (hg : Gk u y K go) (ei : r.1 = .return_) (h : vi u go K y pc r lv st hi hl) : Wp u y pc lv st hi hl K := by
  simp only [vi, ei] at h
  split at h
  · intro p e R s m args below meth c cells slots Z H locs ls C T G P S L N
    exact T none hi hl H locs ls pc .return_ h.2 P S ⟨rfl, h.1⟩ (rw_dec hz hr ei rfl rfl (by decide))
  · exact h.elim
end VW
