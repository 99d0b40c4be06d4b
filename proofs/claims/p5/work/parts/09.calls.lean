/-! calls, and the machine whole -/
theorem mathW : ∀ w ∈ [Cond.code Lib.Math.max.name Lib.Math.max.code 2 (some .int)], w ∈ lw_tbl := fun w hw => by
  rw [List.mem_singleton.mp hw]
  exact inT5 (List.mem_of_getElem? (i := 123) rfl)
theorem mathW2 : ∀ w ∈ [Cond.code Lib.Math.min.name Lib.Math.min.code 2 (some .int)], w ∈ lw_tbl := fun w hw => by
  rw [List.mem_singleton.mp hw]
  exact inT2 (List.mem_of_getElem? (i := 70) rfl)
set_option maxRecDepth 100000 in
theorem mathS : ∀ w ∈ [Cond.static Lib.Math.min.name, Cond.static arraycopyName, Cond.static Lib.Math.max.name], w ∈ lw_tbl := sbq_ok lw_tbl _ (by decide +kernel)
set_option maxRecDepth 100000 in
theorem mathN : ∀ w ∈ [Cond.initialized "java/lang/Math", Cond.initialized "java/lang/System"], w ∈ lw_tbl := sbq_ok lw_tbl _ (by decide +kernel)
set_option maxRecDepth 100000 in
theorem mathA : ∀ w ∈ [Cond.native arraycopyName], w ∈ lw_tbl := sbq_ok lw_tbl _ (by decide +kernel)
theorem goodMem {ws : List Cond} (h : ∀ w ∈ ws, w ∈ lw_tbl ∧ goodWord w = true) : GoodIn TBL ws := fun w hw => ⟨inTBL (h w hw).1 (h w hw).2, good_of_word (h w hw).2⟩
theorem tblMem : ∀ w ∈ TBL, w ∈ lw_tbl ∧ goodWord w = true := fun w hw => List.mem_filter.mp hw
theorem wsMem {z : Nat} (h : z < 228) : ∀ w ∈ wsM z, w ∈ lw_tbl ∧ goodWord w = true := by
  intro w hw
  rcases List.mem_cons.mp hw with rfl | hw
  · exact ⟨(mtOk h).1, rfl⟩
  · exact tblMem w hw
theorem blindM (u : UV) (as : List Value) (hi : HI) (hl : HL) : FrameBlind (pcM u as hi hl) := fun a U g mk q => ⟨q.1, q.2.1.blind g mk a, q.2.2⟩
theorem map_cats {u : UV} (hF : (xF u).category = 1) (st : List Value) : ((st.map (tv u)).map fun v => v.category).sum = cats st := by
  unfold cats
  rw [List.map_map]
  congr 1
  apply List.map_congr_left
  intro v _
  exact tv_cat hF v
theorem ml_at {o i z : Nat} {b : Bool} (hi : i < 10000) (h : lk MLT o i = some (z, b)) : (z < 228 ∨ 1000 ≤ z) ∧ mlW (10000 * o + i, z, b) ∈ lw_tbl := by
  have hm := lk_mem h
  have hb := List.all_eq_true.mp ml_b _ hm
  rw [Bool.or_eq_true, decide_eq_true_eq, decide_eq_true_eq] at hb
  exact ⟨hb, ml_w _ (List.mem_map.mpr ⟨_, hm, rfl⟩)⟩
theorem vnest : ∀ q ∈ MLT, q.2.2 = true → mS q.2.1 = true := by decide +kernel
section VX
variable {p : Program} {l : Launch} {e : Env} {R : Room} {s : State} {m : MethodId} {args : Array Value} {below : List Frame} {meth : Method} {c : Code} {H : Heap} {locs : List Loc} {cells slots : Nat} {Q : State → Prop} {pc : Nat} {ls : Array Slot} {rest st0 : List Value}
theorem vx_call {u : UV} {K' : Option Value → HI → HL → Prop} {a : Array Value} (hr : va_Run p l e R s m args below meth c H locs cells slots 0 0 (F0 m pc ls st0) rest (qcM u K' a) (aS u)) (hS : va_S (aS u) s.heap H locs)
    (kk : ∀ (r : Option Value) (hi' : HI) (hl' : HL) (H1 : Heap) (locs1 : List Loc), K' r hi' hl' → va_P (xD u) zCl (wd u hi' hl') H1 → va_S (aS u) s.heap H1 locs1 → W p l e R s m args below meth c H1 locs1 cells slots Q (F0 m (pc + 3) ls ((r.map (tv u)).toList ++ rest))) : W p l e R s m args below meth c H locs cells slots Q (F0 m pc ls st0) := by
  intro T hT X
  obtain ⟨v, st₀, t, T', L, h0, X', hL, e1, e2, ⟨⟨r, hi', hl', hv, hk', hp⟩, hz, hk⟩, st⟩ := hr T hT X
  have hv2 : v = r.map (tv u) := by
    injection hv
  subst hv2
  rw [h0] at hz hk
  obtain ⟨t2, a1, b1⟩ := kk r hi' hl' T'.heap (locs ++ L) hk' (by rw [e1]; exact hp)
    ⟨Nat.le_trans hS.1 (by rw [e1]; exact hz), fun q h1 h2 => by rw [e1, hk q (Nat.lt_of_lt_of_le h1 hS.1) h2]; exact hS.2.1 q h1 h2, fun q hq => by
      rcases List.mem_append.mp hq with h | h
      · exact hS.2.2 q h
      · exact hL q h⟩ T' rfl X'
  exact ⟨t2, st t2 a1, b1⟩
end VX
section VZ
variable {u : UV} {y pc : Nat} {r : Row} {lv st : List Value} {hi : HI} {hl : HL} {K : Option Value → HI → HL → Prop} {go : Nat → List Value → List Value → HI → HL → Prop}
set_option maxHeartbeats 4000000 in
theorem v_static {i z : Nat} {b : Bool} (hz : y < 229) (hr : row y pc = some r) (hg : Gk u y K go) (ei : r.1 = .invokestatic i) (hlk : lk MLT (mO y) i = some (z, b)) (h : cl1 u (go (pc + 3) lv) y z st hi hl) : Wp u y pc lv st hi hl K := by
  have hp : i < 10000 := pl_of hz hr ei rfl
  have hm := ml_at hp hlk
  have hnest := lk_mem hlk
  unfold cl1 at h
  split at h
  · rename_i hc
    simp only [Bool.and_eq_true, decide_eq_true_eq] at hc
    obtain ⟨c1, c2, c3, c4, c5, c6, c7⟩ := hc
    obtain ⟨m1, m2, m3, m4, m5, m6, m7, m8⟩ := mtOk c1
    rw [if_pos c3] at m2
    have hw := hm.2
    unfold mlW at hw
    dsimp only at hw
    rw [if_neg (by omega), if_neg (by omega), if_neg (by omega), (key_d hp).1, (key_d hp).2] at hw
    intro p e R s m args below meth c cells slots Z H locs ls C T G P S L N
    obtain ⟨C1, C2, C3, C4, C5, C6, C7, C8, C9, C10, C11⟩ := id C
    have hF := C7.2.2.2.2.2.2.2.2
    have hstk : st.map (tv u) = ((((st.take (mA z)).reverse).map (tv u)).reverse) ++ (st.drop (mA z)).map (tv u) := by
      rw [List.map_reverse, List.reverse_reverse, ← List.map_append, List.take_append_drop]
    have hln : (((st.take (mA z)).reverse).map (tv u)).length = mA z := by
      rw [List.length_map, List.length_reverse, List.length_take]; omega
    have hpre : PreS s H (pcM u ((st.take (mA z)).reverse) hi hl) (((st.take (mA z)).reverse).map (tv u)) := ⟨blindM u _ hi hl, fun U hU hW => ⟨rfl, C7.go S hU hW, by rw [hU]; exact P⟩⟩
    have hR : (rmM z).frames + 1 ≤ R.frames ∧ 8 + (mL z + 11) + (rmM z).locals ≤ R.locals := by
      show mK z + 1 ≤ R.frames ∧ 8 + (mL z + 11) + 37 * mK z ≤ R.locals
      omega
    have hroom : 2 * (F0 m pc ls (st.map (tv u))).monitorRoom + (((st.drop (mA z)).map (tv u)).map fun v => v.category).sum ≤ 8 := by
      rw [map_cats hF]
      show 2 * 0 + _ ≤ 8
      omega
    have fin : va_Run p u.1 e R s m args below meth c H locs cells slots 0 0 (F0 m pc ls (st.map (tv u))) ((st.drop (mA z)).map (tv u)) (qcM u (fun r hi' hl' => go (pc + 3) lv (r.toList ++ st.drop (mA z)) hi' hl') (((st.take (mA z)).reverse).map (tv u)).toArray) (aS u) := by
      by_cases hb : b = true
      · subst hb
        have hn := C7.2.2.2.2.2.2.2.1 _ hnest rfl
        dsimp only at hn
        rw [(key_d hp).1, (key_d hp).2] at hn
        exact va_runSN (n := mA z) ⟨C1, C2, C4, C5, C6⟩ h ⟨va_cnB (mA z) C6 (goodMem (wsMem c1)) rfl rfl rfl hn (C6 _ (inTBL m3 rfl)) ⟨m6.1, m6.2, m7⟩ hR, C6 _ (inTBL m2 rfl), trivial⟩ hpre rfl hln L.1 hstk hroom (rw_dec hz hr ei rfl rfl (by decide)) ⟨C10, C11⟩
      · rw [if_neg hb] at hw
        have hG : GoodIn TBL (va_wsS (cN (mO y)) i (mY z) (wsM z)) := goodMem (fun w h => by
          rcases List.mem_append.mp h with h | h
          · simp only [List.mem_cons, List.not_mem_nil, or_false] at h
            rcases h with rfl | rfl | rfl
            · exact ⟨hw, rfl⟩
            · exact ⟨m2, rfl⟩
            · exact ⟨m3, rfl⟩
          · exact wsMem c1 w h)
        exact va_runS (n := mA z) ⟨C1, C2, C4, C5, C6⟩ h (va_cwS (mA z) C6 hG rfl rfl rfl ⟨m6.1, m6.2, m7⟩ hR) hpre rfl hln L.1 hstk hroom (rw_dec hz hr ei rfl rfl (by decide)) ⟨C10, C11⟩
    refine vx_call fin S (fun r2 hi' hl' H1 locs1 hk P1 S1 => ?_)
    have hh := hg _ _ _ _ _ hk p e R s m args below meth c cells slots Z H1 locs1 ls C T G P1 S1 L N
    rw [List.map_append] at hh
    cases r2 <;> exact hh
  · exact h.elim
set_option maxHeartbeats 4000000 in
theorem v_virtual {i z h0 : Nat} {b : Bool} (hz : y < 229) (hr : row y pc = some r) (hg : Gk u y K go) (ei : r.1 = .invokevirtual i) (hlk : lk MLT (mO y) i = some (z, b)) (hrc : st[mA z]? = some (.ref h0)) (h : cl2 u (go (pc + 3) lv) y z h0 st hi hl) : Wp u y pc lv st hi hl K := by
  have hp : i < 10000 := pl_of hz hr ei rfl
  have hm := ml_at hp hlk
  unfold cl2 at h
  split at h
  · rename_i hc
    simp only [Bool.and_eq_true, decide_eq_true_eq] at hc
    obtain ⟨c1, c2, c3, c4, c5, c6, c7⟩ := hc
    have c3' : mS z = false := by simpa using c3
    obtain ⟨hcls, h⟩ := h
    obtain ⟨m1, m2, m3, m4, m5, m6, m7, m8⟩ := mtOk c1
    rw [if_neg (by rw [c3']; decide)] at m2
    have hw := hm.2
    unfold mlW at hw
    dsimp only at hw
    rw [if_neg (by omega), if_neg (by omega), if_neg (by omega), (key_d hp).1, (key_d hp).2] at hw
    have hb : ¬ b = true := by
      intro hb
      subst hb
      have := vnest _ (lk_mem hlk) rfl
      dsimp only at this
      rw [this] at c3'
      cases c3'
    rw [if_neg hb] at hw
    intro p e R s m args below meth c cells slots Z H locs ls C T G P S L N
    obtain ⟨C1, C2, C3, C4, C5, C6, C7, C8, C9, C10, C11⟩ := id C
    have hF := C7.2.2.2.2.2.2.2.2
    have hn : mA z < st.length := by omega
    have htk : (st.take (mA z + 1)).reverse = .ref h0 :: (st.take (mA z)).reverse := by
      rw [List.take_add_one, hrc]
      simp
    have hstk : st.map (tv u) = ((((st.take (mA z)).reverse).map (tv u)).reverse) ++ Value.ref (xA u h0) :: (st.drop (mA z + 1)).map (tv u) := by
      have e1 : st = st.take (mA z) ++ Value.ref h0 :: st.drop (mA z + 1) := by
        conv => lhs; rw [← List.take_append_drop (mA z) st]
        congr 1
        rw [List.drop_eq_getElem_cons hn]
        congr 1
        have := List.getElem?_eq_getElem hn
        rw [hrc] at this
        exact (Option.some.inj this).symm
      conv => lhs; rw [e1]
      rw [List.map_append, List.map_reverse, List.reverse_reverse]
      rfl
    have hln : (((st.take (mA z)).reverse).map (tv u)).length = mA z := by
      rw [List.length_map, List.length_reverse, List.length_take]; omega
    have hPc : ∀ U : State, U.heap = H → s.WarmedH U.vm → pcM u ((st.take (mA z + 1)).reverse) hi hl (Value.ref (xA u h0) :: ((st.take (mA z)).reverse).map (tv u)).toArray U := fun U hU hW => ⟨by rw [htk]; rfl, C7.go S hU hW, by rw [hU]; exact P⟩
    have hR : (rmM z).frames + 1 ≤ R.frames ∧ 8 + (mL z + 11) + (rmM z).locals ≤ R.locals := by
      show mK z + 1 ≤ R.frames ∧ 8 + (mL z + 11) + 37 * mK z ≤ R.locals
      omega
    have hroom : 2 * (F0 m pc ls (st.map (tv u))).monitorRoom + (((st.drop (mA z + 1)).map (tv u)).map fun v => v.category).sum ≤ 8 := by
      rw [map_cats hF]
      show 2 * 0 + _ ≤ 8
      omega
    have hG : GoodIn TBL (wsV (cN (mO y)) i (mY z).cls (mY z) (wsM z)) := goodMem (fun w h => by
      rcases List.mem_append.mp h with h | h
      · simp only [List.mem_cons, List.not_mem_nil, or_false] at h
        rcases h with rfl | rfl | rfl | rfl
        · exact ⟨hw, rfl⟩
        · exact ⟨m2.1, rfl⟩
        · exact ⟨m2.2, rfl⟩
        · exact ⟨m3, rfl⟩
      · exact wsMem c1 w h)
    have hrv : ∃ cell : Cell, H[xA u h0]? = some cell ∧ cell.vm.isStatics = false ∧ s.vm.findClass (mY z).cls = some cell.cls := by
      rw [m4]
      by_cases h10 : mO z = 10
      · rw [if_pos h10] at hcls
        obtain ⟨j, rfl⟩ := hsplit h0 100 hcls.1
        have hj : j < 16 := by omega
        rw [h10]
        exact vk_recv (i := j) C7.2.2.2.1 hj S
      · rw [if_neg h10] at hcls
        obtain ⟨z1, z2, z3, z4, z5, z6⟩ := zC_ok hcls.2
        rw [← z6]
        exact va_recv C7.1 P z1 (q0 := h0) (fs := fds u hi h0 (mO z)) (by rw [wd_at (by omega), en_o hcls.1 hcls.2])
    have fin : va_Run p u.1 e R s m args below meth c H locs cells slots 0 0 (F0 m pc ls (st.map (tv u))) ((st.drop (mA z + 1)).map (tv u)) (qcM u (fun r hi' hl' => go (pc + 3) lv (r.toList ++ st.drop (mA z + 1)) hi' hl') (Value.ref (xA u h0) :: ((st.take (mA z)).reverse).map (tv u)).toArray) (aS u) :=
      va_runV (n := mA z) (C := (mY z).cls) ⟨C1, C2, C4, C5, C6⟩ h (cwV (mA z) C6 hG rfl rfl rfl ⟨rfl, m6.1, m6.2, m7⟩ hR) ⟨blindM u _ hi hl, hrv, hPc⟩ rfl hln L.1 hstk hroom (rw_dec hz hr ei rfl rfl (by decide)) ⟨C10, C11⟩
    refine vx_call fin S (fun r2 hi' hl' H1 locs1 hk P1 S1 => ?_)
    have hh := hg _ _ _ _ _ hk p e R s m args below meth c cells slots Z H1 locs1 ls C T G P1 S1 L N
    rw [List.map_append] at hh
    cases r2 <;> exact hh
  · exact h.elim
end VZ
section VQ
variable {u : UV} {y pc : Nat} {r : Row} {lv st : List Value} {hi : HI} {hl : HL} {K : Option Value → HI → HL → Prop} {go : Nat → List Value → List Value → HI → HL → Prop}
theorem mathWord {i z : Nat} {b : Bool} (hp : i < 10000) (hlk : lk MLT (mO y) i = some (z, b)) : (z = 1000 → Cond.methodLink (cN (mO y)) i Lib.Math.max.name ∈ lw_tbl) ∧ (z = 1001 → Cond.methodLink (cN (mO y)) i Lib.Math.min.name ∈ lw_tbl) ∧ (z = 1002 → Cond.methodLink (cN (mO y)) i arraycopyName ∈ lw_tbl) := by
  have hw := (ml_at hp hlk).2
  unfold mlW at hw
  dsimp only at hw
  rw [(key_d hp).1, (key_d hp).2] at hw
  refine ⟨fun q => ?_, fun q => ?_, fun q => ?_⟩
  · subst q; exact hw
  · subst q; exact hw
  · subst q; exact hw
set_option maxHeartbeats 4000000 in
theorem v_invokestatic {i : Nat} (hz : y < 229) (hr : row y pc = some r) (hg : Gk u y K go) (ei : r.1 = .invokestatic i) (h : vi u go K y pc r lv st hi hl) : Wp u y pc lv st hi hl K := by
  simp only [vi, ei] at h
  have hp : i < 10000 := pl_of hz hr ei rfl
  split at h
  · rename_i z b hlk
    have hmw := mathWord hp hlk
    split at h
    · rename_i hz0
      unfold b2 at h
      split at h
      · rename_i b0 a0 s0
        split at h
        · rename_i hc
          rw [Bool.and_eq_true, decide_eq_true_eq, decide_eq_true_eq] at hc
          intro p e R s m args below meth c cells slots Z H locs ls C T G P S L N
          obtain ⟨C1, C2, C3, C4, C5, C6, C7, C8, C9, C10, C11⟩ := id C
          exact va_mmax C1 C2 (by rw [C4]; exact L.1.symm) C5 (C6 _ (inTBL (hmw.1 hz0) rfl)) (C6 _ (inTBL (mathS _ (by decide +kernel)) rfl)) (C6 _ (inTBL (mathN _ List.mem_cons_self) rfl)) (C6 _ (inTBL (mathW _ List.mem_cons_self) rfl)) (by omega) (by rw [map_cats C7.2.2.2.2.2.2.2.2]; omega) C10 C11 (rw_dec hz hr ei rfl rfl (by decide)) (hg _ _ _ _ _ h p e R s m args below meth c cells slots Z H locs ls C T G P S L N)
        · exact h.elim
      · exact h.elim
    · split at h
      · rename_i hz0
        unfold b2 at h
        split at h
        · rename_i b0 a0 s0
          split at h
          · rename_i hc
            rw [Bool.and_eq_true, decide_eq_true_eq, decide_eq_true_eq] at hc
            intro p e R s m args below meth c cells slots Z H locs ls C T G P S L N
            obtain ⟨C1, C2, C3, C4, C5, C6, C7, C8, C9, C10, C11⟩ := id C
            exact va_mmin C1 C2 (by rw [C4]; exact L.1.symm) C5 (C6 _ (inTBL (hmw.2.1 hz0) rfl)) (C6 _ (inTBL (mathS _ (by decide +kernel)) rfl)) (C6 _ (inTBL (mathN _ List.mem_cons_self) rfl)) (C6 _ (inTBL (mathW2 _ List.mem_cons_self) rfl)) (by omega) (by rw [map_cats C7.2.2.2.2.2.2.2.2]; omega) C10 C11 (rw_dec hz hr ei rfl rfl (by decide)) (hg _ _ _ _ _ h p e R s m args below meth c cells slots Z H locs ls C T G P S L N)
          · exact h.elim
        · exact h.elim
      · split at h
        · rename_i hz0
          unfold b2 at h
          split at h
          · rename_i n0 dp0 s0
            unfold r1 at h
            split at h
            · rename_i d0 s1
              unfold ra at h
              split at h
              · rename_i sp0 a0 s2
                split at h
                · rename_i hc
                  rw [Bool.and_eq_true, decide_eq_true_eq, decide_eq_true_eq] at hc
                  intro p e R s m args below meth c cells slots Z H locs ls C T G P S L N
                  obtain ⟨C1, C2, C3, C4, C5, C6, C7, C8, C9, C10, C11⟩ := id C
                  have hnw : nativeFrameWords "java/lang/System" "arraycopy" 5 + 11 ≤ 29 := by decide +kernel
                  split at h
                  · obtain ⟨⟨⟨k1, k2⟩, h1, h2, h3, h4, h5⟩, h⟩ := h
                    have hne : kd d0 ≠ 14 := by omega
                    refine va_copyi C1 C2 (by rw [C4]; exact L.1.symm) C5 (C6 _ (inTBL (hmw.2.2 hz0) rfl)) (C6 _ (inTBL (mathA _ List.mem_cons_self) rfl)) (C6 _ (inTBL (mathS _ (by decide +kernel)) rfl)) (C6 _ (inTBL (mathN _ (List.mem_cons_of_mem _ List.mem_cons_self)) rfl)) C7.1 P (wd_D C7 hi hl) S a0 d0 0 0 (ty := .int) (by rw [wd_at (by omega), en_i k1]) (by rw [wd_at hne, en_i k2]) rfl rfl rfl h1 h2 h3 h4 h5 (fun _ _ => rfl) (by omega) (by rw [map_cats C7.2.2.2.2.2.2.2.2]; omega) (rw_dec hz hr ei rfl rfl (by decide)) (fun H1 locs1 P1 _ S1 => ?_)
                    rw [wd_set (hi' := cpi hi a0 d0 sp0.toNatClampNeg dp0.toNatClampNeg n0.toNatClampNeg) (hl' := hl) hne (by rw [en_i k2]; simp [cpi]) (fun j hj => by simp [cpi, hj]) (fun _ _ => rfl)] at P1
                    exact hg _ _ _ _ _ h p e R s m args below meth c cells slots Z H1 locs1 ls C T G P1 S1 L N
                  · obtain ⟨⟨⟨k1, k2⟩, h1, h2, h3, h4, h5⟩, h⟩ := h
                    have hne : kd d0 ≠ 14 := by omega
                    refine va_copyl C1 C2 (by rw [C4]; exact L.1.symm) C5 (C6 _ (inTBL (hmw.2.2 hz0) rfl)) (C6 _ (inTBL (mathA _ List.mem_cons_self) rfl)) (C6 _ (inTBL (mathS _ (by decide +kernel)) rfl)) (C6 _ (inTBL (mathN _ (List.mem_cons_of_mem _ List.mem_cons_self)) rfl)) C7.1 P (wd_D C7 hi hl) S a0 d0 2 2 (ty := .long) (by rw [wd_at (by omega), en_l k1]) (by rw [wd_at hne, en_l k2]) rfl rfl rfl h1 h2 h3 h4 h5 (fun _ _ => rfl) (by omega) (by rw [map_cats C7.2.2.2.2.2.2.2.2]; omega) (rw_dec hz hr ei rfl rfl (by decide)) (fun H1 locs1 P1 _ S1 => ?_)
                    rw [wd_set (hi' := hi) (hl' := cpl hl a0 d0 sp0.toNatClampNeg dp0.toNatClampNeg n0.toNatClampNeg) hne (by rw [en_l k2]; simp [cpl]) (fun _ _ => rfl) (fun j hj => by simp [cpl, hj])] at P1
                    exact hg _ _ _ _ _ h p e R s m args below meth c cells slots Z H1 locs1 ls C T G P1 S1 L N
                · exact h.elim
              · exact h.elim
            · exact h.elim
          · exact h.elim
        · exact v_static hz hr hg ei hlk h
  · exact h.elim
theorem v_invokevirtual {i : Nat} (hz : y < 229) (hr : row y pc = some r) (hg : Gk u y K go) (ei : r.1 = .invokevirtual i) (h : vi u go K y pc r lv st hi hl) : Wp u y pc lv st hi hl K := by
  simp only [vi, ei] at h
  split at h
  · rename_i z b hlk
    unfold rcv at h
    split at h
    · rename_i h0 hrc
      exact v_virtual hz hr hg ei hlk hrc h
    · exact h.elim
  · exact h.elim
set_option maxHeartbeats 4000000 in
theorem vi_ok (hz : y < 229) (hr : row y pc = some r) (hg : Gk u y K go) (h : vi u go K y pc r lv st hi hl) : Wp u y pc lv st hi hl K := by
  cases ei : r.1 with
  | iconst n => exact v_iconst hz hr hg ei h
  | bipush n => exact v_bipush hz hr hg ei h
  | sipush n => exact v_sipush hz hr hg ei h
  | lconst n => exact v_lconst hz hr hg ei h
  | ldc n => exact v_ldc hz hr hg ei h
  | ldc_w n => exact v_ldc_w hz hr hg ei h
  | ldc2_w n => exact v_ldc2_w hz hr hg ei h
  | iload_n n => exact v_iload_n hz hr hg ei h
  | iload n => exact v_iload hz hr hg ei h
  | lload_n n => exact v_lload_n hz hr hg ei h
  | lload n => exact v_lload hz hr hg ei h
  | aload_n n => exact v_aload_n hz hr hg ei h
  | aload n => exact v_aload hz hr hg ei h
  | istore_n n => exact v_istore_n hz hr hg ei h
  | istore n => exact v_istore hz hr hg ei h
  | lstore_n n => exact v_lstore_n hz hr hg ei h
  | lstore n => exact v_lstore hz hr hg ei h
  | astore_n n => exact v_astore_n hz hr hg ei h
  | astore n => exact v_astore hz hr hg ei h
  | iinc i n => exact v_iinc hz hr hg ei h
  | iadd => exact v_iadd hz hr hg ei h
  | isub => exact v_isub hz hr hg ei h
  | imul => exact v_imul hz hr hg ei h
  | idiv => exact v_idiv hz hr hg ei h
  | irem => exact v_irem hz hr hg ei h
  | iand => exact v_iand hz hr hg ei h
  | ior => exact v_ior hz hr hg ei h
  | ixor => exact v_ixor hz hr hg ei h
  | ishl => exact v_ishl hz hr hg ei h
  | ishr => exact v_ishr hz hr hg ei h
  | ladd => exact v_ladd hz hr hg ei h
  | lmul => exact v_lmul hz hr hg ei h
  | ldiv => exact v_ldiv hz hr hg ei h
  | land => exact v_land hz hr hg ei h
  | lor => exact v_lor hz hr hg ei h
  | lcmp => exact v_lcmp hz hr hg ei h
  | lshl => exact v_lshl hz hr hg ei h
  | i2l => exact v_i2l hz hr hg ei h
  | l2i => exact v_l2i hz hr hg ei h
  | i2b => exact v_i2b hz hr hg ei h
  | i2s => exact v_i2s hz hr hg ei h
  | i2c => exact v_i2c hz hr hg ei h
  | dup => exact v_dup hz hr hg ei h
  | dup2 => exact v_dup2 hz hr hg ei h
  | pop => exact v_pop hz hr hg ei h
  | pop2 => exact v_pop2 hz hr hg ei h
  | if_icmp c off => cases c with
    | eq => exact v_icmp_eq hz hr hg ei h
    | ne => exact v_icmp_ne hz hr hg ei h
    | lt => exact v_icmp_lt hz hr hg ei h
    | ge => exact v_icmp_ge hz hr hg ei h
    | gt => exact v_icmp_gt hz hr hg ei h
    | le => exact v_icmp_le hz hr hg ei h
  | ifCond c off => cases c with
    | eq => exact v_if_eq hz hr hg ei h
    | ne => exact v_if_ne hz hr hg ei h
    | lt => exact v_if_lt hz hr hg ei h
    | ge => exact v_if_ge hz hr hg ei h
    | gt => exact v_if_gt hz hr hg ei h
    | le => exact v_if_le hz hr hg ei h
  | goto off => exact v_goto hz hr hg ei h
  | tableswitch d lo hi2 offs => exact v_tableswitch hz hr hg ei h
  | getfield i => exact v_getfield hz hr hg ei h
  | putfield i => exact v_putfield hz hr hg ei h
  | getstatic i => exact v_getstatic hz hr hg ei h
  | arraylength => exact v_arraylength hz hr hg ei h
  | iaload => exact v_iaload hz hr hg ei h
  | baload => exact v_baload hz hr hg ei h
  | laload => exact v_laload hz hr hg ei h
  | aaload => exact v_aaload hz hr hg ei h
  | iastore => exact v_iastore hz hr hg ei h
  | bastore => exact v_bastore hz hr hg ei h
  | lastore => exact v_lastore hz hr hg ei h
  | invokestatic i => exact v_invokestatic hz hr hg ei h
  | invokevirtual i => exact v_invokevirtual hz hr hg ei h
  | ireturn => exact v_ireturn hz hr hg ei h
  | lreturn => exact v_lreturn hz hr hg ei h
  | areturn => exact v_areturn hz hr hg ei h
  | return_ => exact v_return hz hr hg ei h
  | _ => simp only [vi, ei] at h
theorem vc_ok (hz : y < 229) : ∀ (k pc : Nat) (lv st : List Value) (hi : HI) (hl : HL), vc u k y pc lv st hi hl K → Wp u y pc lv st hi hl K
  | 0, _, _, _, _, _, h => h
  | k + 1, pc, lv, st, hi, hl, h => by
    unfold vc at h
    cases hr : row y pc with
    | none => rw [hr] at h; exact h.elim
    | some r =>
      rw [hr] at h
      refine vi_ok hz hr (fun pc' lv' st' hi' hl' h' => ?_) h
      split at h'
      · exact h'
      · exact vc_ok hz k pc' lv' st' hi' hl' h'
end VQ
/-! a method's contract out of its walk -/
def slots1 (as : List Value) : List Value := as.flatMap (fun v => if v.category = 2 then [v, .null] else [v])
def ent (n : Nat) (as : List Value) : List Value := slots1 as ++ List.replicate (n - (slots1 as).length) .null
theorem slots_at {u : UV} (hF : (xF u).category = 1) : ∀ (as : List Value) (k i : Nat) (v : Value), (slots1 as)[i]? = some v → v ≠ .null → (k + i, tv u v) ∈ lv_args k (as.map (tv u))
  | [], k, i, v, h, _ => by simp [slots1] at h
  | a :: as, k, i, v, h, hv => by
    have e : slots1 (a :: as) = (if a.category = 2 then [a, .null] else [a]) ++ slots1 as := rfl
    rw [e] at h
    show _ ∈ (k, tv u a) :: lv_args (if (tv u a).category = 2 then k + 2 else k + 1) (as.map (tv u))
    rw [tv_cat hF]
    by_cases hc : a.category = 2
    · rw [if_pos hc] at h ⊢
      match i, h with
      | 0, h => cases h; exact List.mem_cons_self
      | 1, h => cases h; exact absurd rfl hv
      | i + 2, h =>
        have := slots_at hF as (k + 2) i v (by simpa using h) hv
        rw [show k + (i + 2) = k + 2 + i by omega]
        exact List.mem_cons_of_mem _ this
    · rw [if_neg hc] at h ⊢
      match i, h with
      | 0, h => cases h; exact List.mem_cons_self
      | i + 1, h =>
        have := slots_at hF as (k + 1) i v (by simpa using h) hv
        rw [show k + (i + 1) = k + 1 + i by omega]
        exact List.mem_cons_of_mem _ this
theorem sl_len {u : UV} (hF : (xF u).category = 1) (as : List Value) : (lg_sl (as.map (tv u))).length = (slots1 as).length := by
  induction as with
  | nil => rfl
  | cons a as ih =>
    unfold lg_sl slots1 at ih ⊢
    rw [List.map_cons, List.flatMap_cons, List.flatMap_cons, List.length_append, List.length_append, ih, tv_cat hF]
    split <;> rfl
theorem call_wp {u : UV} {z : Nat} {as : List Value} {hi : HI} {hl : HL} {K : Option Value → HI → HL → Prop} (hz : z < 228) (hn : (slots1 as).length ≤ mL z) (hg : (mG z || as.all (fun v => decide (v.category = 1))) = true) (h : Wp u z 0 (ent (mL z) as) [] hi hl K) : Call u z as hi hl K := by
  obtain ⟨m1, m2, m3, m4, m5, m6, m7, m8⟩ := mtOk hz
  refine Met.ofW (cc := mB z) (maxL := mL z) (ret := mR z) m5 rfl ?_
  intro p e s m args below meth c s₁ B hml hv
  obtain ⟨rfl, hI, hP⟩ := hv
  have hts := atoms_spec (ws := wsM z) B.pre
  have hF := hI.2.2.2.2.2.2.2.2
  rw [lg_entry_eq]
  have hown : s.vm.findClass (cN (mO z)) = some m.cls := by rw [← m4]; exact findClass_of_methodNamed B.named
  have hlen : (lg_sl (as.map (tv u))).length ≤ mL z := by rw [sl_len hF]; exact hn
  have hent : (ent (mL z) as).length = mL z := by
    unfold ent
    rw [List.length_append, List.length_replicate]
    omega
  refine h p e (headSpec (wsM z) (rmM z)).room s m _ below meth c 0 0 _ s.heap [] _ ⟨B.exec, B.bytes, B.returns, hml, hown, fun w hw => hts w (List.mem_cons_of_mem _ hw), hI, Nat.le_refl _, Nat.le_refl _, Nat.zero_le _, Nat.zero_le _⟩ ?_ ?_ hP va_S.rf ?_ hent
  · intro r hi' hl' H locs ls pc ins hK P S hr hd
    have hq : ∀ t : State, t.heap = H → s.WarmedH t.vm → qcM u K ((as.map (tv u)).toArray) s (.returned (r.map (tv u))) t := fun t ht _ => ⟨⟨r, hi', hl', rfl, hK, by rw [ht]; exact P⟩, S.F ht⟩
    match r, hr, hq with
    | some (.int v), ⟨e1, t, e2, e3⟩, hq => subst e1; exact W.zret B.exec B.bytes (by rw [B.returns]; exact e2) e3 hq S.2.2 hd B.notSynchronized
    | some (.long v), ⟨e1, e2⟩, hq => subst e1; exact W.lret B.exec B.bytes (by rw [B.returns]; exact e2) hq S.2.2 hd B.notSynchronized
    | some (.ref v), ⟨e1, n, e2⟩, hq => subst e1; exact W.aret B.exec B.bytes (by rw [B.returns]; exact e2) (Or.inl ⟨_, rfl⟩) (Or.inr ⟨_, rfl⟩) hq S.2.2 hd B.notSynchronized
    | none, ⟨e1, e2⟩, hq => subst e1; exact W.vret B.exec B.bytes (by rw [B.returns]; exact e2) hq S.2.2 hd B.notSynchronized
  · intro hq v hv
    rw [hq, Bool.false_or, List.all_eq_true] at hg
    unfold ent at hv
    rcases List.mem_append.mp hv with hv | hv
    · obtain ⟨a, ha, hva⟩ := List.mem_flatMap.mp hv
      have := of_decide_eq_true (hg a ha)
      rw [if_neg (by rw [this]; decide)] at hva
      rw [List.mem_singleton.mp hva]
      exact this
    · rw [(List.mem_replicate.mp hv).2]; rfl
  · have hlv := lv_entry (as.map (tv u)) hlen
    refine ⟨hlv.1, hlv.2.1, fun q hq => hlv.2.2 q ?_⟩
    obtain ⟨i, v, h1, h2, rfl⟩ := mem_asl.mp hq
    have h3 : (slots1 as)[i]? = some v := by
      unfold ent at h1
      rcases Nat.lt_or_ge i (slots1 as).length with q | q
      · rwa [List.getElem?_append_left q] at h1
      · rw [List.getElem?_append_right q] at h1
        have := List.mem_replicate.mp (List.mem_of_getElem? h1)
        exact absurd this.2 h2
    have := slots_at hF as 0 i v h3 h2
    rwa [Nat.zero_add] at this
theorem call_of {u : UV} {z : Nat} {as : List Value} {hi : HI} {hl : HL} {K : Option Value → HI → HL → Prop} (k : Nat) (hz : z < 228) (hn : (slots1 as).length ≤ mL z) (hg : (mG z || as.all (fun v => decide (v.category = 1))) = true) (h : vc u k z 0 (ent (mL z) as) [] hi hl K) : Call u z as hi hl K := call_wp hz hn hg (vc_ok (by omega) k 0 _ _ hi hl h)
