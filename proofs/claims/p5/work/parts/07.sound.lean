theorem mem_asl {u : UV} {lv : List Value} {q : Nat × Value} : q ∈ asl u lv ↔ ∃ (i : Nat) (v : Value), lv[i]? = some v ∧ v ≠ .null ∧ q = (i, tv u v) := by
  unfold asl
  rw [List.mem_filterMap]
  constructor
  · rintro ⟨⟨v, i⟩, h1, h2⟩
    have h3 := List.mem_zipIdx_iff_getElem?.mp h1
    by_cases hv : v = .null
    · simp [hv] at h2
    · simp only [hv, if_false, Option.some.injEq] at h2
      exact ⟨i, v, h3, hv, h2.symm⟩
  · rintro ⟨i, v, h1, h2, rfl⟩
    exact ⟨(v, i), List.mem_zipIdx_iff_getElem?.mpr h1, by simp [h2]⟩
theorem tv_cat {u : UV} (h : (xF u).category = 1) (v : Value) : (tv u v).category = v.category := by
  cases v <;> first | rfl | exact h
theorem lv_get {u : UV} {ls : Array Slot} {n i : Nat} {lv : List Value} {v : Value} (h : lv_has ls n (asl u lv)) (hi : lv[i]? = some v) (hv : v ≠ .null) : ls[i]? = some (.val (tv u v)) := h.2.2 (i, tv u v) (mem_asl.mpr ⟨i, v, hi, hv, rfl⟩)
theorem noL_cat {u : UV} (hF : (xF u).category = 1) {lv : List Value} {i j : Nat} {w : Value} (h : noL lv i = true) (hj : lv[j]? = some w) (e : j + 1 = i) : ¬ (tv u w).category = 2 := by
  subst e
  rw [tv_cat hF]
  simp only [noL, hj] at h
  cases w <;> simp [Value.category] at h ⊢
theorem lv_up1 {u : UV} (hF : (xF u).category = 1) {y : Nat} {ls : Array Slot} {n i : Nat} {lv : List Value} {v : Value} (hv : v ≠ .null) (hg : mG y = false → ∀ v ∈ lv, v.category = 1) (hno : ((!(mG y)) || noL lv i) = true) (hi : i < lv.length)
    (h : lv_has ls n ((i, tv u v) :: (asl u lv).filter (fun q => !(q.1 == i) && !(q.1 + 1 == i && q.2.category == 2)))) : lv_has ls n (asl u (lv.set i v)) := by
  refine ⟨h.1, h.2.1, fun q hq => ?_⟩
  obtain ⟨j, w, h1, h2, rfl⟩ := mem_asl.mp hq
  by_cases hj : j = i
  · subst hj
    rw [List.getElem?_set_self hi] at h1
    cases h1
    exact h.2.2 _ List.mem_cons_self
  · rw [List.getElem?_set_ne (Ne.symm hj)] at h1
    refine h.2.2 _ (List.mem_cons_of_mem _ (List.mem_filter.mpr ⟨mem_asl.mpr ⟨j, w, h1, h2, rfl⟩, ?_⟩))
    have hc : ¬ (j + 1 = i ∧ (tv u w).category = 2) := by
      rintro ⟨e, hc⟩
      rcases Bool.or_eq_true_iff.mp hno with hn | hn
      · have := hg (by simpa using hn) w (List.mem_of_getElem? h1)
        rw [tv_cat hF, this] at hc
        cases hc
      · exact noL_cat hF hn h1 e hc
    simp only [Bool.and_eq_true, Bool.not_eq_true', beq_eq_false_iff_ne, Bool.and_eq_false_iff, ne_eq]
    refine ⟨hj, ?_⟩
    by_cases e : j + 1 = i
    · exact Or.inr (fun z => hc ⟨e, z⟩)
    · exact Or.inl e
theorem lv_up2 {u : UV} (hF : (xF u).category = 1) {ls : Array Slot} {n i : Nat} {lv : List Value} {x : Int64} (hno : noL lv i = true) (hi : i + 1 < lv.length)
    (h : lv_has ls n ((i, Value.long x) :: (asl u lv).filter (fun q => !(q.1 == i) && (!(q.1 == i + 1) && !(q.1 + 1 == i && q.2.category == 2))))) : lv_has ls n (asl u ((lv.set i (.long x)).set (i + 1) .null)) := by
  refine ⟨h.1, h.2.1, fun q hq => ?_⟩
  obtain ⟨j, w, h1, h2, rfl⟩ := mem_asl.mp hq
  by_cases hj2 : j = i + 1
  · subst hj2
    rw [List.getElem?_set_self (by rw [List.length_set]; exact hi)] at h1
    cases h1
    exact absurd rfl h2
  · rw [List.getElem?_set_ne (Ne.symm hj2)] at h1
    by_cases hj : j = i
    · subst hj
      rw [List.getElem?_set_self (by omega)] at h1
      cases h1
      exact h.2.2 _ List.mem_cons_self
    · rw [List.getElem?_set_ne (Ne.symm hj)] at h1
      refine h.2.2 _ (List.mem_cons_of_mem _ (List.mem_filter.mpr ⟨mem_asl.mpr ⟨j, w, h1, h2, rfl⟩, ?_⟩))
      simp only [Bool.and_eq_true, Bool.not_eq_true', beq_eq_false_iff_ne, Bool.and_eq_false_iff, ne_eq]
      refine ⟨hj, hj2, ?_⟩
      by_cases e : j + 1 = i
      · exact Or.inr (noL_cat hF hno h1 e)
      · exact Or.inl e
/-! the world's cells -/
theorem kd_lt {h : Nat} (e : kd h ≠ 14) : h < 63 := by
  rcases Nat.lt_or_ge h 63 with q | q
  · exact q
  · exact absurd (by unfold kd; rw [List.getD_eq_getElem?_getD, List.getElem?_eq_none (show kdL.length ≤ h from q)]; rfl) e
theorem wd_at {u : UV} {hi : HI} {hl : HL} {h : Nat} (e : kd h ≠ 14) : (wd u hi hl)[h]? = some (xA u h, en u hi hl h) := by
  unfold wd
  rw [List.getElem?_map, List.getElem?_range (kd_lt e)]
  rfl
theorem en_congr {u : UV} {hi hi' : HI} {hl hl' : HL} {h : Nat} (e1 : hi h = hi' h) (e2 : hl h = hl' h) : en u hi hl h = en u hi' hl' h := by
  unfold en fds
  rw [e1, e2]
theorem wd_set {u : UV} {hi hi' : HI} {hl hl' : HL} {h : Nat} {x : va_E} (e : kd h ≠ 14) (hx : x = en u hi' hl' h) (h1 : ∀ j, j ≠ h → hi j = hi' j) (h2 : ∀ j, j ≠ h → hl j = hl' j) : (wd u hi hl).set h (xA u h, x) = wd u hi' hl' := by
  subst hx
  apply List.ext_getElem?
  intro j
  by_cases hj : j = h
  · subst hj
    rw [wd_at e, List.getElem?_set_self (by unfold wd; rw [List.length_map, List.length_range]; exact kd_lt e)]
  · rw [List.getElem?_set_ne (Ne.symm hj)]
    unfold wd
    rw [List.getElem?_map, List.getElem?_map]
    cases hr : (List.range 63)[j]? with
    | none => rfl
    | some i =>
      have hi2 : i = j := by
        have := List.getElem?_range (n := 63) (i := j) (by have := (List.getElem?_eq_some_iff.mp hr).1; simpa using this)
        rw [hr] at this
        exact Option.some.inj this
      subst hi2
      exact congrArg (fun z => some (xA u i, z)) (en_congr (h1 i hj) (h2 i hj))
theorem wd_D {u : UV} {s : State} (h : inU u s) (hi : HI) (hl : HL) : va_D (aS u) (wd u hi hl) := by
  have key : ∀ (i : Nat) (q : Nat × va_E), (wd u hi hl)[i]? = some q → i < 63 ∧ q.1 = xA u i := by
    intro i q hq
    unfold wd at hq
    rw [List.getElem?_map] at hq
    cases hr : (List.range 63)[i]? with
    | none => rw [hr] at hq; cases hq
    | some j =>
      have hlt : i < 63 := by have := (List.getElem?_eq_some_iff.mp hr).1; simpa using this
      rw [List.getElem?_range hlt] at hr
      cases hr
      rw [List.getElem?_range hlt] at hq
      cases hq
      exact ⟨hlt, rfl⟩
  refine ⟨fun i j p q hp hq e => ?_, fun k q hq => ?_⟩
  · obtain ⟨a1, a2⟩ := key i p hp
    obtain ⟨b1, b2⟩ := key j q hq
    exact h.2.1 i j a1 b1 (by rw [← a2, ← b2]; exact e)
  · obtain ⟨a1, a2⟩ := key k q hq
    exact ⟨k, a1, a2⟩
theorem en_o {u : UV} {hi : HI} {hl : HL} {h ci : Nat} (e : kd h = ci) (hc : ci < 8) : en u hi hl h = .inr (ci, fds u hi h ci) := by
  unfold en
  rw [e, if_pos hc]
theorem en_i {u : UV} {hi : HI} {hl : HL} {h : Nat} (e : kd h = 8) : en u hi hl h = .inl (xC u 8, ln h, .inl (hi h)) := by
  unfold en
  rw [e]; rfl
theorem en_b {u : UV} {hi : HI} {hl : HL} {h : Nat} (e : kd h = 9) : en u hi hl h = .inl (xC u 9, ln h, .inl (hi h)) := by
  unfold en
  rw [e]; rfl
theorem en_l {u : UV} {hi : HI} {hl : HL} {h : Nat} (e : kd h = 10) : en u hi hl h = .inl (xC u 10, ln h, .inr (.inl (hl h))) := by
  unfold en
  rw [e]; rfl
theorem en_a {u : UV} {hi : HI} {hl : HL} {h k : Nat} (e : kd h = k) (h1 : 11 ≤ k) : en u hi hl h = .inl (xC u k, ln h, .inr (.inr (.inr (.inr (fun k => some (xA u (rf h k))))))) := by
  unfold en
  rw [e, if_neg (by omega), if_neg (by omega), if_neg (by omega)]
theorem en_arr {u : UV} {hi : HI} {hl : HL} {h : Nat} (h1 : 8 ≤ kd h) (h2 : kd h ≤ 13) : ∃ (x : vp_A), en u hi hl h = .inl (xC u (kd h), x) ∧ x.1 = ln h := by
  unfold en
  rw [if_neg (by omega)]
  by_cases a : kd h < 10
  · rw [if_pos a]; exact ⟨_, rfl, rfl⟩
  · rw [if_neg a]
    by_cases b : kd h = 10
    · rw [if_pos b, b]; exact ⟨_, rfl, rfl⟩
    · rw [if_neg b]; exact ⟨_, rfl, rfl⟩
theorem ty_at {u : UV} {k : Nat} (h1 : 8 ≤ k) (h2 : k ≤ 13) : ∃ ty, (tyL u)[k - 8]? = some (xC u k, ty) := by
  have h : k = 8 ∨ k = 9 ∨ k = 10 ∨ k = 11 ∨ k = 12 ∨ k = 13 := by omega
  rcases h with rfl | rfl | rfl | rfl | rfl | rfl <;> exact ⟨_, rfl⟩
theorem ty_ref {u : UV} {k : Nat} (h1 : 11 ≤ k) (h2 : k ≤ 13) : ∃ C, (tyL u)[k - 8]? = some (xC u k, .object C) := by
  have h : k = 11 ∨ k = 12 ∨ k = 13 := by omega
  rcases h with rfl | rfl | rfl <;> exact ⟨_, rfl⟩
theorem fds_at {u : UV} {hi : HI} {h ci k : Nat} (hk : k < nfL.getD ci 0) : (fds u hi h ci)[k]? = some (if rt ci k = true then .ref (xA u (rf h k)) else .int (hi h k)) := by
  unfold fds
  rw [List.getElem?_map, List.getElem?_range hk]
  rfl
theorem up2_at {hi : HI} {h k : Nat} {v : Int32} : up2 hi h k v h = upd (hi h) k v := by simp [up2]
theorem up2_ne {hi : HI} {h k : Nat} {v : Int32} {j : Nat} (e : j ≠ h) : hi j = up2 hi h k v j := by simp [up2, e]
theorem upl_at {hl : HL} {h k : Nat} {v : Int64} : upl hl h k v h = vp_updL (hl h) k v := by simp [upl]
theorem upl_ne {hl : HL} {h k : Nat} {v : Int64} {j : Nat} (e : j ≠ h) : hl j = upl hl h k v j := by simp [upl, e]
theorem fds_set {u : UV} {hi : HI} {h ci k : Nat} {v : Int32} (hk : k < nfL.getD ci 0) (hr : rt ci k = false) : (fds u hi h ci).set k (.int v) = fds u (up2 hi h k v) h ci := by
  apply List.ext_getElem?
  intro j
  have hlen : (fds u hi h ci).length = nfL.getD ci 0 := by unfold fds; rw [List.length_map, List.length_range]
  by_cases hj : j = k
  · subst hj
    rw [List.getElem?_set_self (by omega), fds_at hk, hr, up2_at]
    simp [upd]
  · rw [List.getElem?_set_ne (Ne.symm hj)]
    by_cases hjl : j < nfL.getD ci 0
    · rw [fds_at hjl, fds_at hjl, up2_at]
      simp [upd, hj]
    · rw [List.getElem?_eq_none (by omega), List.getElem?_eq_none (by unfold fds; rw [List.length_map, List.length_range]; omega)]
/-! links -/
theorem lk_mem {α : Type} {t : List (Nat × α)} {o i : Nat} {x : α} (h : lk t o i = some x) : (10000 * o + i, x) ∈ t := lkl_mem h
theorem key_d {o i : Nat} (h : i < 10000) : (10000 * o + i) / 10000 = o ∧ (10000 * o + i) % 10000 = i := by omega
def ilen (ins : Instr) : Nat := match ins with
  | .bipush _ => 2
  | .ldc _ => 2
  | .iload _ => 2
  | .lload _ => 2
  | .aload _ => 2
  | .istore _ => 2
  | .lstore _ => 2
  | .astore _ => 2
  | .sipush _ => 3
  | .ldc_w _ => 3
  | .ldc2_w _ => 3
  | .iinc _ _ => 3
  | .if_icmp _ _ => 3
  | .ifCond _ _ => 3
  | .goto _ => 3
  | .getfield _ => 3
  | .putfield _ => 3
  | .getstatic _ => 3
  | .invokevirtual _ => 3
  | .invokestatic _ => 3
  | .tableswitch _ _ _ _ => 0
  | _ => 1
/-- a constant pool's place -/
def ipl (ins : Instr) : Nat := match ins with
  | .ldc i => i
  | .ldc_w i => i
  | .ldc2_w i => i
  | .getfield i => i
  | .putfield i => i
  | .getstatic i => i
  | .invokevirtual i => i
  | .invokestatic i => i
  | _ => 0
def lnOk (q : Nat × Row) : Bool := (ilen q.2.1 == 0 || ilen q.2.1 == q.2.2.1 || ilen q.2.1 == 1 && q.2.2.1 == 1) && decide (ipl q.2.1 < 10000)

set_option maxRecDepth 100000 in
theorem ln_w : (List.range 229).all (fun z => (mW z).all (fun q => match q.2.1 with
  | .new _ => true
  | .anewarray _ => true
  | .newarray _ => true
  | .invokespecial _ => true
  | _ => lnOk q)) = true := by decide +kernel
theorem row_mem {z pc : Nat} {r : Row} (h : row z pc = some r) : (pc, r) ∈ mW z := rwc_mem h
theorem rw_dec {y pc : Nat} {r : Row} {ins : Instr} {n : Nat} (hz : y < 229) (hr : row y pc = some r) (e : r.1 = ins) (hs : (match ins with | .new _ => true | .anewarray _ => true | .newarray _ => true | .invokespecial _ => true | .tableswitch _ _ _ _ => true | _ => false) = false) (hn : ilen ins = n) (h0 : 0 < n) : decode (mB y) pc = .ok (ins, n) := by
  have h1 := dcOk hz hr
  unfold rwOk at h1
  rw [Bool.and_eq_true, decide_eq_true_eq] at h1
  have h2 := List.all_eq_true.mp (List.all_eq_true.mp ln_w y (List.mem_range.mpr hz)) _ (row_mem hr)
  obtain ⟨i, l, t, sw⟩ := r
  dsimp only at e h1 h2
  subst e
  have h3 : lnOk (pc, i, l, t, sw) = true := by
    revert h2 hs
    cases i <;> simp
  have h4 : l = n := by
    simp only [lnOk, Bool.and_eq_true, Bool.or_eq_true, beq_iff_eq] at h3
    omega
  rw [← h4]
  exact h1.1
theorem rw_pl {y pc : Nat} {r : Row} (hz : y < 229) (hr : row y pc = some r) (hs : (match r.1 with | .new _ => true | .anewarray _ => true | .newarray _ => true | .invokespecial _ => true | _ => false) = false) : ipl r.1 < 10000 := by
  have h2 := List.all_eq_true.mp (List.all_eq_true.mp ln_w y (List.mem_range.mpr hz)) _ (row_mem hr)
  obtain ⟨i, l, t, sw⟩ := r
  dsimp only at hs h2 ⊢
  have h3 : lnOk (pc, i, l, t, sw) = true := by
    revert h2 hs
    cases i <;> simp
  simp only [lnOk, Bool.and_eq_true, decide_eq_true_eq] at h3
  exact h3.2
theorem rw_tgt {y pc : Nat} {r : Row} {off : Int} (hz : y < 229) (hr : row y pc = some r) (e : (∃ c, r.1 = .if_icmp c off) ∨ (∃ c, r.1 = .ifCond c off) ∨ r.1 = .goto off) : (pc : Int) + off = (r.2.2.1 : Int) := by
  have h1 := dcOk hz hr
  unfold rwOk at h1
  rw [Bool.and_eq_true] at h1
  obtain ⟨i, l, t, sw⟩ := r
  dsimp only at e h1 ⊢
  rcases e with ⟨c, rfl⟩ | ⟨c, rfl⟩ | rfl
  · exact of_decide_eq_true h1.2
  · exact of_decide_eq_true h1.2
  · exact of_decide_eq_true h1.2
abbrev Gk (u : UV) (y : Nat) (K : Option Value → HI → HL → Prop) (go : Nat → List Value → List Value → HI → HL → Prop) : Prop := ∀ pc lv st hi hl, go pc lv st hi hl → Wp u y pc lv st hi hl K
section VV
variable {u : UV} {y pc : Nat} {r : Row} {lv st : List Value} {hi : HI} {hl : HL} {K : Option Value → HI → HL → Prop} {go : Nat → List Value → List Value → HI → HL → Prop}

theorem v_iconst {n : Int} (hz : y < 229) (hr : row y pc = some r) (hg : Gk u y K go) (ei : r.1 = .iconst n) (h : vi u go K y pc r lv st hi hl) : Wp u y pc lv st hi hl K := by
  simp only [vi, ei] at h
  intro p e R s m args below meth c cells slots Z H locs ls C T G P S L N
  exact lv_iconst C.1 C.2.1 (rw_dec hz hr ei rfl rfl (by decide)) rfl (hg _ _ _ _ _ h p e R s m args below meth c cells slots Z H locs ls C T G P S L N)
theorem v_bipush {n : Int} (hz : y < 229) (hr : row y pc = some r) (hg : Gk u y K go) (ei : r.1 = .bipush n) (h : vi u go K y pc r lv st hi hl) : Wp u y pc lv st hi hl K := by
  simp only [vi, ei] at h
  intro p e R s m args below meth c cells slots Z H locs ls C T G P S L N
  exact lv_bipush C.1 C.2.1 (rw_dec hz hr ei rfl rfl (by decide)) rfl (hg _ _ _ _ _ h p e R s m args below meth c cells slots Z H locs ls C T G P S L N)
theorem v_sipush {n : Int} (hz : y < 229) (hr : row y pc = some r) (hg : Gk u y K go) (ei : r.1 = .sipush n) (h : vi u go K y pc r lv st hi hl) : Wp u y pc lv st hi hl K := by
  simp only [vi, ei] at h
  intro p e R s m args below meth c cells slots Z H locs ls C T G P S L N
  exact lv_sipush C.1 C.2.1 (rw_dec hz hr ei rfl rfl (by decide)) rfl (hg _ _ _ _ _ h p e R s m args below meth c cells slots Z H locs ls C T G P S L N)
theorem v_lconst {n : Fin 2} (hz : y < 229) (hr : row y pc = some r) (hg : Gk u y K go) (ei : r.1 = .lconst n) (h : vi u go K y pc r lv st hi hl) : Wp u y pc lv st hi hl K := by
  simp only [vi, ei] at h
  intro p e R s m args below meth c cells slots Z H locs ls C T G P S L N
  exact lv_lconst C.1 C.2.1 (rw_dec hz hr ei rfl rfl (by decide)) rfl (hg _ _ _ _ _ h p e R s m args below meth c cells slots Z H locs ls C T G P S L N)
theorem v_iload_n {n : Fin 4} (hz : y < 229) (hr : row y pc = some r) (hg : Gk u y K go) (ei : r.1 = .iload_n n) (h : vi u go K y pc r lv st hi hl) : Wp u y pc lv st hi hl K := by
  simp only [vi, ei] at h
  unfold ldi at h
  split at h
  · rename_i x hx
    intro p e R s m args below meth c cells slots Z H locs ls C T G P S L N
    exact lv_iload_n C.1 C.2.1 (rw_dec hz hr ei rfl rfl (by decide)) rfl (lv_get L hx (by simp)) (hg _ _ _ _ _ h p e R s m args below meth c cells slots Z H locs ls C T G P S L N)
  · exact h.elim
theorem v_iload {n : Nat} (hz : y < 229) (hr : row y pc = some r) (hg : Gk u y K go) (ei : r.1 = .iload n) (h : vi u go K y pc r lv st hi hl) : Wp u y pc lv st hi hl K := by
  simp only [vi, ei] at h
  unfold ldi at h
  split at h
  · rename_i x hx
    intro p e R s m args below meth c cells slots Z H locs ls C T G P S L N
    exact lv_iload C.1 C.2.1 (rw_dec hz hr ei rfl rfl (by decide)) (lv_get L hx (by simp)) (hg _ _ _ _ _ h p e R s m args below meth c cells slots Z H locs ls C T G P S L N)
  · exact h.elim
theorem v_lload_n {n : Fin 4} (hz : y < 229) (hr : row y pc = some r) (hg : Gk u y K go) (ei : r.1 = .lload_n n) (h : vi u go K y pc r lv st hi hl) : Wp u y pc lv st hi hl K := by
  simp only [vi, ei] at h
  unfold ldl at h
  split at h
  · rename_i x hx
    intro p e R s m args below meth c cells slots Z H locs ls C T G P S L N
    exact lv_lload_n C.1 C.2.1 (rw_dec hz hr ei rfl rfl (by decide)) rfl (lv_get L hx (by simp)) (hg _ _ _ _ _ h p e R s m args below meth c cells slots Z H locs ls C T G P S L N)
  · exact h.elim
theorem v_lload {n : Nat} (hz : y < 229) (hr : row y pc = some r) (hg : Gk u y K go) (ei : r.1 = .lload n) (h : vi u go K y pc r lv st hi hl) : Wp u y pc lv st hi hl K := by
  simp only [vi, ei] at h
  unfold ldl at h
  split at h
  · rename_i x hx
    intro p e R s m args below meth c cells slots Z H locs ls C T G P S L N
    exact lv_lload C.1 C.2.1 (rw_dec hz hr ei rfl rfl (by decide)) (lv_get L hx (by simp)) (hg _ _ _ _ _ h p e R s m args below meth c cells slots Z H locs ls C T G P S L N)
  · exact h.elim
theorem v_aload_n {n : Fin 4} (hz : y < 229) (hr : row y pc = some r) (hg : Gk u y K go) (ei : r.1 = .aload_n n) (h : vi u go K y pc r lv st hi hl) : Wp u y pc lv st hi hl K := by
  simp only [vi, ei] at h
  unfold lda at h
  split at h
  · rename_i x hx
    intro p e R s m args below meth c cells slots Z H locs ls C T G P S L N
    exact lv_aload_n C.1 C.2.1 (rw_dec hz hr ei rfl rfl (by decide)) rfl (lv_get L hx (by simp)) (hg _ _ _ _ _ h p e R s m args below meth c cells slots Z H locs ls C T G P S L N)
  · exact h.elim
theorem v_aload {n : Nat} (hz : y < 229) (hr : row y pc = some r) (hg : Gk u y K go) (ei : r.1 = .aload n) (h : vi u go K y pc r lv st hi hl) : Wp u y pc lv st hi hl K := by
  simp only [vi, ei] at h
  unfold lda at h
  split at h
  · rename_i x hx
    intro p e R s m args below meth c cells slots Z H locs ls C T G P S L N
    exact lv_aload C.1 C.2.1 (rw_dec hz hr ei rfl rfl (by decide)) (lv_get L hx (by simp)) (hg _ _ _ _ _ h p e R s m args below meth c cells slots Z H locs ls C T G P S L N)
  · exact h.elim
theorem v_istore_n {n : Fin 4} (hz : y < 229) (hr : row y pc = some r) (hg : Gk u y K go) (ei : r.1 = .istore_n n) (h : vi u go K y pc r lv st hi hl) : Wp u y pc lv st hi hl K := by
  simp only [vi, ei] at h
  unfold b1 at h
  split at h
  · rename_i x s0
    unfold stO at h
    split at h
    · rename_i hc
      rw [Bool.and_eq_true, decide_eq_true_eq] at hc
      intro p e R s m args below meth c cells slots Z H locs ls C T G P S L N
      exact lv_istore_n C.1 C.2.1 (rw_dec hz hr ei rfl rfl (by decide)) rfl L (by rw [← N]; exact hc.2) rfl (fun ls2 h2 => hg _ _ _ _ _ h p e R s m args below meth c cells slots Z H locs ls2 C T (fun hq v hv => (List.mem_or_eq_of_mem_set hv).elim (G hq v) (fun z => by rw [z]; rfl)) P S (lv_up1 C.2.2.2.2.2.2.1.2.2.2.2.2.2.2.2 (v := .int x) (by simp) G hc.1 hc.2 h2) (by rw [List.length_set]; exact N))
    · exact h.elim
  · exact h.elim
theorem v_istore {n : Nat} (hz : y < 229) (hr : row y pc = some r) (hg : Gk u y K go) (ei : r.1 = .istore n) (h : vi u go K y pc r lv st hi hl) : Wp u y pc lv st hi hl K := by
  simp only [vi, ei] at h
  unfold b1 at h
  split at h
  · rename_i x s0
    unfold stO at h
    split at h
    · rename_i hc
      rw [Bool.and_eq_true, decide_eq_true_eq] at hc
      intro p e R s m args below meth c cells slots Z H locs ls C T G P S L N
      exact lv_istore C.1 C.2.1 (rw_dec hz hr ei rfl rfl (by decide)) L (by rw [← N]; exact hc.2) rfl (fun ls2 h2 => hg _ _ _ _ _ h p e R s m args below meth c cells slots Z H locs ls2 C T (fun hq v hv => (List.mem_or_eq_of_mem_set hv).elim (G hq v) (fun z => by rw [z]; rfl)) P S (lv_up1 C.2.2.2.2.2.2.1.2.2.2.2.2.2.2.2 (v := .int x) (by simp) G hc.1 hc.2 h2) (by rw [List.length_set]; exact N))
    · exact h.elim
  · exact h.elim
theorem v_astore_n {n : Fin 4} (hz : y < 229) (hr : row y pc = some r) (hg : Gk u y K go) (ei : r.1 = .astore_n n) (h : vi u go K y pc r lv st hi hl) : Wp u y pc lv st hi hl K := by
  simp only [vi, ei] at h
  unfold r1 at h
  split at h
  · rename_i x s0
    unfold stO at h
    split at h
    · rename_i hc
      rw [Bool.and_eq_true, decide_eq_true_eq] at hc
      intro p e R s m args below meth c cells slots Z H locs ls C T G P S L N
      exact lv_astore_n C.1 C.2.1 (rw_dec hz hr ei rfl rfl (by decide)) rfl L (by rw [← N]; exact hc.2) rfl (fun ls2 h2 => hg _ _ _ _ _ h p e R s m args below meth c cells slots Z H locs ls2 C T (fun hq v hv => (List.mem_or_eq_of_mem_set hv).elim (G hq v) (fun z => by rw [z]; rfl)) P S (lv_up1 C.2.2.2.2.2.2.1.2.2.2.2.2.2.2.2 (v := .ref x) (by simp) G hc.1 hc.2 h2) (by rw [List.length_set]; exact N))
    · exact h.elim
  · exact h.elim
theorem v_astore {n : Nat} (hz : y < 229) (hr : row y pc = some r) (hg : Gk u y K go) (ei : r.1 = .astore n) (h : vi u go K y pc r lv st hi hl) : Wp u y pc lv st hi hl K := by
  simp only [vi, ei] at h
  unfold r1 at h
  split at h
  · rename_i x s0
    unfold stO at h
    split at h
    · rename_i hc
      rw [Bool.and_eq_true, decide_eq_true_eq] at hc
      intro p e R s m args below meth c cells slots Z H locs ls C T G P S L N
      exact lv_astore C.1 C.2.1 (rw_dec hz hr ei rfl rfl (by decide)) L (by rw [← N]; exact hc.2) rfl (fun ls2 h2 => hg _ _ _ _ _ h p e R s m args below meth c cells slots Z H locs ls2 C T (fun hq v hv => (List.mem_or_eq_of_mem_set hv).elim (G hq v) (fun z => by rw [z]; rfl)) P S (lv_up1 C.2.2.2.2.2.2.1.2.2.2.2.2.2.2.2 (v := .ref x) (by simp) G hc.1 hc.2 h2) (by rw [List.length_set]; exact N))
    · exact h.elim
  · exact h.elim
theorem v_lstore_n {n : Fin 4} (hz : y < 229) (hr : row y pc = some r) (hg : Gk u y K go) (ei : r.1 = .lstore_n n) (h : vi u go K y pc r lv st hi hl) : Wp u y pc lv st hi hl K := by
  simp only [vi, ei] at h
  unfold l1 at h
  split at h
  · rename_i x s0
    unfold stL2 at h
    split at h
    · rename_i hc
      rw [Bool.and_eq_true, Bool.and_eq_true, decide_eq_true_eq] at hc
      intro p e R s m args below meth c cells slots Z H locs ls C T G P S L N
      exact lv_lstore_n C.1 C.2.1 (rw_dec hz hr ei rfl rfl (by decide)) rfl L (by rw [← N]; exact hc.2.2) rfl (fun ls2 h2 => hg _ _ _ _ _ h p e R s m args below meth c cells slots Z H locs ls2 C T (fun hq => by rw [hc.1] at hq; cases hq) P S (lv_up2 C.2.2.2.2.2.2.1.2.2.2.2.2.2.2.2 hc.2.1 hc.2.2 h2) (by rw [List.length_set, List.length_set]; exact N))
    · exact h.elim
  · exact h.elim
theorem v_lstore {n : Nat} (hz : y < 229) (hr : row y pc = some r) (hg : Gk u y K go) (ei : r.1 = .lstore n) (h : vi u go K y pc r lv st hi hl) : Wp u y pc lv st hi hl K := by
  simp only [vi, ei] at h
  unfold l1 at h
  split at h
  · rename_i x s0
    unfold stL2 at h
    split at h
    · rename_i hc
      rw [Bool.and_eq_true, Bool.and_eq_true, decide_eq_true_eq] at hc
      intro p e R s m args below meth c cells slots Z H locs ls C T G P S L N
      exact lv_lstore C.1 C.2.1 (rw_dec hz hr ei rfl rfl (by decide)) L (by rw [← N]; exact hc.2.2) rfl (fun ls2 h2 => hg _ _ _ _ _ h p e R s m args below meth c cells slots Z H locs ls2 C T (fun hq => by rw [hc.1] at hq; cases hq) P S (lv_up2 C.2.2.2.2.2.2.1.2.2.2.2.2.2.2.2 hc.2.1 hc.2.2 h2) (by rw [List.length_set, List.length_set]; exact N))
    · exact h.elim
  · exact h.elim
theorem v_iinc {i : Nat} {n : Int} (hz : y < 229) (hr : row y pc = some r) (hg : Gk u y K go) (ei : r.1 = .iinc i n) (h : vi u go K y pc r lv st hi hl) : Wp u y pc lv st hi hl K := by
  simp only [vi, ei] at h
  unfold ldi at h
  split at h
  · rename_i x hx
    unfold stO at h
    split at h
    · rename_i hc
      rw [Bool.and_eq_true, decide_eq_true_eq] at hc
      intro p e R s m args below meth c cells slots Z H locs ls C T G P S L N
      obtain ⟨k, hk⟩ := List.getElem?_of_mem (mem_asl.mpr ⟨i, .int x, hx, by simp, rfl⟩ : (i, tv u (.int x)) ∈ asl u lv)
      exact lv_iinc C.1 C.2.1 (rw_dec hz hr ei rfl rfl (by decide)) L (k := k) hk rfl (by rw [← N]; exact hc.2) rfl (fun ls2 h2 => hg _ _ _ _ _ h p e R s m args below meth c cells slots Z H locs ls2 C T (fun hq v hv => (List.mem_or_eq_of_mem_set hv).elim (G hq v) (fun z => by rw [z]; rfl)) P S (lv_up1 C.2.2.2.2.2.2.1.2.2.2.2.2.2.2.2 (v := .int (x + Int32.ofInt n)) (by simp) G hc.1 hc.2 h2) (by rw [List.length_set]; exact N))
    · exact h.elim
  · exact h.elim
theorem v_iadd (hz : y < 229) (hr : row y pc = some r) (hg : Gk u y K go) (ei : r.1 = .iadd) (h : vi u go K y pc r lv st hi hl) : Wp u y pc lv st hi hl K := by
  simp only [vi, ei] at h
  unfold b2 at h
  split at h
  · intro p e R s m args below meth c cells slots Z H locs ls C T G P S L N
    exact lv_iadd C.1 C.2.1 (rw_dec hz hr ei rfl rfl (by decide)) (hg _ _ _ _ _ h p e R s m args below meth c cells slots Z H locs ls C T G P S L N)
  · exact h.elim
theorem v_isub (hz : y < 229) (hr : row y pc = some r) (hg : Gk u y K go) (ei : r.1 = .isub) (h : vi u go K y pc r lv st hi hl) : Wp u y pc lv st hi hl K := by
  simp only [vi, ei] at h
  unfold b2 at h
  split at h
  · intro p e R s m args below meth c cells slots Z H locs ls C T G P S L N
    exact lv_isub C.1 C.2.1 (rw_dec hz hr ei rfl rfl (by decide)) (hg _ _ _ _ _ h p e R s m args below meth c cells slots Z H locs ls C T G P S L N)
  · exact h.elim
theorem v_imul (hz : y < 229) (hr : row y pc = some r) (hg : Gk u y K go) (ei : r.1 = .imul) (h : vi u go K y pc r lv st hi hl) : Wp u y pc lv st hi hl K := by
  simp only [vi, ei] at h
  unfold b2 at h
  split at h
  · intro p e R s m args below meth c cells slots Z H locs ls C T G P S L N
    exact lv_imul C.1 C.2.1 (rw_dec hz hr ei rfl rfl (by decide)) (hg _ _ _ _ _ h p e R s m args below meth c cells slots Z H locs ls C T G P S L N)
  · exact h.elim
theorem v_iand (hz : y < 229) (hr : row y pc = some r) (hg : Gk u y K go) (ei : r.1 = .iand) (h : vi u go K y pc r lv st hi hl) : Wp u y pc lv st hi hl K := by
  simp only [vi, ei] at h
  unfold b2 at h
  split at h
  · intro p e R s m args below meth c cells slots Z H locs ls C T G P S L N
    exact lv_iand C.1 C.2.1 (rw_dec hz hr ei rfl rfl (by decide)) (hg _ _ _ _ _ h p e R s m args below meth c cells slots Z H locs ls C T G P S L N)
  · exact h.elim
theorem v_ior (hz : y < 229) (hr : row y pc = some r) (hg : Gk u y K go) (ei : r.1 = .ior) (h : vi u go K y pc r lv st hi hl) : Wp u y pc lv st hi hl K := by
  simp only [vi, ei] at h
  unfold b2 at h
  split at h
  · intro p e R s m args below meth c cells slots Z H locs ls C T G P S L N
    exact lv_ior C.1 C.2.1 (rw_dec hz hr ei rfl rfl (by decide)) (hg _ _ _ _ _ h p e R s m args below meth c cells slots Z H locs ls C T G P S L N)
  · exact h.elim
theorem v_ixor (hz : y < 229) (hr : row y pc = some r) (hg : Gk u y K go) (ei : r.1 = .ixor) (h : vi u go K y pc r lv st hi hl) : Wp u y pc lv st hi hl K := by
  simp only [vi, ei] at h
  unfold b2 at h
  split at h
  · intro p e R s m args below meth c cells slots Z H locs ls C T G P S L N
    exact lv_ixor C.1 C.2.1 (rw_dec hz hr ei rfl rfl (by decide)) (hg _ _ _ _ _ h p e R s m args below meth c cells slots Z H locs ls C T G P S L N)
  · exact h.elim
theorem v_ishl (hz : y < 229) (hr : row y pc = some r) (hg : Gk u y K go) (ei : r.1 = .ishl) (h : vi u go K y pc r lv st hi hl) : Wp u y pc lv st hi hl K := by
  simp only [vi, ei] at h
  unfold b2 at h
  split at h
  · intro p e R s m args below meth c cells slots Z H locs ls C T G P S L N
    exact lv_ishl C.1 C.2.1 (rw_dec hz hr ei rfl rfl (by decide)) (hg _ _ _ _ _ h p e R s m args below meth c cells slots Z H locs ls C T G P S L N)
  · exact h.elim
theorem v_ishr (hz : y < 229) (hr : row y pc = some r) (hg : Gk u y K go) (ei : r.1 = .ishr) (h : vi u go K y pc r lv st hi hl) : Wp u y pc lv st hi hl K := by
  simp only [vi, ei] at h
  unfold b2 at h
  split at h
  · intro p e R s m args below meth c cells slots Z H locs ls C T G P S L N
    exact lv_ishr C.1 C.2.1 (rw_dec hz hr ei rfl rfl (by decide)) (hg _ _ _ _ _ h p e R s m args below meth c cells slots Z H locs ls C T G P S L N)
  · exact h.elim
theorem v_ladd (hz : y < 229) (hr : row y pc = some r) (hg : Gk u y K go) (ei : r.1 = .ladd) (h : vi u go K y pc r lv st hi hl) : Wp u y pc lv st hi hl K := by
  simp only [vi, ei] at h
  unfold l2 at h
  split at h
  · intro p e R s m args below meth c cells slots Z H locs ls C T G P S L N
    exact lv_ladd C.1 C.2.1 (rw_dec hz hr ei rfl rfl (by decide)) (hg _ _ _ _ _ h p e R s m args below meth c cells slots Z H locs ls C T G P S L N)
  · exact h.elim
theorem v_lmul (hz : y < 229) (hr : row y pc = some r) (hg : Gk u y K go) (ei : r.1 = .lmul) (h : vi u go K y pc r lv st hi hl) : Wp u y pc lv st hi hl K := by
  simp only [vi, ei] at h
  unfold l2 at h
  split at h
  · intro p e R s m args below meth c cells slots Z H locs ls C T G P S L N
    exact lv_lmul C.1 C.2.1 (rw_dec hz hr ei rfl rfl (by decide)) (hg _ _ _ _ _ h p e R s m args below meth c cells slots Z H locs ls C T G P S L N)
  · exact h.elim
theorem v_land (hz : y < 229) (hr : row y pc = some r) (hg : Gk u y K go) (ei : r.1 = .land) (h : vi u go K y pc r lv st hi hl) : Wp u y pc lv st hi hl K := by
  simp only [vi, ei] at h
  unfold l2 at h
  split at h
  · intro p e R s m args below meth c cells slots Z H locs ls C T G P S L N
    exact lv_land C.1 C.2.1 (rw_dec hz hr ei rfl rfl (by decide)) (hg _ _ _ _ _ h p e R s m args below meth c cells slots Z H locs ls C T G P S L N)
  · exact h.elim
theorem v_lor (hz : y < 229) (hr : row y pc = some r) (hg : Gk u y K go) (ei : r.1 = .lor) (h : vi u go K y pc r lv st hi hl) : Wp u y pc lv st hi hl K := by
  simp only [vi, ei] at h
  unfold l2 at h
  split at h
  · intro p e R s m args below meth c cells slots Z H locs ls C T G P S L N
    exact lv_lor C.1 C.2.1 (rw_dec hz hr ei rfl rfl (by decide)) (hg _ _ _ _ _ h p e R s m args below meth c cells slots Z H locs ls C T G P S L N)
  · exact h.elim
theorem v_idiv (hz : y < 229) (hr : row y pc = some r) (hg : Gk u y K go) (ei : r.1 = .idiv) (h : vi u go K y pc r lv st hi hl) : Wp u y pc lv st hi hl K := by
  simp only [vi, ei] at h
  unfold b2 at h
  split at h
  · intro p e R s m args below meth c cells slots Z H locs ls C T G P S L N
    exact lv_idiv C.1 C.2.1 (rw_dec hz hr ei rfl rfl (by decide)) h.1 (hg _ _ _ _ _ h.2 p e R s m args below meth c cells slots Z H locs ls C T G P S L N)
  · exact h.elim
theorem v_irem (hz : y < 229) (hr : row y pc = some r) (hg : Gk u y K go) (ei : r.1 = .irem) (h : vi u go K y pc r lv st hi hl) : Wp u y pc lv st hi hl K := by
  simp only [vi, ei] at h
  unfold b2 at h
  split at h
  · intro p e R s m args below meth c cells slots Z H locs ls C T G P S L N
    exact lv_irem C.1 C.2.1 (rw_dec hz hr ei rfl rfl (by decide)) h.1 (hg _ _ _ _ _ h.2 p e R s m args below meth c cells slots Z H locs ls C T G P S L N)
  · exact h.elim
theorem v_ldiv (hz : y < 229) (hr : row y pc = some r) (hg : Gk u y K go) (ei : r.1 = .ldiv) (h : vi u go K y pc r lv st hi hl) : Wp u y pc lv st hi hl K := by
  simp only [vi, ei] at h
  unfold l2 at h
  split at h
  · intro p e R s m args below meth c cells slots Z H locs ls C T G P S L N
    exact lv_ldiv C.1 C.2.1 (rw_dec hz hr ei rfl rfl (by decide)) h.1 (hg _ _ _ _ _ h.2 p e R s m args below meth c cells slots Z H locs ls C T G P S L N)
  · exact h.elim
theorem v_lcmp (hz : y < 229) (hr : row y pc = some r) (hg : Gk u y K go) (ei : r.1 = .lcmp) (h : vi u go K y pc r lv st hi hl) : Wp u y pc lv st hi hl K := by
  simp only [vi, ei] at h
  unfold l2 at h
  split at h
  · intro p e R s m args below meth c cells slots Z H locs ls C T G P S L N
    exact W.lcmp C.1 C.2.1 (rw_dec hz hr ei rfl rfl (by decide)) (hg _ _ _ _ _ h p e R s m args below meth c cells slots Z H locs ls C T G P S L N)
  · exact h.elim
theorem v_lshl (hz : y < 229) (hr : row y pc = some r) (hg : Gk u y K go) (ei : r.1 = .lshl) (h : vi u go K y pc r lv st hi hl) : Wp u y pc lv st hi hl K := by
  simp only [vi, ei] at h
  unfold b1 at h
  split at h
  · unfold l1 at h
    split at h
    · intro p e R s m args below meth c cells slots Z H locs ls C T G P S L N
      exact lv_lshl C.1 C.2.1 (rw_dec hz hr ei rfl rfl (by decide)) rfl (hg _ _ _ _ _ h p e R s m args below meth c cells slots Z H locs ls C T G P S L N)
    · exact h.elim
  · exact h.elim
theorem v_i2l (hz : y < 229) (hr : row y pc = some r) (hg : Gk u y K go) (ei : r.1 = .i2l) (h : vi u go K y pc r lv st hi hl) : Wp u y pc lv st hi hl K := by
  simp only [vi, ei] at h
  unfold b1 at h
  split at h
  · intro p e R s m args below meth c cells slots Z H locs ls C T G P S L N
    exact lv_i2l C.1 C.2.1 (rw_dec hz hr ei rfl rfl (by decide)) rfl (hg _ _ _ _ _ h p e R s m args below meth c cells slots Z H locs ls C T G P S L N)
  · exact h.elim
theorem v_l2i (hz : y < 229) (hr : row y pc = some r) (hg : Gk u y K go) (ei : r.1 = .l2i) (h : vi u go K y pc r lv st hi hl) : Wp u y pc lv st hi hl K := by
  simp only [vi, ei] at h
  unfold l1 at h
  split at h
  · intro p e R s m args below meth c cells slots Z H locs ls C T G P S L N
    exact lv_l2i C.1 C.2.1 (rw_dec hz hr ei rfl rfl (by decide)) rfl (hg _ _ _ _ _ h p e R s m args below meth c cells slots Z H locs ls C T G P S L N)
  · exact h.elim
theorem v_i2b (hz : y < 229) (hr : row y pc = some r) (hg : Gk u y K go) (ei : r.1 = .i2b) (h : vi u go K y pc r lv st hi hl) : Wp u y pc lv st hi hl K := by
  simp only [vi, ei] at h
  unfold b1 at h
  split at h
  · intro p e R s m args below meth c cells slots Z H locs ls C T G P S L N
    exact lv_i2b C.1 C.2.1 (rw_dec hz hr ei rfl rfl (by decide)) rfl (hg _ _ _ _ _ h p e R s m args below meth c cells slots Z H locs ls C T G P S L N)
  · exact h.elim
theorem v_i2s (hz : y < 229) (hr : row y pc = some r) (hg : Gk u y K go) (ei : r.1 = .i2s) (h : vi u go K y pc r lv st hi hl) : Wp u y pc lv st hi hl K := by
  simp only [vi, ei] at h
  unfold b1 at h
  split at h
  · intro p e R s m args below meth c cells slots Z H locs ls C T G P S L N
    exact lv_i2s C.1 C.2.1 (rw_dec hz hr ei rfl rfl (by decide)) rfl (hg _ _ _ _ _ h p e R s m args below meth c cells slots Z H locs ls C T G P S L N)
  · exact h.elim
theorem v_i2c (hz : y < 229) (hr : row y pc = some r) (hg : Gk u y K go) (ei : r.1 = .i2c) (h : vi u go K y pc r lv st hi hl) : Wp u y pc lv st hi hl K := by
  simp only [vi, ei] at h
  unfold b1 at h
  split at h
  · intro p e R s m args below meth c cells slots Z H locs ls C T G P S L N
    exact lv_i2c C.1 C.2.1 (rw_dec hz hr ei rfl rfl (by decide)) rfl (hg _ _ _ _ _ h p e R s m args below meth c cells slots Z H locs ls C T G P S L N)
  · exact h.elim
theorem v_dup (hz : y < 229) (hr : row y pc = some r) (hg : Gk u y K go) (ei : r.1 = .dup) (h : vi u go K y pc r lv st hi hl) : Wp u y pc lv st hi hl K := by
  simp only [vi, ei] at h
  split at h
  · split at h
    · rename_i hc
      intro p e R s m args below meth c cells slots Z H locs ls C T G P S L N
      exact lv_dup C.1 C.2.1 (rw_dec hz hr ei rfl rfl (by decide)) (by rw [tv_cat C.2.2.2.2.2.2.1.2.2.2.2.2.2.2.2]; exact hc) (hg _ _ _ _ _ h p e R s m args below meth c cells slots Z H locs ls C T G P S L N)
    · exact h.elim
  · exact h.elim
theorem v_pop (hz : y < 229) (hr : row y pc = some r) (hg : Gk u y K go) (ei : r.1 = .pop) (h : vi u go K y pc r lv st hi hl) : Wp u y pc lv st hi hl K := by
  simp only [vi, ei] at h
  split at h
  · split at h
    · rename_i hc
      intro p e R s m args below meth c cells slots Z H locs ls C T G P S L N
      exact lv_pop C.1 C.2.1 (rw_dec hz hr ei rfl rfl (by decide)) (by rw [tv_cat C.2.2.2.2.2.2.1.2.2.2.2.2.2.2.2]; exact hc) (hg _ _ _ _ _ h p e R s m args below meth c cells slots Z H locs ls C T G P S L N)
    · exact h.elim
  · exact h.elim
theorem v_pop2 (hz : y < 229) (hr : row y pc = some r) (hg : Gk u y K go) (ei : r.1 = .pop2) (h : vi u go K y pc r lv st hi hl) : Wp u y pc lv st hi hl K := by
  simp only [vi, ei] at h
  split at h
  · split at h
    · rename_i hc
      intro p e R s m args below meth c cells slots Z H locs ls C T G P S L N
      exact lv_pop2_2 C.1 C.2.1 (rw_dec hz hr ei rfl rfl (by decide)) (by rw [tv_cat C.2.2.2.2.2.2.1.2.2.2.2.2.2.2.2]; exact hc) (hg _ _ _ _ _ h p e R s m args below meth c cells slots Z H locs ls C T G P S L N)
    · exact h.elim
  · exact h.elim
theorem v_dup2 (hz : y < 229) (hr : row y pc = some r) (hg : Gk u y K go) (ei : r.1 = .dup2) (h : vi u go K y pc r lv st hi hl) : Wp u y pc lv st hi hl K := by
  simp only [vi, ei] at h
  split at h
  · split at h
    · rename_i hc
      intro p e R s m args below meth c cells slots Z H locs ls C T G P S L N
      exact lv_dup2_11 C.1 C.2.1 (rw_dec hz hr ei rfl rfl (by decide)) (by rw [tv_cat C.2.2.2.2.2.2.1.2.2.2.2.2.2.2.2]; exact hc.1) (by rw [tv_cat C.2.2.2.2.2.2.1.2.2.2.2.2.2.2.2]; exact hc.2) (hg _ _ _ _ _ h p e R s m args below meth c cells slots Z H locs ls C T G P S L N)
    · exact h.elim
  · exact h.elim
theorem v_icmp_eq {off : Int} (hz : y < 229) (hr : row y pc = some r) (hg : Gk u y K go) (ei : r.1 = .if_icmp .eq off) (h : vi u go K y pc r lv st hi hl) : Wp u y pc lv st hi hl K := by
  simp only [vi, ei] at h
  unfold b2 at h
  split at h
  · intro p e R s m args below meth c cells slots Z H locs ls C T G P S L N
    exact lv_icmp_eq C.1 C.2.1 (rw_dec hz hr ei rfl rfl (by decide)) (rw_tgt hz hr (Or.inl ⟨_, ei⟩)) (fun q => hg _ _ _ _ _ (h.1 q) p e R s m args below meth c cells slots Z H locs ls C T G P S L N) (fun q => hg _ _ _ _ _ (h.2 q) p e R s m args below meth c cells slots Z H locs ls C T G P S L N)
  · exact h.elim
theorem v_if_eq {off : Int} (hz : y < 229) (hr : row y pc = some r) (hg : Gk u y K go) (ei : r.1 = .ifCond .eq off) (h : vi u go K y pc r lv st hi hl) : Wp u y pc lv st hi hl K := by
  simp only [vi, ei] at h
  unfold b1 at h
  split at h
  · intro p e R s m args below meth c cells slots Z H locs ls C T G P S L N
    exact lv_if_eq C.1 C.2.1 (rw_dec hz hr ei rfl rfl (by decide)) (rw_tgt hz hr (Or.inr (Or.inl ⟨_, ei⟩))) (fun q => hg _ _ _ _ _ (h.1 q) p e R s m args below meth c cells slots Z H locs ls C T G P S L N) (fun q => hg _ _ _ _ _ (h.2 q) p e R s m args below meth c cells slots Z H locs ls C T G P S L N)
  · exact h.elim
theorem v_icmp_ne {off : Int} (hz : y < 229) (hr : row y pc = some r) (hg : Gk u y K go) (ei : r.1 = .if_icmp .ne off) (h : vi u go K y pc r lv st hi hl) : Wp u y pc lv st hi hl K := by
  simp only [vi, ei] at h
  unfold b2 at h
  split at h
  · intro p e R s m args below meth c cells slots Z H locs ls C T G P S L N
    exact lv_icmp_ne C.1 C.2.1 (rw_dec hz hr ei rfl rfl (by decide)) (rw_tgt hz hr (Or.inl ⟨_, ei⟩)) (fun q => hg _ _ _ _ _ (h.1 q) p e R s m args below meth c cells slots Z H locs ls C T G P S L N) (fun q => hg _ _ _ _ _ (h.2 q) p e R s m args below meth c cells slots Z H locs ls C T G P S L N)
  · exact h.elim
theorem v_if_ne {off : Int} (hz : y < 229) (hr : row y pc = some r) (hg : Gk u y K go) (ei : r.1 = .ifCond .ne off) (h : vi u go K y pc r lv st hi hl) : Wp u y pc lv st hi hl K := by
  simp only [vi, ei] at h
  unfold b1 at h
  split at h
  · intro p e R s m args below meth c cells slots Z H locs ls C T G P S L N
    exact lv_if_ne C.1 C.2.1 (rw_dec hz hr ei rfl rfl (by decide)) (rw_tgt hz hr (Or.inr (Or.inl ⟨_, ei⟩))) (fun q => hg _ _ _ _ _ (h.1 q) p e R s m args below meth c cells slots Z H locs ls C T G P S L N) (fun q => hg _ _ _ _ _ (h.2 q) p e R s m args below meth c cells slots Z H locs ls C T G P S L N)
  · exact h.elim
theorem v_icmp_lt {off : Int} (hz : y < 229) (hr : row y pc = some r) (hg : Gk u y K go) (ei : r.1 = .if_icmp .lt off) (h : vi u go K y pc r lv st hi hl) : Wp u y pc lv st hi hl K := by
  simp only [vi, ei] at h
  unfold b2 at h
  split at h
  · intro p e R s m args below meth c cells slots Z H locs ls C T G P S L N
    exact lv_icmp_lt C.1 C.2.1 (rw_dec hz hr ei rfl rfl (by decide)) (rw_tgt hz hr (Or.inl ⟨_, ei⟩)) (fun q => hg _ _ _ _ _ (h.1 q) p e R s m args below meth c cells slots Z H locs ls C T G P S L N) (fun q => hg _ _ _ _ _ (h.2 q) p e R s m args below meth c cells slots Z H locs ls C T G P S L N)
  · exact h.elim
theorem v_if_lt {off : Int} (hz : y < 229) (hr : row y pc = some r) (hg : Gk u y K go) (ei : r.1 = .ifCond .lt off) (h : vi u go K y pc r lv st hi hl) : Wp u y pc lv st hi hl K := by
  simp only [vi, ei] at h
  unfold b1 at h
  split at h
  · intro p e R s m args below meth c cells slots Z H locs ls C T G P S L N
    exact lv_if_lt C.1 C.2.1 (rw_dec hz hr ei rfl rfl (by decide)) (rw_tgt hz hr (Or.inr (Or.inl ⟨_, ei⟩))) (fun q => hg _ _ _ _ _ (h.1 q) p e R s m args below meth c cells slots Z H locs ls C T G P S L N) (fun q => hg _ _ _ _ _ (h.2 q) p e R s m args below meth c cells slots Z H locs ls C T G P S L N)
  · exact h.elim
theorem v_icmp_ge {off : Int} (hz : y < 229) (hr : row y pc = some r) (hg : Gk u y K go) (ei : r.1 = .if_icmp .ge off) (h : vi u go K y pc r lv st hi hl) : Wp u y pc lv st hi hl K := by
  simp only [vi, ei] at h
  unfold b2 at h
  split at h
  · intro p e R s m args below meth c cells slots Z H locs ls C T G P S L N
    exact lv_icmp_ge C.1 C.2.1 (rw_dec hz hr ei rfl rfl (by decide)) (rw_tgt hz hr (Or.inl ⟨_, ei⟩)) (fun q => hg _ _ _ _ _ (h.1 q) p e R s m args below meth c cells slots Z H locs ls C T G P S L N) (fun q => hg _ _ _ _ _ (h.2 q) p e R s m args below meth c cells slots Z H locs ls C T G P S L N)
  · exact h.elim
theorem v_if_ge {off : Int} (hz : y < 229) (hr : row y pc = some r) (hg : Gk u y K go) (ei : r.1 = .ifCond .ge off) (h : vi u go K y pc r lv st hi hl) : Wp u y pc lv st hi hl K := by
  simp only [vi, ei] at h
  unfold b1 at h
  split at h
  · intro p e R s m args below meth c cells slots Z H locs ls C T G P S L N
    exact lv_if_ge C.1 C.2.1 (rw_dec hz hr ei rfl rfl (by decide)) (rw_tgt hz hr (Or.inr (Or.inl ⟨_, ei⟩))) (fun q => hg _ _ _ _ _ (h.1 q) p e R s m args below meth c cells slots Z H locs ls C T G P S L N) (fun q => hg _ _ _ _ _ (h.2 q) p e R s m args below meth c cells slots Z H locs ls C T G P S L N)
  · exact h.elim
theorem v_icmp_gt {off : Int} (hz : y < 229) (hr : row y pc = some r) (hg : Gk u y K go) (ei : r.1 = .if_icmp .gt off) (h : vi u go K y pc r lv st hi hl) : Wp u y pc lv st hi hl K := by
  simp only [vi, ei] at h
  unfold b2 at h
  split at h
  · intro p e R s m args below meth c cells slots Z H locs ls C T G P S L N
    exact lv_icmp_gt C.1 C.2.1 (rw_dec hz hr ei rfl rfl (by decide)) (rw_tgt hz hr (Or.inl ⟨_, ei⟩)) (fun q => hg _ _ _ _ _ (h.1 q) p e R s m args below meth c cells slots Z H locs ls C T G P S L N) (fun q => hg _ _ _ _ _ (h.2 q) p e R s m args below meth c cells slots Z H locs ls C T G P S L N)
  · exact h.elim
theorem v_if_gt {off : Int} (hz : y < 229) (hr : row y pc = some r) (hg : Gk u y K go) (ei : r.1 = .ifCond .gt off) (h : vi u go K y pc r lv st hi hl) : Wp u y pc lv st hi hl K := by
  simp only [vi, ei] at h
  unfold b1 at h
  split at h
  · intro p e R s m args below meth c cells slots Z H locs ls C T G P S L N
    exact lv_if_gt C.1 C.2.1 (rw_dec hz hr ei rfl rfl (by decide)) (rw_tgt hz hr (Or.inr (Or.inl ⟨_, ei⟩))) (fun q => hg _ _ _ _ _ (h.1 q) p e R s m args below meth c cells slots Z H locs ls C T G P S L N) (fun q => hg _ _ _ _ _ (h.2 q) p e R s m args below meth c cells slots Z H locs ls C T G P S L N)
  · exact h.elim
theorem v_icmp_le {off : Int} (hz : y < 229) (hr : row y pc = some r) (hg : Gk u y K go) (ei : r.1 = .if_icmp .le off) (h : vi u go K y pc r lv st hi hl) : Wp u y pc lv st hi hl K := by
  simp only [vi, ei] at h
  unfold b2 at h
  split at h
  · intro p e R s m args below meth c cells slots Z H locs ls C T G P S L N
    exact lv_icmp_le C.1 C.2.1 (rw_dec hz hr ei rfl rfl (by decide)) (rw_tgt hz hr (Or.inl ⟨_, ei⟩)) (fun q => hg _ _ _ _ _ (h.1 q) p e R s m args below meth c cells slots Z H locs ls C T G P S L N) (fun q => hg _ _ _ _ _ (h.2 q) p e R s m args below meth c cells slots Z H locs ls C T G P S L N)
  · exact h.elim
theorem v_if_le {off : Int} (hz : y < 229) (hr : row y pc = some r) (hg : Gk u y K go) (ei : r.1 = .ifCond .le off) (h : vi u go K y pc r lv st hi hl) : Wp u y pc lv st hi hl K := by
  simp only [vi, ei] at h
  unfold b1 at h
  split at h
  · intro p e R s m args below meth c cells slots Z H locs ls C T G P S L N
    exact lv_if_le C.1 C.2.1 (rw_dec hz hr ei rfl rfl (by decide)) (rw_tgt hz hr (Or.inr (Or.inl ⟨_, ei⟩))) (fun q => hg _ _ _ _ _ (h.1 q) p e R s m args below meth c cells slots Z H locs ls C T G P S L N) (fun q => hg _ _ _ _ _ (h.2 q) p e R s m args below meth c cells slots Z H locs ls C T G P S L N)
  · exact h.elim
theorem v_goto {off : Int} (hz : y < 229) (hr : row y pc = some r) (hg : Gk u y K go) (ei : r.1 = .goto off) (h : vi u go K y pc r lv st hi hl) : Wp u y pc lv st hi hl K := by
  simp only [vi, ei] at h
  intro p e R s m args below meth c cells slots Z H locs ls C T G P S L N
  exact lv_goto C.1 C.2.1 (rw_dec hz hr ei rfl rfl (by decide)) (rw_tgt hz hr (Or.inr (Or.inr ei))) (hg _ _ _ _ _ h p e R s m args below meth c cells slots Z H locs ls C T G P S L N)
end VV
