def inN (u : UV) (N : Nat) (s : State) : Prop := va_K (xD u) zCl (tyL u) s ∧ (∀ h, h < 63 → xA u h = N + h) ∧ vk_S 16 lenS bytS (fun i => xA u (100 + i)) (fun i => xA u (200 + i)) (fun q => N ≤ q) s s.heap ∧ (∀ q ∈ SLT, vk_R (cN (q.1 / 10000)) (q.1 % 10000) (stL.getD q.2 "") (xA u (100 + q.2)) s) ∧ (∀ q ∈ NSL, q.2.2 = true → va_Nw (.methodLinkNest (cN (q.1 / 10000)) (q.1 % 10000) (nY q.2.1) "EarRows") s) ∧ (va_AO "EarRows$Gleaner" s ∧ va_AO "EarRows$Sheet" s ∧ va_AO "java/lang/String" s) ∧ (xF u).category = 1
theorem inN.mv {u : UV} {N : Nat} {s U : State} (h : inN u N s) (hk : ∀ q : Nat, q < s.heap.size → ¬ N ≤ q → U.heap[q]? = s.heap[q]?) (hA : s.vm.Alike U.vm)
    (hR : ∀ own k tx a, vk_R own k tx a s → vk_R own k tx a U) (hN : ∀ a i x h, va_Nw (.methodLinkNest a i x h) s → va_Nw (.methodLinkNest a i x h) U) : inN u N U := by
  obtain ⟨h1, h2, h6, h9, h10, ⟨h11, h12, h13⟩, h14⟩ := h
  exact ⟨va_K.moved hA h1, h2, (h6.kept hk).moved hA, fun q hq => hR _ _ _ _ (h9 q hq), fun q hq e => hN _ _ _ _ (h10 q hq e), ⟨h11.moved hA, h12.moved hA, h13.moved hA⟩, h14⟩
theorem inN.go {u : UV} {N : Nat} {s U : State} {H : Heap} {locs : List Loc} (h : inN u N s) (hS : va_S (fun q => N ≤ q) s.heap H locs) (hU : U.heap = H) (hW : s.WarmedH U.vm) : inN u N U := by
  subst hU
  exact h.mv hS.2.1 hW.alike (fun _ _ _ _ q => q.warm hW) (fun _ _ _ _ q => va_Nw.warmM hW q)
theorem inN.blind {u : UV} {N : Nat} {U : State} (h : inN u N U) (g : JFrame) (mk : MethodId) (a : Array Value) : inN u N (U.calling g mk a) :=
  h.mv (fun _ _ _ => rfl) (Vm.Alike.refl U.vm) (fun _ _ _ _ q => vk_R.same rfl q) (fun _ _ _ _ q => va_Nw.same rfl rfl q)
def wsN (z : Nat) : List Cond := Cond.code (nY z) (nB z) (nL z) none :: TBL
def rmN (z : Nat) : Room := { frames := nK z, cells := nCc z, slots := nCs z, locals := 37 * nK z }
def pcN (u : UV) (N : Nat) (as : List Value) (ws : List NC) : Array Value → State → Prop := fun a U => a = (as.map (tv u)).toArray ∧ inN u N U ∧ U.heap.size = N + ws.length ∧ va_P (xD u) zCl (nw u ws) U.heap
def qcN (u : UV) (N : Nat) (ws : List NC) : Array Value → State → Outcome → State → Prop := fun _ st oc t => (oc = .returned none ∧ t.heap.size = N + ws.length ∧ va_P (xD u) zCl (nw u ws) t.heap) ∧ va_F (fun q => N ≤ q) st t
def NCall (u : UV) (N z : Nat) (as : List Value) (ws ws' : List NC) : Prop := Met u.1 (nY z) (wsN z) (rmN z) (pcN u N as ws) (qcN u N ws') (nCc z) (nCs z) (fun q => N ≤ q)
def ncx (u : UV) (N z : Nat) (p : Program) (R : Room) (s : State) (m : MethodId) (args : Array Value) (meth : Method) (cd : Code) : Prop :=
  p.tables.exec = Jvm.exec ∧ cd.code = nB z ∧ cd.maxLocals = nL z ∧ s.vm.findClass (cN (nO z)) = some m.cls ∧ (∀ w ∈ TBL, w.before args s = true) ∧ inN u N s ∧ meth.name = "<init>" ∧ nK z ≤ R.frames ∧ 37 * nK z ≤ R.locals ∧ nCc z ≤ R.cells ∧ nCs z ≤ R.slots ∧ (∀ q, s.heap.size ≤ q → N ≤ q)
def nrt (u : UV) (N z : Nat) (p : Program) (e : Env) (R : Room) (s : State) (m : MethodId) (args : Array Value) (below : List Frame) (meth : Method) (cd : Code) (Z : State → Prop) (ws' : List NC) : Prop :=
  ∀ (H : Heap) (locs : List Loc) (ls : Array Slot) (pc c sl : Nat), c ≤ nCc z → sl ≤ nCs z → H.size = N + ws'.length → va_P (xD u) zCl (nw u ws') H → va_S (fun q => N ≤ q) s.heap H locs → decode (nB z) pc = .ok (.return_, 1) → W p u.1 e R s m args below meth cd H locs c sl Z (F0 m pc ls [])
def NW (u : UV) (N z pc : Nat) (lv st : List Value) (ws : List NC) (c sl : Nat) (ws' : List NC) : Prop :=
  ∀ (p : Program) (e : Env) (R : Room) (s : State) (m : MethodId) (args : Array Value) (below : List Frame) (meth : Method) (cd : Code) (Z : State → Prop) (H : Heap) (locs : List Loc) (ls : Array Slot),
    ncx u N z p R s m args meth cd → nrt u N z p e R s m args below meth cd Z ws' → H.size = N + ws.length → ws.length ≤ 63 → va_P (xD u) zCl (nw u ws) H → va_S (fun q => N ≤ q) s.heap H locs → lv_has ls (nL z) (asl u lv) → lv.length = nL z → (∀ v ∈ lv, v.category = 1) →
    W p u.1 e R s m args below meth cd H locs c sl Z (F0 m pc ls (st.map (tv u)))
def ilen2 (ins : Instr) : Nat := match ins with
  | .new _ => 3
  | .anewarray _ => 3
  | .newarray _ => 2
  | .invokespecial _ => 3
  | i => ilen i
theorem nl_w : (List.range 8).all (fun z => (nW z).all (fun q => ilen2 q.2.1 == q.2.2.1)) = true := by decide +kernel
theorem nd_w {z : Nat} (h : z < 8) : (nW z).all (fun q => decide (decode (nB z) q.1 = .ok (q.2.1, q.2.2.1)) && (match q.2.1 with
  | .if_icmp _ off => decide ((q.1 : Int) + off = (q.2.2.2.1 : Int))
  | .goto off => decide ((q.1 : Int) + off = (q.2.2.2.1 : Int))
  | _ => true)) = true := by
  match z, h with
  | 0, _ => exact nd0
  | 1, _ => exact nd1
  | 2, _ => exact nd2
  | 3, _ => exact nd3
  | 4, _ => exact nd4
  | 5, _ => exact nd5
  | 6, _ => exact nd6
  | 7, _ => exact nd7
theorem nrow_mem {z pc : Nat} {r : Row} (h : nrow z pc = some r) : (pc, r) ∈ nW z := by
  unfold nrow at h
  generalize nW z = l at h
  induction l with
  | nil => simp at h
  | cons a l ih =>
    obtain ⟨a1, a2⟩ := a
    simp only [List.lookup] at h
    split at h
    · rename_i e
      cases h
      rw [eq_of_beq e]
      exact List.mem_cons_self
    · exact List.mem_cons_of_mem _ (ih h)
theorem n_dec {z pc : Nat} {r : Row} {ins : Instr} {n : Nat} (hz : z < 8) (hr : nrow z pc = some r) (e : r.1 = ins) (hn : ilen2 ins = n) : decode (nB z) pc = .ok (ins, n) := by
  have h1 := List.all_eq_true.mp (nd_w hz) _ (nrow_mem hr)
  rw [Bool.and_eq_true, decide_eq_true_eq] at h1
  have h2 := List.all_eq_true.mp (List.all_eq_true.mp nl_w z (List.mem_range.mpr hz)) _ (nrow_mem hr)
  rw [beq_iff_eq] at h2
  dsimp only at h1 h2
  rw [← hn, ← e, h2]
  exact h1.1
theorem n_tgt {z pc : Nat} {r : Row} {off : Int} (hz : z < 8) (hr : nrow z pc = some r) (e : (∃ c, r.1 = .if_icmp c off) ∨ r.1 = .goto off) : (pc : Int) + off = (r.2.2.1 : Int) := by
  have h1 := List.all_eq_true.mp (nd_w hz) _ (nrow_mem hr)
  rw [Bool.and_eq_true] at h1
  obtain ⟨i, l, t, sw⟩ := r
  dsimp only at e h1 ⊢
  rcases e with ⟨c, rfl⟩ | rfl
  · exact of_decide_eq_true h1.2
  · exact of_decide_eq_true h1.2
abbrev Gn (u : UV) (N z : Nat) (ws' : List NC) (go : Nat → List Value → List Value → List NC → Nat → Nat → Option (List NC)) : Prop := ∀ pc lv st ws c s, go pc lv st ws c s = some ws' → NW u N z pc lv st ws c s ws'
theorem lv_upN {u : UV} (hF : (xF u).category = 1) {ls : Array Slot} {n i : Nat} {lv : List Value} {v : Value} (hv : v ≠ .null) (hg : ∀ v ∈ lv, v.category = 1) (hi : i < lv.length)
    (h : lv_has ls n ((i, tv u v) :: (asl u lv).filter (fun q => !(q.1 == i) && !(q.1 + 1 == i && q.2.category == 2)))) : lv_has ls n (asl u (lv.set i v)) := by
  refine ⟨h.1, h.2.1, fun q hq => ?_⟩
  obtain ⟨j, w, h1, h2, rfl⟩ := mem_asl.mp hq
  by_cases hj : j = i
  · subst hj
    rw [List.getElem?_set_self hi] at h1
    cases h1
    exact h.2.2 _ List.mem_cons_self
  · rw [List.getElem?_set_ne (Ne.symm hj)] at h1
    refine h.2.2 _ (List.mem_cons_of_mem _ (List.mem_filter.mpr ⟨mem_asl.mpr ⟨j, w, h1, h2, rfl⟩, ?_⟩))
    have hc : ¬ (tv u w).category = 2 := by
      rw [tv_cat hF, hg w (List.mem_of_getElem? h1)]
      decide
    simp only [Bool.and_eq_true, Bool.not_eq_true', beq_eq_false_iff_ne, Bool.and_eq_false_iff, ne_eq]
    exact ⟨hj, Or.inr hc⟩
section NN
variable {u : UV} {N z pc : Nat} {r : Row} {lv st : List Value} {ws ws' : List NC} {c s : Nat} {go : Nat → List Value → List Value → List NC → Nat → Nat → Option (List NC)} {call : Nat → List Value → List NC → Option (List NC)}
theorem m_aload_n {i : Fin 4} (hz : z < 8) (hr : nrow z pc = some r) (hg : Gn u N z ws' go) (ei : r.1 = .aload_n i) (h : nst go call z pc r lv st ws c s = some ws') : NW u N z pc lv st ws c s ws' := by
  simp only [nst, ei] at h
  split at h
  · rename_i x hx
    intro p e R s0 m args below meth cd Z H locs ls C T Hz Hn P S L N1 G
    exact lv_aload_n C.1 C.2.1 (n_dec hz hr ei rfl) rfl (lv_get L hx (by simp)) (hg _ _ _ _ _ _ h p e R s0 m args below meth cd Z H locs ls C T Hz Hn P S L N1 G)
  · cases h
theorem m_iload_n {i : Fin 4} (hz : z < 8) (hr : nrow z pc = some r) (hg : Gn u N z ws' go) (ei : r.1 = .iload_n i) (h : nst go call z pc r lv st ws c s = some ws') : NW u N z pc lv st ws c s ws' := by
  simp only [nst, ei] at h
  split at h
  · rename_i x hx
    intro p e R s0 m args below meth cd Z H locs ls C T Hz Hn P S L N1 G
    exact lv_iload_n C.1 C.2.1 (n_dec hz hr ei rfl) rfl (lv_get L hx (by simp)) (hg _ _ _ _ _ _ h p e R s0 m args below meth cd Z H locs ls C T Hz Hn P S L N1 G)
  · cases h
theorem m_istore_n {i : Fin 4} (hz : z < 8) (hr : nrow z pc = some r) (hg : Gn u N z ws' go) (ei : r.1 = .istore_n i) (h : nst go call z pc r lv st ws c s = some ws') : NW u N z pc lv st ws c s ws' := by
  simp only [nst, ei] at h
  split at h
  · rename_i x s1
    split at h
    · rename_i hc
      intro p e R s0 m args below meth cd Z H locs ls C T Hz Hn P S L N1 G
      exact lv_istore_n C.1 C.2.1 (n_dec hz hr ei rfl) rfl L (by rw [← N1]; exact hc) rfl (fun ls2 h2 => hg _ _ _ _ _ _ h p e R s0 m args below meth cd Z H locs ls2 C T Hz Hn P S (lv_upN C.2.2.2.2.2.1.2.2.2.2.2.2 (v := .int x) (by simp) G hc h2) (by rw [List.length_set]; exact N1) (fun v hv => (List.mem_or_eq_of_mem_set hv).elim (G v) (fun q => by rw [q]; rfl)))
    · cases h
  · cases h
theorem m_iinc {i : Nat} {n : Int} (hz : z < 8) (hr : nrow z pc = some r) (hg : Gn u N z ws' go) (ei : r.1 = .iinc i n) (h : nst go call z pc r lv st ws c s = some ws') : NW u N z pc lv st ws c s ws' := by
  simp only [nst, ei] at h
  split at h
  · rename_i x hx
    intro p e R s0 m args below meth cd Z H locs ls C T Hz Hn P S L N1 G
    have hc : i < lv.length := (List.getElem?_eq_some_iff.mp hx).1
    obtain ⟨k, hk⟩ := List.getElem?_of_mem (mem_asl.mpr ⟨i, .int x, hx, by simp, rfl⟩ : (i, tv u (.int x)) ∈ asl u lv)
    exact lv_iinc C.1 C.2.1 (n_dec hz hr ei rfl) L (k := k) hk rfl (by rw [← N1]; exact hc) rfl (fun ls2 h2 => hg _ _ _ _ _ _ h p e R s0 m args below meth cd Z H locs ls2 C T Hz Hn P S (lv_upN C.2.2.2.2.2.1.2.2.2.2.2.2 (v := .int (x + Int32.ofInt n)) (by simp) G hc h2) (by rw [List.length_set]; exact N1) (fun v hv => (List.mem_or_eq_of_mem_set hv).elim (G v) (fun q => by rw [q]; rfl)))
  · cases h
theorem m_iconst {n : Int} (hz : z < 8) (hr : nrow z pc = some r) (hg : Gn u N z ws' go) (ei : r.1 = .iconst n) (h : nst go call z pc r lv st ws c s = some ws') : NW u N z pc lv st ws c s ws' := by
  simp only [nst, ei] at h
  intro p e R s0 m args below meth cd Z H locs ls C T Hz Hn P S L N1 G
  exact lv_iconst C.1 C.2.1 (n_dec hz hr ei rfl) rfl (hg _ _ _ _ _ _ h p e R s0 m args below meth cd Z H locs ls C T Hz Hn P S L N1 G)
theorem m_bipush {n : Int} (hz : z < 8) (hr : nrow z pc = some r) (hg : Gn u N z ws' go) (ei : r.1 = .bipush n) (h : nst go call z pc r lv st ws c s = some ws') : NW u N z pc lv st ws c s ws' := by
  simp only [nst, ei] at h
  intro p e R s0 m args below meth cd Z H locs ls C T Hz Hn P S L N1 G
  exact lv_bipush C.1 C.2.1 (n_dec hz hr ei rfl) rfl (hg _ _ _ _ _ _ h p e R s0 m args below meth cd Z H locs ls C T Hz Hn P S L N1 G)
theorem m_sipush {n : Int} (hz : z < 8) (hr : nrow z pc = some r) (hg : Gn u N z ws' go) (ei : r.1 = .sipush n) (h : nst go call z pc r lv st ws c s = some ws') : NW u N z pc lv st ws c s ws' := by
  simp only [nst, ei] at h
  intro p e R s0 m args below meth cd Z H locs ls C T Hz Hn P S L N1 G
  exact lv_sipush C.1 C.2.1 (n_dec hz hr ei rfl) rfl (hg _ _ _ _ _ _ h p e R s0 m args below meth cd Z H locs ls C T Hz Hn P S L N1 G)
theorem m_ldc {i : Nat} (hz : z < 8) (hr : nrow z pc = some r) (hg : Gn u N z ws' go) (ei : r.1 = .ldc i) (h : nst go call z pc r lv st ws c s = some ws') : NW u N z pc lv st ws c s ws' := by
  simp only [nst, ei] at h
  split at h
  · rename_i n hn
    split at h
    · rename_i hc
      intro p e R s0 m args below meth cd Z H locs ls C T Hz Hn P S L N1 G
      have hq := C.2.2.2.2.2.1.2.2.2.1 _ (lk_mem hn)
      dsimp only at hq
      rw [(key_d hc.1).1, (key_d hc.1).2] at hq
      exact va_ldcS C.1 C.2.1 C.2.2.2.1 hq (n_dec hz hr ei rfl) (hg _ _ _ _ _ _ h p e R s0 m args below meth cd Z H locs ls C T Hz Hn P S L N1 G)
    · cases h
  · cases h
theorem m_dup (hz : z < 8) (hr : nrow z pc = some r) (hg : Gn u N z ws' go) (ei : r.1 = .dup) (h : nst go call z pc r lv st ws c s = some ws') : NW u N z pc lv st ws c s ws' := by
  simp only [nst, ei] at h
  split at h
  · intro p e R s0 m args below meth cd Z H locs ls C T Hz Hn P S L N1 G
    exact lv_dup C.1 C.2.1 (n_dec hz hr ei rfl) rfl (hg _ _ _ _ _ _ h p e R s0 m args below meth cd Z H locs ls C T Hz Hn P S L N1 G)
  · cases h
theorem m_icmp_ge {off : Int} (hz : z < 8) (hr : nrow z pc = some r) (hg : Gn u N z ws' go) (ei : r.1 = .if_icmp .ge off) (h : nst go call z pc r lv st ws c s = some ws') : NW u N z pc lv st ws c s ws' := by
  simp only [nst, ei] at h
  split at h
  · intro p e R s0 m args below meth cd Z H locs ls C T Hz Hn P S L N1 G
    refine lv_icmp_ge C.1 C.2.1 (n_dec hz hr ei rfl) (n_tgt hz hr (Or.inl ⟨_, ei⟩)) (fun q => ?_) (fun q => ?_)
    · rw [if_pos q] at h
      exact hg _ _ _ _ _ _ h p e R s0 m args below meth cd Z H locs ls C T Hz Hn P S L N1 G
    · rw [if_neg q] at h
      exact hg _ _ _ _ _ _ h p e R s0 m args below meth cd Z H locs ls C T Hz Hn P S L N1 G
  · cases h
theorem m_goto {off : Int} (hz : z < 8) (hr : nrow z pc = some r) (hg : Gn u N z ws' go) (ei : r.1 = .goto off) (h : nst go call z pc r lv st ws c s = some ws') : NW u N z pc lv st ws c s ws' := by
  simp only [nst, ei] at h
  intro p e R s0 m args below meth cd Z H locs ls C T Hz Hn P S L N1 G
  exact lv_goto C.1 C.2.1 (n_dec hz hr ei rfl) (n_tgt hz hr (Or.inr ei)) (hg _ _ _ _ _ _ h p e R s0 m args below meth cd Z H locs ls C T Hz Hn P S L N1 G)
theorem nw_new {c0 : NC} {H H1 : Heap} {H0 : Heap} {locs : List Loc} (hx : ∀ h, h < 63 → xA u h = N + h) (Hz : H.size = N + ws.length) (hl : ws.length < 63) (P : va_P (xD u) zCl (nw u ws) H) (S : va_S (fun q => N ≤ q) H0 H locs) (z1 : H1.size = H.size + 1) (o1 : ∀ q : Nat, q < H.size → H1[q]? = H[q]?) (hc : va_at (xD u) zCl (xA u ws.length, nt u c0) H1) :
    H1.size = N + (ws ++ [c0]).length ∧ (ws ++ [c0]).length ≤ 63 ∧ va_P (xD u) zCl (nw u (ws ++ [c0])) H1 ∧ va_S (fun q => N ≤ q) H0 H1 locs := by
  refine ⟨by rw [z1, Hz, List.length_append]; simp; omega, by rw [List.length_append]; simp; omega, ?_, ⟨Nat.le_trans S.1 (by omega), fun q h1 h2 => (o1 q (Nat.lt_of_lt_of_le h1 S.1)).trans (S.2.1 q h1 h2), S.2.2⟩⟩
  rw [nw_app]
  refine (P.kept (fun k x hx2 => o1 x.1 ((P k x hx2).lt))).app (fun k x hk => ?_)
  have hz2 : k < 1 := (List.getElem?_eq_some_iff.mp hk).1
  rw [show k = 0 by omega] at hk
  cases hk
  exact hc
theorem m_new {i : Nat} (hz : z < 8) (hr : nrow z pc = some r) (hg : Gn u N z ws' go) (ei : r.1 = .new i) (h : nst go call z pc r lv st ws c s = some ws') : NW u N z pc lv st ws c s ws' := by
  simp only [nst, ei] at h
  split at h
  · rename_i ci hci
    split at h
    · rename_i hc
      obtain ⟨c1, c2, c3, c4⟩ := hc
      intro p e R s0 m args below meth cd Z H locs ls C T Hz Hn P S L N1 G
      have hw := nn_w _ (List.mem_map.mpr ⟨_, lk_mem hci, rfl⟩)
      have hb := nn_b _ (lk_mem hci)
      dsimp only at hw hb
      rw [(key_d c1).1, (key_d c1).2] at hw
      obtain ⟨z1, z2, z3, z4, z5, z6⟩ := zC_ok hb
      have hKn := C.2.2.2.2.2.1.1.1 ci _ z1
      rw [z6] at hKn
      have hxs := C.2.2.2.2.2.1.2.1
      refine W.newcK C.1 C.2.1 C.2.2.2.1 (C.2.2.2.2.1 _ (inTBL hw rfl)) (C.2.2.2.2.1 _ (inst_in hb)) (C.2.2.2.2.1 _ (init_in hb)) rfl (n_dec hz hr ei rfl) (Nat.le_trans c3 C.2.2.2.2.2.2.2.2.2.1) (Nat.le_trans c4 C.2.2.2.2.2.2.2.2.2.2.1) hKn.2.1 rfl fun H1 kC hkC e1 zz o1 => ?_
      have hob := u_born (zty ci) C.2.2.2.2.1 z2 (by rw [z6]; exact hKn) hkC e1 z3
      have hat : va_at (xD u) zCl (xA u ws.length, nt u (ci, df ci)) H1 := by
        unfold nt
        rw [if_pos hb, hxs _ c2, ← Hz]
        refine ⟨_, z1, hob.to (fun j hj => ?_)⟩
        rw [z5] at hj
        obtain ⟨q1, q2⟩ := df_ok ci hb j hj
        rw [q1]
        unfold vp_V
        rw [List.getD_eq_getElem?_getD, List.getD_eq_getElem?_getD, List.getElem?_map]
        rw [List.getD_eq_getElem?_getD] at q2
        cases hd : (df ci)[j]? with
        | none => rfl
        | some v =>
          rw [hd] at q2
          rcases q2 with q2 | q2
          · have q2 : v = .null := q2
            subst q2; rfl
          · have q2 : v = .int 0 := q2
            subst q2; rfl
      obtain ⟨a1, a2, a3, a4⟩ := nw_new hxs Hz c2 P S zz o1 hat
      have hfin := hg _ _ _ _ _ _ h p e R s0 m args below meth cd Z H1 locs ls C T a1 a2 a3 a4 L N1 G
      have ea : (tv u (.ref ws.length)) = .ref H.size := by
        show Value.ref (xA u ws.length) = _
        rw [hxs _ c2, ← Hz]
      rw [List.map_cons, ea] at hfin
      exact hfin
    · cases h
  · cases h
theorem gI_rep (n : Nat) : ∀ cA : ClassId, vp_cell cA (n, .inl (gI (List.replicate n (.int 0)))) = arrV cA n (fun _ => .int 0) := by
  intro cA
  rw [vp_cell_i]
  congr 1
  funext j
  unfold gI
  rw [List.getD_eq_getElem?_getD]
  cases h : (List.replicate n (Value.int 0))[j]? with
  | none => rfl
  | some v =>
    have := (List.mem_replicate.mp (List.mem_of_getElem? h)).2
    subst this
    rfl
theorem gL_rep (n : Nat) : ∀ cA : ClassId, vp_cell cA (n, .inr (.inl (gL (List.replicate n (.long 0))))) = arrV cA n (fun _ => .long 0) := by
  intro cA
  rw [vp_cell_l]
  congr 1
  funext j
  unfold gL
  rw [List.getD_eq_getElem?_getD]
  cases h : (List.replicate n (Value.long 0))[j]? with
  | none => rfl
  | some v =>
    have := (List.mem_replicate.mp (List.mem_of_getElem? h)).2
    subst this
    rfl
theorem gR_rep (n : Nat) : ∀ cA : ClassId, vp_cell cA (n, .inr (.inr (.inr (.inr (gR u (List.replicate n .null)))))) = arrV cA n (fun _ => .null) := by
  intro cA
  rw [vp_cell_q]
  congr 1
  funext j
  unfold gR
  rw [List.getD_eq_getElem?_getD]
  cases h : (List.replicate n Value.null)[j]? with
  | none => rfl
  | some v =>
    have := (List.mem_replicate.mp (List.mem_of_getElem? h)).2
    subst this
    rfl
theorem m_newarray {t : ArrayType} (hz : z < 8) (hr : nrow z pc = some r) (hg : Gn u N z ws' go) (ei : r.1 = .newarray t) (h : nst go call z pc r lv st ws c s = some ws') : NW u N z pc lv st ws c s ws' := by
  simp only [nst, ei] at h
  split at h
  · rename_i n s1
    split at h
    · rename_i hc
      obtain ⟨c1, c2, c3, c4, c5⟩ := hc
      intro p e R s0 m args below meth cd Z H locs ls C T Hz Hn P S L N1 G
      have hxs := C.2.2.2.2.2.1.2.1
      have ea : (tv u (.ref ws.length)) = .ref H.size := by
        show Value.ref (xA u ws.length) = _
        rw [hxs _ c3, ← Hz]
      split at h
      · refine va_newaK (atype := .int) C.1 C.2.1 (C.2.2.2.2.1 _ narr0) rfl (n_dec hz hr ei rfl) rfl c1 rfl (Nat.le_trans (Nat.mul_le_mul_right _ c2) (by decide)) (Nat.le_trans c4 C.2.2.2.2.2.2.2.2.2.1) (Nat.le_trans c5 C.2.2.2.2.2.2.2.2.2.2.1) rfl fun H1 cA e1 zz o1 hA hNm => ?_
        have hcA : cA = xC u 8 := Option.some.inj (hNm.symm.trans (C.2.2.2.2.2.1.1.2 0 (xC u 8, .int) rfl).2)
        obtain ⟨a1, a2, a3, a4⟩ := nw_new (c0 := (8, List.replicate n.toNatClampNeg (.int 0))) hxs Hz c3 P S zz o1 (by
          show H1[xA u ws.length]? = some (vp_cell (xC u 8) ((List.replicate n.toNatClampNeg (Value.int 0)).length, .inl (gI _)))
          rw [hxs _ c3, ← Hz, List.length_replicate, gI_rep, e1, hcA]
          rfl)
        have hfin := hg _ _ _ _ _ _ h p e R s0 m args below meth cd Z H1 locs ls C T a1 a2 a3 a4 L N1 G
        rw [List.map_cons, ea] at hfin
        exact hfin
      · refine va_newaK (atype := .byte) C.1 C.2.1 (C.2.2.2.2.1 _ narr1) rfl (n_dec hz hr ei rfl) rfl c1 rfl (Nat.le_trans (Nat.mul_le_mul_right _ c2) (by decide)) (Nat.le_trans c4 C.2.2.2.2.2.2.2.2.2.1) (Nat.le_trans c5 C.2.2.2.2.2.2.2.2.2.2.1) rfl fun H1 cA e1 zz o1 hA hNm => ?_
        have hcA : cA = xC u 9 := Option.some.inj (hNm.symm.trans (C.2.2.2.2.2.1.1.2 1 (xC u 9, .byte) rfl).2)
        obtain ⟨a1, a2, a3, a4⟩ := nw_new (c0 := (9, List.replicate n.toNatClampNeg (.int 0))) hxs Hz c3 P S zz o1 (by
          show H1[xA u ws.length]? = some (vp_cell (xC u 9) ((List.replicate n.toNatClampNeg (Value.int 0)).length, .inl (gI _)))
          rw [hxs _ c3, ← Hz, List.length_replicate, gI_rep, e1, hcA]
          rfl)
        have hfin := hg _ _ _ _ _ _ h p e R s0 m args below meth cd Z H1 locs ls C T a1 a2 a3 a4 L N1 G
        rw [List.map_cons, ea] at hfin
        exact hfin
      · refine va_newaK (atype := .long) C.1 C.2.1 (C.2.2.2.2.1 _ narr2) rfl (n_dec hz hr ei rfl) rfl c1 rfl (Nat.le_trans (Nat.mul_le_mul_right _ c2) (by decide)) (Nat.le_trans c4 C.2.2.2.2.2.2.2.2.2.1) (Nat.le_trans c5 C.2.2.2.2.2.2.2.2.2.2.1) rfl fun H1 cA e1 zz o1 hA hNm => ?_
        have hcA : cA = xC u 10 := Option.some.inj (hNm.symm.trans (C.2.2.2.2.2.1.1.2 2 (xC u 10, .long) rfl).2)
        obtain ⟨a1, a2, a3, a4⟩ := nw_new (c0 := (10, List.replicate n.toNatClampNeg (.long 0))) hxs Hz c3 P S zz o1 (by
          show H1[xA u ws.length]? = some (vp_cell (xC u 10) ((List.replicate n.toNatClampNeg (Value.long 0)).length, .inr (.inl (gL _))))
          rw [hxs _ c3, ← Hz, List.length_replicate, gL_rep, e1, hcA]
          rfl)
        have hfin := hg _ _ _ _ _ _ h p e R s0 m args below meth cd Z H1 locs ls C T a1 a2 a3 a4 L N1 G
        rw [List.map_cons, ea] at hfin
        exact hfin
      · cases h
    · cases h
  · cases h
theorem nover {k : Nat} (h1 : 11 ≤ k) (h2 : k ≤ 13) {s : State} (h : inN u N s) : va_AO (arN.getD k "") s ∧ (tyL u)[k - 8]? = some (xC u k, .object (arN.getD k "")) := by
  have hk : k = 11 ∨ k = 12 ∨ k = 13 := by omega
  rcases hk with rfl | rfl | rfl
  · exact ⟨h.2.2.2.2.2.1.1, rfl⟩
  · exact ⟨h.2.2.2.2.2.1.2.1, rfl⟩
  · exact ⟨h.2.2.2.2.2.1.2.2, rfl⟩
theorem nt_q {k : Nat} {vs : List Value} (h1 : 11 ≤ k) : nt u (k, vs) = .inl (xC u k, vs.length, .inr (.inr (.inr (.inr (gR u vs))))) := by
  unfold nt
  dsimp only
  rw [if_neg (by omega), if_neg (by omega), if_neg (by omega)]
theorem m_anewarray {i : Nat} (hz : z < 8) (hr : nrow z pc = some r) (hg : Gn u N z ws' go) (ei : r.1 = .anewarray i) (h : nst go call z pc r lv st ws c s = some ws') : NW u N z pc lv st ws c s ws' := by
  simp only [nst, ei] at h
  split at h
  · rename_i n s1
    split at h
    · rename_i k hk
      split at h
      · rename_i hc
        obtain ⟨c0, c1, c2, c3, c4, c5⟩ := hc
        intro p e R s0 m args below meth cd Z H locs ls C T Hz Hn P S L N1 G
        have hxs := C.2.2.2.2.2.1.2.1
        have ea : (tv u (.ref ws.length)) = .ref H.size := by
          show Value.ref (xA u ws.length) = _
          rw [hxs _ c3, ← Hz]
        have hw := na_w _ (List.mem_map.mpr ⟨_, lk_mem hk, rfl⟩)
        have hb := na_b _ (lk_mem hk)
        dsimp only at hw hb
        rw [(key_d c0).1, (key_d c0).2] at hw
        obtain ⟨v1, v2⟩ := nover hb.1 hb.2 C.2.2.2.2.2.1
        refine W.anew C.1 C.2.1 C.2.2.2.1 (C.2.2.2.2.1 _ (inTBL hw rfl)) (va_AO.use v1) rfl (n_dec hz hr ei rfl) rfl c1 (Nat.le_trans (Nat.mul_le_mul_right _ c2) (by decide)) (Nat.le_trans c4 C.2.2.2.2.2.2.2.2.2.1) (Nat.le_trans c5 C.2.2.2.2.2.2.2.2.2.2.1) fun cA kA comp f1 f2 f3 f4 => ?_
        obtain ⟨kA2, comp2, w1, w2, w3, w4⟩ := (C.2.2.2.2.2.1.1.2 _ _ v2).2
        have hcA : cA = xC u k := Option.some.inj (f1.symm.trans w4)
        generalize hH1 : H.push ({ cls := cA, slots := Array.replicate n.toNatClampNeg .null, vm := .none } : Cell) = H1
        have zz : H1.size = H.size + 1 := by rw [← hH1, Array.size_push]
        have e1 : H1[H.size]? = some (arrV cA n.toNatClampNeg (fun _ => .null)) := by rw [← hH1, Array.getElem?_push_size, ← arrV_new]
        have o1 : ∀ q : Nat, q < H.size → H1[q]? = H[q]? := fun q hq => by rw [← hH1, Array.getElem?_push, if_neg (Nat.ne_of_lt hq)]
        obtain ⟨a1, a2, a3, a4⟩ := nw_new (c0 := (k, List.replicate n.toNatClampNeg .null)) hxs Hz c3 P S zz o1 (by
          rw [nt_q hb.1]
          show H1[xA u ws.length]? = some (vp_cell (xC u k) ((List.replicate n.toNatClampNeg Value.null).length, .inr (.inr (.inr (.inr (gR u _))))))
          rw [hxs _ c3, ← Hz, List.length_replicate, gR_rep, e1, hcA])
        have hfin := hg _ _ _ _ _ _ h p e R s0 m args below meth cd Z H1 locs ls C T a1 a2 a3 a4 L N1 G
        rw [List.map_cons, ea] at hfin
        exact hfin
      · cases h
    · cases h
  · cases h
end NN
