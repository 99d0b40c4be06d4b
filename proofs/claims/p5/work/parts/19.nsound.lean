section NM
variable {u : UV} {N z pc : Nat} {r : Row} {lv st : List Value} {ws ws' : List NC} {c s : Nat} {go : Nat → List Value → List Value → List NC → Nat → Nat → Option (List NC)} {call : Nat → List Value → List NC → Option (List NC)}
theorem gR_set {vs : List Value} {i v : Nat} (hi : i < vs.length) : gR u (vs.set i (.ref v)) = va_up (gR u vs) i (some (xA u v)) := by
  funext j
  unfold gR va_up
  dsimp only
  rw [List.getD_eq_getElem?_getD, List.getD_eq_getElem?_getD]
  by_cases hj : j = i
  · subst hj
    rw [List.getElem?_set_self hi, if_pos rfl]
    rfl
  · rw [List.getElem?_set_ne (Ne.symm hj), if_neg hj]
theorem gI_set {vs : List Value} {i : Nat} {x : Int32} (hi : i < vs.length) : gI (vs.set i (.int x)) = upd (gI vs) i x := by
  funext j
  unfold gI upd
  dsimp only
  rw [List.getD_eq_getElem?_getD, List.getD_eq_getElem?_getD]
  by_cases hj : j = i
  · subst hj
    rw [List.getElem?_set_self hi, if_pos rfl]
    rfl
  · rw [List.getElem?_set_ne (Ne.symm hj), if_neg hj]
theorem in_of {i : Int32} {n : Nat} (h1 : ¬ i < 0) (h2 : i.toNatClampNeg < n) : vp_in i n := fun q => q.elim h1 (fun z => by omega)
theorem nt_o {k : Nat} {vs : List Value} (h : k < 8) : nt u (k, vs) = .inr (k, vs.map (tv u)) := by
  unfold nt
  rw [if_pos h]
theorem m_aastore (hz : z < 8) (hr : nrow z pc = some r) (hg : Gn u N z ws' go) (ei : r.1 = .aastore) (h : nst go call z pc r lv st ws c s = some ws') : NW u N z pc lv st ws c s ws' := by
  simp only [nst, ei] at h
  split at h
  · rename_i v i h0 s1
    split at h
    · rename_i k vs hws
      split at h
      · rename_i hc
        obtain ⟨c1, c2, c3, c4, c5⟩ := hc
        intro p e R s0 m args below meth cd Z H locs ls C T Hz Hn P S L N1 G
        obtain ⟨v1, v2⟩ := nover c1 c2 C.2.2.2.2.2.1
        have hD := nw_D (ws := ws) C.2.2.2.2.2.1.2.1 Hn
        have ha : (nw u ws)[h0]? = some (xA u h0, .inl (xC u k, vs.length, .inr (.inr (.inr (.inr (gR u vs)))))) := by rw [nw_get hws, nt_q c1]
        have hlt : i.toNatClampNeg < vs.length := c4
        obtain ⟨kA, comp, k1, k2, k3, k4⟩ := (C.2.2.2.2.2.1.1.2 _ _ v2).2
        have fin : ∀ cellV : Cell, H[xA u v]? = some cellV → cellV.vm.isStatics = false → s0.vm.findClass (arN.getD k "") = some cellV.cls → W p u.1 e R s0 m args below meth cd H locs c s Z (F0 m pc ls (.ref (xA u v) :: .int i :: .ref (xA u h0) :: s1.map (tv u))) := by
          intro cellV g1 g3 g4
          have hcc : comp = cellV.cls := Option.some.inj (k3.symm.trans g4)
          obtain ⟨kC, hkC, -⟩ := Vm.findClass_spec k3
          refine W.aast C.1 C.2.1 (P h0 _ ha) (fun q h => by cases h) (fun h => by cases h) k1 k2 rfl hkC ⟨c3, by show _ < (arrV _ _ _).slots.size; rw [arrV_size]; exact hlt⟩ g1 (fun q h => by rw [h] at g3; cases g3) (by rw [← hcc]; exact hkC) (by rw [← hcc]; exact va_asg _ _) rfl rfl (n_dec hz hr ei rfl) fun H1 e1 zz oq => ?_
          have P1 := P.set hD ha (e := .inl (xC u k, vs.length, .inr (.inr (.inr (.inr (va_up (gR u vs) i.toNatClampNeg (some (xA u v)))))))) (by
            show H1[xA u h0]? = some (vp_cell _ _)
            rw [e1, vp_cell_q, vp_cell_q, arrV_store]
            congr 2
            funext q
            by_cases hq : q = i.toNatClampNeg
            · subst hq
              simp [updV, va_up, va_rf]
            · simp [updV, va_up, hq]) oq
          rw [nw_set (c := (k, vs.set i.toNatClampNeg (.ref v))) hws (by rw [nt_q c1, List.length_set, gR_set hlt])] at P1
          exact hg _ _ _ _ _ _ h p e R s0 m args below meth cd Z H1 _ ls C T (by rw [List.length_set, zz]; exact Hz) (by rw [List.length_set]; exact Hn) P1 (S.put zz oq (hD.2 h0 _ ha)) L N1 G
        unfold aso at c5
        by_cases h13 : k = 13
        · subst h13
          rw [if_pos rfl, Bool.and_eq_true, decide_eq_true_eq, decide_eq_true_eq] at c5
          obtain ⟨j, rfl⟩ := hsplit v 100 c5.1
          have hj : j < 16 := by omega
          obtain ⟨cell, q1, q2, q3, q4⟩ := (C.2.2.2.2.2.1.2.2.1.1 j hj).1.kept S.2.1
          exact fin cell q1 q2 q3
        · rw [if_neg h13, decide_eq_true_eq] at c5
          cases hv : ws[v]? with
          | none => rw [hv] at c5; cases c5
          | some cv =>
            obtain ⟨kv, vv⟩ := cv
            rw [hv] at c5
            have c5 : kv = k - 10 := Option.some.inj c5
            have hkv : kv < 8 := by omega
            obtain ⟨z1, z2, z3, z4, z5, z6⟩ := zC_ok hkv
            obtain ⟨cell, q1, q2, q3⟩ := va_recv C.2.2.2.2.2.1.1 P z1 (q0 := v) (a := xA u v) (fs := vv.map (tv u)) (by rw [nw_get hv, nt_o hkv])
            refine fin cell q1 q2 ?_
            rw [z6] at q3
            have hk2 : k = 11 ∨ k = 12 := by omega
            rcases hk2 with rfl | rfl
            · rw [c5] at q3; exact q3
            · rw [c5] at q3; exact q3
      · cases h
    · cases h
  · cases h
theorem m_iastore (hz : z < 8) (hr : nrow z pc = some r) (hg : Gn u N z ws' go) (ei : r.1 = .iastore) (h : nst go call z pc r lv st ws c s = some ws') : NW u N z pc lv st ws c s ws' := by
  simp only [nst, ei] at h
  split at h
  · rename_i x i h0 s1
    split at h
    · rename_i k vs hws
      split at h
      · rename_i hc
        obtain ⟨rfl, c3, c4⟩ := hc
        intro p e R s0 m args below meth cd Z H locs ls C T Hz Hn P S L N1 G
        have hD := nw_D (ws := ws) C.2.2.2.2.2.1.2.1 Hn
        have ha : (nw u ws)[h0]? = some (xA u h0, .inl (xC u 8, vs.length, .inl (gI vs))) := nw_get hws
        refine W.iast C.1 C.2.1 (P h0 _ ha) ((C.2.2.2.2.2.1.1.2 0 (xC u 8, .int) rfl).1 vs.length (fun j => .int (gI vs j))) (fun q => by cases q) (by show ¬ (i < 0 ∨ (arrV _ _ _).slots.size ≤ _); rw [arrV_size]; exact in_of c3 c4) rfl rfl (n_dec hz hr ei rfl) fun H1 e1 zz oq => ?_
        have P1 := P.set hD ha (e := .inl (xC u 8, vs.length, .inl (upd (gI vs) i.toNatClampNeg x))) (by
          show H1[xA u h0]? = some (vp_cell _ _)
          rw [e1, vp_cell_i, vp_cell_i, arrV_store]
          congr 2
          funext q
          by_cases hq : q = i.toNatClampNeg
          · subst hq
            simp [updV, upd]
          · simp [updV, upd, hq]) oq
        rw [nw_set (c := (8, vs.set i.toNatClampNeg (.int x))) hws (by rw [← gI_set c4]; show _ = Sum.inl (xC u 8, (vs.set _ _).length, _); rw [List.length_set])] at P1
        exact hg _ _ _ _ _ _ h p e R s0 m args below meth cd Z H1 _ ls C T (by rw [List.length_set, zz]; exact Hz) (by rw [List.length_set]; exact Hn) P1 (S.put zz oq (hD.2 h0 _ ha)) L N1 G
      · cases h
    · cases h
  · cases h
end NM
section NP
variable {p : Program} {l : Launch} {e : Env} {R : Room} {s : State} {m : MethodId} {args : Array Value} {below : List Frame} {meth : Method} {c : Code} {H : Heap} {locs : List Loc} {cells slots : Nat} {Q : State → Prop}
variable {cc : ByteArray} {pc : Nat} {ls : Array Slot} {rest : List Value} {D : va_G} {cl : List vw_C} {A : Nat → Prop} {a : Nat} {tys : List (ClassId × FieldType)} {ws : va_W} {H0 : Heap}
theorem vn_put (hexec : p.tables.exec = Jvm.exec) (hb : c.code = cc) {own ref C : String} {T : u_T} {N ci index : Nat} {Ts : List Cond} (hts : ∀ w ∈ Ts, w.before args s = true) (hin : ∀ w ∈ u_ws C T N, w ∈ Ts) (ty0 : Nat → FieldType) (hty : ∀ k, k < N → parseFieldDescriptor (T k).2.2.1 = some (ty0 k)) (hnm : ∀ a, a < N → ∀ b, b < N → a ≠ b → (T a).2.1 ≠ (T b).2.1) (hown : s.vm.findClass own = some m.cls) (hK : va_K D cl tys s) (hP : va_P D cl ws H) (hD : va_D A ws) (hS0 : va_S A H0 H locs) (q0 : Nat) {fs : List Value} (he : ws[q0]? = some (a, .inr (ci, fs))) (hc : cl[ci]? = some (C, T, N)) (k : Nat) (hk : k < N) (hlink : (Cond.fieldLink own index ref (T k).2.1 (T k).2.2.1).before args s = true) (hsame : ∀ x, s.fieldFound? (T k).1 (T k).2.1 (T k).2.2.1 = some x → s.fieldFound? ref (T k).2.1 (T k).2.2.1 = some x) (hin2 : meth.name = "<init>") (hdecl : (T k).1 = own) {ty : FieldType} {v : Value} (hd : parseFieldDescriptor (T k).2.2.1 = some ty) (hn : narrow ty v = v) (hfit : fits ty v = true) (hl : k < fs.length)
    (hdg : decode cc pc = .ok (.putfield index, 3)) (kk : ∀ (H1 : Heap) (locs1 : List Loc), H1.size = H.size → va_P D cl (ws.set q0 (a, .inr (ci, fs.set k v))) H1 → va_S A H0 H1 locs1 → W p l e R s m args below meth c H1 locs1 cells slots Q (F0 m (pc + 3) ls rest)) : W p l e R s m args below meth c H locs cells slots Q (F0 m pc ls (v :: .ref a :: rest)) := by
  have hap := va_apart (own := own) hts hin ty0 hty hnm hK hc
  obtain ⟨r, h1, cell, q1, q2, q3, q4⟩ := hP q0 _ he
  have hr : r = (C, T, N) := Option.some.inj (h1.symm.trans hc)
  subst hr
  obtain ⟨hS, hfc, kC, hkC, hkind⟩ := hK.1 ci _ hc
  obtain ⟨cf, kf, fi, f, hi, hsl⟩ := hS k hk
  have hlay := hts _ (hin _ (u_in_lay hk))
  have hst := (u_facts hfc hkC (u_lays hts hin hk) hi).1
  unfold u_lay at hlay
  by_cases hfin : (T k).2.2.2 = true
  · rw [if_pos hfin] at hlay
    have hcf : m.cls = cf := by
      obtain ⟨_, _, c', _, _, _, -, -, hf', -, -, -, hown2, -⟩ := Cond.laysFinal_spec hlay
      have e1 : c' = cf := by have := hi.symm.trans hf'; simp at this; exact this.1.symm
      rw [hdecl] at hown2
      rw [← e1]; exact Option.some.inj (hown.symm.trans hown2)
    have h6 := u_fits hfc hkC hkind (Or.inr hlay) hi hd hn hfit
    refine W.putFinK hexec hb hown hlink (hsame _ hi) hst hcf hin2 (by rw [q2]; exact h6) q1 q3 (by rw [hsl]; exact k2_hasslot (q4 k hk)) rfl rfl hdg fun H' e1 e2 e3 => ?_
    rw [hsl] at e1 ⊢
    exact kk H' _ e2 (hP.set hD he ⟨_, hc, t_OB.to (V := updV (vp_V fs) k v) ⟨_, e1, q2, q3, t_set q4 hap hk v⟩ (fun j _ => vp_updV_set hl v j)⟩ e3) (hS0.put e2 e3 (hD.2 q0 _ he))
  · rw [if_neg hfin] at hlay
    have h6 := u_store hfc hkC hkind hlay hi hd hn hfit
    refine W.putK hexec hb (f := f) ⟨hown, hlink, ⟨_, _, _, hsame _ hi⟩, hst⟩ (by rw [q2]; exact h6) q1 q3 (by rw [hsl]; exact k2_hasslot (q4 k hk)) rfl rfl hdg fun H' e1 e2 e3 => ?_
    rw [hsl] at e1 ⊢
    exact kk H' _ e2 (hP.set hD he ⟨_, hc, t_OB.to (V := updV (vp_V fs) k v) ⟨_, e1, q2, q3, t_set q4 hap hk v⟩ (fun j _ => vp_updV_set hl v j)⟩ e3) (hS0.put e2 e3 (hD.2 q0 _ he))
end NP
theorem zC_ref : ∀ ci, ci < 8 → ∀ k, k < nfL.getD ci 0 → rt ci k = true → (∀ a, fits (zty ci k) (.ref a) = true) := by
  intro ci hci k hk hr a
  have key : ∀ ci, ci < 8 → ∀ k, k < nfL.getD ci 0 → rt ci k = true → (match zty ci k with | .object _ => true | .array _ => true | _ => false) = true := by decide +kernel
  have := key ci hci k hk hr
  revert this
  cases zty ci k <;> simp [fits]
theorem nar_ref (ty : FieldType) (a : Nat) : narrow ty (.ref a) = .ref a := by cases ty <;> rfl
section NQ
variable {u : UV} {N z pc : Nat} {r : Row} {lv st : List Value} {ws ws' : List NC} {c s : Nat} {go : Nat → List Value → List Value → List NC → Nat → Nat → Option (List NC)} {call : Nat → List Value → List NC → Option (List NC)}
theorem m_getfield {i : Nat} (hz : z < 8) (hr : nrow z pc = some r) (hg : Gn u N z ws' go) (ei : r.1 = .getfield i) (h : nst go call z pc r lv st ws c s = some ws') : NW u N z pc lv st ws c s ws' := by
  simp only [nst, ei] at h
  split at h
  · rename_i h0 s1
    split at h
    · rename_i ci k k0 vs hk hws
      split at h
      · rename_i hc
        obtain ⟨c1, c2, rfl⟩ := hc
        split at h
        · rename_i v hv
          intro p e R s0 m args below meth cd Z H locs ls C T Hz Hn P S L N1 G
          obtain ⟨f1, f2, f3, f4⟩ := fl_at c1 hk (by omega)
          obtain ⟨z1, z2, z3, z4, z5, z6⟩ := zC_ok f1
          exact va_get C.1 C.2.1 C.2.2.2.2.1 z2 C.2.2.2.1 C.2.2.2.2.2.1.1 P h0 (fs := vs.map (tv u)) (ci := k0) (by rw [nw_get hws, nt_o c2]) z1 k f2 (C.2.2.2.2.1 _ f4) (fun x q => by rw [f3] at q; exact q) (by rw [List.getElem?_map, hv]; rfl) (n_dec hz hr ei rfl) (hg _ _ _ _ _ _ h p e R s0 m args below meth cd Z H locs ls C T Hz Hn P S L N1 G)
        · cases h
      · cases h
    · cases h
  · cases h
theorem m_putfield {i : Nat} (hz : z < 8) (hr : nrow z pc = some r) (hg : Gn u N z ws' go) (ei : r.1 = .putfield i) (h : nst go call z pc r lv st ws c s = some ws') : NW u N z pc lv st ws c s ws' := by
  simp only [nst, ei] at h
  split at h
  · rename_i v h0 s1
    split at h
    · rename_i ci k k0 vs hk hws
      split at h
      · rename_i hc
        obtain ⟨c1, c2, rfl, c4, c5, c6⟩ := hc
        intro p e R s0 m args below meth cd Z H locs ls C T Hz Hn P S L N1 G
        obtain ⟨f1, f2, f3, f4⟩ := fl_at c1 hk (by omega)
        obtain ⟨z1, z2, z3, z4, z5, z6⟩ := zC_ok f1
        have hk2 : k < nfL.getD k0 0 := by rw [← z5]; exact f2
        have hD := nw_D (ws := ws) C.2.2.2.2.2.1.2.1 Hn
        have hnf : narrow (zty k0 k) (tv u v) = tv u v ∧ fits (zty k0 k) (tv u v) = true := by
          unfold pfo at c6
          split at c6
          · rename_i x
            simp only [Bool.and_eq_true, Bool.or_eq_true, Bool.not_eq_true', beq_iff_eq] at c6
            obtain ⟨q1, q2⟩ := zC_fin k0 f1 k hk2 c6.1
            rw [q2]
            by_cases hb : bz k0 k = true
            · rw [if_pos hb]
              rcases c6.2 with hx | hx
              · rw [hb] at hx; cases hx
              · subst hx; exact ⟨rfl, rfl⟩
            · rw [if_neg hb]; exact ⟨rfl, rfl⟩
          · exact ⟨nar_ref _ _, zC_ref k0 f1 k hk2 c6 _⟩
          · cases c6
        refine vn_put C.1 C.2.1 C.2.2.2.2.1 z2 (zty k0) z3 z4 C.2.2.2.1 C.2.2.2.2.2.1.1 P hD S h0 (fs := vs.map (tv u)) (ci := k0) (by rw [nw_get hws, nt_o c2]) z1 k f2 (C.2.2.2.2.1 _ f4) (fun x q => by rw [f3] at q; exact q) C.2.2.2.2.2.2.1 (by rw [f3, z6, c4]) (z3 k f2) hnf.1 hnf.2 (by rw [List.length_map]; exact c5) (n_dec hz hr ei rfl) (fun H1 locs1 zz P1 S1 => ?_)
        rw [nw_set (c := (k0, vs.set k v)) hws (by rw [nt_o c2, List.map_set])] at P1
        exact hg _ _ _ _ _ _ h p e R s0 m args below meth cd Z H1 locs1 ls C T (by rw [List.length_set, zz]; exact Hz) (by rw [List.length_set]; exact Hn) P1 S1 L N1 G
      · cases h
    · cases h
  · cases h
theorem m_return (hz : z < 8) (hr : nrow z pc = some r) (hg : Gn u N z ws' go) (ei : r.1 = .return_) (h : nst go call z pc r lv st ws c s = some ws') : NW u N z pc lv st ws c s ws' := by
  simp only [nst, ei] at h
  split at h
  · split at h
    · rename_i hc
      cases h
      intro p e R s0 m args below meth cd Z H locs ls C T Hz Hn P S L N1 G
      exact T H locs ls pc c s hc.1 hc.2 Hz P S (n_dec hz hr ei rfl)
    · cases h
  · cases h
theorem vn_call {p : Program} {l : Launch} {e : Env} {R : Room} {s : State} {m : MethodId} {args : Array Value} {below : List Frame} {meth : Method} {c : Code} {H : Heap} {locs : List Loc} {cells slots mc ms : Nat} {Q : State → Prop} {pc : Nat} {ls : Array Slot} {rest st0 : List Value} {a : Array Value} {w1 : List NC} (hr : va_Run p l e R s m args below meth c H locs cells slots mc ms (F0 m pc ls st0) rest (qcN u N w1 a) (fun q => N ≤ q)) (hS : va_S (fun q => N ≤ q) s.heap H locs)
    (kk : ∀ (H1 : Heap) (locs1 : List Loc), H1.size = N + w1.length → va_P (xD u) zCl (nw u w1) H1 → va_S (fun q => N ≤ q) s.heap H1 locs1 → W p l e R s m args below meth c H1 locs1 (cells + mc) (slots + ms) Q (F0 m (pc + 3) ls rest)) : W p l e R s m args below meth c H locs cells slots Q (F0 m pc ls st0) := by
  intro T hT X
  obtain ⟨v, st₀, t, T', L, h0, X', hL, e1, e2, ⟨⟨hv, hsz, hp⟩, hz, hk⟩, st⟩ := hr T hT X
  cases hv
  rw [h0] at hz hk
  obtain ⟨t2, a1, b1⟩ := kk T'.heap (locs ++ L) (by rw [e1]; exact hsz) (by rw [e1]; exact hp)
    ⟨Nat.le_trans hS.1 (by rw [e1]; exact hz), fun q h1 h2 => by rw [e1, hk q (Nat.lt_of_lt_of_le h1 hS.1) h2]; exact hS.2.1 q h1 h2, fun q hq => by
      rcases List.mem_append.mp hq with h | h
      · exact hS.2.2 q h
      · exact hL q h⟩ T' rfl X'
  exact ⟨t2, st t2 a1, b1⟩
theorem blindN (u : UV) (N : Nat) (as : List Value) (ws : List NC) : FrameBlind (pcN u N as ws) := fun a U g mk q => ⟨q.1, q.2.1.blind g mk a, q.2.2⟩
theorem goodN {z : Nat} (h : z < 8) : GoodIn TBL (wsN z) := fun w hw => by
  rcases List.mem_cons.mp hw with rfl | hw
  · exact ⟨nc_in h, Or.inl rfl⟩
  · exact ⟨hw, good_of_word (tblMem w hw).2⟩
set_option maxHeartbeats 4000000 in
theorem m_invokespecial {i : Nat} (hz : z < 8) (hr : nrow z pc = some r) (hg : Gn u N z ws' go) (hcall : ∀ z' as w w1, z' < 8 → (slots1 as).length ≤ nL z' → as.all (fun v => decide (v.category = 1)) = true → call z' as w = some w1 → w.length ≤ 63 → NCall u N z' as w w1) (ei : r.1 = .invokespecial i) (h : nst go call z pc r lv st ws c s = some ws') : NW u N z pc lv st ws c s ws' := by
  simp only [nst, ei] at h
  split at h
  · rename_i z' b hlk
    have hns := ns_w _ (List.mem_map.mpr ⟨_, lk_mem hlk, rfl⟩)
    split at h
    · rename_i h99
      subst h99
      split at h
      · rename_i h0 s1
        split at h
        · rename_i hc
          intro p e R s0 m args below meth cd Z H locs ls C T Hz Hn P S L N1 G
          unfold nsW at hns
          dsimp only at hns
          rw [if_pos rfl, (key_d hc.1).1, (key_d hc.1).2] at hns
          have hk1 : 1 ≤ nK z := by
            have : ∀ z, z < 8 → 1 ≤ nK z := by decide +kernel
            exact this z hz
          refine W.objInit C.1 C.2.1 C.2.2.2.1 (C.2.2.2.2.1 _ (inTBL hns rfl)) (C.2.2.2.2.1 _ nobjI) (C.2.2.2.2.1 _ nobj) rfl (by rw [C.2.2.1]; exact L.1) rfl (n_dec hz hr ei rfl) (Nat.le_trans hk1 C.2.2.2.2.2.2.2.1) ?_ (hg _ _ _ _ _ _ h p e R s0 m args below meth cd Z H locs ls C T Hz Hn P S L N1 G)
          have h9 := C.2.2.2.2.2.2.2.2.1
          rw [map_cats C.2.2.2.2.2.1.2.2.2.2.2.2]
          show 2 * 0 + cats s1 + 12 ≤ R.locals
          omega
        · cases h
      · cases h
    · rename_i h99
      split at h
      · rename_i hc
        obtain ⟨c0, c1, c2, c3, c4, c5, c6, c7, c8⟩ := hc
        split at h
        · rename_i h0 hrc
          split at h
          · rename_i w1 hw1
            split at h
            · rename_i hlen
              intro p e R s0 m args below meth cd Z H locs ls C T Hz Hn P S L N1 G
              have hF := C.2.2.2.2.2.1.2.2.2.2.2.2
              have hlr : ∀ l : List Value, (slots1 l.reverse).length = (slots1 l).length := by
                intro l
                unfold slots1
                rw [List.length_flatMap, List.length_flatMap, List.map_reverse, List.sum_reverse]
              have hM := hcall z' _ ws w1 c1 (by rw [hlr]; exact c5) (by rw [List.all_reverse]; exact c8) hw1 Hn
              unfold nsW at hns
              dsimp only at hns
              rw [if_neg h99, (key_d c0).1, (key_d c0).2] at hns
              obtain ⟨d1, d2, d3, d4, d5, d6, d7, d8⟩ := ndk z' c1
              have hn : nA z' < st.length := by omega
              have htk : (st.take (nA z' + 1)).reverse = .ref h0 :: (st.take (nA z')).reverse := by
                rw [List.take_add_one, hrc]
                simp
              have hstk : st.map (tv u) = ((((st.take (nA z')).reverse).map (tv u)).reverse) ++ Value.ref (xA u h0) :: (st.drop (nA z' + 1)).map (tv u) := by
                have e1 : st = st.take (nA z') ++ Value.ref h0 :: st.drop (nA z' + 1) := by
                  conv => lhs; rw [← List.take_append_drop (nA z') st]
                  congr 1
                  rw [List.drop_eq_getElem_cons hn]
                  congr 1
                  have := List.getElem?_eq_getElem hn
                  rw [hrc] at this
                  exact (Option.some.inj this).symm
                conv => lhs; rw [e1]
                rw [List.map_append, List.map_reverse, List.reverse_reverse]
                rfl
              have hln : (((st.take (nA z')).reverse).map (tv u)).length = nA z' := by
                rw [List.length_map, List.length_reverse, List.length_take]; omega
              have hpre : PreS s0 H (pcN u N ((st.take (nA z' + 1)).reverse) ws) (Value.ref (xA u h0) :: ((st.take (nA z')).reverse).map (tv u)) := ⟨blindN u N _ ws, fun U hU hW => ⟨by rw [htk]; rfl, C.2.2.2.2.2.1.go S hU hW, by rw [hU]; exact Hz, by rw [hU]; exact P⟩⟩
              have hR : (rmN z').frames + 1 ≤ R.frames ∧ 8 + (nL z' + 11) + (rmN z').locals ≤ R.locals := by
                have h8 := C.2.2.2.2.2.2.2.1
                have h9 := C.2.2.2.2.2.2.2.2.1
                show nK z' + 1 ≤ R.frames ∧ 8 + (nL z' + 11) + 37 * nK z' ≤ R.locals
                omega
              have hroom : 2 * (F0 m pc ls (st.map (tv u))).monitorRoom + (((st.drop (nA z' + 1)).map (tv u)).map fun v => v.category).sum ≤ 8 := by
                rw [map_cats hF]
                show 2 * 0 + _ ≤ 8
                omega
              have hini : (Cond.initialized (nY z').cls).before args s0 = true := by rw [d2]; exact C.2.2.2.2.1 _ (init_in d8)
              have hcf : c + nCc z' ≤ R.cells ∧ s + nCs z' ≤ R.slots := ⟨Nat.le_trans c6 C.2.2.2.2.2.2.2.2.2.1, Nat.le_trans c7 C.2.2.2.2.2.2.2.2.2.2.1⟩
              have him := C.2.2.2.2.1 _ (inTBL (nm_w _ (List.mem_map.mpr ⟨z', nm_a z' c1, rfl⟩)) rfl)
              have fin : va_Run p u.1 e R s0 m args below meth cd H locs c s (nCc z') (nCs z') (F0 m pc ls (st.map (tv u))) ((st.drop (nA z' + 1)).map (tv u)) (qcN u N w1 (Value.ref (xA u h0) :: ((st.take (nA z')).reverse).map (tv u)).toArray) (fun q => N ≤ q) := by
                by_cases hb : b = true
                · subst hb
                  have hnn := C.2.2.2.2.2.1.2.2.2.2.1 _ (lk_mem hlk) rfl
                  dsimp only at hnn
                  rw [(key_d c0).1, (key_d c0).2] at hnn
                  exact va_runIN (n := nA z') ⟨C.1, C.2.1, C.2.2.1, C.2.2.2.1, C.2.2.2.2.1⟩ hM ⟨va_cnB (nA z') C.2.2.2.2.1 (goodN c1) rfl rfl rfl hnn hini ⟨d3, d4, d5⟩ hR, d7, him⟩ hpre rfl hln L.1 hstk hroom (n_dec hz hr ei rfl) hcf
                · rw [if_neg hb] at hns
                  exact va_runI (n := nA z') ⟨C.1, C.2.1, C.2.2.1, C.2.2.2.1, C.2.2.2.2.1⟩ hM (cwI (nA z') C.2.2.2.2.1 (goodN c1) rfl rfl rfl hini (C.2.2.2.2.1 _ (inTBL hns rfl)) him d7 ⟨d3, d4, d5⟩ hR) hpre rfl hln L.1 hstk hroom (n_dec hz hr ei rfl) hcf
              exact vn_call fin S (fun H1 locs1 a1 P1 S1 => hg _ _ _ _ _ _ h p e R s0 m args below meth cd Z H1 locs1 ls C T a1 hlen P1 S1 L N1 G)
            · cases h
          · cases h
        · cases h
      · cases h
  · cases h
set_option maxHeartbeats 4000000 in
theorem nst_ok (hz : z < 8) (hr : nrow z pc = some r) (hg : Gn u N z ws' go) (hcall : ∀ z' as w w1, z' < 8 → (slots1 as).length ≤ nL z' → as.all (fun v => decide (v.category = 1)) = true → call z' as w = some w1 → w.length ≤ 63 → NCall u N z' as w w1) (h : nst go call z pc r lv st ws c s = some ws') : NW u N z pc lv st ws c s ws' := by
  cases ei : r.1 with
  | aload_n i => exact m_aload_n hz hr hg ei h
  | iload_n i => exact m_iload_n hz hr hg ei h
  | istore_n i => exact m_istore_n hz hr hg ei h
  | iinc i n => exact m_iinc hz hr hg ei h
  | iconst n => exact m_iconst hz hr hg ei h
  | bipush n => exact m_bipush hz hr hg ei h
  | sipush n => exact m_sipush hz hr hg ei h
  | ldc i => exact m_ldc hz hr hg ei h
  | dup => exact m_dup hz hr hg ei h
  | if_icmp cnd off => cases cnd with
    | ge => exact m_icmp_ge hz hr hg ei h
    | _ => simp only [nst, ei] at h; cases h
  | goto off => exact m_goto hz hr hg ei h
  | new i => exact m_new hz hr hg ei h
  | newarray t => exact m_newarray hz hr hg ei h
  | anewarray i => exact m_anewarray hz hr hg ei h
  | aastore => exact m_aastore hz hr hg ei h
  | iastore => exact m_iastore hz hr hg ei h
  | getfield i => exact m_getfield hz hr hg ei h
  | putfield i => exact m_putfield hz hr hg ei h
  | invokespecial i => exact m_invokespecial hz hr hg hcall ei h
  | return_ => exact m_return hz hr hg ei h
  | _ => simp only [nst, ei] at h; cases h
end NQ
theorem ncall_of {u : UV} {N z : Nat} {as : List Value} {ws ws' : List NC} (hz : z < 8) (hn : (slots1 as).length ≤ nL z) (hg : as.all (fun v => decide (v.category = 1)) = true) (hw : ws.length ≤ 63) (h : NW u N z 0 (ent (nL z) as) [] ws 0 0 ws') : NCall u N z as ws ws' := by
  obtain ⟨d1, d2, d3, d4, d5, d6, d7, d8⟩ := ndk z hz
  refine Met.ofW (cc := nB z) (maxL := nL z) (ret := none) d1 rfl ?_
  intro p e s m args below meth c s₁ B hml hv
  obtain ⟨rfl, hI, hsz, hP⟩ := hv
  have hts := atoms_spec (ws := wsN z) B.pre
  have hF := hI.2.2.2.2.2.2
  rw [lg_entry_eq]
  have hown : s.vm.findClass (cN (nO z)) = some m.cls := by rw [← d2]; exact findClass_of_methodNamed B.named
  have hlen : (lg_sl (as.map (tv u))).length ≤ nL z := by rw [sl_len hF]; exact hn
  have hin : meth.name = "<init>" := by rw [← d7]; exact (name_of_methodNamed B.named B.method).1
  have hent : (ent (nL z) as).length = nL z := by
    unfold ent
    rw [List.length_append, List.length_replicate]
    omega
  refine h p e (headSpec (wsN z) (rmN z)).room s m _ below meth c _ s.heap [] _ ⟨B.exec, B.bytes, hml, hown, fun w hw => hts w (List.mem_cons_of_mem _ hw), hI, hin, Nat.le_refl _, Nat.le_refl _, Nat.le_refl _, Nat.le_refl _, fun q hq => by omega⟩ ?_ hsz hw hP va_S.rf ?_ hent ?_
  · intro H locs ls pc c1 sl h1 h2 h3 P S hd
    refine W.widen h1 h2 ?_
    exact W.vret B.exec B.bytes B.returns (fun t ht _ => ⟨⟨rfl, by rw [ht]; exact h3, by rw [ht]; exact P⟩, S.F ht⟩) S.2.2 hd B.notSynchronized
  · have hlv := lv_entry (as.map (tv u)) hlen
    refine ⟨hlv.1, hlv.2.1, fun q hq => hlv.2.2 q ?_⟩
    obtain ⟨i, v, h1, h2, rfl⟩ := mem_asl.mp hq
    have h3 : (slots1 as)[i]? = some v := by
      unfold ent at h1
      rcases Nat.lt_or_ge i (slots1 as).length with q | q
      · rwa [List.getElem?_append_left q] at h1
      · rw [List.getElem?_append_right q] at h1
        have := List.mem_replicate.mp (List.mem_of_getElem? h1)
        exact absurd this.2 h2
    have := slots_at hF as 0 i v h3 h2
    rwa [Nat.zero_add] at this
  · intro v hv
    rw [List.all_eq_true] at hg
    unfold ent at hv
    rcases List.mem_append.mp hv with hv | hv
    · obtain ⟨a, ha, hva⟩ := List.mem_flatMap.mp hv
      have := of_decide_eq_true (hg a ha)
      rw [if_neg (by rw [this]; decide)] at hva
      rw [List.mem_singleton.mp hva]
      exact this
    · rw [(List.mem_replicate.mp hv).2]; rfl
theorem nrun_ok {u : UV} {N : Nat} : ∀ (f z pc : Nat) (lv st : List Value) (ws : List NC) (c s : Nat) (ws' : List NC), z < 8 → nrun f z pc lv st ws c s = some ws' → NW u N z pc lv st ws c s ws'
  | 0, _, _, _, _, _, _, _, _, _, h => by cases h
  | f + 1, z, pc, lv, st, ws, c, s, ws', hz, h => by
    unfold nrun at h
    cases hr : nrow z pc with
    | none => rw [hr] at h; cases h
    | some r =>
      rw [hr] at h
      exact nst_ok hz hr (fun pc lv st ws c s h => nrun_ok f z pc lv st ws c s ws' hz h) (fun z' as w w1 hz' h1 h2 h3 h4 => ncall_of hz' h1 h2 h4 (nrun_ok f z' 0 _ _ w 0 0 w1 hz' h3)) h

