/-- a row is what the bytes say -/
def swOk (pc : Nat) (d lo hi : Int) (offs : Array Int) (r : Row) : Bool := decide ((pc : Int) + d = (r.2.2.1 : Int)) && (decide (hi = lo + (r.2.2.2.length : Int) - 1) && (decide (-1000 ≤ lo ∧ hi ≤ 1000) && (decide (offs.size = r.2.2.2.length) && (List.range r.2.2.2.length).all (fun j => decide ((r.2.2.2.getD j (0, 0)).1 = Int32.ofInt (lo + (j : Int)) ∧ (pc : Int) + offs.getD j 0 = ((r.2.2.2.getD j (0, 0)).2 : Int))))))
def rwOk (b : ByteArray) (q : Nat × Row) : Bool := decide (decode b q.1 = .ok (q.2.1, q.2.2.1)) && (match q.2.1 with
  | .if_icmp _ off => decide ((q.1 : Int) + off = (q.2.2.2.1 : Int))
  | .ifCond _ off => decide ((q.1 : Int) + off = (q.2.2.2.1 : Int))
  | .goto off => decide ((q.1 : Int) + off = (q.2.2.2.1 : Int))
  | .tableswitch d lo hi offs => swOk q.1 d lo hi offs q.2
  | _ => true)
/-- the bytes from a place on -/
def dkA (b : ByteArray) (pc : Nat) (l : List UInt8) : Prop := b.data.toList.drop pc = l
theorem dkA_0 (b : ByteArray) : dkA b 0 b.data.toList := rfl
theorem dkA_tl {b : ByteArray} {pc : Nat} {a : UInt8} {r : List UInt8} (h : dkA b pc (a :: r)) : dkA b (pc + 1) r := by
  unfold dkA at h ⊢
  rw [← List.tail_drop, h]
  rfl
theorem dkA_drop {b : ByteArray} {pc n : Nat} {l : List UInt8} (h : dkA b pc l) : dkA b (pc + n) (l.drop n) := by
  unfold dkA at h ⊢
  rw [← h, List.drop_drop]
theorem dk_u1e (b : ByteArray) (pc : Nat) (h : pc < b.size) : (Jvm.ClassFile.Reader.u1 : Jvm.ClassFile.Decoder Nat) b pc = .ok (b[pc].toNat, pc + 1) := by
  show (dite (pc < b.size) (fun h => (do set (pc + 1); pure b[pc].toNat : Jvm.ClassFile.Decoder Nat)) (fun _ => throw (Jvm.ClassFile.HasTruncated.truncated pc))) b pc = _
  rw [dif_pos h]
  rfl
theorem dk_u1 {b : ByteArray} {pc : Nat} {a : UInt8} {r : List UInt8} {x : Nat} (h : dkA b pc (a :: r)) (e : a.toNat = x) : (Jvm.ClassFile.Reader.u1 : Jvm.ClassFile.Decoder Nat) b pc = .ok (x, pc + 1) := by
  have hl : pc < b.size := by
    have h1 := congrArg List.length h
    rw [List.length_drop, List.length_cons] at h1
    show pc < b.data.size
    rw [← Array.length_toList]
    omega
  have ha : b[pc] = a := by
    have h1 : b.data.toList[pc]? = some a := by
      have h2 := congrArg List.head? h
      rw [List.head?_drop] at h2
      exact h2
    obtain ⟨d⟩ := b
    show d[pc] = a
    have h3 : d[pc]? = some a := by rw [← Array.getElem?_toList]; exact h1
    exact (Array.getElem?_eq_some_iff.mp h3).2
  rw [dk_u1e b pc hl, ha, e]
theorem dk_b {α β : Type} {m : Jvm.ClassFile.Decoder α} {f : α → Jvm.ClassFile.Decoder β} {b : ByteArray} {s s1 : Nat} {x : α} {y : Except Jvm.ClassFile.DecodeError (β × Nat)} (h : m b s = .ok (x, s1)) (h2 : f x b s1 = y) : (m >>= f) b s = y := by
  show (Except.bind (m b s) (fun p => f p.1 b p.2)) = y
  rw [h]
  exact h2
theorem dk_mp {α β : Type} {m : Jvm.ClassFile.Decoder α} {f : α → β} {b : ByteArray} {s s1 : Nat} {x : α} (h : m b s = .ok (x, s1)) : (f <$> m) b s = .ok (f x, s1) := by
  show (Except.bind (m b s) (fun p => .ok (f p.1, p.2))) = _
  rw [h]
  rfl
theorem dk_u2 {b : ByteArray} {pc : Nat} {x y : UInt8} {r : List UInt8} (h : dkA b pc (x :: y :: r)) : (Jvm.ClassFile.Reader.u2 : Jvm.ClassFile.Decoder Nat) b pc = .ok (x.toNat * 256 + y.toNat, pc + 2) := by
  unfold Jvm.ClassFile.Reader.u2
  exact dk_b (dk_u1 h rfl) (dk_b (dk_u1 (dkA_tl h) rfl) rfl)
theorem dk_s1 {b : ByteArray} {pc : Nat} {x : UInt8} {r : List UInt8} (h : dkA b pc (x :: r)) : (Jvm.ClassFile.Reader.s1 : Jvm.ClassFile.Decoder Int) b pc = .ok (Jvm.ClassFile.Reader.signed 8 x.toNat, pc + 1) := dk_mp (dk_u1 h rfl)
theorem dk_s2 {b : ByteArray} {pc : Nat} {x y : UInt8} {r : List UInt8} (h : dkA b pc (x :: y :: r)) : (Jvm.ClassFile.Reader.s2 : Jvm.ClassFile.Decoder Int) b pc = .ok (Jvm.ClassFile.Reader.signed 16 (x.toNat * 256 + y.toNat), pc + 2) := dk_mp (dk_u2 h)
theorem dk_d {b : ByteArray} {pc n : Nat} {i : Instr} (h : Jvm.ClassFile.Decoder.instr pc b pc = .ok (i, pc + n)) : decode b pc = .ok (i, n) := by
  have h1 : (Jvm.ClassFile.Decoder.instr pc).runAt b pc = .ok (i, pc + n) := h
  unfold decode
  rw [h1]
  show Except.ok (i, pc + n - pc) = _
  rw [Nat.add_sub_cancel_left]
theorem dko_26 {b : ByteArray} {pc : Nat} {a : UInt8} {r : List UInt8} (h : dkA b pc (a :: r)) (e : a.toNat = 26) : Jvm.ClassFile.Decoder.instr pc b pc = .ok (.iload_n 0, pc + 1) := by
  unfold Jvm.ClassFile.Decoder.instr
  refine dk_b (dk_u1 h e) ?_
  rfl
theorem dko_27 {b : ByteArray} {pc : Nat} {a : UInt8} {r : List UInt8} (h : dkA b pc (a :: r)) (e : a.toNat = 27) : Jvm.ClassFile.Decoder.instr pc b pc = .ok (.iload_n 1, pc + 1) := by
  unfold Jvm.ClassFile.Decoder.instr
  refine dk_b (dk_u1 h e) ?_
  rfl
theorem dko_28 {b : ByteArray} {pc : Nat} {a : UInt8} {r : List UInt8} (h : dkA b pc (a :: r)) (e : a.toNat = 28) : Jvm.ClassFile.Decoder.instr pc b pc = .ok (.iload_n 2, pc + 1) := by
  unfold Jvm.ClassFile.Decoder.instr
  refine dk_b (dk_u1 h e) ?_
  rfl
theorem dko_29 {b : ByteArray} {pc : Nat} {a : UInt8} {r : List UInt8} (h : dkA b pc (a :: r)) (e : a.toNat = 29) : Jvm.ClassFile.Decoder.instr pc b pc = .ok (.iload_n 3, pc + 1) := by
  unfold Jvm.ClassFile.Decoder.instr
  refine dk_b (dk_u1 h e) ?_
  rfl
theorem dko_42 {b : ByteArray} {pc : Nat} {a : UInt8} {r : List UInt8} (h : dkA b pc (a :: r)) (e : a.toNat = 42) : Jvm.ClassFile.Decoder.instr pc b pc = .ok (.aload_n 0, pc + 1) := by
  unfold Jvm.ClassFile.Decoder.instr
  refine dk_b (dk_u1 h e) ?_
  rfl
theorem dko_43 {b : ByteArray} {pc : Nat} {a : UInt8} {r : List UInt8} (h : dkA b pc (a :: r)) (e : a.toNat = 43) : Jvm.ClassFile.Decoder.instr pc b pc = .ok (.aload_n 1, pc + 1) := by
  unfold Jvm.ClassFile.Decoder.instr
  refine dk_b (dk_u1 h e) ?_
  rfl
theorem dko_44 {b : ByteArray} {pc : Nat} {a : UInt8} {r : List UInt8} (h : dkA b pc (a :: r)) (e : a.toNat = 44) : Jvm.ClassFile.Decoder.instr pc b pc = .ok (.aload_n 2, pc + 1) := by
  unfold Jvm.ClassFile.Decoder.instr
  refine dk_b (dk_u1 h e) ?_
  rfl
theorem dko_45 {b : ByteArray} {pc : Nat} {a : UInt8} {r : List UInt8} (h : dkA b pc (a :: r)) (e : a.toNat = 45) : Jvm.ClassFile.Decoder.instr pc b pc = .ok (.aload_n 3, pc + 1) := by
  unfold Jvm.ClassFile.Decoder.instr
  refine dk_b (dk_u1 h e) ?_
  rfl
theorem dko_59 {b : ByteArray} {pc : Nat} {a : UInt8} {r : List UInt8} (h : dkA b pc (a :: r)) (e : a.toNat = 59) : Jvm.ClassFile.Decoder.instr pc b pc = .ok (.istore_n 0, pc + 1) := by
  unfold Jvm.ClassFile.Decoder.instr
  refine dk_b (dk_u1 h e) ?_
  rfl
theorem dko_60 {b : ByteArray} {pc : Nat} {a : UInt8} {r : List UInt8} (h : dkA b pc (a :: r)) (e : a.toNat = 60) : Jvm.ClassFile.Decoder.instr pc b pc = .ok (.istore_n 1, pc + 1) := by
  unfold Jvm.ClassFile.Decoder.instr
  refine dk_b (dk_u1 h e) ?_
  rfl
theorem dko_61 {b : ByteArray} {pc : Nat} {a : UInt8} {r : List UInt8} (h : dkA b pc (a :: r)) (e : a.toNat = 61) : Jvm.ClassFile.Decoder.instr pc b pc = .ok (.istore_n 2, pc + 1) := by
  unfold Jvm.ClassFile.Decoder.instr
  refine dk_b (dk_u1 h e) ?_
  rfl
theorem dko_62 {b : ByteArray} {pc : Nat} {a : UInt8} {r : List UInt8} (h : dkA b pc (a :: r)) (e : a.toNat = 62) : Jvm.ClassFile.Decoder.instr pc b pc = .ok (.istore_n 3, pc + 1) := by
  unfold Jvm.ClassFile.Decoder.instr
  refine dk_b (dk_u1 h e) ?_
  rfl
theorem dko_2 {b : ByteArray} {pc : Nat} {a : UInt8} {r : List UInt8} (h : dkA b pc (a :: r)) (e : a.toNat = 2) : Jvm.ClassFile.Decoder.instr pc b pc = .ok (.iconst (-1), pc + 1) := by
  unfold Jvm.ClassFile.Decoder.instr
  refine dk_b (dk_u1 h e) ?_
  rfl
theorem dko_3 {b : ByteArray} {pc : Nat} {a : UInt8} {r : List UInt8} (h : dkA b pc (a :: r)) (e : a.toNat = 3) : Jvm.ClassFile.Decoder.instr pc b pc = .ok (.iconst 0, pc + 1) := by
  unfold Jvm.ClassFile.Decoder.instr
  refine dk_b (dk_u1 h e) ?_
  rfl
theorem dko_4 {b : ByteArray} {pc : Nat} {a : UInt8} {r : List UInt8} (h : dkA b pc (a :: r)) (e : a.toNat = 4) : Jvm.ClassFile.Decoder.instr pc b pc = .ok (.iconst 1, pc + 1) := by
  unfold Jvm.ClassFile.Decoder.instr
  refine dk_b (dk_u1 h e) ?_
  rfl
theorem dko_5 {b : ByteArray} {pc : Nat} {a : UInt8} {r : List UInt8} (h : dkA b pc (a :: r)) (e : a.toNat = 5) : Jvm.ClassFile.Decoder.instr pc b pc = .ok (.iconst 2, pc + 1) := by
  unfold Jvm.ClassFile.Decoder.instr
  refine dk_b (dk_u1 h e) ?_
  rfl
theorem dko_6 {b : ByteArray} {pc : Nat} {a : UInt8} {r : List UInt8} (h : dkA b pc (a :: r)) (e : a.toNat = 6) : Jvm.ClassFile.Decoder.instr pc b pc = .ok (.iconst 3, pc + 1) := by
  unfold Jvm.ClassFile.Decoder.instr
  refine dk_b (dk_u1 h e) ?_
  rfl
theorem dko_7 {b : ByteArray} {pc : Nat} {a : UInt8} {r : List UInt8} (h : dkA b pc (a :: r)) (e : a.toNat = 7) : Jvm.ClassFile.Decoder.instr pc b pc = .ok (.iconst 4, pc + 1) := by
  unfold Jvm.ClassFile.Decoder.instr
  refine dk_b (dk_u1 h e) ?_
  rfl
theorem dko_8 {b : ByteArray} {pc : Nat} {a : UInt8} {r : List UInt8} (h : dkA b pc (a :: r)) (e : a.toNat = 8) : Jvm.ClassFile.Decoder.instr pc b pc = .ok (.iconst 5, pc + 1) := by
  unfold Jvm.ClassFile.Decoder.instr
  refine dk_b (dk_u1 h e) ?_
  rfl
theorem dko_172 {b : ByteArray} {pc : Nat} {a : UInt8} {r : List UInt8} (h : dkA b pc (a :: r)) (e : a.toNat = 172) : Jvm.ClassFile.Decoder.instr pc b pc = .ok (.ireturn, pc + 1) := by
  unfold Jvm.ClassFile.Decoder.instr
  refine dk_b (dk_u1 h e) ?_
  rfl
theorem dko_96 {b : ByteArray} {pc : Nat} {a : UInt8} {r : List UInt8} (h : dkA b pc (a :: r)) (e : a.toNat = 96) : Jvm.ClassFile.Decoder.instr pc b pc = .ok (.iadd, pc + 1) := by
  unfold Jvm.ClassFile.Decoder.instr
  refine dk_b (dk_u1 h e) ?_
  rfl
theorem dko_46 {b : ByteArray} {pc : Nat} {a : UInt8} {r : List UInt8} (h : dkA b pc (a :: r)) (e : a.toNat = 46) : Jvm.ClassFile.Decoder.instr pc b pc = .ok (.iaload, pc + 1) := by
  unfold Jvm.ClassFile.Decoder.instr
  refine dk_b (dk_u1 h e) ?_
  rfl
theorem dko_87 {b : ByteArray} {pc : Nat} {a : UInt8} {r : List UInt8} (h : dkA b pc (a :: r)) (e : a.toNat = 87) : Jvm.ClassFile.Decoder.instr pc b pc = .ok (.pop, pc + 1) := by
  unfold Jvm.ClassFile.Decoder.instr
  refine dk_b (dk_u1 h e) ?_
  rfl
theorem dko_50 {b : ByteArray} {pc : Nat} {a : UInt8} {r : List UInt8} (h : dkA b pc (a :: r)) (e : a.toNat = 50) : Jvm.ClassFile.Decoder.instr pc b pc = .ok (.aaload, pc + 1) := by
  unfold Jvm.ClassFile.Decoder.instr
  refine dk_b (dk_u1 h e) ?_
  rfl
theorem dko_79 {b : ByteArray} {pc : Nat} {a : UInt8} {r : List UInt8} (h : dkA b pc (a :: r)) (e : a.toNat = 79) : Jvm.ClassFile.Decoder.instr pc b pc = .ok (.iastore, pc + 1) := by
  unfold Jvm.ClassFile.Decoder.instr
  refine dk_b (dk_u1 h e) ?_
  rfl
theorem dko_133 {b : ByteArray} {pc : Nat} {a : UInt8} {r : List UInt8} (h : dkA b pc (a :: r)) (e : a.toNat = 133) : Jvm.ClassFile.Decoder.instr pc b pc = .ok (.i2l, pc + 1) := by
  unfold Jvm.ClassFile.Decoder.instr
  refine dk_b (dk_u1 h e) ?_
  rfl
theorem dko_100 {b : ByteArray} {pc : Nat} {a : UInt8} {r : List UInt8} (h : dkA b pc (a :: r)) (e : a.toNat = 100) : Jvm.ClassFile.Decoder.instr pc b pc = .ok (.isub, pc + 1) := by
  unfold Jvm.ClassFile.Decoder.instr
  refine dk_b (dk_u1 h e) ?_
  rfl
theorem dko_104 {b : ByteArray} {pc : Nat} {a : UInt8} {r : List UInt8} (h : dkA b pc (a :: r)) (e : a.toNat = 104) : Jvm.ClassFile.Decoder.instr pc b pc = .ok (.imul, pc + 1) := by
  unfold Jvm.ClassFile.Decoder.instr
  refine dk_b (dk_u1 h e) ?_
  rfl
theorem dko_21 {b : ByteArray} {pc : Nat} {a x : UInt8} {r : List UInt8} (h : dkA b pc (a :: x :: r)) (e : a.toNat = 21) : Jvm.ClassFile.Decoder.instr pc b pc = .ok (.iload x.toNat, pc + 2) := by
  unfold Jvm.ClassFile.Decoder.instr
  refine dk_b (dk_u1 h e) ?_
  show (Jvm.ClassFile.Reader.u1 >>= fun v => pure (.iload v) : Jvm.ClassFile.Decoder Instr) b (pc + 1) = _
  exact dk_b (dk_u1 (dkA_tl h) rfl) rfl
theorem dko_54 {b : ByteArray} {pc : Nat} {a x : UInt8} {r : List UInt8} (h : dkA b pc (a :: x :: r)) (e : a.toNat = 54) : Jvm.ClassFile.Decoder.instr pc b pc = .ok (.istore x.toNat, pc + 2) := by
  unfold Jvm.ClassFile.Decoder.instr
  refine dk_b (dk_u1 h e) ?_
  show (Jvm.ClassFile.Reader.u1 >>= fun v => pure (.istore v) : Jvm.ClassFile.Decoder Instr) b (pc + 1) = _
  exact dk_b (dk_u1 (dkA_tl h) rfl) rfl
theorem dko_18 {b : ByteArray} {pc : Nat} {a x : UInt8} {r : List UInt8} (h : dkA b pc (a :: x :: r)) (e : a.toNat = 18) : Jvm.ClassFile.Decoder.instr pc b pc = .ok (.ldc x.toNat, pc + 2) := by
  unfold Jvm.ClassFile.Decoder.instr
  refine dk_b (dk_u1 h e) ?_
  show (Jvm.ClassFile.Reader.u1 >>= fun v => pure (.ldc v) : Jvm.ClassFile.Decoder Instr) b (pc + 1) = _
  exact dk_b (dk_u1 (dkA_tl h) rfl) rfl
theorem dko_16 {b : ByteArray} {pc : Nat} {a x : UInt8} {r : List UInt8} (h : dkA b pc (a :: x :: r)) (e : a.toNat = 16) : Jvm.ClassFile.Decoder.instr pc b pc = .ok (.bipush (Jvm.ClassFile.Reader.signed 8 x.toNat), pc + 2) := by
  unfold Jvm.ClassFile.Decoder.instr
  refine dk_b (dk_u1 h e) ?_
  show (Jvm.ClassFile.Reader.s1 >>= fun v => pure (.bipush v) : Jvm.ClassFile.Decoder Instr) b (pc + 1) = _
  exact dk_b (dk_s1 (dkA_tl h)) rfl
theorem dko_17 {b : ByteArray} {pc : Nat} {a x y : UInt8} {r : List UInt8} (h : dkA b pc (a :: x :: y :: r)) (e : a.toNat = 17) : Jvm.ClassFile.Decoder.instr pc b pc = .ok (.sipush (Jvm.ClassFile.Reader.signed 16 (x.toNat * 256 + y.toNat)), pc + 3) := by
  unfold Jvm.ClassFile.Decoder.instr
  refine dk_b (dk_u1 h e) ?_
  show (Jvm.ClassFile.Reader.s2 >>= fun v => pure (.sipush v) : Jvm.ClassFile.Decoder Instr) b (pc + 1) = _
  exact dk_b (dk_s2 (dkA_tl h)) rfl
theorem dko_180 {b : ByteArray} {pc : Nat} {a x y : UInt8} {r : List UInt8} (h : dkA b pc (a :: x :: y :: r)) (e : a.toNat = 180) : Jvm.ClassFile.Decoder.instr pc b pc = .ok (.getfield (x.toNat * 256 + y.toNat), pc + 3) := by
  unfold Jvm.ClassFile.Decoder.instr
  refine dk_b (dk_u1 h e) ?_
  show (Jvm.ClassFile.Reader.u2 >>= fun v => pure (.getfield v) : Jvm.ClassFile.Decoder Instr) b (pc + 1) = _
  exact dk_b (dk_u2 (dkA_tl h)) rfl
theorem dko_181 {b : ByteArray} {pc : Nat} {a x y : UInt8} {r : List UInt8} (h : dkA b pc (a :: x :: y :: r)) (e : a.toNat = 181) : Jvm.ClassFile.Decoder.instr pc b pc = .ok (.putfield (x.toNat * 256 + y.toNat), pc + 3) := by
  unfold Jvm.ClassFile.Decoder.instr
  refine dk_b (dk_u1 h e) ?_
  show (Jvm.ClassFile.Reader.u2 >>= fun v => pure (.putfield v) : Jvm.ClassFile.Decoder Instr) b (pc + 1) = _
  exact dk_b (dk_u2 (dkA_tl h)) rfl
theorem dko_182 {b : ByteArray} {pc : Nat} {a x y : UInt8} {r : List UInt8} (h : dkA b pc (a :: x :: y :: r)) (e : a.toNat = 182) : Jvm.ClassFile.Decoder.instr pc b pc = .ok (.invokevirtual (x.toNat * 256 + y.toNat), pc + 3) := by
  unfold Jvm.ClassFile.Decoder.instr
  refine dk_b (dk_u1 h e) ?_
  show (Jvm.ClassFile.Reader.u2 >>= fun v => pure (.invokevirtual v) : Jvm.ClassFile.Decoder Instr) b (pc + 1) = _
  exact dk_b (dk_u2 (dkA_tl h)) rfl
theorem dko_184 {b : ByteArray} {pc : Nat} {a x y : UInt8} {r : List UInt8} (h : dkA b pc (a :: x :: y :: r)) (e : a.toNat = 184) : Jvm.ClassFile.Decoder.instr pc b pc = .ok (.invokestatic (x.toNat * 256 + y.toNat), pc + 3) := by
  unfold Jvm.ClassFile.Decoder.instr
  refine dk_b (dk_u1 h e) ?_
  show (Jvm.ClassFile.Reader.u2 >>= fun v => pure (.invokestatic v) : Jvm.ClassFile.Decoder Instr) b (pc + 1) = _
  exact dk_b (dk_u2 (dkA_tl h)) rfl
theorem dko_153 {b : ByteArray} {pc : Nat} {a x y : UInt8} {r : List UInt8} (h : dkA b pc (a :: x :: y :: r)) (e : a.toNat = 153) : Jvm.ClassFile.Decoder.instr pc b pc = .ok (.ifCond .eq (Jvm.ClassFile.Reader.signed 16 (x.toNat * 256 + y.toNat)), pc + 3) := by
  unfold Jvm.ClassFile.Decoder.instr
  refine dk_b (dk_u1 h e) ?_
  show (Jvm.ClassFile.Reader.s2 >>= fun v => pure (.ifCond .eq v) : Jvm.ClassFile.Decoder Instr) b (pc + 1) = _
  exact dk_b (dk_s2 (dkA_tl h)) rfl
theorem dko_154 {b : ByteArray} {pc : Nat} {a x y : UInt8} {r : List UInt8} (h : dkA b pc (a :: x :: y :: r)) (e : a.toNat = 154) : Jvm.ClassFile.Decoder.instr pc b pc = .ok (.ifCond .ne (Jvm.ClassFile.Reader.signed 16 (x.toNat * 256 + y.toNat)), pc + 3) := by
  unfold Jvm.ClassFile.Decoder.instr
  refine dk_b (dk_u1 h e) ?_
  show (Jvm.ClassFile.Reader.s2 >>= fun v => pure (.ifCond .ne v) : Jvm.ClassFile.Decoder Instr) b (pc + 1) = _
  exact dk_b (dk_s2 (dkA_tl h)) rfl
theorem dko_155 {b : ByteArray} {pc : Nat} {a x y : UInt8} {r : List UInt8} (h : dkA b pc (a :: x :: y :: r)) (e : a.toNat = 155) : Jvm.ClassFile.Decoder.instr pc b pc = .ok (.ifCond .lt (Jvm.ClassFile.Reader.signed 16 (x.toNat * 256 + y.toNat)), pc + 3) := by
  unfold Jvm.ClassFile.Decoder.instr
  refine dk_b (dk_u1 h e) ?_
  show (Jvm.ClassFile.Reader.s2 >>= fun v => pure (.ifCond .lt v) : Jvm.ClassFile.Decoder Instr) b (pc + 1) = _
  exact dk_b (dk_s2 (dkA_tl h)) rfl
theorem dko_156 {b : ByteArray} {pc : Nat} {a x y : UInt8} {r : List UInt8} (h : dkA b pc (a :: x :: y :: r)) (e : a.toNat = 156) : Jvm.ClassFile.Decoder.instr pc b pc = .ok (.ifCond .ge (Jvm.ClassFile.Reader.signed 16 (x.toNat * 256 + y.toNat)), pc + 3) := by
  unfold Jvm.ClassFile.Decoder.instr
  refine dk_b (dk_u1 h e) ?_
  show (Jvm.ClassFile.Reader.s2 >>= fun v => pure (.ifCond .ge v) : Jvm.ClassFile.Decoder Instr) b (pc + 1) = _
  exact dk_b (dk_s2 (dkA_tl h)) rfl
theorem dko_157 {b : ByteArray} {pc : Nat} {a x y : UInt8} {r : List UInt8} (h : dkA b pc (a :: x :: y :: r)) (e : a.toNat = 157) : Jvm.ClassFile.Decoder.instr pc b pc = .ok (.ifCond .gt (Jvm.ClassFile.Reader.signed 16 (x.toNat * 256 + y.toNat)), pc + 3) := by
  unfold Jvm.ClassFile.Decoder.instr
  refine dk_b (dk_u1 h e) ?_
  show (Jvm.ClassFile.Reader.s2 >>= fun v => pure (.ifCond .gt v) : Jvm.ClassFile.Decoder Instr) b (pc + 1) = _
  exact dk_b (dk_s2 (dkA_tl h)) rfl
theorem dko_158 {b : ByteArray} {pc : Nat} {a x y : UInt8} {r : List UInt8} (h : dkA b pc (a :: x :: y :: r)) (e : a.toNat = 158) : Jvm.ClassFile.Decoder.instr pc b pc = .ok (.ifCond .le (Jvm.ClassFile.Reader.signed 16 (x.toNat * 256 + y.toNat)), pc + 3) := by
  unfold Jvm.ClassFile.Decoder.instr
  refine dk_b (dk_u1 h e) ?_
  show (Jvm.ClassFile.Reader.s2 >>= fun v => pure (.ifCond .le v) : Jvm.ClassFile.Decoder Instr) b (pc + 1) = _
  exact dk_b (dk_s2 (dkA_tl h)) rfl
theorem dko_159 {b : ByteArray} {pc : Nat} {a x y : UInt8} {r : List UInt8} (h : dkA b pc (a :: x :: y :: r)) (e : a.toNat = 159) : Jvm.ClassFile.Decoder.instr pc b pc = .ok (.if_icmp .eq (Jvm.ClassFile.Reader.signed 16 (x.toNat * 256 + y.toNat)), pc + 3) := by
  unfold Jvm.ClassFile.Decoder.instr
  refine dk_b (dk_u1 h e) ?_
  show (Jvm.ClassFile.Reader.s2 >>= fun v => pure (.if_icmp .eq v) : Jvm.ClassFile.Decoder Instr) b (pc + 1) = _
  exact dk_b (dk_s2 (dkA_tl h)) rfl
theorem dko_160 {b : ByteArray} {pc : Nat} {a x y : UInt8} {r : List UInt8} (h : dkA b pc (a :: x :: y :: r)) (e : a.toNat = 160) : Jvm.ClassFile.Decoder.instr pc b pc = .ok (.if_icmp .ne (Jvm.ClassFile.Reader.signed 16 (x.toNat * 256 + y.toNat)), pc + 3) := by
  unfold Jvm.ClassFile.Decoder.instr
  refine dk_b (dk_u1 h e) ?_
  show (Jvm.ClassFile.Reader.s2 >>= fun v => pure (.if_icmp .ne v) : Jvm.ClassFile.Decoder Instr) b (pc + 1) = _
  exact dk_b (dk_s2 (dkA_tl h)) rfl
theorem dko_161 {b : ByteArray} {pc : Nat} {a x y : UInt8} {r : List UInt8} (h : dkA b pc (a :: x :: y :: r)) (e : a.toNat = 161) : Jvm.ClassFile.Decoder.instr pc b pc = .ok (.if_icmp .lt (Jvm.ClassFile.Reader.signed 16 (x.toNat * 256 + y.toNat)), pc + 3) := by
  unfold Jvm.ClassFile.Decoder.instr
  refine dk_b (dk_u1 h e) ?_
  show (Jvm.ClassFile.Reader.s2 >>= fun v => pure (.if_icmp .lt v) : Jvm.ClassFile.Decoder Instr) b (pc + 1) = _
  exact dk_b (dk_s2 (dkA_tl h)) rfl
theorem dko_162 {b : ByteArray} {pc : Nat} {a x y : UInt8} {r : List UInt8} (h : dkA b pc (a :: x :: y :: r)) (e : a.toNat = 162) : Jvm.ClassFile.Decoder.instr pc b pc = .ok (.if_icmp .ge (Jvm.ClassFile.Reader.signed 16 (x.toNat * 256 + y.toNat)), pc + 3) := by
  unfold Jvm.ClassFile.Decoder.instr
  refine dk_b (dk_u1 h e) ?_
  show (Jvm.ClassFile.Reader.s2 >>= fun v => pure (.if_icmp .ge v) : Jvm.ClassFile.Decoder Instr) b (pc + 1) = _
  exact dk_b (dk_s2 (dkA_tl h)) rfl
theorem dko_163 {b : ByteArray} {pc : Nat} {a x y : UInt8} {r : List UInt8} (h : dkA b pc (a :: x :: y :: r)) (e : a.toNat = 163) : Jvm.ClassFile.Decoder.instr pc b pc = .ok (.if_icmp .gt (Jvm.ClassFile.Reader.signed 16 (x.toNat * 256 + y.toNat)), pc + 3) := by
  unfold Jvm.ClassFile.Decoder.instr
  refine dk_b (dk_u1 h e) ?_
  show (Jvm.ClassFile.Reader.s2 >>= fun v => pure (.if_icmp .gt v) : Jvm.ClassFile.Decoder Instr) b (pc + 1) = _
  exact dk_b (dk_s2 (dkA_tl h)) rfl
theorem dko_164 {b : ByteArray} {pc : Nat} {a x y : UInt8} {r : List UInt8} (h : dkA b pc (a :: x :: y :: r)) (e : a.toNat = 164) : Jvm.ClassFile.Decoder.instr pc b pc = .ok (.if_icmp .le (Jvm.ClassFile.Reader.signed 16 (x.toNat * 256 + y.toNat)), pc + 3) := by
  unfold Jvm.ClassFile.Decoder.instr
  refine dk_b (dk_u1 h e) ?_
  show (Jvm.ClassFile.Reader.s2 >>= fun v => pure (.if_icmp .le v) : Jvm.ClassFile.Decoder Instr) b (pc + 1) = _
  exact dk_b (dk_s2 (dkA_tl h)) rfl
theorem dko_167 {b : ByteArray} {pc : Nat} {a x y : UInt8} {r : List UInt8} (h : dkA b pc (a :: x :: y :: r)) (e : a.toNat = 167) : Jvm.ClassFile.Decoder.instr pc b pc = .ok (.goto (Jvm.ClassFile.Reader.signed 16 (x.toNat * 256 + y.toNat)), pc + 3) := by
  unfold Jvm.ClassFile.Decoder.instr
  refine dk_b (dk_u1 h e) ?_
  show (Jvm.ClassFile.Reader.s2 >>= fun v => pure (.goto v) : Jvm.ClassFile.Decoder Instr) b (pc + 1) = _
  exact dk_b (dk_s2 (dkA_tl h)) rfl
theorem dko_132 {b : ByteArray} {pc : Nat} {a x y : UInt8} {r : List UInt8} (h : dkA b pc (a :: x :: y :: r)) (e : a.toNat = 132) : Jvm.ClassFile.Decoder.instr pc b pc = .ok (.iinc x.toNat (Jvm.ClassFile.Reader.signed 8 y.toNat), pc + 3) := by
  unfold Jvm.ClassFile.Decoder.instr
  refine dk_b (dk_u1 h e) ?_
  show (Jvm.ClassFile.Reader.u1 >>= fun v => Jvm.ClassFile.Reader.s1 >>= fun w => pure (.iinc v w) : Jvm.ClassFile.Decoder Instr) b (pc + 1) = _
  exact dk_b (dk_u1 (dkA_tl h) rfl) (dk_b (dk_s1 (dkA_tl (dkA_tl h))) rfl)
def dk1 (f : Nat → Bool) (ln : Nat) (l : List UInt8) : Option (List UInt8) := match l with
  | a :: r => match f a.toNat && Nat.beq ln 1 with
    | true => some r
    | false => none
  | [] => none
def dk2 (op : Nat) (f : Nat → Bool) (ln : Nat) (l : List UInt8) : Option (List UInt8) := match l with
  | a :: x :: r => match Nat.beq a.toNat op && (f x.toNat && Nat.beq ln 2) with
    | true => some r
    | false => none
  | _ => none
def dk3 (op : Nat) (f : Nat → Nat → Bool) (ln : Nat) (l : List UInt8) : Option (List UInt8) := match l with
  | a :: x :: y :: r => match Nat.beq a.toNat op && (f x.toNat y.toNat && Nat.beq ln 3) with
    | true => some r
    | false => none
  | _ => none
theorem dk1_ok {b : ByteArray} {pc ln : Nat} {f : Nat → Bool} {l r : List UInt8} {i : Instr} (h : dkA b pc l) (hc : dk1 f ln l = some r) (ho : ∀ (a : UInt8) (s : List UInt8), dkA b pc (a :: s) → f a.toNat = true → Jvm.ClassFile.Decoder.instr pc b pc = .ok (i, pc + 1)) : decode b pc = .ok (i, ln) ∧ dkA b (pc + ln) r := by
  cases l with
  | nil => exact absurd hc (by simp [dk1])
  | cons a s =>
    simp only [dk1] at hc
    split at hc
    · rename_i e
      rw [Bool.and_eq_true] at e
      cases hc
      rw [Nat.eq_of_beq_eq_true e.2]
      exact ⟨dk_d (ho a _ h e.1), dkA_tl h⟩
    · exact absurd hc (by simp)
theorem dk2_ok {b : ByteArray} {pc ln op : Nat} {f : Nat → Bool} {l r : List UInt8} {i : Instr} (h : dkA b pc l) (hc : dk2 op f ln l = some r) (ho : ∀ (a x : UInt8) (s : List UInt8), dkA b pc (a :: x :: s) → a.toNat = op → f x.toNat = true → Jvm.ClassFile.Decoder.instr pc b pc = .ok (i, pc + 2)) : decode b pc = .ok (i, ln) ∧ dkA b (pc + ln) r := by
  match l, h, hc with
  | [], _, hc => exact absurd hc (by simp [dk2])
  | [_], _, hc => exact absurd hc (by simp [dk2])
  | a :: x :: s, h, hc =>
    simp only [dk2] at hc
    split at hc
    · rename_i e
      rw [Bool.and_eq_true, Bool.and_eq_true] at e
      cases hc
      rw [Nat.eq_of_beq_eq_true e.2.2]
      exact ⟨dk_d (ho a x _ h (Nat.eq_of_beq_eq_true e.1) e.2.1), dkA_tl (dkA_tl h)⟩
    · exact absurd hc (by simp)
theorem dk3_ok {b : ByteArray} {pc ln op : Nat} {f : Nat → Nat → Bool} {l r : List UInt8} {i : Instr} (h : dkA b pc l) (hc : dk3 op f ln l = some r) (ho : ∀ (a x y : UInt8) (s : List UInt8), dkA b pc (a :: x :: y :: s) → a.toNat = op → f x.toNat y.toNat = true → Jvm.ClassFile.Decoder.instr pc b pc = .ok (i, pc + 3)) : decode b pc = .ok (i, ln) ∧ dkA b (pc + ln) r := by
  match l, h, hc with
  | [], _, hc => exact absurd hc (by simp [dk3])
  | [_], _, hc => exact absurd hc (by simp [dk3])
  | [_, _], _, hc => exact absurd hc (by simp [dk3])
  | a :: x :: y :: s, h, hc =>
    simp only [dk3] at hc
    split at hc
    · rename_i e
      rw [Bool.and_eq_true, Bool.and_eq_true] at e
      cases hc
      rw [Nat.eq_of_beq_eq_true e.2.2]
      exact ⟨dk_d (ho a x y _ h (Nat.eq_of_beq_eq_true e.1) e.2.1), dkA_tl (dkA_tl (dkA_tl h))⟩
    · exact absurd hc (by simp)
def dkO (c : Jvm.ClassFile.Cond) : Nat := match c with
  | .eq => 0
  | .ne => 1
  | .lt => 2
  | .ge => 3
  | .gt => 4
  | .le => 5
def dkU (i x y : Nat) : Bool := Nat.beq (x * 256 + y) i
def dkS (v : Int) (x y : Nat) : Bool := decide (Jvm.ClassFile.Reader.signed 16 (x * 256 + y) = v)
def dkB (v : Int) (x : Nat) : Bool := decide (Jvm.ClassFile.Reader.signed 8 x = v)
def dkC (b : ByteArray) (pc : Nat) (i : Instr) (ln : Nat) (l : List UInt8) : Option (List UInt8) := match i with
  | .iload_n n => dk1 (fun x => Nat.beq x (26 + n.val)) ln l
  | .aload_n n => dk1 (fun x => Nat.beq x (42 + n.val)) ln l
  | .istore_n n => dk1 (fun x => Nat.beq x (59 + n.val)) ln l
  | .iconst v => dk1 (fun x => decide ((x : Int) = v + 3 ∧ -1 ≤ v ∧ v ≤ 5)) ln l
  | .ireturn => dk1 (fun x => Nat.beq x 172) ln l
  | .iadd => dk1 (fun x => Nat.beq x 96) ln l
  | .iaload => dk1 (fun x => Nat.beq x 46) ln l
  | .pop => dk1 (fun x => Nat.beq x 87) ln l
  | .aaload => dk1 (fun x => Nat.beq x 50) ln l
  | .iastore => dk1 (fun x => Nat.beq x 79) ln l
  | .i2l => dk1 (fun x => Nat.beq x 133) ln l
  | .isub => dk1 (fun x => Nat.beq x 100) ln l
  | .imul => dk1 (fun x => Nat.beq x 104) ln l
  | .iload k => dk2 21 (fun x => Nat.beq x k) ln l
  | .istore k => dk2 54 (fun x => Nat.beq x k) ln l
  | .ldc k => dk2 18 (fun x => Nat.beq x k) ln l
  | .bipush v => dk2 16 (dkB v) ln l
  | .sipush v => dk3 17 (dkS v) ln l
  | .getfield k => dk3 180 (dkU k) ln l
  | .putfield k => dk3 181 (dkU k) ln l
  | .invokevirtual k => dk3 182 (dkU k) ln l
  | .invokestatic k => dk3 184 (dkU k) ln l
  | .ifCond c v => dk3 (153 + dkO c) (dkS v) ln l
  | .if_icmp c v => dk3 (159 + dkO c) (dkS v) ln l
  | .goto v => dk3 167 (dkS v) ln l
  | .iinc k v => dk3 132 (fun x y => Nat.beq x k && dkB v y) ln l
  | i => match decide (decode b pc = .ok (i, ln)) with
    | true => some (l.drop ln)
    | false => none
theorem dkC_ok {b : ByteArray} {pc ln : Nat} {i : Instr} {l r : List UInt8} (h : dkA b pc l) (hc : dkC b pc i ln l = some r) : decode b pc = .ok (i, ln) ∧ dkA b (pc + ln) r := by
  unfold dkC at hc
  split at hc
  · rename_i n
    refine dk1_ok h hc (fun a s g e => ?_)
    have e := Nat.eq_of_beq_eq_true e
    obtain ⟨n, hn⟩ := n
    have q : n = 0 ∨ n = 1 ∨ n = 2 ∨ n = 3 := by omega
    rcases q with rfl | rfl | rfl | rfl
    · exact dko_26 g e
    · exact dko_27 g e
    · exact dko_28 g e
    · exact dko_29 g e
  · rename_i n
    refine dk1_ok h hc (fun a s g e => ?_)
    have e := Nat.eq_of_beq_eq_true e
    obtain ⟨n, hn⟩ := n
    have q : n = 0 ∨ n = 1 ∨ n = 2 ∨ n = 3 := by omega
    rcases q with rfl | rfl | rfl | rfl
    · exact dko_42 g e
    · exact dko_43 g e
    · exact dko_44 g e
    · exact dko_45 g e
  · rename_i n
    refine dk1_ok h hc (fun a s g e => ?_)
    have e := Nat.eq_of_beq_eq_true e
    obtain ⟨n, hn⟩ := n
    have q : n = 0 ∨ n = 1 ∨ n = 2 ∨ n = 3 := by omega
    rcases q with rfl | rfl | rfl | rfl
    · exact dko_59 g e
    · exact dko_60 g e
    · exact dko_61 g e
    · exact dko_62 g e
  · refine dk1_ok h hc (fun a s g e => ?_)
    obtain ⟨e1, e2, e3⟩ := of_decide_eq_true e
    rename_i v
    have q : v = -1 ∨ v = 0 ∨ v = 1 ∨ v = 2 ∨ v = 3 ∨ v = 4 ∨ v = 5 := by omega
    rcases q with rfl | rfl | rfl | rfl | rfl | rfl | rfl
    · exact dko_2 g (by omega)
    · exact dko_3 g (by omega)
    · exact dko_4 g (by omega)
    · exact dko_5 g (by omega)
    · exact dko_6 g (by omega)
    · exact dko_7 g (by omega)
    · exact dko_8 g (by omega)
  · exact dk1_ok h hc (fun a s g e => dko_172 g (Nat.eq_of_beq_eq_true e))
  · exact dk1_ok h hc (fun a s g e => dko_96 g (Nat.eq_of_beq_eq_true e))
  · exact dk1_ok h hc (fun a s g e => dko_46 g (Nat.eq_of_beq_eq_true e))
  · exact dk1_ok h hc (fun a s g e => dko_87 g (Nat.eq_of_beq_eq_true e))
  · exact dk1_ok h hc (fun a s g e => dko_50 g (Nat.eq_of_beq_eq_true e))
  · exact dk1_ok h hc (fun a s g e => dko_79 g (Nat.eq_of_beq_eq_true e))
  · exact dk1_ok h hc (fun a s g e => dko_133 g (Nat.eq_of_beq_eq_true e))
  · exact dk1_ok h hc (fun a s g e => dko_100 g (Nat.eq_of_beq_eq_true e))
  · exact dk1_ok h hc (fun a s g e => dko_104 g (Nat.eq_of_beq_eq_true e))
  · exact dk2_ok h hc (fun a x s g e f => by rw [← Nat.eq_of_beq_eq_true f]; exact dko_21 g e)
  · exact dk2_ok h hc (fun a x s g e f => by rw [← Nat.eq_of_beq_eq_true f]; exact dko_54 g e)
  · exact dk2_ok h hc (fun a x s g e f => by rw [← Nat.eq_of_beq_eq_true f]; exact dko_18 g e)
  · exact dk2_ok h hc (fun a x s g e f => by rw [← of_decide_eq_true f]; exact dko_16 g e)
  · exact dk3_ok h hc (fun a x y s g e f => by rw [← of_decide_eq_true f]; exact dko_17 g e)
  · exact dk3_ok h hc (fun a x y s g e f => by rw [← Nat.eq_of_beq_eq_true f]; exact dko_180 g e)
  · exact dk3_ok h hc (fun a x y s g e f => by rw [← Nat.eq_of_beq_eq_true f]; exact dko_181 g e)
  · exact dk3_ok h hc (fun a x y s g e f => by rw [← Nat.eq_of_beq_eq_true f]; exact dko_182 g e)
  · exact dk3_ok h hc (fun a x y s g e f => by rw [← Nat.eq_of_beq_eq_true f]; exact dko_184 g e)
  · rename_i c v
    cases c
    · exact dk3_ok h hc (fun a x y s g e f => by rw [← of_decide_eq_true f]; exact dko_153 g e)
    · exact dk3_ok h hc (fun a x y s g e f => by rw [← of_decide_eq_true f]; exact dko_154 g e)
    · exact dk3_ok h hc (fun a x y s g e f => by rw [← of_decide_eq_true f]; exact dko_155 g e)
    · exact dk3_ok h hc (fun a x y s g e f => by rw [← of_decide_eq_true f]; exact dko_156 g e)
    · exact dk3_ok h hc (fun a x y s g e f => by rw [← of_decide_eq_true f]; exact dko_157 g e)
    · exact dk3_ok h hc (fun a x y s g e f => by rw [← of_decide_eq_true f]; exact dko_158 g e)
  · rename_i c v
    cases c
    · exact dk3_ok h hc (fun a x y s g e f => by rw [← of_decide_eq_true f]; exact dko_159 g e)
    · exact dk3_ok h hc (fun a x y s g e f => by rw [← of_decide_eq_true f]; exact dko_160 g e)
    · exact dk3_ok h hc (fun a x y s g e f => by rw [← of_decide_eq_true f]; exact dko_161 g e)
    · exact dk3_ok h hc (fun a x y s g e f => by rw [← of_decide_eq_true f]; exact dko_162 g e)
    · exact dk3_ok h hc (fun a x y s g e f => by rw [← of_decide_eq_true f]; exact dko_163 g e)
    · exact dk3_ok h hc (fun a x y s g e f => by rw [← of_decide_eq_true f]; exact dko_164 g e)
  · exact dk3_ok h hc (fun a x y s g e f => by rw [← of_decide_eq_true f]; exact dko_167 g e)
  · exact dk3_ok h hc (fun a x y s g e f => by
      rw [Bool.and_eq_true] at f
      rw [← Nat.eq_of_beq_eq_true f.1, ← of_decide_eq_true f.2]
      exact dko_132 g e)
  · split at hc
    · rename_i e
      cases hc
      exact ⟨of_decide_eq_true e, dkA_drop h⟩
    · exact absurd hc (by simp)
def dkT (q : Nat × Row) : Bool := match q.2.1 with
  | .if_icmp _ off => decide ((q.1 : Int) + off = (q.2.2.2.1 : Int))
  | .ifCond _ off => decide ((q.1 : Int) + off = (q.2.2.2.1 : Int))
  | .goto off => decide ((q.1 : Int) + off = (q.2.2.2.1 : Int))
  | .tableswitch d lo hi offs => swOk q.1 d lo hi offs q.2
  | _ => true
def dkW (b : ByteArray) : List (Nat × Row) → Nat → List UInt8 → Bool
  | [], _, _ => true
  | q :: t, pc, l => match Nat.beq pc q.1 with
    | false => false
    | true => match dkC b q.1 q.2.1 q.2.2.1 l with
      | none => false
      | some r => match dkT q with
        | false => false
        | true => dkW b t (q.1 + q.2.2.1) r
theorem dkW_ok {b : ByteArray} : ∀ (t : List (Nat × Row)) (pc : Nat) (l : List UInt8), dkA b pc l → dkW b t pc l = true → t.all (rwOk b) = true
  | [], _, _, _, _ => rfl
  | q :: t, pc, l, h, hw => by
    rw [dkW] at hw
    split at hw
    · exact absurd hw (by simp)
    · rename_i e
      have e := Nat.eq_of_beq_eq_true e
      split at hw
      · exact absurd hw (by simp)
      · rename_i r hc
        split at hw
        · exact absurd hw (by simp)
        · rename_i ht
          rw [e] at h
          obtain ⟨h1, h2⟩ := dkC_ok h hc
          rw [List.all_cons, Bool.and_eq_true]
          refine ⟨?_, dkW_ok t _ r h2 hw⟩
          unfold rwOk
          rw [Bool.and_eq_true]
          first
            | exact ⟨decide_eq_true h1, ht⟩
            | (refine ⟨decide_eq_true h1, ?_⟩; unfold dkT at ht; exact ht)
set_option maxRecDepth 100000 in
theorem zr0 : (zfl zL0).all (rwOk prog_2_method_2_code) = true := dkW_ok _ 0 _ (dkA_0 _) (by decide +kernel)
set_option maxRecDepth 100000 in
theorem zr1 : (zfl zL1).all (rwOk prog_2_method_3_code) = true := dkW_ok _ 0 _ (dkA_0 _) (by decide +kernel)
set_option maxRecDepth 100000 in
theorem zr2 : (zfl zL2).all (rwOk prog_2_method_4_code) = true := dkW_ok _ 0 _ (dkA_0 _) (by decide +kernel)
set_option maxRecDepth 100000 in
theorem zr3 : (zfl zL3).all (rwOk prog_2_method_5_code) = true := dkW_ok _ 0 _ (dkA_0 _) (by decide +kernel)
set_option maxRecDepth 100000 in
theorem zr4 : (zfl zL4).all (rwOk prog_2_method_6_code) = true := dkW_ok _ 0 _ (dkA_0 _) (by decide +kernel)
set_option maxRecDepth 100000 in
theorem zr5 : (zfl zL5).all (rwOk prog_2_method_7_code) = true := dkW_ok _ 0 _ (dkA_0 _) (by decide +kernel)
set_option maxRecDepth 100000 in
theorem zr6 : (zfl zL6).all (rwOk prog_2_method_8_code) = true := dkW_ok _ 0 _ (dkA_0 _) (by decide +kernel)
set_option maxRecDepth 100000 in
theorem zr7 : (zfl zL7).all (rwOk prog_2_method_9_code) = true := dkW_ok _ 0 _ (dkA_0 _) (by decide +kernel)
set_option maxRecDepth 100000 in
theorem zr8 : (zfl zL8).all (rwOk prog_2_method_10_code) = true := dkW_ok _ 0 _ (dkA_0 _) (by decide +kernel)
set_option maxRecDepth 100000 in
theorem zr9 : (zfl zL9).all (rwOk prog_2_method_11_code) = true := dkW_ok _ 0 _ (dkA_0 _) (by decide +kernel)
set_option maxRecDepth 100000 in
theorem zr10 : (zfl zL10).all (rwOk prog_2_method_12_code) = true := dkW_ok _ 0 _ (dkA_0 _) (by decide +kernel)
set_option maxRecDepth 100000 in
theorem zr11 : (zfl zL11).all (rwOk prog_2_method_13_code) = true := dkW_ok _ 0 _ (dkA_0 _) (by decide +kernel)
set_option maxRecDepth 100000 in
theorem zr12 : (zfl zL12).all (rwOk prog_2_method_14_code) = true := dkW_ok _ 0 _ (dkA_0 _) (by decide +kernel)
set_option maxRecDepth 100000 in
theorem zr13 : (zfl zL13).all (rwOk prog_2_method_15_code) = true := dkW_ok _ 0 _ (dkA_0 _) (by decide +kernel)
set_option maxRecDepth 100000 in
theorem zr14 : (zfl zL14).all (rwOk prog_2_method_16_code) = true := dkW_ok _ 0 _ (dkA_0 _) (by decide +kernel)
set_option maxRecDepth 100000 in
theorem zr15 : (zfl zL15).all (rwOk prog_2_method_17_code) = true := dkW_ok _ 0 _ (dkA_0 _) (by decide +kernel)
set_option maxRecDepth 100000 in
theorem zr16 : (zfl zL16).all (rwOk prog_2_method_18_code) = true := dkW_ok _ 0 _ (dkA_0 _) (by decide +kernel)
set_option maxRecDepth 100000 in
theorem zr17 : (zfl zL17).all (rwOk prog_2_method_19_code) = true := dkW_ok _ 0 _ (dkA_0 _) (by decide +kernel)
set_option maxRecDepth 100000 in
theorem zr18 : (zfl zL18).all (rwOk prog_2_method_20_code) = true := dkW_ok _ 0 _ (dkA_0 _) (by decide +kernel)
set_option maxRecDepth 100000 in
theorem zr19 : (zfl zL19).all (rwOk prog_2_method_21_code) = true := dkW_ok _ 0 _ (dkA_0 _) (by decide +kernel)
set_option maxRecDepth 100000 in
theorem zr20 : (zfl zL20).all (rwOk prog_2_method_22_code) = true := dkW_ok _ 0 _ (dkA_0 _) (by decide +kernel)
set_option maxRecDepth 100000 in
theorem zr21 : (zfl zL21).all (rwOk prog_2_method_23_code) = true := dkW_ok _ 0 _ (dkA_0 _) (by decide +kernel)
set_option maxRecDepth 100000 in
theorem zr22 : (zfl zL22).all (rwOk prog_2_method_24_code) = true := dkW_ok _ 0 _ (dkA_0 _) (by decide +kernel)
set_option maxRecDepth 100000 in
theorem zr23 : (zfl zL23).all (rwOk prog_2_method_25_code) = true := dkW_ok _ 0 _ (dkA_0 _) (by decide +kernel)
set_option maxRecDepth 100000 in
theorem zr24 : (zfl zL24).all (rwOk prog_3_method_2_code) = true := dkW_ok _ 0 _ (dkA_0 _) (by decide +kernel)
set_option maxRecDepth 100000 in
theorem zr25 : (zfl zL25).all (rwOk prog_3_method_3_code) = true := dkW_ok _ 0 _ (dkA_0 _) (by decide +kernel)
set_option maxRecDepth 100000 in
theorem zr26 : (zfl zL26).all (rwOk prog_3_method_4_code) = true := dkW_ok _ 0 _ (dkA_0 _) (by decide +kernel)
set_option maxRecDepth 100000 in
theorem zr27 : (zfl zL27).all (rwOk prog_3_method_5_code) = true := dkW_ok _ 0 _ (dkA_0 _) (by decide +kernel)
set_option maxRecDepth 100000 in
theorem zr28 : (zfl zL28).all (rwOk prog_3_method_6_code) = true := dkW_ok _ 0 _ (dkA_0 _) (by decide +kernel)
set_option maxRecDepth 100000 in
theorem zr29 : (zfl zL29).all (rwOk prog_3_method_7_code) = true := dkW_ok _ 0 _ (dkA_0 _) (by decide +kernel)
set_option maxRecDepth 100000 in
theorem zr30 : (zfl zL30).all (rwOk prog_5_method_2_code) = true := dkW_ok _ 0 _ (dkA_0 _) (by decide +kernel)
set_option maxRecDepth 100000 in
theorem zr31 : (zfl zL31).all (rwOk prog_5_method_3_code) = true := dkW_ok _ 0 _ (dkA_0 _) (by decide +kernel)
set_option maxRecDepth 100000 in
theorem zr32 : (zfl zL32).all (rwOk prog_5_method_4_code) = true := dkW_ok _ 0 _ (dkA_0 _) (by decide +kernel)
set_option maxRecDepth 100000 in
theorem zr33 : (zfl zL33).all (rwOk prog_5_method_5_code) = true := dkW_ok _ 0 _ (dkA_0 _) (by decide +kernel)
set_option maxRecDepth 100000 in
theorem zr34 : (zfl zL34).all (rwOk prog_6_method_2_code) = true := dkW_ok _ 0 _ (dkA_0 _) (by decide +kernel)
set_option maxRecDepth 100000 in
theorem zr35 : (zfl zL35).all (rwOk prog_6_method_3_code) = true := dkW_ok _ 0 _ (dkA_0 _) (by decide +kernel)
set_option maxRecDepth 100000 in
theorem zr36 : (zfl zL36).all (rwOk prog_7_method_2_code) = true := dkW_ok _ 0 _ (dkA_0 _) (by decide +kernel)
set_option maxRecDepth 100000 in
theorem zr37 : (zfl zL37).all (rwOk prog_7_method_3_code) = true := dkW_ok _ 0 _ (dkA_0 _) (by decide +kernel)
set_option maxRecDepth 100000 in
theorem zr38 : (zfl zL38).all (rwOk prog_7_method_4_code) = true := dkW_ok _ 0 _ (dkA_0 _) (by decide +kernel)
set_option maxRecDepth 100000 in
theorem zr39 : (zfl zL39).all (rwOk prog_7_method_5_code) = true := dkW_ok _ 0 _ (dkA_0 _) (by decide +kernel)
set_option maxRecDepth 100000 in
theorem zr40 : (zfl zL40).all (rwOk prog_7_method_6_code) = true := dkW_ok _ 0 _ (dkA_0 _) (by decide +kernel)
set_option maxRecDepth 100000 in
theorem zr41 : (zfl zL41).all (rwOk prog_7_method_7_code) = true := dkW_ok _ 0 _ (dkA_0 _) (by decide +kernel)
set_option maxRecDepth 100000 in
theorem zr42 : (zfl zL42).all (rwOk prog_7_method_8_code) = true := dkW_ok _ 0 _ (dkA_0 _) (by decide +kernel)
set_option maxRecDepth 100000 in
theorem zr43 : (zfl zL43).all (rwOk prog_7_method_9_code) = true := dkW_ok _ 0 _ (dkA_0 _) (by decide +kernel)
set_option maxRecDepth 100000 in
theorem zr44 : (zfl zL44).all (rwOk prog_7_method_10_code) = true := dkW_ok _ 0 _ (dkA_0 _) (by decide +kernel)
set_option maxRecDepth 100000 in
theorem zr45 : (zfl zL45).all (rwOk prog_7_method_11_code) = true := dkW_ok _ 0 _ (dkA_0 _) (by decide +kernel)
set_option maxRecDepth 100000 in
theorem zr46 : (zfl zL46).all (rwOk prog_7_method_12_code) = true := dkW_ok _ 0 _ (dkA_0 _) (by decide +kernel)
set_option maxRecDepth 100000 in
theorem zr47 : (zfl zL47).all (rwOk prog_7_method_13_code) = true := dkW_ok _ 0 _ (dkA_0 _) (by decide +kernel)
set_option maxRecDepth 100000 in
theorem zr48 : (zfl zL48).all (rwOk prog_7_method_14_code) = true := dkW_ok _ 0 _ (dkA_0 _) (by decide +kernel)
set_option maxRecDepth 100000 in
theorem zr49 : (zfl zL49).all (rwOk prog_8_method_2_code) = true := dkW_ok _ 0 _ (dkA_0 _) (by decide +kernel)
set_option maxRecDepth 100000 in
theorem zr50 : (zfl zL50).all (rwOk prog_8_method_3_code) = true := dkW_ok _ 0 _ (dkA_0 _) (by decide +kernel)
set_option maxRecDepth 100000 in
theorem zr51 : (zfl zL51).all (rwOk prog_8_method_4_code) = true := dkW_ok _ 0 _ (dkA_0 _) (by decide +kernel)
set_option maxRecDepth 100000 in
theorem zr52 : (zfl zL52).all (rwOk prog_8_method_5_code) = true := dkW_ok _ 0 _ (dkA_0 _) (by decide +kernel)
set_option maxRecDepth 100000 in
theorem zr53 : (zfl zL53).all (rwOk prog_8_method_6_code) = true := dkW_ok _ 0 _ (dkA_0 _) (by decide +kernel)
set_option maxRecDepth 100000 in
theorem zr54 : (zfl zL54).all (rwOk prog_1_method_2_code) = true := dkW_ok _ 0 _ (dkA_0 _) (by decide +kernel)
set_option maxRecDepth 100000 in
theorem zr55 : (zfl zL55).all (rwOk prog_1_method_3_code) = true := dkW_ok _ 0 _ (dkA_0 _) (by decide +kernel)
set_option maxRecDepth 100000 in
theorem zr56 : (zfl zL56).all (rwOk prog_1_method_4_code) = true := dkW_ok _ 0 _ (dkA_0 _) (by decide +kernel)
set_option maxRecDepth 100000 in
theorem zr57 : (zfl zL57).all (rwOk prog_1_method_5_code) = true := dkW_ok _ 0 _ (dkA_0 _) (by decide +kernel)
set_option maxRecDepth 100000 in
theorem zr58 : (zfl zL58).all (rwOk prog_1_method_6_code) = true := dkW_ok _ 0 _ (dkA_0 _) (by decide +kernel)
set_option maxRecDepth 100000 in
theorem zr59 : (zfl zL59).all (rwOk prog_1_method_7_code) = true := dkW_ok _ 0 _ (dkA_0 _) (by decide +kernel)
set_option maxRecDepth 100000 in
theorem zr60 : (zfl zL60).all (rwOk prog_1_method_8_code) = true := dkW_ok _ 0 _ (dkA_0 _) (by decide +kernel)
set_option maxRecDepth 100000 in
theorem zr61 : (zfl zL61).all (rwOk prog_1_method_9_code) = true := dkW_ok _ 0 _ (dkA_0 _) (by decide +kernel)
set_option maxRecDepth 100000 in
theorem zr62 : (zfl zL62).all (rwOk prog_1_method_10_code) = true := dkW_ok _ 0 _ (dkA_0 _) (by decide +kernel)
set_option maxRecDepth 100000 in
theorem zr63 : (zfl zL63).all (rwOk prog_1_method_11_code) = true := dkW_ok _ 0 _ (dkA_0 _) (by decide +kernel)
set_option maxRecDepth 100000 in
theorem zr64 : (zfl zL64).all (rwOk prog_1_method_12_code) = true := dkW_ok _ 0 _ (dkA_0 _) (by decide +kernel)
set_option maxRecDepth 100000 in
theorem zr65 : (zfl zL65).all (rwOk prog_1_method_13_code) = true := dkW_ok _ 0 _ (dkA_0 _) (by decide +kernel)
set_option maxRecDepth 100000 in
theorem zr66 : (zfl zL66).all (rwOk prog_1_method_14_code) = true := dkW_ok _ 0 _ (dkA_0 _) (by decide +kernel)
set_option maxRecDepth 100000 in
theorem zr67 : (zfl zL67).all (rwOk prog_1_method_15_code) = true := dkW_ok _ 0 _ (dkA_0 _) (by decide +kernel)
set_option maxRecDepth 100000 in
theorem zr68 : (zfl zL68).all (rwOk prog_1_method_16_code) = true := dkW_ok _ 0 _ (dkA_0 _) (by decide +kernel)
set_option maxRecDepth 100000 in
theorem zr69 : (zfl zL69).all (rwOk prog_1_method_17_code) = true := dkW_ok _ 0 _ (dkA_0 _) (by decide +kernel)
set_option maxRecDepth 100000 in
theorem zr70 : (zfl zL70).all (rwOk prog_1_method_18_code) = true := dkW_ok _ 0 _ (dkA_0 _) (by decide +kernel)
set_option maxRecDepth 100000 in
theorem zr71 : (zfl zL71).all (rwOk prog_1_method_19_code) = true := dkW_ok _ 0 _ (dkA_0 _) (by decide +kernel)
set_option maxRecDepth 100000 in
theorem zr72 : (zfl zL72).all (rwOk prog_1_method_20_code) = true := dkW_ok _ 0 _ (dkA_0 _) (by decide +kernel)
set_option maxRecDepth 100000 in
theorem zr73 : (zfl zL73).all (rwOk prog_1_method_21_code) = true := dkW_ok _ 0 _ (dkA_0 _) (by decide +kernel)
set_option maxRecDepth 100000 in
theorem zr74 : (zfl zL74).all (rwOk prog_1_method_22_code) = true := dkW_ok _ 0 _ (dkA_0 _) (by decide +kernel)
set_option maxRecDepth 100000 in
theorem zr75 : (zfl zL75).all (rwOk prog_1_method_23_code) = true := dkW_ok _ 0 _ (dkA_0 _) (by decide +kernel)
set_option maxRecDepth 100000 in
theorem zr76 : (zfl zL76).all (rwOk prog_1_method_24_code) = true := dkW_ok _ 0 _ (dkA_0 _) (by decide +kernel)
set_option maxRecDepth 100000 in
theorem zr77 : (zfl zL77).all (rwOk prog_1_method_25_code) = true := dkW_ok _ 0 _ (dkA_0 _) (by decide +kernel)
set_option maxRecDepth 100000 in
theorem zr78 : (zfl zL78).all (rwOk prog_1_method_26_code) = true := dkW_ok _ 0 _ (dkA_0 _) (by decide +kernel)
set_option maxRecDepth 100000 in
theorem zr79 : (zfl zL79).all (rwOk prog_1_method_27_code) = true := dkW_ok _ 0 _ (dkA_0 _) (by decide +kernel)
set_option maxRecDepth 100000 in
theorem zr80 : (zfl zL80).all (rwOk prog_1_method_28_code) = true := dkW_ok _ 0 _ (dkA_0 _) (by decide +kernel)
set_option maxRecDepth 100000 in
theorem zr81 : (zfl zL81).all (rwOk prog_1_method_29_code) = true := dkW_ok _ 0 _ (dkA_0 _) (by decide +kernel)
set_option maxRecDepth 100000 in
theorem zr82 : (zfl zL82).all (rwOk prog_1_method_30_code) = true := dkW_ok _ 0 _ (dkA_0 _) (by decide +kernel)
set_option maxRecDepth 100000 in
theorem zr83 : (zfl zL83).all (rwOk prog_1_method_31_code) = true := dkW_ok _ 0 _ (dkA_0 _) (by decide +kernel)
set_option maxRecDepth 100000 in
theorem zr84 : (zfl zL84).all (rwOk prog_1_method_32_code) = true := dkW_ok _ 0 _ (dkA_0 _) (by decide +kernel)
set_option maxRecDepth 100000 in
theorem zr85 : (zfl zL85).all (rwOk prog_1_method_33_code) = true := dkW_ok _ 0 _ (dkA_0 _) (by decide +kernel)
set_option maxRecDepth 100000 in
theorem zr86 : (zfl zL86).all (rwOk prog_1_method_34_code) = true := dkW_ok _ 0 _ (dkA_0 _) (by decide +kernel)
set_option maxRecDepth 100000 in
theorem zr87 : (zfl zL87).all (rwOk prog_1_method_35_code) = true := dkW_ok _ 0 _ (dkA_0 _) (by decide +kernel)
set_option maxRecDepth 100000 in
theorem zr88 : (zfl zL88).all (rwOk prog_1_method_36_code) = true := dkW_ok _ 0 _ (dkA_0 _) (by decide +kernel)
set_option maxRecDepth 100000 in
theorem zr89 : (zfl zL89).all (rwOk prog_1_method_37_code) = true := dkW_ok _ 0 _ (dkA_0 _) (by decide +kernel)
set_option maxRecDepth 100000 in
theorem zr90 : (zfl zL90).all (rwOk prog_1_method_38_code) = true := dkW_ok _ 0 _ (dkA_0 _) (by decide +kernel)
set_option maxRecDepth 100000 in
theorem zr91 : (zfl zL91).all (rwOk prog_1_method_39_code) = true := dkW_ok _ 0 _ (dkA_0 _) (by decide +kernel)
set_option maxRecDepth 100000 in
theorem zr92 : (zfl zL92).all (rwOk prog_1_method_40_code) = true := dkW_ok _ 0 _ (dkA_0 _) (by decide +kernel)
set_option maxRecDepth 100000 in
theorem zr93 : (zfl zL93).all (rwOk prog_1_method_41_code) = true := dkW_ok _ 0 _ (dkA_0 _) (by decide +kernel)
set_option maxRecDepth 100000 in
theorem zr94 : (zfl zL94).all (rwOk prog_1_method_42_code) = true := dkW_ok _ 0 _ (dkA_0 _) (by decide +kernel)
set_option maxRecDepth 100000 in
theorem zr95 : (zfl zL95).all (rwOk prog_1_method_43_code) = true := dkW_ok _ 0 _ (dkA_0 _) (by decide +kernel)
set_option maxRecDepth 100000 in
theorem zr96 : (zfl zL96).all (rwOk prog_1_method_44_code) = true := dkW_ok _ 0 _ (dkA_0 _) (by decide +kernel)
set_option maxRecDepth 100000 in
theorem zr97 : (zfl zL97).all (rwOk prog_1_method_45_code) = true := dkW_ok _ 0 _ (dkA_0 _) (by decide +kernel)
set_option maxRecDepth 100000 in
theorem zr98 : (zfl zL98).all (rwOk prog_1_method_46_code) = true := dkW_ok _ 0 _ (dkA_0 _) (by decide +kernel)
set_option maxRecDepth 100000 in
theorem zr99 : (zfl zL99).all (rwOk prog_1_method_47_code) = true := dkW_ok _ 0 _ (dkA_0 _) (by decide +kernel)
set_option maxRecDepth 100000 in
theorem zr100 : (zfl zL100).all (rwOk prog_1_method_48_code) = true := dkW_ok _ 0 _ (dkA_0 _) (by decide +kernel)
set_option maxRecDepth 100000 in
theorem zr101 : (zfl zL101).all (rwOk prog_1_method_49_code) = true := dkW_ok _ 0 _ (dkA_0 _) (by decide +kernel)
set_option maxRecDepth 100000 in
theorem zr102 : (zfl zL102).all (rwOk prog_1_method_50_code) = true := dkW_ok _ 0 _ (dkA_0 _) (by decide +kernel)
set_option maxRecDepth 100000 in
theorem zr103 : (zfl zL103).all (rwOk prog_1_method_51_code) = true := dkW_ok _ 0 _ (dkA_0 _) (by decide +kernel)
set_option maxRecDepth 100000 in
theorem zr104 : (zfl zL104).all (rwOk prog_1_method_52_code) = true := dkW_ok _ 0 _ (dkA_0 _) (by decide +kernel)
set_option maxRecDepth 100000 in
theorem zr105 : (zfl zL105).all (rwOk prog_1_method_53_code) = true := dkW_ok _ 0 _ (dkA_0 _) (by decide +kernel)
set_option maxRecDepth 100000 in
theorem zr106 : (zfl zL106).all (rwOk prog_1_method_54_code) = true := dkW_ok _ 0 _ (dkA_0 _) (by decide +kernel)
set_option maxRecDepth 100000 in
theorem zr107 : (zfl zL107).all (rwOk prog_1_method_55_code) = true := dkW_ok _ 0 _ (dkA_0 _) (by decide +kernel)
set_option maxRecDepth 100000 in
theorem zr108 : (zfl zL108).all (rwOk prog_1_method_56_code) = true := dkW_ok _ 0 _ (dkA_0 _) (by decide +kernel)
set_option maxRecDepth 100000 in
theorem zr109 : (zfl zL109).all (rwOk prog_1_method_57_code) = true := dkW_ok _ 0 _ (dkA_0 _) (by decide +kernel)
set_option maxRecDepth 100000 in
theorem zr110 : (zfl zL110).all (rwOk prog_1_method_58_code) = true := dkW_ok _ 0 _ (dkA_0 _) (by decide +kernel)
set_option maxRecDepth 100000 in
theorem zr111 : (zfl zL111).all (rwOk prog_1_method_59_code) = true := dkW_ok _ 0 _ (dkA_0 _) (by decide +kernel)
set_option maxRecDepth 100000 in
theorem zr112 : (zfl zL112).all (rwOk prog_1_method_60_code) = true := dkW_ok _ 0 _ (dkA_0 _) (by decide +kernel)
set_option maxRecDepth 100000 in
theorem zr113 : (zfl zL113).all (rwOk prog_1_method_61_code) = true := dkW_ok _ 0 _ (dkA_0 _) (by decide +kernel)
set_option maxRecDepth 100000 in
theorem zr114 : (zfl zL114).all (rwOk prog_1_method_62_code) = true := dkW_ok _ 0 _ (dkA_0 _) (by decide +kernel)
set_option maxRecDepth 100000 in
theorem zr115 : (zfl zL115).all (rwOk prog_1_method_63_code) = true := dkW_ok _ 0 _ (dkA_0 _) (by decide +kernel)
set_option maxRecDepth 100000 in
theorem zr116 : (zfl zL116).all (rwOk prog_1_method_64_code) = true := dkW_ok _ 0 _ (dkA_0 _) (by decide +kernel)
set_option maxRecDepth 100000 in
theorem zr117 : (zfl zL117).all (rwOk prog_1_method_65_code) = true := dkW_ok _ 0 _ (dkA_0 _) (by decide +kernel)
set_option maxRecDepth 100000 in
theorem zr118 : (zfl zL118).all (rwOk prog_10_method_2_code) = true := dkW_ok _ 0 _ (dkA_0 _) (by decide +kernel)
set_option maxRecDepth 100000 in
theorem zr119 : (zfl zL119).all (rwOk prog_10_method_3_code) = true := dkW_ok _ 0 _ (dkA_0 _) (by decide +kernel)
set_option maxRecDepth 100000 in
theorem zr120 : (zfl zL120).all (rwOk prog_10_method_4_code) = true := dkW_ok _ 0 _ (dkA_0 _) (by decide +kernel)
set_option maxRecDepth 100000 in
theorem zr121 : (zfl zL121).all (rwOk prog_10_method_5_code) = true := dkW_ok _ 0 _ (dkA_0 _) (by decide +kernel)
set_option maxRecDepth 100000 in
theorem zr122 : (zfl zL122).all (rwOk prog_10_method_6_code) = true := dkW_ok _ 0 _ (dkA_0 _) (by decide +kernel)
set_option maxRecDepth 100000 in
theorem zr123 : (zfl zL123).all (rwOk prog_10_method_7_code) = true := dkW_ok _ 0 _ (dkA_0 _) (by decide +kernel)
set_option maxRecDepth 100000 in
theorem zr124 : (zfl zL124).all (rwOk prog_10_method_8_code) = true := dkW_ok _ 0 _ (dkA_0 _) (by decide +kernel)
set_option maxRecDepth 100000 in
theorem zr125 : (zfl zL125).all (rwOk prog_10_method_9_code) = true := dkW_ok _ 0 _ (dkA_0 _) (by decide +kernel)
set_option maxRecDepth 100000 in
theorem zr126 : (zfl zL126).all (rwOk prog_10_method_10_code) = true := dkW_ok _ 0 _ (dkA_0 _) (by decide +kernel)
set_option maxRecDepth 100000 in
theorem zr127 : (zfl zL127).all (rwOk prog_10_method_11_code) = true := dkW_ok _ 0 _ (dkA_0 _) (by decide +kernel)
set_option maxRecDepth 100000 in
theorem zr128 : (zfl zL128).all (rwOk prog_10_method_12_code) = true := dkW_ok _ 0 _ (dkA_0 _) (by decide +kernel)
set_option maxRecDepth 100000 in
theorem zr129 : (zfl zL129).all (rwOk prog_10_method_13_code) = true := dkW_ok _ 0 _ (dkA_0 _) (by decide +kernel)
set_option maxRecDepth 100000 in
theorem zr130 : (zfl zL130).all (rwOk prog_10_method_14_code) = true := dkW_ok _ 0 _ (dkA_0 _) (by decide +kernel)
set_option maxRecDepth 100000 in
theorem zr131 : (zfl zL131).all (rwOk prog_10_method_15_code) = true := dkW_ok _ 0 _ (dkA_0 _) (by decide +kernel)
set_option maxRecDepth 100000 in
theorem zr132 : (zfl zL132).all (rwOk prog_10_method_16_code) = true := dkW_ok _ 0 _ (dkA_0 _) (by decide +kernel)
set_option maxRecDepth 100000 in
theorem zr133 : (zfl zL133).all (rwOk prog_10_method_17_code) = true := dkW_ok _ 0 _ (dkA_0 _) (by decide +kernel)
set_option maxRecDepth 100000 in
theorem zr134 : (zfl zL134).all (rwOk prog_10_method_18_code) = true := dkW_ok _ 0 _ (dkA_0 _) (by decide +kernel)
set_option maxRecDepth 100000 in
theorem zr135 : (zfl zL135).all (rwOk prog_10_method_19_code) = true := dkW_ok _ 0 _ (dkA_0 _) (by decide +kernel)
set_option maxRecDepth 100000 in
theorem zr136 : (zfl zL136).all (rwOk prog_10_method_20_code) = true := dkW_ok _ 0 _ (dkA_0 _) (by decide +kernel)
set_option maxRecDepth 100000 in
theorem zr137 : (zfl zL137).all (rwOk prog_10_method_21_code) = true := dkW_ok _ 0 _ (dkA_0 _) (by decide +kernel)
set_option maxRecDepth 100000 in
theorem zr138 : (zfl zL138).all (rwOk prog_10_method_22_code) = true := dkW_ok _ 0 _ (dkA_0 _) (by decide +kernel)
set_option maxRecDepth 100000 in
theorem zr139 : (zfl zL139).all (rwOk prog_10_method_23_code) = true := dkW_ok _ 0 _ (dkA_0 _) (by decide +kernel)
set_option maxRecDepth 100000 in
theorem zr140 : (zfl zL140).all (rwOk prog_10_method_24_code) = true := dkW_ok _ 0 _ (dkA_0 _) (by decide +kernel)
set_option maxRecDepth 100000 in
theorem zr141 : (zfl zL141).all (rwOk prog_10_method_25_code) = true := dkW_ok _ 0 _ (dkA_0 _) (by decide +kernel)
set_option maxRecDepth 100000 in
theorem zr142 : (zfl zL142).all (rwOk prog_10_method_26_code) = true := dkW_ok _ 0 _ (dkA_0 _) (by decide +kernel)
set_option maxRecDepth 100000 in
theorem zr143 : (zfl zL143).all (rwOk prog_10_method_27_code) = true := dkW_ok _ 0 _ (dkA_0 _) (by decide +kernel)
set_option maxRecDepth 100000 in
theorem zr144 : (zfl zL144).all (rwOk prog_10_method_28_code) = true := dkW_ok _ 0 _ (dkA_0 _) (by decide +kernel)
set_option maxRecDepth 100000 in
theorem zr145 : (zfl zL145).all (rwOk prog_10_method_29_code) = true := dkW_ok _ 0 _ (dkA_0 _) (by decide +kernel)
set_option maxRecDepth 100000 in
theorem zr146 : (zfl zL146).all (rwOk prog_10_method_30_code) = true := dkW_ok _ 0 _ (dkA_0 _) (by decide +kernel)
set_option maxRecDepth 100000 in
theorem zr147 : (zfl zL147).all (rwOk prog_10_method_31_code) = true := dkW_ok _ 0 _ (dkA_0 _) (by decide +kernel)
set_option maxRecDepth 100000 in
theorem zr148 : (zfl zL148).all (rwOk prog_10_method_32_code) = true := dkW_ok _ 0 _ (dkA_0 _) (by decide +kernel)
set_option maxRecDepth 100000 in
theorem zr149 : (zfl zL149).all (rwOk prog_10_method_33_code) = true := dkW_ok _ 0 _ (dkA_0 _) (by decide +kernel)
set_option maxRecDepth 100000 in
theorem zr150 : (zfl zL150).all (rwOk prog_10_method_34_code) = true := dkW_ok _ 0 _ (dkA_0 _) (by decide +kernel)
set_option maxRecDepth 100000 in
theorem zr151 : (zfl zL151).all (rwOk prog_10_method_35_code) = true := dkW_ok _ 0 _ (dkA_0 _) (by decide +kernel)
set_option maxRecDepth 100000 in
theorem zr152 : (zfl zL152).all (rwOk prog_10_method_36_code) = true := dkW_ok _ 0 _ (dkA_0 _) (by decide +kernel)
set_option maxRecDepth 100000 in
theorem zr153 : (zfl zL153).all (rwOk prog_10_method_37_code) = true := dkW_ok _ 0 _ (dkA_0 _) (by decide +kernel)
set_option maxRecDepth 100000 in
theorem zr154 : (zfl zL154).all (rwOk prog_10_method_38_code) = true := dkW_ok _ 0 _ (dkA_0 _) (by decide +kernel)
set_option maxRecDepth 100000 in
theorem zr155 : (zfl zL155).all (rwOk prog_10_method_39_code) = true := dkW_ok _ 0 _ (dkA_0 _) (by decide +kernel)
set_option maxRecDepth 100000 in
theorem zr156 : (zfl zL156).all (rwOk prog_10_method_40_code) = true := dkW_ok _ 0 _ (dkA_0 _) (by decide +kernel)
set_option maxRecDepth 100000 in
theorem zr157 : (zfl zL157).all (rwOk prog_10_method_41_code) = true := dkW_ok _ 0 _ (dkA_0 _) (by decide +kernel)
set_option maxRecDepth 100000 in
theorem zr158 : (zfl zL158).all (rwOk prog_10_method_42_code) = true := dkW_ok _ 0 _ (dkA_0 _) (by decide +kernel)
set_option maxRecDepth 100000 in
theorem zr159 : (zfl zL159).all (rwOk prog_10_method_43_code) = true := dkW_ok _ 0 _ (dkA_0 _) (by decide +kernel)
set_option maxRecDepth 100000 in
theorem zr160 : (zfl zL160).all (rwOk prog_10_method_44_code) = true := dkW_ok _ 0 _ (dkA_0 _) (by decide +kernel)
set_option maxRecDepth 100000 in
theorem zr161 : (zfl zL161).all (rwOk prog_10_method_45_code) = true := dkW_ok _ 0 _ (dkA_0 _) (by decide +kernel)
set_option maxRecDepth 100000 in
theorem zr162 : (zfl zL162).all (rwOk prog_10_method_46_code) = true := dkW_ok _ 0 _ (dkA_0 _) (by decide +kernel)
set_option maxRecDepth 100000 in
theorem zr163 : (zfl zL163).all (rwOk prog_10_method_47_code) = true := dkW_ok _ 0 _ (dkA_0 _) (by decide +kernel)
set_option maxRecDepth 100000 in
theorem zr164 : (zfl zL164).all (rwOk prog_10_method_48_code) = true := dkW_ok _ 0 _ (dkA_0 _) (by decide +kernel)
set_option maxRecDepth 100000 in
theorem zr165 : (zfl zL165).all (rwOk prog_10_method_49_code) = true := dkW_ok _ 0 _ (dkA_0 _) (by decide +kernel)
set_option maxRecDepth 100000 in
theorem zr166 : (zfl zL166).all (rwOk prog_10_method_50_code) = true := dkW_ok _ 0 _ (dkA_0 _) (by decide +kernel)
set_option maxRecDepth 100000 in
theorem zr167 : (zfl zL167).all (rwOk prog_10_method_51_code) = true := dkW_ok _ 0 _ (dkA_0 _) (by decide +kernel)
set_option maxRecDepth 100000 in
theorem zr168 : (zfl zL168).all (rwOk prog_10_method_52_code) = true := dkW_ok _ 0 _ (dkA_0 _) (by decide +kernel)
set_option maxRecDepth 100000 in
theorem zr169 : (zfl zL169).all (rwOk prog_10_method_53_code) = true := dkW_ok _ 0 _ (dkA_0 _) (by decide +kernel)
set_option maxRecDepth 100000 in
theorem zr170 : (zfl zL170).all (rwOk prog_10_method_54_code) = true := dkW_ok _ 0 _ (dkA_0 _) (by decide +kernel)
set_option maxRecDepth 100000 in
theorem zr171 : (zfl zL171).all (rwOk prog_10_method_55_code) = true := dkW_ok _ 0 _ (dkA_0 _) (by decide +kernel)
set_option maxRecDepth 100000 in
theorem zr172 : (zfl zL172).all (rwOk prog_10_method_56_code) = true := dkW_ok _ 0 _ (dkA_0 _) (by decide +kernel)
set_option maxRecDepth 100000 in
theorem zr173 : (zfl zL173).all (rwOk prog_10_method_57_code) = true := dkW_ok _ 0 _ (dkA_0 _) (by decide +kernel)
set_option maxRecDepth 100000 in
theorem zr174 : (zfl zL174).all (rwOk prog_10_method_58_code) = true := dkW_ok _ 0 _ (dkA_0 _) (by decide +kernel)
set_option maxRecDepth 100000 in
theorem zr175 : (zfl zL175).all (rwOk prog_10_method_59_code) = true := dkW_ok _ 0 _ (dkA_0 _) (by decide +kernel)
set_option maxRecDepth 100000 in
theorem zr176 : (zfl zL176).all (rwOk prog_10_method_60_code) = true := dkW_ok _ 0 _ (dkA_0 _) (by decide +kernel)
set_option maxRecDepth 100000 in
theorem zr177 : (zfl zL177).all (rwOk prog_10_method_61_code) = true := dkW_ok _ 0 _ (dkA_0 _) (by decide +kernel)
set_option maxRecDepth 100000 in
theorem zr178 : (zfl zL178).all (rwOk prog_10_method_62_code) = true := dkW_ok _ 0 _ (dkA_0 _) (by decide +kernel)
set_option maxRecDepth 100000 in
theorem zr179 : (zfl zL179).all (rwOk prog_10_method_63_code) = true := dkW_ok _ 0 _ (dkA_0 _) (by decide +kernel)
set_option maxRecDepth 100000 in
theorem zr180 : (zfl zL180).all (rwOk prog_10_method_64_code) = true := dkW_ok _ 0 _ (dkA_0 _) (by decide +kernel)
set_option maxRecDepth 100000 in
theorem zr181 : (zfl zL181).all (rwOk prog_10_method_65_code) = true := dkW_ok _ 0 _ (dkA_0 _) (by decide +kernel)
set_option maxRecDepth 100000 in
theorem zr182 : (zfl zL182).all (rwOk prog_10_method_66_code) = true := dkW_ok _ 0 _ (dkA_0 _) (by decide +kernel)
set_option maxRecDepth 100000 in
theorem zr183 : (zfl zL183).all (rwOk prog_10_method_67_code) = true := dkW_ok _ 0 _ (dkA_0 _) (by decide +kernel)
set_option maxRecDepth 100000 in
theorem zr184 : (zfl zL184).all (rwOk prog_10_method_68_code) = true := dkW_ok _ 0 _ (dkA_0 _) (by decide +kernel)
set_option maxRecDepth 100000 in
theorem zr185 : (zfl zL185).all (rwOk prog_10_method_69_code) = true := dkW_ok _ 0 _ (dkA_0 _) (by decide +kernel)
set_option maxRecDepth 100000 in
theorem zr186 : (zfl zL186).all (rwOk prog_10_method_70_code) = true := dkW_ok _ 0 _ (dkA_0 _) (by decide +kernel)
set_option maxRecDepth 100000 in
theorem zr187 : (zfl zL187).all (rwOk prog_10_method_71_code) = true := dkW_ok _ 0 _ (dkA_0 _) (by decide +kernel)
set_option maxRecDepth 100000 in
theorem zr188 : (zfl zL188).all (rwOk prog_10_method_72_code) = true := dkW_ok _ 0 _ (dkA_0 _) (by decide +kernel)
set_option maxRecDepth 100000 in
theorem zr189 : (zfl zL189).all (rwOk prog_10_method_73_code) = true := dkW_ok _ 0 _ (dkA_0 _) (by decide +kernel)
set_option maxRecDepth 100000 in
theorem zr190 : (zfl zL190).all (rwOk prog_10_method_74_code) = true := dkW_ok _ 0 _ (dkA_0 _) (by decide +kernel)
set_option maxRecDepth 100000 in
theorem zr191 : (zfl zL191).all (rwOk prog_10_method_75_code) = true := dkW_ok _ 0 _ (dkA_0 _) (by decide +kernel)
set_option maxRecDepth 100000 in
theorem zr192 : (zfl zL192).all (rwOk prog_10_method_76_code) = true := dkW_ok _ 0 _ (dkA_0 _) (by decide +kernel)
set_option maxRecDepth 100000 in
theorem zr193 : (zfl zL193).all (rwOk prog_10_method_77_code) = true := dkW_ok _ 0 _ (dkA_0 _) (by decide +kernel)
set_option maxRecDepth 100000 in
theorem zr194 : (zfl zL194).all (rwOk prog_10_method_78_code) = true := dkW_ok _ 0 _ (dkA_0 _) (by decide +kernel)
set_option maxRecDepth 100000 in
theorem zr195 : (zfl zL195).all (rwOk prog_10_method_79_code) = true := dkW_ok _ 0 _ (dkA_0 _) (by decide +kernel)
set_option maxRecDepth 100000 in
theorem zr196 : (zfl zL196).all (rwOk prog_10_method_80_code) = true := dkW_ok _ 0 _ (dkA_0 _) (by decide +kernel)
set_option maxRecDepth 100000 in
theorem zr197 : (zfl zL197).all (rwOk prog_10_method_81_code) = true := dkW_ok _ 0 _ (dkA_0 _) (by decide +kernel)
set_option maxRecDepth 100000 in
theorem zr198 : (zfl zL198).all (rwOk prog_10_method_82_code) = true := dkW_ok _ 0 _ (dkA_0 _) (by decide +kernel)
set_option maxRecDepth 100000 in
theorem zr199 : (zfl zL199).all (rwOk prog_10_method_83_code) = true := dkW_ok _ 0 _ (dkA_0 _) (by decide +kernel)
set_option maxRecDepth 100000 in
theorem zr200 : (zfl zL200).all (rwOk prog_10_method_84_code) = true := dkW_ok _ 0 _ (dkA_0 _) (by decide +kernel)
set_option maxRecDepth 100000 in
theorem zr201 : (zfl zL201).all (rwOk prog_10_method_85_code) = true := dkW_ok _ 0 _ (dkA_0 _) (by decide +kernel)
set_option maxRecDepth 100000 in
theorem zr202 : (zfl zL202).all (rwOk prog_10_method_86_code) = true := dkW_ok _ 0 _ (dkA_0 _) (by decide +kernel)
set_option maxRecDepth 100000 in
theorem zr203 : (zfl zL203).all (rwOk prog_10_method_87_code) = true := dkW_ok _ 0 _ (dkA_0 _) (by decide +kernel)
set_option maxRecDepth 100000 in
theorem zr204 : (zfl zL204).all (rwOk prog_10_method_88_code) = true := dkW_ok _ 0 _ (dkA_0 _) (by decide +kernel)
set_option maxRecDepth 100000 in
theorem zr205 : (zfl zL205).all (rwOk prog_10_method_89_code) = true := dkW_ok _ 0 _ (dkA_0 _) (by decide +kernel)
set_option maxRecDepth 100000 in
theorem zr206 : (zfl zL206).all (rwOk prog_10_method_90_code) = true := dkW_ok _ 0 _ (dkA_0 _) (by decide +kernel)
set_option maxRecDepth 100000 in
theorem zr207 : (zfl zL207).all (rwOk prog_10_method_91_code) = true := dkW_ok _ 0 _ (dkA_0 _) (by decide +kernel)
set_option maxRecDepth 100000 in
theorem zr208 : (zfl zL208).all (rwOk prog_10_method_92_code) = true := dkW_ok _ 0 _ (dkA_0 _) (by decide +kernel)
set_option maxRecDepth 100000 in
theorem zr209 : (zfl zL209).all (rwOk prog_10_method_93_code) = true := dkW_ok _ 0 _ (dkA_0 _) (by decide +kernel)
set_option maxRecDepth 100000 in
theorem zr210 : (zfl zL210).all (rwOk prog_10_method_94_code) = true := dkW_ok _ 0 _ (dkA_0 _) (by decide +kernel)
set_option maxRecDepth 100000 in
theorem zr211 : (zfl zL211).all (rwOk prog_10_method_95_code) = true := dkW_ok _ 0 _ (dkA_0 _) (by decide +kernel)
set_option maxRecDepth 100000 in
theorem zr212 : (zfl zL212).all (rwOk prog_10_method_96_code) = true := dkW_ok _ 0 _ (dkA_0 _) (by decide +kernel)
set_option maxRecDepth 100000 in
theorem zr213 : (zfl zL213).all (rwOk prog_10_method_97_code) = true := dkW_ok _ 0 _ (dkA_0 _) (by decide +kernel)
set_option maxRecDepth 100000 in
theorem zr214 : (zfl zL214).all (rwOk prog_4_method_2_code) = true := dkW_ok _ 0 _ (dkA_0 _) (by decide +kernel)
set_option maxRecDepth 100000 in
theorem zr215 : (zfl zL215).all (rwOk prog_4_method_3_code) = true := dkW_ok _ 0 _ (dkA_0 _) (by decide +kernel)
set_option maxRecDepth 100000 in
theorem zr216 : (zfl zL216).all (rwOk prog_4_method_4_code) = true := dkW_ok _ 0 _ (dkA_0 _) (by decide +kernel)
set_option maxRecDepth 100000 in
theorem zr217 : (zfl zL217).all (rwOk prog_4_method_5_code) = true := dkW_ok _ 0 _ (dkA_0 _) (by decide +kernel)
set_option maxRecDepth 100000 in
theorem zr218 : (zfl zL218).all (rwOk prog_4_method_6_code) = true := dkW_ok _ 0 _ (dkA_0 _) (by decide +kernel)
set_option maxRecDepth 100000 in
theorem zr219 : (zfl zL219).all (rwOk prog_16_method_101_code) = true := dkW_ok _ 0 _ (dkA_0 _) (by decide +kernel)
set_option maxRecDepth 100000 in
theorem zr220 : (zfl zL220).all (rwOk prog_16_method_103_code) = true := dkW_ok _ 0 _ (dkA_0 _) (by decide +kernel)
set_option maxRecDepth 100000 in
theorem zr221 : (zfl zL221).all (rwOk prog_12_method_54_code) = true := dkW_ok _ 0 _ (dkA_0 _) (by decide +kernel)
set_option maxRecDepth 100000 in
theorem zr222 : (zfl zL222).all (rwOk prog_12_method_56_code) = true := dkW_ok _ 0 _ (dkA_0 _) (by decide +kernel)
set_option maxRecDepth 100000 in
theorem zr223 : (zfl zL223).all (rwOk prog_12_method_152_code) = true := dkW_ok _ 0 _ (dkA_0 _) (by decide +kernel)
set_option maxRecDepth 100000 in
theorem zr224 : (zfl zL224).all (rwOk prog_12_method_154_code) = true := dkW_ok _ 0 _ (dkA_0 _) (by decide +kernel)
set_option maxRecDepth 100000 in
theorem zr225 : (zfl zL225).all (rwOk prog_12_method_155_code) = true := dkW_ok _ 0 _ (dkA_0 _) (by decide +kernel)
set_option maxRecDepth 100000 in
theorem zr226 : (zfl zL226).all (rwOk prog_13_method_2_code) = true := dkW_ok _ 0 _ (dkA_0 _) (by decide +kernel)
set_option maxRecDepth 100000 in
theorem zr227 : (zfl zL227).all (rwOk prog_17_method_11_code) = true := dkW_ok _ 0 _ (dkA_0 _) (by decide +kernel)
def dcW (z : Nat) : Prop := (mW z).all (rwOk (mB z)) = true
set_option maxRecDepth 100000 in
theorem dq0 : ∀ z ∈ ([0, 1, 2, 3, 4, 5, 6, 7, 8, 9, 10, 11, 12, 13, 14, 15, 16, 17, 18] : List Nat), dcW z := List.forall_mem_cons.mpr ⟨zr0, List.forall_mem_cons.mpr ⟨zr1, List.forall_mem_cons.mpr ⟨zr2, List.forall_mem_cons.mpr ⟨zr3, List.forall_mem_cons.mpr ⟨zr4, List.forall_mem_cons.mpr ⟨zr5, List.forall_mem_cons.mpr ⟨zr6, List.forall_mem_cons.mpr ⟨zr7, List.forall_mem_cons.mpr ⟨zr8, List.forall_mem_cons.mpr ⟨zr9, List.forall_mem_cons.mpr ⟨zr10, List.forall_mem_cons.mpr ⟨zr11, List.forall_mem_cons.mpr ⟨zr12, List.forall_mem_cons.mpr ⟨zr13, List.forall_mem_cons.mpr ⟨zr14, List.forall_mem_cons.mpr ⟨zr15, List.forall_mem_cons.mpr ⟨zr16, List.forall_mem_cons.mpr ⟨zr17, List.forall_mem_cons.mpr ⟨zr18, fun _ h => absurd h List.not_mem_nil⟩⟩⟩⟩⟩⟩⟩⟩⟩⟩⟩⟩⟩⟩⟩⟩⟩⟩⟩
set_option maxRecDepth 100000 in
theorem dq1 : ∀ z ∈ ([19, 20, 21, 22, 23, 24, 25, 26, 27, 28, 29, 30, 31, 32, 33, 34, 35, 36, 37] : List Nat), dcW z := List.forall_mem_cons.mpr ⟨zr19, List.forall_mem_cons.mpr ⟨zr20, List.forall_mem_cons.mpr ⟨zr21, List.forall_mem_cons.mpr ⟨zr22, List.forall_mem_cons.mpr ⟨zr23, List.forall_mem_cons.mpr ⟨zr24, List.forall_mem_cons.mpr ⟨zr25, List.forall_mem_cons.mpr ⟨zr26, List.forall_mem_cons.mpr ⟨zr27, List.forall_mem_cons.mpr ⟨zr28, List.forall_mem_cons.mpr ⟨zr29, List.forall_mem_cons.mpr ⟨zr30, List.forall_mem_cons.mpr ⟨zr31, List.forall_mem_cons.mpr ⟨zr32, List.forall_mem_cons.mpr ⟨zr33, List.forall_mem_cons.mpr ⟨zr34, List.forall_mem_cons.mpr ⟨zr35, List.forall_mem_cons.mpr ⟨zr36, List.forall_mem_cons.mpr ⟨zr37, fun _ h => absurd h List.not_mem_nil⟩⟩⟩⟩⟩⟩⟩⟩⟩⟩⟩⟩⟩⟩⟩⟩⟩⟩⟩
set_option maxRecDepth 100000 in
theorem dq2 : ∀ z ∈ ([38, 39, 40, 41, 42, 43, 44, 45, 46, 47, 48, 49, 50, 51, 52, 53, 54, 55, 56] : List Nat), dcW z := List.forall_mem_cons.mpr ⟨zr38, List.forall_mem_cons.mpr ⟨zr39, List.forall_mem_cons.mpr ⟨zr40, List.forall_mem_cons.mpr ⟨zr41, List.forall_mem_cons.mpr ⟨zr42, List.forall_mem_cons.mpr ⟨zr43, List.forall_mem_cons.mpr ⟨zr44, List.forall_mem_cons.mpr ⟨zr45, List.forall_mem_cons.mpr ⟨zr46, List.forall_mem_cons.mpr ⟨zr47, List.forall_mem_cons.mpr ⟨zr48, List.forall_mem_cons.mpr ⟨zr49, List.forall_mem_cons.mpr ⟨zr50, List.forall_mem_cons.mpr ⟨zr51, List.forall_mem_cons.mpr ⟨zr52, List.forall_mem_cons.mpr ⟨zr53, List.forall_mem_cons.mpr ⟨zr54, List.forall_mem_cons.mpr ⟨zr55, List.forall_mem_cons.mpr ⟨zr56, fun _ h => absurd h List.not_mem_nil⟩⟩⟩⟩⟩⟩⟩⟩⟩⟩⟩⟩⟩⟩⟩⟩⟩⟩⟩
set_option maxRecDepth 100000 in
theorem dq3 : ∀ z ∈ ([57, 58, 59, 60, 61, 62, 63, 64, 65, 66, 67, 68, 69, 70, 71, 72, 73, 74, 75] : List Nat), dcW z := List.forall_mem_cons.mpr ⟨zr57, List.forall_mem_cons.mpr ⟨zr58, List.forall_mem_cons.mpr ⟨zr59, List.forall_mem_cons.mpr ⟨zr60, List.forall_mem_cons.mpr ⟨zr61, List.forall_mem_cons.mpr ⟨zr62, List.forall_mem_cons.mpr ⟨zr63, List.forall_mem_cons.mpr ⟨zr64, List.forall_mem_cons.mpr ⟨zr65, List.forall_mem_cons.mpr ⟨zr66, List.forall_mem_cons.mpr ⟨zr67, List.forall_mem_cons.mpr ⟨zr68, List.forall_mem_cons.mpr ⟨zr69, List.forall_mem_cons.mpr ⟨zr70, List.forall_mem_cons.mpr ⟨zr71, List.forall_mem_cons.mpr ⟨zr72, List.forall_mem_cons.mpr ⟨zr73, List.forall_mem_cons.mpr ⟨zr74, List.forall_mem_cons.mpr ⟨zr75, fun _ h => absurd h List.not_mem_nil⟩⟩⟩⟩⟩⟩⟩⟩⟩⟩⟩⟩⟩⟩⟩⟩⟩⟩⟩
set_option maxRecDepth 100000 in
theorem dq4 : ∀ z ∈ ([76, 77, 78, 79, 80, 81, 82, 83, 84, 85, 86, 87, 88, 89, 90, 91, 92, 93, 94] : List Nat), dcW z := List.forall_mem_cons.mpr ⟨zr76, List.forall_mem_cons.mpr ⟨zr77, List.forall_mem_cons.mpr ⟨zr78, List.forall_mem_cons.mpr ⟨zr79, List.forall_mem_cons.mpr ⟨zr80, List.forall_mem_cons.mpr ⟨zr81, List.forall_mem_cons.mpr ⟨zr82, List.forall_mem_cons.mpr ⟨zr83, List.forall_mem_cons.mpr ⟨zr84, List.forall_mem_cons.mpr ⟨zr85, List.forall_mem_cons.mpr ⟨zr86, List.forall_mem_cons.mpr ⟨zr87, List.forall_mem_cons.mpr ⟨zr88, List.forall_mem_cons.mpr ⟨zr89, List.forall_mem_cons.mpr ⟨zr90, List.forall_mem_cons.mpr ⟨zr91, List.forall_mem_cons.mpr ⟨zr92, List.forall_mem_cons.mpr ⟨zr93, List.forall_mem_cons.mpr ⟨zr94, fun _ h => absurd h List.not_mem_nil⟩⟩⟩⟩⟩⟩⟩⟩⟩⟩⟩⟩⟩⟩⟩⟩⟩⟩⟩
set_option maxRecDepth 100000 in
theorem dq5 : ∀ z ∈ ([95, 96, 97, 98, 99, 100, 101, 102, 103, 104, 105, 106, 107, 108, 109, 110, 111, 112, 113] : List Nat), dcW z := List.forall_mem_cons.mpr ⟨zr95, List.forall_mem_cons.mpr ⟨zr96, List.forall_mem_cons.mpr ⟨zr97, List.forall_mem_cons.mpr ⟨zr98, List.forall_mem_cons.mpr ⟨zr99, List.forall_mem_cons.mpr ⟨zr100, List.forall_mem_cons.mpr ⟨zr101, List.forall_mem_cons.mpr ⟨zr102, List.forall_mem_cons.mpr ⟨zr103, List.forall_mem_cons.mpr ⟨zr104, List.forall_mem_cons.mpr ⟨zr105, List.forall_mem_cons.mpr ⟨zr106, List.forall_mem_cons.mpr ⟨zr107, List.forall_mem_cons.mpr ⟨zr108, List.forall_mem_cons.mpr ⟨zr109, List.forall_mem_cons.mpr ⟨zr110, List.forall_mem_cons.mpr ⟨zr111, List.forall_mem_cons.mpr ⟨zr112, List.forall_mem_cons.mpr ⟨zr113, fun _ h => absurd h List.not_mem_nil⟩⟩⟩⟩⟩⟩⟩⟩⟩⟩⟩⟩⟩⟩⟩⟩⟩⟩⟩
set_option maxRecDepth 100000 in
theorem dq6 : ∀ z ∈ ([114, 115, 116, 117, 118, 119, 120, 121, 122, 123, 124, 125, 126, 127, 128, 129, 130, 131, 132] : List Nat), dcW z := List.forall_mem_cons.mpr ⟨zr114, List.forall_mem_cons.mpr ⟨zr115, List.forall_mem_cons.mpr ⟨zr116, List.forall_mem_cons.mpr ⟨zr117, List.forall_mem_cons.mpr ⟨zr118, List.forall_mem_cons.mpr ⟨zr119, List.forall_mem_cons.mpr ⟨zr120, List.forall_mem_cons.mpr ⟨zr121, List.forall_mem_cons.mpr ⟨zr122, List.forall_mem_cons.mpr ⟨zr123, List.forall_mem_cons.mpr ⟨zr124, List.forall_mem_cons.mpr ⟨zr125, List.forall_mem_cons.mpr ⟨zr126, List.forall_mem_cons.mpr ⟨zr127, List.forall_mem_cons.mpr ⟨zr128, List.forall_mem_cons.mpr ⟨zr129, List.forall_mem_cons.mpr ⟨zr130, List.forall_mem_cons.mpr ⟨zr131, List.forall_mem_cons.mpr ⟨zr132, fun _ h => absurd h List.not_mem_nil⟩⟩⟩⟩⟩⟩⟩⟩⟩⟩⟩⟩⟩⟩⟩⟩⟩⟩⟩
set_option maxRecDepth 100000 in
theorem dq7 : ∀ z ∈ ([133, 134, 135, 136, 137, 138, 139, 140, 141, 142, 143, 144, 145, 146, 147, 148, 149, 150, 151] : List Nat), dcW z := List.forall_mem_cons.mpr ⟨zr133, List.forall_mem_cons.mpr ⟨zr134, List.forall_mem_cons.mpr ⟨zr135, List.forall_mem_cons.mpr ⟨zr136, List.forall_mem_cons.mpr ⟨zr137, List.forall_mem_cons.mpr ⟨zr138, List.forall_mem_cons.mpr ⟨zr139, List.forall_mem_cons.mpr ⟨zr140, List.forall_mem_cons.mpr ⟨zr141, List.forall_mem_cons.mpr ⟨zr142, List.forall_mem_cons.mpr ⟨zr143, List.forall_mem_cons.mpr ⟨zr144, List.forall_mem_cons.mpr ⟨zr145, List.forall_mem_cons.mpr ⟨zr146, List.forall_mem_cons.mpr ⟨zr147, List.forall_mem_cons.mpr ⟨zr148, List.forall_mem_cons.mpr ⟨zr149, List.forall_mem_cons.mpr ⟨zr150, List.forall_mem_cons.mpr ⟨zr151, fun _ h => absurd h List.not_mem_nil⟩⟩⟩⟩⟩⟩⟩⟩⟩⟩⟩⟩⟩⟩⟩⟩⟩⟩⟩
set_option maxRecDepth 100000 in
theorem dq8 : ∀ z ∈ ([152, 153, 154, 155, 156, 157, 158, 159, 160, 161, 162, 163, 164, 165, 166, 167, 168, 169, 170] : List Nat), dcW z := List.forall_mem_cons.mpr ⟨zr152, List.forall_mem_cons.mpr ⟨zr153, List.forall_mem_cons.mpr ⟨zr154, List.forall_mem_cons.mpr ⟨zr155, List.forall_mem_cons.mpr ⟨zr156, List.forall_mem_cons.mpr ⟨zr157, List.forall_mem_cons.mpr ⟨zr158, List.forall_mem_cons.mpr ⟨zr159, List.forall_mem_cons.mpr ⟨zr160, List.forall_mem_cons.mpr ⟨zr161, List.forall_mem_cons.mpr ⟨zr162, List.forall_mem_cons.mpr ⟨zr163, List.forall_mem_cons.mpr ⟨zr164, List.forall_mem_cons.mpr ⟨zr165, List.forall_mem_cons.mpr ⟨zr166, List.forall_mem_cons.mpr ⟨zr167, List.forall_mem_cons.mpr ⟨zr168, List.forall_mem_cons.mpr ⟨zr169, List.forall_mem_cons.mpr ⟨zr170, fun _ h => absurd h List.not_mem_nil⟩⟩⟩⟩⟩⟩⟩⟩⟩⟩⟩⟩⟩⟩⟩⟩⟩⟩⟩
set_option maxRecDepth 100000 in
theorem dq9 : ∀ z ∈ ([171, 172, 173, 174, 175, 176, 177, 178, 179, 180, 181, 182, 183, 184, 185, 186, 187, 188, 189] : List Nat), dcW z := List.forall_mem_cons.mpr ⟨zr171, List.forall_mem_cons.mpr ⟨zr172, List.forall_mem_cons.mpr ⟨zr173, List.forall_mem_cons.mpr ⟨zr174, List.forall_mem_cons.mpr ⟨zr175, List.forall_mem_cons.mpr ⟨zr176, List.forall_mem_cons.mpr ⟨zr177, List.forall_mem_cons.mpr ⟨zr178, List.forall_mem_cons.mpr ⟨zr179, List.forall_mem_cons.mpr ⟨zr180, List.forall_mem_cons.mpr ⟨zr181, List.forall_mem_cons.mpr ⟨zr182, List.forall_mem_cons.mpr ⟨zr183, List.forall_mem_cons.mpr ⟨zr184, List.forall_mem_cons.mpr ⟨zr185, List.forall_mem_cons.mpr ⟨zr186, List.forall_mem_cons.mpr ⟨zr187, List.forall_mem_cons.mpr ⟨zr188, List.forall_mem_cons.mpr ⟨zr189, fun _ h => absurd h List.not_mem_nil⟩⟩⟩⟩⟩⟩⟩⟩⟩⟩⟩⟩⟩⟩⟩⟩⟩⟩⟩
set_option maxRecDepth 100000 in
theorem dq10 : ∀ z ∈ ([190, 191, 192, 193, 194, 195, 196, 197, 198, 199, 200, 201, 202, 203, 204, 205, 206, 207, 208] : List Nat), dcW z := List.forall_mem_cons.mpr ⟨zr190, List.forall_mem_cons.mpr ⟨zr191, List.forall_mem_cons.mpr ⟨zr192, List.forall_mem_cons.mpr ⟨zr193, List.forall_mem_cons.mpr ⟨zr194, List.forall_mem_cons.mpr ⟨zr195, List.forall_mem_cons.mpr ⟨zr196, List.forall_mem_cons.mpr ⟨zr197, List.forall_mem_cons.mpr ⟨zr198, List.forall_mem_cons.mpr ⟨zr199, List.forall_mem_cons.mpr ⟨zr200, List.forall_mem_cons.mpr ⟨zr201, List.forall_mem_cons.mpr ⟨zr202, List.forall_mem_cons.mpr ⟨zr203, List.forall_mem_cons.mpr ⟨zr204, List.forall_mem_cons.mpr ⟨zr205, List.forall_mem_cons.mpr ⟨zr206, List.forall_mem_cons.mpr ⟨zr207, List.forall_mem_cons.mpr ⟨zr208, fun _ h => absurd h List.not_mem_nil⟩⟩⟩⟩⟩⟩⟩⟩⟩⟩⟩⟩⟩⟩⟩⟩⟩⟩⟩
set_option maxRecDepth 100000 in
theorem dq11 : ∀ z ∈ ([209, 210, 211, 212, 213, 214, 215, 216, 217, 218, 219, 220, 221, 222, 223, 224, 225, 226, 227] : List Nat), dcW z := List.forall_mem_cons.mpr ⟨zr209, List.forall_mem_cons.mpr ⟨zr210, List.forall_mem_cons.mpr ⟨zr211, List.forall_mem_cons.mpr ⟨zr212, List.forall_mem_cons.mpr ⟨zr213, List.forall_mem_cons.mpr ⟨zr214, List.forall_mem_cons.mpr ⟨zr215, List.forall_mem_cons.mpr ⟨zr216, List.forall_mem_cons.mpr ⟨zr217, List.forall_mem_cons.mpr ⟨zr218, List.forall_mem_cons.mpr ⟨zr219, List.forall_mem_cons.mpr ⟨zr220, List.forall_mem_cons.mpr ⟨zr221, List.forall_mem_cons.mpr ⟨zr222, List.forall_mem_cons.mpr ⟨zr223, List.forall_mem_cons.mpr ⟨zr224, List.forall_mem_cons.mpr ⟨zr225, List.forall_mem_cons.mpr ⟨zr226, List.forall_mem_cons.mpr ⟨zr227, fun _ h => absurd h List.not_mem_nil⟩⟩⟩⟩⟩⟩⟩⟩⟩⟩⟩⟩⟩⟩⟩⟩⟩⟩⟩
set_option maxRecDepth 100000 in
theorem dc_w : ∀ z ∈ List.range 228, dcW z := List.forall_mem_append.mpr ⟨dq0, List.forall_mem_append.mpr ⟨dq1, List.forall_mem_append.mpr ⟨dq2, List.forall_mem_append.mpr ⟨dq3, List.forall_mem_append.mpr ⟨dq4, List.forall_mem_append.mpr ⟨dq5, List.forall_mem_append.mpr ⟨dq6, List.forall_mem_append.mpr ⟨dq7, List.forall_mem_append.mpr ⟨dq8, List.forall_mem_append.mpr ⟨dq9, List.forall_mem_append.mpr ⟨dq10, dq11⟩⟩⟩⟩⟩⟩⟩⟩⟩⟩⟩
