/-- byte p of a list, 256 beyond its end -/
noncomputable def dq_n (l : List UInt8) : Nat → Nat := @List.rec UInt8 (fun _ => Nat → Nat) (fun _ => 256) (fun a _ ih n => @Nat.rec (fun _ => Nat) a.toNat (fun m _ => ih m) n) l
noncomputable def dq_y (c : ByteArray) (p : Nat) : Nat := dq_n c.data.toList p
theorem dl_b {a b : Bool} (h : (a && b) = true) : a = true ∧ b = true := by
  cases a <;> cases b <;> first | exact ⟨rfl, rfl⟩ | exact absurd h (by decide)
theorem dq_nl : ∀ (l : List UInt8) (p : Nat), Nat.blt (dq_n l p) 256 = true → ∃ h : p < l.length, (l.get ⟨p, h⟩).toNat = dq_n l p := by
  intro l
  induction l with
  | nil => intro p h; exact absurd (show Nat.blt 256 256 = true from h) (by decide)
  | cons a r ih =>
    intro p h
    cases p with
    | zero => exact ⟨Nat.succ_pos _, rfl⟩
    | succ p =>
      obtain ⟨h1, h2⟩ := ih p (show Nat.blt (dq_n r p) 256 = true from h)
      exact ⟨Nat.succ_lt_succ h1, h2⟩
theorem dq_u {c : ByteArray} {p : Nat} (hb : Nat.blt (dq_y c p) 256 = true) : Jvm.ClassFile.Reader.runAt (Jvm.ClassFile.Reader.u1 : Jvm.ClassFile.Decoder Nat) c p = .ok (dq_y c p, p + 1) := by
  obtain ⟨⟨l⟩⟩ := c
  obtain ⟨h, e⟩ := dq_nl l p (show Nat.blt (dq_n l p) 256 = true from hb)
  have h' : p < (ByteArray.mk (Array.mk l)).size := h
  have e1 : Jvm.ClassFile.Reader.runAt (Jvm.ClassFile.Reader.u1 : Jvm.ClassFile.Decoder Nat) (ByteArray.mk (Array.mk l)) p = (if h : p < (ByteArray.mk (Array.mk l)).size then (fun (_ : ByteArray) (_ : Nat) => (Except.ok (((ByteArray.mk (Array.mk l))[p]'h).toNat, p + 1) : Except Jvm.ClassFile.DecodeError (Nat × Nat))) else (fun (_ : ByteArray) (_ : Nat) => Except.error (Jvm.ClassFile.HasTruncated.truncated p))) (ByteArray.mk (Array.mk l)) p := rfl
  rw [e1, dif_pos h']
  have e2 : ((ByteArray.mk (Array.mk l))[p]'h').toNat = dq_y (ByteArray.mk (Array.mk l)) p := e
  show Except.ok (((ByteArray.mk (Array.mk l))[p]'h').toNat, p + 1) = _
  rw [e2]
theorem dq_b {α β : Type} {x : Jvm.ClassFile.Decoder α} {k : α → Jvm.ClassFile.Decoder β} {c : ByteArray} {p q : Nat} {a : α} (h : Jvm.ClassFile.Reader.runAt x c p = .ok (a, q)) : Jvm.ClassFile.Reader.runAt (x >>= k) c p = Jvm.ClassFile.Reader.runAt (k a) c q := by
  show Except.bind (Jvm.ClassFile.Reader.runAt x c p) _ = _
  rw [h]
  all_goals rfl
theorem dq_m {α β : Type} {x : Jvm.ClassFile.Decoder α} {f : α → β} {c : ByteArray} {p q : Nat} {a : α} (h : Jvm.ClassFile.Reader.runAt x c p = .ok (a, q)) : Jvm.ClassFile.Reader.runAt (f <$> x) c p = .ok (f a, q) := by
  show Except.bind (Jvm.ClassFile.Reader.runAt x c p) _ = _
  rw [h]
  all_goals rfl
theorem dq_d {c : ByteArray} {p q : Nat} {i : Jvm.ClassFile.Instr} (h : Jvm.ClassFile.Reader.runAt (Jvm.ClassFile.Decoder.instr p) c p = .ok (i, q)) : decode c p = .ok (i, q - p) := by
  show Except.bind (Jvm.ClassFile.Reader.runAt (Jvm.ClassFile.Decoder.instr p) c p) _ = _
  rw [h]
  all_goals rfl
theorem dq_w {c : ByteArray} {p : Nat} (h1 : Nat.blt (dq_y c p) 256 = true) (h2 : Nat.blt (dq_y c (p + 1)) 256 = true) : Jvm.ClassFile.Reader.runAt (Jvm.ClassFile.Reader.u2 : Jvm.ClassFile.Decoder Nat) c p = .ok (dq_y c p * 256 + dq_y c (p + 1), p + 1 + 1) := by
  refine Eq.trans (dq_b (dq_u h1)) ?_
  refine Eq.trans (dq_b (dq_u h2)) ?_
  rfl
theorem dq_s {c : ByteArray} {p : Nat} (h : Nat.blt (dq_y c p) 256 = true) : Jvm.ClassFile.Reader.runAt (Jvm.ClassFile.Reader.s1 : Jvm.ClassFile.Decoder Int) c p = .ok (Jvm.ClassFile.Reader.signed 8 (dq_y c p), p + 1) := dq_m (f := Jvm.ClassFile.Reader.signed 8) (dq_u h)
theorem dq_t {c : ByteArray} {p : Nat} (h1 : Nat.blt (dq_y c p) 256 = true) (h2 : Nat.blt (dq_y c (p + 1)) 256 = true) : Jvm.ClassFile.Reader.runAt (Jvm.ClassFile.Reader.s2 : Jvm.ClassFile.Decoder Int) c p = .ok (Jvm.ClassFile.Reader.signed 16 (dq_y c p * 256 + dq_y c (p + 1)), p + 1 + 1) := dq_m (f := Jvm.ClassFile.Reader.signed 16) (dq_w h1 h2)
noncomputable def dq_0 (c : ByteArray) (p o : Nat) : Bool := Nat.beq (dq_y c p) o
noncomputable def dq_1 (c : ByteArray) (p o x : Nat) : Bool := dq_0 c p o && (Nat.blt (dq_y c (p + 1)) 256 && Nat.beq (dq_y c (p + 1)) x)
noncomputable def dq_2 (c : ByteArray) (p o x : Nat) : Bool := dq_0 c p o && (Nat.blt (dq_y c (p + 1)) 256 && (Nat.blt (dq_y c (p + 1 + 1)) 256 && Nat.beq (dq_y c (p + 1) * 256 + dq_y c (p + 1 + 1)) x))
noncomputable def dq_3 (c : ByteArray) (p o : Nat) (v : Int) : Bool := dq_0 c p o && (Nat.blt (dq_y c (p + 1)) 256 && decide (Jvm.ClassFile.Reader.signed 8 (dq_y c (p + 1)) = v))
noncomputable def dq_4 (c : ByteArray) (p o : Nat) (v : Int) : Bool := dq_0 c p o && (Nat.blt (dq_y c (p + 1)) 256 && (Nat.blt (dq_y c (p + 1 + 1)) 256 && decide (Jvm.ClassFile.Reader.signed 16 (dq_y c (p + 1) * 256 + dq_y c (p + 1 + 1)) = v)))
noncomputable def dq_5 (c : ByteArray) (p o x : Nat) (v : Int) : Bool := dq_0 c p o && (Nat.blt (dq_y c (p + 1)) 256 && (Nat.beq (dq_y c (p + 1)) x && (Nat.blt (dq_y c (p + 1 + 1)) 256 && decide (Jvm.ClassFile.Reader.signed 8 (dq_y c (p + 1 + 1)) = v))))
theorem dq_o {c : ByteArray} {p o q n : Nat} {i : Jvm.ClassFile.Instr} {k : Nat → Jvm.ClassFile.Decoder Jvm.ClassFile.Instr} (hk : Jvm.ClassFile.Decoder.instr p = Jvm.ClassFile.Reader.u1 >>= k) (ho : Nat.blt o 256 = true) (e : dq_0 c p o = true) (h : Jvm.ClassFile.Reader.runAt (k o) c (p + 1) = .ok (i, q)) (hn : q - p = n) : decode c p = .ok (i, n) := by
  have e' : dq_y c p = o := Nat.eq_of_beq_eq_true (show Nat.beq (dq_y c p) o = true from e)
  have z : Jvm.ClassFile.Reader.runAt (Jvm.ClassFile.Decoder.instr p) c p = .ok (i, q) := by
    rw [hk]
    refine Eq.trans (dq_b (dq_u (by rw [e']; exact ho))) ?_
    rw [e']
    exact h
  subst hn
  exact dq_d z
theorem dq_f0 {c : ByteArray} {p o : Nat} {k : Nat → Jvm.ClassFile.Decoder Jvm.ClassFile.Instr} {i : Jvm.ClassFile.Instr} (hk : Jvm.ClassFile.Decoder.instr p = Jvm.ClassFile.Reader.u1 >>= k) (ho : Nat.blt o 256 = true) (hs : k o = Pure.pure i) (h : dq_0 c p o = true) : decode c p = .ok (i, 1) := by
  refine dq_o (q := p + 1) hk ho h ?_ (by omega)
  rw [hs]
  all_goals rfl
theorem dq_f1 {c : ByteArray} {p o : Nat} {k : Nat → Jvm.ClassFile.Decoder Jvm.ClassFile.Instr} {x : Nat} {i : Nat → Jvm.ClassFile.Instr} (hk : Jvm.ClassFile.Decoder.instr p = Jvm.ClassFile.Reader.u1 >>= k) (ho : Nat.blt o 256 = true) (hs : k o = Jvm.ClassFile.Reader.u1 >>= fun n => Pure.pure (i n)) (h : dq_1 c p o x = true) : decode c p = .ok (i x, 2) := by
  unfold dq_1 at h
  obtain ⟨h0, h1⟩ := dl_b h
  obtain ⟨h1, h2⟩ := dl_b h1
  refine dq_o (q := p + 1 + 1) hk ho h0 ?_ (by omega)
  rw [hs]
  refine Eq.trans (dq_b (dq_u h1)) ?_
  rw [Nat.eq_of_beq_eq_true h2]
  all_goals rfl
theorem dq_f2 {c : ByteArray} {p o : Nat} {k : Nat → Jvm.ClassFile.Decoder Jvm.ClassFile.Instr} {x : Nat} {i : Nat → Jvm.ClassFile.Instr} (hk : Jvm.ClassFile.Decoder.instr p = Jvm.ClassFile.Reader.u1 >>= k) (ho : Nat.blt o 256 = true) (hs : k o = Jvm.ClassFile.Reader.u2 >>= fun n => Pure.pure (i n)) (h : dq_2 c p o x = true) : decode c p = .ok (i x, 3) := by
  unfold dq_2 at h
  obtain ⟨h0, h1⟩ := dl_b h
  obtain ⟨h1, h2⟩ := dl_b h1
  obtain ⟨h2, h3⟩ := dl_b h2
  refine dq_o (q := p + 1 + 1 + 1) hk ho h0 ?_ (by omega)
  rw [hs]
  refine Eq.trans (dq_b (dq_w h1 h2)) ?_
  rw [Nat.eq_of_beq_eq_true h3]
  all_goals rfl
theorem dq_f3 {c : ByteArray} {p o : Nat} {k : Nat → Jvm.ClassFile.Decoder Jvm.ClassFile.Instr} {v : Int} {i : Int → Jvm.ClassFile.Instr} (hk : Jvm.ClassFile.Decoder.instr p = Jvm.ClassFile.Reader.u1 >>= k) (ho : Nat.blt o 256 = true) (hs : k o = Jvm.ClassFile.Reader.s1 >>= fun n => Pure.pure (i n)) (h : dq_3 c p o v = true) : decode c p = .ok (i v, 2) := by
  unfold dq_3 at h
  obtain ⟨h0, h1⟩ := dl_b h
  obtain ⟨h1, h2⟩ := dl_b h1
  refine dq_o (q := p + 1 + 1) hk ho h0 ?_ (by omega)
  rw [hs]
  refine Eq.trans (dq_b (dq_s h1)) ?_
  rw [of_decide_eq_true h2]
  all_goals rfl
theorem dq_f4 {c : ByteArray} {p o : Nat} {k : Nat → Jvm.ClassFile.Decoder Jvm.ClassFile.Instr} {v : Int} {i : Int → Jvm.ClassFile.Instr} (hk : Jvm.ClassFile.Decoder.instr p = Jvm.ClassFile.Reader.u1 >>= k) (ho : Nat.blt o 256 = true) (hs : k o = Jvm.ClassFile.Reader.s2 >>= fun n => Pure.pure (i n)) (h : dq_4 c p o v = true) : decode c p = .ok (i v, 3) := by
  unfold dq_4 at h
  obtain ⟨h0, h1⟩ := dl_b h
  obtain ⟨h1, h2⟩ := dl_b h1
  obtain ⟨h2, h3⟩ := dl_b h2
  refine dq_o (q := p + 1 + 1 + 1) hk ho h0 ?_ (by omega)
  rw [hs]
  refine Eq.trans (dq_b (dq_t h1 h2)) ?_
  rw [of_decide_eq_true h3]
  all_goals rfl
theorem dq_f5 {c : ByteArray} {p o : Nat} {k : Nat → Jvm.ClassFile.Decoder Jvm.ClassFile.Instr} {x : Nat} {v : Int} {i : Nat → Int → Jvm.ClassFile.Instr} (hk : Jvm.ClassFile.Decoder.instr p = Jvm.ClassFile.Reader.u1 >>= k) (ho : Nat.blt o 256 = true) (hs : k o = Jvm.ClassFile.Reader.u1 >>= fun n => Jvm.ClassFile.Reader.s1 >>= fun m => Pure.pure (i n m)) (h : dq_5 c p o x v = true) : decode c p = .ok (i x v, 3) := by
  unfold dq_5 at h
  obtain ⟨h0, h1⟩ := dl_b h
  obtain ⟨h1, h2⟩ := dl_b h1
  obtain ⟨h2, h3⟩ := dl_b h2
  obtain ⟨h3, h4⟩ := dl_b h3
  refine dq_o (q := p + 1 + 1 + 1) hk ho h0 ?_ (by omega)
  rw [hs]
  refine Eq.trans (dq_b (dq_u h1)) ?_
  rw [Nat.eq_of_beq_eq_true h2]
  refine Eq.trans (dq_b (dq_s h3)) ?_
  rw [of_decide_eq_true h4]
  all_goals rfl
set_option maxRecDepth 20000 in
theorem dq_i2 {c : ByteArray} {p : Nat} (h : dq_0 c p 2 = true) : decode c p = .ok (.iconst (-1), 1) := dq_f0 rfl rfl rfl h
set_option maxRecDepth 20000 in
theorem dq_i3 {c : ByteArray} {p : Nat} (h : dq_0 c p 3 = true) : decode c p = .ok (.iconst 0, 1) := dq_f0 rfl rfl rfl h
set_option maxRecDepth 20000 in
theorem dq_i4 {c : ByteArray} {p : Nat} (h : dq_0 c p 4 = true) : decode c p = .ok (.iconst 1, 1) := dq_f0 rfl rfl rfl h
set_option maxRecDepth 20000 in
theorem dq_i5 {c : ByteArray} {p : Nat} (h : dq_0 c p 5 = true) : decode c p = .ok (.iconst 2, 1) := dq_f0 rfl rfl rfl h
set_option maxRecDepth 20000 in
theorem dq_i6 {c : ByteArray} {p : Nat} (h : dq_0 c p 6 = true) : decode c p = .ok (.iconst 3, 1) := dq_f0 rfl rfl rfl h
set_option maxRecDepth 20000 in
theorem dq_i7 {c : ByteArray} {p : Nat} (h : dq_0 c p 7 = true) : decode c p = .ok (.iconst 4, 1) := dq_f0 rfl rfl rfl h
set_option maxRecDepth 20000 in
theorem dq_i8 {c : ByteArray} {p : Nat} (h : dq_0 c p 8 = true) : decode c p = .ok (.iconst 5, 1) := dq_f0 rfl rfl rfl h
set_option maxRecDepth 20000 in
theorem dq_i9 {c : ByteArray} {p : Nat} (h : dq_0 c p 9 = true) : decode c p = .ok (.lconst 0, 1) := dq_f0 rfl rfl rfl h
set_option maxRecDepth 20000 in
theorem dq_i10 {c : ByteArray} {p : Nat} (h : dq_0 c p 10 = true) : decode c p = .ok (.lconst 1, 1) := dq_f0 rfl rfl rfl h
set_option maxRecDepth 20000 in
theorem dq_i16 {c : ByteArray} {p : Nat} {v : Int} (h : dq_3 c p 16 v = true) : decode c p = .ok (.bipush v, 2) := dq_f3 (i := fun n => .bipush n) rfl rfl rfl h
set_option maxRecDepth 20000 in
theorem dq_i17 {c : ByteArray} {p : Nat} {v : Int} (h : dq_4 c p 17 v = true) : decode c p = .ok (.sipush v, 3) := dq_f4 (i := fun n => .sipush n) rfl rfl rfl h
set_option maxRecDepth 20000 in
theorem dq_i20 {c : ByteArray} {p : Nat} {x : Nat} (h : dq_2 c p 20 x = true) : decode c p = .ok (.ldc2_w x, 3) := dq_f2 (i := fun n => .ldc2_w n) rfl rfl rfl h
set_option maxRecDepth 20000 in
theorem dq_i21 {c : ByteArray} {p : Nat} {x : Nat} (h : dq_1 c p 21 x = true) : decode c p = .ok (.iload x, 2) := dq_f1 (i := fun n => .iload n) rfl rfl rfl h
set_option maxRecDepth 20000 in
theorem dq_i22 {c : ByteArray} {p : Nat} {x : Nat} (h : dq_1 c p 22 x = true) : decode c p = .ok (.lload x, 2) := dq_f1 (i := fun n => .lload n) rfl rfl rfl h
set_option maxRecDepth 20000 in
theorem dq_i26 {c : ByteArray} {p : Nat} (h : dq_0 c p 26 = true) : decode c p = .ok (.iload_n 0, 1) := dq_f0 rfl rfl rfl h
set_option maxRecDepth 20000 in
theorem dq_i27 {c : ByteArray} {p : Nat} (h : dq_0 c p 27 = true) : decode c p = .ok (.iload_n 1, 1) := dq_f0 rfl rfl rfl h
set_option maxRecDepth 20000 in
theorem dq_i28 {c : ByteArray} {p : Nat} (h : dq_0 c p 28 = true) : decode c p = .ok (.iload_n 2, 1) := dq_f0 rfl rfl rfl h
set_option maxRecDepth 20000 in
theorem dq_i29 {c : ByteArray} {p : Nat} (h : dq_0 c p 29 = true) : decode c p = .ok (.iload_n 3, 1) := dq_f0 rfl rfl rfl h
set_option maxRecDepth 20000 in
theorem dq_i31 {c : ByteArray} {p : Nat} (h : dq_0 c p 31 = true) : decode c p = .ok (.lload_n 1, 1) := dq_f0 rfl rfl rfl h
set_option maxRecDepth 20000 in
theorem dq_i32 {c : ByteArray} {p : Nat} (h : dq_0 c p 32 = true) : decode c p = .ok (.lload_n 2, 1) := dq_f0 rfl rfl rfl h
set_option maxRecDepth 20000 in
theorem dq_i33 {c : ByteArray} {p : Nat} (h : dq_0 c p 33 = true) : decode c p = .ok (.lload_n 3, 1) := dq_f0 rfl rfl rfl h
set_option maxRecDepth 20000 in
theorem dq_i42 {c : ByteArray} {p : Nat} (h : dq_0 c p 42 = true) : decode c p = .ok (.aload_n 0, 1) := dq_f0 rfl rfl rfl h
set_option maxRecDepth 20000 in
theorem dq_i43 {c : ByteArray} {p : Nat} (h : dq_0 c p 43 = true) : decode c p = .ok (.aload_n 1, 1) := dq_f0 rfl rfl rfl h
set_option maxRecDepth 20000 in
theorem dq_i44 {c : ByteArray} {p : Nat} (h : dq_0 c p 44 = true) : decode c p = .ok (.aload_n 2, 1) := dq_f0 rfl rfl rfl h
set_option maxRecDepth 20000 in
theorem dq_i45 {c : ByteArray} {p : Nat} (h : dq_0 c p 45 = true) : decode c p = .ok (.aload_n 3, 1) := dq_f0 rfl rfl rfl h
set_option maxRecDepth 20000 in
theorem dq_i46 {c : ByteArray} {p : Nat} (h : dq_0 c p 46 = true) : decode c p = .ok (.iaload, 1) := dq_f0 rfl rfl rfl h
set_option maxRecDepth 20000 in
theorem dq_i47 {c : ByteArray} {p : Nat} (h : dq_0 c p 47 = true) : decode c p = .ok (.laload, 1) := dq_f0 rfl rfl rfl h
set_option maxRecDepth 20000 in
theorem dq_i50 {c : ByteArray} {p : Nat} (h : dq_0 c p 50 = true) : decode c p = .ok (.aaload, 1) := dq_f0 rfl rfl rfl h
set_option maxRecDepth 20000 in
theorem dq_i51 {c : ByteArray} {p : Nat} (h : dq_0 c p 51 = true) : decode c p = .ok (.baload, 1) := dq_f0 rfl rfl rfl h
set_option maxRecDepth 20000 in
theorem dq_i54 {c : ByteArray} {p : Nat} {x : Nat} (h : dq_1 c p 54 x = true) : decode c p = .ok (.istore x, 2) := dq_f1 (i := fun n => .istore n) rfl rfl rfl h
set_option maxRecDepth 20000 in
theorem dq_i55 {c : ByteArray} {p : Nat} {x : Nat} (h : dq_1 c p 55 x = true) : decode c p = .ok (.lstore x, 2) := dq_f1 (i := fun n => .lstore n) rfl rfl rfl h
set_option maxRecDepth 20000 in
theorem dq_i60 {c : ByteArray} {p : Nat} (h : dq_0 c p 60 = true) : decode c p = .ok (.istore_n 1, 1) := dq_f0 rfl rfl rfl h
set_option maxRecDepth 20000 in
theorem dq_i61 {c : ByteArray} {p : Nat} (h : dq_0 c p 61 = true) : decode c p = .ok (.istore_n 2, 1) := dq_f0 rfl rfl rfl h
set_option maxRecDepth 20000 in
theorem dq_i62 {c : ByteArray} {p : Nat} (h : dq_0 c p 62 = true) : decode c p = .ok (.istore_n 3, 1) := dq_f0 rfl rfl rfl h
set_option maxRecDepth 20000 in
theorem dq_i65 {c : ByteArray} {p : Nat} (h : dq_0 c p 65 = true) : decode c p = .ok (.lstore_n 2, 1) := dq_f0 rfl rfl rfl h
set_option maxRecDepth 20000 in
theorem dq_i76 {c : ByteArray} {p : Nat} (h : dq_0 c p 76 = true) : decode c p = .ok (.astore_n 1, 1) := dq_f0 rfl rfl rfl h
set_option maxRecDepth 20000 in
theorem dq_i77 {c : ByteArray} {p : Nat} (h : dq_0 c p 77 = true) : decode c p = .ok (.astore_n 2, 1) := dq_f0 rfl rfl rfl h
set_option maxRecDepth 20000 in
theorem dq_i79 {c : ByteArray} {p : Nat} (h : dq_0 c p 79 = true) : decode c p = .ok (.iastore, 1) := dq_f0 rfl rfl rfl h
set_option maxRecDepth 20000 in
theorem dq_i80 {c : ByteArray} {p : Nat} (h : dq_0 c p 80 = true) : decode c p = .ok (.lastore, 1) := dq_f0 rfl rfl rfl h
set_option maxRecDepth 20000 in
theorem dq_i83 {c : ByteArray} {p : Nat} (h : dq_0 c p 83 = true) : decode c p = .ok (.aastore, 1) := dq_f0 rfl rfl rfl h
set_option maxRecDepth 20000 in
theorem dq_i84 {c : ByteArray} {p : Nat} (h : dq_0 c p 84 = true) : decode c p = .ok (.bastore, 1) := dq_f0 rfl rfl rfl h
set_option maxRecDepth 20000 in
theorem dq_i87 {c : ByteArray} {p : Nat} (h : dq_0 c p 87 = true) : decode c p = .ok (.pop, 1) := dq_f0 rfl rfl rfl h
set_option maxRecDepth 20000 in
theorem dq_i89 {c : ByteArray} {p : Nat} (h : dq_0 c p 89 = true) : decode c p = .ok (.dup, 1) := dq_f0 rfl rfl rfl h
set_option maxRecDepth 20000 in
theorem dq_i92 {c : ByteArray} {p : Nat} (h : dq_0 c p 92 = true) : decode c p = .ok (.dup2, 1) := dq_f0 rfl rfl rfl h
set_option maxRecDepth 20000 in
theorem dq_i96 {c : ByteArray} {p : Nat} (h : dq_0 c p 96 = true) : decode c p = .ok (.iadd, 1) := dq_f0 rfl rfl rfl h
set_option maxRecDepth 20000 in
theorem dq_i97 {c : ByteArray} {p : Nat} (h : dq_0 c p 97 = true) : decode c p = .ok (.ladd, 1) := dq_f0 rfl rfl rfl h
set_option maxRecDepth 20000 in
theorem dq_i100 {c : ByteArray} {p : Nat} (h : dq_0 c p 100 = true) : decode c p = .ok (.isub, 1) := dq_f0 rfl rfl rfl h
set_option maxRecDepth 20000 in
theorem dq_i101 {c : ByteArray} {p : Nat} (h : dq_0 c p 101 = true) : decode c p = .ok (.lsub, 1) := dq_f0 rfl rfl rfl h
set_option maxRecDepth 20000 in
theorem dq_i104 {c : ByteArray} {p : Nat} (h : dq_0 c p 104 = true) : decode c p = .ok (.imul, 1) := dq_f0 rfl rfl rfl h
set_option maxRecDepth 20000 in
theorem dq_i105 {c : ByteArray} {p : Nat} (h : dq_0 c p 105 = true) : decode c p = .ok (.lmul, 1) := dq_f0 rfl rfl rfl h
set_option maxRecDepth 20000 in
theorem dq_i108 {c : ByteArray} {p : Nat} (h : dq_0 c p 108 = true) : decode c p = .ok (.idiv, 1) := dq_f0 rfl rfl rfl h
set_option maxRecDepth 20000 in
theorem dq_i112 {c : ByteArray} {p : Nat} (h : dq_0 c p 112 = true) : decode c p = .ok (.irem, 1) := dq_f0 rfl rfl rfl h
set_option maxRecDepth 20000 in
theorem dq_i120 {c : ByteArray} {p : Nat} (h : dq_0 c p 120 = true) : decode c p = .ok (.ishl, 1) := dq_f0 rfl rfl rfl h
set_option maxRecDepth 20000 in
theorem dq_i121 {c : ByteArray} {p : Nat} (h : dq_0 c p 121 = true) : decode c p = .ok (.lshl, 1) := dq_f0 rfl rfl rfl h
set_option maxRecDepth 20000 in
theorem dq_i122 {c : ByteArray} {p : Nat} (h : dq_0 c p 122 = true) : decode c p = .ok (.ishr, 1) := dq_f0 rfl rfl rfl h
set_option maxRecDepth 20000 in
theorem dq_i123 {c : ByteArray} {p : Nat} (h : dq_0 c p 123 = true) : decode c p = .ok (.lshr, 1) := dq_f0 rfl rfl rfl h
set_option maxRecDepth 20000 in
theorem dq_i125 {c : ByteArray} {p : Nat} (h : dq_0 c p 125 = true) : decode c p = .ok (.lushr, 1) := dq_f0 rfl rfl rfl h
set_option maxRecDepth 20000 in
theorem dq_i126 {c : ByteArray} {p : Nat} (h : dq_0 c p 126 = true) : decode c p = .ok (.iand, 1) := dq_f0 rfl rfl rfl h
set_option maxRecDepth 20000 in
theorem dq_i127 {c : ByteArray} {p : Nat} (h : dq_0 c p 127 = true) : decode c p = .ok (.land, 1) := dq_f0 rfl rfl rfl h
set_option maxRecDepth 20000 in
theorem dq_i128 {c : ByteArray} {p : Nat} (h : dq_0 c p 128 = true) : decode c p = .ok (.ior, 1) := dq_f0 rfl rfl rfl h
set_option maxRecDepth 20000 in
theorem dq_i129 {c : ByteArray} {p : Nat} (h : dq_0 c p 129 = true) : decode c p = .ok (.lor, 1) := dq_f0 rfl rfl rfl h
set_option maxRecDepth 20000 in
theorem dq_i130 {c : ByteArray} {p : Nat} (h : dq_0 c p 130 = true) : decode c p = .ok (.ixor, 1) := dq_f0 rfl rfl rfl h
set_option maxRecDepth 20000 in
theorem dq_i131 {c : ByteArray} {p : Nat} (h : dq_0 c p 131 = true) : decode c p = .ok (.lxor, 1) := dq_f0 rfl rfl rfl h
set_option maxRecDepth 20000 in
theorem dq_i132 {c : ByteArray} {p : Nat} {x : Nat} {v : Int} (h : dq_5 c p 132 x v = true) : decode c p = .ok (.iinc x v, 3) := dq_f5 (i := fun n m => .iinc n m) rfl rfl rfl h
set_option maxRecDepth 20000 in
theorem dq_i133 {c : ByteArray} {p : Nat} (h : dq_0 c p 133 = true) : decode c p = .ok (.i2l, 1) := dq_f0 rfl rfl rfl h
set_option maxRecDepth 20000 in
theorem dq_i136 {c : ByteArray} {p : Nat} (h : dq_0 c p 136 = true) : decode c p = .ok (.l2i, 1) := dq_f0 rfl rfl rfl h
set_option maxRecDepth 20000 in
theorem dq_i148 {c : ByteArray} {p : Nat} (h : dq_0 c p 148 = true) : decode c p = .ok (.lcmp, 1) := dq_f0 rfl rfl rfl h
set_option maxRecDepth 20000 in
theorem dq_i153 {c : ByteArray} {p : Nat} {v : Int} (h : dq_4 c p 153 v = true) : decode c p = .ok (.ifCond .eq v, 3) := dq_f4 (i := fun n => .ifCond .eq n) rfl rfl rfl h
set_option maxRecDepth 20000 in
theorem dq_i154 {c : ByteArray} {p : Nat} {v : Int} (h : dq_4 c p 154 v = true) : decode c p = .ok (.ifCond .ne v, 3) := dq_f4 (i := fun n => .ifCond .ne n) rfl rfl rfl h
set_option maxRecDepth 20000 in
theorem dq_i155 {c : ByteArray} {p : Nat} {v : Int} (h : dq_4 c p 155 v = true) : decode c p = .ok (.ifCond .lt v, 3) := dq_f4 (i := fun n => .ifCond .lt n) rfl rfl rfl h
set_option maxRecDepth 20000 in
theorem dq_i156 {c : ByteArray} {p : Nat} {v : Int} (h : dq_4 c p 156 v = true) : decode c p = .ok (.ifCond .ge v, 3) := dq_f4 (i := fun n => .ifCond .ge n) rfl rfl rfl h
set_option maxRecDepth 20000 in
theorem dq_i158 {c : ByteArray} {p : Nat} {v : Int} (h : dq_4 c p 158 v = true) : decode c p = .ok (.ifCond .le v, 3) := dq_f4 (i := fun n => .ifCond .le n) rfl rfl rfl h
set_option maxRecDepth 20000 in
theorem dq_i159 {c : ByteArray} {p : Nat} {v : Int} (h : dq_4 c p 159 v = true) : decode c p = .ok (.if_icmp .eq v, 3) := dq_f4 (i := fun n => .if_icmp .eq n) rfl rfl rfl h
set_option maxRecDepth 20000 in
theorem dq_i160 {c : ByteArray} {p : Nat} {v : Int} (h : dq_4 c p 160 v = true) : decode c p = .ok (.if_icmp .ne v, 3) := dq_f4 (i := fun n => .if_icmp .ne n) rfl rfl rfl h
set_option maxRecDepth 20000 in
theorem dq_i161 {c : ByteArray} {p : Nat} {v : Int} (h : dq_4 c p 161 v = true) : decode c p = .ok (.if_icmp .lt v, 3) := dq_f4 (i := fun n => .if_icmp .lt n) rfl rfl rfl h
set_option maxRecDepth 20000 in
theorem dq_i162 {c : ByteArray} {p : Nat} {v : Int} (h : dq_4 c p 162 v = true) : decode c p = .ok (.if_icmp .ge v, 3) := dq_f4 (i := fun n => .if_icmp .ge n) rfl rfl rfl h
set_option maxRecDepth 20000 in
theorem dq_i163 {c : ByteArray} {p : Nat} {v : Int} (h : dq_4 c p 163 v = true) : decode c p = .ok (.if_icmp .gt v, 3) := dq_f4 (i := fun n => .if_icmp .gt n) rfl rfl rfl h
set_option maxRecDepth 20000 in
theorem dq_i164 {c : ByteArray} {p : Nat} {v : Int} (h : dq_4 c p 164 v = true) : decode c p = .ok (.if_icmp .le v, 3) := dq_f4 (i := fun n => .if_icmp .le n) rfl rfl rfl h
set_option maxRecDepth 20000 in
theorem dq_i167 {c : ByteArray} {p : Nat} {v : Int} (h : dq_4 c p 167 v = true) : decode c p = .ok (.goto v, 3) := dq_f4 (i := fun n => .goto n) rfl rfl rfl h
set_option maxRecDepth 20000 in
theorem dq_i172 {c : ByteArray} {p : Nat} (h : dq_0 c p 172 = true) : decode c p = .ok (.ireturn, 1) := dq_f0 rfl rfl rfl h
set_option maxRecDepth 20000 in
theorem dq_i173 {c : ByteArray} {p : Nat} (h : dq_0 c p 173 = true) : decode c p = .ok (.lreturn, 1) := dq_f0 rfl rfl rfl h
set_option maxRecDepth 20000 in
theorem dq_i177 {c : ByteArray} {p : Nat} (h : dq_0 c p 177 = true) : decode c p = .ok (.return_, 1) := dq_f0 rfl rfl rfl h
set_option maxRecDepth 20000 in
theorem dq_i178 {c : ByteArray} {p : Nat} {x : Nat} (h : dq_2 c p 178 x = true) : decode c p = .ok (.getstatic x, 3) := dq_f2 (i := fun n => .getstatic n) rfl rfl rfl h
set_option maxRecDepth 20000 in
theorem dq_i180 {c : ByteArray} {p : Nat} {x : Nat} (h : dq_2 c p 180 x = true) : decode c p = .ok (.getfield x, 3) := dq_f2 (i := fun n => .getfield n) rfl rfl rfl h
set_option maxRecDepth 20000 in
theorem dq_i181 {c : ByteArray} {p : Nat} {x : Nat} (h : dq_2 c p 181 x = true) : decode c p = .ok (.putfield x, 3) := dq_f2 (i := fun n => .putfield n) rfl rfl rfl h
set_option maxRecDepth 20000 in
theorem dq_i182 {c : ByteArray} {p : Nat} {x : Nat} (h : dq_2 c p 182 x = true) : decode c p = .ok (.invokevirtual x, 3) := dq_f2 (i := fun n => .invokevirtual n) rfl rfl rfl h
set_option maxRecDepth 20000 in
theorem dq_i183 {c : ByteArray} {p : Nat} {x : Nat} (h : dq_2 c p 183 x = true) : decode c p = .ok (.invokespecial x, 3) := dq_f2 (i := fun n => .invokespecial n) rfl rfl rfl h
set_option maxRecDepth 20000 in
theorem dq_i184 {c : ByteArray} {p : Nat} {x : Nat} (h : dq_2 c p 184 x = true) : decode c p = .ok (.invokestatic x, 3) := dq_f2 (i := fun n => .invokestatic n) rfl rfl rfl h
set_option maxRecDepth 20000 in
theorem dq_i187 {c : ByteArray} {p : Nat} {x : Nat} (h : dq_2 c p 187 x = true) : decode c p = .ok (.new x, 3) := dq_f2 (i := fun n => .new n) rfl rfl rfl h
set_option maxRecDepth 20000 in
theorem dq_i189 {c : ByteArray} {p : Nat} {x : Nat} (h : dq_2 c p 189 x = true) : decode c p = .ok (.anewarray x, 3) := dq_f2 (i := fun n => .anewarray n) rfl rfl rfl h
set_option maxRecDepth 20000 in
theorem dq_i190 {c : ByteArray} {p : Nat} (h : dq_0 c p 190 = true) : decode c p = .ok (.arraylength, 1) := dq_f0 rfl rfl rfl h
theorem dkX0_init_0 : (dq_0 cX0_init 0 42 && (dq_2 cX0_init 1 183 3 && (dq_0 cX0_init 4 42 && (dq_3 cX0_init 5 16 40)))) = true := by decide +kernel
theorem dX0_init_0 : decode cX0_init 0 = .ok (.aload_n 0, 1) := dq_i42 (dl_b dkX0_init_0).1
theorem dX0_init_1 : decode cX0_init 1 = .ok (.invokespecial 3, 3) := dq_i183 (dl_b (dl_b dkX0_init_0).2).1
theorem dX0_init_4 : decode cX0_init 4 = .ok (.aload_n 0, 1) := dq_i42 (dl_b (dl_b (dl_b dkX0_init_0).2).2).1
theorem dX0_init_5 : decode cX0_init 5 = .ok (.bipush 40, 2) := dq_i16 (dl_b (dl_b (dl_b dkX0_init_0).2).2).2
theorem dX0_init_7 : decode cX0_init 7 = .ok (.newarray .int, 2) := by decide +kernel
theorem dkX0_init_9 : (dq_2 cX0_init 9 181 9 && (dq_0 cX0_init 12 42 && (dq_3 cX0_init 13 16 120))) = true := by decide +kernel
theorem dX0_init_9 : decode cX0_init 9 = .ok (.putfield 9, 3) := dq_i181 (dl_b dkX0_init_9).1
theorem dX0_init_12 : decode cX0_init 12 = .ok (.aload_n 0, 1) := dq_i42 (dl_b (dl_b dkX0_init_9).2).1
theorem dX0_init_13 : decode cX0_init 13 = .ok (.bipush 120, 2) := dq_i16 (dl_b (dl_b dkX0_init_9).2).2
theorem dX0_init_15 : decode cX0_init 15 = .ok (.newarray .int, 2) := by decide +kernel
theorem dkX0_init_17 : (dq_2 cX0_init 17 181 15 && (dq_0 cX0_init 20 42 && (dq_0 cX0_init 21 7))) = true := by decide +kernel
theorem dX0_init_17 : decode cX0_init 17 = .ok (.putfield 15, 3) := dq_i181 (dl_b dkX0_init_17).1
theorem dX0_init_20 : decode cX0_init 20 = .ok (.aload_n 0, 1) := dq_i42 (dl_b (dl_b dkX0_init_17).2).1
theorem dX0_init_21 : decode cX0_init 21 = .ok (.iconst 4, 1) := dq_i7 (dl_b (dl_b dkX0_init_17).2).2
theorem dX0_init_22 : decode cX0_init 22 = .ok (.newarray .int, 2) := by decide +kernel
theorem dkX0_init_24 : (dq_2 cX0_init 24 181 18 && (dq_0 cX0_init 27 42 && (dq_3 cX0_init 28 16 40))) = true := by decide +kernel
theorem dX0_init_24 : decode cX0_init 24 = .ok (.putfield 18, 3) := dq_i181 (dl_b dkX0_init_24).1
theorem dX0_init_27 : decode cX0_init 27 = .ok (.aload_n 0, 1) := dq_i42 (dl_b (dl_b dkX0_init_24).2).1
theorem dX0_init_28 : decode cX0_init 28 = .ok (.bipush 40, 2) := dq_i16 (dl_b (dl_b dkX0_init_24).2).2
theorem dX0_init_30 : decode cX0_init 30 = .ok (.newarray .int, 2) := by decide +kernel
theorem dkX0_init_32 : (dq_2 cX0_init 32 181 21 && (dq_0 cX0_init 35 42 && (dq_0 cX0_init 36 3 && (dq_2 cX0_init 37 181 24 && (dq_0 cX0_init 40 42 && (dq_0 cX0_init 41 3 && (dq_2 cX0_init 42 181 28 && (dq_0 cX0_init 45 177)))))))) = true := by decide +kernel
theorem dX0_init_32 : decode cX0_init 32 = .ok (.putfield 21, 3) := dq_i181 (dl_b dkX0_init_32).1
theorem dX0_init_35 : decode cX0_init 35 = .ok (.aload_n 0, 1) := dq_i42 (dl_b (dl_b dkX0_init_32).2).1
theorem dX0_init_36 : decode cX0_init 36 = .ok (.iconst 0, 1) := dq_i3 (dl_b (dl_b (dl_b dkX0_init_32).2).2).1
theorem dX0_init_37 : decode cX0_init 37 = .ok (.putfield 24, 3) := dq_i181 (dl_b (dl_b (dl_b (dl_b dkX0_init_32).2).2).2).1
theorem dX0_init_40 : decode cX0_init 40 = .ok (.aload_n 0, 1) := dq_i42 (dl_b (dl_b (dl_b (dl_b (dl_b dkX0_init_32).2).2).2).2).1
theorem dX0_init_41 : decode cX0_init 41 = .ok (.iconst 0, 1) := dq_i3 (dl_b (dl_b (dl_b (dl_b (dl_b (dl_b dkX0_init_32).2).2).2).2).2).1
theorem dX0_init_42 : decode cX0_init 42 = .ok (.putfield 28, 3) := dq_i181 (dl_b (dl_b (dl_b (dl_b (dl_b (dl_b (dl_b dkX0_init_32).2).2).2).2).2).2).1
theorem dX0_init_45 : decode cX0_init 45 = .ok (.return_, 1) := dq_i177 (dl_b (dl_b (dl_b (dl_b (dl_b (dl_b (dl_b dkX0_init_32).2).2).2).2).2).2).2
theorem dkX0_gateCount_0 : (dq_0 cX0_gateCount 0 42 && (dq_2 cX0_gateCount 1 180 24 && (dq_0 cX0_gateCount 4 172))) = true := by decide +kernel
theorem dX0_gateCount_0 : decode cX0_gateCount 0 = .ok (.aload_n 0, 1) := dq_i42 (dl_b dkX0_gateCount_0).1
theorem dX0_gateCount_1 : decode cX0_gateCount 1 = .ok (.getfield 24, 3) := dq_i180 (dl_b (dl_b dkX0_gateCount_0).2).1
theorem dX0_gateCount_4 : decode cX0_gateCount 4 = .ok (.ireturn, 1) := dq_i172 (dl_b (dl_b dkX0_gateCount_0).2).2
theorem dkX0_outputCount_0 : (dq_0 cX0_outputCount 0 42 && (dq_2 cX0_outputCount 1 180 28 && (dq_0 cX0_outputCount 4 172))) = true := by decide +kernel
theorem dX0_outputCount_0 : decode cX0_outputCount 0 = .ok (.aload_n 0, 1) := dq_i42 (dl_b dkX0_outputCount_0).1
theorem dX0_outputCount_1 : decode cX0_outputCount 1 = .ok (.getfield 28, 3) := dq_i180 (dl_b (dl_b dkX0_outputCount_0).2).1
theorem dX0_outputCount_4 : decode cX0_outputCount 4 = .ok (.ireturn, 1) := dq_i172 (dl_b (dl_b dkX0_outputCount_0).2).2
theorem dkX0_hasGate_0 : (dq_0 cX0_hasGate 0 27 && (dq_4 cX0_hasGate 1 155 15 && (dq_0 cX0_hasGate 4 27 && (dq_0 cX0_hasGate 5 42 && (dq_2 cX0_hasGate 6 180 24 && (dq_4 cX0_hasGate 9 162 7 && (dq_0 cX0_hasGate 12 4 && (dq_4 cX0_hasGate 13 167 4 && (dq_0 cX0_hasGate 16 3 && (dq_0 cX0_hasGate 17 172)))))))))) = true := by decide +kernel
theorem dX0_hasGate_0 : decode cX0_hasGate 0 = .ok (.iload_n 1, 1) := dq_i27 (dl_b dkX0_hasGate_0).1
theorem dX0_hasGate_1 : decode cX0_hasGate 1 = .ok (.ifCond .lt 15, 3) := dq_i155 (dl_b (dl_b dkX0_hasGate_0).2).1
theorem dX0_hasGate_4 : decode cX0_hasGate 4 = .ok (.iload_n 1, 1) := dq_i27 (dl_b (dl_b (dl_b dkX0_hasGate_0).2).2).1
theorem dX0_hasGate_5 : decode cX0_hasGate 5 = .ok (.aload_n 0, 1) := dq_i42 (dl_b (dl_b (dl_b (dl_b dkX0_hasGate_0).2).2).2).1
theorem dX0_hasGate_6 : decode cX0_hasGate 6 = .ok (.getfield 24, 3) := dq_i180 (dl_b (dl_b (dl_b (dl_b (dl_b dkX0_hasGate_0).2).2).2).2).1
theorem dX0_hasGate_9 : decode cX0_hasGate 9 = .ok (.if_icmp .ge 7, 3) := dq_i162 (dl_b (dl_b (dl_b (dl_b (dl_b (dl_b dkX0_hasGate_0).2).2).2).2).2).1
theorem dX0_hasGate_12 : decode cX0_hasGate 12 = .ok (.iconst 1, 1) := dq_i4 (dl_b (dl_b (dl_b (dl_b (dl_b (dl_b (dl_b dkX0_hasGate_0).2).2).2).2).2).2).1
theorem dX0_hasGate_13 : decode cX0_hasGate 13 = .ok (.goto 4, 3) := dq_i167 (dl_b (dl_b (dl_b (dl_b (dl_b (dl_b (dl_b (dl_b dkX0_hasGate_0).2).2).2).2).2).2).2).1
theorem dX0_hasGate_16 : decode cX0_hasGate 16 = .ok (.iconst 0, 1) := dq_i3 (dl_b (dl_b (dl_b (dl_b (dl_b (dl_b (dl_b (dl_b (dl_b dkX0_hasGate_0).2).2).2).2).2).2).2).2).1
theorem dX0_hasGate_17 : decode cX0_hasGate 17 = .ok (.ireturn, 1) := dq_i172 (dl_b (dl_b (dl_b (dl_b (dl_b (dl_b (dl_b (dl_b (dl_b dkX0_hasGate_0).2).2).2).2).2).2).2).2).2
theorem dkX0_hasOutput_0 : (dq_0 cX0_hasOutput 0 27 && (dq_4 cX0_hasOutput 1 155 15 && (dq_0 cX0_hasOutput 4 27 && (dq_0 cX0_hasOutput 5 42 && (dq_2 cX0_hasOutput 6 180 28 && (dq_4 cX0_hasOutput 9 162 7 && (dq_0 cX0_hasOutput 12 4 && (dq_4 cX0_hasOutput 13 167 4 && (dq_0 cX0_hasOutput 16 3 && (dq_0 cX0_hasOutput 17 172)))))))))) = true := by decide +kernel
theorem dX0_hasOutput_0 : decode cX0_hasOutput 0 = .ok (.iload_n 1, 1) := dq_i27 (dl_b dkX0_hasOutput_0).1
theorem dX0_hasOutput_1 : decode cX0_hasOutput 1 = .ok (.ifCond .lt 15, 3) := dq_i155 (dl_b (dl_b dkX0_hasOutput_0).2).1
theorem dX0_hasOutput_4 : decode cX0_hasOutput 4 = .ok (.iload_n 1, 1) := dq_i27 (dl_b (dl_b (dl_b dkX0_hasOutput_0).2).2).1
theorem dX0_hasOutput_5 : decode cX0_hasOutput 5 = .ok (.aload_n 0, 1) := dq_i42 (dl_b (dl_b (dl_b (dl_b dkX0_hasOutput_0).2).2).2).1
theorem dX0_hasOutput_6 : decode cX0_hasOutput 6 = .ok (.getfield 28, 3) := dq_i180 (dl_b (dl_b (dl_b (dl_b (dl_b dkX0_hasOutput_0).2).2).2).2).1
theorem dX0_hasOutput_9 : decode cX0_hasOutput 9 = .ok (.if_icmp .ge 7, 3) := dq_i162 (dl_b (dl_b (dl_b (dl_b (dl_b (dl_b dkX0_hasOutput_0).2).2).2).2).2).1
theorem dX0_hasOutput_12 : decode cX0_hasOutput 12 = .ok (.iconst 1, 1) := dq_i4 (dl_b (dl_b (dl_b (dl_b (dl_b (dl_b (dl_b dkX0_hasOutput_0).2).2).2).2).2).2).1
theorem dX0_hasOutput_13 : decode cX0_hasOutput 13 = .ok (.goto 4, 3) := dq_i167 (dl_b (dl_b (dl_b (dl_b (dl_b (dl_b (dl_b (dl_b dkX0_hasOutput_0).2).2).2).2).2).2).2).1
theorem dX0_hasOutput_16 : decode cX0_hasOutput 16 = .ok (.iconst 0, 1) := dq_i3 (dl_b (dl_b (dl_b (dl_b (dl_b (dl_b (dl_b (dl_b (dl_b dkX0_hasOutput_0).2).2).2).2).2).2).2).2).1
theorem dX0_hasOutput_17 : decode cX0_hasOutput 17 = .ok (.ireturn, 1) := dq_i172 (dl_b (dl_b (dl_b (dl_b (dl_b (dl_b (dl_b (dl_b (dl_b dkX0_hasOutput_0).2).2).2).2).2).2).2).2).2
theorem dkX0_hasOperands_0 : (dq_2 cX0_hasOperands 0 178 31 && (dq_0 cX0_hasOperands 3 27 && (dq_0 cX0_hasOperands 4 46 && (dq_1 cX0_hasOperands 5 54 5 && (dq_1 cX0_hasOperands 7 21 5 && (dq_0 cX0_hasOperands 9 4 && (dq_4 cX0_hasOperands 10 161 11 && (dq_0 cX0_hasOperands 13 42 && (dq_0 cX0_hasOperands 14 28 && (dq_2 cX0_hasOperands 15 182 34)))))))))) = true := by decide +kernel
theorem dX0_hasOperands_0 : decode cX0_hasOperands 0 = .ok (.getstatic 31, 3) := dq_i178 (dl_b dkX0_hasOperands_0).1
theorem dX0_hasOperands_3 : decode cX0_hasOperands 3 = .ok (.iload_n 1, 1) := dq_i27 (dl_b (dl_b dkX0_hasOperands_0).2).1
theorem dX0_hasOperands_4 : decode cX0_hasOperands 4 = .ok (.iaload, 1) := dq_i46 (dl_b (dl_b (dl_b dkX0_hasOperands_0).2).2).1
theorem dX0_hasOperands_5 : decode cX0_hasOperands 5 = .ok (.istore 5, 2) := dq_i54 (dl_b (dl_b (dl_b (dl_b dkX0_hasOperands_0).2).2).2).1
theorem dX0_hasOperands_7 : decode cX0_hasOperands 7 = .ok (.iload 5, 2) := dq_i21 (dl_b (dl_b (dl_b (dl_b (dl_b dkX0_hasOperands_0).2).2).2).2).1
theorem dX0_hasOperands_9 : decode cX0_hasOperands 9 = .ok (.iconst 1, 1) := dq_i4 (dl_b (dl_b (dl_b (dl_b (dl_b (dl_b dkX0_hasOperands_0).2).2).2).2).2).1
theorem dX0_hasOperands_10 : decode cX0_hasOperands 10 = .ok (.if_icmp .lt 11, 3) := dq_i161 (dl_b (dl_b (dl_b (dl_b (dl_b (dl_b (dl_b dkX0_hasOperands_0).2).2).2).2).2).2).1
theorem dX0_hasOperands_13 : decode cX0_hasOperands 13 = .ok (.aload_n 0, 1) := dq_i42 (dl_b (dl_b (dl_b (dl_b (dl_b (dl_b (dl_b (dl_b dkX0_hasOperands_0).2).2).2).2).2).2).2).1
theorem dX0_hasOperands_14 : decode cX0_hasOperands 14 = .ok (.iload_n 2, 1) := dq_i28 (dl_b (dl_b (dl_b (dl_b (dl_b (dl_b (dl_b (dl_b (dl_b dkX0_hasOperands_0).2).2).2).2).2).2).2).2).1
theorem dX0_hasOperands_15 : decode cX0_hasOperands 15 = .ok (.invokevirtual 34, 3) := dq_i182 (dl_b (dl_b (dl_b (dl_b (dl_b (dl_b (dl_b (dl_b (dl_b dkX0_hasOperands_0).2).2).2).2).2).2).2).2).2
theorem dkX0_hasOperands_18 : (dq_4 cX0_hasOperands 18 153 36 && (dq_1 cX0_hasOperands 21 21 5 && (dq_0 cX0_hasOperands 23 5 && (dq_4 cX0_hasOperands 24 161 11 && (dq_0 cX0_hasOperands 27 42 && (dq_0 cX0_hasOperands 28 29 && (dq_2 cX0_hasOperands 29 182 34 && (dq_4 cX0_hasOperands 32 153 22 && (dq_1 cX0_hasOperands 35 21 5 && (dq_0 cX0_hasOperands 37 6)))))))))) = true := by decide +kernel
theorem dX0_hasOperands_18 : decode cX0_hasOperands 18 = .ok (.ifCond .eq 36, 3) := dq_i153 (dl_b dkX0_hasOperands_18).1
theorem dX0_hasOperands_21 : decode cX0_hasOperands 21 = .ok (.iload 5, 2) := dq_i21 (dl_b (dl_b dkX0_hasOperands_18).2).1
theorem dX0_hasOperands_23 : decode cX0_hasOperands 23 = .ok (.iconst 2, 1) := dq_i5 (dl_b (dl_b (dl_b dkX0_hasOperands_18).2).2).1
theorem dX0_hasOperands_24 : decode cX0_hasOperands 24 = .ok (.if_icmp .lt 11, 3) := dq_i161 (dl_b (dl_b (dl_b (dl_b dkX0_hasOperands_18).2).2).2).1
theorem dX0_hasOperands_27 : decode cX0_hasOperands 27 = .ok (.aload_n 0, 1) := dq_i42 (dl_b (dl_b (dl_b (dl_b (dl_b dkX0_hasOperands_18).2).2).2).2).1
theorem dX0_hasOperands_28 : decode cX0_hasOperands 28 = .ok (.iload_n 3, 1) := dq_i29 (dl_b (dl_b (dl_b (dl_b (dl_b (dl_b dkX0_hasOperands_18).2).2).2).2).2).1
theorem dX0_hasOperands_29 : decode cX0_hasOperands 29 = .ok (.invokevirtual 34, 3) := dq_i182 (dl_b (dl_b (dl_b (dl_b (dl_b (dl_b (dl_b dkX0_hasOperands_18).2).2).2).2).2).2).1
theorem dX0_hasOperands_32 : decode cX0_hasOperands 32 = .ok (.ifCond .eq 22, 3) := dq_i153 (dl_b (dl_b (dl_b (dl_b (dl_b (dl_b (dl_b (dl_b dkX0_hasOperands_18).2).2).2).2).2).2).2).1
theorem dX0_hasOperands_35 : decode cX0_hasOperands 35 = .ok (.iload 5, 2) := dq_i21 (dl_b (dl_b (dl_b (dl_b (dl_b (dl_b (dl_b (dl_b (dl_b dkX0_hasOperands_18).2).2).2).2).2).2).2).2).1
theorem dX0_hasOperands_37 : decode cX0_hasOperands 37 = .ok (.iconst 3, 1) := dq_i6 (dl_b (dl_b (dl_b (dl_b (dl_b (dl_b (dl_b (dl_b (dl_b dkX0_hasOperands_18).2).2).2).2).2).2).2).2).2
theorem dkX0_hasOperands_38 : (dq_4 cX0_hasOperands 38 161 12 && (dq_0 cX0_hasOperands 41 42 && (dq_1 cX0_hasOperands 42 21 4 && (dq_2 cX0_hasOperands 44 182 34 && (dq_4 cX0_hasOperands 47 153 7 && (dq_0 cX0_hasOperands 50 4 && (dq_4 cX0_hasOperands 51 167 4 && (dq_0 cX0_hasOperands 54 3 && (dq_0 cX0_hasOperands 55 172))))))))) = true := by decide +kernel
theorem dX0_hasOperands_38 : decode cX0_hasOperands 38 = .ok (.if_icmp .lt 12, 3) := dq_i161 (dl_b dkX0_hasOperands_38).1
theorem dX0_hasOperands_41 : decode cX0_hasOperands 41 = .ok (.aload_n 0, 1) := dq_i42 (dl_b (dl_b dkX0_hasOperands_38).2).1
theorem dX0_hasOperands_42 : decode cX0_hasOperands 42 = .ok (.iload 4, 2) := dq_i21 (dl_b (dl_b (dl_b dkX0_hasOperands_38).2).2).1
theorem dX0_hasOperands_44 : decode cX0_hasOperands 44 = .ok (.invokevirtual 34, 3) := dq_i182 (dl_b (dl_b (dl_b (dl_b dkX0_hasOperands_38).2).2).2).1
theorem dX0_hasOperands_47 : decode cX0_hasOperands 47 = .ok (.ifCond .eq 7, 3) := dq_i153 (dl_b (dl_b (dl_b (dl_b (dl_b dkX0_hasOperands_38).2).2).2).2).1
theorem dX0_hasOperands_50 : decode cX0_hasOperands 50 = .ok (.iconst 1, 1) := dq_i4 (dl_b (dl_b (dl_b (dl_b (dl_b (dl_b dkX0_hasOperands_38).2).2).2).2).2).1
theorem dX0_hasOperands_51 : decode cX0_hasOperands 51 = .ok (.goto 4, 3) := dq_i167 (dl_b (dl_b (dl_b (dl_b (dl_b (dl_b (dl_b dkX0_hasOperands_38).2).2).2).2).2).2).1
theorem dX0_hasOperands_54 : decode cX0_hasOperands 54 = .ok (.iconst 0, 1) := dq_i3 (dl_b (dl_b (dl_b (dl_b (dl_b (dl_b (dl_b (dl_b dkX0_hasOperands_38).2).2).2).2).2).2).2).1
theorem dX0_hasOperands_55 : decode cX0_hasOperands 55 = .ok (.ireturn, 1) := dq_i172 (dl_b (dl_b (dl_b (dl_b (dl_b (dl_b (dl_b (dl_b dkX0_hasOperands_38).2).2).2).2).2).2).2).2
theorem dkX0_addGate_0 : (dq_0 cX0_addGate 0 42 && (dq_2 cX0_addGate 1 180 24 && (dq_3 cX0_addGate 4 16 40 && (dq_4 cX0_addGate 6 161 6 && (dq_3 cX0_addGate 9 16 (-4) && (dq_0 cX0_addGate 11 172 && (dq_0 cX0_addGate 12 42 && (dq_2 cX0_addGate 13 180 9 && (dq_0 cX0_addGate 16 42 && (dq_2 cX0_addGate 17 180 24)))))))))) = true := by decide +kernel
theorem dX0_addGate_0 : decode cX0_addGate 0 = .ok (.aload_n 0, 1) := dq_i42 (dl_b dkX0_addGate_0).1
theorem dX0_addGate_1 : decode cX0_addGate 1 = .ok (.getfield 24, 3) := dq_i180 (dl_b (dl_b dkX0_addGate_0).2).1
theorem dX0_addGate_4 : decode cX0_addGate 4 = .ok (.bipush 40, 2) := dq_i16 (dl_b (dl_b (dl_b dkX0_addGate_0).2).2).1
theorem dX0_addGate_6 : decode cX0_addGate 6 = .ok (.if_icmp .lt 6, 3) := dq_i161 (dl_b (dl_b (dl_b (dl_b dkX0_addGate_0).2).2).2).1
theorem dX0_addGate_9 : decode cX0_addGate 9 = .ok (.bipush (-4), 2) := dq_i16 (dl_b (dl_b (dl_b (dl_b (dl_b dkX0_addGate_0).2).2).2).2).1
theorem dX0_addGate_11 : decode cX0_addGate 11 = .ok (.ireturn, 1) := dq_i172 (dl_b (dl_b (dl_b (dl_b (dl_b (dl_b dkX0_addGate_0).2).2).2).2).2).1
theorem dX0_addGate_12 : decode cX0_addGate 12 = .ok (.aload_n 0, 1) := dq_i42 (dl_b (dl_b (dl_b (dl_b (dl_b (dl_b (dl_b dkX0_addGate_0).2).2).2).2).2).2).1
theorem dX0_addGate_13 : decode cX0_addGate 13 = .ok (.getfield 9, 3) := dq_i180 (dl_b (dl_b (dl_b (dl_b (dl_b (dl_b (dl_b (dl_b dkX0_addGate_0).2).2).2).2).2).2).2).1
theorem dX0_addGate_16 : decode cX0_addGate 16 = .ok (.aload_n 0, 1) := dq_i42 (dl_b (dl_b (dl_b (dl_b (dl_b (dl_b (dl_b (dl_b (dl_b dkX0_addGate_0).2).2).2).2).2).2).2).2).1
theorem dX0_addGate_17 : decode cX0_addGate 17 = .ok (.getfield 24, 3) := dq_i180 (dl_b (dl_b (dl_b (dl_b (dl_b (dl_b (dl_b (dl_b (dl_b dkX0_addGate_0).2).2).2).2).2).2).2).2).2
theorem dkX0_addGate_20 : (dq_0 cX0_addGate 20 27 && (dq_0 cX0_addGate 21 79 && (dq_0 cX0_addGate 22 42 && (dq_2 cX0_addGate 23 180 15 && (dq_0 cX0_addGate 26 6 && (dq_0 cX0_addGate 27 42 && (dq_2 cX0_addGate 28 180 24 && (dq_0 cX0_addGate 31 104 && (dq_0 cX0_addGate 32 28 && (dq_0 cX0_addGate 33 79)))))))))) = true := by decide +kernel
theorem dX0_addGate_20 : decode cX0_addGate 20 = .ok (.iload_n 1, 1) := dq_i27 (dl_b dkX0_addGate_20).1
theorem dX0_addGate_21 : decode cX0_addGate 21 = .ok (.iastore, 1) := dq_i79 (dl_b (dl_b dkX0_addGate_20).2).1
theorem dX0_addGate_22 : decode cX0_addGate 22 = .ok (.aload_n 0, 1) := dq_i42 (dl_b (dl_b (dl_b dkX0_addGate_20).2).2).1
theorem dX0_addGate_23 : decode cX0_addGate 23 = .ok (.getfield 15, 3) := dq_i180 (dl_b (dl_b (dl_b (dl_b dkX0_addGate_20).2).2).2).1
theorem dX0_addGate_26 : decode cX0_addGate 26 = .ok (.iconst 3, 1) := dq_i6 (dl_b (dl_b (dl_b (dl_b (dl_b dkX0_addGate_20).2).2).2).2).1
theorem dX0_addGate_27 : decode cX0_addGate 27 = .ok (.aload_n 0, 1) := dq_i42 (dl_b (dl_b (dl_b (dl_b (dl_b (dl_b dkX0_addGate_20).2).2).2).2).2).1
theorem dX0_addGate_28 : decode cX0_addGate 28 = .ok (.getfield 24, 3) := dq_i180 (dl_b (dl_b (dl_b (dl_b (dl_b (dl_b (dl_b dkX0_addGate_20).2).2).2).2).2).2).1
theorem dX0_addGate_31 : decode cX0_addGate 31 = .ok (.imul, 1) := dq_i104 (dl_b (dl_b (dl_b (dl_b (dl_b (dl_b (dl_b (dl_b dkX0_addGate_20).2).2).2).2).2).2).2).1
theorem dX0_addGate_32 : decode cX0_addGate 32 = .ok (.iload_n 2, 1) := dq_i28 (dl_b (dl_b (dl_b (dl_b (dl_b (dl_b (dl_b (dl_b (dl_b dkX0_addGate_20).2).2).2).2).2).2).2).2).1
theorem dX0_addGate_33 : decode cX0_addGate 33 = .ok (.iastore, 1) := dq_i79 (dl_b (dl_b (dl_b (dl_b (dl_b (dl_b (dl_b (dl_b (dl_b dkX0_addGate_20).2).2).2).2).2).2).2).2).2
theorem dkX0_addGate_34 : (dq_0 cX0_addGate 34 42 && (dq_2 cX0_addGate 35 180 15 && (dq_0 cX0_addGate 38 6 && (dq_0 cX0_addGate 39 42 && (dq_2 cX0_addGate 40 180 24 && (dq_0 cX0_addGate 43 104 && (dq_0 cX0_addGate 44 4 && (dq_0 cX0_addGate 45 96 && (dq_0 cX0_addGate 46 29 && (dq_0 cX0_addGate 47 79)))))))))) = true := by decide +kernel
theorem dX0_addGate_34 : decode cX0_addGate 34 = .ok (.aload_n 0, 1) := dq_i42 (dl_b dkX0_addGate_34).1
theorem dX0_addGate_35 : decode cX0_addGate 35 = .ok (.getfield 15, 3) := dq_i180 (dl_b (dl_b dkX0_addGate_34).2).1
theorem dX0_addGate_38 : decode cX0_addGate 38 = .ok (.iconst 3, 1) := dq_i6 (dl_b (dl_b (dl_b dkX0_addGate_34).2).2).1
theorem dX0_addGate_39 : decode cX0_addGate 39 = .ok (.aload_n 0, 1) := dq_i42 (dl_b (dl_b (dl_b (dl_b dkX0_addGate_34).2).2).2).1
theorem dX0_addGate_40 : decode cX0_addGate 40 = .ok (.getfield 24, 3) := dq_i180 (dl_b (dl_b (dl_b (dl_b (dl_b dkX0_addGate_34).2).2).2).2).1
theorem dX0_addGate_43 : decode cX0_addGate 43 = .ok (.imul, 1) := dq_i104 (dl_b (dl_b (dl_b (dl_b (dl_b (dl_b dkX0_addGate_34).2).2).2).2).2).1
theorem dX0_addGate_44 : decode cX0_addGate 44 = .ok (.iconst 1, 1) := dq_i4 (dl_b (dl_b (dl_b (dl_b (dl_b (dl_b (dl_b dkX0_addGate_34).2).2).2).2).2).2).1
theorem dX0_addGate_45 : decode cX0_addGate 45 = .ok (.iadd, 1) := dq_i96 (dl_b (dl_b (dl_b (dl_b (dl_b (dl_b (dl_b (dl_b dkX0_addGate_34).2).2).2).2).2).2).2).1
theorem dX0_addGate_46 : decode cX0_addGate 46 = .ok (.iload_n 3, 1) := dq_i29 (dl_b (dl_b (dl_b (dl_b (dl_b (dl_b (dl_b (dl_b (dl_b dkX0_addGate_34).2).2).2).2).2).2).2).2).1
theorem dX0_addGate_47 : decode cX0_addGate 47 = .ok (.iastore, 1) := dq_i79 (dl_b (dl_b (dl_b (dl_b (dl_b (dl_b (dl_b (dl_b (dl_b dkX0_addGate_34).2).2).2).2).2).2).2).2).2
theorem dkX0_addGate_48 : (dq_0 cX0_addGate 48 42 && (dq_2 cX0_addGate 49 180 15 && (dq_0 cX0_addGate 52 6 && (dq_0 cX0_addGate 53 42 && (dq_2 cX0_addGate 54 180 24 && (dq_0 cX0_addGate 57 104 && (dq_0 cX0_addGate 58 5 && (dq_0 cX0_addGate 59 96 && (dq_1 cX0_addGate 60 21 4 && (dq_0 cX0_addGate 62 79)))))))))) = true := by decide +kernel
theorem dX0_addGate_48 : decode cX0_addGate 48 = .ok (.aload_n 0, 1) := dq_i42 (dl_b dkX0_addGate_48).1
theorem dX0_addGate_49 : decode cX0_addGate 49 = .ok (.getfield 15, 3) := dq_i180 (dl_b (dl_b dkX0_addGate_48).2).1
theorem dX0_addGate_52 : decode cX0_addGate 52 = .ok (.iconst 3, 1) := dq_i6 (dl_b (dl_b (dl_b dkX0_addGate_48).2).2).1
theorem dX0_addGate_53 : decode cX0_addGate 53 = .ok (.aload_n 0, 1) := dq_i42 (dl_b (dl_b (dl_b (dl_b dkX0_addGate_48).2).2).2).1
theorem dX0_addGate_54 : decode cX0_addGate 54 = .ok (.getfield 24, 3) := dq_i180 (dl_b (dl_b (dl_b (dl_b (dl_b dkX0_addGate_48).2).2).2).2).1
theorem dX0_addGate_57 : decode cX0_addGate 57 = .ok (.imul, 1) := dq_i104 (dl_b (dl_b (dl_b (dl_b (dl_b (dl_b dkX0_addGate_48).2).2).2).2).2).1
theorem dX0_addGate_58 : decode cX0_addGate 58 = .ok (.iconst 2, 1) := dq_i5 (dl_b (dl_b (dl_b (dl_b (dl_b (dl_b (dl_b dkX0_addGate_48).2).2).2).2).2).2).1
theorem dX0_addGate_59 : decode cX0_addGate 59 = .ok (.iadd, 1) := dq_i96 (dl_b (dl_b (dl_b (dl_b (dl_b (dl_b (dl_b (dl_b dkX0_addGate_48).2).2).2).2).2).2).2).1
theorem dX0_addGate_60 : decode cX0_addGate 60 = .ok (.iload 4, 2) := dq_i21 (dl_b (dl_b (dl_b (dl_b (dl_b (dl_b (dl_b (dl_b (dl_b dkX0_addGate_48).2).2).2).2).2).2).2).2).1
theorem dX0_addGate_62 : decode cX0_addGate 62 = .ok (.iastore, 1) := dq_i79 (dl_b (dl_b (dl_b (dl_b (dl_b (dl_b (dl_b (dl_b (dl_b dkX0_addGate_48).2).2).2).2).2).2).2).2).2
theorem dkX0_addGate_63 : (dq_0 cX0_addGate 63 42 && (dq_0 cX0_addGate 64 89 && (dq_2 cX0_addGate 65 180 24 && (dq_0 cX0_addGate 68 4 && (dq_0 cX0_addGate 69 96 && (dq_2 cX0_addGate 70 181 24 && (dq_0 cX0_addGate 73 42 && (dq_2 cX0_addGate 74 180 24 && (dq_0 cX0_addGate 77 4 && (dq_0 cX0_addGate 78 100)))))))))) = true := by decide +kernel
theorem dX0_addGate_63 : decode cX0_addGate 63 = .ok (.aload_n 0, 1) := dq_i42 (dl_b dkX0_addGate_63).1
theorem dX0_addGate_64 : decode cX0_addGate 64 = .ok (.dup, 1) := dq_i89 (dl_b (dl_b dkX0_addGate_63).2).1
theorem dX0_addGate_65 : decode cX0_addGate 65 = .ok (.getfield 24, 3) := dq_i180 (dl_b (dl_b (dl_b dkX0_addGate_63).2).2).1
theorem dX0_addGate_68 : decode cX0_addGate 68 = .ok (.iconst 1, 1) := dq_i4 (dl_b (dl_b (dl_b (dl_b dkX0_addGate_63).2).2).2).1
theorem dX0_addGate_69 : decode cX0_addGate 69 = .ok (.iadd, 1) := dq_i96 (dl_b (dl_b (dl_b (dl_b (dl_b dkX0_addGate_63).2).2).2).2).1
theorem dX0_addGate_70 : decode cX0_addGate 70 = .ok (.putfield 24, 3) := dq_i181 (dl_b (dl_b (dl_b (dl_b (dl_b (dl_b dkX0_addGate_63).2).2).2).2).2).1
theorem dX0_addGate_73 : decode cX0_addGate 73 = .ok (.aload_n 0, 1) := dq_i42 (dl_b (dl_b (dl_b (dl_b (dl_b (dl_b (dl_b dkX0_addGate_63).2).2).2).2).2).2).1
theorem dX0_addGate_74 : decode cX0_addGate 74 = .ok (.getfield 24, 3) := dq_i180 (dl_b (dl_b (dl_b (dl_b (dl_b (dl_b (dl_b (dl_b dkX0_addGate_63).2).2).2).2).2).2).2).1
theorem dX0_addGate_77 : decode cX0_addGate 77 = .ok (.iconst 1, 1) := dq_i4 (dl_b (dl_b (dl_b (dl_b (dl_b (dl_b (dl_b (dl_b (dl_b dkX0_addGate_63).2).2).2).2).2).2).2).2).1
theorem dX0_addGate_78 : decode cX0_addGate 78 = .ok (.isub, 1) := dq_i100 (dl_b (dl_b (dl_b (dl_b (dl_b (dl_b (dl_b (dl_b (dl_b dkX0_addGate_63).2).2).2).2).2).2).2).2).2
theorem dkX0_addGate_79 : (dq_0 cX0_addGate 79 172) = true := by decide +kernel
theorem dX0_addGate_79 : decode cX0_addGate 79 = .ok (.ireturn, 1) := dq_i172 dkX0_addGate_79
theorem dkX0_addOutput_0 : (dq_0 cX0_addOutput 0 42 && (dq_2 cX0_addOutput 1 180 28 && (dq_0 cX0_addOutput 4 7 && (dq_4 cX0_addOutput 5 161 6 && (dq_3 cX0_addOutput 8 16 (-4) && (dq_0 cX0_addOutput 10 172 && (dq_0 cX0_addOutput 11 42 && (dq_2 cX0_addOutput 12 180 18 && (dq_0 cX0_addOutput 15 42 && (dq_2 cX0_addOutput 16 180 28)))))))))) = true := by decide +kernel
theorem dX0_addOutput_0 : decode cX0_addOutput 0 = .ok (.aload_n 0, 1) := dq_i42 (dl_b dkX0_addOutput_0).1
theorem dX0_addOutput_1 : decode cX0_addOutput 1 = .ok (.getfield 28, 3) := dq_i180 (dl_b (dl_b dkX0_addOutput_0).2).1
theorem dX0_addOutput_4 : decode cX0_addOutput 4 = .ok (.iconst 4, 1) := dq_i7 (dl_b (dl_b (dl_b dkX0_addOutput_0).2).2).1
theorem dX0_addOutput_5 : decode cX0_addOutput 5 = .ok (.if_icmp .lt 6, 3) := dq_i161 (dl_b (dl_b (dl_b (dl_b dkX0_addOutput_0).2).2).2).1
theorem dX0_addOutput_8 : decode cX0_addOutput 8 = .ok (.bipush (-4), 2) := dq_i16 (dl_b (dl_b (dl_b (dl_b (dl_b dkX0_addOutput_0).2).2).2).2).1
theorem dX0_addOutput_10 : decode cX0_addOutput 10 = .ok (.ireturn, 1) := dq_i172 (dl_b (dl_b (dl_b (dl_b (dl_b (dl_b dkX0_addOutput_0).2).2).2).2).2).1
theorem dX0_addOutput_11 : decode cX0_addOutput 11 = .ok (.aload_n 0, 1) := dq_i42 (dl_b (dl_b (dl_b (dl_b (dl_b (dl_b (dl_b dkX0_addOutput_0).2).2).2).2).2).2).1
theorem dX0_addOutput_12 : decode cX0_addOutput 12 = .ok (.getfield 18, 3) := dq_i180 (dl_b (dl_b (dl_b (dl_b (dl_b (dl_b (dl_b (dl_b dkX0_addOutput_0).2).2).2).2).2).2).2).1
theorem dX0_addOutput_15 : decode cX0_addOutput 15 = .ok (.aload_n 0, 1) := dq_i42 (dl_b (dl_b (dl_b (dl_b (dl_b (dl_b (dl_b (dl_b (dl_b dkX0_addOutput_0).2).2).2).2).2).2).2).2).1
theorem dX0_addOutput_16 : decode cX0_addOutput 16 = .ok (.getfield 28, 3) := dq_i180 (dl_b (dl_b (dl_b (dl_b (dl_b (dl_b (dl_b (dl_b (dl_b dkX0_addOutput_0).2).2).2).2).2).2).2).2).2
theorem dkX0_addOutput_19 : (dq_0 cX0_addOutput 19 27 && (dq_0 cX0_addOutput 20 79 && (dq_0 cX0_addOutput 21 42 && (dq_0 cX0_addOutput 22 89 && (dq_2 cX0_addOutput 23 180 28 && (dq_0 cX0_addOutput 26 4 && (dq_0 cX0_addOutput 27 96 && (dq_2 cX0_addOutput 28 181 28 && (dq_0 cX0_addOutput 31 42 && (dq_2 cX0_addOutput 32 180 28)))))))))) = true := by decide +kernel
theorem dX0_addOutput_19 : decode cX0_addOutput 19 = .ok (.iload_n 1, 1) := dq_i27 (dl_b dkX0_addOutput_19).1
theorem dX0_addOutput_20 : decode cX0_addOutput 20 = .ok (.iastore, 1) := dq_i79 (dl_b (dl_b dkX0_addOutput_19).2).1
theorem dX0_addOutput_21 : decode cX0_addOutput 21 = .ok (.aload_n 0, 1) := dq_i42 (dl_b (dl_b (dl_b dkX0_addOutput_19).2).2).1
theorem dX0_addOutput_22 : decode cX0_addOutput 22 = .ok (.dup, 1) := dq_i89 (dl_b (dl_b (dl_b (dl_b dkX0_addOutput_19).2).2).2).1
theorem dX0_addOutput_23 : decode cX0_addOutput 23 = .ok (.getfield 28, 3) := dq_i180 (dl_b (dl_b (dl_b (dl_b (dl_b dkX0_addOutput_19).2).2).2).2).1
theorem dX0_addOutput_26 : decode cX0_addOutput 26 = .ok (.iconst 1, 1) := dq_i4 (dl_b (dl_b (dl_b (dl_b (dl_b (dl_b dkX0_addOutput_19).2).2).2).2).2).1
theorem dX0_addOutput_27 : decode cX0_addOutput 27 = .ok (.iadd, 1) := dq_i96 (dl_b (dl_b (dl_b (dl_b (dl_b (dl_b (dl_b dkX0_addOutput_19).2).2).2).2).2).2).1
theorem dX0_addOutput_28 : decode cX0_addOutput 28 = .ok (.putfield 28, 3) := dq_i181 (dl_b (dl_b (dl_b (dl_b (dl_b (dl_b (dl_b (dl_b dkX0_addOutput_19).2).2).2).2).2).2).2).1
theorem dX0_addOutput_31 : decode cX0_addOutput 31 = .ok (.aload_n 0, 1) := dq_i42 (dl_b (dl_b (dl_b (dl_b (dl_b (dl_b (dl_b (dl_b (dl_b dkX0_addOutput_19).2).2).2).2).2).2).2).2).1
theorem dX0_addOutput_32 : decode cX0_addOutput 32 = .ok (.getfield 28, 3) := dq_i180 (dl_b (dl_b (dl_b (dl_b (dl_b (dl_b (dl_b (dl_b (dl_b dkX0_addOutput_19).2).2).2).2).2).2).2).2).2
theorem dkX0_addOutput_35 : (dq_0 cX0_addOutput 35 4 && (dq_0 cX0_addOutput 36 100 && (dq_0 cX0_addOutput 37 172))) = true := by decide +kernel
theorem dX0_addOutput_35 : decode cX0_addOutput 35 = .ok (.iconst 1, 1) := dq_i4 (dl_b dkX0_addOutput_35).1
theorem dX0_addOutput_36 : decode cX0_addOutput 36 = .ok (.isub, 1) := dq_i100 (dl_b (dl_b dkX0_addOutput_35).2).1
theorem dX0_addOutput_37 : decode cX0_addOutput 37 = .ok (.ireturn, 1) := dq_i172 (dl_b (dl_b dkX0_addOutput_35).2).2
theorem dkX0_empty_0 : (dq_0 cX0_empty 0 42 && (dq_2 cX0_empty 1 180 24 && (dq_0 cX0_empty 4 60 && (dq_0 cX0_empty 5 42 && (dq_0 cX0_empty 6 3 && (dq_2 cX0_empty 7 181 24 && (dq_0 cX0_empty 10 42 && (dq_0 cX0_empty 11 3 && (dq_2 cX0_empty 12 181 28 && (dq_0 cX0_empty 15 27)))))))))) = true := by decide +kernel
theorem dX0_empty_0 : decode cX0_empty 0 = .ok (.aload_n 0, 1) := dq_i42 (dl_b dkX0_empty_0).1
theorem dX0_empty_1 : decode cX0_empty 1 = .ok (.getfield 24, 3) := dq_i180 (dl_b (dl_b dkX0_empty_0).2).1
theorem dX0_empty_4 : decode cX0_empty 4 = .ok (.istore_n 1, 1) := dq_i60 (dl_b (dl_b (dl_b dkX0_empty_0).2).2).1
theorem dX0_empty_5 : decode cX0_empty 5 = .ok (.aload_n 0, 1) := dq_i42 (dl_b (dl_b (dl_b (dl_b dkX0_empty_0).2).2).2).1
theorem dX0_empty_6 : decode cX0_empty 6 = .ok (.iconst 0, 1) := dq_i3 (dl_b (dl_b (dl_b (dl_b (dl_b dkX0_empty_0).2).2).2).2).1
theorem dX0_empty_7 : decode cX0_empty 7 = .ok (.putfield 24, 3) := dq_i181 (dl_b (dl_b (dl_b (dl_b (dl_b (dl_b dkX0_empty_0).2).2).2).2).2).1
theorem dX0_empty_10 : decode cX0_empty 10 = .ok (.aload_n 0, 1) := dq_i42 (dl_b (dl_b (dl_b (dl_b (dl_b (dl_b (dl_b dkX0_empty_0).2).2).2).2).2).2).1
theorem dX0_empty_11 : decode cX0_empty 11 = .ok (.iconst 0, 1) := dq_i3 (dl_b (dl_b (dl_b (dl_b (dl_b (dl_b (dl_b (dl_b dkX0_empty_0).2).2).2).2).2).2).2).1
theorem dX0_empty_12 : decode cX0_empty 12 = .ok (.putfield 28, 3) := dq_i181 (dl_b (dl_b (dl_b (dl_b (dl_b (dl_b (dl_b (dl_b (dl_b dkX0_empty_0).2).2).2).2).2).2).2).2).1
theorem dX0_empty_15 : decode cX0_empty 15 = .ok (.iload_n 1, 1) := dq_i27 (dl_b (dl_b (dl_b (dl_b (dl_b (dl_b (dl_b (dl_b (dl_b dkX0_empty_0).2).2).2).2).2).2).2).2).2
theorem dkX0_empty_16 : (dq_0 cX0_empty 16 172) = true := by decide +kernel
theorem dX0_empty_16 : decode cX0_empty 16 = .ok (.ireturn, 1) := dq_i172 dkX0_empty_16
theorem dkX0_kindOf_0 : (dq_0 cX0_kindOf 0 42 && (dq_2 cX0_kindOf 1 180 9 && (dq_0 cX0_kindOf 4 27 && (dq_0 cX0_kindOf 5 46 && (dq_0 cX0_kindOf 6 172))))) = true := by decide +kernel
theorem dX0_kindOf_0 : decode cX0_kindOf 0 = .ok (.aload_n 0, 1) := dq_i42 (dl_b dkX0_kindOf_0).1
theorem dX0_kindOf_1 : decode cX0_kindOf 1 = .ok (.getfield 9, 3) := dq_i180 (dl_b (dl_b dkX0_kindOf_0).2).1
theorem dX0_kindOf_4 : decode cX0_kindOf 4 = .ok (.iload_n 1, 1) := dq_i27 (dl_b (dl_b (dl_b dkX0_kindOf_0).2).2).1
theorem dX0_kindOf_5 : decode cX0_kindOf 5 = .ok (.iaload, 1) := dq_i46 (dl_b (dl_b (dl_b (dl_b dkX0_kindOf_0).2).2).2).1
theorem dX0_kindOf_6 : decode cX0_kindOf 6 = .ok (.ireturn, 1) := dq_i172 (dl_b (dl_b (dl_b (dl_b dkX0_kindOf_0).2).2).2).2
theorem dkX0_operand_0 : (dq_0 cX0_operand 0 42 && (dq_2 cX0_operand 1 180 15 && (dq_0 cX0_operand 4 6 && (dq_0 cX0_operand 5 27 && (dq_0 cX0_operand 6 104 && (dq_0 cX0_operand 7 28 && (dq_0 cX0_operand 8 96 && (dq_0 cX0_operand 9 46 && (dq_0 cX0_operand 10 172))))))))) = true := by decide +kernel
theorem dX0_operand_0 : decode cX0_operand 0 = .ok (.aload_n 0, 1) := dq_i42 (dl_b dkX0_operand_0).1
theorem dX0_operand_1 : decode cX0_operand 1 = .ok (.getfield 15, 3) := dq_i180 (dl_b (dl_b dkX0_operand_0).2).1
theorem dX0_operand_4 : decode cX0_operand 4 = .ok (.iconst 3, 1) := dq_i6 (dl_b (dl_b (dl_b dkX0_operand_0).2).2).1
theorem dX0_operand_5 : decode cX0_operand 5 = .ok (.iload_n 1, 1) := dq_i27 (dl_b (dl_b (dl_b (dl_b dkX0_operand_0).2).2).2).1
theorem dX0_operand_6 : decode cX0_operand 6 = .ok (.imul, 1) := dq_i104 (dl_b (dl_b (dl_b (dl_b (dl_b dkX0_operand_0).2).2).2).2).1
theorem dX0_operand_7 : decode cX0_operand 7 = .ok (.iload_n 2, 1) := dq_i28 (dl_b (dl_b (dl_b (dl_b (dl_b (dl_b dkX0_operand_0).2).2).2).2).2).1
theorem dX0_operand_8 : decode cX0_operand 8 = .ok (.iadd, 1) := dq_i96 (dl_b (dl_b (dl_b (dl_b (dl_b (dl_b (dl_b dkX0_operand_0).2).2).2).2).2).2).1
theorem dX0_operand_9 : decode cX0_operand 9 = .ok (.iaload, 1) := dq_i46 (dl_b (dl_b (dl_b (dl_b (dl_b (dl_b (dl_b (dl_b dkX0_operand_0).2).2).2).2).2).2).2).1
theorem dX0_operand_10 : decode cX0_operand 10 = .ok (.ireturn, 1) := dq_i172 (dl_b (dl_b (dl_b (dl_b (dl_b (dl_b (dl_b (dl_b dkX0_operand_0).2).2).2).2).2).2).2).2
theorem dkX0_outputValue_0 : (dq_0 cX0_outputValue 0 42 && (dq_2 cX0_outputValue 1 180 18 && (dq_0 cX0_outputValue 4 27 && (dq_0 cX0_outputValue 5 46 && (dq_0 cX0_outputValue 6 62 && (dq_0 cX0_outputValue 7 3 && (dq_1 cX0_outputValue 8 54 4 && (dq_1 cX0_outputValue 10 21 4 && (dq_0 cX0_outputValue 12 29 && (dq_4 cX0_outputValue 13 163 23)))))))))) = true := by decide +kernel
theorem dX0_outputValue_0 : decode cX0_outputValue 0 = .ok (.aload_n 0, 1) := dq_i42 (dl_b dkX0_outputValue_0).1
theorem dX0_outputValue_1 : decode cX0_outputValue 1 = .ok (.getfield 18, 3) := dq_i180 (dl_b (dl_b dkX0_outputValue_0).2).1
theorem dX0_outputValue_4 : decode cX0_outputValue 4 = .ok (.iload_n 1, 1) := dq_i27 (dl_b (dl_b (dl_b dkX0_outputValue_0).2).2).1
theorem dX0_outputValue_5 : decode cX0_outputValue 5 = .ok (.iaload, 1) := dq_i46 (dl_b (dl_b (dl_b (dl_b dkX0_outputValue_0).2).2).2).1
theorem dX0_outputValue_6 : decode cX0_outputValue 6 = .ok (.istore_n 3, 1) := dq_i62 (dl_b (dl_b (dl_b (dl_b (dl_b dkX0_outputValue_0).2).2).2).2).1
theorem dX0_outputValue_7 : decode cX0_outputValue 7 = .ok (.iconst 0, 1) := dq_i3 (dl_b (dl_b (dl_b (dl_b (dl_b (dl_b dkX0_outputValue_0).2).2).2).2).2).1
theorem dX0_outputValue_8 : decode cX0_outputValue 8 = .ok (.istore 4, 2) := dq_i54 (dl_b (dl_b (dl_b (dl_b (dl_b (dl_b (dl_b dkX0_outputValue_0).2).2).2).2).2).2).1
theorem dX0_outputValue_10 : decode cX0_outputValue 10 = .ok (.iload 4, 2) := dq_i21 (dl_b (dl_b (dl_b (dl_b (dl_b (dl_b (dl_b (dl_b dkX0_outputValue_0).2).2).2).2).2).2).2).1
theorem dX0_outputValue_12 : decode cX0_outputValue 12 = .ok (.iload_n 3, 1) := dq_i29 (dl_b (dl_b (dl_b (dl_b (dl_b (dl_b (dl_b (dl_b (dl_b dkX0_outputValue_0).2).2).2).2).2).2).2).2).1
theorem dX0_outputValue_13 : decode cX0_outputValue 13 = .ok (.if_icmp .gt 23, 3) := dq_i163 (dl_b (dl_b (dl_b (dl_b (dl_b (dl_b (dl_b (dl_b (dl_b dkX0_outputValue_0).2).2).2).2).2).2).2).2).2
theorem dkX0_outputValue_16 : (dq_0 cX0_outputValue 16 42 && (dq_2 cX0_outputValue 17 180 21 && (dq_1 cX0_outputValue 20 21 4 && (dq_0 cX0_outputValue 22 42 && (dq_1 cX0_outputValue 23 21 4 && (dq_0 cX0_outputValue 25 28 && (dq_2 cX0_outputValue 26 182 38 && (dq_0 cX0_outputValue 29 79 && (dq_5 cX0_outputValue 30 132 4 1 && (dq_4 cX0_outputValue 33 167 (-23))))))))))) = true := by decide +kernel
theorem dX0_outputValue_16 : decode cX0_outputValue 16 = .ok (.aload_n 0, 1) := dq_i42 (dl_b dkX0_outputValue_16).1
theorem dX0_outputValue_17 : decode cX0_outputValue 17 = .ok (.getfield 21, 3) := dq_i180 (dl_b (dl_b dkX0_outputValue_16).2).1
theorem dX0_outputValue_20 : decode cX0_outputValue 20 = .ok (.iload 4, 2) := dq_i21 (dl_b (dl_b (dl_b dkX0_outputValue_16).2).2).1
theorem dX0_outputValue_22 : decode cX0_outputValue 22 = .ok (.aload_n 0, 1) := dq_i42 (dl_b (dl_b (dl_b (dl_b dkX0_outputValue_16).2).2).2).1
theorem dX0_outputValue_23 : decode cX0_outputValue 23 = .ok (.iload 4, 2) := dq_i21 (dl_b (dl_b (dl_b (dl_b (dl_b dkX0_outputValue_16).2).2).2).2).1
theorem dX0_outputValue_25 : decode cX0_outputValue 25 = .ok (.iload_n 2, 1) := dq_i28 (dl_b (dl_b (dl_b (dl_b (dl_b (dl_b dkX0_outputValue_16).2).2).2).2).2).1
theorem dX0_outputValue_26 : decode cX0_outputValue 26 = .ok (.invokevirtual 38, 3) := dq_i182 (dl_b (dl_b (dl_b (dl_b (dl_b (dl_b (dl_b dkX0_outputValue_16).2).2).2).2).2).2).1
theorem dX0_outputValue_29 : decode cX0_outputValue 29 = .ok (.iastore, 1) := dq_i79 (dl_b (dl_b (dl_b (dl_b (dl_b (dl_b (dl_b (dl_b dkX0_outputValue_16).2).2).2).2).2).2).2).1
theorem dX0_outputValue_30 : decode cX0_outputValue 30 = .ok (.iinc 4 1, 3) := dq_i132 (dl_b (dl_b (dl_b (dl_b (dl_b (dl_b (dl_b (dl_b (dl_b dkX0_outputValue_16).2).2).2).2).2).2).2).2).1
theorem dX0_outputValue_33 : decode cX0_outputValue 33 = .ok (.goto (-23), 3) := dq_i167 (dl_b (dl_b (dl_b (dl_b (dl_b (dl_b (dl_b (dl_b (dl_b dkX0_outputValue_16).2).2).2).2).2).2).2).2).2
theorem dkX0_outputValue_36 : (dq_0 cX0_outputValue 36 42 && (dq_2 cX0_outputValue 37 180 21 && (dq_0 cX0_outputValue 40 29 && (dq_0 cX0_outputValue 41 46 && (dq_0 cX0_outputValue 42 172))))) = true := by decide +kernel
theorem dX0_outputValue_36 : decode cX0_outputValue 36 = .ok (.aload_n 0, 1) := dq_i42 (dl_b dkX0_outputValue_36).1
theorem dX0_outputValue_37 : decode cX0_outputValue 37 = .ok (.getfield 21, 3) := dq_i180 (dl_b (dl_b dkX0_outputValue_36).2).1
theorem dX0_outputValue_40 : decode cX0_outputValue 40 = .ok (.iload_n 3, 1) := dq_i29 (dl_b (dl_b (dl_b dkX0_outputValue_36).2).2).1
theorem dX0_outputValue_41 : decode cX0_outputValue 41 = .ok (.iaload, 1) := dq_i46 (dl_b (dl_b (dl_b (dl_b dkX0_outputValue_36).2).2).2).1
theorem dX0_outputValue_42 : decode cX0_outputValue 42 = .ok (.ireturn, 1) := dq_i172 (dl_b (dl_b (dl_b (dl_b dkX0_outputValue_36).2).2).2).2
theorem dkX0_gateValue_0 : (dq_0 cX0_gateValue 0 42 && (dq_2 cX0_gateValue 1 180 9 && (dq_0 cX0_gateValue 4 27 && (dq_0 cX0_gateValue 5 46 && (dq_0 cX0_gateValue 6 62 && (dq_0 cX0_gateValue 7 29 && (dq_4 cX0_gateValue 8 154 14 && (dq_0 cX0_gateValue 11 28 && (dq_0 cX0_gateValue 12 42 && (dq_0 cX0_gateValue 13 27)))))))))) = true := by decide +kernel
theorem dX0_gateValue_0 : decode cX0_gateValue 0 = .ok (.aload_n 0, 1) := dq_i42 (dl_b dkX0_gateValue_0).1
theorem dX0_gateValue_1 : decode cX0_gateValue 1 = .ok (.getfield 9, 3) := dq_i180 (dl_b (dl_b dkX0_gateValue_0).2).1
theorem dX0_gateValue_4 : decode cX0_gateValue 4 = .ok (.iload_n 1, 1) := dq_i27 (dl_b (dl_b (dl_b dkX0_gateValue_0).2).2).1
theorem dX0_gateValue_5 : decode cX0_gateValue 5 = .ok (.iaload, 1) := dq_i46 (dl_b (dl_b (dl_b (dl_b dkX0_gateValue_0).2).2).2).1
theorem dX0_gateValue_6 : decode cX0_gateValue 6 = .ok (.istore_n 3, 1) := dq_i62 (dl_b (dl_b (dl_b (dl_b (dl_b dkX0_gateValue_0).2).2).2).2).1
theorem dX0_gateValue_7 : decode cX0_gateValue 7 = .ok (.iload_n 3, 1) := dq_i29 (dl_b (dl_b (dl_b (dl_b (dl_b (dl_b dkX0_gateValue_0).2).2).2).2).2).1
theorem dX0_gateValue_8 : decode cX0_gateValue 8 = .ok (.ifCond .ne 14, 3) := dq_i154 (dl_b (dl_b (dl_b (dl_b (dl_b (dl_b (dl_b dkX0_gateValue_0).2).2).2).2).2).2).1
theorem dX0_gateValue_11 : decode cX0_gateValue 11 = .ok (.iload_n 2, 1) := dq_i28 (dl_b (dl_b (dl_b (dl_b (dl_b (dl_b (dl_b (dl_b dkX0_gateValue_0).2).2).2).2).2).2).2).1
theorem dX0_gateValue_12 : decode cX0_gateValue 12 = .ok (.aload_n 0, 1) := dq_i42 (dl_b (dl_b (dl_b (dl_b (dl_b (dl_b (dl_b (dl_b (dl_b dkX0_gateValue_0).2).2).2).2).2).2).2).2).1
theorem dX0_gateValue_13 : decode cX0_gateValue 13 = .ok (.iload_n 1, 1) := dq_i27 (dl_b (dl_b (dl_b (dl_b (dl_b (dl_b (dl_b (dl_b (dl_b dkX0_gateValue_0).2).2).2).2).2).2).2).2).2
theorem dkX0_gateValue_14 : (dq_0 cX0_gateValue 14 3 && (dq_2 cX0_gateValue 15 182 42 && (dq_0 cX0_gateValue 18 122 && (dq_0 cX0_gateValue 19 4 && (dq_0 cX0_gateValue 20 126 && (dq_0 cX0_gateValue 21 172 && (dq_0 cX0_gateValue 22 3 && (dq_1 cX0_gateValue 23 54 4 && (dq_0 cX0_gateValue 25 3 && (dq_1 cX0_gateValue 26 54 5)))))))))) = true := by decide +kernel
theorem dX0_gateValue_14 : decode cX0_gateValue 14 = .ok (.iconst 0, 1) := dq_i3 (dl_b dkX0_gateValue_14).1
theorem dX0_gateValue_15 : decode cX0_gateValue 15 = .ok (.invokevirtual 42, 3) := dq_i182 (dl_b (dl_b dkX0_gateValue_14).2).1
theorem dX0_gateValue_18 : decode cX0_gateValue 18 = .ok (.ishr, 1) := dq_i122 (dl_b (dl_b (dl_b dkX0_gateValue_14).2).2).1
theorem dX0_gateValue_19 : decode cX0_gateValue 19 = .ok (.iconst 1, 1) := dq_i4 (dl_b (dl_b (dl_b (dl_b dkX0_gateValue_14).2).2).2).1
theorem dX0_gateValue_20 : decode cX0_gateValue 20 = .ok (.iand, 1) := dq_i126 (dl_b (dl_b (dl_b (dl_b (dl_b dkX0_gateValue_14).2).2).2).2).1
theorem dX0_gateValue_21 : decode cX0_gateValue 21 = .ok (.ireturn, 1) := dq_i172 (dl_b (dl_b (dl_b (dl_b (dl_b (dl_b dkX0_gateValue_14).2).2).2).2).2).1
theorem dX0_gateValue_22 : decode cX0_gateValue 22 = .ok (.iconst 0, 1) := dq_i3 (dl_b (dl_b (dl_b (dl_b (dl_b (dl_b (dl_b dkX0_gateValue_14).2).2).2).2).2).2).1
theorem dX0_gateValue_23 : decode cX0_gateValue 23 = .ok (.istore 4, 2) := dq_i54 (dl_b (dl_b (dl_b (dl_b (dl_b (dl_b (dl_b (dl_b dkX0_gateValue_14).2).2).2).2).2).2).2).1
theorem dX0_gateValue_25 : decode cX0_gateValue 25 = .ok (.iconst 0, 1) := dq_i3 (dl_b (dl_b (dl_b (dl_b (dl_b (dl_b (dl_b (dl_b (dl_b dkX0_gateValue_14).2).2).2).2).2).2).2).2).1
theorem dX0_gateValue_26 : decode cX0_gateValue 26 = .ok (.istore 5, 2) := dq_i54 (dl_b (dl_b (dl_b (dl_b (dl_b (dl_b (dl_b (dl_b (dl_b dkX0_gateValue_14).2).2).2).2).2).2).2).2).2
theorem dkX0_gateValue_28 : (dq_1 cX0_gateValue 28 21 5 && (dq_2 cX0_gateValue 30 178 31 && (dq_0 cX0_gateValue 33 29 && (dq_0 cX0_gateValue 34 46 && (dq_4 cX0_gateValue 35 162 29 && (dq_1 cX0_gateValue 38 21 4 && (dq_0 cX0_gateValue 40 42 && (dq_2 cX0_gateValue 41 180 21 && (dq_0 cX0_gateValue 44 42 && (dq_0 cX0_gateValue 45 27)))))))))) = true := by decide +kernel
theorem dX0_gateValue_28 : decode cX0_gateValue 28 = .ok (.iload 5, 2) := dq_i21 (dl_b dkX0_gateValue_28).1
theorem dX0_gateValue_30 : decode cX0_gateValue 30 = .ok (.getstatic 31, 3) := dq_i178 (dl_b (dl_b dkX0_gateValue_28).2).1
theorem dX0_gateValue_33 : decode cX0_gateValue 33 = .ok (.iload_n 3, 1) := dq_i29 (dl_b (dl_b (dl_b dkX0_gateValue_28).2).2).1
theorem dX0_gateValue_34 : decode cX0_gateValue 34 = .ok (.iaload, 1) := dq_i46 (dl_b (dl_b (dl_b (dl_b dkX0_gateValue_28).2).2).2).1
theorem dX0_gateValue_35 : decode cX0_gateValue 35 = .ok (.if_icmp .ge 29, 3) := dq_i162 (dl_b (dl_b (dl_b (dl_b (dl_b dkX0_gateValue_28).2).2).2).2).1
theorem dX0_gateValue_38 : decode cX0_gateValue 38 = .ok (.iload 4, 2) := dq_i21 (dl_b (dl_b (dl_b (dl_b (dl_b (dl_b dkX0_gateValue_28).2).2).2).2).2).1
theorem dX0_gateValue_40 : decode cX0_gateValue 40 = .ok (.aload_n 0, 1) := dq_i42 (dl_b (dl_b (dl_b (dl_b (dl_b (dl_b (dl_b dkX0_gateValue_28).2).2).2).2).2).2).1
theorem dX0_gateValue_41 : decode cX0_gateValue 41 = .ok (.getfield 21, 3) := dq_i180 (dl_b (dl_b (dl_b (dl_b (dl_b (dl_b (dl_b (dl_b dkX0_gateValue_28).2).2).2).2).2).2).2).1
theorem dX0_gateValue_44 : decode cX0_gateValue 44 = .ok (.aload_n 0, 1) := dq_i42 (dl_b (dl_b (dl_b (dl_b (dl_b (dl_b (dl_b (dl_b (dl_b dkX0_gateValue_28).2).2).2).2).2).2).2).2).1
theorem dX0_gateValue_45 : decode cX0_gateValue 45 = .ok (.iload_n 1, 1) := dq_i27 (dl_b (dl_b (dl_b (dl_b (dl_b (dl_b (dl_b (dl_b (dl_b dkX0_gateValue_28).2).2).2).2).2).2).2).2).2
theorem dkX0_gateValue_46 : (dq_1 cX0_gateValue 46 21 5 && (dq_2 cX0_gateValue 48 182 42 && (dq_0 cX0_gateValue 51 46 && (dq_1 cX0_gateValue 52 21 5 && (dq_0 cX0_gateValue 54 120 && (dq_0 cX0_gateValue 55 128 && (dq_1 cX0_gateValue 56 54 4 && (dq_5 cX0_gateValue 58 132 5 1 && (dq_4 cX0_gateValue 61 167 (-33) && (dq_2 cX0_gateValue 64 178 45)))))))))) = true := by decide +kernel
theorem dX0_gateValue_46 : decode cX0_gateValue 46 = .ok (.iload 5, 2) := dq_i21 (dl_b dkX0_gateValue_46).1
theorem dX0_gateValue_48 : decode cX0_gateValue 48 = .ok (.invokevirtual 42, 3) := dq_i182 (dl_b (dl_b dkX0_gateValue_46).2).1
theorem dX0_gateValue_51 : decode cX0_gateValue 51 = .ok (.iaload, 1) := dq_i46 (dl_b (dl_b (dl_b dkX0_gateValue_46).2).2).1
theorem dX0_gateValue_52 : decode cX0_gateValue 52 = .ok (.iload 5, 2) := dq_i21 (dl_b (dl_b (dl_b (dl_b dkX0_gateValue_46).2).2).2).1
theorem dX0_gateValue_54 : decode cX0_gateValue 54 = .ok (.ishl, 1) := dq_i120 (dl_b (dl_b (dl_b (dl_b (dl_b dkX0_gateValue_46).2).2).2).2).1
theorem dX0_gateValue_55 : decode cX0_gateValue 55 = .ok (.ior, 1) := dq_i128 (dl_b (dl_b (dl_b (dl_b (dl_b (dl_b dkX0_gateValue_46).2).2).2).2).2).1
theorem dX0_gateValue_56 : decode cX0_gateValue 56 = .ok (.istore 4, 2) := dq_i54 (dl_b (dl_b (dl_b (dl_b (dl_b (dl_b (dl_b dkX0_gateValue_46).2).2).2).2).2).2).1
theorem dX0_gateValue_58 : decode cX0_gateValue 58 = .ok (.iinc 5 1, 3) := dq_i132 (dl_b (dl_b (dl_b (dl_b (dl_b (dl_b (dl_b (dl_b dkX0_gateValue_46).2).2).2).2).2).2).2).1
theorem dX0_gateValue_61 : decode cX0_gateValue 61 = .ok (.goto (-33), 3) := dq_i167 (dl_b (dl_b (dl_b (dl_b (dl_b (dl_b (dl_b (dl_b (dl_b dkX0_gateValue_46).2).2).2).2).2).2).2).2).1
theorem dX0_gateValue_64 : decode cX0_gateValue 64 = .ok (.getstatic 45, 3) := dq_i178 (dl_b (dl_b (dl_b (dl_b (dl_b (dl_b (dl_b (dl_b (dl_b dkX0_gateValue_46).2).2).2).2).2).2).2).2).2
theorem dkX0_gateValue_67 : (dq_0 cX0_gateValue 67 29 && (dq_0 cX0_gateValue 68 46 && (dq_1 cX0_gateValue 69 21 4 && (dq_0 cX0_gateValue 71 122 && (dq_0 cX0_gateValue 72 4 && (dq_0 cX0_gateValue 73 126 && (dq_0 cX0_gateValue 74 172))))))) = true := by decide +kernel
theorem dX0_gateValue_67 : decode cX0_gateValue 67 = .ok (.iload_n 3, 1) := dq_i29 (dl_b dkX0_gateValue_67).1
theorem dX0_gateValue_68 : decode cX0_gateValue 68 = .ok (.iaload, 1) := dq_i46 (dl_b (dl_b dkX0_gateValue_67).2).1
theorem dX0_gateValue_69 : decode cX0_gateValue 69 = .ok (.iload 4, 2) := dq_i21 (dl_b (dl_b (dl_b dkX0_gateValue_67).2).2).1
theorem dX0_gateValue_71 : decode cX0_gateValue 71 = .ok (.ishr, 1) := dq_i122 (dl_b (dl_b (dl_b (dl_b dkX0_gateValue_67).2).2).2).1
theorem dX0_gateValue_72 : decode cX0_gateValue 72 = .ok (.iconst 1, 1) := dq_i4 (dl_b (dl_b (dl_b (dl_b (dl_b dkX0_gateValue_67).2).2).2).2).1
theorem dX0_gateValue_73 : decode cX0_gateValue 73 = .ok (.iand, 1) := dq_i126 (dl_b (dl_b (dl_b (dl_b (dl_b (dl_b dkX0_gateValue_67).2).2).2).2).2).1
theorem dX0_gateValue_74 : decode cX0_gateValue 74 = .ok (.ireturn, 1) := dq_i172 (dl_b (dl_b (dl_b (dl_b (dl_b (dl_b dkX0_gateValue_67).2).2).2).2).2).2
theorem dkX0_findNeeds_0 : (dq_0 cX0_findNeeds 0 44 && (dq_0 cX0_findNeeds 1 2 && (dq_2 cX0_findNeeds 2 184 48 && (dq_0 cX0_findNeeds 5 42 && (dq_2 cX0_findNeeds 6 180 18 && (dq_0 cX0_findNeeds 9 27 && (dq_0 cX0_findNeeds 10 46 && (dq_0 cX0_findNeeds 11 62 && (dq_0 cX0_findNeeds 12 44 && (dq_0 cX0_findNeeds 13 29)))))))))) = true := by decide +kernel
theorem dX0_findNeeds_0 : decode cX0_findNeeds 0 = .ok (.aload_n 2, 1) := dq_i44 (dl_b dkX0_findNeeds_0).1
theorem dX0_findNeeds_1 : decode cX0_findNeeds 1 = .ok (.iconst (-1), 1) := dq_i2 (dl_b (dl_b dkX0_findNeeds_0).2).1
theorem dX0_findNeeds_2 : decode cX0_findNeeds 2 = .ok (.invokestatic 48, 3) := dq_i184 (dl_b (dl_b (dl_b dkX0_findNeeds_0).2).2).1
theorem dX0_findNeeds_5 : decode cX0_findNeeds 5 = .ok (.aload_n 0, 1) := dq_i42 (dl_b (dl_b (dl_b (dl_b dkX0_findNeeds_0).2).2).2).1
theorem dX0_findNeeds_6 : decode cX0_findNeeds 6 = .ok (.getfield 18, 3) := dq_i180 (dl_b (dl_b (dl_b (dl_b (dl_b dkX0_findNeeds_0).2).2).2).2).1
theorem dX0_findNeeds_9 : decode cX0_findNeeds 9 = .ok (.iload_n 1, 1) := dq_i27 (dl_b (dl_b (dl_b (dl_b (dl_b (dl_b dkX0_findNeeds_0).2).2).2).2).2).1
theorem dX0_findNeeds_10 : decode cX0_findNeeds 10 = .ok (.iaload, 1) := dq_i46 (dl_b (dl_b (dl_b (dl_b (dl_b (dl_b (dl_b dkX0_findNeeds_0).2).2).2).2).2).2).1
theorem dX0_findNeeds_11 : decode cX0_findNeeds 11 = .ok (.istore_n 3, 1) := dq_i62 (dl_b (dl_b (dl_b (dl_b (dl_b (dl_b (dl_b (dl_b dkX0_findNeeds_0).2).2).2).2).2).2).2).1
theorem dX0_findNeeds_12 : decode cX0_findNeeds 12 = .ok (.aload_n 2, 1) := dq_i44 (dl_b (dl_b (dl_b (dl_b (dl_b (dl_b (dl_b (dl_b (dl_b dkX0_findNeeds_0).2).2).2).2).2).2).2).2).1
theorem dX0_findNeeds_13 : decode cX0_findNeeds 13 = .ok (.iload_n 3, 1) := dq_i29 (dl_b (dl_b (dl_b (dl_b (dl_b (dl_b (dl_b (dl_b (dl_b dkX0_findNeeds_0).2).2).2).2).2).2).2).2).2
theorem dkX0_findNeeds_14 : (dq_0 cX0_findNeeds 14 29 && (dq_0 cX0_findNeeds 15 79 && (dq_0 cX0_findNeeds 16 29 && (dq_1 cX0_findNeeds 17 54 4 && (dq_1 cX0_findNeeds 19 21 4 && (dq_4 cX0_findNeeds 21 155 24 && (dq_0 cX0_findNeeds 24 44 && (dq_1 cX0_findNeeds 25 21 4 && (dq_0 cX0_findNeeds 27 46 && (dq_0 cX0_findNeeds 28 2)))))))))) = true := by decide +kernel
theorem dX0_findNeeds_14 : decode cX0_findNeeds 14 = .ok (.iload_n 3, 1) := dq_i29 (dl_b dkX0_findNeeds_14).1
theorem dX0_findNeeds_15 : decode cX0_findNeeds 15 = .ok (.iastore, 1) := dq_i79 (dl_b (dl_b dkX0_findNeeds_14).2).1
theorem dX0_findNeeds_16 : decode cX0_findNeeds 16 = .ok (.iload_n 3, 1) := dq_i29 (dl_b (dl_b (dl_b dkX0_findNeeds_14).2).2).1
theorem dX0_findNeeds_17 : decode cX0_findNeeds 17 = .ok (.istore 4, 2) := dq_i54 (dl_b (dl_b (dl_b (dl_b dkX0_findNeeds_14).2).2).2).1
theorem dX0_findNeeds_19 : decode cX0_findNeeds 19 = .ok (.iload 4, 2) := dq_i21 (dl_b (dl_b (dl_b (dl_b (dl_b dkX0_findNeeds_14).2).2).2).2).1
theorem dX0_findNeeds_21 : decode cX0_findNeeds 21 = .ok (.ifCond .lt 24, 3) := dq_i155 (dl_b (dl_b (dl_b (dl_b (dl_b (dl_b dkX0_findNeeds_14).2).2).2).2).2).1
theorem dX0_findNeeds_24 : decode cX0_findNeeds 24 = .ok (.aload_n 2, 1) := dq_i44 (dl_b (dl_b (dl_b (dl_b (dl_b (dl_b (dl_b dkX0_findNeeds_14).2).2).2).2).2).2).1
theorem dX0_findNeeds_25 : decode cX0_findNeeds 25 = .ok (.iload 4, 2) := dq_i21 (dl_b (dl_b (dl_b (dl_b (dl_b (dl_b (dl_b (dl_b dkX0_findNeeds_14).2).2).2).2).2).2).2).1
theorem dX0_findNeeds_27 : decode cX0_findNeeds 27 = .ok (.iaload, 1) := dq_i46 (dl_b (dl_b (dl_b (dl_b (dl_b (dl_b (dl_b (dl_b (dl_b dkX0_findNeeds_14).2).2).2).2).2).2).2).2).1
theorem dX0_findNeeds_28 : decode cX0_findNeeds 28 = .ok (.iconst (-1), 1) := dq_i2 (dl_b (dl_b (dl_b (dl_b (dl_b (dl_b (dl_b (dl_b (dl_b dkX0_findNeeds_14).2).2).2).2).2).2).2).2).2
theorem dkX0_findNeeds_29 : (dq_4 cX0_findNeeds 29 159 10 && (dq_0 cX0_findNeeds 32 42 && (dq_1 cX0_findNeeds 33 21 4 && (dq_0 cX0_findNeeds 35 44 && (dq_2 cX0_findNeeds 36 182 54 && (dq_5 cX0_findNeeds 39 132 4 (-1) && (dq_4 cX0_findNeeds 42 167 (-23) && (dq_0 cX0_findNeeds 45 29 && (dq_0 cX0_findNeeds 46 172))))))))) = true := by decide +kernel
theorem dX0_findNeeds_29 : decode cX0_findNeeds 29 = .ok (.if_icmp .eq 10, 3) := dq_i159 (dl_b dkX0_findNeeds_29).1
theorem dX0_findNeeds_32 : decode cX0_findNeeds 32 = .ok (.aload_n 0, 1) := dq_i42 (dl_b (dl_b dkX0_findNeeds_29).2).1
theorem dX0_findNeeds_33 : decode cX0_findNeeds 33 = .ok (.iload 4, 2) := dq_i21 (dl_b (dl_b (dl_b dkX0_findNeeds_29).2).2).1
theorem dX0_findNeeds_35 : decode cX0_findNeeds 35 = .ok (.aload_n 2, 1) := dq_i44 (dl_b (dl_b (dl_b (dl_b dkX0_findNeeds_29).2).2).2).1
theorem dX0_findNeeds_36 : decode cX0_findNeeds 36 = .ok (.invokevirtual 54, 3) := dq_i182 (dl_b (dl_b (dl_b (dl_b (dl_b dkX0_findNeeds_29).2).2).2).2).1
theorem dX0_findNeeds_39 : decode cX0_findNeeds 39 = .ok (.iinc 4 (-1), 3) := dq_i132 (dl_b (dl_b (dl_b (dl_b (dl_b (dl_b dkX0_findNeeds_29).2).2).2).2).2).1
theorem dX0_findNeeds_42 : decode cX0_findNeeds 42 = .ok (.goto (-23), 3) := dq_i167 (dl_b (dl_b (dl_b (dl_b (dl_b (dl_b (dl_b dkX0_findNeeds_29).2).2).2).2).2).2).1
theorem dX0_findNeeds_45 : decode cX0_findNeeds 45 = .ok (.iload_n 3, 1) := dq_i29 (dl_b (dl_b (dl_b (dl_b (dl_b (dl_b (dl_b (dl_b dkX0_findNeeds_29).2).2).2).2).2).2).2).1
theorem dX0_findNeeds_46 : decode cX0_findNeeds 46 = .ok (.ireturn, 1) := dq_i172 (dl_b (dl_b (dl_b (dl_b (dl_b (dl_b (dl_b (dl_b dkX0_findNeeds_29).2).2).2).2).2).2).2).2
theorem dkX0_noteNeedsOf_0 : (dq_0 cX0_noteNeedsOf 0 3 && (dq_0 cX0_noteNeedsOf 1 62 && (dq_0 cX0_noteNeedsOf 2 29 && (dq_2 cX0_noteNeedsOf 3 178 31 && (dq_0 cX0_noteNeedsOf 6 42 && (dq_2 cX0_noteNeedsOf 7 180 9 && (dq_0 cX0_noteNeedsOf 10 27 && (dq_0 cX0_noteNeedsOf 11 46 && (dq_0 cX0_noteNeedsOf 12 46 && (dq_4 cX0_noteNeedsOf 13 162 30)))))))))) = true := by decide +kernel
theorem dX0_noteNeedsOf_0 : decode cX0_noteNeedsOf 0 = .ok (.iconst 0, 1) := dq_i3 (dl_b dkX0_noteNeedsOf_0).1
theorem dX0_noteNeedsOf_1 : decode cX0_noteNeedsOf 1 = .ok (.istore_n 3, 1) := dq_i62 (dl_b (dl_b dkX0_noteNeedsOf_0).2).1
theorem dX0_noteNeedsOf_2 : decode cX0_noteNeedsOf 2 = .ok (.iload_n 3, 1) := dq_i29 (dl_b (dl_b (dl_b dkX0_noteNeedsOf_0).2).2).1
theorem dX0_noteNeedsOf_3 : decode cX0_noteNeedsOf 3 = .ok (.getstatic 31, 3) := dq_i178 (dl_b (dl_b (dl_b (dl_b dkX0_noteNeedsOf_0).2).2).2).1
theorem dX0_noteNeedsOf_6 : decode cX0_noteNeedsOf 6 = .ok (.aload_n 0, 1) := dq_i42 (dl_b (dl_b (dl_b (dl_b (dl_b dkX0_noteNeedsOf_0).2).2).2).2).1
theorem dX0_noteNeedsOf_7 : decode cX0_noteNeedsOf 7 = .ok (.getfield 9, 3) := dq_i180 (dl_b (dl_b (dl_b (dl_b (dl_b (dl_b dkX0_noteNeedsOf_0).2).2).2).2).2).1
theorem dX0_noteNeedsOf_10 : decode cX0_noteNeedsOf 10 = .ok (.iload_n 1, 1) := dq_i27 (dl_b (dl_b (dl_b (dl_b (dl_b (dl_b (dl_b dkX0_noteNeedsOf_0).2).2).2).2).2).2).1
theorem dX0_noteNeedsOf_11 : decode cX0_noteNeedsOf 11 = .ok (.iaload, 1) := dq_i46 (dl_b (dl_b (dl_b (dl_b (dl_b (dl_b (dl_b (dl_b dkX0_noteNeedsOf_0).2).2).2).2).2).2).2).1
theorem dX0_noteNeedsOf_12 : decode cX0_noteNeedsOf 12 = .ok (.iaload, 1) := dq_i46 (dl_b (dl_b (dl_b (dl_b (dl_b (dl_b (dl_b (dl_b (dl_b dkX0_noteNeedsOf_0).2).2).2).2).2).2).2).2).1
theorem dX0_noteNeedsOf_13 : decode cX0_noteNeedsOf 13 = .ok (.if_icmp .ge 30, 3) := dq_i162 (dl_b (dl_b (dl_b (dl_b (dl_b (dl_b (dl_b (dl_b (dl_b dkX0_noteNeedsOf_0).2).2).2).2).2).2).2).2).2
theorem dkX0_noteNeedsOf_16 : (dq_0 cX0_noteNeedsOf 16 42 && (dq_0 cX0_noteNeedsOf 17 27 && (dq_0 cX0_noteNeedsOf 18 29 && (dq_2 cX0_noteNeedsOf 19 182 42 && (dq_1 cX0_noteNeedsOf 22 54 4 && (dq_0 cX0_noteNeedsOf 24 44 && (dq_1 cX0_noteNeedsOf 25 21 4 && (dq_0 cX0_noteNeedsOf 27 46 && (dq_0 cX0_noteNeedsOf 28 2 && (dq_4 cX0_noteNeedsOf 29 160 8)))))))))) = true := by decide +kernel
theorem dX0_noteNeedsOf_16 : decode cX0_noteNeedsOf 16 = .ok (.aload_n 0, 1) := dq_i42 (dl_b dkX0_noteNeedsOf_16).1
theorem dX0_noteNeedsOf_17 : decode cX0_noteNeedsOf 17 = .ok (.iload_n 1, 1) := dq_i27 (dl_b (dl_b dkX0_noteNeedsOf_16).2).1
theorem dX0_noteNeedsOf_18 : decode cX0_noteNeedsOf 18 = .ok (.iload_n 3, 1) := dq_i29 (dl_b (dl_b (dl_b dkX0_noteNeedsOf_16).2).2).1
theorem dX0_noteNeedsOf_19 : decode cX0_noteNeedsOf 19 = .ok (.invokevirtual 42, 3) := dq_i182 (dl_b (dl_b (dl_b (dl_b dkX0_noteNeedsOf_16).2).2).2).1
theorem dX0_noteNeedsOf_22 : decode cX0_noteNeedsOf 22 = .ok (.istore 4, 2) := dq_i54 (dl_b (dl_b (dl_b (dl_b (dl_b dkX0_noteNeedsOf_16).2).2).2).2).1
theorem dX0_noteNeedsOf_24 : decode cX0_noteNeedsOf 24 = .ok (.aload_n 2, 1) := dq_i44 (dl_b (dl_b (dl_b (dl_b (dl_b (dl_b dkX0_noteNeedsOf_16).2).2).2).2).2).1
theorem dX0_noteNeedsOf_25 : decode cX0_noteNeedsOf 25 = .ok (.iload 4, 2) := dq_i21 (dl_b (dl_b (dl_b (dl_b (dl_b (dl_b (dl_b dkX0_noteNeedsOf_16).2).2).2).2).2).2).1
theorem dX0_noteNeedsOf_27 : decode cX0_noteNeedsOf 27 = .ok (.iaload, 1) := dq_i46 (dl_b (dl_b (dl_b (dl_b (dl_b (dl_b (dl_b (dl_b dkX0_noteNeedsOf_16).2).2).2).2).2).2).2).1
theorem dX0_noteNeedsOf_28 : decode cX0_noteNeedsOf 28 = .ok (.iconst (-1), 1) := dq_i2 (dl_b (dl_b (dl_b (dl_b (dl_b (dl_b (dl_b (dl_b (dl_b dkX0_noteNeedsOf_16).2).2).2).2).2).2).2).2).1
theorem dX0_noteNeedsOf_29 : decode cX0_noteNeedsOf 29 = .ok (.if_icmp .ne 8, 3) := dq_i160 (dl_b (dl_b (dl_b (dl_b (dl_b (dl_b (dl_b (dl_b (dl_b dkX0_noteNeedsOf_16).2).2).2).2).2).2).2).2).2
theorem dkX0_noteNeedsOf_32 : (dq_0 cX0_noteNeedsOf 32 44 && (dq_1 cX0_noteNeedsOf 33 21 4 && (dq_0 cX0_noteNeedsOf 35 27 && (dq_0 cX0_noteNeedsOf 36 79 && (dq_5 cX0_noteNeedsOf 37 132 3 1 && (dq_4 cX0_noteNeedsOf 40 167 (-38) && (dq_0 cX0_noteNeedsOf 43 177))))))) = true := by decide +kernel
theorem dX0_noteNeedsOf_32 : decode cX0_noteNeedsOf 32 = .ok (.aload_n 2, 1) := dq_i44 (dl_b dkX0_noteNeedsOf_32).1
theorem dX0_noteNeedsOf_33 : decode cX0_noteNeedsOf 33 = .ok (.iload 4, 2) := dq_i21 (dl_b (dl_b dkX0_noteNeedsOf_32).2).1
theorem dX0_noteNeedsOf_35 : decode cX0_noteNeedsOf 35 = .ok (.iload_n 1, 1) := dq_i27 (dl_b (dl_b (dl_b dkX0_noteNeedsOf_32).2).2).1
theorem dX0_noteNeedsOf_36 : decode cX0_noteNeedsOf 36 = .ok (.iastore, 1) := dq_i79 (dl_b (dl_b (dl_b (dl_b dkX0_noteNeedsOf_32).2).2).2).1
theorem dX0_noteNeedsOf_37 : decode cX0_noteNeedsOf 37 = .ok (.iinc 3 1, 3) := dq_i132 (dl_b (dl_b (dl_b (dl_b (dl_b dkX0_noteNeedsOf_32).2).2).2).2).1
theorem dX0_noteNeedsOf_40 : decode cX0_noteNeedsOf 40 = .ok (.goto (-38), 3) := dq_i167 (dl_b (dl_b (dl_b (dl_b (dl_b (dl_b dkX0_noteNeedsOf_32).2).2).2).2).2).1
theorem dX0_noteNeedsOf_43 : decode cX0_noteNeedsOf 43 = .ok (.return_, 1) := dq_i177 (dl_b (dl_b (dl_b (dl_b (dl_b (dl_b dkX0_noteNeedsOf_32).2).2).2).2).2).2
theorem dkX0_meetVariables_0 : (dq_0 cX0_meetVariables 0 42 && (dq_2 cX0_meetVariables 1 180 21 && (dq_0 cX0_meetVariables 4 3 && (dq_2 cX0_meetVariables 5 184 48 && (dq_0 cX0_meetVariables 8 3 && (dq_0 cX0_meetVariables 9 61 && (dq_0 cX0_meetVariables 10 28 && (dq_0 cX0_meetVariables 11 42 && (dq_2 cX0_meetVariables 12 180 28 && (dq_4 cX0_meetVariables 15 162 21)))))))))) = true := by decide +kernel
theorem dX0_meetVariables_0 : decode cX0_meetVariables 0 = .ok (.aload_n 0, 1) := dq_i42 (dl_b dkX0_meetVariables_0).1
theorem dX0_meetVariables_1 : decode cX0_meetVariables 1 = .ok (.getfield 21, 3) := dq_i180 (dl_b (dl_b dkX0_meetVariables_0).2).1
theorem dX0_meetVariables_4 : decode cX0_meetVariables 4 = .ok (.iconst 0, 1) := dq_i3 (dl_b (dl_b (dl_b dkX0_meetVariables_0).2).2).1
theorem dX0_meetVariables_5 : decode cX0_meetVariables 5 = .ok (.invokestatic 48, 3) := dq_i184 (dl_b (dl_b (dl_b (dl_b dkX0_meetVariables_0).2).2).2).1
theorem dX0_meetVariables_8 : decode cX0_meetVariables 8 = .ok (.iconst 0, 1) := dq_i3 (dl_b (dl_b (dl_b (dl_b (dl_b dkX0_meetVariables_0).2).2).2).2).1
theorem dX0_meetVariables_9 : decode cX0_meetVariables 9 = .ok (.istore_n 2, 1) := dq_i61 (dl_b (dl_b (dl_b (dl_b (dl_b (dl_b dkX0_meetVariables_0).2).2).2).2).2).1
theorem dX0_meetVariables_10 : decode cX0_meetVariables 10 = .ok (.iload_n 2, 1) := dq_i28 (dl_b (dl_b (dl_b (dl_b (dl_b (dl_b (dl_b dkX0_meetVariables_0).2).2).2).2).2).2).1
theorem dX0_meetVariables_11 : decode cX0_meetVariables 11 = .ok (.aload_n 0, 1) := dq_i42 (dl_b (dl_b (dl_b (dl_b (dl_b (dl_b (dl_b (dl_b dkX0_meetVariables_0).2).2).2).2).2).2).2).1
theorem dX0_meetVariables_12 : decode cX0_meetVariables 12 = .ok (.getfield 28, 3) := dq_i180 (dl_b (dl_b (dl_b (dl_b (dl_b (dl_b (dl_b (dl_b (dl_b dkX0_meetVariables_0).2).2).2).2).2).2).2).2).1
theorem dX0_meetVariables_15 : decode cX0_meetVariables 15 = .ok (.if_icmp .ge 21, 3) := dq_i162 (dl_b (dl_b (dl_b (dl_b (dl_b (dl_b (dl_b (dl_b (dl_b dkX0_meetVariables_0).2).2).2).2).2).2).2).2).2
theorem dkX0_meetVariables_18 : (dq_0 cX0_meetVariables 18 42 && (dq_0 cX0_meetVariables 19 42 && (dq_2 cX0_meetVariables 20 180 18 && (dq_0 cX0_meetVariables 23 28 && (dq_0 cX0_meetVariables 24 46 && (dq_0 cX0_meetVariables 25 43 && (dq_0 cX0_meetVariables 26 3 && (dq_2 cX0_meetVariables 27 182 58 && (dq_5 cX0_meetVariables 30 132 2 1 && (dq_4 cX0_meetVariables 33 167 (-23))))))))))) = true := by decide +kernel
theorem dX0_meetVariables_18 : decode cX0_meetVariables 18 = .ok (.aload_n 0, 1) := dq_i42 (dl_b dkX0_meetVariables_18).1
theorem dX0_meetVariables_19 : decode cX0_meetVariables 19 = .ok (.aload_n 0, 1) := dq_i42 (dl_b (dl_b dkX0_meetVariables_18).2).1
theorem dX0_meetVariables_20 : decode cX0_meetVariables 20 = .ok (.getfield 18, 3) := dq_i180 (dl_b (dl_b (dl_b dkX0_meetVariables_18).2).2).1
theorem dX0_meetVariables_23 : decode cX0_meetVariables 23 = .ok (.iload_n 2, 1) := dq_i28 (dl_b (dl_b (dl_b (dl_b dkX0_meetVariables_18).2).2).2).1
theorem dX0_meetVariables_24 : decode cX0_meetVariables 24 = .ok (.iaload, 1) := dq_i46 (dl_b (dl_b (dl_b (dl_b (dl_b dkX0_meetVariables_18).2).2).2).2).1
theorem dX0_meetVariables_25 : decode cX0_meetVariables 25 = .ok (.aload_n 1, 1) := dq_i43 (dl_b (dl_b (dl_b (dl_b (dl_b (dl_b dkX0_meetVariables_18).2).2).2).2).2).1
theorem dX0_meetVariables_26 : decode cX0_meetVariables 26 = .ok (.iconst 0, 1) := dq_i3 (dl_b (dl_b (dl_b (dl_b (dl_b (dl_b (dl_b dkX0_meetVariables_18).2).2).2).2).2).2).1
theorem dX0_meetVariables_27 : decode cX0_meetVariables 27 = .ok (.invokevirtual 58, 3) := dq_i182 (dl_b (dl_b (dl_b (dl_b (dl_b (dl_b (dl_b (dl_b dkX0_meetVariables_18).2).2).2).2).2).2).2).1
theorem dX0_meetVariables_30 : decode cX0_meetVariables 30 = .ok (.iinc 2 1, 3) := dq_i132 (dl_b (dl_b (dl_b (dl_b (dl_b (dl_b (dl_b (dl_b (dl_b dkX0_meetVariables_18).2).2).2).2).2).2).2).2).1
theorem dX0_meetVariables_33 : decode cX0_meetVariables 33 = .ok (.goto (-23), 3) := dq_i167 (dl_b (dl_b (dl_b (dl_b (dl_b (dl_b (dl_b (dl_b (dl_b dkX0_meetVariables_18).2).2).2).2).2).2).2).2).2
theorem dkX0_meetVariables_36 : (dq_0 cX0_meetVariables 36 177) = true := by decide +kernel
theorem dX0_meetVariables_36 : decode cX0_meetVariables 36 = .ok (.return_, 1) := dq_i177 dkX0_meetVariables_36
theorem dkX0_goInto_0 : (dq_0 cX0_goInto 0 29 && (dq_3 cX0_goInto 1 16 40 && (dq_4 cX0_goInto 3 162 12 && (dq_0 cX0_goInto 6 42 && (dq_2 cX0_goInto 7 180 21 && (dq_0 cX0_goInto 10 27 && (dq_0 cX0_goInto 11 46 && (dq_4 cX0_goInto 12 153 4 && (dq_0 cX0_goInto 15 177 && (dq_0 cX0_goInto 16 42)))))))))) = true := by decide +kernel
theorem dX0_goInto_0 : decode cX0_goInto 0 = .ok (.iload_n 3, 1) := dq_i29 (dl_b dkX0_goInto_0).1
theorem dX0_goInto_1 : decode cX0_goInto 1 = .ok (.bipush 40, 2) := dq_i16 (dl_b (dl_b dkX0_goInto_0).2).1
theorem dX0_goInto_3 : decode cX0_goInto 3 = .ok (.if_icmp .ge 12, 3) := dq_i162 (dl_b (dl_b (dl_b dkX0_goInto_0).2).2).1
theorem dX0_goInto_6 : decode cX0_goInto 6 = .ok (.aload_n 0, 1) := dq_i42 (dl_b (dl_b (dl_b (dl_b dkX0_goInto_0).2).2).2).1
theorem dX0_goInto_7 : decode cX0_goInto 7 = .ok (.getfield 21, 3) := dq_i180 (dl_b (dl_b (dl_b (dl_b (dl_b dkX0_goInto_0).2).2).2).2).1
theorem dX0_goInto_10 : decode cX0_goInto 10 = .ok (.iload_n 1, 1) := dq_i27 (dl_b (dl_b (dl_b (dl_b (dl_b (dl_b dkX0_goInto_0).2).2).2).2).2).1
theorem dX0_goInto_11 : decode cX0_goInto 11 = .ok (.iaload, 1) := dq_i46 (dl_b (dl_b (dl_b (dl_b (dl_b (dl_b (dl_b dkX0_goInto_0).2).2).2).2).2).2).1
theorem dX0_goInto_12 : decode cX0_goInto 12 = .ok (.ifCond .eq 4, 3) := dq_i153 (dl_b (dl_b (dl_b (dl_b (dl_b (dl_b (dl_b (dl_b dkX0_goInto_0).2).2).2).2).2).2).2).1
theorem dX0_goInto_15 : decode cX0_goInto 15 = .ok (.return_, 1) := dq_i177 (dl_b (dl_b (dl_b (dl_b (dl_b (dl_b (dl_b (dl_b (dl_b dkX0_goInto_0).2).2).2).2).2).2).2).2).1
theorem dX0_goInto_16 : decode cX0_goInto 16 = .ok (.aload_n 0, 1) := dq_i42 (dl_b (dl_b (dl_b (dl_b (dl_b (dl_b (dl_b (dl_b (dl_b dkX0_goInto_0).2).2).2).2).2).2).2).2).2
theorem dkX0_goInto_17 : (dq_2 cX0_goInto 17 180 21 && (dq_0 cX0_goInto 20 27 && (dq_0 cX0_goInto 21 4 && (dq_0 cX0_goInto 22 79 && (dq_0 cX0_goInto 23 42 && (dq_2 cX0_goInto 24 180 9 && (dq_0 cX0_goInto 27 27 && (dq_0 cX0_goInto 28 46 && (dq_4 cX0_goInto 29 154 13 && (dq_0 cX0_goInto 32 44)))))))))) = true := by decide +kernel
theorem dX0_goInto_17 : decode cX0_goInto 17 = .ok (.getfield 21, 3) := dq_i180 (dl_b dkX0_goInto_17).1
theorem dX0_goInto_20 : decode cX0_goInto 20 = .ok (.iload_n 1, 1) := dq_i27 (dl_b (dl_b dkX0_goInto_17).2).1
theorem dX0_goInto_21 : decode cX0_goInto 21 = .ok (.iconst 1, 1) := dq_i4 (dl_b (dl_b (dl_b dkX0_goInto_17).2).2).1
theorem dX0_goInto_22 : decode cX0_goInto 22 = .ok (.iastore, 1) := dq_i79 (dl_b (dl_b (dl_b (dl_b dkX0_goInto_17).2).2).2).1
theorem dX0_goInto_23 : decode cX0_goInto 23 = .ok (.aload_n 0, 1) := dq_i42 (dl_b (dl_b (dl_b (dl_b (dl_b dkX0_goInto_17).2).2).2).2).1
theorem dX0_goInto_24 : decode cX0_goInto 24 = .ok (.getfield 9, 3) := dq_i180 (dl_b (dl_b (dl_b (dl_b (dl_b (dl_b dkX0_goInto_17).2).2).2).2).2).1
theorem dX0_goInto_27 : decode cX0_goInto 27 = .ok (.iload_n 1, 1) := dq_i27 (dl_b (dl_b (dl_b (dl_b (dl_b (dl_b (dl_b dkX0_goInto_17).2).2).2).2).2).2).1
theorem dX0_goInto_28 : decode cX0_goInto 28 = .ok (.iaload, 1) := dq_i46 (dl_b (dl_b (dl_b (dl_b (dl_b (dl_b (dl_b (dl_b dkX0_goInto_17).2).2).2).2).2).2).2).1
theorem dX0_goInto_29 : decode cX0_goInto 29 = .ok (.ifCond .ne 13, 3) := dq_i154 (dl_b (dl_b (dl_b (dl_b (dl_b (dl_b (dl_b (dl_b (dl_b dkX0_goInto_17).2).2).2).2).2).2).2).2).1
theorem dX0_goInto_32 : decode cX0_goInto 32 = .ok (.aload_n 2, 1) := dq_i44 (dl_b (dl_b (dl_b (dl_b (dl_b (dl_b (dl_b (dl_b (dl_b dkX0_goInto_17).2).2).2).2).2).2).2).2).2
theorem dkX0_goInto_33 : (dq_0 cX0_goInto 33 42 && (dq_0 cX0_goInto 34 27 && (dq_0 cX0_goInto 35 3 && (dq_2 cX0_goInto 36 182 42 && (dq_2 cX0_goInto 39 182 62 && (dq_0 cX0_goInto 42 3 && (dq_1 cX0_goInto 43 54 4 && (dq_1 cX0_goInto 45 21 4 && (dq_2 cX0_goInto 47 178 31 && (dq_0 cX0_goInto 50 42)))))))))) = true := by decide +kernel
theorem dX0_goInto_33 : decode cX0_goInto 33 = .ok (.aload_n 0, 1) := dq_i42 (dl_b dkX0_goInto_33).1
theorem dX0_goInto_34 : decode cX0_goInto 34 = .ok (.iload_n 1, 1) := dq_i27 (dl_b (dl_b dkX0_goInto_33).2).1
theorem dX0_goInto_35 : decode cX0_goInto 35 = .ok (.iconst 0, 1) := dq_i3 (dl_b (dl_b (dl_b dkX0_goInto_33).2).2).1
theorem dX0_goInto_36 : decode cX0_goInto 36 = .ok (.invokevirtual 42, 3) := dq_i182 (dl_b (dl_b (dl_b (dl_b dkX0_goInto_33).2).2).2).1
theorem dX0_goInto_39 : decode cX0_goInto 39 = .ok (.invokevirtual 62, 3) := dq_i182 (dl_b (dl_b (dl_b (dl_b (dl_b dkX0_goInto_33).2).2).2).2).1
theorem dX0_goInto_42 : decode cX0_goInto 42 = .ok (.iconst 0, 1) := dq_i3 (dl_b (dl_b (dl_b (dl_b (dl_b (dl_b dkX0_goInto_33).2).2).2).2).2).1
theorem dX0_goInto_43 : decode cX0_goInto 43 = .ok (.istore 4, 2) := dq_i54 (dl_b (dl_b (dl_b (dl_b (dl_b (dl_b (dl_b dkX0_goInto_33).2).2).2).2).2).2).1
theorem dX0_goInto_45 : decode cX0_goInto 45 = .ok (.iload 4, 2) := dq_i21 (dl_b (dl_b (dl_b (dl_b (dl_b (dl_b (dl_b (dl_b dkX0_goInto_33).2).2).2).2).2).2).2).1
theorem dX0_goInto_47 : decode cX0_goInto 47 = .ok (.getstatic 31, 3) := dq_i178 (dl_b (dl_b (dl_b (dl_b (dl_b (dl_b (dl_b (dl_b (dl_b dkX0_goInto_33).2).2).2).2).2).2).2).2).1
theorem dX0_goInto_50 : decode cX0_goInto 50 = .ok (.aload_n 0, 1) := dq_i42 (dl_b (dl_b (dl_b (dl_b (dl_b (dl_b (dl_b (dl_b (dl_b dkX0_goInto_33).2).2).2).2).2).2).2).2).2
theorem dkX0_goInto_51 : (dq_2 cX0_goInto 51 180 9 && (dq_0 cX0_goInto 54 27 && (dq_0 cX0_goInto 55 46 && (dq_0 cX0_goInto 56 46 && (dq_4 cX0_goInto 57 162 24 && (dq_0 cX0_goInto 60 42 && (dq_0 cX0_goInto 61 42 && (dq_0 cX0_goInto 62 27 && (dq_1 cX0_goInto 63 21 4 && (dq_2 cX0_goInto 65 182 42)))))))))) = true := by decide +kernel
theorem dX0_goInto_51 : decode cX0_goInto 51 = .ok (.getfield 9, 3) := dq_i180 (dl_b dkX0_goInto_51).1
theorem dX0_goInto_54 : decode cX0_goInto 54 = .ok (.iload_n 1, 1) := dq_i27 (dl_b (dl_b dkX0_goInto_51).2).1
theorem dX0_goInto_55 : decode cX0_goInto 55 = .ok (.iaload, 1) := dq_i46 (dl_b (dl_b (dl_b dkX0_goInto_51).2).2).1
theorem dX0_goInto_56 : decode cX0_goInto 56 = .ok (.iaload, 1) := dq_i46 (dl_b (dl_b (dl_b (dl_b dkX0_goInto_51).2).2).2).1
theorem dX0_goInto_57 : decode cX0_goInto 57 = .ok (.if_icmp .ge 24, 3) := dq_i162 (dl_b (dl_b (dl_b (dl_b (dl_b dkX0_goInto_51).2).2).2).2).1
theorem dX0_goInto_60 : decode cX0_goInto 60 = .ok (.aload_n 0, 1) := dq_i42 (dl_b (dl_b (dl_b (dl_b (dl_b (dl_b dkX0_goInto_51).2).2).2).2).2).1
theorem dX0_goInto_61 : decode cX0_goInto 61 = .ok (.aload_n 0, 1) := dq_i42 (dl_b (dl_b (dl_b (dl_b (dl_b (dl_b (dl_b dkX0_goInto_51).2).2).2).2).2).2).1
theorem dX0_goInto_62 : decode cX0_goInto 62 = .ok (.iload_n 1, 1) := dq_i27 (dl_b (dl_b (dl_b (dl_b (dl_b (dl_b (dl_b (dl_b dkX0_goInto_51).2).2).2).2).2).2).2).1
theorem dX0_goInto_63 : decode cX0_goInto 63 = .ok (.iload 4, 2) := dq_i21 (dl_b (dl_b (dl_b (dl_b (dl_b (dl_b (dl_b (dl_b (dl_b dkX0_goInto_51).2).2).2).2).2).2).2).2).1
theorem dX0_goInto_65 : decode cX0_goInto 65 = .ok (.invokevirtual 42, 3) := dq_i182 (dl_b (dl_b (dl_b (dl_b (dl_b (dl_b (dl_b (dl_b (dl_b dkX0_goInto_51).2).2).2).2).2).2).2).2).2
theorem dkX0_goInto_68 : (dq_0 cX0_goInto 68 44 && (dq_0 cX0_goInto 69 29 && (dq_0 cX0_goInto 70 4 && (dq_0 cX0_goInto 71 96 && (dq_2 cX0_goInto 72 182 58 && (dq_5 cX0_goInto 75 132 4 1 && (dq_4 cX0_goInto 78 167 (-33) && (dq_0 cX0_goInto 81 177)))))))) = true := by decide +kernel
theorem dX0_goInto_68 : decode cX0_goInto 68 = .ok (.aload_n 2, 1) := dq_i44 (dl_b dkX0_goInto_68).1
theorem dX0_goInto_69 : decode cX0_goInto 69 = .ok (.iload_n 3, 1) := dq_i29 (dl_b (dl_b dkX0_goInto_68).2).1
theorem dX0_goInto_70 : decode cX0_goInto 70 = .ok (.iconst 1, 1) := dq_i4 (dl_b (dl_b (dl_b dkX0_goInto_68).2).2).1
theorem dX0_goInto_71 : decode cX0_goInto 71 = .ok (.iadd, 1) := dq_i96 (dl_b (dl_b (dl_b (dl_b dkX0_goInto_68).2).2).2).1
theorem dX0_goInto_72 : decode cX0_goInto 72 = .ok (.invokevirtual 58, 3) := dq_i182 (dl_b (dl_b (dl_b (dl_b (dl_b dkX0_goInto_68).2).2).2).2).1
theorem dX0_goInto_75 : decode cX0_goInto 75 = .ok (.iinc 4 1, 3) := dq_i132 (dl_b (dl_b (dl_b (dl_b (dl_b (dl_b dkX0_goInto_68).2).2).2).2).2).1
theorem dX0_goInto_78 : decode cX0_goInto 78 = .ok (.goto (-33), 3) := dq_i167 (dl_b (dl_b (dl_b (dl_b (dl_b (dl_b (dl_b dkX0_goInto_68).2).2).2).2).2).2).1
theorem dX0_goInto_81 : decode cX0_goInto 81 = .ok (.return_, 1) := dq_i177 (dl_b (dl_b (dl_b (dl_b (dl_b (dl_b (dl_b dkX0_goInto_68).2).2).2).2).2).2).2
theorem dkX1_init_0 : (dq_0 cX1_init 0 42 && (dq_2 cX1_init 1 183 3 && (dq_0 cX1_init 4 42 && (dq_3 cX1_init 5 16 8)))) = true := by decide +kernel
theorem dX1_init_0 : decode cX1_init 0 = .ok (.aload_n 0, 1) := dq_i42 (dl_b dkX1_init_0).1
theorem dX1_init_1 : decode cX1_init 1 = .ok (.invokespecial 3, 3) := dq_i183 (dl_b (dl_b dkX1_init_0).2).1
theorem dX1_init_4 : decode cX1_init 4 = .ok (.aload_n 0, 1) := dq_i42 (dl_b (dl_b (dl_b dkX1_init_0).2).2).1
theorem dX1_init_5 : decode cX1_init 5 = .ok (.bipush 8, 2) := dq_i16 (dl_b (dl_b (dl_b dkX1_init_0).2).2).2
theorem dX1_init_7 : decode cX1_init 7 = .ok (.newarray .int, 2) := by decide +kernel
theorem dkX1_init_9 : (dq_2 cX1_init 9 181 9 && (dq_0 cX1_init 12 42 && (dq_3 cX1_init 13 16 8))) = true := by decide +kernel
theorem dX1_init_9 : decode cX1_init 9 = .ok (.putfield 9, 3) := dq_i181 (dl_b dkX1_init_9).1
theorem dX1_init_12 : decode cX1_init 12 = .ok (.aload_n 0, 1) := dq_i42 (dl_b (dl_b dkX1_init_9).2).1
theorem dX1_init_13 : decode cX1_init 13 = .ok (.bipush 8, 2) := dq_i16 (dl_b (dl_b dkX1_init_9).2).2
theorem dX1_init_15 : decode cX1_init 15 = .ok (.newarray .int, 2) := by decide +kernel
theorem dkX1_init_17 : (dq_2 cX1_init 17 181 15 && (dq_0 cX1_init 20 42 && (dq_0 cX1_init 21 3 && (dq_2 cX1_init 22 181 18 && (dq_0 cX1_init 25 3 && (dq_0 cX1_init 26 60 && (dq_0 cX1_init 27 27 && (dq_3 cX1_init 28 16 8 && (dq_4 cX1_init 30 162 23 && (dq_0 cX1_init 33 42)))))))))) = true := by decide +kernel
theorem dX1_init_17 : decode cX1_init 17 = .ok (.putfield 15, 3) := dq_i181 (dl_b dkX1_init_17).1
theorem dX1_init_20 : decode cX1_init 20 = .ok (.aload_n 0, 1) := dq_i42 (dl_b (dl_b dkX1_init_17).2).1
theorem dX1_init_21 : decode cX1_init 21 = .ok (.iconst 0, 1) := dq_i3 (dl_b (dl_b (dl_b dkX1_init_17).2).2).1
theorem dX1_init_22 : decode cX1_init 22 = .ok (.putfield 18, 3) := dq_i181 (dl_b (dl_b (dl_b (dl_b dkX1_init_17).2).2).2).1
theorem dX1_init_25 : decode cX1_init 25 = .ok (.iconst 0, 1) := dq_i3 (dl_b (dl_b (dl_b (dl_b (dl_b dkX1_init_17).2).2).2).2).1
theorem dX1_init_26 : decode cX1_init 26 = .ok (.istore_n 1, 1) := dq_i60 (dl_b (dl_b (dl_b (dl_b (dl_b (dl_b dkX1_init_17).2).2).2).2).2).1
theorem dX1_init_27 : decode cX1_init 27 = .ok (.iload_n 1, 1) := dq_i27 (dl_b (dl_b (dl_b (dl_b (dl_b (dl_b (dl_b dkX1_init_17).2).2).2).2).2).2).1
theorem dX1_init_28 : decode cX1_init 28 = .ok (.bipush 8, 2) := dq_i16 (dl_b (dl_b (dl_b (dl_b (dl_b (dl_b (dl_b (dl_b dkX1_init_17).2).2).2).2).2).2).2).1
theorem dX1_init_30 : decode cX1_init 30 = .ok (.if_icmp .ge 23, 3) := dq_i162 (dl_b (dl_b (dl_b (dl_b (dl_b (dl_b (dl_b (dl_b (dl_b dkX1_init_17).2).2).2).2).2).2).2).2).1
theorem dX1_init_33 : decode cX1_init 33 = .ok (.aload_n 0, 1) := dq_i42 (dl_b (dl_b (dl_b (dl_b (dl_b (dl_b (dl_b (dl_b (dl_b dkX1_init_17).2).2).2).2).2).2).2).2).2
theorem dkX1_init_34 : (dq_2 cX1_init 34 180 9 && (dq_0 cX1_init 37 27 && (dq_0 cX1_init 38 27 && (dq_0 cX1_init 39 79 && (dq_0 cX1_init 40 42 && (dq_2 cX1_init 41 180 15 && (dq_0 cX1_init 44 27 && (dq_0 cX1_init 45 27 && (dq_0 cX1_init 46 79 && (dq_5 cX1_init 47 132 1 1)))))))))) = true := by decide +kernel
theorem dX1_init_34 : decode cX1_init 34 = .ok (.getfield 9, 3) := dq_i180 (dl_b dkX1_init_34).1
theorem dX1_init_37 : decode cX1_init 37 = .ok (.iload_n 1, 1) := dq_i27 (dl_b (dl_b dkX1_init_34).2).1
theorem dX1_init_38 : decode cX1_init 38 = .ok (.iload_n 1, 1) := dq_i27 (dl_b (dl_b (dl_b dkX1_init_34).2).2).1
theorem dX1_init_39 : decode cX1_init 39 = .ok (.iastore, 1) := dq_i79 (dl_b (dl_b (dl_b (dl_b dkX1_init_34).2).2).2).1
theorem dX1_init_40 : decode cX1_init 40 = .ok (.aload_n 0, 1) := dq_i42 (dl_b (dl_b (dl_b (dl_b (dl_b dkX1_init_34).2).2).2).2).1
theorem dX1_init_41 : decode cX1_init 41 = .ok (.getfield 15, 3) := dq_i180 (dl_b (dl_b (dl_b (dl_b (dl_b (dl_b dkX1_init_34).2).2).2).2).2).1
theorem dX1_init_44 : decode cX1_init 44 = .ok (.iload_n 1, 1) := dq_i27 (dl_b (dl_b (dl_b (dl_b (dl_b (dl_b (dl_b dkX1_init_34).2).2).2).2).2).2).1
theorem dX1_init_45 : decode cX1_init 45 = .ok (.iload_n 1, 1) := dq_i27 (dl_b (dl_b (dl_b (dl_b (dl_b (dl_b (dl_b (dl_b dkX1_init_34).2).2).2).2).2).2).2).1
theorem dX1_init_46 : decode cX1_init 46 = .ok (.iastore, 1) := dq_i79 (dl_b (dl_b (dl_b (dl_b (dl_b (dl_b (dl_b (dl_b (dl_b dkX1_init_34).2).2).2).2).2).2).2).2).1
theorem dX1_init_47 : decode cX1_init 47 = .ok (.iinc 1 1, 3) := dq_i132 (dl_b (dl_b (dl_b (dl_b (dl_b (dl_b (dl_b (dl_b (dl_b dkX1_init_34).2).2).2).2).2).2).2).2).2
theorem dkX1_init_50 : (dq_4 cX1_init 50 167 (-23) && (dq_0 cX1_init 53 177)) = true := by decide +kernel
theorem dX1_init_50 : decode cX1_init 50 = .ok (.goto (-23), 3) := dq_i167 (dl_b dkX1_init_50).1
theorem dX1_init_53 : decode cX1_init 53 = .ok (.return_, 1) := dq_i177 (dl_b dkX1_init_50).2
theorem dkX1_variableAt_0 : (dq_0 cX1_variableAt 0 42 && (dq_2 cX1_variableAt 1 180 9 && (dq_0 cX1_variableAt 4 27 && (dq_0 cX1_variableAt 5 46 && (dq_0 cX1_variableAt 6 172))))) = true := by decide +kernel
theorem dX1_variableAt_0 : decode cX1_variableAt 0 = .ok (.aload_n 0, 1) := dq_i42 (dl_b dkX1_variableAt_0).1
theorem dX1_variableAt_1 : decode cX1_variableAt 1 = .ok (.getfield 9, 3) := dq_i180 (dl_b (dl_b dkX1_variableAt_0).2).1
theorem dX1_variableAt_4 : decode cX1_variableAt 4 = .ok (.iload_n 1, 1) := dq_i27 (dl_b (dl_b (dl_b dkX1_variableAt_0).2).2).1
theorem dX1_variableAt_5 : decode cX1_variableAt 5 = .ok (.iaload, 1) := dq_i46 (dl_b (dl_b (dl_b (dl_b dkX1_variableAt_0).2).2).2).1
theorem dX1_variableAt_6 : decode cX1_variableAt 6 = .ok (.ireturn, 1) := dq_i172 (dl_b (dl_b (dl_b (dl_b dkX1_variableAt_0).2).2).2).2
theorem dkX1_placeOf_0 : (dq_0 cX1_placeOf 0 42 && (dq_2 cX1_placeOf 1 180 15 && (dq_0 cX1_placeOf 4 27 && (dq_0 cX1_placeOf 5 46 && (dq_0 cX1_placeOf 6 172))))) = true := by decide +kernel
theorem dX1_placeOf_0 : decode cX1_placeOf 0 = .ok (.aload_n 0, 1) := dq_i42 (dl_b dkX1_placeOf_0).1
theorem dX1_placeOf_1 : decode cX1_placeOf 1 = .ok (.getfield 15, 3) := dq_i180 (dl_b (dl_b dkX1_placeOf_0).2).1
theorem dX1_placeOf_4 : decode cX1_placeOf 4 = .ok (.iload_n 1, 1) := dq_i27 (dl_b (dl_b (dl_b dkX1_placeOf_0).2).2).1
theorem dX1_placeOf_5 : decode cX1_placeOf 5 = .ok (.iaload, 1) := dq_i46 (dl_b (dl_b (dl_b (dl_b dkX1_placeOf_0).2).2).2).1
theorem dX1_placeOf_6 : decode cX1_placeOf 6 = .ok (.ireturn, 1) := dq_i172 (dl_b (dl_b (dl_b (dl_b dkX1_placeOf_0).2).2).2).2
theorem dkX1_forget_0 : (dq_0 cX1_forget 0 42 && (dq_2 cX1_forget 1 180 15 && (dq_0 cX1_forget 4 2 && (dq_2 cX1_forget 5 184 22 && (dq_0 cX1_forget 8 42 && (dq_0 cX1_forget 9 3 && (dq_2 cX1_forget 10 181 18 && (dq_0 cX1_forget 13 177)))))))) = true := by decide +kernel
theorem dX1_forget_0 : decode cX1_forget 0 = .ok (.aload_n 0, 1) := dq_i42 (dl_b dkX1_forget_0).1
theorem dX1_forget_1 : decode cX1_forget 1 = .ok (.getfield 15, 3) := dq_i180 (dl_b (dl_b dkX1_forget_0).2).1
theorem dX1_forget_4 : decode cX1_forget 4 = .ok (.iconst (-1), 1) := dq_i2 (dl_b (dl_b (dl_b dkX1_forget_0).2).2).1
theorem dX1_forget_5 : decode cX1_forget 5 = .ok (.invokestatic 22, 3) := dq_i184 (dl_b (dl_b (dl_b (dl_b dkX1_forget_0).2).2).2).1
theorem dX1_forget_8 : decode cX1_forget 8 = .ok (.aload_n 0, 1) := dq_i42 (dl_b (dl_b (dl_b (dl_b (dl_b dkX1_forget_0).2).2).2).2).1
theorem dX1_forget_9 : decode cX1_forget 9 = .ok (.iconst 0, 1) := dq_i3 (dl_b (dl_b (dl_b (dl_b (dl_b (dl_b dkX1_forget_0).2).2).2).2).2).1
theorem dX1_forget_10 : decode cX1_forget 10 = .ok (.putfield 18, 3) := dq_i181 (dl_b (dl_b (dl_b (dl_b (dl_b (dl_b (dl_b dkX1_forget_0).2).2).2).2).2).2).1
theorem dX1_forget_13 : decode cX1_forget 13 = .ok (.return_, 1) := dq_i177 (dl_b (dl_b (dl_b (dl_b (dl_b (dl_b (dl_b dkX1_forget_0).2).2).2).2).2).2).2
theorem dkX1_meet_0 : (dq_0 cX1_meet 0 42 && (dq_2 cX1_meet 1 180 15 && (dq_0 cX1_meet 4 27 && (dq_0 cX1_meet 5 46 && (dq_0 cX1_meet 6 2 && (dq_4 cX1_meet 7 160 31 && (dq_0 cX1_meet 10 42 && (dq_2 cX1_meet 11 180 18 && (dq_3 cX1_meet 14 16 8 && (dq_4 cX1_meet 16 162 22)))))))))) = true := by decide +kernel
theorem dX1_meet_0 : decode cX1_meet 0 = .ok (.aload_n 0, 1) := dq_i42 (dl_b dkX1_meet_0).1
theorem dX1_meet_1 : decode cX1_meet 1 = .ok (.getfield 15, 3) := dq_i180 (dl_b (dl_b dkX1_meet_0).2).1
theorem dX1_meet_4 : decode cX1_meet 4 = .ok (.iload_n 1, 1) := dq_i27 (dl_b (dl_b (dl_b dkX1_meet_0).2).2).1
theorem dX1_meet_5 : decode cX1_meet 5 = .ok (.iaload, 1) := dq_i46 (dl_b (dl_b (dl_b (dl_b dkX1_meet_0).2).2).2).1
theorem dX1_meet_6 : decode cX1_meet 6 = .ok (.iconst (-1), 1) := dq_i2 (dl_b (dl_b (dl_b (dl_b (dl_b dkX1_meet_0).2).2).2).2).1
theorem dX1_meet_7 : decode cX1_meet 7 = .ok (.if_icmp .ne 31, 3) := dq_i160 (dl_b (dl_b (dl_b (dl_b (dl_b (dl_b dkX1_meet_0).2).2).2).2).2).1
theorem dX1_meet_10 : decode cX1_meet 10 = .ok (.aload_n 0, 1) := dq_i42 (dl_b (dl_b (dl_b (dl_b (dl_b (dl_b (dl_b dkX1_meet_0).2).2).2).2).2).2).1
theorem dX1_meet_11 : decode cX1_meet 11 = .ok (.getfield 18, 3) := dq_i180 (dl_b (dl_b (dl_b (dl_b (dl_b (dl_b (dl_b (dl_b dkX1_meet_0).2).2).2).2).2).2).2).1
theorem dX1_meet_14 : decode cX1_meet 14 = .ok (.bipush 8, 2) := dq_i16 (dl_b (dl_b (dl_b (dl_b (dl_b (dl_b (dl_b (dl_b (dl_b dkX1_meet_0).2).2).2).2).2).2).2).2).1
theorem dX1_meet_16 : decode cX1_meet 16 = .ok (.if_icmp .ge 22, 3) := dq_i162 (dl_b (dl_b (dl_b (dl_b (dl_b (dl_b (dl_b (dl_b (dl_b dkX1_meet_0).2).2).2).2).2).2).2).2).2
theorem dkX1_meet_19 : (dq_0 cX1_meet 19 42 && (dq_0 cX1_meet 20 27 && (dq_0 cX1_meet 21 42 && (dq_2 cX1_meet 22 180 18 && (dq_2 cX1_meet 25 182 28 && (dq_0 cX1_meet 28 42 && (dq_0 cX1_meet 29 89 && (dq_2 cX1_meet 30 180 18 && (dq_0 cX1_meet 33 4 && (dq_0 cX1_meet 34 96)))))))))) = true := by decide +kernel
theorem dX1_meet_19 : decode cX1_meet 19 = .ok (.aload_n 0, 1) := dq_i42 (dl_b dkX1_meet_19).1
theorem dX1_meet_20 : decode cX1_meet 20 = .ok (.iload_n 1, 1) := dq_i27 (dl_b (dl_b dkX1_meet_19).2).1
theorem dX1_meet_21 : decode cX1_meet 21 = .ok (.aload_n 0, 1) := dq_i42 (dl_b (dl_b (dl_b dkX1_meet_19).2).2).1
theorem dX1_meet_22 : decode cX1_meet 22 = .ok (.getfield 18, 3) := dq_i180 (dl_b (dl_b (dl_b (dl_b dkX1_meet_19).2).2).2).1
theorem dX1_meet_25 : decode cX1_meet 25 = .ok (.invokevirtual 28, 3) := dq_i182 (dl_b (dl_b (dl_b (dl_b (dl_b dkX1_meet_19).2).2).2).2).1
theorem dX1_meet_28 : decode cX1_meet 28 = .ok (.aload_n 0, 1) := dq_i42 (dl_b (dl_b (dl_b (dl_b (dl_b (dl_b dkX1_meet_19).2).2).2).2).2).1
theorem dX1_meet_29 : decode cX1_meet 29 = .ok (.dup, 1) := dq_i89 (dl_b (dl_b (dl_b (dl_b (dl_b (dl_b (dl_b dkX1_meet_19).2).2).2).2).2).2).1
theorem dX1_meet_30 : decode cX1_meet 30 = .ok (.getfield 18, 3) := dq_i180 (dl_b (dl_b (dl_b (dl_b (dl_b (dl_b (dl_b (dl_b dkX1_meet_19).2).2).2).2).2).2).2).1
theorem dX1_meet_33 : decode cX1_meet 33 = .ok (.iconst 1, 1) := dq_i4 (dl_b (dl_b (dl_b (dl_b (dl_b (dl_b (dl_b (dl_b (dl_b dkX1_meet_19).2).2).2).2).2).2).2).2).1
theorem dX1_meet_34 : decode cX1_meet 34 = .ok (.iadd, 1) := dq_i96 (dl_b (dl_b (dl_b (dl_b (dl_b (dl_b (dl_b (dl_b (dl_b dkX1_meet_19).2).2).2).2).2).2).2).2).2
theorem dkX1_meet_35 : (dq_2 cX1_meet 35 181 18 && (dq_0 cX1_meet 38 177)) = true := by decide +kernel
theorem dX1_meet_35 : decode cX1_meet 35 = .ok (.putfield 18, 3) := dq_i181 (dl_b dkX1_meet_35).1
theorem dX1_meet_38 : decode cX1_meet 38 = .ok (.return_, 1) := dq_i177 (dl_b dkX1_meet_35).2
theorem dkX1_meetOthers_0 : (dq_0 cX1_meetOthers 0 42 && (dq_2 cX1_meetOthers 1 180 18 && (dq_0 cX1_meetOthers 4 60 && (dq_0 cX1_meetOthers 5 3 && (dq_0 cX1_meetOthers 6 61 && (dq_0 cX1_meetOthers 7 28 && (dq_3 cX1_meetOthers 8 16 8 && (dq_4 cX1_meetOthers 10 162 14 && (dq_0 cX1_meetOthers 13 42 && (dq_0 cX1_meetOthers 14 28)))))))))) = true := by decide +kernel
theorem dX1_meetOthers_0 : decode cX1_meetOthers 0 = .ok (.aload_n 0, 1) := dq_i42 (dl_b dkX1_meetOthers_0).1
theorem dX1_meetOthers_1 : decode cX1_meetOthers 1 = .ok (.getfield 18, 3) := dq_i180 (dl_b (dl_b dkX1_meetOthers_0).2).1
theorem dX1_meetOthers_4 : decode cX1_meetOthers 4 = .ok (.istore_n 1, 1) := dq_i60 (dl_b (dl_b (dl_b dkX1_meetOthers_0).2).2).1
theorem dX1_meetOthers_5 : decode cX1_meetOthers 5 = .ok (.iconst 0, 1) := dq_i3 (dl_b (dl_b (dl_b (dl_b dkX1_meetOthers_0).2).2).2).1
theorem dX1_meetOthers_6 : decode cX1_meetOthers 6 = .ok (.istore_n 2, 1) := dq_i61 (dl_b (dl_b (dl_b (dl_b (dl_b dkX1_meetOthers_0).2).2).2).2).1
theorem dX1_meetOthers_7 : decode cX1_meetOthers 7 = .ok (.iload_n 2, 1) := dq_i28 (dl_b (dl_b (dl_b (dl_b (dl_b (dl_b dkX1_meetOthers_0).2).2).2).2).2).1
theorem dX1_meetOthers_8 : decode cX1_meetOthers 8 = .ok (.bipush 8, 2) := dq_i16 (dl_b (dl_b (dl_b (dl_b (dl_b (dl_b (dl_b dkX1_meetOthers_0).2).2).2).2).2).2).1
theorem dX1_meetOthers_10 : decode cX1_meetOthers 10 = .ok (.if_icmp .ge 14, 3) := dq_i162 (dl_b (dl_b (dl_b (dl_b (dl_b (dl_b (dl_b (dl_b dkX1_meetOthers_0).2).2).2).2).2).2).2).1
theorem dX1_meetOthers_13 : decode cX1_meetOthers 13 = .ok (.aload_n 0, 1) := dq_i42 (dl_b (dl_b (dl_b (dl_b (dl_b (dl_b (dl_b (dl_b (dl_b dkX1_meetOthers_0).2).2).2).2).2).2).2).2).1
theorem dX1_meetOthers_14 : decode cX1_meetOthers 14 = .ok (.iload_n 2, 1) := dq_i28 (dl_b (dl_b (dl_b (dl_b (dl_b (dl_b (dl_b (dl_b (dl_b dkX1_meetOthers_0).2).2).2).2).2).2).2).2).2
theorem dkX1_meetOthers_15 : (dq_2 cX1_meetOthers 15 182 32 && (dq_5 cX1_meetOthers 18 132 2 1 && (dq_4 cX1_meetOthers 21 167 (-14) && (dq_0 cX1_meetOthers 24 27 && (dq_0 cX1_meetOthers 25 172))))) = true := by decide +kernel
theorem dX1_meetOthers_15 : decode cX1_meetOthers 15 = .ok (.invokevirtual 32, 3) := dq_i182 (dl_b dkX1_meetOthers_15).1
theorem dX1_meetOthers_18 : decode cX1_meetOthers 18 = .ok (.iinc 2 1, 3) := dq_i132 (dl_b (dl_b dkX1_meetOthers_15).2).1
theorem dX1_meetOthers_21 : decode cX1_meetOthers 21 = .ok (.goto (-14), 3) := dq_i167 (dl_b (dl_b (dl_b dkX1_meetOthers_15).2).2).1
theorem dX1_meetOthers_24 : decode cX1_meetOthers 24 = .ok (.iload_n 1, 1) := dq_i27 (dl_b (dl_b (dl_b (dl_b dkX1_meetOthers_15).2).2).2).1
theorem dX1_meetOthers_25 : decode cX1_meetOthers 25 = .ok (.ireturn, 1) := dq_i172 (dl_b (dl_b (dl_b (dl_b dkX1_meetOthers_15).2).2).2).2
theorem dkX1_moveTo_0 : (dq_0 cX1_moveTo 0 42 && (dq_2 cX1_moveTo 1 180 15 && (dq_0 cX1_moveTo 4 27 && (dq_0 cX1_moveTo 5 46 && (dq_0 cX1_moveTo 6 62 && (dq_0 cX1_moveTo 7 29 && (dq_1 cX1_moveTo 8 54 4 && (dq_1 cX1_moveTo 10 21 4 && (dq_0 cX1_moveTo 12 28 && (dq_4 cX1_moveTo 13 162 24)))))))))) = true := by decide +kernel
theorem dX1_moveTo_0 : decode cX1_moveTo 0 = .ok (.aload_n 0, 1) := dq_i42 (dl_b dkX1_moveTo_0).1
theorem dX1_moveTo_1 : decode cX1_moveTo 1 = .ok (.getfield 15, 3) := dq_i180 (dl_b (dl_b dkX1_moveTo_0).2).1
theorem dX1_moveTo_4 : decode cX1_moveTo 4 = .ok (.iload_n 1, 1) := dq_i27 (dl_b (dl_b (dl_b dkX1_moveTo_0).2).2).1
theorem dX1_moveTo_5 : decode cX1_moveTo 5 = .ok (.iaload, 1) := dq_i46 (dl_b (dl_b (dl_b (dl_b dkX1_moveTo_0).2).2).2).1
theorem dX1_moveTo_6 : decode cX1_moveTo 6 = .ok (.istore_n 3, 1) := dq_i62 (dl_b (dl_b (dl_b (dl_b (dl_b dkX1_moveTo_0).2).2).2).2).1
theorem dX1_moveTo_7 : decode cX1_moveTo 7 = .ok (.iload_n 3, 1) := dq_i29 (dl_b (dl_b (dl_b (dl_b (dl_b (dl_b dkX1_moveTo_0).2).2).2).2).2).1
theorem dX1_moveTo_8 : decode cX1_moveTo 8 = .ok (.istore 4, 2) := dq_i54 (dl_b (dl_b (dl_b (dl_b (dl_b (dl_b (dl_b dkX1_moveTo_0).2).2).2).2).2).2).1
theorem dX1_moveTo_10 : decode cX1_moveTo 10 = .ok (.iload 4, 2) := dq_i21 (dl_b (dl_b (dl_b (dl_b (dl_b (dl_b (dl_b (dl_b dkX1_moveTo_0).2).2).2).2).2).2).2).1
theorem dX1_moveTo_12 : decode cX1_moveTo 12 = .ok (.iload_n 2, 1) := dq_i28 (dl_b (dl_b (dl_b (dl_b (dl_b (dl_b (dl_b (dl_b (dl_b dkX1_moveTo_0).2).2).2).2).2).2).2).2).1
theorem dX1_moveTo_13 : decode cX1_moveTo 13 = .ok (.if_icmp .ge 24, 3) := dq_i162 (dl_b (dl_b (dl_b (dl_b (dl_b (dl_b (dl_b (dl_b (dl_b dkX1_moveTo_0).2).2).2).2).2).2).2).2).2
theorem dkX1_moveTo_16 : (dq_0 cX1_moveTo 16 42 && (dq_0 cX1_moveTo 17 42 && (dq_2 cX1_moveTo 18 180 9 && (dq_1 cX1_moveTo 21 21 4 && (dq_0 cX1_moveTo 23 4 && (dq_0 cX1_moveTo 24 96 && (dq_0 cX1_moveTo 25 46 && (dq_1 cX1_moveTo 26 21 4 && (dq_2 cX1_moveTo 28 182 28 && (dq_5 cX1_moveTo 31 132 4 1)))))))))) = true := by decide +kernel
theorem dX1_moveTo_16 : decode cX1_moveTo 16 = .ok (.aload_n 0, 1) := dq_i42 (dl_b dkX1_moveTo_16).1
theorem dX1_moveTo_17 : decode cX1_moveTo 17 = .ok (.aload_n 0, 1) := dq_i42 (dl_b (dl_b dkX1_moveTo_16).2).1
theorem dX1_moveTo_18 : decode cX1_moveTo 18 = .ok (.getfield 9, 3) := dq_i180 (dl_b (dl_b (dl_b dkX1_moveTo_16).2).2).1
theorem dX1_moveTo_21 : decode cX1_moveTo 21 = .ok (.iload 4, 2) := dq_i21 (dl_b (dl_b (dl_b (dl_b dkX1_moveTo_16).2).2).2).1
theorem dX1_moveTo_23 : decode cX1_moveTo 23 = .ok (.iconst 1, 1) := dq_i4 (dl_b (dl_b (dl_b (dl_b (dl_b dkX1_moveTo_16).2).2).2).2).1
theorem dX1_moveTo_24 : decode cX1_moveTo 24 = .ok (.iadd, 1) := dq_i96 (dl_b (dl_b (dl_b (dl_b (dl_b (dl_b dkX1_moveTo_16).2).2).2).2).2).1
theorem dX1_moveTo_25 : decode cX1_moveTo 25 = .ok (.iaload, 1) := dq_i46 (dl_b (dl_b (dl_b (dl_b (dl_b (dl_b (dl_b dkX1_moveTo_16).2).2).2).2).2).2).1
theorem dX1_moveTo_26 : decode cX1_moveTo 26 = .ok (.iload 4, 2) := dq_i21 (dl_b (dl_b (dl_b (dl_b (dl_b (dl_b (dl_b (dl_b dkX1_moveTo_16).2).2).2).2).2).2).2).1
theorem dX1_moveTo_28 : decode cX1_moveTo 28 = .ok (.invokevirtual 28, 3) := dq_i182 (dl_b (dl_b (dl_b (dl_b (dl_b (dl_b (dl_b (dl_b (dl_b dkX1_moveTo_16).2).2).2).2).2).2).2).2).1
theorem dX1_moveTo_31 : decode cX1_moveTo 31 = .ok (.iinc 4 1, 3) := dq_i132 (dl_b (dl_b (dl_b (dl_b (dl_b (dl_b (dl_b (dl_b (dl_b dkX1_moveTo_16).2).2).2).2).2).2).2).2).2
theorem dkX1_moveTo_34 : (dq_4 cX1_moveTo 34 167 (-24) && (dq_0 cX1_moveTo 37 29 && (dq_1 cX1_moveTo 38 54 4 && (dq_1 cX1_moveTo 40 21 4 && (dq_0 cX1_moveTo 42 28 && (dq_4 cX1_moveTo 43 164 24 && (dq_0 cX1_moveTo 46 42 && (dq_0 cX1_moveTo 47 42 && (dq_2 cX1_moveTo 48 180 9 && (dq_1 cX1_moveTo 51 21 4)))))))))) = true := by decide +kernel
theorem dX1_moveTo_34 : decode cX1_moveTo 34 = .ok (.goto (-24), 3) := dq_i167 (dl_b dkX1_moveTo_34).1
theorem dX1_moveTo_37 : decode cX1_moveTo 37 = .ok (.iload_n 3, 1) := dq_i29 (dl_b (dl_b dkX1_moveTo_34).2).1
theorem dX1_moveTo_38 : decode cX1_moveTo 38 = .ok (.istore 4, 2) := dq_i54 (dl_b (dl_b (dl_b dkX1_moveTo_34).2).2).1
theorem dX1_moveTo_40 : decode cX1_moveTo 40 = .ok (.iload 4, 2) := dq_i21 (dl_b (dl_b (dl_b (dl_b dkX1_moveTo_34).2).2).2).1
theorem dX1_moveTo_42 : decode cX1_moveTo 42 = .ok (.iload_n 2, 1) := dq_i28 (dl_b (dl_b (dl_b (dl_b (dl_b dkX1_moveTo_34).2).2).2).2).1
theorem dX1_moveTo_43 : decode cX1_moveTo 43 = .ok (.if_icmp .le 24, 3) := dq_i164 (dl_b (dl_b (dl_b (dl_b (dl_b (dl_b dkX1_moveTo_34).2).2).2).2).2).1
theorem dX1_moveTo_46 : decode cX1_moveTo 46 = .ok (.aload_n 0, 1) := dq_i42 (dl_b (dl_b (dl_b (dl_b (dl_b (dl_b (dl_b dkX1_moveTo_34).2).2).2).2).2).2).1
theorem dX1_moveTo_47 : decode cX1_moveTo 47 = .ok (.aload_n 0, 1) := dq_i42 (dl_b (dl_b (dl_b (dl_b (dl_b (dl_b (dl_b (dl_b dkX1_moveTo_34).2).2).2).2).2).2).2).1
theorem dX1_moveTo_48 : decode cX1_moveTo 48 = .ok (.getfield 9, 3) := dq_i180 (dl_b (dl_b (dl_b (dl_b (dl_b (dl_b (dl_b (dl_b (dl_b dkX1_moveTo_34).2).2).2).2).2).2).2).2).1
theorem dX1_moveTo_51 : decode cX1_moveTo 51 = .ok (.iload 4, 2) := dq_i21 (dl_b (dl_b (dl_b (dl_b (dl_b (dl_b (dl_b (dl_b (dl_b dkX1_moveTo_34).2).2).2).2).2).2).2).2).2
theorem dkX1_moveTo_53 : (dq_0 cX1_moveTo 53 4 && (dq_0 cX1_moveTo 54 100 && (dq_0 cX1_moveTo 55 46 && (dq_1 cX1_moveTo 56 21 4 && (dq_2 cX1_moveTo 58 182 28 && (dq_5 cX1_moveTo 61 132 4 (-1) && (dq_4 cX1_moveTo 64 167 (-24) && (dq_0 cX1_moveTo 67 42 && (dq_0 cX1_moveTo 68 27 && (dq_0 cX1_moveTo 69 28)))))))))) = true := by decide +kernel
theorem dX1_moveTo_53 : decode cX1_moveTo 53 = .ok (.iconst 1, 1) := dq_i4 (dl_b dkX1_moveTo_53).1
theorem dX1_moveTo_54 : decode cX1_moveTo 54 = .ok (.isub, 1) := dq_i100 (dl_b (dl_b dkX1_moveTo_53).2).1
theorem dX1_moveTo_55 : decode cX1_moveTo 55 = .ok (.iaload, 1) := dq_i46 (dl_b (dl_b (dl_b dkX1_moveTo_53).2).2).1
theorem dX1_moveTo_56 : decode cX1_moveTo 56 = .ok (.iload 4, 2) := dq_i21 (dl_b (dl_b (dl_b (dl_b dkX1_moveTo_53).2).2).2).1
theorem dX1_moveTo_58 : decode cX1_moveTo 58 = .ok (.invokevirtual 28, 3) := dq_i182 (dl_b (dl_b (dl_b (dl_b (dl_b dkX1_moveTo_53).2).2).2).2).1
theorem dX1_moveTo_61 : decode cX1_moveTo 61 = .ok (.iinc 4 (-1), 3) := dq_i132 (dl_b (dl_b (dl_b (dl_b (dl_b (dl_b dkX1_moveTo_53).2).2).2).2).2).1
theorem dX1_moveTo_64 : decode cX1_moveTo 64 = .ok (.goto (-24), 3) := dq_i167 (dl_b (dl_b (dl_b (dl_b (dl_b (dl_b (dl_b dkX1_moveTo_53).2).2).2).2).2).2).1
theorem dX1_moveTo_67 : decode cX1_moveTo 67 = .ok (.aload_n 0, 1) := dq_i42 (dl_b (dl_b (dl_b (dl_b (dl_b (dl_b (dl_b (dl_b dkX1_moveTo_53).2).2).2).2).2).2).2).1
theorem dX1_moveTo_68 : decode cX1_moveTo 68 = .ok (.iload_n 1, 1) := dq_i27 (dl_b (dl_b (dl_b (dl_b (dl_b (dl_b (dl_b (dl_b (dl_b dkX1_moveTo_53).2).2).2).2).2).2).2).2).1
theorem dX1_moveTo_69 : decode cX1_moveTo 69 = .ok (.iload_n 2, 1) := dq_i28 (dl_b (dl_b (dl_b (dl_b (dl_b (dl_b (dl_b (dl_b (dl_b dkX1_moveTo_53).2).2).2).2).2).2).2).2).2
theorem dkX1_moveTo_70 : (dq_2 cX1_moveTo 70 182 28 && (dq_0 cX1_moveTo 73 29 && (dq_0 cX1_moveTo 74 172))) = true := by decide +kernel
theorem dX1_moveTo_70 : decode cX1_moveTo 70 = .ok (.invokevirtual 28, 3) := dq_i182 (dl_b dkX1_moveTo_70).1
theorem dX1_moveTo_73 : decode cX1_moveTo 73 = .ok (.iload_n 3, 1) := dq_i29 (dl_b (dl_b dkX1_moveTo_70).2).1
theorem dX1_moveTo_74 : decode cX1_moveTo 74 = .ok (.ireturn, 1) := dq_i172 (dl_b (dl_b dkX1_moveTo_70).2).2
theorem dkX1_put_0 : (dq_0 cX1_put 0 42 && (dq_2 cX1_put 1 180 9 && (dq_0 cX1_put 4 28 && (dq_0 cX1_put 5 27 && (dq_0 cX1_put 6 79 && (dq_0 cX1_put 7 42 && (dq_2 cX1_put 8 180 15 && (dq_0 cX1_put 11 27 && (dq_0 cX1_put 12 28 && (dq_0 cX1_put 13 79)))))))))) = true := by decide +kernel
theorem dX1_put_0 : decode cX1_put 0 = .ok (.aload_n 0, 1) := dq_i42 (dl_b dkX1_put_0).1
theorem dX1_put_1 : decode cX1_put 1 = .ok (.getfield 9, 3) := dq_i180 (dl_b (dl_b dkX1_put_0).2).1
theorem dX1_put_4 : decode cX1_put 4 = .ok (.iload_n 2, 1) := dq_i28 (dl_b (dl_b (dl_b dkX1_put_0).2).2).1
theorem dX1_put_5 : decode cX1_put 5 = .ok (.iload_n 1, 1) := dq_i27 (dl_b (dl_b (dl_b (dl_b dkX1_put_0).2).2).2).1
theorem dX1_put_6 : decode cX1_put 6 = .ok (.iastore, 1) := dq_i79 (dl_b (dl_b (dl_b (dl_b (dl_b dkX1_put_0).2).2).2).2).1
theorem dX1_put_7 : decode cX1_put 7 = .ok (.aload_n 0, 1) := dq_i42 (dl_b (dl_b (dl_b (dl_b (dl_b (dl_b dkX1_put_0).2).2).2).2).2).1
theorem dX1_put_8 : decode cX1_put 8 = .ok (.getfield 15, 3) := dq_i180 (dl_b (dl_b (dl_b (dl_b (dl_b (dl_b (dl_b dkX1_put_0).2).2).2).2).2).2).1
theorem dX1_put_11 : decode cX1_put 11 = .ok (.iload_n 1, 1) := dq_i27 (dl_b (dl_b (dl_b (dl_b (dl_b (dl_b (dl_b (dl_b dkX1_put_0).2).2).2).2).2).2).2).1
theorem dX1_put_12 : decode cX1_put 12 = .ok (.iload_n 2, 1) := dq_i28 (dl_b (dl_b (dl_b (dl_b (dl_b (dl_b (dl_b (dl_b (dl_b dkX1_put_0).2).2).2).2).2).2).2).2).1
theorem dX1_put_13 : decode cX1_put 13 = .ok (.iastore, 1) := dq_i79 (dl_b (dl_b (dl_b (dl_b (dl_b (dl_b (dl_b (dl_b (dl_b dkX1_put_0).2).2).2).2).2).2).2).2).2
theorem dkX1_put_14 : (dq_0 cX1_put 14 177) = true := by decide +kernel
theorem dX1_put_14 : decode cX1_put 14 = .ok (.return_, 1) := dq_i177 dkX1_put_14
theorem dkX2_init_0 : (dq_0 cX2_init 0 42 && (dq_2 cX2_init 1 183 3 && (dq_0 cX2_init 4 42 && (dq_4 cX2_init 5 17 252)))) = true := by decide +kernel
theorem dX2_init_0 : decode cX2_init 0 = .ok (.aload_n 0, 1) := dq_i42 (dl_b dkX2_init_0).1
theorem dX2_init_1 : decode cX2_init 1 = .ok (.invokespecial 3, 3) := dq_i183 (dl_b (dl_b dkX2_init_0).2).1
theorem dX2_init_4 : decode cX2_init 4 = .ok (.aload_n 0, 1) := dq_i42 (dl_b (dl_b (dl_b dkX2_init_0).2).2).1
theorem dX2_init_5 : decode cX2_init 5 = .ok (.sipush 252, 3) := dq_i17 (dl_b (dl_b (dl_b dkX2_init_0).2).2).2
theorem dX2_init_8 : decode cX2_init 8 = .ok (.newarray .int, 2) := by decide +kernel
theorem dkX2_init_10 : (dq_2 cX2_init 10 181 11 && (dq_0 cX2_init 13 42 && (dq_4 cX2_init 14 17 252))) = true := by decide +kernel
theorem dX2_init_10 : decode cX2_init 10 = .ok (.putfield 11, 3) := dq_i181 (dl_b dkX2_init_10).1
theorem dX2_init_13 : decode cX2_init 13 = .ok (.aload_n 0, 1) := dq_i42 (dl_b (dl_b dkX2_init_10).2).1
theorem dX2_init_14 : decode cX2_init 14 = .ok (.sipush 252, 3) := dq_i17 (dl_b (dl_b dkX2_init_10).2).2
theorem dX2_init_17 : decode cX2_init 17 = .ok (.newarray .int, 2) := by decide +kernel
theorem dkX2_init_19 : (dq_2 cX2_init 19 181 15 && (dq_0 cX2_init 22 42 && (dq_4 cX2_init 23 17 252))) = true := by decide +kernel
theorem dX2_init_19 : decode cX2_init 19 = .ok (.putfield 15, 3) := dq_i181 (dl_b dkX2_init_19).1
theorem dX2_init_22 : decode cX2_init 22 = .ok (.aload_n 0, 1) := dq_i42 (dl_b (dl_b dkX2_init_19).2).1
theorem dX2_init_23 : decode cX2_init 23 = .ok (.sipush 252, 3) := dq_i17 (dl_b (dl_b dkX2_init_19).2).2
theorem dX2_init_26 : decode cX2_init 26 = .ok (.newarray .int, 2) := by decide +kernel
theorem dkX2_init_28 : (dq_2 cX2_init 28 181 18 && (dq_0 cX2_init 31 42 && (dq_4 cX2_init 32 17 252))) = true := by decide +kernel
theorem dX2_init_28 : decode cX2_init 28 = .ok (.putfield 18, 3) := dq_i181 (dl_b dkX2_init_28).1
theorem dX2_init_31 : decode cX2_init 31 = .ok (.aload_n 0, 1) := dq_i42 (dl_b (dl_b dkX2_init_28).2).1
theorem dX2_init_32 : decode cX2_init 32 = .ok (.sipush 252, 3) := dq_i17 (dl_b (dl_b dkX2_init_28).2).2
theorem dX2_init_35 : decode cX2_init 35 = .ok (.newarray .int, 2) := by decide +kernel
theorem dkX2_init_37 : (dq_2 cX2_init 37 181 21 && (dq_0 cX2_init 40 42 && (dq_4 cX2_init 41 17 252))) = true := by decide +kernel
theorem dX2_init_37 : decode cX2_init 37 = .ok (.putfield 21, 3) := dq_i181 (dl_b dkX2_init_37).1
theorem dX2_init_40 : decode cX2_init 40 = .ok (.aload_n 0, 1) := dq_i42 (dl_b (dl_b dkX2_init_37).2).1
theorem dX2_init_41 : decode cX2_init 41 = .ok (.sipush 252, 3) := dq_i17 (dl_b (dl_b dkX2_init_37).2).2
theorem dX2_init_44 : decode cX2_init 44 = .ok (.newarray .int, 2) := by decide +kernel
theorem dkX2_init_46 : (dq_2 cX2_init 46 181 24 && (dq_0 cX2_init 49 42 && (dq_4 cX2_init 50 17 256))) = true := by decide +kernel
theorem dX2_init_46 : decode cX2_init 46 = .ok (.putfield 24, 3) := dq_i181 (dl_b dkX2_init_46).1
theorem dX2_init_49 : decode cX2_init 49 = .ok (.aload_n 0, 1) := dq_i42 (dl_b (dl_b dkX2_init_46).2).1
theorem dX2_init_50 : decode cX2_init 50 = .ok (.sipush 256, 3) := dq_i17 (dl_b (dl_b dkX2_init_46).2).2
theorem dX2_init_53 : decode cX2_init 53 = .ok (.newarray .int, 2) := by decide +kernel
theorem dkX2_init_55 : (dq_2 cX2_init 55 181 27 && (dq_0 cX2_init 58 42 && (dq_0 cX2_init 59 2 && (dq_2 cX2_init 60 181 30 && (dq_0 cX2_init 63 42 && (dq_0 cX2_init 64 3 && (dq_2 cX2_init 65 181 34 && (dq_0 cX2_init 68 42 && (dq_4 cX2_init 69 17 250 && (dq_2 cX2_init 72 181 37)))))))))) = true := by decide +kernel
theorem dX2_init_55 : decode cX2_init 55 = .ok (.putfield 27, 3) := dq_i181 (dl_b dkX2_init_55).1
theorem dX2_init_58 : decode cX2_init 58 = .ok (.aload_n 0, 1) := dq_i42 (dl_b (dl_b dkX2_init_55).2).1
theorem dX2_init_59 : decode cX2_init 59 = .ok (.iconst (-1), 1) := dq_i2 (dl_b (dl_b (dl_b dkX2_init_55).2).2).1
theorem dX2_init_60 : decode cX2_init 60 = .ok (.putfield 30, 3) := dq_i181 (dl_b (dl_b (dl_b (dl_b dkX2_init_55).2).2).2).1
theorem dX2_init_63 : decode cX2_init 63 = .ok (.aload_n 0, 1) := dq_i42 (dl_b (dl_b (dl_b (dl_b (dl_b dkX2_init_55).2).2).2).2).1
theorem dX2_init_64 : decode cX2_init 64 = .ok (.iconst 0, 1) := dq_i3 (dl_b (dl_b (dl_b (dl_b (dl_b (dl_b dkX2_init_55).2).2).2).2).2).1
theorem dX2_init_65 : decode cX2_init 65 = .ok (.putfield 34, 3) := dq_i181 (dl_b (dl_b (dl_b (dl_b (dl_b (dl_b (dl_b dkX2_init_55).2).2).2).2).2).2).1
theorem dX2_init_68 : decode cX2_init 68 = .ok (.aload_n 0, 1) := dq_i42 (dl_b (dl_b (dl_b (dl_b (dl_b (dl_b (dl_b (dl_b dkX2_init_55).2).2).2).2).2).2).2).1
theorem dX2_init_69 : decode cX2_init 69 = .ok (.sipush 250, 3) := dq_i17 (dl_b (dl_b (dl_b (dl_b (dl_b (dl_b (dl_b (dl_b (dl_b dkX2_init_55).2).2).2).2).2).2).2).2).1
theorem dX2_init_72 : decode cX2_init 72 = .ok (.putfield 37, 3) := dq_i181 (dl_b (dl_b (dl_b (dl_b (dl_b (dl_b (dl_b (dl_b (dl_b dkX2_init_55).2).2).2).2).2).2).2).2).2
theorem dkX2_init_75 : (dq_0 cX2_init 75 42 && (dq_2 cX2_init 76 180 11 && (dq_0 cX2_init 79 3 && (dq_3 cX2_init 80 16 8 && (dq_0 cX2_init 82 79 && (dq_0 cX2_init 83 42 && (dq_2 cX2_init 84 180 11 && (dq_0 cX2_init 87 4 && (dq_3 cX2_init 88 16 8 && (dq_0 cX2_init 90 79)))))))))) = true := by decide +kernel
theorem dX2_init_75 : decode cX2_init 75 = .ok (.aload_n 0, 1) := dq_i42 (dl_b dkX2_init_75).1
theorem dX2_init_76 : decode cX2_init 76 = .ok (.getfield 11, 3) := dq_i180 (dl_b (dl_b dkX2_init_75).2).1
theorem dX2_init_79 : decode cX2_init 79 = .ok (.iconst 0, 1) := dq_i3 (dl_b (dl_b (dl_b dkX2_init_75).2).2).1
theorem dX2_init_80 : decode cX2_init 80 = .ok (.bipush 8, 2) := dq_i16 (dl_b (dl_b (dl_b (dl_b dkX2_init_75).2).2).2).1
theorem dX2_init_82 : decode cX2_init 82 = .ok (.iastore, 1) := dq_i79 (dl_b (dl_b (dl_b (dl_b (dl_b dkX2_init_75).2).2).2).2).1
theorem dX2_init_83 : decode cX2_init 83 = .ok (.aload_n 0, 1) := dq_i42 (dl_b (dl_b (dl_b (dl_b (dl_b (dl_b dkX2_init_75).2).2).2).2).2).1
theorem dX2_init_84 : decode cX2_init 84 = .ok (.getfield 11, 3) := dq_i180 (dl_b (dl_b (dl_b (dl_b (dl_b (dl_b (dl_b dkX2_init_75).2).2).2).2).2).2).1
theorem dX2_init_87 : decode cX2_init 87 = .ok (.iconst 1, 1) := dq_i4 (dl_b (dl_b (dl_b (dl_b (dl_b (dl_b (dl_b (dl_b dkX2_init_75).2).2).2).2).2).2).2).1
theorem dX2_init_88 : decode cX2_init 88 = .ok (.bipush 8, 2) := dq_i16 (dl_b (dl_b (dl_b (dl_b (dl_b (dl_b (dl_b (dl_b (dl_b dkX2_init_75).2).2).2).2).2).2).2).2).1
theorem dX2_init_90 : decode cX2_init 90 = .ok (.iastore, 1) := dq_i79 (dl_b (dl_b (dl_b (dl_b (dl_b (dl_b (dl_b (dl_b (dl_b dkX2_init_75).2).2).2).2).2).2).2).2).2
theorem dkX2_init_91 : (dq_0 cX2_init 91 42 && (dq_2 cX2_init 92 182 40 && (dq_0 cX2_init 95 177))) = true := by decide +kernel
theorem dX2_init_91 : decode cX2_init 91 = .ok (.aload_n 0, 1) := dq_i42 (dl_b dkX2_init_91).1
theorem dX2_init_92 : decode cX2_init 92 = .ok (.invokevirtual 40, 3) := dq_i182 (dl_b (dl_b dkX2_init_91).2).1
theorem dX2_init_95 : decode cX2_init 95 = .ok (.return_, 1) := dq_i177 (dl_b (dl_b dkX2_init_91).2).2
theorem dkX2_limit_0 : (dq_0 cX2_limit 0 42 && (dq_2 cX2_limit 1 180 37 && (dq_0 cX2_limit 4 172))) = true := by decide +kernel
theorem dX2_limit_0 : decode cX2_limit 0 = .ok (.aload_n 0, 1) := dq_i42 (dl_b dkX2_limit_0).1
theorem dX2_limit_1 : decode cX2_limit 1 = .ok (.getfield 37, 3) := dq_i180 (dl_b (dl_b dkX2_limit_0).2).1
theorem dX2_limit_4 : decode cX2_limit 4 = .ok (.ireturn, 1) := dq_i172 (dl_b (dl_b dkX2_limit_0).2).2
theorem dkX2_changeLimit_0 : (dq_0 cX2_changeLimit 0 42 && (dq_2 cX2_changeLimit 1 180 37 && (dq_0 cX2_changeLimit 4 61 && (dq_0 cX2_changeLimit 5 42 && (dq_0 cX2_changeLimit 6 27 && (dq_2 cX2_changeLimit 7 181 37 && (dq_0 cX2_changeLimit 10 28 && (dq_0 cX2_changeLimit 11 172)))))))) = true := by decide +kernel
theorem dX2_changeLimit_0 : decode cX2_changeLimit 0 = .ok (.aload_n 0, 1) := dq_i42 (dl_b dkX2_changeLimit_0).1
theorem dX2_changeLimit_1 : decode cX2_changeLimit 1 = .ok (.getfield 37, 3) := dq_i180 (dl_b (dl_b dkX2_changeLimit_0).2).1
theorem dX2_changeLimit_4 : decode cX2_changeLimit 4 = .ok (.istore_n 2, 1) := dq_i61 (dl_b (dl_b (dl_b dkX2_changeLimit_0).2).2).1
theorem dX2_changeLimit_5 : decode cX2_changeLimit 5 = .ok (.aload_n 0, 1) := dq_i42 (dl_b (dl_b (dl_b (dl_b dkX2_changeLimit_0).2).2).2).1
theorem dX2_changeLimit_6 : decode cX2_changeLimit 6 = .ok (.iload_n 1, 1) := dq_i27 (dl_b (dl_b (dl_b (dl_b (dl_b dkX2_changeLimit_0).2).2).2).2).1
theorem dX2_changeLimit_7 : decode cX2_changeLimit 7 = .ok (.putfield 37, 3) := dq_i181 (dl_b (dl_b (dl_b (dl_b (dl_b (dl_b dkX2_changeLimit_0).2).2).2).2).2).1
theorem dX2_changeLimit_10 : decode cX2_changeLimit 10 = .ok (.iload_n 2, 1) := dq_i28 (dl_b (dl_b (dl_b (dl_b (dl_b (dl_b (dl_b dkX2_changeLimit_0).2).2).2).2).2).2).1
theorem dX2_changeLimit_11 : decode cX2_changeLimit 11 = .ok (.ireturn, 1) := dq_i172 (dl_b (dl_b (dl_b (dl_b (dl_b (dl_b (dl_b dkX2_changeLimit_0).2).2).2).2).2).2).2
theorem dkX2_usedCount_0 : (dq_0 cX2_usedCount 0 42 && (dq_2 cX2_usedCount 1 180 34 && (dq_0 cX2_usedCount 4 172))) = true := by decide +kernel
theorem dX2_usedCount_0 : decode cX2_usedCount 0 = .ok (.aload_n 0, 1) := dq_i42 (dl_b dkX2_usedCount_0).1
theorem dX2_usedCount_1 : decode cX2_usedCount 1 = .ok (.getfield 34, 3) := dq_i180 (dl_b (dl_b dkX2_usedCount_0).2).1
theorem dX2_usedCount_4 : decode cX2_usedCount 4 = .ok (.ireturn, 1) := dq_i172 (dl_b (dl_b dkX2_usedCount_0).2).2
theorem dkX2_placeOf_0 : (dq_0 cX2_placeOf 0 42 && (dq_2 cX2_placeOf 1 180 11 && (dq_0 cX2_placeOf 4 27 && (dq_0 cX2_placeOf 5 46 && (dq_0 cX2_placeOf 6 172))))) = true := by decide +kernel
theorem dX2_placeOf_0 : decode cX2_placeOf 0 = .ok (.aload_n 0, 1) := dq_i42 (dl_b dkX2_placeOf_0).1
theorem dX2_placeOf_1 : decode cX2_placeOf 1 = .ok (.getfield 11, 3) := dq_i180 (dl_b (dl_b dkX2_placeOf_0).2).1
theorem dX2_placeOf_4 : decode cX2_placeOf 4 = .ok (.iload_n 1, 1) := dq_i27 (dl_b (dl_b (dl_b dkX2_placeOf_0).2).2).1
theorem dX2_placeOf_5 : decode cX2_placeOf 5 = .ok (.iaload, 1) := dq_i46 (dl_b (dl_b (dl_b (dl_b dkX2_placeOf_0).2).2).2).1
theorem dX2_placeOf_6 : decode cX2_placeOf 6 = .ok (.ireturn, 1) := dq_i172 (dl_b (dl_b (dl_b (dl_b dkX2_placeOf_0).2).2).2).2
theorem dkX2_unmark_0 : (dq_0 cX2_unmark 0 42 && (dq_2 cX2_unmark 1 180 21 && (dq_0 cX2_unmark 4 3 && (dq_2 cX2_unmark 5 184 43 && (dq_0 cX2_unmark 8 177))))) = true := by decide +kernel
theorem dX2_unmark_0 : decode cX2_unmark 0 = .ok (.aload_n 0, 1) := dq_i42 (dl_b dkX2_unmark_0).1
theorem dX2_unmark_1 : decode cX2_unmark 1 = .ok (.getfield 21, 3) := dq_i180 (dl_b (dl_b dkX2_unmark_0).2).1
theorem dX2_unmark_4 : decode cX2_unmark 4 = .ok (.iconst 0, 1) := dq_i3 (dl_b (dl_b (dl_b dkX2_unmark_0).2).2).1
theorem dX2_unmark_5 : decode cX2_unmark 5 = .ok (.invokestatic 43, 3) := dq_i184 (dl_b (dl_b (dl_b (dl_b dkX2_unmark_0).2).2).2).1
theorem dX2_unmark_8 : decode cX2_unmark 8 = .ok (.return_, 1) := dq_i177 (dl_b (dl_b (dl_b (dl_b dkX2_unmark_0).2).2).2).2
theorem dkX2_mark_0 : (dq_0 cX2_mark 0 42 && (dq_0 cX2_mark 1 4 && (dq_0 cX2_mark 2 27 && (dq_0 cX2_mark 3 3 && (dq_2 cX2_mark 4 182 49 && (dq_0 cX2_mark 7 177)))))) = true := by decide +kernel
theorem dX2_mark_0 : decode cX2_mark 0 = .ok (.aload_n 0, 1) := dq_i42 (dl_b dkX2_mark_0).1
theorem dX2_mark_1 : decode cX2_mark 1 = .ok (.iconst 1, 1) := dq_i4 (dl_b (dl_b dkX2_mark_0).2).1
theorem dX2_mark_2 : decode cX2_mark 2 = .ok (.iload_n 1, 1) := dq_i27 (dl_b (dl_b (dl_b dkX2_mark_0).2).2).1
theorem dX2_mark_3 : decode cX2_mark 3 = .ok (.iconst 0, 1) := dq_i3 (dl_b (dl_b (dl_b (dl_b dkX2_mark_0).2).2).2).1
theorem dX2_mark_4 : decode cX2_mark 4 = .ok (.invokevirtual 49, 3) := dq_i182 (dl_b (dl_b (dl_b (dl_b (dl_b dkX2_mark_0).2).2).2).2).1
theorem dX2_mark_7 : decode cX2_mark 7 = .ok (.return_, 1) := dq_i177 (dl_b (dl_b (dl_b (dl_b (dl_b dkX2_mark_0).2).2).2).2).2
theorem dkX2_markWith_0 : (dq_0 cX2_markWith 0 28 && (dq_0 cX2_markWith 1 5 && (dq_4 cX2_markWith 2 161 20 && (dq_0 cX2_markWith 5 29 && (dq_3 cX2_markWith 6 16 8 && (dq_4 cX2_markWith 8 162 14 && (dq_0 cX2_markWith 11 42 && (dq_2 cX2_markWith 12 180 21 && (dq_0 cX2_markWith 15 28 && (dq_0 cX2_markWith 16 46)))))))))) = true := by decide +kernel
theorem dX2_markWith_0 : decode cX2_markWith 0 = .ok (.iload_n 2, 1) := dq_i28 (dl_b dkX2_markWith_0).1
theorem dX2_markWith_1 : decode cX2_markWith 1 = .ok (.iconst 2, 1) := dq_i5 (dl_b (dl_b dkX2_markWith_0).2).1
theorem dX2_markWith_2 : decode cX2_markWith 2 = .ok (.if_icmp .lt 20, 3) := dq_i161 (dl_b (dl_b (dl_b dkX2_markWith_0).2).2).1
theorem dX2_markWith_5 : decode cX2_markWith 5 = .ok (.iload_n 3, 1) := dq_i29 (dl_b (dl_b (dl_b (dl_b dkX2_markWith_0).2).2).2).1
theorem dX2_markWith_6 : decode cX2_markWith 6 = .ok (.bipush 8, 2) := dq_i16 (dl_b (dl_b (dl_b (dl_b (dl_b dkX2_markWith_0).2).2).2).2).1
theorem dX2_markWith_8 : decode cX2_markWith 8 = .ok (.if_icmp .ge 14, 3) := dq_i162 (dl_b (dl_b (dl_b (dl_b (dl_b (dl_b dkX2_markWith_0).2).2).2).2).2).1
theorem dX2_markWith_11 : decode cX2_markWith 11 = .ok (.aload_n 0, 1) := dq_i42 (dl_b (dl_b (dl_b (dl_b (dl_b (dl_b (dl_b dkX2_markWith_0).2).2).2).2).2).2).1
theorem dX2_markWith_12 : decode cX2_markWith 12 = .ok (.getfield 21, 3) := dq_i180 (dl_b (dl_b (dl_b (dl_b (dl_b (dl_b (dl_b (dl_b dkX2_markWith_0).2).2).2).2).2).2).2).1
theorem dX2_markWith_15 : decode cX2_markWith 15 = .ok (.iload_n 2, 1) := dq_i28 (dl_b (dl_b (dl_b (dl_b (dl_b (dl_b (dl_b (dl_b (dl_b dkX2_markWith_0).2).2).2).2).2).2).2).2).1
theorem dX2_markWith_16 : decode cX2_markWith 16 = .ok (.iaload, 1) := dq_i46 (dl_b (dl_b (dl_b (dl_b (dl_b (dl_b (dl_b (dl_b (dl_b dkX2_markWith_0).2).2).2).2).2).2).2).2).2
theorem dkX2_markWith_17 : (dq_0 cX2_markWith 17 27 && (dq_0 cX2_markWith 18 126 && (dq_4 cX2_markWith 19 153 4 && (dq_0 cX2_markWith 22 177 && (dq_0 cX2_markWith 23 42 && (dq_2 cX2_markWith 24 180 21 && (dq_0 cX2_markWith 27 28 && (dq_0 cX2_markWith 28 92 && (dq_0 cX2_markWith 29 46 && (dq_0 cX2_markWith 30 27)))))))))) = true := by decide +kernel
theorem dX2_markWith_17 : decode cX2_markWith 17 = .ok (.iload_n 1, 1) := dq_i27 (dl_b dkX2_markWith_17).1
theorem dX2_markWith_18 : decode cX2_markWith 18 = .ok (.iand, 1) := dq_i126 (dl_b (dl_b dkX2_markWith_17).2).1
theorem dX2_markWith_19 : decode cX2_markWith 19 = .ok (.ifCond .eq 4, 3) := dq_i153 (dl_b (dl_b (dl_b dkX2_markWith_17).2).2).1
theorem dX2_markWith_22 : decode cX2_markWith 22 = .ok (.return_, 1) := dq_i177 (dl_b (dl_b (dl_b (dl_b dkX2_markWith_17).2).2).2).1
theorem dX2_markWith_23 : decode cX2_markWith 23 = .ok (.aload_n 0, 1) := dq_i42 (dl_b (dl_b (dl_b (dl_b (dl_b dkX2_markWith_17).2).2).2).2).1
theorem dX2_markWith_24 : decode cX2_markWith 24 = .ok (.getfield 21, 3) := dq_i180 (dl_b (dl_b (dl_b (dl_b (dl_b (dl_b dkX2_markWith_17).2).2).2).2).2).1
theorem dX2_markWith_27 : decode cX2_markWith 27 = .ok (.iload_n 2, 1) := dq_i28 (dl_b (dl_b (dl_b (dl_b (dl_b (dl_b (dl_b dkX2_markWith_17).2).2).2).2).2).2).1
theorem dX2_markWith_28 : decode cX2_markWith 28 = .ok (.dup2, 1) := dq_i92 (dl_b (dl_b (dl_b (dl_b (dl_b (dl_b (dl_b (dl_b dkX2_markWith_17).2).2).2).2).2).2).2).1
theorem dX2_markWith_29 : decode cX2_markWith 29 = .ok (.iaload, 1) := dq_i46 (dl_b (dl_b (dl_b (dl_b (dl_b (dl_b (dl_b (dl_b (dl_b dkX2_markWith_17).2).2).2).2).2).2).2).2).1
theorem dX2_markWith_30 : decode cX2_markWith 30 = .ok (.iload_n 1, 1) := dq_i27 (dl_b (dl_b (dl_b (dl_b (dl_b (dl_b (dl_b (dl_b (dl_b dkX2_markWith_17).2).2).2).2).2).2).2).2).2
theorem dkX2_markWith_31 : (dq_0 cX2_markWith 31 128 && (dq_0 cX2_markWith 32 79 && (dq_0 cX2_markWith 33 42 && (dq_0 cX2_markWith 34 27 && (dq_0 cX2_markWith 35 42 && (dq_2 cX2_markWith 36 180 15 && (dq_0 cX2_markWith 39 28 && (dq_0 cX2_markWith 40 46 && (dq_0 cX2_markWith 41 29 && (dq_0 cX2_markWith 42 4)))))))))) = true := by decide +kernel
theorem dX2_markWith_31 : decode cX2_markWith 31 = .ok (.ior, 1) := dq_i128 (dl_b dkX2_markWith_31).1
theorem dX2_markWith_32 : decode cX2_markWith 32 = .ok (.iastore, 1) := dq_i79 (dl_b (dl_b dkX2_markWith_31).2).1
theorem dX2_markWith_33 : decode cX2_markWith 33 = .ok (.aload_n 0, 1) := dq_i42 (dl_b (dl_b (dl_b dkX2_markWith_31).2).2).1
theorem dX2_markWith_34 : decode cX2_markWith 34 = .ok (.iload_n 1, 1) := dq_i27 (dl_b (dl_b (dl_b (dl_b dkX2_markWith_31).2).2).2).1
theorem dX2_markWith_35 : decode cX2_markWith 35 = .ok (.aload_n 0, 1) := dq_i42 (dl_b (dl_b (dl_b (dl_b (dl_b dkX2_markWith_31).2).2).2).2).1
theorem dX2_markWith_36 : decode cX2_markWith 36 = .ok (.getfield 15, 3) := dq_i180 (dl_b (dl_b (dl_b (dl_b (dl_b (dl_b dkX2_markWith_31).2).2).2).2).2).1
theorem dX2_markWith_39 : decode cX2_markWith 39 = .ok (.iload_n 2, 1) := dq_i28 (dl_b (dl_b (dl_b (dl_b (dl_b (dl_b (dl_b dkX2_markWith_31).2).2).2).2).2).2).1
theorem dX2_markWith_40 : decode cX2_markWith 40 = .ok (.iaload, 1) := dq_i46 (dl_b (dl_b (dl_b (dl_b (dl_b (dl_b (dl_b (dl_b dkX2_markWith_31).2).2).2).2).2).2).2).1
theorem dX2_markWith_41 : decode cX2_markWith 41 = .ok (.iload_n 3, 1) := dq_i29 (dl_b (dl_b (dl_b (dl_b (dl_b (dl_b (dl_b (dl_b (dl_b dkX2_markWith_31).2).2).2).2).2).2).2).2).1
theorem dX2_markWith_42 : decode cX2_markWith 42 = .ok (.iconst 1, 1) := dq_i4 (dl_b (dl_b (dl_b (dl_b (dl_b (dl_b (dl_b (dl_b (dl_b dkX2_markWith_31).2).2).2).2).2).2).2).2).2
theorem dkX2_markWith_43 : (dq_0 cX2_markWith 43 96 && (dq_2 cX2_markWith 44 182 49 && (dq_0 cX2_markWith 47 42 && (dq_0 cX2_markWith 48 27 && (dq_0 cX2_markWith 49 42 && (dq_2 cX2_markWith 50 180 18 && (dq_0 cX2_markWith 53 28 && (dq_0 cX2_markWith 54 46 && (dq_0 cX2_markWith 55 29 && (dq_0 cX2_markWith 56 4)))))))))) = true := by decide +kernel
theorem dX2_markWith_43 : decode cX2_markWith 43 = .ok (.iadd, 1) := dq_i96 (dl_b dkX2_markWith_43).1
theorem dX2_markWith_44 : decode cX2_markWith 44 = .ok (.invokevirtual 49, 3) := dq_i182 (dl_b (dl_b dkX2_markWith_43).2).1
theorem dX2_markWith_47 : decode cX2_markWith 47 = .ok (.aload_n 0, 1) := dq_i42 (dl_b (dl_b (dl_b dkX2_markWith_43).2).2).1
theorem dX2_markWith_48 : decode cX2_markWith 48 = .ok (.iload_n 1, 1) := dq_i27 (dl_b (dl_b (dl_b (dl_b dkX2_markWith_43).2).2).2).1
theorem dX2_markWith_49 : decode cX2_markWith 49 = .ok (.aload_n 0, 1) := dq_i42 (dl_b (dl_b (dl_b (dl_b (dl_b dkX2_markWith_43).2).2).2).2).1
theorem dX2_markWith_50 : decode cX2_markWith 50 = .ok (.getfield 18, 3) := dq_i180 (dl_b (dl_b (dl_b (dl_b (dl_b (dl_b dkX2_markWith_43).2).2).2).2).2).1
theorem dX2_markWith_53 : decode cX2_markWith 53 = .ok (.iload_n 2, 1) := dq_i28 (dl_b (dl_b (dl_b (dl_b (dl_b (dl_b (dl_b dkX2_markWith_43).2).2).2).2).2).2).1
theorem dX2_markWith_54 : decode cX2_markWith 54 = .ok (.iaload, 1) := dq_i46 (dl_b (dl_b (dl_b (dl_b (dl_b (dl_b (dl_b (dl_b dkX2_markWith_43).2).2).2).2).2).2).2).1
theorem dX2_markWith_55 : decode cX2_markWith 55 = .ok (.iload_n 3, 1) := dq_i29 (dl_b (dl_b (dl_b (dl_b (dl_b (dl_b (dl_b (dl_b (dl_b dkX2_markWith_43).2).2).2).2).2).2).2).2).1
theorem dX2_markWith_56 : decode cX2_markWith 56 = .ok (.iconst 1, 1) := dq_i4 (dl_b (dl_b (dl_b (dl_b (dl_b (dl_b (dl_b (dl_b (dl_b dkX2_markWith_43).2).2).2).2).2).2).2).2).2
theorem dkX2_markWith_57 : (dq_0 cX2_markWith 57 96 && (dq_2 cX2_markWith 58 182 49 && (dq_0 cX2_markWith 61 177))) = true := by decide +kernel
theorem dX2_markWith_57 : decode cX2_markWith 57 = .ok (.iadd, 1) := dq_i96 (dl_b dkX2_markWith_57).1
theorem dX2_markWith_58 : decode cX2_markWith 58 = .ok (.invokevirtual 49, 3) := dq_i182 (dl_b (dl_b dkX2_markWith_57).2).1
theorem dX2_markWith_61 : decode cX2_markWith 61 = .ok (.return_, 1) := dq_i177 (dl_b (dl_b dkX2_markWith_57).2).2
theorem dkX2_markedWith_0 : (dq_0 cX2_markedWith 0 3 && (dq_0 cX2_markedWith 1 61 && (dq_0 cX2_markedWith 2 5 && (dq_0 cX2_markedWith 3 62 && (dq_0 cX2_markedWith 4 29 && (dq_4 cX2_markedWith 5 17 252 && (dq_4 cX2_markedWith 8 162 22 && (dq_0 cX2_markedWith 11 42 && (dq_2 cX2_markedWith 12 180 21 && (dq_0 cX2_markedWith 15 29)))))))))) = true := by decide +kernel
theorem dX2_markedWith_0 : decode cX2_markedWith 0 = .ok (.iconst 0, 1) := dq_i3 (dl_b dkX2_markedWith_0).1
theorem dX2_markedWith_1 : decode cX2_markedWith 1 = .ok (.istore_n 2, 1) := dq_i61 (dl_b (dl_b dkX2_markedWith_0).2).1
theorem dX2_markedWith_2 : decode cX2_markedWith 2 = .ok (.iconst 2, 1) := dq_i5 (dl_b (dl_b (dl_b dkX2_markedWith_0).2).2).1
theorem dX2_markedWith_3 : decode cX2_markedWith 3 = .ok (.istore_n 3, 1) := dq_i62 (dl_b (dl_b (dl_b (dl_b dkX2_markedWith_0).2).2).2).1
theorem dX2_markedWith_4 : decode cX2_markedWith 4 = .ok (.iload_n 3, 1) := dq_i29 (dl_b (dl_b (dl_b (dl_b (dl_b dkX2_markedWith_0).2).2).2).2).1
theorem dX2_markedWith_5 : decode cX2_markedWith 5 = .ok (.sipush 252, 3) := dq_i17 (dl_b (dl_b (dl_b (dl_b (dl_b (dl_b dkX2_markedWith_0).2).2).2).2).2).1
theorem dX2_markedWith_8 : decode cX2_markedWith 8 = .ok (.if_icmp .ge 22, 3) := dq_i162 (dl_b (dl_b (dl_b (dl_b (dl_b (dl_b (dl_b dkX2_markedWith_0).2).2).2).2).2).2).1
theorem dX2_markedWith_11 : decode cX2_markedWith 11 = .ok (.aload_n 0, 1) := dq_i42 (dl_b (dl_b (dl_b (dl_b (dl_b (dl_b (dl_b (dl_b dkX2_markedWith_0).2).2).2).2).2).2).2).1
theorem dX2_markedWith_12 : decode cX2_markedWith 12 = .ok (.getfield 21, 3) := dq_i180 (dl_b (dl_b (dl_b (dl_b (dl_b (dl_b (dl_b (dl_b (dl_b dkX2_markedWith_0).2).2).2).2).2).2).2).2).1
theorem dX2_markedWith_15 : decode cX2_markedWith 15 = .ok (.iload_n 3, 1) := dq_i29 (dl_b (dl_b (dl_b (dl_b (dl_b (dl_b (dl_b (dl_b (dl_b dkX2_markedWith_0).2).2).2).2).2).2).2).2).2
theorem dkX2_markedWith_16 : (dq_0 cX2_markedWith 16 46 && (dq_0 cX2_markedWith 17 27 && (dq_4 cX2_markedWith 18 160 6 && (dq_5 cX2_markedWith 21 132 2 1 && (dq_5 cX2_markedWith 24 132 3 1 && (dq_4 cX2_markedWith 27 167 (-23) && (dq_0 cX2_markedWith 30 28 && (dq_0 cX2_markedWith 31 172)))))))) = true := by decide +kernel
theorem dX2_markedWith_16 : decode cX2_markedWith 16 = .ok (.iaload, 1) := dq_i46 (dl_b dkX2_markedWith_16).1
theorem dX2_markedWith_17 : decode cX2_markedWith 17 = .ok (.iload_n 1, 1) := dq_i27 (dl_b (dl_b dkX2_markedWith_16).2).1
theorem dX2_markedWith_18 : decode cX2_markedWith 18 = .ok (.if_icmp .ne 6, 3) := dq_i160 (dl_b (dl_b (dl_b dkX2_markedWith_16).2).2).1
theorem dX2_markedWith_21 : decode cX2_markedWith 21 = .ok (.iinc 2 1, 3) := dq_i132 (dl_b (dl_b (dl_b (dl_b dkX2_markedWith_16).2).2).2).1
theorem dX2_markedWith_24 : decode cX2_markedWith 24 = .ok (.iinc 3 1, 3) := dq_i132 (dl_b (dl_b (dl_b (dl_b (dl_b dkX2_markedWith_16).2).2).2).2).1
theorem dX2_markedWith_27 : decode cX2_markedWith 27 = .ok (.goto (-23), 3) := dq_i167 (dl_b (dl_b (dl_b (dl_b (dl_b (dl_b dkX2_markedWith_16).2).2).2).2).2).1
theorem dX2_markedWith_30 : decode cX2_markedWith 30 = .ok (.iload_n 2, 1) := dq_i28 (dl_b (dl_b (dl_b (dl_b (dl_b (dl_b (dl_b dkX2_markedWith_16).2).2).2).2).2).2).1
theorem dX2_markedWith_31 : decode cX2_markedWith 31 = .ok (.ireturn, 1) := dq_i172 (dl_b (dl_b (dl_b (dl_b (dl_b (dl_b (dl_b dkX2_markedWith_16).2).2).2).2).2).2).2
theorem dkX2_nodeCount_0 : (dq_0 cX2_nodeCount 0 42 && (dq_2 cX2_nodeCount 1 182 53 && (dq_0 cX2_nodeCount 4 42 && (dq_0 cX2_nodeCount 5 27 && (dq_2 cX2_nodeCount 6 182 56 && (dq_0 cX2_nodeCount 9 42 && (dq_0 cX2_nodeCount 10 4 && (dq_2 cX2_nodeCount 11 182 60 && (dq_0 cX2_nodeCount 14 172))))))))) = true := by decide +kernel
theorem dX2_nodeCount_0 : decode cX2_nodeCount 0 = .ok (.aload_n 0, 1) := dq_i42 (dl_b dkX2_nodeCount_0).1
theorem dX2_nodeCount_1 : decode cX2_nodeCount 1 = .ok (.invokevirtual 53, 3) := dq_i182 (dl_b (dl_b dkX2_nodeCount_0).2).1
theorem dX2_nodeCount_4 : decode cX2_nodeCount 4 = .ok (.aload_n 0, 1) := dq_i42 (dl_b (dl_b (dl_b dkX2_nodeCount_0).2).2).1
theorem dX2_nodeCount_5 : decode cX2_nodeCount 5 = .ok (.iload_n 1, 1) := dq_i27 (dl_b (dl_b (dl_b (dl_b dkX2_nodeCount_0).2).2).2).1
theorem dX2_nodeCount_6 : decode cX2_nodeCount 6 = .ok (.invokevirtual 56, 3) := dq_i182 (dl_b (dl_b (dl_b (dl_b (dl_b dkX2_nodeCount_0).2).2).2).2).1
theorem dX2_nodeCount_9 : decode cX2_nodeCount 9 = .ok (.aload_n 0, 1) := dq_i42 (dl_b (dl_b (dl_b (dl_b (dl_b (dl_b dkX2_nodeCount_0).2).2).2).2).2).1
theorem dX2_nodeCount_10 : decode cX2_nodeCount 10 = .ok (.iconst 1, 1) := dq_i4 (dl_b (dl_b (dl_b (dl_b (dl_b (dl_b (dl_b dkX2_nodeCount_0).2).2).2).2).2).2).1
theorem dX2_nodeCount_11 : decode cX2_nodeCount 11 = .ok (.invokevirtual 60, 3) := dq_i182 (dl_b (dl_b (dl_b (dl_b (dl_b (dl_b (dl_b (dl_b dkX2_nodeCount_0).2).2).2).2).2).2).2).1
theorem dX2_nodeCount_14 : decode cX2_nodeCount 14 = .ok (.ireturn, 1) := dq_i172 (dl_b (dl_b (dl_b (dl_b (dl_b (dl_b (dl_b (dl_b dkX2_nodeCount_0).2).2).2).2).2).2).2).2
theorem dkX2_nodeCountAt_0 : (dq_0 cX2_nodeCountAt 0 42 && (dq_2 cX2_nodeCountAt 1 182 53 && (dq_0 cX2_nodeCountAt 4 42 && (dq_0 cX2_nodeCountAt 5 27 && (dq_2 cX2_nodeCountAt 6 182 56 && (dq_0 cX2_nodeCountAt 9 3 && (dq_0 cX2_nodeCountAt 10 62 && (dq_0 cX2_nodeCountAt 11 5 && (dq_1 cX2_nodeCountAt 12 54 4 && (dq_1 cX2_nodeCountAt 14 21 4)))))))))) = true := by decide +kernel
theorem dX2_nodeCountAt_0 : decode cX2_nodeCountAt 0 = .ok (.aload_n 0, 1) := dq_i42 (dl_b dkX2_nodeCountAt_0).1
theorem dX2_nodeCountAt_1 : decode cX2_nodeCountAt 1 = .ok (.invokevirtual 53, 3) := dq_i182 (dl_b (dl_b dkX2_nodeCountAt_0).2).1
theorem dX2_nodeCountAt_4 : decode cX2_nodeCountAt 4 = .ok (.aload_n 0, 1) := dq_i42 (dl_b (dl_b (dl_b dkX2_nodeCountAt_0).2).2).1
theorem dX2_nodeCountAt_5 : decode cX2_nodeCountAt 5 = .ok (.iload_n 1, 1) := dq_i27 (dl_b (dl_b (dl_b (dl_b dkX2_nodeCountAt_0).2).2).2).1
theorem dX2_nodeCountAt_6 : decode cX2_nodeCountAt 6 = .ok (.invokevirtual 56, 3) := dq_i182 (dl_b (dl_b (dl_b (dl_b (dl_b dkX2_nodeCountAt_0).2).2).2).2).1
theorem dX2_nodeCountAt_9 : decode cX2_nodeCountAt 9 = .ok (.iconst 0, 1) := dq_i3 (dl_b (dl_b (dl_b (dl_b (dl_b (dl_b dkX2_nodeCountAt_0).2).2).2).2).2).1
theorem dX2_nodeCountAt_10 : decode cX2_nodeCountAt 10 = .ok (.istore_n 3, 1) := dq_i62 (dl_b (dl_b (dl_b (dl_b (dl_b (dl_b (dl_b dkX2_nodeCountAt_0).2).2).2).2).2).2).1
theorem dX2_nodeCountAt_11 : decode cX2_nodeCountAt 11 = .ok (.iconst 2, 1) := dq_i5 (dl_b (dl_b (dl_b (dl_b (dl_b (dl_b (dl_b (dl_b dkX2_nodeCountAt_0).2).2).2).2).2).2).2).1
theorem dX2_nodeCountAt_12 : decode cX2_nodeCountAt 12 = .ok (.istore 4, 2) := dq_i54 (dl_b (dl_b (dl_b (dl_b (dl_b (dl_b (dl_b (dl_b (dl_b dkX2_nodeCountAt_0).2).2).2).2).2).2).2).2).1
theorem dX2_nodeCountAt_14 : decode cX2_nodeCountAt 14 = .ok (.iload 4, 2) := dq_i21 (dl_b (dl_b (dl_b (dl_b (dl_b (dl_b (dl_b (dl_b (dl_b dkX2_nodeCountAt_0).2).2).2).2).2).2).2).2).2
theorem dkX2_nodeCountAt_16 : (dq_4 cX2_nodeCountAt 16 17 252 && (dq_4 cX2_nodeCountAt 19 162 33 && (dq_0 cX2_nodeCountAt 22 42 && (dq_2 cX2_nodeCountAt 23 180 21 && (dq_1 cX2_nodeCountAt 26 21 4 && (dq_0 cX2_nodeCountAt 28 46 && (dq_4 cX2_nodeCountAt 29 153 17 && (dq_0 cX2_nodeCountAt 32 42 && (dq_2 cX2_nodeCountAt 33 180 11 && (dq_1 cX2_nodeCountAt 36 21 4)))))))))) = true := by decide +kernel
theorem dX2_nodeCountAt_16 : decode cX2_nodeCountAt 16 = .ok (.sipush 252, 3) := dq_i17 (dl_b dkX2_nodeCountAt_16).1
theorem dX2_nodeCountAt_19 : decode cX2_nodeCountAt 19 = .ok (.if_icmp .ge 33, 3) := dq_i162 (dl_b (dl_b dkX2_nodeCountAt_16).2).1
theorem dX2_nodeCountAt_22 : decode cX2_nodeCountAt 22 = .ok (.aload_n 0, 1) := dq_i42 (dl_b (dl_b (dl_b dkX2_nodeCountAt_16).2).2).1
theorem dX2_nodeCountAt_23 : decode cX2_nodeCountAt 23 = .ok (.getfield 21, 3) := dq_i180 (dl_b (dl_b (dl_b (dl_b dkX2_nodeCountAt_16).2).2).2).1
theorem dX2_nodeCountAt_26 : decode cX2_nodeCountAt 26 = .ok (.iload 4, 2) := dq_i21 (dl_b (dl_b (dl_b (dl_b (dl_b dkX2_nodeCountAt_16).2).2).2).2).1
theorem dX2_nodeCountAt_28 : decode cX2_nodeCountAt 28 = .ok (.iaload, 1) := dq_i46 (dl_b (dl_b (dl_b (dl_b (dl_b (dl_b dkX2_nodeCountAt_16).2).2).2).2).2).1
theorem dX2_nodeCountAt_29 : decode cX2_nodeCountAt 29 = .ok (.ifCond .eq 17, 3) := dq_i153 (dl_b (dl_b (dl_b (dl_b (dl_b (dl_b (dl_b dkX2_nodeCountAt_16).2).2).2).2).2).2).1
theorem dX2_nodeCountAt_32 : decode cX2_nodeCountAt 32 = .ok (.aload_n 0, 1) := dq_i42 (dl_b (dl_b (dl_b (dl_b (dl_b (dl_b (dl_b (dl_b dkX2_nodeCountAt_16).2).2).2).2).2).2).2).1
theorem dX2_nodeCountAt_33 : decode cX2_nodeCountAt 33 = .ok (.getfield 11, 3) := dq_i180 (dl_b (dl_b (dl_b (dl_b (dl_b (dl_b (dl_b (dl_b (dl_b dkX2_nodeCountAt_16).2).2).2).2).2).2).2).2).1
theorem dX2_nodeCountAt_36 : decode cX2_nodeCountAt 36 = .ok (.iload 4, 2) := dq_i21 (dl_b (dl_b (dl_b (dl_b (dl_b (dl_b (dl_b (dl_b (dl_b dkX2_nodeCountAt_16).2).2).2).2).2).2).2).2).2
theorem dkX2_nodeCountAt_38 : (dq_0 cX2_nodeCountAt 38 46 && (dq_0 cX2_nodeCountAt 39 28 && (dq_4 cX2_nodeCountAt 40 160 6 && (dq_5 cX2_nodeCountAt 43 132 3 1 && (dq_5 cX2_nodeCountAt 46 132 4 1 && (dq_4 cX2_nodeCountAt 49 167 (-35) && (dq_0 cX2_nodeCountAt 52 29 && (dq_0 cX2_nodeCountAt 53 172)))))))) = true := by decide +kernel
theorem dX2_nodeCountAt_38 : decode cX2_nodeCountAt 38 = .ok (.iaload, 1) := dq_i46 (dl_b dkX2_nodeCountAt_38).1
theorem dX2_nodeCountAt_39 : decode cX2_nodeCountAt 39 = .ok (.iload_n 2, 1) := dq_i28 (dl_b (dl_b dkX2_nodeCountAt_38).2).1
theorem dX2_nodeCountAt_40 : decode cX2_nodeCountAt 40 = .ok (.if_icmp .ne 6, 3) := dq_i160 (dl_b (dl_b (dl_b dkX2_nodeCountAt_38).2).2).1
theorem dX2_nodeCountAt_43 : decode cX2_nodeCountAt 43 = .ok (.iinc 3 1, 3) := dq_i132 (dl_b (dl_b (dl_b (dl_b dkX2_nodeCountAt_38).2).2).2).1
theorem dX2_nodeCountAt_46 : decode cX2_nodeCountAt 46 = .ok (.iinc 4 1, 3) := dq_i132 (dl_b (dl_b (dl_b (dl_b (dl_b dkX2_nodeCountAt_38).2).2).2).2).1
theorem dX2_nodeCountAt_49 : decode cX2_nodeCountAt 49 = .ok (.goto (-35), 3) := dq_i167 (dl_b (dl_b (dl_b (dl_b (dl_b (dl_b dkX2_nodeCountAt_38).2).2).2).2).2).1
theorem dX2_nodeCountAt_52 : decode cX2_nodeCountAt 52 = .ok (.iload_n 3, 1) := dq_i29 (dl_b (dl_b (dl_b (dl_b (dl_b (dl_b (dl_b dkX2_nodeCountAt_38).2).2).2).2).2).2).1
theorem dX2_nodeCountAt_53 : decode cX2_nodeCountAt 53 = .ok (.ireturn, 1) := dq_i172 (dl_b (dl_b (dl_b (dl_b (dl_b (dl_b (dl_b dkX2_nodeCountAt_38).2).2).2).2).2).2).2
theorem dkX2_commonCount_0 : (dq_0 cX2_commonCount 0 42 && (dq_2 cX2_commonCount 1 182 53 && (dq_0 cX2_commonCount 4 42 && (dq_0 cX2_commonCount 5 4 && (dq_0 cX2_commonCount 6 27 && (dq_0 cX2_commonCount 7 3 && (dq_2 cX2_commonCount 8 182 49 && (dq_0 cX2_commonCount 11 42 && (dq_0 cX2_commonCount 12 5 && (dq_0 cX2_commonCount 13 28)))))))))) = true := by decide +kernel
theorem dX2_commonCount_0 : decode cX2_commonCount 0 = .ok (.aload_n 0, 1) := dq_i42 (dl_b dkX2_commonCount_0).1
theorem dX2_commonCount_1 : decode cX2_commonCount 1 = .ok (.invokevirtual 53, 3) := dq_i182 (dl_b (dl_b dkX2_commonCount_0).2).1
theorem dX2_commonCount_4 : decode cX2_commonCount 4 = .ok (.aload_n 0, 1) := dq_i42 (dl_b (dl_b (dl_b dkX2_commonCount_0).2).2).1
theorem dX2_commonCount_5 : decode cX2_commonCount 5 = .ok (.iconst 1, 1) := dq_i4 (dl_b (dl_b (dl_b (dl_b dkX2_commonCount_0).2).2).2).1
theorem dX2_commonCount_6 : decode cX2_commonCount 6 = .ok (.iload_n 1, 1) := dq_i27 (dl_b (dl_b (dl_b (dl_b (dl_b dkX2_commonCount_0).2).2).2).2).1
theorem dX2_commonCount_7 : decode cX2_commonCount 7 = .ok (.iconst 0, 1) := dq_i3 (dl_b (dl_b (dl_b (dl_b (dl_b (dl_b dkX2_commonCount_0).2).2).2).2).2).1
theorem dX2_commonCount_8 : decode cX2_commonCount 8 = .ok (.invokevirtual 49, 3) := dq_i182 (dl_b (dl_b (dl_b (dl_b (dl_b (dl_b (dl_b dkX2_commonCount_0).2).2).2).2).2).2).1
theorem dX2_commonCount_11 : decode cX2_commonCount 11 = .ok (.aload_n 0, 1) := dq_i42 (dl_b (dl_b (dl_b (dl_b (dl_b (dl_b (dl_b (dl_b dkX2_commonCount_0).2).2).2).2).2).2).2).1
theorem dX2_commonCount_12 : decode cX2_commonCount 12 = .ok (.iconst 2, 1) := dq_i5 (dl_b (dl_b (dl_b (dl_b (dl_b (dl_b (dl_b (dl_b (dl_b dkX2_commonCount_0).2).2).2).2).2).2).2).2).1
theorem dX2_commonCount_13 : decode cX2_commonCount 13 = .ok (.iload_n 2, 1) := dq_i28 (dl_b (dl_b (dl_b (dl_b (dl_b (dl_b (dl_b (dl_b (dl_b dkX2_commonCount_0).2).2).2).2).2).2).2).2).2
theorem dkX2_commonCount_14 : (dq_0 cX2_commonCount 14 3 && (dq_2 cX2_commonCount 15 182 49 && (dq_0 cX2_commonCount 18 42 && (dq_0 cX2_commonCount 19 6 && (dq_2 cX2_commonCount 20 182 60 && (dq_0 cX2_commonCount 23 172)))))) = true := by decide +kernel
theorem dX2_commonCount_14 : decode cX2_commonCount 14 = .ok (.iconst 0, 1) := dq_i3 (dl_b dkX2_commonCount_14).1
theorem dX2_commonCount_15 : decode cX2_commonCount 15 = .ok (.invokevirtual 49, 3) := dq_i182 (dl_b (dl_b dkX2_commonCount_14).2).1
theorem dX2_commonCount_18 : decode cX2_commonCount 18 = .ok (.aload_n 0, 1) := dq_i42 (dl_b (dl_b (dl_b dkX2_commonCount_14).2).2).1
theorem dX2_commonCount_19 : decode cX2_commonCount 19 = .ok (.iconst 3, 1) := dq_i6 (dl_b (dl_b (dl_b (dl_b dkX2_commonCount_14).2).2).2).1
theorem dX2_commonCount_20 : decode cX2_commonCount 20 = .ok (.invokevirtual 60, 3) := dq_i182 (dl_b (dl_b (dl_b (dl_b (dl_b dkX2_commonCount_14).2).2).2).2).1
theorem dX2_commonCount_23 : decode cX2_commonCount 23 = .ok (.ireturn, 1) := dq_i172 (dl_b (dl_b (dl_b (dl_b (dl_b dkX2_commonCount_14).2).2).2).2).2
theorem dkX2_sweep_0 : (dq_0 cX2_sweep 0 42 && (dq_2 cX2_sweep 1 180 27 && (dq_0 cX2_sweep 4 2 && (dq_2 cX2_sweep 5 184 43 && (dq_0 cX2_sweep 8 42 && (dq_0 cX2_sweep 9 2 && (dq_2 cX2_sweep 10 181 30 && (dq_0 cX2_sweep 13 42 && (dq_0 cX2_sweep 14 3 && (dq_2 cX2_sweep 15 181 34)))))))))) = true := by decide +kernel
theorem dX2_sweep_0 : decode cX2_sweep 0 = .ok (.aload_n 0, 1) := dq_i42 (dl_b dkX2_sweep_0).1
theorem dX2_sweep_1 : decode cX2_sweep 1 = .ok (.getfield 27, 3) := dq_i180 (dl_b (dl_b dkX2_sweep_0).2).1
theorem dX2_sweep_4 : decode cX2_sweep 4 = .ok (.iconst (-1), 1) := dq_i2 (dl_b (dl_b (dl_b dkX2_sweep_0).2).2).1
theorem dX2_sweep_5 : decode cX2_sweep 5 = .ok (.invokestatic 43, 3) := dq_i184 (dl_b (dl_b (dl_b (dl_b dkX2_sweep_0).2).2).2).1
theorem dX2_sweep_8 : decode cX2_sweep 8 = .ok (.aload_n 0, 1) := dq_i42 (dl_b (dl_b (dl_b (dl_b (dl_b dkX2_sweep_0).2).2).2).2).1
theorem dX2_sweep_9 : decode cX2_sweep 9 = .ok (.iconst (-1), 1) := dq_i2 (dl_b (dl_b (dl_b (dl_b (dl_b (dl_b dkX2_sweep_0).2).2).2).2).2).1
theorem dX2_sweep_10 : decode cX2_sweep 10 = .ok (.putfield 30, 3) := dq_i181 (dl_b (dl_b (dl_b (dl_b (dl_b (dl_b (dl_b dkX2_sweep_0).2).2).2).2).2).2).1
theorem dX2_sweep_13 : decode cX2_sweep 13 = .ok (.aload_n 0, 1) := dq_i42 (dl_b (dl_b (dl_b (dl_b (dl_b (dl_b (dl_b (dl_b dkX2_sweep_0).2).2).2).2).2).2).2).1
theorem dX2_sweep_14 : decode cX2_sweep 14 = .ok (.iconst 0, 1) := dq_i3 (dl_b (dl_b (dl_b (dl_b (dl_b (dl_b (dl_b (dl_b (dl_b dkX2_sweep_0).2).2).2).2).2).2).2).2).1
theorem dX2_sweep_15 : decode cX2_sweep 15 = .ok (.putfield 34, 3) := dq_i181 (dl_b (dl_b (dl_b (dl_b (dl_b (dl_b (dl_b (dl_b (dl_b dkX2_sweep_0).2).2).2).2).2).2).2).2).2
theorem dkX2_sweep_18 : (dq_4 cX2_sweep 18 17 251 && (dq_0 cX2_sweep 21 60 && (dq_0 cX2_sweep 22 27 && (dq_0 cX2_sweep 23 5 && (dq_4 cX2_sweep 24 161 41 && (dq_0 cX2_sweep 27 42 && (dq_2 cX2_sweep 28 180 21 && (dq_0 cX2_sweep 31 27 && (dq_0 cX2_sweep 32 46 && (dq_4 cX2_sweep 33 153 11)))))))))) = true := by decide +kernel
theorem dX2_sweep_18 : decode cX2_sweep 18 = .ok (.sipush 251, 3) := dq_i17 (dl_b dkX2_sweep_18).1
theorem dX2_sweep_21 : decode cX2_sweep 21 = .ok (.istore_n 1, 1) := dq_i60 (dl_b (dl_b dkX2_sweep_18).2).1
theorem dX2_sweep_22 : decode cX2_sweep 22 = .ok (.iload_n 1, 1) := dq_i27 (dl_b (dl_b (dl_b dkX2_sweep_18).2).2).1
theorem dX2_sweep_23 : decode cX2_sweep 23 = .ok (.iconst 2, 1) := dq_i5 (dl_b (dl_b (dl_b (dl_b dkX2_sweep_18).2).2).2).1
theorem dX2_sweep_24 : decode cX2_sweep 24 = .ok (.if_icmp .lt 41, 3) := dq_i161 (dl_b (dl_b (dl_b (dl_b (dl_b dkX2_sweep_18).2).2).2).2).1
theorem dX2_sweep_27 : decode cX2_sweep 27 = .ok (.aload_n 0, 1) := dq_i42 (dl_b (dl_b (dl_b (dl_b (dl_b (dl_b dkX2_sweep_18).2).2).2).2).2).1
theorem dX2_sweep_28 : decode cX2_sweep 28 = .ok (.getfield 21, 3) := dq_i180 (dl_b (dl_b (dl_b (dl_b (dl_b (dl_b (dl_b dkX2_sweep_18).2).2).2).2).2).2).1
theorem dX2_sweep_31 : decode cX2_sweep 31 = .ok (.iload_n 1, 1) := dq_i27 (dl_b (dl_b (dl_b (dl_b (dl_b (dl_b (dl_b (dl_b dkX2_sweep_18).2).2).2).2).2).2).2).1
theorem dX2_sweep_32 : decode cX2_sweep 32 = .ok (.iaload, 1) := dq_i46 (dl_b (dl_b (dl_b (dl_b (dl_b (dl_b (dl_b (dl_b (dl_b dkX2_sweep_18).2).2).2).2).2).2).2).2).1
theorem dX2_sweep_33 : decode cX2_sweep 33 = .ok (.ifCond .eq 11, 3) := dq_i153 (dl_b (dl_b (dl_b (dl_b (dl_b (dl_b (dl_b (dl_b (dl_b dkX2_sweep_18).2).2).2).2).2).2).2).2).2
theorem dkX2_sweep_36 : (dq_0 cX2_sweep 36 42 && (dq_0 cX2_sweep 37 27 && (dq_2 cX2_sweep 38 182 64 && (dq_4 cX2_sweep 41 167 18 && (dq_0 cX2_sweep 44 42 && (dq_2 cX2_sweep 45 180 24 && (dq_0 cX2_sweep 48 27 && (dq_0 cX2_sweep 49 42 && (dq_2 cX2_sweep 50 180 30 && (dq_0 cX2_sweep 53 79)))))))))) = true := by decide +kernel
theorem dX2_sweep_36 : decode cX2_sweep 36 = .ok (.aload_n 0, 1) := dq_i42 (dl_b dkX2_sweep_36).1
theorem dX2_sweep_37 : decode cX2_sweep 37 = .ok (.iload_n 1, 1) := dq_i27 (dl_b (dl_b dkX2_sweep_36).2).1
theorem dX2_sweep_38 : decode cX2_sweep 38 = .ok (.invokevirtual 64, 3) := dq_i182 (dl_b (dl_b (dl_b dkX2_sweep_36).2).2).1
theorem dX2_sweep_41 : decode cX2_sweep 41 = .ok (.goto 18, 3) := dq_i167 (dl_b (dl_b (dl_b (dl_b dkX2_sweep_36).2).2).2).1
theorem dX2_sweep_44 : decode cX2_sweep 44 = .ok (.aload_n 0, 1) := dq_i42 (dl_b (dl_b (dl_b (dl_b (dl_b dkX2_sweep_36).2).2).2).2).1
theorem dX2_sweep_45 : decode cX2_sweep 45 = .ok (.getfield 24, 3) := dq_i180 (dl_b (dl_b (dl_b (dl_b (dl_b (dl_b dkX2_sweep_36).2).2).2).2).2).1
theorem dX2_sweep_48 : decode cX2_sweep 48 = .ok (.iload_n 1, 1) := dq_i27 (dl_b (dl_b (dl_b (dl_b (dl_b (dl_b (dl_b dkX2_sweep_36).2).2).2).2).2).2).1
theorem dX2_sweep_49 : decode cX2_sweep 49 = .ok (.aload_n 0, 1) := dq_i42 (dl_b (dl_b (dl_b (dl_b (dl_b (dl_b (dl_b (dl_b dkX2_sweep_36).2).2).2).2).2).2).2).1
theorem dX2_sweep_50 : decode cX2_sweep 50 = .ok (.getfield 30, 3) := dq_i180 (dl_b (dl_b (dl_b (dl_b (dl_b (dl_b (dl_b (dl_b (dl_b dkX2_sweep_36).2).2).2).2).2).2).2).2).1
theorem dX2_sweep_53 : decode cX2_sweep 53 = .ok (.iastore, 1) := dq_i79 (dl_b (dl_b (dl_b (dl_b (dl_b (dl_b (dl_b (dl_b (dl_b dkX2_sweep_36).2).2).2).2).2).2).2).2).2
theorem dkX2_sweep_54 : (dq_0 cX2_sweep 54 42 && (dq_0 cX2_sweep 55 27 && (dq_2 cX2_sweep 56 181 30 && (dq_5 cX2_sweep 59 132 1 (-1) && (dq_4 cX2_sweep 62 167 (-40) && (dq_0 cX2_sweep 65 177)))))) = true := by decide +kernel
theorem dX2_sweep_54 : decode cX2_sweep 54 = .ok (.aload_n 0, 1) := dq_i42 (dl_b dkX2_sweep_54).1
theorem dX2_sweep_55 : decode cX2_sweep 55 = .ok (.iload_n 1, 1) := dq_i27 (dl_b (dl_b dkX2_sweep_54).2).1
theorem dX2_sweep_56 : decode cX2_sweep 56 = .ok (.putfield 30, 3) := dq_i181 (dl_b (dl_b (dl_b dkX2_sweep_54).2).2).1
theorem dX2_sweep_59 : decode cX2_sweep 59 = .ok (.iinc 1 (-1), 3) := dq_i132 (dl_b (dl_b (dl_b (dl_b dkX2_sweep_54).2).2).2).1
theorem dX2_sweep_62 : decode cX2_sweep 62 = .ok (.goto (-40), 3) := dq_i167 (dl_b (dl_b (dl_b (dl_b (dl_b dkX2_sweep_54).2).2).2).2).1
theorem dX2_sweep_65 : decode cX2_sweep 65 = .ok (.return_, 1) := dq_i177 (dl_b (dl_b (dl_b (dl_b (dl_b dkX2_sweep_54).2).2).2).2).2
theorem dkX2_makeVariable_0 : (dq_0 cX2_makeVariable 0 42 && (dq_0 cX2_makeVariable 1 27 && (dq_0 cX2_makeVariable 2 3 && (dq_0 cX2_makeVariable 3 4 && (dq_2 cX2_makeVariable 4 182 67 && (dq_0 cX2_makeVariable 7 172)))))) = true := by decide +kernel
theorem dX2_makeVariable_0 : decode cX2_makeVariable 0 = .ok (.aload_n 0, 1) := dq_i42 (dl_b dkX2_makeVariable_0).1
theorem dX2_makeVariable_1 : decode cX2_makeVariable 1 = .ok (.iload_n 1, 1) := dq_i27 (dl_b (dl_b dkX2_makeVariable_0).2).1
theorem dX2_makeVariable_2 : decode cX2_makeVariable 2 = .ok (.iconst 0, 1) := dq_i3 (dl_b (dl_b (dl_b dkX2_makeVariable_0).2).2).1
theorem dX2_makeVariable_3 : decode cX2_makeVariable 3 = .ok (.iconst 1, 1) := dq_i4 (dl_b (dl_b (dl_b (dl_b dkX2_makeVariable_0).2).2).2).1
theorem dX2_makeVariable_4 : decode cX2_makeVariable 4 = .ok (.invokevirtual 67, 3) := dq_i182 (dl_b (dl_b (dl_b (dl_b (dl_b dkX2_makeVariable_0).2).2).2).2).1
theorem dX2_makeVariable_7 : decode cX2_makeVariable 7 = .ok (.ireturn, 1) := dq_i172 (dl_b (dl_b (dl_b (dl_b (dl_b dkX2_makeVariable_0).2).2).2).2).2
theorem dkX2_make_0 : (dq_0 cX2_make 0 42 && (dq_0 cX2_make 1 27 && (dq_0 cX2_make 2 28 && (dq_0 cX2_make 3 29 && (dq_1 cX2_make 4 21 4 && (dq_0 cX2_make 6 3 && (dq_2 cX2_make 7 182 71 && (dq_0 cX2_make 10 172)))))))) = true := by decide +kernel
theorem dX2_make_0 : decode cX2_make 0 = .ok (.aload_n 0, 1) := dq_i42 (dl_b dkX2_make_0).1
theorem dX2_make_1 : decode cX2_make 1 = .ok (.iload_n 1, 1) := dq_i27 (dl_b (dl_b dkX2_make_0).2).1
theorem dX2_make_2 : decode cX2_make 2 = .ok (.iload_n 2, 1) := dq_i28 (dl_b (dl_b (dl_b dkX2_make_0).2).2).1
theorem dX2_make_3 : decode cX2_make 3 = .ok (.iload_n 3, 1) := dq_i29 (dl_b (dl_b (dl_b (dl_b dkX2_make_0).2).2).2).1
theorem dX2_make_4 : decode cX2_make 4 = .ok (.iload 4, 2) := dq_i21 (dl_b (dl_b (dl_b (dl_b (dl_b dkX2_make_0).2).2).2).2).1
theorem dX2_make_6 : decode cX2_make 6 = .ok (.iconst 0, 1) := dq_i3 (dl_b (dl_b (dl_b (dl_b (dl_b (dl_b dkX2_make_0).2).2).2).2).2).1
theorem dX2_make_7 : decode cX2_make 7 = .ok (.invokevirtual 71, 3) := dq_i182 (dl_b (dl_b (dl_b (dl_b (dl_b (dl_b (dl_b dkX2_make_0).2).2).2).2).2).2).1
theorem dX2_make_10 : decode cX2_make 10 = .ok (.ireturn, 1) := dq_i172 (dl_b (dl_b (dl_b (dl_b (dl_b (dl_b (dl_b dkX2_make_0).2).2).2).2).2).2).2
theorem dkX2_makeFrom_0 : (dq_0 cX2_makeFrom 0 27 && (dq_0 cX2_makeFrom 1 28 && (dq_0 cX2_makeFrom 2 4 && (dq_3 cX2_makeFrom 3 16 85 && (dq_2 cX2_makeFrom 5 184 75 && (dq_0 cX2_makeFrom 8 29 && (dq_0 cX2_makeFrom 9 5 && (dq_3 cX2_makeFrom 10 16 51 && (dq_2 cX2_makeFrom 12 184 75 && (dq_1 cX2_makeFrom 15 21 4)))))))))) = true := by decide +kernel
theorem dX2_makeFrom_0 : decode cX2_makeFrom 0 = .ok (.iload_n 1, 1) := dq_i27 (dl_b dkX2_makeFrom_0).1
theorem dX2_makeFrom_1 : decode cX2_makeFrom 1 = .ok (.iload_n 2, 1) := dq_i28 (dl_b (dl_b dkX2_makeFrom_0).2).1
theorem dX2_makeFrom_2 : decode cX2_makeFrom 2 = .ok (.iconst 1, 1) := dq_i4 (dl_b (dl_b (dl_b dkX2_makeFrom_0).2).2).1
theorem dX2_makeFrom_3 : decode cX2_makeFrom 3 = .ok (.bipush 85, 2) := dq_i16 (dl_b (dl_b (dl_b (dl_b dkX2_makeFrom_0).2).2).2).1
theorem dX2_makeFrom_5 : decode cX2_makeFrom 5 = .ok (.invokestatic 75, 3) := dq_i184 (dl_b (dl_b (dl_b (dl_b (dl_b dkX2_makeFrom_0).2).2).2).2).1
theorem dX2_makeFrom_8 : decode cX2_makeFrom 8 = .ok (.iload_n 3, 1) := dq_i29 (dl_b (dl_b (dl_b (dl_b (dl_b (dl_b dkX2_makeFrom_0).2).2).2).2).2).1
theorem dX2_makeFrom_9 : decode cX2_makeFrom 9 = .ok (.iconst 2, 1) := dq_i5 (dl_b (dl_b (dl_b (dl_b (dl_b (dl_b (dl_b dkX2_makeFrom_0).2).2).2).2).2).2).1
theorem dX2_makeFrom_10 : decode cX2_makeFrom 10 = .ok (.bipush 51, 2) := dq_i16 (dl_b (dl_b (dl_b (dl_b (dl_b (dl_b (dl_b (dl_b dkX2_makeFrom_0).2).2).2).2).2).2).2).1
theorem dX2_makeFrom_12 : decode cX2_makeFrom 12 = .ok (.invokestatic 75, 3) := dq_i184 (dl_b (dl_b (dl_b (dl_b (dl_b (dl_b (dl_b (dl_b (dl_b dkX2_makeFrom_0).2).2).2).2).2).2).2).2).1
theorem dX2_makeFrom_15 : decode cX2_makeFrom 15 = .ok (.iload 4, 2) := dq_i21 (dl_b (dl_b (dl_b (dl_b (dl_b (dl_b (dl_b (dl_b (dl_b dkX2_makeFrom_0).2).2).2).2).2).2).2).2).2
theorem dkX2_makeFrom_17 : (dq_0 cX2_makeFrom 17 7 && (dq_3 cX2_makeFrom 18 16 15 && (dq_2 cX2_makeFrom 20 184 75 && (dq_1 cX2_makeFrom 23 54 6 && (dq_1 cX2_makeFrom 25 21 6))))) = true := by decide +kernel
theorem dX2_makeFrom_17 : decode cX2_makeFrom 17 = .ok (.iconst 4, 1) := dq_i7 (dl_b dkX2_makeFrom_17).1
theorem dX2_makeFrom_18 : decode cX2_makeFrom 18 = .ok (.bipush 15, 2) := dq_i16 (dl_b (dl_b dkX2_makeFrom_17).2).1
theorem dX2_makeFrom_20 : decode cX2_makeFrom 20 = .ok (.invokestatic 75, 3) := dq_i184 (dl_b (dl_b (dl_b dkX2_makeFrom_17).2).2).1
theorem dX2_makeFrom_23 : decode cX2_makeFrom 23 = .ok (.istore 6, 2) := dq_i54 (dl_b (dl_b (dl_b (dl_b dkX2_makeFrom_17).2).2).2).1
theorem dX2_makeFrom_25 : decode cX2_makeFrom 25 = .ok (.iload 6, 2) := dq_i21 (dl_b (dl_b (dl_b (dl_b dkX2_makeFrom_17).2).2).2).2
theorem dX2_makeFrom_27 : decode cX2_makeFrom 27 = .ok (.lookupswitch 60 #[(0, 49), (170, 53), (204, 55), (240, 57), (255, 51)], 49) := by decide +kernel
theorem dkX2_makeFrom_76 : (dq_0 cX2_makeFrom 76 3 && (dq_0 cX2_makeFrom 77 172 && (dq_0 cX2_makeFrom 78 4 && (dq_0 cX2_makeFrom 79 172 && (dq_0 cX2_makeFrom 80 28 && (dq_0 cX2_makeFrom 81 172 && (dq_0 cX2_makeFrom 82 29 && (dq_0 cX2_makeFrom 83 172 && (dq_1 cX2_makeFrom 84 21 4 && (dq_0 cX2_makeFrom 86 172)))))))))) = true := by decide +kernel
theorem dX2_makeFrom_76 : decode cX2_makeFrom 76 = .ok (.iconst 0, 1) := dq_i3 (dl_b dkX2_makeFrom_76).1
theorem dX2_makeFrom_77 : decode cX2_makeFrom 77 = .ok (.ireturn, 1) := dq_i172 (dl_b (dl_b dkX2_makeFrom_76).2).1
theorem dX2_makeFrom_78 : decode cX2_makeFrom 78 = .ok (.iconst 1, 1) := dq_i4 (dl_b (dl_b (dl_b dkX2_makeFrom_76).2).2).1
theorem dX2_makeFrom_79 : decode cX2_makeFrom 79 = .ok (.ireturn, 1) := dq_i172 (dl_b (dl_b (dl_b (dl_b dkX2_makeFrom_76).2).2).2).1
theorem dX2_makeFrom_80 : decode cX2_makeFrom 80 = .ok (.iload_n 2, 1) := dq_i28 (dl_b (dl_b (dl_b (dl_b (dl_b dkX2_makeFrom_76).2).2).2).2).1
theorem dX2_makeFrom_81 : decode cX2_makeFrom 81 = .ok (.ireturn, 1) := dq_i172 (dl_b (dl_b (dl_b (dl_b (dl_b (dl_b dkX2_makeFrom_76).2).2).2).2).2).1
theorem dX2_makeFrom_82 : decode cX2_makeFrom 82 = .ok (.iload_n 3, 1) := dq_i29 (dl_b (dl_b (dl_b (dl_b (dl_b (dl_b (dl_b dkX2_makeFrom_76).2).2).2).2).2).2).1
theorem dX2_makeFrom_83 : decode cX2_makeFrom 83 = .ok (.ireturn, 1) := dq_i172 (dl_b (dl_b (dl_b (dl_b (dl_b (dl_b (dl_b (dl_b dkX2_makeFrom_76).2).2).2).2).2).2).2).1
theorem dX2_makeFrom_84 : decode cX2_makeFrom 84 = .ok (.iload 4, 2) := dq_i21 (dl_b (dl_b (dl_b (dl_b (dl_b (dl_b (dl_b (dl_b (dl_b dkX2_makeFrom_76).2).2).2).2).2).2).2).2).1
theorem dX2_makeFrom_86 : decode cX2_makeFrom 86 = .ok (.ireturn, 1) := dq_i172 (dl_b (dl_b (dl_b (dl_b (dl_b (dl_b (dl_b (dl_b (dl_b dkX2_makeFrom_76).2).2).2).2).2).2).2).2).2
theorem dkX2_makeFrom_87 : (dq_0 cX2_makeFrom 87 42 && (dq_2 cX2_makeFrom 88 180 11 && (dq_0 cX2_makeFrom 91 28 && (dq_0 cX2_makeFrom 92 46 && (dq_0 cX2_makeFrom 93 42 && (dq_2 cX2_makeFrom 94 180 11 && (dq_0 cX2_makeFrom 97 29 && (dq_0 cX2_makeFrom 98 46 && (dq_0 cX2_makeFrom 99 42 && (dq_2 cX2_makeFrom 100 180 11)))))))))) = true := by decide +kernel
theorem dX2_makeFrom_87 : decode cX2_makeFrom 87 = .ok (.aload_n 0, 1) := dq_i42 (dl_b dkX2_makeFrom_87).1
theorem dX2_makeFrom_88 : decode cX2_makeFrom 88 = .ok (.getfield 11, 3) := dq_i180 (dl_b (dl_b dkX2_makeFrom_87).2).1
theorem dX2_makeFrom_91 : decode cX2_makeFrom 91 = .ok (.iload_n 2, 1) := dq_i28 (dl_b (dl_b (dl_b dkX2_makeFrom_87).2).2).1
theorem dX2_makeFrom_92 : decode cX2_makeFrom 92 = .ok (.iaload, 1) := dq_i46 (dl_b (dl_b (dl_b (dl_b dkX2_makeFrom_87).2).2).2).1
theorem dX2_makeFrom_93 : decode cX2_makeFrom 93 = .ok (.aload_n 0, 1) := dq_i42 (dl_b (dl_b (dl_b (dl_b (dl_b dkX2_makeFrom_87).2).2).2).2).1
theorem dX2_makeFrom_94 : decode cX2_makeFrom 94 = .ok (.getfield 11, 3) := dq_i180 (dl_b (dl_b (dl_b (dl_b (dl_b (dl_b dkX2_makeFrom_87).2).2).2).2).2).1
theorem dX2_makeFrom_97 : decode cX2_makeFrom 97 = .ok (.iload_n 3, 1) := dq_i29 (dl_b (dl_b (dl_b (dl_b (dl_b (dl_b (dl_b dkX2_makeFrom_87).2).2).2).2).2).2).1
theorem dX2_makeFrom_98 : decode cX2_makeFrom 98 = .ok (.iaload, 1) := dq_i46 (dl_b (dl_b (dl_b (dl_b (dl_b (dl_b (dl_b (dl_b dkX2_makeFrom_87).2).2).2).2).2).2).2).1
theorem dX2_makeFrom_99 : decode cX2_makeFrom 99 = .ok (.aload_n 0, 1) := dq_i42 (dl_b (dl_b (dl_b (dl_b (dl_b (dl_b (dl_b (dl_b (dl_b dkX2_makeFrom_87).2).2).2).2).2).2).2).2).1
theorem dX2_makeFrom_100 : decode cX2_makeFrom 100 = .ok (.getfield 11, 3) := dq_i180 (dl_b (dl_b (dl_b (dl_b (dl_b (dl_b (dl_b (dl_b (dl_b dkX2_makeFrom_87).2).2).2).2).2).2).2).2).2
theorem dkX2_makeFrom_103 : (dq_1 cX2_makeFrom 103 21 4 && (dq_0 cX2_makeFrom 105 46 && (dq_2 cX2_makeFrom 106 184 79 && (dq_2 cX2_makeFrom 109 184 79 && (dq_1 cX2_makeFrom 112 54 7 && (dq_1 cX2_makeFrom 114 21 5 && (dq_3 cX2_makeFrom 116 16 8 && (dq_4 cX2_makeFrom 118 162 10 && (dq_1 cX2_makeFrom 121 21 7 && (dq_3 cX2_makeFrom 123 16 8)))))))))) = true := by decide +kernel
theorem dX2_makeFrom_103 : decode cX2_makeFrom 103 = .ok (.iload 4, 2) := dq_i21 (dl_b dkX2_makeFrom_103).1
theorem dX2_makeFrom_105 : decode cX2_makeFrom 105 = .ok (.iaload, 1) := dq_i46 (dl_b (dl_b dkX2_makeFrom_103).2).1
theorem dX2_makeFrom_106 : decode cX2_makeFrom 106 = .ok (.invokestatic 79, 3) := dq_i184 (dl_b (dl_b (dl_b dkX2_makeFrom_103).2).2).1
theorem dX2_makeFrom_109 : decode cX2_makeFrom 109 = .ok (.invokestatic 79, 3) := dq_i184 (dl_b (dl_b (dl_b (dl_b dkX2_makeFrom_103).2).2).2).1
theorem dX2_makeFrom_112 : decode cX2_makeFrom 112 = .ok (.istore 7, 2) := dq_i54 (dl_b (dl_b (dl_b (dl_b (dl_b dkX2_makeFrom_103).2).2).2).2).1
theorem dX2_makeFrom_114 : decode cX2_makeFrom 114 = .ok (.iload 5, 2) := dq_i21 (dl_b (dl_b (dl_b (dl_b (dl_b (dl_b dkX2_makeFrom_103).2).2).2).2).2).1
theorem dX2_makeFrom_116 : decode cX2_makeFrom 116 = .ok (.bipush 8, 2) := dq_i16 (dl_b (dl_b (dl_b (dl_b (dl_b (dl_b (dl_b dkX2_makeFrom_103).2).2).2).2).2).2).1
theorem dX2_makeFrom_118 : decode cX2_makeFrom 118 = .ok (.if_icmp .ge 10, 3) := dq_i162 (dl_b (dl_b (dl_b (dl_b (dl_b (dl_b (dl_b (dl_b dkX2_makeFrom_103).2).2).2).2).2).2).2).1
theorem dX2_makeFrom_121 : decode cX2_makeFrom 121 = .ok (.iload 7, 2) := dq_i21 (dl_b (dl_b (dl_b (dl_b (dl_b (dl_b (dl_b (dl_b (dl_b dkX2_makeFrom_103).2).2).2).2).2).2).2).2).1
theorem dX2_makeFrom_123 : decode cX2_makeFrom 123 = .ok (.bipush 8, 2) := dq_i16 (dl_b (dl_b (dl_b (dl_b (dl_b (dl_b (dl_b (dl_b (dl_b dkX2_makeFrom_103).2).2).2).2).2).2).2).2).2
theorem dkX2_makeFrom_125 : (dq_4 cX2_makeFrom 125 161 5 && (dq_0 cX2_makeFrom 130 42 && (dq_1 cX2_makeFrom 131 21 6 && (dq_0 cX2_makeFrom 133 42 && (dq_0 cX2_makeFrom 134 28 && (dq_1 cX2_makeFrom 135 21 7 && (dq_2 cX2_makeFrom 137 182 85 && (dq_0 cX2_makeFrom 140 42 && (dq_0 cX2_makeFrom 141 29 && (dq_1 cX2_makeFrom 142 21 7)))))))))) = true := by decide +kernel
theorem dX2_makeFrom_125 : decode cX2_makeFrom 125 = .ok (.if_icmp .lt 5, 3) := dq_i161 (dl_b dkX2_makeFrom_125).1
theorem dX2_makeFrom_130 : decode cX2_makeFrom 130 = .ok (.aload_n 0, 1) := dq_i42 (dl_b (dl_b dkX2_makeFrom_125).2).1
theorem dX2_makeFrom_131 : decode cX2_makeFrom 131 = .ok (.iload 6, 2) := dq_i21 (dl_b (dl_b (dl_b dkX2_makeFrom_125).2).2).1
theorem dX2_makeFrom_133 : decode cX2_makeFrom 133 = .ok (.aload_n 0, 1) := dq_i42 (dl_b (dl_b (dl_b (dl_b dkX2_makeFrom_125).2).2).2).1
theorem dX2_makeFrom_134 : decode cX2_makeFrom 134 = .ok (.iload_n 2, 1) := dq_i28 (dl_b (dl_b (dl_b (dl_b (dl_b dkX2_makeFrom_125).2).2).2).2).1
theorem dX2_makeFrom_135 : decode cX2_makeFrom 135 = .ok (.iload 7, 2) := dq_i21 (dl_b (dl_b (dl_b (dl_b (dl_b (dl_b dkX2_makeFrom_125).2).2).2).2).2).1
theorem dX2_makeFrom_137 : decode cX2_makeFrom 137 = .ok (.invokevirtual 85, 3) := dq_i182 (dl_b (dl_b (dl_b (dl_b (dl_b (dl_b (dl_b dkX2_makeFrom_125).2).2).2).2).2).2).1
theorem dX2_makeFrom_140 : decode cX2_makeFrom 140 = .ok (.aload_n 0, 1) := dq_i42 (dl_b (dl_b (dl_b (dl_b (dl_b (dl_b (dl_b (dl_b dkX2_makeFrom_125).2).2).2).2).2).2).2).1
theorem dX2_makeFrom_141 : decode cX2_makeFrom 141 = .ok (.iload_n 3, 1) := dq_i29 (dl_b (dl_b (dl_b (dl_b (dl_b (dl_b (dl_b (dl_b (dl_b dkX2_makeFrom_125).2).2).2).2).2).2).2).2).1
theorem dX2_makeFrom_142 : decode cX2_makeFrom 142 = .ok (.iload 7, 2) := dq_i21 (dl_b (dl_b (dl_b (dl_b (dl_b (dl_b (dl_b (dl_b (dl_b dkX2_makeFrom_125).2).2).2).2).2).2).2).2).2
theorem dkX2_makeFrom_144 : (dq_2 cX2_makeFrom 144 182 85 && (dq_0 cX2_makeFrom 147 42 && (dq_1 cX2_makeFrom 148 21 4 && (dq_1 cX2_makeFrom 150 21 7 && (dq_2 cX2_makeFrom 152 182 85 && (dq_1 cX2_makeFrom 155 21 5 && (dq_0 cX2_makeFrom 157 4 && (dq_0 cX2_makeFrom 158 96 && (dq_2 cX2_makeFrom 159 182 71 && (dq_1 cX2_makeFrom 162 54 8)))))))))) = true := by decide +kernel
theorem dX2_makeFrom_144 : decode cX2_makeFrom 144 = .ok (.invokevirtual 85, 3) := dq_i182 (dl_b dkX2_makeFrom_144).1
theorem dX2_makeFrom_147 : decode cX2_makeFrom 147 = .ok (.aload_n 0, 1) := dq_i42 (dl_b (dl_b dkX2_makeFrom_144).2).1
theorem dX2_makeFrom_148 : decode cX2_makeFrom 148 = .ok (.iload 4, 2) := dq_i21 (dl_b (dl_b (dl_b dkX2_makeFrom_144).2).2).1
theorem dX2_makeFrom_150 : decode cX2_makeFrom 150 = .ok (.iload 7, 2) := dq_i21 (dl_b (dl_b (dl_b (dl_b dkX2_makeFrom_144).2).2).2).1
theorem dX2_makeFrom_152 : decode cX2_makeFrom 152 = .ok (.invokevirtual 85, 3) := dq_i182 (dl_b (dl_b (dl_b (dl_b (dl_b dkX2_makeFrom_144).2).2).2).2).1
theorem dX2_makeFrom_155 : decode cX2_makeFrom 155 = .ok (.iload 5, 2) := dq_i21 (dl_b (dl_b (dl_b (dl_b (dl_b (dl_b dkX2_makeFrom_144).2).2).2).2).2).1
theorem dX2_makeFrom_157 : decode cX2_makeFrom 157 = .ok (.iconst 1, 1) := dq_i4 (dl_b (dl_b (dl_b (dl_b (dl_b (dl_b (dl_b dkX2_makeFrom_144).2).2).2).2).2).2).1
theorem dX2_makeFrom_158 : decode cX2_makeFrom 158 = .ok (.iadd, 1) := dq_i96 (dl_b (dl_b (dl_b (dl_b (dl_b (dl_b (dl_b (dl_b dkX2_makeFrom_144).2).2).2).2).2).2).2).1
theorem dX2_makeFrom_159 : decode cX2_makeFrom 159 = .ok (.invokevirtual 71, 3) := dq_i182 (dl_b (dl_b (dl_b (dl_b (dl_b (dl_b (dl_b (dl_b (dl_b dkX2_makeFrom_144).2).2).2).2).2).2).2).2).1
theorem dX2_makeFrom_162 : decode cX2_makeFrom 162 = .ok (.istore 8, 2) := dq_i54 (dl_b (dl_b (dl_b (dl_b (dl_b (dl_b (dl_b (dl_b (dl_b dkX2_makeFrom_144).2).2).2).2).2).2).2).2).2
theorem dkX2_makeFrom_164 : (dq_1 cX2_makeFrom 164 21 8 && (dq_0 cX2_makeFrom 166 2 && (dq_4 cX2_makeFrom 167 160 5 && (dq_0 cX2_makeFrom 170 2 && (dq_0 cX2_makeFrom 171 172 && (dq_0 cX2_makeFrom 172 42 && (dq_1 cX2_makeFrom 173 21 6 && (dq_0 cX2_makeFrom 175 42 && (dq_0 cX2_makeFrom 176 28 && (dq_1 cX2_makeFrom 177 21 7)))))))))) = true := by decide +kernel
theorem dX2_makeFrom_164 : decode cX2_makeFrom 164 = .ok (.iload 8, 2) := dq_i21 (dl_b dkX2_makeFrom_164).1
theorem dX2_makeFrom_166 : decode cX2_makeFrom 166 = .ok (.iconst (-1), 1) := dq_i2 (dl_b (dl_b dkX2_makeFrom_164).2).1
theorem dX2_makeFrom_167 : decode cX2_makeFrom 167 = .ok (.if_icmp .ne 5, 3) := dq_i160 (dl_b (dl_b (dl_b dkX2_makeFrom_164).2).2).1
theorem dX2_makeFrom_170 : decode cX2_makeFrom 170 = .ok (.iconst (-1), 1) := dq_i2 (dl_b (dl_b (dl_b (dl_b dkX2_makeFrom_164).2).2).2).1
theorem dX2_makeFrom_171 : decode cX2_makeFrom 171 = .ok (.ireturn, 1) := dq_i172 (dl_b (dl_b (dl_b (dl_b (dl_b dkX2_makeFrom_164).2).2).2).2).1
theorem dX2_makeFrom_172 : decode cX2_makeFrom 172 = .ok (.aload_n 0, 1) := dq_i42 (dl_b (dl_b (dl_b (dl_b (dl_b (dl_b dkX2_makeFrom_164).2).2).2).2).2).1
theorem dX2_makeFrom_173 : decode cX2_makeFrom 173 = .ok (.iload 6, 2) := dq_i21 (dl_b (dl_b (dl_b (dl_b (dl_b (dl_b (dl_b dkX2_makeFrom_164).2).2).2).2).2).2).1
theorem dX2_makeFrom_175 : decode cX2_makeFrom 175 = .ok (.aload_n 0, 1) := dq_i42 (dl_b (dl_b (dl_b (dl_b (dl_b (dl_b (dl_b (dl_b dkX2_makeFrom_164).2).2).2).2).2).2).2).1
theorem dX2_makeFrom_176 : decode cX2_makeFrom 176 = .ok (.iload_n 2, 1) := dq_i28 (dl_b (dl_b (dl_b (dl_b (dl_b (dl_b (dl_b (dl_b (dl_b dkX2_makeFrom_164).2).2).2).2).2).2).2).2).1
theorem dX2_makeFrom_177 : decode cX2_makeFrom 177 = .ok (.iload 7, 2) := dq_i21 (dl_b (dl_b (dl_b (dl_b (dl_b (dl_b (dl_b (dl_b (dl_b dkX2_makeFrom_164).2).2).2).2).2).2).2).2).2
theorem dkX2_makeFrom_179 : (dq_2 cX2_makeFrom 179 182 88 && (dq_0 cX2_makeFrom 182 42 && (dq_0 cX2_makeFrom 183 29 && (dq_1 cX2_makeFrom 184 21 7 && (dq_2 cX2_makeFrom 186 182 88 && (dq_0 cX2_makeFrom 189 42 && (dq_1 cX2_makeFrom 190 21 4 && (dq_1 cX2_makeFrom 192 21 7 && (dq_2 cX2_makeFrom 194 182 88 && (dq_1 cX2_makeFrom 197 21 5)))))))))) = true := by decide +kernel
theorem dX2_makeFrom_179 : decode cX2_makeFrom 179 = .ok (.invokevirtual 88, 3) := dq_i182 (dl_b dkX2_makeFrom_179).1
theorem dX2_makeFrom_182 : decode cX2_makeFrom 182 = .ok (.aload_n 0, 1) := dq_i42 (dl_b (dl_b dkX2_makeFrom_179).2).1
theorem dX2_makeFrom_183 : decode cX2_makeFrom 183 = .ok (.iload_n 3, 1) := dq_i29 (dl_b (dl_b (dl_b dkX2_makeFrom_179).2).2).1
theorem dX2_makeFrom_184 : decode cX2_makeFrom 184 = .ok (.iload 7, 2) := dq_i21 (dl_b (dl_b (dl_b (dl_b dkX2_makeFrom_179).2).2).2).1
theorem dX2_makeFrom_186 : decode cX2_makeFrom 186 = .ok (.invokevirtual 88, 3) := dq_i182 (dl_b (dl_b (dl_b (dl_b (dl_b dkX2_makeFrom_179).2).2).2).2).1
theorem dX2_makeFrom_189 : decode cX2_makeFrom 189 = .ok (.aload_n 0, 1) := dq_i42 (dl_b (dl_b (dl_b (dl_b (dl_b (dl_b dkX2_makeFrom_179).2).2).2).2).2).1
theorem dX2_makeFrom_190 : decode cX2_makeFrom 190 = .ok (.iload 4, 2) := dq_i21 (dl_b (dl_b (dl_b (dl_b (dl_b (dl_b (dl_b dkX2_makeFrom_179).2).2).2).2).2).2).1
theorem dX2_makeFrom_192 : decode cX2_makeFrom 192 = .ok (.iload 7, 2) := dq_i21 (dl_b (dl_b (dl_b (dl_b (dl_b (dl_b (dl_b (dl_b dkX2_makeFrom_179).2).2).2).2).2).2).2).1
theorem dX2_makeFrom_194 : decode cX2_makeFrom 194 = .ok (.invokevirtual 88, 3) := dq_i182 (dl_b (dl_b (dl_b (dl_b (dl_b (dl_b (dl_b (dl_b (dl_b dkX2_makeFrom_179).2).2).2).2).2).2).2).2).1
theorem dX2_makeFrom_197 : decode cX2_makeFrom 197 = .ok (.iload 5, 2) := dq_i21 (dl_b (dl_b (dl_b (dl_b (dl_b (dl_b (dl_b (dl_b (dl_b dkX2_makeFrom_179).2).2).2).2).2).2).2).2).2
theorem dkX2_makeFrom_199 : (dq_0 cX2_makeFrom 199 4 && (dq_0 cX2_makeFrom 200 96 && (dq_2 cX2_makeFrom 201 182 71 && (dq_1 cX2_makeFrom 204 54 9 && (dq_0 cX2_makeFrom 206 42 && (dq_1 cX2_makeFrom 207 21 7 && (dq_1 cX2_makeFrom 209 21 8 && (dq_1 cX2_makeFrom 211 21 9 && (dq_2 cX2_makeFrom 213 182 67 && (dq_0 cX2_makeFrom 216 172)))))))))) = true := by decide +kernel
theorem dX2_makeFrom_199 : decode cX2_makeFrom 199 = .ok (.iconst 1, 1) := dq_i4 (dl_b dkX2_makeFrom_199).1
theorem dX2_makeFrom_200 : decode cX2_makeFrom 200 = .ok (.iadd, 1) := dq_i96 (dl_b (dl_b dkX2_makeFrom_199).2).1
theorem dX2_makeFrom_201 : decode cX2_makeFrom 201 = .ok (.invokevirtual 71, 3) := dq_i182 (dl_b (dl_b (dl_b dkX2_makeFrom_199).2).2).1
theorem dX2_makeFrom_204 : decode cX2_makeFrom 204 = .ok (.istore 9, 2) := dq_i54 (dl_b (dl_b (dl_b (dl_b dkX2_makeFrom_199).2).2).2).1
theorem dX2_makeFrom_206 : decode cX2_makeFrom 206 = .ok (.aload_n 0, 1) := dq_i42 (dl_b (dl_b (dl_b (dl_b (dl_b dkX2_makeFrom_199).2).2).2).2).1
theorem dX2_makeFrom_207 : decode cX2_makeFrom 207 = .ok (.iload 7, 2) := dq_i21 (dl_b (dl_b (dl_b (dl_b (dl_b (dl_b dkX2_makeFrom_199).2).2).2).2).2).1
theorem dX2_makeFrom_209 : decode cX2_makeFrom 209 = .ok (.iload 8, 2) := dq_i21 (dl_b (dl_b (dl_b (dl_b (dl_b (dl_b (dl_b dkX2_makeFrom_199).2).2).2).2).2).2).1
theorem dX2_makeFrom_211 : decode cX2_makeFrom 211 = .ok (.iload 9, 2) := dq_i21 (dl_b (dl_b (dl_b (dl_b (dl_b (dl_b (dl_b (dl_b dkX2_makeFrom_199).2).2).2).2).2).2).2).1
theorem dX2_makeFrom_213 : decode cX2_makeFrom 213 = .ok (.invokevirtual 67, 3) := dq_i182 (dl_b (dl_b (dl_b (dl_b (dl_b (dl_b (dl_b (dl_b (dl_b dkX2_makeFrom_199).2).2).2).2).2).2).2).2).1
theorem dX2_makeFrom_216 : decode cX2_makeFrom 216 = .ok (.ireturn, 1) := dq_i172 (dl_b (dl_b (dl_b (dl_b (dl_b (dl_b (dl_b (dl_b (dl_b dkX2_makeFrom_199).2).2).2).2).2).2).2).2).2
theorem dkX2_knowing_0 : (dq_0 cX2_knowing 0 27 && (dq_0 cX2_knowing 1 5 && (dq_4 cX2_knowing 2 161 5 && (dq_0 cX2_knowing 5 26 && (dq_0 cX2_knowing 6 172 && (dq_0 cX2_knowing 7 27 && (dq_0 cX2_knowing 8 4 && (dq_4 cX2_knowing 9 160 9 && (dq_0 cX2_knowing 12 26 && (dq_0 cX2_knowing 13 28)))))))))) = true := by decide +kernel
theorem dX2_knowing_0 : decode cX2_knowing 0 = .ok (.iload_n 1, 1) := dq_i27 (dl_b dkX2_knowing_0).1
theorem dX2_knowing_1 : decode cX2_knowing 1 = .ok (.iconst 2, 1) := dq_i5 (dl_b (dl_b dkX2_knowing_0).2).1
theorem dX2_knowing_2 : decode cX2_knowing 2 = .ok (.if_icmp .lt 5, 3) := dq_i161 (dl_b (dl_b (dl_b dkX2_knowing_0).2).2).1
theorem dX2_knowing_5 : decode cX2_knowing 5 = .ok (.iload_n 0, 1) := dq_i26 (dl_b (dl_b (dl_b (dl_b dkX2_knowing_0).2).2).2).1
theorem dX2_knowing_6 : decode cX2_knowing 6 = .ok (.ireturn, 1) := dq_i172 (dl_b (dl_b (dl_b (dl_b (dl_b dkX2_knowing_0).2).2).2).2).1
theorem dX2_knowing_7 : decode cX2_knowing 7 = .ok (.iload_n 1, 1) := dq_i27 (dl_b (dl_b (dl_b (dl_b (dl_b (dl_b dkX2_knowing_0).2).2).2).2).2).1
theorem dX2_knowing_8 : decode cX2_knowing 8 = .ok (.iconst 1, 1) := dq_i4 (dl_b (dl_b (dl_b (dl_b (dl_b (dl_b (dl_b dkX2_knowing_0).2).2).2).2).2).2).1
theorem dX2_knowing_9 : decode cX2_knowing 9 = .ok (.if_icmp .ne 9, 3) := dq_i160 (dl_b (dl_b (dl_b (dl_b (dl_b (dl_b (dl_b (dl_b dkX2_knowing_0).2).2).2).2).2).2).2).1
theorem dX2_knowing_12 : decode cX2_knowing 12 = .ok (.iload_n 0, 1) := dq_i26 (dl_b (dl_b (dl_b (dl_b (dl_b (dl_b (dl_b (dl_b (dl_b dkX2_knowing_0).2).2).2).2).2).2).2).2).1
theorem dX2_knowing_13 : decode cX2_knowing 13 = .ok (.iload_n 2, 1) := dq_i28 (dl_b (dl_b (dl_b (dl_b (dl_b (dl_b (dl_b (dl_b (dl_b dkX2_knowing_0).2).2).2).2).2).2).2).2).2
theorem dkX2_knowing_14 : (dq_0 cX2_knowing 14 122 && (dq_4 cX2_knowing 15 167 4 && (dq_0 cX2_knowing 18 26 && (dq_0 cX2_knowing 19 29 && (dq_0 cX2_knowing 20 126 && (dq_1 cX2_knowing 21 54 4 && (dq_1 cX2_knowing 23 21 4 && (dq_1 cX2_knowing 25 21 4 && (dq_0 cX2_knowing 27 28 && (dq_0 cX2_knowing 28 120)))))))))) = true := by decide +kernel
theorem dX2_knowing_14 : decode cX2_knowing 14 = .ok (.ishr, 1) := dq_i122 (dl_b dkX2_knowing_14).1
theorem dX2_knowing_15 : decode cX2_knowing 15 = .ok (.goto 4, 3) := dq_i167 (dl_b (dl_b dkX2_knowing_14).2).1
theorem dX2_knowing_18 : decode cX2_knowing 18 = .ok (.iload_n 0, 1) := dq_i26 (dl_b (dl_b (dl_b dkX2_knowing_14).2).2).1
theorem dX2_knowing_19 : decode cX2_knowing 19 = .ok (.iload_n 3, 1) := dq_i29 (dl_b (dl_b (dl_b (dl_b dkX2_knowing_14).2).2).2).1
theorem dX2_knowing_20 : decode cX2_knowing 20 = .ok (.iand, 1) := dq_i126 (dl_b (dl_b (dl_b (dl_b (dl_b dkX2_knowing_14).2).2).2).2).1
theorem dX2_knowing_21 : decode cX2_knowing 21 = .ok (.istore 4, 2) := dq_i54 (dl_b (dl_b (dl_b (dl_b (dl_b (dl_b dkX2_knowing_14).2).2).2).2).2).1
theorem dX2_knowing_23 : decode cX2_knowing 23 = .ok (.iload 4, 2) := dq_i21 (dl_b (dl_b (dl_b (dl_b (dl_b (dl_b (dl_b dkX2_knowing_14).2).2).2).2).2).2).1
theorem dX2_knowing_25 : decode cX2_knowing 25 = .ok (.iload 4, 2) := dq_i21 (dl_b (dl_b (dl_b (dl_b (dl_b (dl_b (dl_b (dl_b dkX2_knowing_14).2).2).2).2).2).2).2).1
theorem dX2_knowing_27 : decode cX2_knowing 27 = .ok (.iload_n 2, 1) := dq_i28 (dl_b (dl_b (dl_b (dl_b (dl_b (dl_b (dl_b (dl_b (dl_b dkX2_knowing_14).2).2).2).2).2).2).2).2).1
theorem dX2_knowing_28 : decode cX2_knowing 28 = .ok (.ishl, 1) := dq_i120 (dl_b (dl_b (dl_b (dl_b (dl_b (dl_b (dl_b (dl_b (dl_b dkX2_knowing_14).2).2).2).2).2).2).2).2).2
theorem dkX2_knowing_29 : (dq_0 cX2_knowing 29 128 && (dq_0 cX2_knowing 30 172)) = true := by decide +kernel
theorem dX2_knowing_29 : decode cX2_knowing 29 = .ok (.ior, 1) := dq_i128 (dl_b dkX2_knowing_29).1
theorem dX2_knowing_30 : decode cX2_knowing 30 = .ok (.ireturn, 1) := dq_i172 (dl_b dkX2_knowing_29).2
theorem dkX2_lowAt_0 : (dq_0 cX2_lowAt 0 42 && (dq_2 cX2_lowAt 1 180 11 && (dq_0 cX2_lowAt 4 27 && (dq_0 cX2_lowAt 5 46 && (dq_0 cX2_lowAt 6 28 && (dq_4 cX2_lowAt 7 160 12 && (dq_0 cX2_lowAt 10 42 && (dq_2 cX2_lowAt 11 180 15 && (dq_0 cX2_lowAt 14 27 && (dq_0 cX2_lowAt 15 46)))))))))) = true := by decide +kernel
theorem dX2_lowAt_0 : decode cX2_lowAt 0 = .ok (.aload_n 0, 1) := dq_i42 (dl_b dkX2_lowAt_0).1
theorem dX2_lowAt_1 : decode cX2_lowAt 1 = .ok (.getfield 11, 3) := dq_i180 (dl_b (dl_b dkX2_lowAt_0).2).1
theorem dX2_lowAt_4 : decode cX2_lowAt 4 = .ok (.iload_n 1, 1) := dq_i27 (dl_b (dl_b (dl_b dkX2_lowAt_0).2).2).1
theorem dX2_lowAt_5 : decode cX2_lowAt 5 = .ok (.iaload, 1) := dq_i46 (dl_b (dl_b (dl_b (dl_b dkX2_lowAt_0).2).2).2).1
theorem dX2_lowAt_6 : decode cX2_lowAt 6 = .ok (.iload_n 2, 1) := dq_i28 (dl_b (dl_b (dl_b (dl_b (dl_b dkX2_lowAt_0).2).2).2).2).1
theorem dX2_lowAt_7 : decode cX2_lowAt 7 = .ok (.if_icmp .ne 12, 3) := dq_i160 (dl_b (dl_b (dl_b (dl_b (dl_b (dl_b dkX2_lowAt_0).2).2).2).2).2).1
theorem dX2_lowAt_10 : decode cX2_lowAt 10 = .ok (.aload_n 0, 1) := dq_i42 (dl_b (dl_b (dl_b (dl_b (dl_b (dl_b (dl_b dkX2_lowAt_0).2).2).2).2).2).2).1
theorem dX2_lowAt_11 : decode cX2_lowAt 11 = .ok (.getfield 15, 3) := dq_i180 (dl_b (dl_b (dl_b (dl_b (dl_b (dl_b (dl_b (dl_b dkX2_lowAt_0).2).2).2).2).2).2).2).1
theorem dX2_lowAt_14 : decode cX2_lowAt 14 = .ok (.iload_n 1, 1) := dq_i27 (dl_b (dl_b (dl_b (dl_b (dl_b (dl_b (dl_b (dl_b (dl_b dkX2_lowAt_0).2).2).2).2).2).2).2).2).1
theorem dX2_lowAt_15 : decode cX2_lowAt 15 = .ok (.iaload, 1) := dq_i46 (dl_b (dl_b (dl_b (dl_b (dl_b (dl_b (dl_b (dl_b (dl_b dkX2_lowAt_0).2).2).2).2).2).2).2).2).2
theorem dkX2_lowAt_16 : (dq_4 cX2_lowAt 16 167 4 && (dq_0 cX2_lowAt 19 27 && (dq_0 cX2_lowAt 20 172))) = true := by decide +kernel
theorem dX2_lowAt_16 : decode cX2_lowAt 16 = .ok (.goto 4, 3) := dq_i167 (dl_b dkX2_lowAt_16).1
theorem dX2_lowAt_19 : decode cX2_lowAt 19 = .ok (.iload_n 1, 1) := dq_i27 (dl_b (dl_b dkX2_lowAt_16).2).1
theorem dX2_lowAt_20 : decode cX2_lowAt 20 = .ok (.ireturn, 1) := dq_i172 (dl_b (dl_b dkX2_lowAt_16).2).2
theorem dkX2_highAt_0 : (dq_0 cX2_highAt 0 42 && (dq_2 cX2_highAt 1 180 11 && (dq_0 cX2_highAt 4 27 && (dq_0 cX2_highAt 5 46 && (dq_0 cX2_highAt 6 28 && (dq_4 cX2_highAt 7 160 12 && (dq_0 cX2_highAt 10 42 && (dq_2 cX2_highAt 11 180 18 && (dq_0 cX2_highAt 14 27 && (dq_0 cX2_highAt 15 46)))))))))) = true := by decide +kernel
theorem dX2_highAt_0 : decode cX2_highAt 0 = .ok (.aload_n 0, 1) := dq_i42 (dl_b dkX2_highAt_0).1
theorem dX2_highAt_1 : decode cX2_highAt 1 = .ok (.getfield 11, 3) := dq_i180 (dl_b (dl_b dkX2_highAt_0).2).1
theorem dX2_highAt_4 : decode cX2_highAt 4 = .ok (.iload_n 1, 1) := dq_i27 (dl_b (dl_b (dl_b dkX2_highAt_0).2).2).1
theorem dX2_highAt_5 : decode cX2_highAt 5 = .ok (.iaload, 1) := dq_i46 (dl_b (dl_b (dl_b (dl_b dkX2_highAt_0).2).2).2).1
theorem dX2_highAt_6 : decode cX2_highAt 6 = .ok (.iload_n 2, 1) := dq_i28 (dl_b (dl_b (dl_b (dl_b (dl_b dkX2_highAt_0).2).2).2).2).1
theorem dX2_highAt_7 : decode cX2_highAt 7 = .ok (.if_icmp .ne 12, 3) := dq_i160 (dl_b (dl_b (dl_b (dl_b (dl_b (dl_b dkX2_highAt_0).2).2).2).2).2).1
theorem dX2_highAt_10 : decode cX2_highAt 10 = .ok (.aload_n 0, 1) := dq_i42 (dl_b (dl_b (dl_b (dl_b (dl_b (dl_b (dl_b dkX2_highAt_0).2).2).2).2).2).2).1
theorem dX2_highAt_11 : decode cX2_highAt 11 = .ok (.getfield 18, 3) := dq_i180 (dl_b (dl_b (dl_b (dl_b (dl_b (dl_b (dl_b (dl_b dkX2_highAt_0).2).2).2).2).2).2).2).1
theorem dX2_highAt_14 : decode cX2_highAt 14 = .ok (.iload_n 1, 1) := dq_i27 (dl_b (dl_b (dl_b (dl_b (dl_b (dl_b (dl_b (dl_b (dl_b dkX2_highAt_0).2).2).2).2).2).2).2).2).1
theorem dX2_highAt_15 : decode cX2_highAt 15 = .ok (.iaload, 1) := dq_i46 (dl_b (dl_b (dl_b (dl_b (dl_b (dl_b (dl_b (dl_b (dl_b dkX2_highAt_0).2).2).2).2).2).2).2).2).2
theorem dkX2_highAt_16 : (dq_4 cX2_highAt 16 167 4 && (dq_0 cX2_highAt 19 27 && (dq_0 cX2_highAt 20 172))) = true := by decide +kernel
theorem dX2_highAt_16 : decode cX2_highAt 16 = .ok (.goto 4, 3) := dq_i167 (dl_b dkX2_highAt_16).1
theorem dX2_highAt_19 : decode cX2_highAt 19 = .ok (.iload_n 1, 1) := dq_i27 (dl_b (dl_b dkX2_highAt_16).2).1
theorem dX2_highAt_20 : decode cX2_highAt 20 = .ok (.ireturn, 1) := dq_i172 (dl_b (dl_b dkX2_highAt_16).2).2
theorem dkX2_makeFixed_0 : (dq_0 cX2_makeFixed 0 42 && (dq_0 cX2_makeFixed 1 27 && (dq_0 cX2_makeFixed 2 28 && (dq_0 cX2_makeFixed 3 29 && (dq_0 cX2_makeFixed 4 3 && (dq_2 cX2_makeFixed 5 182 91 && (dq_0 cX2_makeFixed 8 172))))))) = true := by decide +kernel
theorem dX2_makeFixed_0 : decode cX2_makeFixed 0 = .ok (.aload_n 0, 1) := dq_i42 (dl_b dkX2_makeFixed_0).1
theorem dX2_makeFixed_1 : decode cX2_makeFixed 1 = .ok (.iload_n 1, 1) := dq_i27 (dl_b (dl_b dkX2_makeFixed_0).2).1
theorem dX2_makeFixed_2 : decode cX2_makeFixed 2 = .ok (.iload_n 2, 1) := dq_i28 (dl_b (dl_b (dl_b dkX2_makeFixed_0).2).2).1
theorem dX2_makeFixed_3 : decode cX2_makeFixed 3 = .ok (.iload_n 3, 1) := dq_i29 (dl_b (dl_b (dl_b (dl_b dkX2_makeFixed_0).2).2).2).1
theorem dX2_makeFixed_4 : decode cX2_makeFixed 4 = .ok (.iconst 0, 1) := dq_i3 (dl_b (dl_b (dl_b (dl_b (dl_b dkX2_makeFixed_0).2).2).2).2).1
theorem dX2_makeFixed_5 : decode cX2_makeFixed 5 = .ok (.invokevirtual 91, 3) := dq_i182 (dl_b (dl_b (dl_b (dl_b (dl_b (dl_b dkX2_makeFixed_0).2).2).2).2).2).1
theorem dX2_makeFixed_8 : decode cX2_makeFixed 8 = .ok (.ireturn, 1) := dq_i172 (dl_b (dl_b (dl_b (dl_b (dl_b (dl_b dkX2_makeFixed_0).2).2).2).2).2).2
theorem dkX2_fixFrom_0 : (dq_0 cX2_fixFrom 0 42 && (dq_2 cX2_fixFrom 1 180 11 && (dq_0 cX2_fixFrom 4 27 && (dq_0 cX2_fixFrom 5 46 && (dq_0 cX2_fixFrom 6 28 && (dq_4 cX2_fixFrom 7 164 5 && (dq_0 cX2_fixFrom 10 27 && (dq_0 cX2_fixFrom 11 172 && (dq_0 cX2_fixFrom 12 42 && (dq_2 cX2_fixFrom 13 180 11)))))))))) = true := by decide +kernel
theorem dX2_fixFrom_0 : decode cX2_fixFrom 0 = .ok (.aload_n 0, 1) := dq_i42 (dl_b dkX2_fixFrom_0).1
theorem dX2_fixFrom_1 : decode cX2_fixFrom 1 = .ok (.getfield 11, 3) := dq_i180 (dl_b (dl_b dkX2_fixFrom_0).2).1
theorem dX2_fixFrom_4 : decode cX2_fixFrom 4 = .ok (.iload_n 1, 1) := dq_i27 (dl_b (dl_b (dl_b dkX2_fixFrom_0).2).2).1
theorem dX2_fixFrom_5 : decode cX2_fixFrom 5 = .ok (.iaload, 1) := dq_i46 (dl_b (dl_b (dl_b (dl_b dkX2_fixFrom_0).2).2).2).1
theorem dX2_fixFrom_6 : decode cX2_fixFrom 6 = .ok (.iload_n 2, 1) := dq_i28 (dl_b (dl_b (dl_b (dl_b (dl_b dkX2_fixFrom_0).2).2).2).2).1
theorem dX2_fixFrom_7 : decode cX2_fixFrom 7 = .ok (.if_icmp .le 5, 3) := dq_i164 (dl_b (dl_b (dl_b (dl_b (dl_b (dl_b dkX2_fixFrom_0).2).2).2).2).2).1
theorem dX2_fixFrom_10 : decode cX2_fixFrom 10 = .ok (.iload_n 1, 1) := dq_i27 (dl_b (dl_b (dl_b (dl_b (dl_b (dl_b (dl_b dkX2_fixFrom_0).2).2).2).2).2).2).1
theorem dX2_fixFrom_11 : decode cX2_fixFrom 11 = .ok (.ireturn, 1) := dq_i172 (dl_b (dl_b (dl_b (dl_b (dl_b (dl_b (dl_b (dl_b dkX2_fixFrom_0).2).2).2).2).2).2).2).1
theorem dX2_fixFrom_12 : decode cX2_fixFrom 12 = .ok (.aload_n 0, 1) := dq_i42 (dl_b (dl_b (dl_b (dl_b (dl_b (dl_b (dl_b (dl_b (dl_b dkX2_fixFrom_0).2).2).2).2).2).2).2).2).1
theorem dX2_fixFrom_13 : decode cX2_fixFrom 13 = .ok (.getfield 11, 3) := dq_i180 (dl_b (dl_b (dl_b (dl_b (dl_b (dl_b (dl_b (dl_b (dl_b dkX2_fixFrom_0).2).2).2).2).2).2).2).2).2
theorem dkX2_fixFrom_16 : (dq_0 cX2_fixFrom 16 27 && (dq_0 cX2_fixFrom 17 46 && (dq_0 cX2_fixFrom 18 28 && (dq_4 cX2_fixFrom 19 160 23 && (dq_0 cX2_fixFrom 22 29 && (dq_4 cX2_fixFrom 23 153 12 && (dq_0 cX2_fixFrom 26 42 && (dq_2 cX2_fixFrom 27 180 18 && (dq_0 cX2_fixFrom 30 27 && (dq_0 cX2_fixFrom 31 46)))))))))) = true := by decide +kernel
theorem dX2_fixFrom_16 : decode cX2_fixFrom 16 = .ok (.iload_n 1, 1) := dq_i27 (dl_b dkX2_fixFrom_16).1
theorem dX2_fixFrom_17 : decode cX2_fixFrom 17 = .ok (.iaload, 1) := dq_i46 (dl_b (dl_b dkX2_fixFrom_16).2).1
theorem dX2_fixFrom_18 : decode cX2_fixFrom 18 = .ok (.iload_n 2, 1) := dq_i28 (dl_b (dl_b (dl_b dkX2_fixFrom_16).2).2).1
theorem dX2_fixFrom_19 : decode cX2_fixFrom 19 = .ok (.if_icmp .ne 23, 3) := dq_i160 (dl_b (dl_b (dl_b (dl_b dkX2_fixFrom_16).2).2).2).1
theorem dX2_fixFrom_22 : decode cX2_fixFrom 22 = .ok (.iload_n 3, 1) := dq_i29 (dl_b (dl_b (dl_b (dl_b (dl_b dkX2_fixFrom_16).2).2).2).2).1
theorem dX2_fixFrom_23 : decode cX2_fixFrom 23 = .ok (.ifCond .eq 12, 3) := dq_i153 (dl_b (dl_b (dl_b (dl_b (dl_b (dl_b dkX2_fixFrom_16).2).2).2).2).2).1
theorem dX2_fixFrom_26 : decode cX2_fixFrom 26 = .ok (.aload_n 0, 1) := dq_i42 (dl_b (dl_b (dl_b (dl_b (dl_b (dl_b (dl_b dkX2_fixFrom_16).2).2).2).2).2).2).1
theorem dX2_fixFrom_27 : decode cX2_fixFrom 27 = .ok (.getfield 18, 3) := dq_i180 (dl_b (dl_b (dl_b (dl_b (dl_b (dl_b (dl_b (dl_b dkX2_fixFrom_16).2).2).2).2).2).2).2).1
theorem dX2_fixFrom_30 : decode cX2_fixFrom 30 = .ok (.iload_n 1, 1) := dq_i27 (dl_b (dl_b (dl_b (dl_b (dl_b (dl_b (dl_b (dl_b (dl_b dkX2_fixFrom_16).2).2).2).2).2).2).2).2).1
theorem dX2_fixFrom_31 : decode cX2_fixFrom 31 = .ok (.iaload, 1) := dq_i46 (dl_b (dl_b (dl_b (dl_b (dl_b (dl_b (dl_b (dl_b (dl_b dkX2_fixFrom_16).2).2).2).2).2).2).2).2).2
theorem dkX2_fixFrom_32 : (dq_4 cX2_fixFrom 32 167 9 && (dq_0 cX2_fixFrom 35 42 && (dq_2 cX2_fixFrom 36 180 15 && (dq_0 cX2_fixFrom 39 27 && (dq_0 cX2_fixFrom 40 46 && (dq_0 cX2_fixFrom 41 172 && (dq_1 cX2_fixFrom 42 21 4 && (dq_3 cX2_fixFrom 44 16 8 && (dq_4 cX2_fixFrom 46 161 5 && (dq_0 cX2_fixFrom 51 42)))))))))) = true := by decide +kernel
theorem dX2_fixFrom_32 : decode cX2_fixFrom 32 = .ok (.goto 9, 3) := dq_i167 (dl_b dkX2_fixFrom_32).1
theorem dX2_fixFrom_35 : decode cX2_fixFrom 35 = .ok (.aload_n 0, 1) := dq_i42 (dl_b (dl_b dkX2_fixFrom_32).2).1
theorem dX2_fixFrom_36 : decode cX2_fixFrom 36 = .ok (.getfield 15, 3) := dq_i180 (dl_b (dl_b (dl_b dkX2_fixFrom_32).2).2).1
theorem dX2_fixFrom_39 : decode cX2_fixFrom 39 = .ok (.iload_n 1, 1) := dq_i27 (dl_b (dl_b (dl_b (dl_b dkX2_fixFrom_32).2).2).2).1
theorem dX2_fixFrom_40 : decode cX2_fixFrom 40 = .ok (.iaload, 1) := dq_i46 (dl_b (dl_b (dl_b (dl_b (dl_b dkX2_fixFrom_32).2).2).2).2).1
theorem dX2_fixFrom_41 : decode cX2_fixFrom 41 = .ok (.ireturn, 1) := dq_i172 (dl_b (dl_b (dl_b (dl_b (dl_b (dl_b dkX2_fixFrom_32).2).2).2).2).2).1
theorem dX2_fixFrom_42 : decode cX2_fixFrom 42 = .ok (.iload 4, 2) := dq_i21 (dl_b (dl_b (dl_b (dl_b (dl_b (dl_b (dl_b dkX2_fixFrom_32).2).2).2).2).2).2).1
theorem dX2_fixFrom_44 : decode cX2_fixFrom 44 = .ok (.bipush 8, 2) := dq_i16 (dl_b (dl_b (dl_b (dl_b (dl_b (dl_b (dl_b (dl_b dkX2_fixFrom_32).2).2).2).2).2).2).2).1
theorem dX2_fixFrom_46 : decode cX2_fixFrom 46 = .ok (.if_icmp .lt 5, 3) := dq_i161 (dl_b (dl_b (dl_b (dl_b (dl_b (dl_b (dl_b (dl_b (dl_b dkX2_fixFrom_32).2).2).2).2).2).2).2).2).1
theorem dX2_fixFrom_51 : decode cX2_fixFrom 51 = .ok (.aload_n 0, 1) := dq_i42 (dl_b (dl_b (dl_b (dl_b (dl_b (dl_b (dl_b (dl_b (dl_b dkX2_fixFrom_32).2).2).2).2).2).2).2).2).2
theorem dkX2_fixFrom_52 : (dq_0 cX2_fixFrom 52 42 && (dq_2 cX2_fixFrom 53 180 15 && (dq_0 cX2_fixFrom 56 27 && (dq_0 cX2_fixFrom 57 46 && (dq_0 cX2_fixFrom 58 28 && (dq_0 cX2_fixFrom 59 29 && (dq_1 cX2_fixFrom 60 21 4 && (dq_0 cX2_fixFrom 62 4 && (dq_0 cX2_fixFrom 63 96 && (dq_2 cX2_fixFrom 64 182 91)))))))))) = true := by decide +kernel
theorem dX2_fixFrom_52 : decode cX2_fixFrom 52 = .ok (.aload_n 0, 1) := dq_i42 (dl_b dkX2_fixFrom_52).1
theorem dX2_fixFrom_53 : decode cX2_fixFrom 53 = .ok (.getfield 15, 3) := dq_i180 (dl_b (dl_b dkX2_fixFrom_52).2).1
theorem dX2_fixFrom_56 : decode cX2_fixFrom 56 = .ok (.iload_n 1, 1) := dq_i27 (dl_b (dl_b (dl_b dkX2_fixFrom_52).2).2).1
theorem dX2_fixFrom_57 : decode cX2_fixFrom 57 = .ok (.iaload, 1) := dq_i46 (dl_b (dl_b (dl_b (dl_b dkX2_fixFrom_52).2).2).2).1
theorem dX2_fixFrom_58 : decode cX2_fixFrom 58 = .ok (.iload_n 2, 1) := dq_i28 (dl_b (dl_b (dl_b (dl_b (dl_b dkX2_fixFrom_52).2).2).2).2).1
theorem dX2_fixFrom_59 : decode cX2_fixFrom 59 = .ok (.iload_n 3, 1) := dq_i29 (dl_b (dl_b (dl_b (dl_b (dl_b (dl_b dkX2_fixFrom_52).2).2).2).2).2).1
theorem dX2_fixFrom_60 : decode cX2_fixFrom 60 = .ok (.iload 4, 2) := dq_i21 (dl_b (dl_b (dl_b (dl_b (dl_b (dl_b (dl_b dkX2_fixFrom_52).2).2).2).2).2).2).1
theorem dX2_fixFrom_62 : decode cX2_fixFrom 62 = .ok (.iconst 1, 1) := dq_i4 (dl_b (dl_b (dl_b (dl_b (dl_b (dl_b (dl_b (dl_b dkX2_fixFrom_52).2).2).2).2).2).2).2).1
theorem dX2_fixFrom_63 : decode cX2_fixFrom 63 = .ok (.iadd, 1) := dq_i96 (dl_b (dl_b (dl_b (dl_b (dl_b (dl_b (dl_b (dl_b (dl_b dkX2_fixFrom_52).2).2).2).2).2).2).2).2).1
theorem dX2_fixFrom_64 : decode cX2_fixFrom 64 = .ok (.invokevirtual 91, 3) := dq_i182 (dl_b (dl_b (dl_b (dl_b (dl_b (dl_b (dl_b (dl_b (dl_b dkX2_fixFrom_52).2).2).2).2).2).2).2).2).2
theorem dkX2_fixFrom_67 : (dq_1 cX2_fixFrom 67 54 5 && (dq_1 cX2_fixFrom 69 21 5 && (dq_0 cX2_fixFrom 71 2 && (dq_4 cX2_fixFrom 72 160 5 && (dq_0 cX2_fixFrom 75 2 && (dq_0 cX2_fixFrom 76 172 && (dq_0 cX2_fixFrom 77 42 && (dq_0 cX2_fixFrom 78 42 && (dq_2 cX2_fixFrom 79 180 18 && (dq_0 cX2_fixFrom 82 27)))))))))) = true := by decide +kernel
theorem dX2_fixFrom_67 : decode cX2_fixFrom 67 = .ok (.istore 5, 2) := dq_i54 (dl_b dkX2_fixFrom_67).1
theorem dX2_fixFrom_69 : decode cX2_fixFrom 69 = .ok (.iload 5, 2) := dq_i21 (dl_b (dl_b dkX2_fixFrom_67).2).1
theorem dX2_fixFrom_71 : decode cX2_fixFrom 71 = .ok (.iconst (-1), 1) := dq_i2 (dl_b (dl_b (dl_b dkX2_fixFrom_67).2).2).1
theorem dX2_fixFrom_72 : decode cX2_fixFrom 72 = .ok (.if_icmp .ne 5, 3) := dq_i160 (dl_b (dl_b (dl_b (dl_b dkX2_fixFrom_67).2).2).2).1
theorem dX2_fixFrom_75 : decode cX2_fixFrom 75 = .ok (.iconst (-1), 1) := dq_i2 (dl_b (dl_b (dl_b (dl_b (dl_b dkX2_fixFrom_67).2).2).2).2).1
theorem dX2_fixFrom_76 : decode cX2_fixFrom 76 = .ok (.ireturn, 1) := dq_i172 (dl_b (dl_b (dl_b (dl_b (dl_b (dl_b dkX2_fixFrom_67).2).2).2).2).2).1
theorem dX2_fixFrom_77 : decode cX2_fixFrom 77 = .ok (.aload_n 0, 1) := dq_i42 (dl_b (dl_b (dl_b (dl_b (dl_b (dl_b (dl_b dkX2_fixFrom_67).2).2).2).2).2).2).1
theorem dX2_fixFrom_78 : decode cX2_fixFrom 78 = .ok (.aload_n 0, 1) := dq_i42 (dl_b (dl_b (dl_b (dl_b (dl_b (dl_b (dl_b (dl_b dkX2_fixFrom_67).2).2).2).2).2).2).2).1
theorem dX2_fixFrom_79 : decode cX2_fixFrom 79 = .ok (.getfield 18, 3) := dq_i180 (dl_b (dl_b (dl_b (dl_b (dl_b (dl_b (dl_b (dl_b (dl_b dkX2_fixFrom_67).2).2).2).2).2).2).2).2).1
theorem dX2_fixFrom_82 : decode cX2_fixFrom 82 = .ok (.iload_n 1, 1) := dq_i27 (dl_b (dl_b (dl_b (dl_b (dl_b (dl_b (dl_b (dl_b (dl_b dkX2_fixFrom_67).2).2).2).2).2).2).2).2).2
theorem dkX2_fixFrom_83 : (dq_0 cX2_fixFrom 83 46 && (dq_0 cX2_fixFrom 84 28 && (dq_0 cX2_fixFrom 85 29 && (dq_1 cX2_fixFrom 86 21 4 && (dq_0 cX2_fixFrom 88 4 && (dq_0 cX2_fixFrom 89 96 && (dq_2 cX2_fixFrom 90 182 91 && (dq_1 cX2_fixFrom 93 54 6 && (dq_0 cX2_fixFrom 95 42 && (dq_0 cX2_fixFrom 96 42)))))))))) = true := by decide +kernel
theorem dX2_fixFrom_83 : decode cX2_fixFrom 83 = .ok (.iaload, 1) := dq_i46 (dl_b dkX2_fixFrom_83).1
theorem dX2_fixFrom_84 : decode cX2_fixFrom 84 = .ok (.iload_n 2, 1) := dq_i28 (dl_b (dl_b dkX2_fixFrom_83).2).1
theorem dX2_fixFrom_85 : decode cX2_fixFrom 85 = .ok (.iload_n 3, 1) := dq_i29 (dl_b (dl_b (dl_b dkX2_fixFrom_83).2).2).1
theorem dX2_fixFrom_86 : decode cX2_fixFrom 86 = .ok (.iload 4, 2) := dq_i21 (dl_b (dl_b (dl_b (dl_b dkX2_fixFrom_83).2).2).2).1
theorem dX2_fixFrom_88 : decode cX2_fixFrom 88 = .ok (.iconst 1, 1) := dq_i4 (dl_b (dl_b (dl_b (dl_b (dl_b dkX2_fixFrom_83).2).2).2).2).1
theorem dX2_fixFrom_89 : decode cX2_fixFrom 89 = .ok (.iadd, 1) := dq_i96 (dl_b (dl_b (dl_b (dl_b (dl_b (dl_b dkX2_fixFrom_83).2).2).2).2).2).1
theorem dX2_fixFrom_90 : decode cX2_fixFrom 90 = .ok (.invokevirtual 91, 3) := dq_i182 (dl_b (dl_b (dl_b (dl_b (dl_b (dl_b (dl_b dkX2_fixFrom_83).2).2).2).2).2).2).1
theorem dX2_fixFrom_93 : decode cX2_fixFrom 93 = .ok (.istore 6, 2) := dq_i54 (dl_b (dl_b (dl_b (dl_b (dl_b (dl_b (dl_b (dl_b dkX2_fixFrom_83).2).2).2).2).2).2).2).1
theorem dX2_fixFrom_95 : decode cX2_fixFrom 95 = .ok (.aload_n 0, 1) := dq_i42 (dl_b (dl_b (dl_b (dl_b (dl_b (dl_b (dl_b (dl_b (dl_b dkX2_fixFrom_83).2).2).2).2).2).2).2).2).1
theorem dX2_fixFrom_96 : decode cX2_fixFrom 96 = .ok (.aload_n 0, 1) := dq_i42 (dl_b (dl_b (dl_b (dl_b (dl_b (dl_b (dl_b (dl_b (dl_b dkX2_fixFrom_83).2).2).2).2).2).2).2).2).2
theorem dkX2_fixFrom_97 : (dq_2 cX2_fixFrom 97 180 11 && (dq_0 cX2_fixFrom 100 27 && (dq_0 cX2_fixFrom 101 46 && (dq_1 cX2_fixFrom 102 21 5 && (dq_1 cX2_fixFrom 104 21 6 && (dq_2 cX2_fixFrom 106 182 67 && (dq_0 cX2_fixFrom 109 172))))))) = true := by decide +kernel
theorem dX2_fixFrom_97 : decode cX2_fixFrom 97 = .ok (.getfield 11, 3) := dq_i180 (dl_b dkX2_fixFrom_97).1
theorem dX2_fixFrom_100 : decode cX2_fixFrom 100 = .ok (.iload_n 1, 1) := dq_i27 (dl_b (dl_b dkX2_fixFrom_97).2).1
theorem dX2_fixFrom_101 : decode cX2_fixFrom 101 = .ok (.iaload, 1) := dq_i46 (dl_b (dl_b (dl_b dkX2_fixFrom_97).2).2).1
theorem dX2_fixFrom_102 : decode cX2_fixFrom 102 = .ok (.iload 5, 2) := dq_i21 (dl_b (dl_b (dl_b (dl_b dkX2_fixFrom_97).2).2).2).1
theorem dX2_fixFrom_104 : decode cX2_fixFrom 104 = .ok (.iload 6, 2) := dq_i21 (dl_b (dl_b (dl_b (dl_b (dl_b dkX2_fixFrom_97).2).2).2).2).1
theorem dX2_fixFrom_106 : decode cX2_fixFrom 106 = .ok (.invokevirtual 67, 3) := dq_i182 (dl_b (dl_b (dl_b (dl_b (dl_b (dl_b dkX2_fixFrom_97).2).2).2).2).2).1
theorem dX2_fixFrom_109 : decode cX2_fixFrom 109 = .ok (.ireturn, 1) := dq_i172 (dl_b (dl_b (dl_b (dl_b (dl_b (dl_b dkX2_fixFrom_97).2).2).2).2).2).2
theorem dkX2_nodeFor_0 : (dq_0 cX2_nodeFor 0 29 && (dq_0 cX2_nodeFor 1 2 && (dq_4 cX2_nodeFor 2 159 8 && (dq_0 cX2_nodeFor 5 28 && (dq_0 cX2_nodeFor 6 29 && (dq_4 cX2_nodeFor 7 160 5 && (dq_0 cX2_nodeFor 10 29 && (dq_0 cX2_nodeFor 11 172 && (dq_0 cX2_nodeFor 12 42 && (dq_2 cX2_nodeFor 13 180 27)))))))))) = true := by decide +kernel
theorem dX2_nodeFor_0 : decode cX2_nodeFor 0 = .ok (.iload_n 3, 1) := dq_i29 (dl_b dkX2_nodeFor_0).1
theorem dX2_nodeFor_1 : decode cX2_nodeFor 1 = .ok (.iconst (-1), 1) := dq_i2 (dl_b (dl_b dkX2_nodeFor_0).2).1
theorem dX2_nodeFor_2 : decode cX2_nodeFor 2 = .ok (.if_icmp .eq 8, 3) := dq_i159 (dl_b (dl_b (dl_b dkX2_nodeFor_0).2).2).1
theorem dX2_nodeFor_5 : decode cX2_nodeFor 5 = .ok (.iload_n 2, 1) := dq_i28 (dl_b (dl_b (dl_b (dl_b dkX2_nodeFor_0).2).2).2).1
theorem dX2_nodeFor_6 : decode cX2_nodeFor 6 = .ok (.iload_n 3, 1) := dq_i29 (dl_b (dl_b (dl_b (dl_b (dl_b dkX2_nodeFor_0).2).2).2).2).1
theorem dX2_nodeFor_7 : decode cX2_nodeFor 7 = .ok (.if_icmp .ne 5, 3) := dq_i160 (dl_b (dl_b (dl_b (dl_b (dl_b (dl_b dkX2_nodeFor_0).2).2).2).2).2).1
theorem dX2_nodeFor_10 : decode cX2_nodeFor 10 = .ok (.iload_n 3, 1) := dq_i29 (dl_b (dl_b (dl_b (dl_b (dl_b (dl_b (dl_b dkX2_nodeFor_0).2).2).2).2).2).2).1
theorem dX2_nodeFor_11 : decode cX2_nodeFor 11 = .ok (.ireturn, 1) := dq_i172 (dl_b (dl_b (dl_b (dl_b (dl_b (dl_b (dl_b (dl_b dkX2_nodeFor_0).2).2).2).2).2).2).2).1
theorem dX2_nodeFor_12 : decode cX2_nodeFor 12 = .ok (.aload_n 0, 1) := dq_i42 (dl_b (dl_b (dl_b (dl_b (dl_b (dl_b (dl_b (dl_b (dl_b dkX2_nodeFor_0).2).2).2).2).2).2).2).2).1
theorem dX2_nodeFor_13 : decode cX2_nodeFor 13 = .ok (.getfield 27, 3) := dq_i180 (dl_b (dl_b (dl_b (dl_b (dl_b (dl_b (dl_b (dl_b (dl_b dkX2_nodeFor_0).2).2).2).2).2).2).2).2).2
theorem dkX2_nodeFor_16 : (dq_0 cX2_nodeFor 16 28 && (dq_0 cX2_nodeFor 17 29 && (dq_0 cX2_nodeFor 18 130 && (dq_0 cX2_nodeFor 19 46 && (dq_1 cX2_nodeFor 20 54 4 && (dq_0 cX2_nodeFor 22 3 && (dq_1 cX2_nodeFor 23 54 5 && (dq_1 cX2_nodeFor 25 21 4 && (dq_0 cX2_nodeFor 27 2 && (dq_4 cX2_nodeFor 28 159 62)))))))))) = true := by decide +kernel
theorem dX2_nodeFor_16 : decode cX2_nodeFor 16 = .ok (.iload_n 2, 1) := dq_i28 (dl_b dkX2_nodeFor_16).1
theorem dX2_nodeFor_17 : decode cX2_nodeFor 17 = .ok (.iload_n 3, 1) := dq_i29 (dl_b (dl_b dkX2_nodeFor_16).2).1
theorem dX2_nodeFor_18 : decode cX2_nodeFor 18 = .ok (.ixor, 1) := dq_i130 (dl_b (dl_b (dl_b dkX2_nodeFor_16).2).2).1
theorem dX2_nodeFor_19 : decode cX2_nodeFor 19 = .ok (.iaload, 1) := dq_i46 (dl_b (dl_b (dl_b (dl_b dkX2_nodeFor_16).2).2).2).1
theorem dX2_nodeFor_20 : decode cX2_nodeFor 20 = .ok (.istore 4, 2) := dq_i54 (dl_b (dl_b (dl_b (dl_b (dl_b dkX2_nodeFor_16).2).2).2).2).1
theorem dX2_nodeFor_22 : decode cX2_nodeFor 22 = .ok (.iconst 0, 1) := dq_i3 (dl_b (dl_b (dl_b (dl_b (dl_b (dl_b dkX2_nodeFor_16).2).2).2).2).2).1
theorem dX2_nodeFor_23 : decode cX2_nodeFor 23 = .ok (.istore 5, 2) := dq_i54 (dl_b (dl_b (dl_b (dl_b (dl_b (dl_b (dl_b dkX2_nodeFor_16).2).2).2).2).2).2).1
theorem dX2_nodeFor_25 : decode cX2_nodeFor 25 = .ok (.iload 4, 2) := dq_i21 (dl_b (dl_b (dl_b (dl_b (dl_b (dl_b (dl_b (dl_b dkX2_nodeFor_16).2).2).2).2).2).2).2).1
theorem dX2_nodeFor_27 : decode cX2_nodeFor 27 = .ok (.iconst (-1), 1) := dq_i2 (dl_b (dl_b (dl_b (dl_b (dl_b (dl_b (dl_b (dl_b (dl_b dkX2_nodeFor_16).2).2).2).2).2).2).2).2).1
theorem dX2_nodeFor_28 : decode cX2_nodeFor 28 = .ok (.if_icmp .eq 62, 3) := dq_i159 (dl_b (dl_b (dl_b (dl_b (dl_b (dl_b (dl_b (dl_b (dl_b dkX2_nodeFor_16).2).2).2).2).2).2).2).2).2
theorem dkX2_nodeFor_31 : (dq_1 cX2_nodeFor 31 21 5 && (dq_4 cX2_nodeFor 33 17 252 && (dq_4 cX2_nodeFor 36 162 54 && (dq_0 cX2_nodeFor 39 42 && (dq_2 cX2_nodeFor 40 180 11 && (dq_1 cX2_nodeFor 43 21 4 && (dq_0 cX2_nodeFor 45 46 && (dq_0 cX2_nodeFor 46 27 && (dq_4 cX2_nodeFor 47 160 28 && (dq_0 cX2_nodeFor 50 42)))))))))) = true := by decide +kernel
theorem dX2_nodeFor_31 : decode cX2_nodeFor 31 = .ok (.iload 5, 2) := dq_i21 (dl_b dkX2_nodeFor_31).1
theorem dX2_nodeFor_33 : decode cX2_nodeFor 33 = .ok (.sipush 252, 3) := dq_i17 (dl_b (dl_b dkX2_nodeFor_31).2).1
theorem dX2_nodeFor_36 : decode cX2_nodeFor 36 = .ok (.if_icmp .ge 54, 3) := dq_i162 (dl_b (dl_b (dl_b dkX2_nodeFor_31).2).2).1
theorem dX2_nodeFor_39 : decode cX2_nodeFor 39 = .ok (.aload_n 0, 1) := dq_i42 (dl_b (dl_b (dl_b (dl_b dkX2_nodeFor_31).2).2).2).1
theorem dX2_nodeFor_40 : decode cX2_nodeFor 40 = .ok (.getfield 11, 3) := dq_i180 (dl_b (dl_b (dl_b (dl_b (dl_b dkX2_nodeFor_31).2).2).2).2).1
theorem dX2_nodeFor_43 : decode cX2_nodeFor 43 = .ok (.iload 4, 2) := dq_i21 (dl_b (dl_b (dl_b (dl_b (dl_b (dl_b dkX2_nodeFor_31).2).2).2).2).2).1
theorem dX2_nodeFor_45 : decode cX2_nodeFor 45 = .ok (.iaload, 1) := dq_i46 (dl_b (dl_b (dl_b (dl_b (dl_b (dl_b (dl_b dkX2_nodeFor_31).2).2).2).2).2).2).1
theorem dX2_nodeFor_46 : decode cX2_nodeFor 46 = .ok (.iload_n 1, 1) := dq_i27 (dl_b (dl_b (dl_b (dl_b (dl_b (dl_b (dl_b (dl_b dkX2_nodeFor_31).2).2).2).2).2).2).2).1
theorem dX2_nodeFor_47 : decode cX2_nodeFor 47 = .ok (.if_icmp .ne 28, 3) := dq_i160 (dl_b (dl_b (dl_b (dl_b (dl_b (dl_b (dl_b (dl_b (dl_b dkX2_nodeFor_31).2).2).2).2).2).2).2).2).1
theorem dX2_nodeFor_50 : decode cX2_nodeFor 50 = .ok (.aload_n 0, 1) := dq_i42 (dl_b (dl_b (dl_b (dl_b (dl_b (dl_b (dl_b (dl_b (dl_b dkX2_nodeFor_31).2).2).2).2).2).2).2).2).2
theorem dkX2_nodeFor_51 : (dq_2 cX2_nodeFor 51 180 15 && (dq_1 cX2_nodeFor 54 21 4 && (dq_0 cX2_nodeFor 56 46 && (dq_0 cX2_nodeFor 57 28 && (dq_4 cX2_nodeFor 58 160 17 && (dq_0 cX2_nodeFor 61 42 && (dq_2 cX2_nodeFor 62 180 18 && (dq_1 cX2_nodeFor 65 21 4 && (dq_0 cX2_nodeFor 67 46 && (dq_0 cX2_nodeFor 68 29)))))))))) = true := by decide +kernel
theorem dX2_nodeFor_51 : decode cX2_nodeFor 51 = .ok (.getfield 15, 3) := dq_i180 (dl_b dkX2_nodeFor_51).1
theorem dX2_nodeFor_54 : decode cX2_nodeFor 54 = .ok (.iload 4, 2) := dq_i21 (dl_b (dl_b dkX2_nodeFor_51).2).1
theorem dX2_nodeFor_56 : decode cX2_nodeFor 56 = .ok (.iaload, 1) := dq_i46 (dl_b (dl_b (dl_b dkX2_nodeFor_51).2).2).1
theorem dX2_nodeFor_57 : decode cX2_nodeFor 57 = .ok (.iload_n 2, 1) := dq_i28 (dl_b (dl_b (dl_b (dl_b dkX2_nodeFor_51).2).2).2).1
theorem dX2_nodeFor_58 : decode cX2_nodeFor 58 = .ok (.if_icmp .ne 17, 3) := dq_i160 (dl_b (dl_b (dl_b (dl_b (dl_b dkX2_nodeFor_51).2).2).2).2).1
theorem dX2_nodeFor_61 : decode cX2_nodeFor 61 = .ok (.aload_n 0, 1) := dq_i42 (dl_b (dl_b (dl_b (dl_b (dl_b (dl_b dkX2_nodeFor_51).2).2).2).2).2).1
theorem dX2_nodeFor_62 : decode cX2_nodeFor 62 = .ok (.getfield 18, 3) := dq_i180 (dl_b (dl_b (dl_b (dl_b (dl_b (dl_b (dl_b dkX2_nodeFor_51).2).2).2).2).2).2).1
theorem dX2_nodeFor_65 : decode cX2_nodeFor 65 = .ok (.iload 4, 2) := dq_i21 (dl_b (dl_b (dl_b (dl_b (dl_b (dl_b (dl_b (dl_b dkX2_nodeFor_51).2).2).2).2).2).2).2).1
theorem dX2_nodeFor_67 : decode cX2_nodeFor 67 = .ok (.iaload, 1) := dq_i46 (dl_b (dl_b (dl_b (dl_b (dl_b (dl_b (dl_b (dl_b (dl_b dkX2_nodeFor_51).2).2).2).2).2).2).2).2).1
theorem dX2_nodeFor_68 : decode cX2_nodeFor 68 = .ok (.iload_n 3, 1) := dq_i29 (dl_b (dl_b (dl_b (dl_b (dl_b (dl_b (dl_b (dl_b (dl_b dkX2_nodeFor_51).2).2).2).2).2).2).2).2).2
theorem dkX2_nodeFor_69 : (dq_4 cX2_nodeFor 69 160 6 && (dq_1 cX2_nodeFor 72 21 4 && (dq_0 cX2_nodeFor 74 172 && (dq_0 cX2_nodeFor 75 42 && (dq_2 cX2_nodeFor 76 180 24 && (dq_1 cX2_nodeFor 79 21 4 && (dq_0 cX2_nodeFor 81 46 && (dq_1 cX2_nodeFor 82 54 4 && (dq_5 cX2_nodeFor 84 132 5 1 && (dq_4 cX2_nodeFor 87 167 (-62))))))))))) = true := by decide +kernel
theorem dX2_nodeFor_69 : decode cX2_nodeFor 69 = .ok (.if_icmp .ne 6, 3) := dq_i160 (dl_b dkX2_nodeFor_69).1
theorem dX2_nodeFor_72 : decode cX2_nodeFor 72 = .ok (.iload 4, 2) := dq_i21 (dl_b (dl_b dkX2_nodeFor_69).2).1
theorem dX2_nodeFor_74 : decode cX2_nodeFor 74 = .ok (.ireturn, 1) := dq_i172 (dl_b (dl_b (dl_b dkX2_nodeFor_69).2).2).1
theorem dX2_nodeFor_75 : decode cX2_nodeFor 75 = .ok (.aload_n 0, 1) := dq_i42 (dl_b (dl_b (dl_b (dl_b dkX2_nodeFor_69).2).2).2).1
theorem dX2_nodeFor_76 : decode cX2_nodeFor 76 = .ok (.getfield 24, 3) := dq_i180 (dl_b (dl_b (dl_b (dl_b (dl_b dkX2_nodeFor_69).2).2).2).2).1
theorem dX2_nodeFor_79 : decode cX2_nodeFor 79 = .ok (.iload 4, 2) := dq_i21 (dl_b (dl_b (dl_b (dl_b (dl_b (dl_b dkX2_nodeFor_69).2).2).2).2).2).1
theorem dX2_nodeFor_81 : decode cX2_nodeFor 81 = .ok (.iaload, 1) := dq_i46 (dl_b (dl_b (dl_b (dl_b (dl_b (dl_b (dl_b dkX2_nodeFor_69).2).2).2).2).2).2).1
theorem dX2_nodeFor_82 : decode cX2_nodeFor 82 = .ok (.istore 4, 2) := dq_i54 (dl_b (dl_b (dl_b (dl_b (dl_b (dl_b (dl_b (dl_b dkX2_nodeFor_69).2).2).2).2).2).2).2).1
theorem dX2_nodeFor_84 : decode cX2_nodeFor 84 = .ok (.iinc 5 1, 3) := dq_i132 (dl_b (dl_b (dl_b (dl_b (dl_b (dl_b (dl_b (dl_b (dl_b dkX2_nodeFor_69).2).2).2).2).2).2).2).2).1
theorem dX2_nodeFor_87 : decode cX2_nodeFor 87 = .ok (.goto (-62), 3) := dq_i167 (dl_b (dl_b (dl_b (dl_b (dl_b (dl_b (dl_b (dl_b (dl_b dkX2_nodeFor_69).2).2).2).2).2).2).2).2).2
theorem dkX2_nodeFor_90 : (dq_0 cX2_nodeFor 90 42 && (dq_2 cX2_nodeFor 91 180 30 && (dq_1 cX2_nodeFor 94 54 4 && (dq_0 cX2_nodeFor 96 42 && (dq_2 cX2_nodeFor 97 180 34 && (dq_0 cX2_nodeFor 100 42 && (dq_2 cX2_nodeFor 101 180 37 && (dq_4 cX2_nodeFor 104 162 9 && (dq_1 cX2_nodeFor 107 21 4 && (dq_0 cX2_nodeFor 109 2)))))))))) = true := by decide +kernel
theorem dX2_nodeFor_90 : decode cX2_nodeFor 90 = .ok (.aload_n 0, 1) := dq_i42 (dl_b dkX2_nodeFor_90).1
theorem dX2_nodeFor_91 : decode cX2_nodeFor 91 = .ok (.getfield 30, 3) := dq_i180 (dl_b (dl_b dkX2_nodeFor_90).2).1
theorem dX2_nodeFor_94 : decode cX2_nodeFor 94 = .ok (.istore 4, 2) := dq_i54 (dl_b (dl_b (dl_b dkX2_nodeFor_90).2).2).1
theorem dX2_nodeFor_96 : decode cX2_nodeFor 96 = .ok (.aload_n 0, 1) := dq_i42 (dl_b (dl_b (dl_b (dl_b dkX2_nodeFor_90).2).2).2).1
theorem dX2_nodeFor_97 : decode cX2_nodeFor 97 = .ok (.getfield 34, 3) := dq_i180 (dl_b (dl_b (dl_b (dl_b (dl_b dkX2_nodeFor_90).2).2).2).2).1
theorem dX2_nodeFor_100 : decode cX2_nodeFor 100 = .ok (.aload_n 0, 1) := dq_i42 (dl_b (dl_b (dl_b (dl_b (dl_b (dl_b dkX2_nodeFor_90).2).2).2).2).2).1
theorem dX2_nodeFor_101 : decode cX2_nodeFor 101 = .ok (.getfield 37, 3) := dq_i180 (dl_b (dl_b (dl_b (dl_b (dl_b (dl_b (dl_b dkX2_nodeFor_90).2).2).2).2).2).2).1
theorem dX2_nodeFor_104 : decode cX2_nodeFor 104 = .ok (.if_icmp .ge 9, 3) := dq_i162 (dl_b (dl_b (dl_b (dl_b (dl_b (dl_b (dl_b (dl_b dkX2_nodeFor_90).2).2).2).2).2).2).2).1
theorem dX2_nodeFor_107 : decode cX2_nodeFor 107 = .ok (.iload 4, 2) := dq_i21 (dl_b (dl_b (dl_b (dl_b (dl_b (dl_b (dl_b (dl_b (dl_b dkX2_nodeFor_90).2).2).2).2).2).2).2).2).1
theorem dX2_nodeFor_109 : decode cX2_nodeFor 109 = .ok (.iconst (-1), 1) := dq_i2 (dl_b (dl_b (dl_b (dl_b (dl_b (dl_b (dl_b (dl_b (dl_b dkX2_nodeFor_90).2).2).2).2).2).2).2).2).2
theorem dkX2_nodeFor_110 : (dq_4 cX2_nodeFor 110 160 5 && (dq_0 cX2_nodeFor 113 2 && (dq_0 cX2_nodeFor 114 172 && (dq_0 cX2_nodeFor 115 42 && (dq_0 cX2_nodeFor 116 42 && (dq_2 cX2_nodeFor 117 180 24 && (dq_1 cX2_nodeFor 120 21 4 && (dq_0 cX2_nodeFor 122 46 && (dq_2 cX2_nodeFor 123 181 30 && (dq_0 cX2_nodeFor 126 42)))))))))) = true := by decide +kernel
theorem dX2_nodeFor_110 : decode cX2_nodeFor 110 = .ok (.if_icmp .ne 5, 3) := dq_i160 (dl_b dkX2_nodeFor_110).1
theorem dX2_nodeFor_113 : decode cX2_nodeFor 113 = .ok (.iconst (-1), 1) := dq_i2 (dl_b (dl_b dkX2_nodeFor_110).2).1
theorem dX2_nodeFor_114 : decode cX2_nodeFor 114 = .ok (.ireturn, 1) := dq_i172 (dl_b (dl_b (dl_b dkX2_nodeFor_110).2).2).1
theorem dX2_nodeFor_115 : decode cX2_nodeFor 115 = .ok (.aload_n 0, 1) := dq_i42 (dl_b (dl_b (dl_b (dl_b dkX2_nodeFor_110).2).2).2).1
theorem dX2_nodeFor_116 : decode cX2_nodeFor 116 = .ok (.aload_n 0, 1) := dq_i42 (dl_b (dl_b (dl_b (dl_b (dl_b dkX2_nodeFor_110).2).2).2).2).1
theorem dX2_nodeFor_117 : decode cX2_nodeFor 117 = .ok (.getfield 24, 3) := dq_i180 (dl_b (dl_b (dl_b (dl_b (dl_b (dl_b dkX2_nodeFor_110).2).2).2).2).2).1
theorem dX2_nodeFor_120 : decode cX2_nodeFor 120 = .ok (.iload 4, 2) := dq_i21 (dl_b (dl_b (dl_b (dl_b (dl_b (dl_b (dl_b dkX2_nodeFor_110).2).2).2).2).2).2).1
theorem dX2_nodeFor_122 : decode cX2_nodeFor 122 = .ok (.iaload, 1) := dq_i46 (dl_b (dl_b (dl_b (dl_b (dl_b (dl_b (dl_b (dl_b dkX2_nodeFor_110).2).2).2).2).2).2).2).1
theorem dX2_nodeFor_123 : decode cX2_nodeFor 123 = .ok (.putfield 30, 3) := dq_i181 (dl_b (dl_b (dl_b (dl_b (dl_b (dl_b (dl_b (dl_b (dl_b dkX2_nodeFor_110).2).2).2).2).2).2).2).2).1
theorem dX2_nodeFor_126 : decode cX2_nodeFor 126 = .ok (.aload_n 0, 1) := dq_i42 (dl_b (dl_b (dl_b (dl_b (dl_b (dl_b (dl_b (dl_b (dl_b dkX2_nodeFor_110).2).2).2).2).2).2).2).2).2
theorem dkX2_nodeFor_127 : (dq_2 cX2_nodeFor 127 180 11 && (dq_1 cX2_nodeFor 130 21 4 && (dq_0 cX2_nodeFor 132 27 && (dq_0 cX2_nodeFor 133 79 && (dq_0 cX2_nodeFor 134 42 && (dq_2 cX2_nodeFor 135 180 15 && (dq_1 cX2_nodeFor 138 21 4 && (dq_0 cX2_nodeFor 140 28 && (dq_0 cX2_nodeFor 141 79 && (dq_0 cX2_nodeFor 142 42)))))))))) = true := by decide +kernel
theorem dX2_nodeFor_127 : decode cX2_nodeFor 127 = .ok (.getfield 11, 3) := dq_i180 (dl_b dkX2_nodeFor_127).1
theorem dX2_nodeFor_130 : decode cX2_nodeFor 130 = .ok (.iload 4, 2) := dq_i21 (dl_b (dl_b dkX2_nodeFor_127).2).1
theorem dX2_nodeFor_132 : decode cX2_nodeFor 132 = .ok (.iload_n 1, 1) := dq_i27 (dl_b (dl_b (dl_b dkX2_nodeFor_127).2).2).1
theorem dX2_nodeFor_133 : decode cX2_nodeFor 133 = .ok (.iastore, 1) := dq_i79 (dl_b (dl_b (dl_b (dl_b dkX2_nodeFor_127).2).2).2).1
theorem dX2_nodeFor_134 : decode cX2_nodeFor 134 = .ok (.aload_n 0, 1) := dq_i42 (dl_b (dl_b (dl_b (dl_b (dl_b dkX2_nodeFor_127).2).2).2).2).1
theorem dX2_nodeFor_135 : decode cX2_nodeFor 135 = .ok (.getfield 15, 3) := dq_i180 (dl_b (dl_b (dl_b (dl_b (dl_b (dl_b dkX2_nodeFor_127).2).2).2).2).2).1
theorem dX2_nodeFor_138 : decode cX2_nodeFor 138 = .ok (.iload 4, 2) := dq_i21 (dl_b (dl_b (dl_b (dl_b (dl_b (dl_b (dl_b dkX2_nodeFor_127).2).2).2).2).2).2).1
theorem dX2_nodeFor_140 : decode cX2_nodeFor 140 = .ok (.iload_n 2, 1) := dq_i28 (dl_b (dl_b (dl_b (dl_b (dl_b (dl_b (dl_b (dl_b dkX2_nodeFor_127).2).2).2).2).2).2).2).1
theorem dX2_nodeFor_141 : decode cX2_nodeFor 141 = .ok (.iastore, 1) := dq_i79 (dl_b (dl_b (dl_b (dl_b (dl_b (dl_b (dl_b (dl_b (dl_b dkX2_nodeFor_127).2).2).2).2).2).2).2).2).1
theorem dX2_nodeFor_142 : decode cX2_nodeFor 142 = .ok (.aload_n 0, 1) := dq_i42 (dl_b (dl_b (dl_b (dl_b (dl_b (dl_b (dl_b (dl_b (dl_b dkX2_nodeFor_127).2).2).2).2).2).2).2).2).2
theorem dkX2_nodeFor_143 : (dq_2 cX2_nodeFor 143 180 18 && (dq_1 cX2_nodeFor 146 21 4 && (dq_0 cX2_nodeFor 148 29 && (dq_0 cX2_nodeFor 149 79 && (dq_0 cX2_nodeFor 150 42 && (dq_1 cX2_nodeFor 151 21 4 && (dq_2 cX2_nodeFor 153 182 64 && (dq_1 cX2_nodeFor 156 21 4 && (dq_0 cX2_nodeFor 158 172))))))))) = true := by decide +kernel
theorem dX2_nodeFor_143 : decode cX2_nodeFor 143 = .ok (.getfield 18, 3) := dq_i180 (dl_b dkX2_nodeFor_143).1
theorem dX2_nodeFor_146 : decode cX2_nodeFor 146 = .ok (.iload 4, 2) := dq_i21 (dl_b (dl_b dkX2_nodeFor_143).2).1
theorem dX2_nodeFor_148 : decode cX2_nodeFor 148 = .ok (.iload_n 3, 1) := dq_i29 (dl_b (dl_b (dl_b dkX2_nodeFor_143).2).2).1
theorem dX2_nodeFor_149 : decode cX2_nodeFor 149 = .ok (.iastore, 1) := dq_i79 (dl_b (dl_b (dl_b (dl_b dkX2_nodeFor_143).2).2).2).1
theorem dX2_nodeFor_150 : decode cX2_nodeFor 150 = .ok (.aload_n 0, 1) := dq_i42 (dl_b (dl_b (dl_b (dl_b (dl_b dkX2_nodeFor_143).2).2).2).2).1
theorem dX2_nodeFor_151 : decode cX2_nodeFor 151 = .ok (.iload 4, 2) := dq_i21 (dl_b (dl_b (dl_b (dl_b (dl_b (dl_b dkX2_nodeFor_143).2).2).2).2).2).1
theorem dX2_nodeFor_153 : decode cX2_nodeFor 153 = .ok (.invokevirtual 64, 3) := dq_i182 (dl_b (dl_b (dl_b (dl_b (dl_b (dl_b (dl_b dkX2_nodeFor_143).2).2).2).2).2).2).1
theorem dX2_nodeFor_156 : decode cX2_nodeFor 156 = .ok (.iload 4, 2) := dq_i21 (dl_b (dl_b (dl_b (dl_b (dl_b (dl_b (dl_b (dl_b dkX2_nodeFor_143).2).2).2).2).2).2).2).1
theorem dX2_nodeFor_158 : decode cX2_nodeFor 158 = .ok (.ireturn, 1) := dq_i172 (dl_b (dl_b (dl_b (dl_b (dl_b (dl_b (dl_b (dl_b dkX2_nodeFor_143).2).2).2).2).2).2).2).2
theorem dkX2_enter_0 : (dq_0 cX2_enter 0 42 && (dq_2 cX2_enter 1 180 15 && (dq_0 cX2_enter 4 27 && (dq_0 cX2_enter 5 46 && (dq_0 cX2_enter 6 42 && (dq_2 cX2_enter 7 180 18 && (dq_0 cX2_enter 10 27 && (dq_0 cX2_enter 11 46 && (dq_0 cX2_enter 12 130 && (dq_0 cX2_enter 13 61)))))))))) = true := by decide +kernel
theorem dX2_enter_0 : decode cX2_enter 0 = .ok (.aload_n 0, 1) := dq_i42 (dl_b dkX2_enter_0).1
theorem dX2_enter_1 : decode cX2_enter 1 = .ok (.getfield 15, 3) := dq_i180 (dl_b (dl_b dkX2_enter_0).2).1
theorem dX2_enter_4 : decode cX2_enter 4 = .ok (.iload_n 1, 1) := dq_i27 (dl_b (dl_b (dl_b dkX2_enter_0).2).2).1
theorem dX2_enter_5 : decode cX2_enter 5 = .ok (.iaload, 1) := dq_i46 (dl_b (dl_b (dl_b (dl_b dkX2_enter_0).2).2).2).1
theorem dX2_enter_6 : decode cX2_enter 6 = .ok (.aload_n 0, 1) := dq_i42 (dl_b (dl_b (dl_b (dl_b (dl_b dkX2_enter_0).2).2).2).2).1
theorem dX2_enter_7 : decode cX2_enter 7 = .ok (.getfield 18, 3) := dq_i180 (dl_b (dl_b (dl_b (dl_b (dl_b (dl_b dkX2_enter_0).2).2).2).2).2).1
theorem dX2_enter_10 : decode cX2_enter 10 = .ok (.iload_n 1, 1) := dq_i27 (dl_b (dl_b (dl_b (dl_b (dl_b (dl_b (dl_b dkX2_enter_0).2).2).2).2).2).2).1
theorem dX2_enter_11 : decode cX2_enter 11 = .ok (.iaload, 1) := dq_i46 (dl_b (dl_b (dl_b (dl_b (dl_b (dl_b (dl_b (dl_b dkX2_enter_0).2).2).2).2).2).2).2).1
theorem dX2_enter_12 : decode cX2_enter 12 = .ok (.ixor, 1) := dq_i130 (dl_b (dl_b (dl_b (dl_b (dl_b (dl_b (dl_b (dl_b (dl_b dkX2_enter_0).2).2).2).2).2).2).2).2).1
theorem dX2_enter_13 : decode cX2_enter 13 = .ok (.istore_n 2, 1) := dq_i61 (dl_b (dl_b (dl_b (dl_b (dl_b (dl_b (dl_b (dl_b (dl_b dkX2_enter_0).2).2).2).2).2).2).2).2).2
theorem dkX2_enter_14 : (dq_0 cX2_enter 14 42 && (dq_2 cX2_enter 15 180 24 && (dq_0 cX2_enter 18 27 && (dq_0 cX2_enter 19 42 && (dq_2 cX2_enter 20 180 27 && (dq_0 cX2_enter 23 28 && (dq_0 cX2_enter 24 46 && (dq_0 cX2_enter 25 79 && (dq_0 cX2_enter 26 42 && (dq_2 cX2_enter 27 180 27)))))))))) = true := by decide +kernel
theorem dX2_enter_14 : decode cX2_enter 14 = .ok (.aload_n 0, 1) := dq_i42 (dl_b dkX2_enter_14).1
theorem dX2_enter_15 : decode cX2_enter 15 = .ok (.getfield 24, 3) := dq_i180 (dl_b (dl_b dkX2_enter_14).2).1
theorem dX2_enter_18 : decode cX2_enter 18 = .ok (.iload_n 1, 1) := dq_i27 (dl_b (dl_b (dl_b dkX2_enter_14).2).2).1
theorem dX2_enter_19 : decode cX2_enter 19 = .ok (.aload_n 0, 1) := dq_i42 (dl_b (dl_b (dl_b (dl_b dkX2_enter_14).2).2).2).1
theorem dX2_enter_20 : decode cX2_enter 20 = .ok (.getfield 27, 3) := dq_i180 (dl_b (dl_b (dl_b (dl_b (dl_b dkX2_enter_14).2).2).2).2).1
theorem dX2_enter_23 : decode cX2_enter 23 = .ok (.iload_n 2, 1) := dq_i28 (dl_b (dl_b (dl_b (dl_b (dl_b (dl_b dkX2_enter_14).2).2).2).2).2).1
theorem dX2_enter_24 : decode cX2_enter 24 = .ok (.iaload, 1) := dq_i46 (dl_b (dl_b (dl_b (dl_b (dl_b (dl_b (dl_b dkX2_enter_14).2).2).2).2).2).2).1
theorem dX2_enter_25 : decode cX2_enter 25 = .ok (.iastore, 1) := dq_i79 (dl_b (dl_b (dl_b (dl_b (dl_b (dl_b (dl_b (dl_b dkX2_enter_14).2).2).2).2).2).2).2).1
theorem dX2_enter_26 : decode cX2_enter 26 = .ok (.aload_n 0, 1) := dq_i42 (dl_b (dl_b (dl_b (dl_b (dl_b (dl_b (dl_b (dl_b (dl_b dkX2_enter_14).2).2).2).2).2).2).2).2).1
theorem dX2_enter_27 : decode cX2_enter 27 = .ok (.getfield 27, 3) := dq_i180 (dl_b (dl_b (dl_b (dl_b (dl_b (dl_b (dl_b (dl_b (dl_b dkX2_enter_14).2).2).2).2).2).2).2).2).2
theorem dkX2_enter_30 : (dq_0 cX2_enter 30 28 && (dq_0 cX2_enter 31 27 && (dq_0 cX2_enter 32 79 && (dq_0 cX2_enter 33 42 && (dq_0 cX2_enter 34 89 && (dq_2 cX2_enter 35 180 34 && (dq_0 cX2_enter 38 4 && (dq_0 cX2_enter 39 96 && (dq_2 cX2_enter 40 181 34 && (dq_0 cX2_enter 43 177)))))))))) = true := by decide +kernel
theorem dX2_enter_30 : decode cX2_enter 30 = .ok (.iload_n 2, 1) := dq_i28 (dl_b dkX2_enter_30).1
theorem dX2_enter_31 : decode cX2_enter 31 = .ok (.iload_n 1, 1) := dq_i27 (dl_b (dl_b dkX2_enter_30).2).1
theorem dX2_enter_32 : decode cX2_enter 32 = .ok (.iastore, 1) := dq_i79 (dl_b (dl_b (dl_b dkX2_enter_30).2).2).1
theorem dX2_enter_33 : decode cX2_enter 33 = .ok (.aload_n 0, 1) := dq_i42 (dl_b (dl_b (dl_b (dl_b dkX2_enter_30).2).2).2).1
theorem dX2_enter_34 : decode cX2_enter 34 = .ok (.dup, 1) := dq_i89 (dl_b (dl_b (dl_b (dl_b (dl_b dkX2_enter_30).2).2).2).2).1
theorem dX2_enter_35 : decode cX2_enter 35 = .ok (.getfield 34, 3) := dq_i180 (dl_b (dl_b (dl_b (dl_b (dl_b (dl_b dkX2_enter_30).2).2).2).2).2).1
theorem dX2_enter_38 : decode cX2_enter 38 = .ok (.iconst 1, 1) := dq_i4 (dl_b (dl_b (dl_b (dl_b (dl_b (dl_b (dl_b dkX2_enter_30).2).2).2).2).2).2).1
theorem dX2_enter_39 : decode cX2_enter 39 = .ok (.iadd, 1) := dq_i96 (dl_b (dl_b (dl_b (dl_b (dl_b (dl_b (dl_b (dl_b dkX2_enter_30).2).2).2).2).2).2).2).1
theorem dX2_enter_40 : decode cX2_enter 40 = .ok (.putfield 34, 3) := dq_i181 (dl_b (dl_b (dl_b (dl_b (dl_b (dl_b (dl_b (dl_b (dl_b dkX2_enter_30).2).2).2).2).2).2).2).2).1
theorem dX2_enter_43 : decode cX2_enter 43 = .ok (.return_, 1) := dq_i177 (dl_b (dl_b (dl_b (dl_b (dl_b (dl_b (dl_b (dl_b (dl_b dkX2_enter_30).2).2).2).2).2).2).2).2).2
theorem dkX2_valueFor_0 : (dq_0 cX2_valueFor 0 27 && (dq_1 cX2_valueFor 1 54 4 && (dq_0 cX2_valueFor 3 3 && (dq_1 cX2_valueFor 4 54 5 && (dq_1 cX2_valueFor 6 21 5 && (dq_3 cX2_valueFor 8 16 8 && (dq_4 cX2_valueFor 10 162 65 && (dq_1 cX2_valueFor 13 21 4 && (dq_0 cX2_valueFor 15 5 && (dq_4 cX2_valueFor 16 161 59)))))))))) = true := by decide +kernel
theorem dX2_valueFor_0 : decode cX2_valueFor 0 = .ok (.iload_n 1, 1) := dq_i27 (dl_b dkX2_valueFor_0).1
theorem dX2_valueFor_1 : decode cX2_valueFor 1 = .ok (.istore 4, 2) := dq_i54 (dl_b (dl_b dkX2_valueFor_0).2).1
theorem dX2_valueFor_3 : decode cX2_valueFor 3 = .ok (.iconst 0, 1) := dq_i3 (dl_b (dl_b (dl_b dkX2_valueFor_0).2).2).1
theorem dX2_valueFor_4 : decode cX2_valueFor 4 = .ok (.istore 5, 2) := dq_i54 (dl_b (dl_b (dl_b (dl_b dkX2_valueFor_0).2).2).2).1
theorem dX2_valueFor_6 : decode cX2_valueFor 6 = .ok (.iload 5, 2) := dq_i21 (dl_b (dl_b (dl_b (dl_b (dl_b dkX2_valueFor_0).2).2).2).2).1
theorem dX2_valueFor_8 : decode cX2_valueFor 8 = .ok (.bipush 8, 2) := dq_i16 (dl_b (dl_b (dl_b (dl_b (dl_b (dl_b dkX2_valueFor_0).2).2).2).2).2).1
theorem dX2_valueFor_10 : decode cX2_valueFor 10 = .ok (.if_icmp .ge 65, 3) := dq_i162 (dl_b (dl_b (dl_b (dl_b (dl_b (dl_b (dl_b dkX2_valueFor_0).2).2).2).2).2).2).1
theorem dX2_valueFor_13 : decode cX2_valueFor 13 = .ok (.iload 4, 2) := dq_i21 (dl_b (dl_b (dl_b (dl_b (dl_b (dl_b (dl_b (dl_b dkX2_valueFor_0).2).2).2).2).2).2).2).1
theorem dX2_valueFor_15 : decode cX2_valueFor 15 = .ok (.iconst 2, 1) := dq_i5 (dl_b (dl_b (dl_b (dl_b (dl_b (dl_b (dl_b (dl_b (dl_b dkX2_valueFor_0).2).2).2).2).2).2).2).2).1
theorem dX2_valueFor_16 : decode cX2_valueFor 16 = .ok (.if_icmp .lt 59, 3) := dq_i161 (dl_b (dl_b (dl_b (dl_b (dl_b (dl_b (dl_b (dl_b (dl_b dkX2_valueFor_0).2).2).2).2).2).2).2).2).2
theorem dkX2_valueFor_19 : (dq_0 cX2_valueFor 19 28 && (dq_0 cX2_valueFor 20 45 && (dq_0 cX2_valueFor 21 42 && (dq_2 cX2_valueFor 22 180 11 && (dq_1 cX2_valueFor 25 21 4 && (dq_0 cX2_valueFor 27 46 && (dq_2 cX2_valueFor 28 182 95 && (dq_0 cX2_valueFor 31 122 && (dq_0 cX2_valueFor 32 4 && (dq_0 cX2_valueFor 33 126)))))))))) = true := by decide +kernel
theorem dX2_valueFor_19 : decode cX2_valueFor 19 = .ok (.iload_n 2, 1) := dq_i28 (dl_b dkX2_valueFor_19).1
theorem dX2_valueFor_20 : decode cX2_valueFor 20 = .ok (.aload_n 3, 1) := dq_i45 (dl_b (dl_b dkX2_valueFor_19).2).1
theorem dX2_valueFor_21 : decode cX2_valueFor 21 = .ok (.aload_n 0, 1) := dq_i42 (dl_b (dl_b (dl_b dkX2_valueFor_19).2).2).1
theorem dX2_valueFor_22 : decode cX2_valueFor 22 = .ok (.getfield 11, 3) := dq_i180 (dl_b (dl_b (dl_b (dl_b dkX2_valueFor_19).2).2).2).1
theorem dX2_valueFor_25 : decode cX2_valueFor 25 = .ok (.iload 4, 2) := dq_i21 (dl_b (dl_b (dl_b (dl_b (dl_b dkX2_valueFor_19).2).2).2).2).1
theorem dX2_valueFor_27 : decode cX2_valueFor 27 = .ok (.iaload, 1) := dq_i46 (dl_b (dl_b (dl_b (dl_b (dl_b (dl_b dkX2_valueFor_19).2).2).2).2).2).1
theorem dX2_valueFor_28 : decode cX2_valueFor 28 = .ok (.invokevirtual 95, 3) := dq_i182 (dl_b (dl_b (dl_b (dl_b (dl_b (dl_b (dl_b dkX2_valueFor_19).2).2).2).2).2).2).1
theorem dX2_valueFor_31 : decode cX2_valueFor 31 = .ok (.ishr, 1) := dq_i122 (dl_b (dl_b (dl_b (dl_b (dl_b (dl_b (dl_b (dl_b dkX2_valueFor_19).2).2).2).2).2).2).2).1
theorem dX2_valueFor_32 : decode cX2_valueFor 32 = .ok (.iconst 1, 1) := dq_i4 (dl_b (dl_b (dl_b (dl_b (dl_b (dl_b (dl_b (dl_b (dl_b dkX2_valueFor_19).2).2).2).2).2).2).2).2).1
theorem dX2_valueFor_33 : decode cX2_valueFor 33 = .ok (.iand, 1) := dq_i126 (dl_b (dl_b (dl_b (dl_b (dl_b (dl_b (dl_b (dl_b (dl_b dkX2_valueFor_19).2).2).2).2).2).2).2).2).2
theorem dkX2_valueFor_34 : (dq_0 cX2_valueFor 34 4 && (dq_4 cX2_valueFor 35 160 7 && (dq_0 cX2_valueFor 38 4 && (dq_4 cX2_valueFor 39 167 4 && (dq_0 cX2_valueFor 42 3 && (dq_1 cX2_valueFor 43 54 6 && (dq_1 cX2_valueFor 45 21 6 && (dq_4 cX2_valueFor 47 153 13 && (dq_0 cX2_valueFor 50 42 && (dq_2 cX2_valueFor 51 180 18)))))))))) = true := by decide +kernel
theorem dX2_valueFor_34 : decode cX2_valueFor 34 = .ok (.iconst 1, 1) := dq_i4 (dl_b dkX2_valueFor_34).1
theorem dX2_valueFor_35 : decode cX2_valueFor 35 = .ok (.if_icmp .ne 7, 3) := dq_i160 (dl_b (dl_b dkX2_valueFor_34).2).1
theorem dX2_valueFor_38 : decode cX2_valueFor 38 = .ok (.iconst 1, 1) := dq_i4 (dl_b (dl_b (dl_b dkX2_valueFor_34).2).2).1
theorem dX2_valueFor_39 : decode cX2_valueFor 39 = .ok (.goto 4, 3) := dq_i167 (dl_b (dl_b (dl_b (dl_b dkX2_valueFor_34).2).2).2).1
theorem dX2_valueFor_42 : decode cX2_valueFor 42 = .ok (.iconst 0, 1) := dq_i3 (dl_b (dl_b (dl_b (dl_b (dl_b dkX2_valueFor_34).2).2).2).2).1
theorem dX2_valueFor_43 : decode cX2_valueFor 43 = .ok (.istore 6, 2) := dq_i54 (dl_b (dl_b (dl_b (dl_b (dl_b (dl_b dkX2_valueFor_34).2).2).2).2).2).1
theorem dX2_valueFor_45 : decode cX2_valueFor 45 = .ok (.iload 6, 2) := dq_i21 (dl_b (dl_b (dl_b (dl_b (dl_b (dl_b (dl_b dkX2_valueFor_34).2).2).2).2).2).2).1
theorem dX2_valueFor_47 : decode cX2_valueFor 47 = .ok (.ifCond .eq 13, 3) := dq_i153 (dl_b (dl_b (dl_b (dl_b (dl_b (dl_b (dl_b (dl_b dkX2_valueFor_34).2).2).2).2).2).2).2).1
theorem dX2_valueFor_50 : decode cX2_valueFor 50 = .ok (.aload_n 0, 1) := dq_i42 (dl_b (dl_b (dl_b (dl_b (dl_b (dl_b (dl_b (dl_b (dl_b dkX2_valueFor_34).2).2).2).2).2).2).2).2).1
theorem dX2_valueFor_51 : decode cX2_valueFor 51 = .ok (.getfield 18, 3) := dq_i180 (dl_b (dl_b (dl_b (dl_b (dl_b (dl_b (dl_b (dl_b (dl_b dkX2_valueFor_34).2).2).2).2).2).2).2).2).2
theorem dkX2_valueFor_54 : (dq_1 cX2_valueFor 54 21 4 && (dq_0 cX2_valueFor 56 46 && (dq_4 cX2_valueFor 57 167 10 && (dq_0 cX2_valueFor 60 42 && (dq_2 cX2_valueFor 61 180 15 && (dq_1 cX2_valueFor 64 21 4 && (dq_0 cX2_valueFor 66 46 && (dq_1 cX2_valueFor 67 54 4 && (dq_5 cX2_valueFor 69 132 5 1 && (dq_4 cX2_valueFor 72 167 (-66))))))))))) = true := by decide +kernel
theorem dX2_valueFor_54 : decode cX2_valueFor 54 = .ok (.iload 4, 2) := dq_i21 (dl_b dkX2_valueFor_54).1
theorem dX2_valueFor_56 : decode cX2_valueFor 56 = .ok (.iaload, 1) := dq_i46 (dl_b (dl_b dkX2_valueFor_54).2).1
theorem dX2_valueFor_57 : decode cX2_valueFor 57 = .ok (.goto 10, 3) := dq_i167 (dl_b (dl_b (dl_b dkX2_valueFor_54).2).2).1
theorem dX2_valueFor_60 : decode cX2_valueFor 60 = .ok (.aload_n 0, 1) := dq_i42 (dl_b (dl_b (dl_b (dl_b dkX2_valueFor_54).2).2).2).1
theorem dX2_valueFor_61 : decode cX2_valueFor 61 = .ok (.getfield 15, 3) := dq_i180 (dl_b (dl_b (dl_b (dl_b (dl_b dkX2_valueFor_54).2).2).2).2).1
theorem dX2_valueFor_64 : decode cX2_valueFor 64 = .ok (.iload 4, 2) := dq_i21 (dl_b (dl_b (dl_b (dl_b (dl_b (dl_b dkX2_valueFor_54).2).2).2).2).2).1
theorem dX2_valueFor_66 : decode cX2_valueFor 66 = .ok (.iaload, 1) := dq_i46 (dl_b (dl_b (dl_b (dl_b (dl_b (dl_b (dl_b dkX2_valueFor_54).2).2).2).2).2).2).1
theorem dX2_valueFor_67 : decode cX2_valueFor 67 = .ok (.istore 4, 2) := dq_i54 (dl_b (dl_b (dl_b (dl_b (dl_b (dl_b (dl_b (dl_b dkX2_valueFor_54).2).2).2).2).2).2).2).1
theorem dX2_valueFor_69 : decode cX2_valueFor 69 = .ok (.iinc 5 1, 3) := dq_i132 (dl_b (dl_b (dl_b (dl_b (dl_b (dl_b (dl_b (dl_b (dl_b dkX2_valueFor_54).2).2).2).2).2).2).2).2).1
theorem dX2_valueFor_72 : decode cX2_valueFor 72 = .ok (.goto (-66), 3) := dq_i167 (dl_b (dl_b (dl_b (dl_b (dl_b (dl_b (dl_b (dl_b (dl_b dkX2_valueFor_54).2).2).2).2).2).2).2).2).2
theorem dkX2_valueFor_75 : (dq_1 cX2_valueFor 75 21 4 && (dq_0 cX2_valueFor 77 4 && (dq_4 cX2_valueFor 78 160 7 && (dq_0 cX2_valueFor 81 4 && (dq_4 cX2_valueFor 82 167 4 && (dq_0 cX2_valueFor 85 3 && (dq_0 cX2_valueFor 86 172))))))) = true := by decide +kernel
theorem dX2_valueFor_75 : decode cX2_valueFor 75 = .ok (.iload 4, 2) := dq_i21 (dl_b dkX2_valueFor_75).1
theorem dX2_valueFor_77 : decode cX2_valueFor 77 = .ok (.iconst 1, 1) := dq_i4 (dl_b (dl_b dkX2_valueFor_75).2).1
theorem dX2_valueFor_78 : decode cX2_valueFor 78 = .ok (.if_icmp .ne 7, 3) := dq_i160 (dl_b (dl_b (dl_b dkX2_valueFor_75).2).2).1
theorem dX2_valueFor_81 : decode cX2_valueFor 81 = .ok (.iconst 1, 1) := dq_i4 (dl_b (dl_b (dl_b (dl_b dkX2_valueFor_75).2).2).2).1
theorem dX2_valueFor_82 : decode cX2_valueFor 82 = .ok (.goto 4, 3) := dq_i167 (dl_b (dl_b (dl_b (dl_b (dl_b dkX2_valueFor_75).2).2).2).2).1
theorem dX2_valueFor_85 : decode cX2_valueFor 85 = .ok (.iconst 0, 1) := dq_i3 (dl_b (dl_b (dl_b (dl_b (dl_b (dl_b dkX2_valueFor_75).2).2).2).2).2).1
theorem dX2_valueFor_86 : decode cX2_valueFor 86 = .ok (.ireturn, 1) := dq_i172 (dl_b (dl_b (dl_b (dl_b (dl_b (dl_b dkX2_valueFor_75).2).2).2).2).2).2
theorem dkX2_leastFor_0 : (dq_0 cX2_leastFor 0 27 && (dq_1 cX2_leastFor 1 54 4 && (dq_0 cX2_leastFor 3 3 && (dq_1 cX2_leastFor 4 54 5 && (dq_0 cX2_leastFor 6 3 && (dq_1 cX2_leastFor 7 54 6 && (dq_1 cX2_leastFor 9 21 6 && (dq_3 cX2_leastFor 11 16 8 && (dq_4 cX2_leastFor 13 162 76 && (dq_1 cX2_leastFor 16 21 4)))))))))) = true := by decide +kernel
theorem dX2_leastFor_0 : decode cX2_leastFor 0 = .ok (.iload_n 1, 1) := dq_i27 (dl_b dkX2_leastFor_0).1
theorem dX2_leastFor_1 : decode cX2_leastFor 1 = .ok (.istore 4, 2) := dq_i54 (dl_b (dl_b dkX2_leastFor_0).2).1
theorem dX2_leastFor_3 : decode cX2_leastFor 3 = .ok (.iconst 0, 1) := dq_i3 (dl_b (dl_b (dl_b dkX2_leastFor_0).2).2).1
theorem dX2_leastFor_4 : decode cX2_leastFor 4 = .ok (.istore 5, 2) := dq_i54 (dl_b (dl_b (dl_b (dl_b dkX2_leastFor_0).2).2).2).1
theorem dX2_leastFor_6 : decode cX2_leastFor 6 = .ok (.iconst 0, 1) := dq_i3 (dl_b (dl_b (dl_b (dl_b (dl_b dkX2_leastFor_0).2).2).2).2).1
theorem dX2_leastFor_7 : decode cX2_leastFor 7 = .ok (.istore 6, 2) := dq_i54 (dl_b (dl_b (dl_b (dl_b (dl_b (dl_b dkX2_leastFor_0).2).2).2).2).2).1
theorem dX2_leastFor_9 : decode cX2_leastFor 9 = .ok (.iload 6, 2) := dq_i21 (dl_b (dl_b (dl_b (dl_b (dl_b (dl_b (dl_b dkX2_leastFor_0).2).2).2).2).2).2).1
theorem dX2_leastFor_11 : decode cX2_leastFor 11 = .ok (.bipush 8, 2) := dq_i16 (dl_b (dl_b (dl_b (dl_b (dl_b (dl_b (dl_b (dl_b dkX2_leastFor_0).2).2).2).2).2).2).2).1
theorem dX2_leastFor_13 : decode cX2_leastFor 13 = .ok (.if_icmp .ge 76, 3) := dq_i162 (dl_b (dl_b (dl_b (dl_b (dl_b (dl_b (dl_b (dl_b (dl_b dkX2_leastFor_0).2).2).2).2).2).2).2).2).1
theorem dX2_leastFor_16 : decode cX2_leastFor 16 = .ok (.iload 4, 2) := dq_i21 (dl_b (dl_b (dl_b (dl_b (dl_b (dl_b (dl_b (dl_b (dl_b dkX2_leastFor_0).2).2).2).2).2).2).2).2).2
theorem dkX2_leastFor_18 : (dq_0 cX2_leastFor 18 5 && (dq_4 cX2_leastFor 19 161 70 && (dq_0 cX2_leastFor 22 42 && (dq_2 cX2_leastFor 23 180 15 && (dq_1 cX2_leastFor 26 21 4 && (dq_0 cX2_leastFor 28 46 && (dq_0 cX2_leastFor 29 5 && (dq_4 cX2_leastFor 30 162 14 && (dq_0 cX2_leastFor 33 42 && (dq_2 cX2_leastFor 34 180 15)))))))))) = true := by decide +kernel
theorem dX2_leastFor_18 : decode cX2_leastFor 18 = .ok (.iconst 2, 1) := dq_i5 (dl_b dkX2_leastFor_18).1
theorem dX2_leastFor_19 : decode cX2_leastFor 19 = .ok (.if_icmp .lt 70, 3) := dq_i161 (dl_b (dl_b dkX2_leastFor_18).2).1
theorem dX2_leastFor_22 : decode cX2_leastFor 22 = .ok (.aload_n 0, 1) := dq_i42 (dl_b (dl_b (dl_b dkX2_leastFor_18).2).2).1
theorem dX2_leastFor_23 : decode cX2_leastFor 23 = .ok (.getfield 15, 3) := dq_i180 (dl_b (dl_b (dl_b (dl_b dkX2_leastFor_18).2).2).2).1
theorem dX2_leastFor_26 : decode cX2_leastFor 26 = .ok (.iload 4, 2) := dq_i21 (dl_b (dl_b (dl_b (dl_b (dl_b dkX2_leastFor_18).2).2).2).2).1
theorem dX2_leastFor_28 : decode cX2_leastFor 28 = .ok (.iaload, 1) := dq_i46 (dl_b (dl_b (dl_b (dl_b (dl_b (dl_b dkX2_leastFor_18).2).2).2).2).2).1
theorem dX2_leastFor_29 : decode cX2_leastFor 29 = .ok (.iconst 2, 1) := dq_i5 (dl_b (dl_b (dl_b (dl_b (dl_b (dl_b (dl_b dkX2_leastFor_18).2).2).2).2).2).2).1
theorem dX2_leastFor_30 : decode cX2_leastFor 30 = .ok (.if_icmp .ge 14, 3) := dq_i162 (dl_b (dl_b (dl_b (dl_b (dl_b (dl_b (dl_b (dl_b dkX2_leastFor_18).2).2).2).2).2).2).2).1
theorem dX2_leastFor_33 : decode cX2_leastFor 33 = .ok (.aload_n 0, 1) := dq_i42 (dl_b (dl_b (dl_b (dl_b (dl_b (dl_b (dl_b (dl_b (dl_b dkX2_leastFor_18).2).2).2).2).2).2).2).2).1
theorem dX2_leastFor_34 : decode cX2_leastFor 34 = .ok (.getfield 15, 3) := dq_i180 (dl_b (dl_b (dl_b (dl_b (dl_b (dl_b (dl_b (dl_b (dl_b dkX2_leastFor_18).2).2).2).2).2).2).2).2).2
theorem dkX2_leastFor_37 : (dq_1 cX2_leastFor 37 21 4 && (dq_0 cX2_leastFor 39 46 && (dq_0 cX2_leastFor 40 28 && (dq_4 cX2_leastFor 41 160 15 && (dq_0 cX2_leastFor 44 42 && (dq_2 cX2_leastFor 45 180 15 && (dq_1 cX2_leastFor 48 21 4 && (dq_0 cX2_leastFor 50 46 && (dq_1 cX2_leastFor 51 54 4 && (dq_4 cX2_leastFor 53 167 30)))))))))) = true := by decide +kernel
theorem dX2_leastFor_37 : decode cX2_leastFor 37 = .ok (.iload 4, 2) := dq_i21 (dl_b dkX2_leastFor_37).1
theorem dX2_leastFor_39 : decode cX2_leastFor 39 = .ok (.iaload, 1) := dq_i46 (dl_b (dl_b dkX2_leastFor_37).2).1
theorem dX2_leastFor_40 : decode cX2_leastFor 40 = .ok (.iload_n 2, 1) := dq_i28 (dl_b (dl_b (dl_b dkX2_leastFor_37).2).2).1
theorem dX2_leastFor_41 : decode cX2_leastFor 41 = .ok (.if_icmp .ne 15, 3) := dq_i160 (dl_b (dl_b (dl_b (dl_b dkX2_leastFor_37).2).2).2).1
theorem dX2_leastFor_44 : decode cX2_leastFor 44 = .ok (.aload_n 0, 1) := dq_i42 (dl_b (dl_b (dl_b (dl_b (dl_b dkX2_leastFor_37).2).2).2).2).1
theorem dX2_leastFor_45 : decode cX2_leastFor 45 = .ok (.getfield 15, 3) := dq_i180 (dl_b (dl_b (dl_b (dl_b (dl_b (dl_b dkX2_leastFor_37).2).2).2).2).2).1
theorem dX2_leastFor_48 : decode cX2_leastFor 48 = .ok (.iload 4, 2) := dq_i21 (dl_b (dl_b (dl_b (dl_b (dl_b (dl_b (dl_b dkX2_leastFor_37).2).2).2).2).2).2).1
theorem dX2_leastFor_50 : decode cX2_leastFor 50 = .ok (.iaload, 1) := dq_i46 (dl_b (dl_b (dl_b (dl_b (dl_b (dl_b (dl_b (dl_b dkX2_leastFor_37).2).2).2).2).2).2).2).1
theorem dX2_leastFor_51 : decode cX2_leastFor 51 = .ok (.istore 4, 2) := dq_i54 (dl_b (dl_b (dl_b (dl_b (dl_b (dl_b (dl_b (dl_b (dl_b dkX2_leastFor_37).2).2).2).2).2).2).2).2).1
theorem dX2_leastFor_53 : decode cX2_leastFor 53 = .ok (.goto 30, 3) := dq_i167 (dl_b (dl_b (dl_b (dl_b (dl_b (dl_b (dl_b (dl_b (dl_b dkX2_leastFor_37).2).2).2).2).2).2).2).2).2
theorem dkX2_leastFor_56 : (dq_1 cX2_leastFor 56 21 5 && (dq_0 cX2_leastFor 58 4 && (dq_0 cX2_leastFor 59 45 && (dq_0 cX2_leastFor 60 42 && (dq_2 cX2_leastFor 61 180 11 && (dq_1 cX2_leastFor 64 21 4 && (dq_0 cX2_leastFor 66 46 && (dq_2 cX2_leastFor 67 182 95 && (dq_0 cX2_leastFor 70 120 && (dq_0 cX2_leastFor 71 128)))))))))) = true := by decide +kernel
theorem dX2_leastFor_56 : decode cX2_leastFor 56 = .ok (.iload 5, 2) := dq_i21 (dl_b dkX2_leastFor_56).1
theorem dX2_leastFor_58 : decode cX2_leastFor 58 = .ok (.iconst 1, 1) := dq_i4 (dl_b (dl_b dkX2_leastFor_56).2).1
theorem dX2_leastFor_59 : decode cX2_leastFor 59 = .ok (.aload_n 3, 1) := dq_i45 (dl_b (dl_b (dl_b dkX2_leastFor_56).2).2).1
theorem dX2_leastFor_60 : decode cX2_leastFor 60 = .ok (.aload_n 0, 1) := dq_i42 (dl_b (dl_b (dl_b (dl_b dkX2_leastFor_56).2).2).2).1
theorem dX2_leastFor_61 : decode cX2_leastFor 61 = .ok (.getfield 11, 3) := dq_i180 (dl_b (dl_b (dl_b (dl_b (dl_b dkX2_leastFor_56).2).2).2).2).1
theorem dX2_leastFor_64 : decode cX2_leastFor 64 = .ok (.iload 4, 2) := dq_i21 (dl_b (dl_b (dl_b (dl_b (dl_b (dl_b dkX2_leastFor_56).2).2).2).2).2).1
theorem dX2_leastFor_66 : decode cX2_leastFor 66 = .ok (.iaload, 1) := dq_i46 (dl_b (dl_b (dl_b (dl_b (dl_b (dl_b (dl_b dkX2_leastFor_56).2).2).2).2).2).2).1
theorem dX2_leastFor_67 : decode cX2_leastFor 67 = .ok (.invokevirtual 95, 3) := dq_i182 (dl_b (dl_b (dl_b (dl_b (dl_b (dl_b (dl_b (dl_b dkX2_leastFor_56).2).2).2).2).2).2).2).1
theorem dX2_leastFor_70 : decode cX2_leastFor 70 = .ok (.ishl, 1) := dq_i120 (dl_b (dl_b (dl_b (dl_b (dl_b (dl_b (dl_b (dl_b (dl_b dkX2_leastFor_56).2).2).2).2).2).2).2).2).1
theorem dX2_leastFor_71 : decode cX2_leastFor 71 = .ok (.ior, 1) := dq_i128 (dl_b (dl_b (dl_b (dl_b (dl_b (dl_b (dl_b (dl_b (dl_b dkX2_leastFor_56).2).2).2).2).2).2).2).2).2
theorem dkX2_leastFor_72 : (dq_1 cX2_leastFor 72 54 5 && (dq_0 cX2_leastFor 74 42 && (dq_2 cX2_leastFor 75 180 18 && (dq_1 cX2_leastFor 78 21 4 && (dq_0 cX2_leastFor 80 46 && (dq_1 cX2_leastFor 81 54 4 && (dq_5 cX2_leastFor 83 132 6 1 && (dq_4 cX2_leastFor 86 167 (-77) && (dq_1 cX2_leastFor 89 21 4 && (dq_0 cX2_leastFor 91 28)))))))))) = true := by decide +kernel
theorem dX2_leastFor_72 : decode cX2_leastFor 72 = .ok (.istore 5, 2) := dq_i54 (dl_b dkX2_leastFor_72).1
theorem dX2_leastFor_74 : decode cX2_leastFor 74 = .ok (.aload_n 0, 1) := dq_i42 (dl_b (dl_b dkX2_leastFor_72).2).1
theorem dX2_leastFor_75 : decode cX2_leastFor 75 = .ok (.getfield 18, 3) := dq_i180 (dl_b (dl_b (dl_b dkX2_leastFor_72).2).2).1
theorem dX2_leastFor_78 : decode cX2_leastFor 78 = .ok (.iload 4, 2) := dq_i21 (dl_b (dl_b (dl_b (dl_b dkX2_leastFor_72).2).2).2).1
theorem dX2_leastFor_80 : decode cX2_leastFor 80 = .ok (.iaload, 1) := dq_i46 (dl_b (dl_b (dl_b (dl_b (dl_b dkX2_leastFor_72).2).2).2).2).1
theorem dX2_leastFor_81 : decode cX2_leastFor 81 = .ok (.istore 4, 2) := dq_i54 (dl_b (dl_b (dl_b (dl_b (dl_b (dl_b dkX2_leastFor_72).2).2).2).2).2).1
theorem dX2_leastFor_83 : decode cX2_leastFor 83 = .ok (.iinc 6 1, 3) := dq_i132 (dl_b (dl_b (dl_b (dl_b (dl_b (dl_b (dl_b dkX2_leastFor_72).2).2).2).2).2).2).1
theorem dX2_leastFor_86 : decode cX2_leastFor 86 = .ok (.goto (-77), 3) := dq_i167 (dl_b (dl_b (dl_b (dl_b (dl_b (dl_b (dl_b (dl_b dkX2_leastFor_72).2).2).2).2).2).2).2).1
theorem dX2_leastFor_89 : decode cX2_leastFor 89 = .ok (.iload 4, 2) := dq_i21 (dl_b (dl_b (dl_b (dl_b (dl_b (dl_b (dl_b (dl_b (dl_b dkX2_leastFor_72).2).2).2).2).2).2).2).2).1
theorem dX2_leastFor_91 : decode cX2_leastFor 91 = .ok (.iload_n 2, 1) := dq_i28 (dl_b (dl_b (dl_b (dl_b (dl_b (dl_b (dl_b (dl_b (dl_b dkX2_leastFor_72).2).2).2).2).2).2).2).2).2
theorem dkX2_leastFor_92 : (dq_4 cX2_leastFor 92 160 8 && (dq_1 cX2_leastFor 95 21 5 && (dq_4 cX2_leastFor 97 167 5 && (dq_3 cX2_leastFor 100 16 (-9) && (dq_0 cX2_leastFor 102 172))))) = true := by decide +kernel
theorem dX2_leastFor_92 : decode cX2_leastFor 92 = .ok (.if_icmp .ne 8, 3) := dq_i160 (dl_b dkX2_leastFor_92).1
theorem dX2_leastFor_95 : decode cX2_leastFor 95 = .ok (.iload 5, 2) := dq_i21 (dl_b (dl_b dkX2_leastFor_92).2).1
theorem dX2_leastFor_97 : decode cX2_leastFor 97 = .ok (.goto 5, 3) := dq_i167 (dl_b (dl_b (dl_b dkX2_leastFor_92).2).2).1
theorem dX2_leastFor_100 : decode cX2_leastFor 100 = .ok (.bipush (-9), 2) := dq_i16 (dl_b (dl_b (dl_b (dl_b dkX2_leastFor_92).2).2).2).1
theorem dX2_leastFor_102 : decode cX2_leastFor 102 = .ok (.ireturn, 1) := dq_i172 (dl_b (dl_b (dl_b (dl_b dkX2_leastFor_92).2).2).2).2
theorem dkX2_pathCount_0 : (dq_0 cX2_pathCount 0 42 && (dq_0 cX2_pathCount 1 27 && (dq_0 cX2_pathCount 2 28 && (dq_0 cX2_pathCount 3 3 && (dq_2 cX2_pathCount 4 182 100 && (dq_0 cX2_pathCount 7 172)))))) = true := by decide +kernel
theorem dX2_pathCount_0 : decode cX2_pathCount 0 = .ok (.aload_n 0, 1) := dq_i42 (dl_b dkX2_pathCount_0).1
theorem dX2_pathCount_1 : decode cX2_pathCount 1 = .ok (.iload_n 1, 1) := dq_i27 (dl_b (dl_b dkX2_pathCount_0).2).1
theorem dX2_pathCount_2 : decode cX2_pathCount 2 = .ok (.iload_n 2, 1) := dq_i28 (dl_b (dl_b (dl_b dkX2_pathCount_0).2).2).1
theorem dX2_pathCount_3 : decode cX2_pathCount 3 = .ok (.iconst 0, 1) := dq_i3 (dl_b (dl_b (dl_b (dl_b dkX2_pathCount_0).2).2).2).1
theorem dX2_pathCount_4 : decode cX2_pathCount 4 = .ok (.invokevirtual 100, 3) := dq_i182 (dl_b (dl_b (dl_b (dl_b (dl_b dkX2_pathCount_0).2).2).2).2).1
theorem dX2_pathCount_7 : decode cX2_pathCount 7 = .ok (.ireturn, 1) := dq_i172 (dl_b (dl_b (dl_b (dl_b (dl_b dkX2_pathCount_0).2).2).2).2).2
theorem dkX2_pathsFrom_0 : (dq_0 cX2_pathsFrom 0 27 && (dq_0 cX2_pathsFrom 1 5 && (dq_4 cX2_pathsFrom 2 161 9 && (dq_0 cX2_pathsFrom 5 29 && (dq_3 cX2_pathsFrom 6 16 8 && (dq_4 cX2_pathsFrom 8 161 14 && (dq_0 cX2_pathsFrom 11 27 && (dq_0 cX2_pathsFrom 12 28 && (dq_4 cX2_pathsFrom 13 160 7 && (dq_0 cX2_pathsFrom 16 4)))))))))) = true := by decide +kernel
theorem dX2_pathsFrom_0 : decode cX2_pathsFrom 0 = .ok (.iload_n 1, 1) := dq_i27 (dl_b dkX2_pathsFrom_0).1
theorem dX2_pathsFrom_1 : decode cX2_pathsFrom 1 = .ok (.iconst 2, 1) := dq_i5 (dl_b (dl_b dkX2_pathsFrom_0).2).1
theorem dX2_pathsFrom_2 : decode cX2_pathsFrom 2 = .ok (.if_icmp .lt 9, 3) := dq_i161 (dl_b (dl_b (dl_b dkX2_pathsFrom_0).2).2).1
theorem dX2_pathsFrom_5 : decode cX2_pathsFrom 5 = .ok (.iload_n 3, 1) := dq_i29 (dl_b (dl_b (dl_b (dl_b dkX2_pathsFrom_0).2).2).2).1
theorem dX2_pathsFrom_6 : decode cX2_pathsFrom 6 = .ok (.bipush 8, 2) := dq_i16 (dl_b (dl_b (dl_b (dl_b (dl_b dkX2_pathsFrom_0).2).2).2).2).1
theorem dX2_pathsFrom_8 : decode cX2_pathsFrom 8 = .ok (.if_icmp .lt 14, 3) := dq_i161 (dl_b (dl_b (dl_b (dl_b (dl_b (dl_b dkX2_pathsFrom_0).2).2).2).2).2).1
theorem dX2_pathsFrom_11 : decode cX2_pathsFrom 11 = .ok (.iload_n 1, 1) := dq_i27 (dl_b (dl_b (dl_b (dl_b (dl_b (dl_b (dl_b dkX2_pathsFrom_0).2).2).2).2).2).2).1
theorem dX2_pathsFrom_12 : decode cX2_pathsFrom 12 = .ok (.iload_n 2, 1) := dq_i28 (dl_b (dl_b (dl_b (dl_b (dl_b (dl_b (dl_b (dl_b dkX2_pathsFrom_0).2).2).2).2).2).2).2).1
theorem dX2_pathsFrom_13 : decode cX2_pathsFrom 13 = .ok (.if_icmp .ne 7, 3) := dq_i160 (dl_b (dl_b (dl_b (dl_b (dl_b (dl_b (dl_b (dl_b (dl_b dkX2_pathsFrom_0).2).2).2).2).2).2).2).2).1
theorem dX2_pathsFrom_16 : decode cX2_pathsFrom 16 = .ok (.iconst 1, 1) := dq_i4 (dl_b (dl_b (dl_b (dl_b (dl_b (dl_b (dl_b (dl_b (dl_b dkX2_pathsFrom_0).2).2).2).2).2).2).2).2).2
theorem dkX2_pathsFrom_17 : (dq_4 cX2_pathsFrom 17 167 4 && (dq_0 cX2_pathsFrom 20 3 && (dq_0 cX2_pathsFrom 21 172 && (dq_0 cX2_pathsFrom 22 42 && (dq_0 cX2_pathsFrom 23 42 && (dq_2 cX2_pathsFrom 24 180 15 && (dq_0 cX2_pathsFrom 27 27 && (dq_0 cX2_pathsFrom 28 46 && (dq_0 cX2_pathsFrom 29 28 && (dq_0 cX2_pathsFrom 30 29)))))))))) = true := by decide +kernel
theorem dX2_pathsFrom_17 : decode cX2_pathsFrom 17 = .ok (.goto 4, 3) := dq_i167 (dl_b dkX2_pathsFrom_17).1
theorem dX2_pathsFrom_20 : decode cX2_pathsFrom 20 = .ok (.iconst 0, 1) := dq_i3 (dl_b (dl_b dkX2_pathsFrom_17).2).1
theorem dX2_pathsFrom_21 : decode cX2_pathsFrom 21 = .ok (.ireturn, 1) := dq_i172 (dl_b (dl_b (dl_b dkX2_pathsFrom_17).2).2).1
theorem dX2_pathsFrom_22 : decode cX2_pathsFrom 22 = .ok (.aload_n 0, 1) := dq_i42 (dl_b (dl_b (dl_b (dl_b dkX2_pathsFrom_17).2).2).2).1
theorem dX2_pathsFrom_23 : decode cX2_pathsFrom 23 = .ok (.aload_n 0, 1) := dq_i42 (dl_b (dl_b (dl_b (dl_b (dl_b dkX2_pathsFrom_17).2).2).2).2).1
theorem dX2_pathsFrom_24 : decode cX2_pathsFrom 24 = .ok (.getfield 15, 3) := dq_i180 (dl_b (dl_b (dl_b (dl_b (dl_b (dl_b dkX2_pathsFrom_17).2).2).2).2).2).1
theorem dX2_pathsFrom_27 : decode cX2_pathsFrom 27 = .ok (.iload_n 1, 1) := dq_i27 (dl_b (dl_b (dl_b (dl_b (dl_b (dl_b (dl_b dkX2_pathsFrom_17).2).2).2).2).2).2).1
theorem dX2_pathsFrom_28 : decode cX2_pathsFrom 28 = .ok (.iaload, 1) := dq_i46 (dl_b (dl_b (dl_b (dl_b (dl_b (dl_b (dl_b (dl_b dkX2_pathsFrom_17).2).2).2).2).2).2).2).1
theorem dX2_pathsFrom_29 : decode cX2_pathsFrom 29 = .ok (.iload_n 2, 1) := dq_i28 (dl_b (dl_b (dl_b (dl_b (dl_b (dl_b (dl_b (dl_b (dl_b dkX2_pathsFrom_17).2).2).2).2).2).2).2).2).1
theorem dX2_pathsFrom_30 : decode cX2_pathsFrom 30 = .ok (.iload_n 3, 1) := dq_i29 (dl_b (dl_b (dl_b (dl_b (dl_b (dl_b (dl_b (dl_b (dl_b dkX2_pathsFrom_17).2).2).2).2).2).2).2).2).2
theorem dkX2_pathsFrom_31 : (dq_0 cX2_pathsFrom 31 4 && (dq_0 cX2_pathsFrom 32 96 && (dq_2 cX2_pathsFrom 33 182 100 && (dq_0 cX2_pathsFrom 36 42 && (dq_0 cX2_pathsFrom 37 42 && (dq_2 cX2_pathsFrom 38 180 18 && (dq_0 cX2_pathsFrom 41 27 && (dq_0 cX2_pathsFrom 42 46 && (dq_0 cX2_pathsFrom 43 28 && (dq_0 cX2_pathsFrom 44 29)))))))))) = true := by decide +kernel
theorem dX2_pathsFrom_31 : decode cX2_pathsFrom 31 = .ok (.iconst 1, 1) := dq_i4 (dl_b dkX2_pathsFrom_31).1
theorem dX2_pathsFrom_32 : decode cX2_pathsFrom 32 = .ok (.iadd, 1) := dq_i96 (dl_b (dl_b dkX2_pathsFrom_31).2).1
theorem dX2_pathsFrom_33 : decode cX2_pathsFrom 33 = .ok (.invokevirtual 100, 3) := dq_i182 (dl_b (dl_b (dl_b dkX2_pathsFrom_31).2).2).1
theorem dX2_pathsFrom_36 : decode cX2_pathsFrom 36 = .ok (.aload_n 0, 1) := dq_i42 (dl_b (dl_b (dl_b (dl_b dkX2_pathsFrom_31).2).2).2).1
theorem dX2_pathsFrom_37 : decode cX2_pathsFrom 37 = .ok (.aload_n 0, 1) := dq_i42 (dl_b (dl_b (dl_b (dl_b (dl_b dkX2_pathsFrom_31).2).2).2).2).1
theorem dX2_pathsFrom_38 : decode cX2_pathsFrom 38 = .ok (.getfield 18, 3) := dq_i180 (dl_b (dl_b (dl_b (dl_b (dl_b (dl_b dkX2_pathsFrom_31).2).2).2).2).2).1
theorem dX2_pathsFrom_41 : decode cX2_pathsFrom 41 = .ok (.iload_n 1, 1) := dq_i27 (dl_b (dl_b (dl_b (dl_b (dl_b (dl_b (dl_b dkX2_pathsFrom_31).2).2).2).2).2).2).1
theorem dX2_pathsFrom_42 : decode cX2_pathsFrom 42 = .ok (.iaload, 1) := dq_i46 (dl_b (dl_b (dl_b (dl_b (dl_b (dl_b (dl_b (dl_b dkX2_pathsFrom_31).2).2).2).2).2).2).2).1
theorem dX2_pathsFrom_43 : decode cX2_pathsFrom 43 = .ok (.iload_n 2, 1) := dq_i28 (dl_b (dl_b (dl_b (dl_b (dl_b (dl_b (dl_b (dl_b (dl_b dkX2_pathsFrom_31).2).2).2).2).2).2).2).2).1
theorem dX2_pathsFrom_44 : decode cX2_pathsFrom 44 = .ok (.iload_n 3, 1) := dq_i29 (dl_b (dl_b (dl_b (dl_b (dl_b (dl_b (dl_b (dl_b (dl_b dkX2_pathsFrom_31).2).2).2).2).2).2).2).2).2
theorem dkX2_pathsFrom_45 : (dq_0 cX2_pathsFrom 45 4 && (dq_0 cX2_pathsFrom 46 96 && (dq_2 cX2_pathsFrom 47 182 100 && (dq_0 cX2_pathsFrom 50 96 && (dq_0 cX2_pathsFrom 51 172))))) = true := by decide +kernel
theorem dX2_pathsFrom_45 : decode cX2_pathsFrom 45 = .ok (.iconst 1, 1) := dq_i4 (dl_b dkX2_pathsFrom_45).1
theorem dX2_pathsFrom_46 : decode cX2_pathsFrom 46 = .ok (.iadd, 1) := dq_i96 (dl_b (dl_b dkX2_pathsFrom_45).2).1
theorem dX2_pathsFrom_47 : decode cX2_pathsFrom 47 = .ok (.invokevirtual 100, 3) := dq_i182 (dl_b (dl_b (dl_b dkX2_pathsFrom_45).2).2).1
theorem dX2_pathsFrom_50 : decode cX2_pathsFrom 50 = .ok (.iadd, 1) := dq_i96 (dl_b (dl_b (dl_b (dl_b dkX2_pathsFrom_45).2).2).2).1
theorem dX2_pathsFrom_51 : decode cX2_pathsFrom 51 = .ok (.ireturn, 1) := dq_i172 (dl_b (dl_b (dl_b (dl_b dkX2_pathsFrom_45).2).2).2).2
theorem dkJ7_fill_53178_0 : (dq_0 cJ7_fill_53178 0 3 && (dq_0 cJ7_fill_53178 1 61 && (dq_0 cJ7_fill_53178 2 42 && (dq_0 cJ7_fill_53178 3 190 && (dq_0 cJ7_fill_53178 4 62 && (dq_0 cJ7_fill_53178 5 28 && (dq_0 cJ7_fill_53178 6 29 && (dq_4 cJ7_fill_53178 7 162 13 && (dq_0 cJ7_fill_53178 10 42 && (dq_0 cJ7_fill_53178 11 28)))))))))) = true := by decide +kernel
theorem dJ7_fill_53178_0 : decode cJ7_fill_53178 0 = .ok (.iconst 0, 1) := dq_i3 (dl_b dkJ7_fill_53178_0).1
theorem dJ7_fill_53178_1 : decode cJ7_fill_53178 1 = .ok (.istore_n 2, 1) := dq_i61 (dl_b (dl_b dkJ7_fill_53178_0).2).1
theorem dJ7_fill_53178_2 : decode cJ7_fill_53178 2 = .ok (.aload_n 0, 1) := dq_i42 (dl_b (dl_b (dl_b dkJ7_fill_53178_0).2).2).1
theorem dJ7_fill_53178_3 : decode cJ7_fill_53178 3 = .ok (.arraylength, 1) := dq_i190 (dl_b (dl_b (dl_b (dl_b dkJ7_fill_53178_0).2).2).2).1
theorem dJ7_fill_53178_4 : decode cJ7_fill_53178 4 = .ok (.istore_n 3, 1) := dq_i62 (dl_b (dl_b (dl_b (dl_b (dl_b dkJ7_fill_53178_0).2).2).2).2).1
theorem dJ7_fill_53178_5 : decode cJ7_fill_53178 5 = .ok (.iload_n 2, 1) := dq_i28 (dl_b (dl_b (dl_b (dl_b (dl_b (dl_b dkJ7_fill_53178_0).2).2).2).2).2).1
theorem dJ7_fill_53178_6 : decode cJ7_fill_53178 6 = .ok (.iload_n 3, 1) := dq_i29 (dl_b (dl_b (dl_b (dl_b (dl_b (dl_b (dl_b dkJ7_fill_53178_0).2).2).2).2).2).2).1
theorem dJ7_fill_53178_7 : decode cJ7_fill_53178 7 = .ok (.if_icmp .ge 13, 3) := dq_i162 (dl_b (dl_b (dl_b (dl_b (dl_b (dl_b (dl_b (dl_b dkJ7_fill_53178_0).2).2).2).2).2).2).2).1
theorem dJ7_fill_53178_10 : decode cJ7_fill_53178 10 = .ok (.aload_n 0, 1) := dq_i42 (dl_b (dl_b (dl_b (dl_b (dl_b (dl_b (dl_b (dl_b (dl_b dkJ7_fill_53178_0).2).2).2).2).2).2).2).2).1
theorem dJ7_fill_53178_11 : decode cJ7_fill_53178 11 = .ok (.iload_n 2, 1) := dq_i28 (dl_b (dl_b (dl_b (dl_b (dl_b (dl_b (dl_b (dl_b (dl_b dkJ7_fill_53178_0).2).2).2).2).2).2).2).2).2
theorem dkJ7_fill_53178_12 : (dq_0 cJ7_fill_53178 12 27 && (dq_0 cJ7_fill_53178 13 79 && (dq_5 cJ7_fill_53178 14 132 2 1 && (dq_4 cJ7_fill_53178 17 167 (-12) && (dq_0 cJ7_fill_53178 20 177))))) = true := by decide +kernel
theorem dJ7_fill_53178_12 : decode cJ7_fill_53178 12 = .ok (.iload_n 1, 1) := dq_i27 (dl_b dkJ7_fill_53178_12).1
theorem dJ7_fill_53178_13 : decode cJ7_fill_53178 13 = .ok (.iastore, 1) := dq_i79 (dl_b (dl_b dkJ7_fill_53178_12).2).1
theorem dJ7_fill_53178_14 : decode cJ7_fill_53178 14 = .ok (.iinc 2 1, 3) := dq_i132 (dl_b (dl_b (dl_b dkJ7_fill_53178_12).2).2).1
theorem dJ7_fill_53178_17 : decode cJ7_fill_53178 17 = .ok (.goto (-12), 3) := dq_i167 (dl_b (dl_b (dl_b (dl_b dkJ7_fill_53178_12).2).2).2).1
theorem dJ7_fill_53178_20 : decode cJ7_fill_53178 20 = .ok (.return_, 1) := dq_i177 (dl_b (dl_b (dl_b (dl_b dkJ7_fill_53178_12).2).2).2).2
