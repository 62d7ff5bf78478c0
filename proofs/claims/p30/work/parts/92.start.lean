/-! ===== the law's start ===== -/
theorem st_arr {s : State} {args : Array Value} {ty : FieldType} (h : (Cond.arrayClass ty).before args s = true) : ∃ cA : ClassId, ArrOfT s cA ty ∧ s.vm.findClass ("[" ++ ty.toString) = some cA := by
  obtain ⟨c, k, comp, h1, h2, h3⟩ := Cond.arrayClass_spec h
  exact ⟨c, fun n z => ⟨fun q e => (by cases e), k, h2, comp, h3⟩, h1⟩
theorem st_arrO {s : State} {args : Array Value} {C : String} (h : (Cond.arrayOver (.object C)).before args s = true) : ∃ cA : ClassId, ArrOfT s cA (.object C) ∧ va_RA s cA (.object C) := by
  obtain ⟨comp, c, k, h1, -, h2, h3, h4⟩ := Cond.arrayOver_spec h
  exact ⟨c, fun n z => ⟨fun q e => (by cases e), k, h2, comp, h3⟩, k, comp, h2, h3, h1, h4⟩
def st_op : Term := .static "DiagramBench" "OPERANDS" "[I"
def st_tb : Term := .static "DiagramBench" "TABLES" "[I"
theorem st_op_in : ∀ j : Fin 11, Cond.eq (.elem st_op (.int (Int32.ofNat j.val))) (.int (Int32.ofInt (opF j.val))) ∈ flatC (Jvm.Cond.and given_1 narrow_1) := by decide +kernel
theorem st_tb_in : ∀ j : Fin 11, Cond.eq (.elem st_tb (.int (Int32.ofNat j.val))) (.int (Int32.ofInt (tabF j.val))) ∈ flatC (Jvm.Cond.and given_1 narrow_1) := by decide +kernel
theorem st_op_a : Cond.arrayOf st_op .int ∈ flatC (Jvm.Cond.and given_1 narrow_1) := by decide +kernel
theorem st_tb_a : Cond.arrayOf st_tb .int ∈ flatC (Jvm.Cond.and given_1 narrow_1) := by decide +kernel
theorem st_op_l : Cond.eq (.length st_op) (.int (Int32.ofNat 11)) ∈ flatC (Jvm.Cond.and given_1 narrow_1) := by decide +kernel
theorem st_tb_l : Cond.eq (.length st_tb) (.int (Int32.ofNat 11)) ∈ flatC (Jvm.Cond.and given_1 narrow_1) := by decide +kernel
theorem st_w1 : Cond.laysStatic "DiagramBench" "OPERANDS" "[I" ∈ lw_tbl := by decide +kernel
theorem st_w2 : Cond.laysStatic "DiagramBench" "TABLES" "[I" ∈ lw_tbl := by decide +kernel
theorem st_w3 : Cond.initialized "DiagramBench" ∈ lw_tbl := by decide +kernel
theorem st_w4 : Cond.arrayOver (.object RX0) ∈ lw_tbl := by decide +kernel
theorem st_w5 : Cond.fieldLinkNest RX0 31 "DiagramBench" "OPERANDS" "[I" "DiagramBench" ∈ lw_tbl := by decide +kernel
theorem st_w6 : Cond.fieldLinkNest RX0 45 "DiagramBench" "TABLES" "[I" "DiagramBench" ∈ lw_tbl := by decide +kernel
def stD (a b c d e : ClassId) (i : Nat) : ClassId := match i with
  | 0 => a
  | 1 => b
  | 2 => c
  | 3 => d
  | _ => e
def stI (a b c d e : Nat → Nat) (i : Nat) : Nat → Nat := match i with
  | 0 => a
  | 1 => b
  | 2 => c
  | 3 => d
  | _ => e
def stA (a b c d : ClassId) (i : Nat) : ClassId := match i with
  | 0 => a
  | 1 => b
  | 2 => c
  | _ => d
def stR (x y z : Nat × Nat × (Nat → Int32)) (i : Nat) : Nat × Nat × (Nat → Int32) := match i with
  | 0 => x
  | 1 => y
  | _ => z
theorem whole_start {p : Program} {e : Env} {s : State} {m : MethodId} {below : List Frame} {meth : Method} {c : Code} (l : Launch) {b L : Nat} {xs : Nat → Int32} (hL : L ≤ 3072) (C0 : lw_At p s m meth c b L xs) : W p l e room_1 s m #[Value.ref b] below meth c s.heap [] 0 0 (lw_Z below #[Value.ref b] s) (entryFrame m ([Value.ref b] : List Value).toArray 4) := by
  obtain ⟨hexec, hcode, hret, hml, hown, hts, hX, hbl, hlocks, hgv⟩ := C0
  have htw : ∀ w ∈ tl_W, w.before #[Value.ref b] s = true := fun w hw => hts w (tl_W_in w hw)
  have hfl := flat_of_before _ hgv
  -- classes
  obtain ⟨c0, i0, k0⟩ : ∃ (cC : ClassId) (iS : Nat → Nat), u_Kn s RX0 TX0 6 cC iS := by
    obtain ⟨C, T, h1, hin, -, hinst, -⟩ := cnX3_9
    cases h1
    exact u_known htw hin (htw _ hinst)
  obtain ⟨c1, i1, k1⟩ : ∃ (cC : ClassId) (iS : Nat → Nat), u_Kn s RX1 TX1 3 cC iS := by
    obtain ⟨C, T, h1, hin, -, hinst, -⟩ := cnX3_15
    cases h1
    exact u_known htw hin (htw _ hinst)
  obtain ⟨c2, i2, k2⟩ : ∃ (cC : ClassId) (iS : Nat → Nat), u_Kn s RX2 TX2 9 cC iS := by
    obtain ⟨C, T, h1, hin, -, hinst, -⟩ := cnX3_22
    cases h1
    exact u_known htw hin (htw _ hinst)
  obtain ⟨c3, i3, k3⟩ : ∃ (cC : ClassId) (iS : Nat → Nat), u_Kn s RX3 TX3 11 cC iS := by
    obtain ⟨C, T, h1, hin, -, hinst, -⟩ := cnL_7
    cases h1
    exact u_known htw hin (htw _ hinst)
  obtain ⟨c4, i4, k4⟩ : ∃ (cC : ClassId) (iS : Nat → Nat), u_Kn s RX4 TX4 35 cC iS := by
    obtain ⟨C, T, h1, hin, -, hinst, -⟩ := cnL_10
    cases h1
    exact u_known htw hin (htw _ hinst)
  -- arrays
  obtain ⟨a0, r0, n0⟩ := st_arr (htw _ wd_aI)
  obtain ⟨a1, r1, n1⟩ := st_arr (htw _ wd_aZ)
  obtain ⟨a2, r2, n2⟩ := st_arr (htw _ wd_aJ)
  obtain ⟨a3, r3, n3⟩ := st_arrO (hts _ st_w4)
  -- statics
  obtain ⟨t1, e1, v1⟩ := va_Tof (A := fun q => s.heap.size ≤ q) (tm := st_op) (ty := .int) (N := 11) (f := fun j => .int (Int32.ofInt (opF j))) (by decide) (hfl _ st_op_a) (va_eqt (hfl _ st_op_l)) (fun j hj => va_eqt (hfl _ (st_op_in ⟨j, hj⟩))) (fun a ha => by show ¬ s.heap.size ≤ a; omega)
  obtain ⟨t2, e2, v2⟩ := va_Tof (A := fun q => s.heap.size ≤ q) (tm := st_tb) (ty := .int) (N := 11) (f := fun j => .int (Int32.ofInt (tabF j))) (by decide) (hfl _ st_tb_a) (va_eqt (hfl _ st_tb_l)) (fun j hj => va_eqt (hfl _ (st_tb_in ⟨j, hj⟩))) (fun a ha => by show ¬ s.heap.size ≤ a; omega)
  have z1 := va_Zof (A := fun q => s.heap.size ≤ q) (hts _ st_w1) (hts _ st_w3) e1 (fun a ha => by show ¬ s.heap.size ≤ a; omega)
  have z2 := va_Zof (A := fun q => s.heap.size ≤ q) (hts _ st_w2) (hts _ st_w3) e2 (fun a ha => by show ¬ s.heap.size ≤ a; omega)
  let G : tl_G := (l, (stD c0 c1 c2 c3 c4, stI i0 i1 i2 i3 i4), stA a0 a1 a2 a3, s.heap.size, s.heap, stR (b, L, xs) (t1, 11, fun j => Int32.ofInt (opF j)) (t2, 11, fun j => Int32.ofInt (tabF j)))
  have hg : gZ G := ⟨⟨rfl, fun _ _ => rfl⟩, ⟨rfl, fun _ _ => rfl⟩, by show L < 2 ^ 31; omega⟩
  have tX : ∀ {t : Nat} {f : Nat → Int32}, va_T .int t 11 (fun j => .int (f j)) (fun q => s.heap.size ≤ q) s s.heap → tl_X t 11 f s s.heap ∧ t < s.heap.size := by
    rintro t f ⟨cell, h1, h2, h3, h4, -, h6, h7⟩
    exact ⟨⟨cell, h1, h2, h3, h4, h6⟩, Nat.not_le.mp h7⟩
  have hK : tl_K G s := by
    refine ⟨⟨fun ci q hq => ?_, fun k q hq => ?_⟩, fun i hi => ?_, fun i h1 h2 => ?_, va_AO.of (hts _ st_w4), ⟨va_Nw.of rfl (hts _ st_w5), va_Nw.of rfl (hts _ st_w6)⟩, hX⟩
    · match ci, hq with
      | 0, hq => cases hq; exact k0
      | 1, hq => cases hq; exact k1
      | 2, hq => cases hq; exact k2
      | 3, hq => cases hq; exact k3
      | 4, hq => cases hq; exact k4
      | n + 5, hq => cases hq
    · match k, hq with
      | 0, hq => cases hq; exact ⟨r0, n0⟩
      | 1, hq => cases hq; exact ⟨r1, n1⟩
      | 2, hq => cases hq; exact ⟨r2, n2⟩
      | 3, hq => cases hq; exact ⟨r3, n3⟩
      | n + 4, hq => cases hq
    · match i, hi with
      | 0, _ =>
        obtain ⟨scr, h1, h2, h3, h4, h5⟩ := hX
        exact ⟨⟨scr, h1, h2, h3, Nat.le_of_eq h4.symm, h5⟩, hbl⟩
      | 1, _ => exact tX v1
      | 2, _ => exact tX v2
    · match i, h1, h2 with
      | 1, _, _ => exact z1
      | 2, _, _ => exact z2
  have hz := zLaw (G := G) (M := fun _ _ => 0) (J := fun _ _ => 0) (b := b) (nm := meth.name) hL (fun _ _ _ => rfl) (fun _ _ _ => rfl) hg (fun a k => ⟨(zT_in a k).1.2, (zT_in a k).2.1⟩) (fun a h => h.elim) (fun v hv => by
    simp only [List.mem_cons, Option.some.injEq, reduceCtorEq, List.not_mem_nil, or_false] at hv
    subst hv
    trivial) (fun v hv => by cases hv)
  have hH : tl_H G (tS G F00 (fun _ _ => 0) (fun _ _ => 0)) s.heap := by
    refine ⟨rfl, Nat.le_refl _, fun q _ => rfl, fun a ha => ?_, fun a => ?_⟩
    · show (if a < s.heap.size then (0, 0) else (0, 0) : Nat × Nat).1 = 0
      split <;> rfl
    · have e9 : sS (tS G F00 (fun _ _ => 0) (fun _ _ => 0)) a = (0, 0) := by
        show (if a < s.heap.size then (0, 0) else (0, 0) : Nat × Nat) = (0, 0)
        split <;> rfl
      unfold tl_cell
      rw [e9]
      trivial
  have hl := lv_entry ([Value.ref b] : List Value) (n := 4) (Nat.le_of_ble_eq_true rfl)
  rw [lg_entry_eq]
  have hW := hz p e s m #[Value.ref b] below meth c s.heap [] _ ⟨hexec, hcode, hml, hret, hlocks, rfl, hown, htw, hK⟩ hH (fun q hq => by cases hq) ⟨hl.1, hl.2.1, fun i v hi => ?_⟩
  · intro T hT X
    obtain ⟨t, a5, b5⟩ := hW T hT X
    exact ⟨t, a5, b5 rfl rfl⟩
  · have h1 := tl_args_in [Value.ref b] 0 i v ?_
    · rw [Nat.zero_add] at h1
      exact hl.2.2 (i, v) h1
    · match i, hi with
      | 0, hi => exact hi
      | 1, hi => cases hi
      | 2, hi => cases hi
      | 3, hi => cases hi
      | n + 4, hi => cases hi
