/-! ===== the reference on a fresh object: add ===== -/
abbrev kAd (a : Nat) : Prop := a < 31 ∨ (31 < a ∧ a < 43) ∨ a = 44 ∨ 53 < a
theorem bitF_congr {J J' : zJ} (h : J' 44 = J 44) (f : Int) : bitF J' f = bitF J f := by
  funext k
  unfold bitF
  rw [h]
theorem lyw_congr {B B' : Int → Int64} {d i : Int} (h : ∀ k : Int, 0 ≤ k → k < 4 → B k = B' k) (z : 0 ≤ i * zshr 256 d ∧ i * zshr 256 d < 256) : lyw B d i = lyw B' d i := by
  have q := zshr6' z.1 z.2
  unfold lyw
  rw [h _ q.1 (by omega)]
theorem lyc_congr {B B' : Int → Int64} {d i : Int} (h : ∀ k : Int, 0 ≤ k → k < 4 → B k = B' k) (z : 0 ≤ i * zshr 256 d ∧ i * zshr 256 d < 256) : lyc B d i = lyc B' d i := by
  unfold lyc
  rw [lyw_congr h z]
theorem lyR_congr {B B' : Int → Int64} {d i : Int} (h : ∀ k : Int, 0 ≤ k → k < 4 → B k = B' k) (h0 : 0 ≤ d) (h1 : d ≤ 7) (i0 : 0 ≤ i) (i1 : i < zshl 1 d) : lyR B d i = lyR B' d i := by
  obtain ⟨-, z, -, -, z5⟩ := zlay h0 h1 i0 i1
  unfold lyR
  rw [lyc_congr h z, h 0 (by decide) (by decide), h 1 (by decide) (by decide), h 2 (by decide) (by decide), h 3 (by decide) (by decide)]
  by_cases e : 1 < d
  · rw [if_pos e, if_pos e]
  · rw [if_neg e, if_neg e]
    by_cases e0 : d = 0
    · rw [if_pos e0, if_pos e0]
    · rw [if_neg e0, if_neg e0]
      have := z5 (by omega)
      rw [h (2 * i) (by omega) (by omega), h (2 * i + 1) (by omega) (by omega)]
theorem lyP_congr {B B' : Int → Int64} {d i : Int} (h : ∀ k : Int, 0 ≤ k → k < 4 → B k = B' k) (h0 : 0 ≤ d) (h1 : d ≤ 7) (i0 : 0 ≤ i) (i1 : i < zshl 1 d) : ∀ k : Int, 0 ≤ k → k < 4 → lyP B d i k = lyP B' d i k := by
  intro k k0 k1
  obtain ⟨-, z, -, -, z5⟩ := zlay h0 h1 i0 i1
  unfold lyP
  rw [lyw_congr h z, h k k0 k1]
  by_cases e : 1 < d
  · rw [if_pos e, if_pos e]
  · rw [if_neg e, if_neg e]
    by_cases e0 : d = 0
    · rw [if_pos e0, if_pos e0]
    · rw [if_neg e0, if_neg e0]
      have := z5 (by omega)
      rw [h (2 * i) (by omega) (by omega), h (2 * i + 1) (by omega) (by omega)]
def chkV : Bool := (List.range 8).all fun p => (List.range 8).all fun d => (List.range (2 ^ d)).all fun i => (lyR (vbF whF p) d i == (d == p)) && (d != p || ([0, 1, 2, 3].all fun k => lyP (vbF whF p) d i k == lyP (vbF whF p) p 0 k))
theorem chkV_ok : chkV = true := by decide +kernel
def chkC : Bool := (List.range 8).all fun d => (List.range (2 ^ d)).all fun i => (lyR (fun _ => 0) d i == false) && (lyR (fun _ => -1) d i == false)
theorem chkC_ok : chkC = true := by decide +kernel
theorem nat_lt {i d : Int} (i0 : 0 ≤ i) (h0 : 0 ≤ d) (h1 : d ≤ 7) (i1 : i < zshl 1 d) : i.toNat < 2 ^ d.toNat := by
  have h := (zshl1 h0 h1).2.2
  have h2 : ((2 ^ d.toNat : Nat) : Int) = 2 ^ d.toNat := by simp
  omega
theorem var_ly {p d i : Int} (p0 : 0 ≤ p) (p1 : p ≤ 7) (h0 : 0 ≤ d) (h1 : d ≤ 7) (i0 : 0 ≤ i) (i1 : i < zshl 1 d) : (lyR (vbF whF p) d i = true ↔ d = p) ∧ (d = p → ∀ k : Int, 0 ≤ k → k < 4 → lyP (vbF whF p) d i k = lyP (vbF whF p) p 0 k) := by
  have h := chkV_ok
  unfold chkV at h
  have h2 := List.all_eq_true.mp h p.toNat (List.mem_range.mpr (by omega))
  have h3 := List.all_eq_true.mp h2 d.toNat (List.mem_range.mpr (by omega))
  have h4 := List.all_eq_true.mp h3 i.toNat (List.mem_range.mpr (nat_lt i0 h0 h1 i1))
  simp only [Int.toNat_of_nonneg p0, Int.toNat_of_nonneg h0, Int.toNat_of_nonneg i0, Bool.and_eq_true, beq_iff_eq, Bool.or_eq_true, bne_iff_ne] at h4
  obtain ⟨q1, q2⟩ := h4
  constructor
  · rw [q1, beq_iff_eq]
    omega
  · intro e k k0 k1
    rcases q2 with q2 | q2
    · exact absurd (by omega) q2
    · simp only [List.all_cons, List.all_nil, Bool.and_true, Bool.and_eq_true, beq_iff_eq] at q2
      exact four (P := fun k => lyP (vbF whF p) d i k = lyP (vbF whF p) p 0 k) q2.1 q2.2.1 q2.2.2.1 q2.2.2.2 k k0 k1
theorem con_ly {d i : Int} (h0 : 0 ≤ d) (h1 : d ≤ 7) (i0 : 0 ≤ i) (i1 : i < zshl 1 d) : lyR (fun _ => 0) d i = false ∧ lyR (fun _ => -1) d i = false := by
  have h := chkC_ok
  unfold chkC at h
  have h3 := List.all_eq_true.mp h d.toNat (List.mem_range.mpr (by omega))
  have h4 := List.all_eq_true.mp h3 i.toNat (List.mem_range.mpr (nat_lt i0 h0 h1 i1))
  simp only [Int.toNat_of_nonneg h0, Int.toNat_of_nonneg i0, Bool.and_eq_true, beq_iff_eq] at h4
  exact h4
def flat (B : Int → Int64) : Prop := ∀ d i : Int, 0 ≤ d → d ≤ 7 → 0 ≤ i → i < zshl 1 d → lyR B d i = false
def ad0 (M : zM) (f : Int) : zM := uz (uz (uz M 43 f 1) 45 f 0) 31 27 (M 31 27 + 1)
set_option maxRecDepth 20000 in
theorem zX4_add_flat {G : tl_G} {M : zM} {J : zJ} {f : Int} (f0 : 0 ≤ f) (f1 : f < 56) (hB : flat (bitF J f)) (hk : M 31 27 < 2147483647) : ZN G yX4_add mX4_add 1 kAd [vR 31, vI f] F1 M J (qV (fun M' J' => M' = ad0 M f)) := by
  refine ZN_of (L := [_, _, _, _, _]) (by decide) rfl rfl (Nat.le_of_ble_eq_true rfl) rfl (fun hav => ?_)
  refine Z_aload_n (n := 1) dX4_add_0 rfl rfl ?_
  refine Z_getA (n := 4) dX4_add_1 rfl ffX4_44 rfl rfl ?_
  refine Z_iload_n (n := 5) dX4_add_4 rfl rfl ?_
  refine Z_iconst (n := 6) dX4_add_5 rfl (by decide) ?_
  refine Z_zast (n := 7) dX4_add_6 rfl rfl rfl (by first | decide | assumption) (by omega) (by omega) (by first | assumption | omega | decide) (by first | assumption | omega | decide) (by decide) ?_
  refine Z_aload_n (n := 8) dX4_add_7 rfl rfl ?_
  refine Z_getA (n := 11) dX4_add_8 rfl ffX4_51 rfl rfl ?_
  refine Z_iload_n (n := 12) dX4_add_11 rfl rfl ?_
  refine Z_iconst (n := 13) dX4_add_12 rfl (by decide) ?_
  refine Z_iast (n := 14) dX4_add_13 rfl rfl rfl (by first | decide | assumption) (by omega) (by omega) (by first | assumption | omega | decide) (by first | assumption | omega | decide) (by decide) ?_
  refine Z_aload_n (n := 15) dX4_add_14 rfl rfl ?_
  refine Z_dup (n := 16) dX4_add_15 rfl rfl ?_
  refine Z_getI (n := 19) (ki := 27) dX4_add_16 rfl ffX4_160 rfl rfl rfl (fun r16 s16 => ?_)
  try simp only [uz_oo (show (31 : Nat) ≠ 45 by decide), uz_oo (show (31 : Nat) ≠ 43 by decide)] at r16 s16 ⊢
  refine Z_iconst (n := 20) dX4_add_19 rfl (by decide) ?_
  refine Z_iadd (n := 21) dX4_add_20 rfl (by omega) ?_
  refine Z_putI (n := 24) (ki := 27) dX4_add_21 rfl ffX4_160 rfl (by decide) rfl rfl (by first | assumption | omega | decide) (by first | assumption | omega | decide) (by decide) ?_
  refine Z_iconst (n := 25) dX4_add_24 rfl (by decide) ?_
  refine Z_istore_n (L' := [_, _, _, _, _]) (n := 26) dX4_add_25 rfl (by decide) rfl rfl ?_
  have lp26 : ∀ (N26 : Nat) (d : Int) (M26 : zM) (J26 : zJ), ((8 - d).toNat) < N26 → (0 ≤ d) → (d ≤ 8) → (M26 = ad0 M f) → TZ G mX4_add (tl_rm 1 0 0) 0 0 kAd M J 26 [some (vR 31), some (vI f), some (vI d), none, none] [] F1 M26 J26 (ZM G (zPost G kAd F1 M J (qV (fun M' J' => M' = ad0 M f))) 0 0) := by
    intro N26
    induction N26 with
    | zero => intro d M26 J26 hN; omega
    | succ N26 ih26 =>
      intro d M26 J26 hN26 i26_0 i26_1 i26_2
      refine Z_iload_n (n := 27) dX4_add_26 rfl rfl ?_
      refine Z_bipush (n := 29) dX4_add_27 rfl (by decide) (by decide) ?_
      refine Z_icmp_ge (n := 32) (t := 159) dX4_add_29 rfl (by decide) (fun c29 => ?_) (fun c29 => ?_)
      · refine Z_vret dX4_add_159 rfl ?_
        exact i26_2
      · have hs := zshl1 (d := d) (by omega) (by omega)
        refine Z_iconst (n := 33) dX4_add_32 rfl (by decide) ?_
        refine Z_istore_n (L' := [_, _, _, _, _]) (n := 34) dX4_add_33 rfl (by decide) rfl rfl ?_
        have lp34 : ∀ (N34 : Nat) (i : Int) (M34 : zM) (J34 : zJ), ((zshl 1 d - i).toNat) < N34 → (0 ≤ i) → (i ≤ zshl 1 d) → (M34 = ad0 M f) → TZ G mX4_add (tl_rm 1 0 0) 0 0 kAd M J 34 [some (vR 31), some (vI f), some (vI d), some (vI i), none] [] F1 M34 J34 (ZM G (zPost G kAd F1 M J (qV (fun M' J' => M' = ad0 M f))) 0 0) := by
          intro N34
          induction N34 with
          | zero => intro i M34 J34 hN; omega
          | succ N34 ih34 =>
            intro i M34 J34 hN34 i34_0 i34_1 i34_2
            refine Z_iload_n (n := 35) dX4_add_34 rfl rfl ?_
            refine Z_iconst (n := 36) dX4_add_35 rfl (by decide) ?_
            refine Z_iload_n (n := 37) dX4_add_36 rfl rfl ?_
            refine Z_ishl (n := 38) dX4_add_37 rfl ?_
            refine Z_icmp_ge (n := 41) (t := 153) dX4_add_38 rfl (by decide) (fun c38 => ?_) (fun c38 => ?_)
            · refine Z_iinc (L' := [_, _, _, _, _]) (n := 156) dX4_add_153 rfl rfl (by decide) rfl rfl (by omega) rfl ?_
              refine Z_goto (t := 26) dX4_add_156 (by decide) ?_
              refine Z_loc (L' := [some _, some _, some _, none, none]) (lsub_same (lsub_same (lsub_same (lsub_none (lsub_none lsub_nil))))) ?_
              exact ih26 _ _ _ (by omega) (by first | assumption | omega | decide) (by first | assumption | omega | decide) (by first | rfl | assumption)
            · refine Z_aload_n (n := 42) dX4_add_41 rfl rfl ?_
              refine Z_iload_n (n := 43) dX4_add_42 rfl rfl ?_
              refine Z_iload_n (n := 44) dX4_add_43 rfl rfl ?_
              refine Z_iload_n (n := 45) dX4_add_44 rfl rfl ?_
              refine Z_fr (fun fr34 => ?_)
              refine Z_callVi (n := 48) [_, _, _] _ dX4_add_45 rfl cwX4_163 rfl rfl rfl (Nat.le_of_ble_eq_true rfl) (by refine ⟨?_, ?_, ?_, ?_⟩ <;> exact Nat.le_of_ble_eq_true rfl) (fun a h => by unfold kAd at h; unfold kPart; omega) (zX4_lays  (by first | assumption | omega | decide) (by first | assumption | omega | decide) (by first | assumption | omega | decide) (by first | assumption | omega | decide) (by first | assumption | omega | decide) (by first | assumption | omega | decide)) ?_
              intro x45 M45 J45 z45 f45 q45
              obtain ⟨e45_1, h45⟩ := q45
              replace e45_1 := e45_1.symm; subst e45_1
              refine Z_if_eq (n := 51) (t := 147) dX4_add_48 rfl (by decide) (fun c48 => ?_) (fun c48 => ?_)
              · refine Z_iinc (L' := [_, _, _, _, _]) (n := 150) dX4_add_147 rfl rfl (by decide) rfl rfl (by omega) rfl ?_
                refine Z_goto (t := 34) dX4_add_150 (by decide) ?_
                refine Z_loc (L' := [some _, some _, some _, some _, none]) (lsub_same (lsub_same (lsub_same (lsub_same (lsub_none lsub_nil))))) ?_
                exact ih34 _ _ _ (by omega) (by first | assumption | omega | decide) (by first | assumption | omega | decide) (by first | rfl | assumption)
              · exact (by rcases h45 with ⟨-, q, -⟩ | ⟨q, -⟩ <;> first | omega | (rw [bitF_congr (fr34 44 (by decide)).2 f, hB d i (by omega) (by omega) (by omega) (by omega)] at q; cases q))
        refine Z_loc (L' := [some _, some _, some _, some _, none]) (lsub_same (lsub_same (lsub_same (lsub_same (lsub_none lsub_nil))))) ?_
        exact lp34 _ _ _ _ (Nat.lt_succ_self _) (by first | assumption | omega | decide) (by first | assumption | omega | decide) (by first | rfl | assumption)
  refine Z_loc (L' := [some _, some _, some _, none, none]) (lsub_same (lsub_same (lsub_same (lsub_none (lsub_none lsub_nil))))) ?_
  exact lp26 _ _ _ _ (Nat.lt_succ_self _) (by first | assumption | omega | decide) (by first | assumption | omega | decide) (by first | rfl | assumption)
