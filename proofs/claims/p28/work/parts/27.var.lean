/-! ===== the reference on a fresh object: variable, combine, drop ===== -/
abbrev kRm (a : Nat) : Prop := ¬ a = 43 ∧ ¬ a = 45 ∧ ¬ a = 49
def rmOK (M : zM) (f : Int) : Prop := M 45 f = 0 ∨ (M 45 f = 1 ∧ M 46 (255 * f) = 0 ∧ M 49 0 = 2)
set_option maxRecDepth 20000 in
theorem zX4_remove_1 {G : tl_G} {M : zM} {J : zJ} {f : Int} (f0 : 0 ≤ f) (f1 : f < 56) (hr : rmOK M f) : ZN G yX4_remove mX4_remove 0 kRm [vR 31, vI f] F1 M J (qV (fun M' J' => J' = J ∧ M' 45 f = 0 ∧ (∀ g : Int, g ≠ f → M' 45 g = M 45 g) ∧ (M 45 f = 0 → M' 49 = M 49))) := by
  refine ZN_of (L := [_, _, _, _]) (by decide) rfl rfl (Nat.le_of_ble_eq_true rfl) rfl (fun hav => ?_)
  refine Z_iconst (n := 1) dX4_remove_0 rfl (by decide) ?_
  refine Z_istore_n (L' := [_, _, _, _]) (n := 2) dX4_remove_1 rfl (by decide) rfl rfl ?_
  have lp2 : ∀ (N2 : Nat) (k : Int) (M2 : zM) (J2 : zJ), ((1 - k).toNat) < N2 → (J2 = J) → (0 ≤ k) → (M2 45 = M 45) → ((k = 0 ∧ M2 49 = M 49) ∨ (k = 1 ∧ M 45 f = 1)) → TZ G mX4_remove (tl_rm 0 0 0) 0 0 kRm M J 2 [some (vR 31), some (vI f), some (vI k), none] [] F1 M2 J2 (ZM G (zPost G kRm F1 M J (qV (fun M' J' => J' = J ∧ M' 45 f = 0 ∧ (∀ g : Int, g ≠ f → M' 45 g = M 45 g) ∧ (M 45 f = 0 → M' 49 = M 49)))) 0 0) := by
    intro N2
    induction N2 with
    | zero => intro k M2 J2 hN; omega
    | succ N2 ih2 =>
      intro k M2 J2 hN2 i2_0 i2_1 i2_2 i2_3
      refine Z_iload_n (n := 3) dX4_remove_2 rfl rfl ?_
      refine Z_aload_n (n := 4) dX4_remove_3 rfl rfl ?_
      refine Z_getA (n := 7) dX4_remove_4 rfl ffX4_51 rfl rfl ?_
      refine Z_iload_n (n := 8) dX4_remove_7 rfl rfl ?_
      refine Z_iald (n := 9) dX4_remove_8 rfl rfl rfl (by first | decide | assumption) (by omega) (by omega) (fun r8 s8 => ?_)
      try simp only [i2_2] at r8 s8 ⊢
      refine Z_icmp_ge (n := 12) (t := 81) dX4_remove_9 rfl (by decide) (fun c9 => ?_) (fun c9 => ?_)
      · refine Z_aload_n (n := 82) dX4_remove_81 rfl rfl ?_
        refine Z_getA (n := 85) dX4_remove_82 rfl ffX4_44 rfl rfl ?_
        refine Z_iload_n (n := 86) dX4_remove_85 rfl rfl ?_
        refine Z_iconst (n := 87) dX4_remove_86 rfl (by decide) ?_
        refine Z_zast (n := 88) dX4_remove_87 rfl rfl rfl (by first | decide | assumption) (by omega) (by omega) (by first | assumption | omega | decide) (by first | assumption | omega | decide) (by decide) ?_
        refine Z_aload_n (n := 89) dX4_remove_88 rfl rfl ?_
        refine Z_getA (n := 92) dX4_remove_89 rfl ffX4_51 rfl rfl ?_
        refine Z_iload_n (n := 93) dX4_remove_92 rfl rfl ?_
        refine Z_iconst (n := 94) dX4_remove_93 rfl (by decide) ?_
        refine Z_iast (n := 95) dX4_remove_94 rfl rfl rfl (by first | decide | assumption) (by omega) (by omega) (by first | assumption | omega | decide) (by first | assumption | omega | decide) (by decide) ?_
        refine Z_vret dX4_remove_95 rfl ?_
        refine ⟨i2_0, uz_s, fun g hg => ?_, fun q => ?_⟩
        · rw [uz_n hg, uz_oo (by decide), i2_2]
        · rw [uz_o (by decide), uz_o (by decide)]
          rcases i2_3 with ⟨-, a⟩ | ⟨-, a⟩
          · exact a
          · exfalso; omega
      · refine Z_aload_n (n := 13) dX4_remove_12 rfl rfl ?_
        refine Z_getA (n := 16) dX4_remove_13 rfl ffX4_44 rfl rfl ?_
        refine Z_iload_n (n := 17) dX4_remove_16 rfl rfl ?_
        refine Z_zald (n := 18) dX4_remove_17 rfl rfl rfl (by first | decide | assumption) (by omega) (by omega) (fun r17 s17 => ?_)
        refine Z_if_eq (n := 21) (t := 81) dX4_remove_18 rfl (by decide) (fun c18 => ?_) (fun c18 => ?_)
        · refine Z_aload_n (n := 82) dX4_remove_81 rfl rfl ?_
          refine Z_getA (n := 85) dX4_remove_82 rfl ffX4_44 rfl rfl ?_
          refine Z_iload_n (n := 86) dX4_remove_85 rfl rfl ?_
          refine Z_iconst (n := 87) dX4_remove_86 rfl (by decide) ?_
          refine Z_zast (n := 88) dX4_remove_87 rfl rfl rfl (by first | decide | assumption) (by omega) (by omega) (by first | assumption | omega | decide) (by first | assumption | omega | decide) (by decide) ?_
          refine Z_aload_n (n := 89) dX4_remove_88 rfl rfl ?_
          refine Z_getA (n := 92) dX4_remove_89 rfl ffX4_51 rfl rfl ?_
          refine Z_iload_n (n := 93) dX4_remove_92 rfl rfl ?_
          refine Z_iconst (n := 94) dX4_remove_93 rfl (by decide) ?_
          refine Z_iast (n := 95) dX4_remove_94 rfl rfl rfl (by first | decide | assumption) (by omega) (by omega) (by first | assumption | omega | decide) (by first | assumption | omega | decide) (by decide) ?_
          refine Z_vret dX4_remove_95 rfl ?_
          refine ⟨i2_0, uz_s, fun g hg => ?_, fun q => ?_⟩
          · rw [uz_n hg, uz_oo (by decide), i2_2]
          · rw [uz_o (by decide), uz_o (by decide)]
            rcases i2_3 with ⟨-, a⟩ | ⟨-, a⟩
            · exact a
            · exfalso; omega
        · have hk : k = 0 ∧ M2 49 = M 49 ∧ M 45 f = 1 ∧ M 46 (255 * f) = 0 ∧ M 49 0 = 2 := by
            rcases i2_3 with ⟨a1, a2⟩ | ⟨a1, a2⟩
            · rcases hr with b | ⟨b1, b2, b3⟩
              · exfalso; omega
              · exact ⟨a1, a2, b1, b2, b3⟩
            · exfalso; omega
          obtain ⟨hk0, hk49, hk1, hk2, hk3⟩ := hk
          subst hk0
          refine Z_fr (fun fr2 => ?_)
          have h46 : M2 46 (255 * f + 0) = 0 := by rw [Int.add_zero, (fr2 46 (by decide)).1]; exact hk2
          have h49 : M2 49 0 = 2 := by rw [hk49]; exact hk3
          refine Z_aload_n (n := 22) dX4_remove_21 rfl rfl ?_
          refine Z_getA (n := 25) dX4_remove_22 rfl ffX4_54 rfl rfl ?_
          refine Z_sipush (n := 28) dX4_remove_25 rfl (by decide) (by decide) ?_
          refine Z_iload_n (n := 29) dX4_remove_28 rfl rfl ?_
          refine Z_imul (n := 30) dX4_remove_29 rfl (by omega) ?_
          refine Z_iload_n (n := 31) dX4_remove_30 rfl rfl ?_
          refine Z_iadd (n := 32) dX4_remove_31 rfl (by omega) ?_
          refine Z_iald (n := 33) dX4_remove_32 rfl rfl rfl (by first | decide | assumption) (by omega) (by omega) (fun r32 s32 => ?_)
          simp only [h46]
          
          refine Z_istore_n (L' := [_, _, _, _]) (n := 34) dX4_remove_33 rfl (by decide) rfl rfl ?_
          refine Z_aload_n (n := 35) dX4_remove_34 rfl rfl ?_
          refine Z_getA (n := 38) dX4_remove_35 rfl ffX4_63 rfl rfl ?_
          refine Z_iload_n (n := 39) dX4_remove_38 rfl rfl ?_
          refine Z_dup2 (n := 40) dX4_remove_39 rfl rfl rfl ?_
          refine Z_iald (n := 41) dX4_remove_40 rfl rfl rfl (by first | decide | assumption) (by omega) (by omega) (fun r40 s40 => ?_)
          refine Z_iconst (n := 42) dX4_remove_41 rfl (by decide) ?_
          refine Z_isub (n := 43) dX4_remove_42 rfl (by omega) ?_
          refine Z_iast (n := 44) dX4_remove_43 rfl rfl rfl (by first | decide | assumption) (by omega) (by omega) (by first | assumption | omega | decide) (by first | assumption | omega | decide) (by decide) ?_
          refine Z_aload_n (n := 45) dX4_remove_44 rfl rfl ?_
          refine Z_getA (n := 48) dX4_remove_45 rfl ffX4_63 rfl rfl ?_
          refine Z_iload_n (n := 49) dX4_remove_48 rfl rfl ?_
          refine Z_iald (n := 50) dX4_remove_49 rfl rfl rfl (by first | decide | assumption) (by omega) (by omega) (fun r49 s49 => ?_)
          try simp only [uz_s] at r49 s49 ⊢
          refine Z_if_ne (n := 53) (t := 75) dX4_remove_50 rfl (by decide) (fun c50 => ?_) (fun c50 => ?_)
          · refine Z_iinc (L' := [_, _, _, _]) (n := 78) dX4_remove_75 rfl rfl (by decide) rfl rfl (by omega) rfl ?_
            refine Z_goto (t := 2) dX4_remove_78 (by decide) ?_
            refine Z_loc (L' := [some _, some _, some _, none]) (lsub_same (lsub_same (lsub_same (lsub_none lsub_nil)))) ?_
            exact ih2 _ _ _ (by omega) (by first | rfl | assumption) (by first | assumption | omega | decide) (by first | rfl | (rw [uz_o (by decide)]; exact i2_2)) (by first | exact Or.inl ⟨rfl, rfl⟩ | exact Or.inr ⟨by omega, by omega⟩)
          · omega
  refine Z_loc (L' := [some _, some _, some _, none]) (lsub_same (lsub_same (lsub_same (lsub_none lsub_nil)))) ?_
  exact lp2 _ _ _ _ (Nat.lt_succ_self _) (by first | rfl | assumption) (by first | assumption | omega | decide) (by first | rfl | (rw [uz_o (by decide)]; exact i2_2)) (by first | exact Or.inl ⟨rfl, rfl⟩ | exact Or.inr ⟨by omega, by omega⟩)
set_option maxRecDepth 20000 in
theorem zX4_clearHand_1 {G : tl_G} {M : zM} {J : zJ}  (h0 : ∀ g : Int, 12 ≤ g → g < 55 → M 45 g = 0) (h1 : rmOK M 55) : ZN G yX4_clearHand mX4_clearHand 1 kRm [vR 31] F1 M J (qV (fun M' J' => J' = J ∧ ∀ h : Int, 0 ≤ h → h < 12 → M' 45 h = M 45 h)) := by
  refine ZN_of (L := [_, _]) (by decide) rfl rfl (Nat.le_of_ble_eq_true rfl) rfl (fun hav => ?_)
  refine Z_bipush (n := 2) dX4_clearHand_0 rfl (by decide) (by decide) ?_
  refine Z_istore_n (L' := [_, _]) (n := 3) dX4_clearHand_2 rfl (by decide) rfl rfl ?_
  have lp3 : ∀ (N3 : Nat) (f : Int) (M3 : zM) (J3 : zJ), ((56 - f).toNat) < N3 → (J3 = J) → (12 ≤ f) → (f ≤ 56) → (∀ h : Int, 0 ≤ h → h < 12 → M3 45 h = M 45 h) → (∀ g : Int, f ≤ g → g < 55 → M3 45 g = 0) → (f ≤ 55 → rmOK M3 55) → TZ G mX4_clearHand (tl_rm 1 0 0) 0 0 kRm M J 3 [some (vR 31), some (vI f)] [] F1 M3 J3 (ZM G (zPost G kRm F1 M J (qV (fun M' J' => J' = J ∧ ∀ h : Int, 0 ≤ h → h < 12 → M' 45 h = M 45 h))) 0 0) := by
    intro N3
    induction N3 with
    | zero => intro f M3 J3 hN; omega
    | succ N3 ih3 =>
      intro f M3 J3 hN3 i3_0 i3_1 i3_2 i3_3 i3_4 i3_5
      refine Z_iload_n (n := 4) dX4_clearHand_3 rfl rfl ?_
      refine Z_bipush (n := 6) dX4_clearHand_4 rfl (by decide) (by decide) ?_
      refine Z_icmp_ge (n := 9) (t := 20) dX4_clearHand_6 rfl (by decide) (fun c6 => ?_) (fun c6 => ?_)
      · refine Z_vret dX4_clearHand_20 rfl ?_
        exact ⟨i3_0, i3_3⟩
      · have hrm : rmOK M3 f := by
          by_cases e : f = 55
          · subst e; exact i3_5 (by omega)
          · exact Or.inl (i3_4 f (by omega) (by omega))
        refine Z_aload_n (n := 10) dX4_clearHand_9 rfl rfl ?_
        refine Z_iload_n (n := 11) dX4_clearHand_10 rfl rfl ?_
        refine Z_callVv (n := 14) [_] _ dX4_clearHand_11 rfl cwX4_179 rfl rfl rfl (Nat.le_of_ble_eq_true rfl) (by refine ⟨?_, ?_, ?_, ?_⟩ <;> exact Nat.le_of_ble_eq_true rfl) (fun _ h => h) (zX4_remove_1  (by omega) (by omega) (by exact hrm)) ?_
        intro M11 J11 f11 q11
        obtain ⟨e11_1, rz11, ro11, r4911⟩ := q11
        replace e11_1 := e11_1.symm; subst e11_1
        have nx5 : f + 1 ≤ 55 → rmOK M11 55 := fun q => by
          have z := i3_4 f (by omega) (by omega)
          have w := i3_5 (by omega)
          unfold rmOK at *
          rw [ro11 55 (by omega), r4911 z, (f11 46 (by decide)).1]
          exact w
        refine Z_iinc (L' := [_, _]) (n := 17) dX4_clearHand_14 rfl rfl (by decide) rfl rfl (by omega) rfl ?_
        refine Z_goto (t := 3) dX4_clearHand_17 (by decide) ?_
        refine Z_loc (L' := [some _, some _]) (lsub_same (lsub_same lsub_nil)) ?_
        exact ih3 _ _ _ (by omega) (by first | rfl | assumption) (by first | assumption | omega | decide) (by first | assumption | omega | decide) (by first | exact fun h _ _ => rfl | exact fun h a b => (ro11 h (by omega)).trans (i3_3 h a b)) (by first | exact h0 | exact fun g a b => (ro11 g (by omega)).trans (i3_4 g (by omega) b)) (by first | exact fun _ => h1 | exact nx5)
  refine Z_loc (L' := [some _, some _]) (lsub_same (lsub_same lsub_nil)) ?_
  exact lp3 _ _ _ _ (Nat.lt_succ_self _) (by first | rfl | assumption) (by first | assumption | omega | decide) (by first | assumption | omega | decide) (by first | exact fun h _ _ => rfl | exact fun h a b => (ro11 h (by omega)).trans (i3_3 h a b)) (by first | exact h0 | exact fun g a b => (ro11 g (by omega)).trans (i3_4 g (by omega) b)) (by first | exact fun _ => h1 | exact nx5)
theorem flat_congr {B B' : Int → Int64} (h : ∀ k : Int, 0 ≤ k → k < 4 → B k = B' k) (q : flat B') : flat B := fun d i a b c e => (lyR_congr h a b c e).trans (q d i a b c e)
theorem rm_pre {p : Int} {M M' : zM} {J : zJ} (h : preS 1 p M J) (fr : ∀ a, kRm a → M' a = M a) (h49 : M' 49 = M 49) : preS 1 p M' J := by
  rcases h with ⟨q, -⟩ | ⟨-, h1, h2, h3, h4, h5⟩
  · cases q
  · refine Or.inr ⟨rfl, ?_, ?_, ⟨?_, h3.2⟩, ?_, ?_⟩
    · rw [fr 51 (by decide)]; exact h1
    · rw [fr 50 (by decide)]; exact h2
    · rw [fr 47 (by decide)]; exact h3.1
    · rw [fr 31 (by decide)]; exact h4
    · rw [h49]; exact h5
set_option maxRecDepth 20000 in
theorem zX4_take_flat {G : tl_G} {M : zM} {J : zJ} {s t p : Int} (s0 : s = 55) (t0 : 0 ≤ t) (t1 : t < 12) (hr : M 45 t = 0) (hB : flat (bitF J s)) (hk : M 31 27 < 2147483647) : ZN G yX4_take mX4_take 3 kF [vR 31, vI s, vI t] F1 M J (qV (fun M' J' => M' 45 t = 0 ∧ ∀ g : Int, g ≠ t → M' 45 g = M 45 g)) := by
  refine ZN_of (L := [_, _, _, _]) (by decide) rfl rfl (Nat.le_of_ble_eq_true rfl) rfl (fun hav => ?_)
  refine Z_aload_n (n := 1) dX4_take_0 rfl rfl ?_
  refine Z_iload_n (n := 2) dX4_take_1 rfl rfl ?_
  refine Z_callVv (n := 5) [_] _ dX4_take_2 rfl cwX4_179 rfl rfl rfl (Nat.le_of_ble_eq_true rfl) (by refine ⟨?_, ?_, ?_, ?_⟩ <;> exact Nat.le_of_ble_eq_true rfl) (fun a h => h.elim) (zX4_remove_1  (by omega) (by omega) (by exact Or.inl hr)) ?_
  intro M2 J2 f2 q2
  obtain ⟨e2_1, rz2, ro2, r492⟩ := q2
  replace e2_1 := e2_1.symm; subst e2_1
  refine Z_iconst (n := 6) dX4_take_5 rfl (by decide) ?_
  refine Z_istore_n (L' := [_, _, _, _]) (n := 7) dX4_take_6 rfl (by decide) rfl rfl ?_
  have lp7 : ∀ (N7 : Nat) (k : Int) (M7 : zM) (J7 : zJ), ((4 - k).toNat) < N7 → (M7 = M2) → (0 ≤ k) → (k ≤ 4) → (∀ j : Int, 0 ≤ j → j < k → J7 44 (4 * t + j) = J 44 (4 * s + j)) → (∀ j : Int, (j < 4 * t ∨ 4 * t + 4 ≤ j) → J7 44 j = J 44 j) → (∀ a : Nat, a ≠ 44 → J7 a = J a) → TZ G mX4_take (tl_rm 3 0 0) 0 0 kF M J 7 [some (vR 31), some (vI s), some (vI t), some (vI k)] [] F1 M7 J7 (ZM G (zPost G kF F1 M J (qV (fun M' J' => M' 45 t = 0 ∧ ∀ g : Int, g ≠ t → M' 45 g = M 45 g))) 0 0) := by
    intro N7
    induction N7 with
    | zero => intro k M7 J7 hN; omega
    | succ N7 ih7 =>
      intro k M7 J7 hN7 i7_0 i7_1 i7_2 i7_3 i7_4 i7_5
      refine Z_iload_n (n := 8) dX4_take_7 rfl rfl ?_
      refine Z_iconst (n := 9) dX4_take_8 rfl (by decide) ?_
      refine Z_icmp_ge (n := 12) (t := 38) dX4_take_9 rfl (by decide) (fun c9 => ?_) (fun c9 => ?_)
      · subst i7_0
        refine Z_aload_n (n := 39) dX4_take_38 rfl rfl ?_
        refine Z_iload_n (n := 40) dX4_take_39 rfl rfl ?_
        refine Z_callVv (n := 43) [_] _ dX4_take_40 rfl cwX4_173 rfl rfl rfl (Nat.le_of_ble_eq_true rfl) (by refine ⟨?_, ?_, ?_, ?_⟩ <;> exact Nat.le_of_ble_eq_true rfl) (fun a h => h.elim) (zX4_add_flat  (by omega) (by omega) (by exact flat_congr (fun k k0 k1 => i7_3 k k0 (by omega)) hB) (by rw [(f2 31 (by decide)).1]; exact hk)) ?_
        intro M40 J40 f40 q40
        have e40 := q40
        refine Z_vret dX4_take_43 rfl ?_
        rw [e40]
        unfold ad0
        refine ⟨?_, fun g hg => ?_⟩
        · rw [uz_oo (by decide), uz_s]
        · rw [uz_oo (by decide), uz_n hg, uz_oo (by decide)]; exact ro2 g hg
      · refine Z_aload_n (n := 13) dX4_take_12 rfl rfl ?_
        refine Z_getA (n := 16) dX4_take_13 rfl ffX4_47 rfl rfl ?_
        refine Z_iconst (n := 17) dX4_take_16 rfl (by decide) ?_
        refine Z_iload_n (n := 18) dX4_take_17 rfl rfl ?_
        refine Z_imul (n := 19) dX4_take_18 rfl (by omega) ?_
        refine Z_iload_n (n := 20) dX4_take_19 rfl rfl ?_
        refine Z_iadd (n := 21) dX4_take_20 rfl (by omega) ?_
        refine Z_aload_n (n := 22) dX4_take_21 rfl rfl ?_
        refine Z_getA (n := 25) dX4_take_22 rfl ffX4_47 rfl rfl ?_
        refine Z_iconst (n := 26) dX4_take_25 rfl (by decide) ?_
        refine Z_iload_n (n := 27) dX4_take_26 rfl rfl ?_
        refine Z_imul (n := 28) dX4_take_27 rfl (by omega) ?_
        refine Z_iload_n (n := 29) dX4_take_28 rfl rfl ?_
        refine Z_iadd (n := 30) dX4_take_29 rfl (by omega) ?_
        refine Z_lald (n := 31) dX4_take_30 rfl rfl (by decide) (by omega) (by omega) ?_
        refine Z_last (n := 32) dX4_take_31 rfl rfl (by decide) (by omega) (by omega) (by exact fun h => h) ?_
        refine Z_iinc (L' := [_, _, _, _]) (n := 35) dX4_take_32 rfl rfl (by decide) rfl rfl (by omega) rfl ?_
        refine Z_goto (t := 7) dX4_take_35 (by decide) ?_
        refine Z_loc (L' := [some _, some _, some _, some _]) (lsub_same (lsub_same (lsub_same (lsub_same lsub_nil)))) ?_
        exact ih7 _ _ _ (by omega) (by first | rfl | assumption) (by first | assumption | omega | decide) (by first | assumption | omega | decide) (by first | exact fun j j0 j1 => by omega | exact st_step (X := fun j => J 44 (4 * s + j)) (i7_4 _ (by omega)) i7_3) (by first | exact fun j _ => rfl | exact fun j hj => by rw [uz_n (by omega)]; exact i7_4 j hj) (by first | exact fun a _ => rfl | exact fun a ha => by rw [uz_o ha]; exact i7_5 a ha)
  refine Z_loc (L' := [some _, some _, some _, some _]) (lsub_same (lsub_same (lsub_same (lsub_same lsub_nil)))) ?_
  exact lp7 _ _ _ _ (Nat.lt_succ_self _) (by first | rfl | assumption) (by first | assumption | omega | decide) (by first | assumption | omega | decide) (by first | exact fun j j0 j1 => by omega | exact st_step (X := fun j => J 44 (4 * s + j)) (i7_4 _ (by omega)) i7_3) (by first | exact fun j _ => rfl | exact fun j hj => by rw [uz_n (by omega)]; exact i7_4 j hj) (by first | exact fun a _ => rfl | exact fun a ha => by rw [uz_o ha]; exact i7_5 a ha)
set_option maxRecDepth 20000 in
theorem zX4_take_var {G : tl_G} {M : zM} {J : zJ} {s t p : Int} (s0 : s = 55) (t0 : 0 ≤ t) (t1 : t < 12) (p0 : 0 ≤ p) (p1 : p ≤ 7) (hr : M 45 t = 0) (hB : ∀ k : Int, 0 ≤ k → k < 4 → bitF J s k = vbF whF p k) (hS : preS 1 p M J) (hn : M 46 (255 * s) = 0) (hm : M 52 0 ≤ M 31 27) (hk : M 31 27 < 2147483647) : ZN G yX4_take mX4_take 3 kF [vR 31, vI s, vI t] F1 M J (qV (fun M' J' => M' 45 t = 1 ∧ (∀ g : Int, g ≠ t → M' 45 g = M 45 g) ∧ M' 46 (255 * s) = 0 ∧ M' 49 0 = 2)) := by
  refine ZN_of (L := [_, _, _, _]) (by decide) rfl rfl (Nat.le_of_ble_eq_true rfl) rfl (fun hav => ?_)
  refine Z_aload_n (n := 1) dX4_take_0 rfl rfl ?_
  refine Z_iload_n (n := 2) dX4_take_1 rfl rfl ?_
  refine Z_callVv (n := 5) [_] _ dX4_take_2 rfl cwX4_179 rfl rfl rfl (Nat.le_of_ble_eq_true rfl) (by refine ⟨?_, ?_, ?_, ?_⟩ <;> exact Nat.le_of_ble_eq_true rfl) (fun a h => h.elim) (zX4_remove_1  (by omega) (by omega) (by exact Or.inl hr)) ?_
  intro M2 J2 f2 q2
  obtain ⟨e2_1, rz2, ro2, r492⟩ := q2
  replace e2_1 := e2_1.symm; subst e2_1
  refine Z_iconst (n := 6) dX4_take_5 rfl (by decide) ?_
  refine Z_istore_n (L' := [_, _, _, _]) (n := 7) dX4_take_6 rfl (by decide) rfl rfl ?_
  have lp7 : ∀ (N7 : Nat) (k : Int) (M7 : zM) (J7 : zJ), ((4 - k).toNat) < N7 → (M7 = M2) → (0 ≤ k) → (k ≤ 4) → (∀ j : Int, 0 ≤ j → j < k → J7 44 (4 * t + j) = J 44 (4 * s + j)) → (∀ j : Int, (j < 4 * t ∨ 4 * t + 4 ≤ j) → J7 44 j = J 44 j) → (∀ a : Nat, a ≠ 44 → J7 a = J a) → TZ G mX4_take (tl_rm 3 0 0) 0 0 kF M J 7 [some (vR 31), some (vI s), some (vI t), some (vI k)] [] F1 M7 J7 (ZM G (zPost G kF F1 M J (qV (fun M' J' => M' 45 t = 1 ∧ (∀ g : Int, g ≠ t → M' 45 g = M 45 g) ∧ M' 46 (255 * s) = 0 ∧ M' 49 0 = 2))) 0 0) := by
    intro N7
    induction N7 with
    | zero => intro k M7 J7 hN; omega
    | succ N7 ih7 =>
      intro k M7 J7 hN7 i7_0 i7_1 i7_2 i7_3 i7_4 i7_5
      refine Z_iload_n (n := 8) dX4_take_7 rfl rfl ?_
      refine Z_iconst (n := 9) dX4_take_8 rfl (by decide) ?_
      refine Z_icmp_ge (n := 12) (t := 38) dX4_take_9 rfl (by decide) (fun c9 => ?_) (fun c9 => ?_)
      · subst i7_0
        refine Z_aload_n (n := 39) dX4_take_38 rfl rfl ?_
        refine Z_iload_n (n := 40) dX4_take_39 rfl rfl ?_
        refine Z_callVv (n := 43) [_] _ dX4_take_40 rfl cwX4_173 rfl rfl rfl (Nat.le_of_ble_eq_true rfl) (by refine ⟨?_, ?_, ?_, ?_⟩ <;> exact Nat.le_of_ble_eq_true rfl) (fun a h => h.elim) (zX4_add_var (c := 1) (p := p) (by omega) (by omega) (by omega) (by omega) (by exact Or.inr rfl) (by exact fun k k0 k1 => (i7_3 k k0 (by omega)).trans (hB k k0 k1)) (by exact preS_J (i7_5 48 (by decide)) (rm_pre hS (fun a ha => (f2 a ha).1) (r492 hr))) (by rw [(f2 31 (by decide)).1, (f2 52 (by decide)).1]; exact hm) (by rw [(f2 31 (by decide)).1]; exact hk)) ?_
        intro M40 J40 f40 q40
        obtain ⟨cm40, pb40⟩ := q40
        refine Z_vret dX4_take_43 rfl ?_
        exact ⟨pb40.2.1, fun g hg => (cm40.2.2.1 g hg).1.trans (ro2 g hg), by rw [cm40.2.2.2 (255 * s) (by omega), (f2 46 (by decide)).1]; exact hn, pb40.1.2.2.2.2⟩
      · refine Z_aload_n (n := 13) dX4_take_12 rfl rfl ?_
        refine Z_getA (n := 16) dX4_take_13 rfl ffX4_47 rfl rfl ?_
        refine Z_iconst (n := 17) dX4_take_16 rfl (by decide) ?_
        refine Z_iload_n (n := 18) dX4_take_17 rfl rfl ?_
        refine Z_imul (n := 19) dX4_take_18 rfl (by omega) ?_
        refine Z_iload_n (n := 20) dX4_take_19 rfl rfl ?_
        refine Z_iadd (n := 21) dX4_take_20 rfl (by omega) ?_
        refine Z_aload_n (n := 22) dX4_take_21 rfl rfl ?_
        refine Z_getA (n := 25) dX4_take_22 rfl ffX4_47 rfl rfl ?_
        refine Z_iconst (n := 26) dX4_take_25 rfl (by decide) ?_
        refine Z_iload_n (n := 27) dX4_take_26 rfl rfl ?_
        refine Z_imul (n := 28) dX4_take_27 rfl (by omega) ?_
        refine Z_iload_n (n := 29) dX4_take_28 rfl rfl ?_
        refine Z_iadd (n := 30) dX4_take_29 rfl (by omega) ?_
        refine Z_lald (n := 31) dX4_take_30 rfl rfl (by decide) (by omega) (by omega) ?_
        refine Z_last (n := 32) dX4_take_31 rfl rfl (by decide) (by omega) (by omega) (by exact fun h => h) ?_
        refine Z_iinc (L' := [_, _, _, _]) (n := 35) dX4_take_32 rfl rfl (by decide) rfl rfl (by omega) rfl ?_
        refine Z_goto (t := 7) dX4_take_35 (by decide) ?_
        refine Z_loc (L' := [some _, some _, some _, some _]) (lsub_same (lsub_same (lsub_same (lsub_same lsub_nil)))) ?_
        exact ih7 _ _ _ (by omega) (by first | rfl | assumption) (by first | assumption | omega | decide) (by first | assumption | omega | decide) (by first | exact fun j j0 j1 => by omega | exact st_step (X := fun j => J 44 (4 * s + j)) (i7_4 _ (by omega)) i7_3) (by first | exact fun j _ => rfl | exact fun j hj => by rw [uz_n (by omega)]; exact i7_4 j hj) (by first | exact fun a _ => rfl | exact fun a ha => by rw [uz_o ha]; exact i7_5 a ha)
  refine Z_loc (L' := [some _, some _, some _, some _]) (lsub_same (lsub_same (lsub_same (lsub_same lsub_nil)))) ?_
  exact lp7 _ _ _ _ (Nat.lt_succ_self _) (by first | rfl | assumption) (by first | assumption | omega | decide) (by first | assumption | omega | decide) (by first | exact fun j j0 j1 => by omega | exact st_step (X := fun j => J 44 (4 * s + j)) (i7_4 _ (by omega)) i7_3) (by first | exact fun j _ => rfl | exact fun j hj => by rw [uz_n (by omega)]; exact i7_4 j hj) (by first | exact fun a _ => rfl | exact fun a ha => by rw [uz_o ha]; exact i7_5 a ha)
theorem com_25 {f k r v : Int} {M M1 : zM} (h : comS f k r M M1) : comS f k r M (uz M1 31 25 v) := by
  obtain ⟨h1, h2, h3, h4⟩ := h
  refine ⟨?_, ?_, fun g hg => ⟨?_, ?_⟩, fun j hj => ?_⟩
  · rw [uz_n (by decide)]; exact h1
  · rw [uz_n (by decide)]; exact h2
  · rw [uz_oo (by decide)]; exact (h3 g hg).1
  · rw [uz_oo (by decide)]; exact (h3 g hg).2
  · rw [uz_oo (by decide)]; exact h4 j hj
theorem phB_25 {c p f k v : Int} {M : zM} {J : zJ} (h : phB c p f k M J) : phB c p f k (uz M 31 25 v) J := by
  obtain ⟨⟨h1, h2, h3, h4, h5⟩, h6, h7, h8⟩ := h
  refine ⟨⟨?_, ?_, ⟨?_, h3.2⟩, ?_, ?_⟩, ?_, ?_, ?_⟩
  · rw [uz_oo (by decide)]; exact h1
  · rw [uz_oo (by decide)]; exact h2
  · rw [uz_oo (by decide)]; exact h3.1
  · rw [uz_n (by decide)]; exact h4
  · rw [uz_oo (by decide)]; exact h5
  · rw [uz_oo (by decide)]; exact h6
  · rw [uz_oo (by decide)]; exact h7
  · rw [uz_oo (by decide)]; exact h8
theorem ad0_24 {M : zM} {f : Int} : ad0 M f 31 24 = M 31 24 := by
  unfold ad0
  rw [uz_n (by decide), uz_oo (by decide), uz_oo (by decide)]
theorem ad0_8 {M : zM} {f : Int} : ad0 M f 31 8 = M 31 8 := by
  unfold ad0
  rw [uz_n (by decide), uz_oo (by decide), uz_oo (by decide)]
theorem ad0_25 {M : zM} {f : Int} : ad0 M f 31 25 = M 31 25 := by
  unfold ad0
  rw [uz_n (by decide), uz_oo (by decide), uz_oo (by decide)]
set_option maxRecDepth 20000 in
theorem zX4_steps_flat {G : tl_G} {M : zM} {J : zJ} {f : Int} (f0 : 0 ≤ f) (f1 : f < 56) (hB : flat (bitF J f)) (hk : M 31 27 < 2147483647) (hu : M 31 24 ≤ M 31 8) : ZN G yX4_steps mX4_steps 2 kAd [vR 31, vI f] F1 M J (qI (fun x M' J' => x = 1 ∧ ∃ v : Int, M' = uz (ad0 M f) 31 25 v)) := by
  refine ZN_of (L := [_, _]) (by decide) rfl rfl (Nat.le_of_ble_eq_true rfl) rfl (fun hav => ?_)
  refine Z_aload_n (n := 1) dX4_steps_0 rfl rfl ?_
  refine Z_iload_n (n := 2) dX4_steps_1 rfl rfl ?_
  refine Z_callVv (n := 5) [_] _ dX4_steps_2 rfl cwX4_173 rfl rfl rfl (Nat.le_of_ble_eq_true rfl) (by refine ⟨?_, ?_, ?_, ?_⟩ <;> exact Nat.le_of_ble_eq_true rfl) (fun _ h => h) (zX4_add_flat  (by first | assumption | omega | decide) (by first | assumption | omega | decide) (by first | assumption | omega | decide) (by first | assumption | omega | decide)) ?_
  intro M2 J2 f2 q2
  have e2_1 := q2
  replace e2_1 := e2_1.symm; subst e2_1
  refine Z_aload_n (n := 6) dX4_steps_5 rfl rfl ?_
  refine Z_aload_n (n := 7) dX4_steps_6 rfl rfl ?_
  refine Z_getI (n := 10) (ki := 24) dX4_steps_7 rfl ffX4_149 rfl rfl rfl (fun r7 s7 => ?_)
  try simp only [ad0_24] at r7 s7 ⊢
  refine Z_aload_n (n := 11) dX4_steps_10 rfl rfl ?_
  refine Z_getI (n := 14) (ki := 8) dX4_steps_11 rfl ffX4_102 rfl rfl rfl (fun r11 s11 => ?_)
  try simp only [ad0_8] at r11 s11 ⊢
  refine Z_icmp_le (n := 17) (t := 26) dX4_steps_14 rfl (by decide) (fun c14 => ?_) (fun c14 => ?_)
  · refine Z_aload_n (n := 27) dX4_steps_26 rfl rfl ?_
    refine Z_getI (n := 30) (ki := 24) dX4_steps_27 rfl ffX4_149 rfl rfl rfl (fun r27 s27 => ?_)
    try simp only [ad0_24] at r27 s27 ⊢
    refine Z_aload_n (n := 31) dX4_steps_30 rfl rfl ?_
    refine Z_getI (n := 34) (ki := 25) dX4_steps_31 rfl ffX4_176 rfl rfl rfl (fun r31 s31 => ?_)
    try simp only [ad0_25] at r31 s31 ⊢
    refine Z_icmp_le (n := 37) (t := 44) dX4_steps_34 rfl (by decide) (fun c34 => ?_) (fun c34 => ?_)
    · refine Z_aload_n (n := 45) dX4_steps_44 rfl rfl ?_
      refine Z_getI (n := 48) (ki := 25) dX4_steps_45 rfl ffX4_176 rfl rfl rfl (fun r45 s45 => ?_)
      try simp only [ad0_25] at r45 s45 ⊢
      refine Z_putI (n := 51) (ki := 25) dX4_steps_48 rfl ffX4_176 rfl (by decide) rfl rfl (by first | assumption | omega | decide) (by first | assumption | omega | decide) (by decide) ?_
      refine Z_aload_n (n := 52) dX4_steps_51 rfl rfl ?_
      refine Z_getI (n := 55) (ki := 24) dX4_steps_52 rfl ffX4_149 rfl rfl rfl (fun r52 s52 => ?_)
      try simp only [uz_n (show (24 : Int) ≠ 25 by decide), ad0_24] at r52 s52 ⊢
      refine Z_aload_n (n := 56) dX4_steps_55 rfl rfl ?_
      refine Z_getI (n := 59) (ki := 8) dX4_steps_56 rfl ffX4_102 rfl rfl rfl (fun r56 s56 => ?_)
      try simp only [uz_n (show (8 : Int) ≠ 25 by decide), ad0_8] at r56 s56 ⊢
      refine Z_icmp_gt (n := 62) (t := 66) dX4_steps_59 rfl (by decide) (fun c59 => ?_) (fun c59 => ?_)
      · omega
      · refine Z_iconst (n := 63) dX4_steps_62 rfl (by decide) ?_
        refine Z_goto (t := 67) dX4_steps_63 (by decide) ?_
        refine Z_zret dX4_steps_67 rfl (by first | assumption | omega | decide) (by first | assumption | omega | decide) ?_
        exact ⟨rfl, _, rfl⟩
    · refine Z_aload_n (n := 38) dX4_steps_37 rfl rfl ?_
      refine Z_getI (n := 41) (ki := 24) dX4_steps_38 rfl ffX4_149 rfl rfl rfl (fun r38 s38 => ?_)
      try simp only [ad0_24] at r38 s38 ⊢
      refine Z_goto (t := 48) dX4_steps_41 (by decide) ?_
      refine Z_putI (n := 51) (ki := 25) dX4_steps_48 rfl ffX4_176 rfl (by decide) rfl rfl (by first | assumption | omega | decide) (by first | assumption | omega | decide) (by decide) ?_
      refine Z_aload_n (n := 52) dX4_steps_51 rfl rfl ?_
      refine Z_getI (n := 55) (ki := 24) dX4_steps_52 rfl ffX4_149 rfl rfl rfl (fun r52 s52 => ?_)
      try simp only [uz_n (show (24 : Int) ≠ 25 by decide), ad0_24] at r52 s52 ⊢
      refine Z_aload_n (n := 56) dX4_steps_55 rfl rfl ?_
      refine Z_getI (n := 59) (ki := 8) dX4_steps_56 rfl ffX4_102 rfl rfl rfl (fun r56 s56 => ?_)
      try simp only [uz_n (show (8 : Int) ≠ 25 by decide), ad0_8] at r56 s56 ⊢
      refine Z_icmp_gt (n := 62) (t := 66) dX4_steps_59 rfl (by decide) (fun c59 => ?_) (fun c59 => ?_)
      · omega
      · refine Z_iconst (n := 63) dX4_steps_62 rfl (by decide) ?_
        refine Z_goto (t := 67) dX4_steps_63 (by decide) ?_
        refine Z_zret dX4_steps_67 rfl (by first | assumption | omega | decide) (by first | assumption | omega | decide) ?_
        exact ⟨rfl, _, rfl⟩
  · omega
set_option maxRecDepth 20000 in
theorem zX4_steps_var {G : tl_G} {M : zM} {J : zJ} {f p : Int} (f0 : 0 ≤ f) (f1 : f < 56) (p0 : 0 ≤ p) (p1 : p ≤ 7) (hB : ∀ k : Int, 0 ≤ k → k < 4 → bitF J f k = vbF whF p k) (hS : emptyT M) (hm : M 52 0 ≤ M 31 27) (hk : M 31 27 < 2147483647) (hu : 1 ≤ M 31 8) : ZN G yX4_steps mX4_steps 3 kAd [vR 31, vI f] F1 M J (qI (fun x M' J' => x = 1 ∧ comS f (M 31 27) (M 31 8) M M' ∧ phB 0 p f (M 31 27) M' J')) := by
  refine ZN_of (L := [_, _]) (by decide) rfl rfl (Nat.le_of_ble_eq_true rfl) rfl (fun hav => ?_)
  refine Z_aload_n (n := 1) dX4_steps_0 rfl rfl ?_
  refine Z_iload_n (n := 2) dX4_steps_1 rfl rfl ?_
  refine Z_callVv (n := 5) [_] _ dX4_steps_2 rfl cwX4_173 rfl rfl rfl (Nat.le_of_ble_eq_true rfl) (by refine ⟨?_, ?_, ?_, ?_⟩ <;> exact Nat.le_of_ble_eq_true rfl) (fun _ h => h) (zX4_add_var (c := 0) (p := p) (by first | assumption | omega | decide) (by first | assumption | omega | decide) (by first | assumption | omega | decide) (by first | assumption | omega | decide) (by exact Or.inl rfl) (by exact hB) (by exact Or.inl ⟨rfl, hS⟩) (by first | assumption | omega | decide) (by first | assumption | omega | decide)) ?_
  intro M2 J2 f2 q2
  obtain ⟨cm2, pb2⟩ := q2
  have u2 := pb2.1.2.2.2.1
  have r2 := cm2.2.1
  refine Z_aload_n (n := 6) dX4_steps_5 rfl rfl ?_
  refine Z_aload_n (n := 7) dX4_steps_6 rfl rfl ?_
  refine Z_getI (n := 10) (ki := 24) dX4_steps_7 rfl ffX4_149 rfl rfl rfl (fun r7 s7 => ?_)
  try simp only [u2] at r7 s7 ⊢
  refine Z_aload_n (n := 11) dX4_steps_10 rfl rfl ?_
  refine Z_getI (n := 14) (ki := 8) dX4_steps_11 rfl ffX4_102 rfl rfl rfl (fun r11 s11 => ?_)
  try simp only [r2] at r11 s11 ⊢
  refine Z_icmp_le (n := 17) (t := 26) dX4_steps_14 rfl (by decide) (fun c14 => ?_) (fun c14 => ?_)
  · refine Z_aload_n (n := 27) dX4_steps_26 rfl rfl ?_
    refine Z_getI (n := 30) (ki := 24) dX4_steps_27 rfl ffX4_149 rfl rfl rfl (fun r27 s27 => ?_)
    try simp only [u2] at r27 s27 ⊢
    refine Z_aload_n (n := 31) dX4_steps_30 rfl rfl ?_
    refine Z_getI (n := 34) (ki := 25) dX4_steps_31 rfl ffX4_176 rfl rfl rfl (fun r31 s31 => ?_)
    refine Z_icmp_le (n := 37) (t := 44) dX4_steps_34 rfl (by decide) (fun c34 => ?_) (fun c34 => ?_)
    · refine Z_aload_n (n := 45) dX4_steps_44 rfl rfl ?_
      refine Z_getI (n := 48) (ki := 25) dX4_steps_45 rfl ffX4_176 rfl rfl rfl (fun r45 s45 => ?_)
      refine Z_putI (n := 51) (ki := 25) dX4_steps_48 rfl ffX4_176 rfl (by decide) rfl rfl (by first | assumption | omega | decide) (by first | assumption | omega | decide) (by decide) ?_
      refine Z_aload_n (n := 52) dX4_steps_51 rfl rfl ?_
      refine Z_getI (n := 55) (ki := 24) dX4_steps_52 rfl ffX4_149 rfl rfl rfl (fun r52 s52 => ?_)
      try simp only [uz_n (show (24 : Int) ≠ 25 by decide), u2] at r52 s52 ⊢
      refine Z_aload_n (n := 56) dX4_steps_55 rfl rfl ?_
      refine Z_getI (n := 59) (ki := 8) dX4_steps_56 rfl ffX4_102 rfl rfl rfl (fun r56 s56 => ?_)
      try simp only [uz_n (show (8 : Int) ≠ 25 by decide), r2] at r56 s56 ⊢
      refine Z_icmp_gt (n := 62) (t := 66) dX4_steps_59 rfl (by decide) (fun c59 => ?_) (fun c59 => ?_)
      · omega
      · refine Z_iconst (n := 63) dX4_steps_62 rfl (by decide) ?_
        refine Z_goto (t := 67) dX4_steps_63 (by decide) ?_
        refine Z_zret dX4_steps_67 rfl (by first | assumption | omega | decide) (by first | assumption | omega | decide) ?_
        exact ⟨rfl, com_25 cm2, phB_25 pb2⟩
    · refine Z_aload_n (n := 38) dX4_steps_37 rfl rfl ?_
      refine Z_getI (n := 41) (ki := 24) dX4_steps_38 rfl ffX4_149 rfl rfl rfl (fun r38 s38 => ?_)
      try simp only [u2] at r38 s38 ⊢
      refine Z_goto (t := 48) dX4_steps_41 (by decide) ?_
      refine Z_putI (n := 51) (ki := 25) dX4_steps_48 rfl ffX4_176 rfl (by decide) rfl rfl (by first | assumption | omega | decide) (by first | assumption | omega | decide) (by decide) ?_
      refine Z_aload_n (n := 52) dX4_steps_51 rfl rfl ?_
      refine Z_getI (n := 55) (ki := 24) dX4_steps_52 rfl ffX4_149 rfl rfl rfl (fun r52 s52 => ?_)
      try simp only [uz_n (show (24 : Int) ≠ 25 by decide), u2] at r52 s52 ⊢
      refine Z_aload_n (n := 56) dX4_steps_55 rfl rfl ?_
      refine Z_getI (n := 59) (ki := 8) dX4_steps_56 rfl ffX4_102 rfl rfl rfl (fun r56 s56 => ?_)
      try simp only [uz_n (show (8 : Int) ≠ 25 by decide), r2] at r56 s56 ⊢
      refine Z_icmp_gt (n := 62) (t := 66) dX4_steps_59 rfl (by decide) (fun c59 => ?_) (fun c59 => ?_)
      · omega
      · refine Z_iconst (n := 63) dX4_steps_62 rfl (by decide) ?_
        refine Z_goto (t := 67) dX4_steps_63 (by decide) ?_
        refine Z_zret dX4_steps_67 rfl (by first | assumption | omega | decide) (by first | assumption | omega | decide) ?_
        exact ⟨rfl, com_25 cm2, phB_25 pb2⟩
  · omega
set_option maxRecDepth 20000 in
theorem zX4_gets_flat {G : tl_G} {M : zM} {J : zJ} {h f y : Int} (y1 : y = 1) (s0 : f = 55) (t0 : 0 ≤ h) (t1 : h < 12) (hr : ∀ g : Int, 0 ≤ g → g < 56 → M 45 g = 0) (hB : flat (bitF J f)) (hk : M 31 27 < 2147483647) : ZN G yX4_gets mX4_gets 4 kF [vR 31, vI h, vI f, vI y] F1 M J (qI (fun x M' J' => x = 0)) := by
  refine ZN_of (L := [_, _, _, _]) (by decide) rfl rfl (Nat.le_of_ble_eq_true rfl) rfl (fun hav => ?_)
  refine Z_iload_n (n := 1) dX4_gets_0 rfl rfl ?_
  refine Z_if_eq (n := 4) (t := 10) dX4_gets_1 rfl (by decide) (fun c1 => ?_) (fun c1 => ?_)
  · omega
  · refine Z_aload_n (n := 5) dX4_gets_4 rfl rfl ?_
    refine Z_iload_n (n := 6) dX4_gets_5 rfl rfl ?_
    refine Z_iload_n (n := 7) dX4_gets_6 rfl rfl ?_
    refine Z_callVv (n := 10) [_, _] _ dX4_gets_7 rfl cwX4_182 rfl rfl rfl (Nat.le_of_ble_eq_true rfl) (by refine ⟨?_, ?_, ?_, ?_⟩ <;> exact Nat.le_of_ble_eq_true rfl) (fun _ h => h) (zX4_take_flat (p := 0) (by omega) (by omega) (by omega) (by exact hr h (by omega) (by omega)) (by exact hB) (by omega)) ?_
    intro M7 J7 f7 q7
    obtain ⟨tz7, to7⟩ := q7
    refine Z_aload_n (n := 11) dX4_gets_10 rfl rfl ?_
    refine Z_callVv (n := 14) [] _ dX4_gets_11 rfl cwX4_185 rfl rfl rfl (Nat.le_of_ble_eq_true rfl) (by refine ⟨?_, ?_, ?_, ?_⟩ <;> exact Nat.le_of_ble_eq_true rfl) (fun a h => h.elim) (zX4_clearHand_1  (by exact fun g a b => (to7 g (by omega)).trans (hr g (by omega) (by omega))) (by exact Or.inl ((to7 55 (by omega)).trans (hr 55 (by omega) (by omega))))) ?_
    intro M11 J11 f11 q11
    obtain ⟨e11_1, h11⟩ := q11
    replace e11_1 := e11_1.symm; subst e11_1
    refine Z_iload_n (n := 15) dX4_gets_14 rfl rfl ?_
    refine Z_if_eq (n := 18) (t := 27) dX4_gets_15 rfl (by decide) (fun c15 => ?_) (fun c15 => ?_)
    · omega
    · refine Z_aload_n (n := 19) dX4_gets_18 rfl rfl ?_
      refine Z_getA (n := 22) dX4_gets_19 rfl ffX4_51 rfl rfl ?_
      refine Z_iload_n (n := 23) dX4_gets_22 rfl rfl ?_
      refine Z_iald (n := 24) dX4_gets_23 rfl rfl rfl (by first | decide | assumption) (by omega) (by omega) (fun r23 s23 => ?_)
      refine Z_goto (t := 29) dX4_gets_24 (by decide) ?_
      refine Z_iret dX4_gets_29 rfl ?_
      rw [h11 h (by omega) (by omega)]; exact tz7
set_option maxRecDepth 20000 in
theorem zX4_gets_var {G : tl_G} {M : zM} {J : zJ} {h f y p : Int} (y1 : y = 1) (s0 : f = 55) (t0 : 0 ≤ h) (t1 : h < 12) (p0 : 0 ≤ p) (p1 : p ≤ 7) (hr : ∀ g : Int, 0 ≤ g → g < 55 → M 45 g = 0) (hB : ∀ k : Int, 0 ≤ k → k < 4 → bitF J f k = vbF whF p k) (hS : preS 1 p M J) (hn : M 46 (255 * f) = 0) (h55 : M 45 55 = 1) (hm : M 52 0 ≤ M 31 27) (hk : M 31 27 < 2147483647) : ZN G yX4_gets mX4_gets 4 kF [vR 31, vI h, vI f, vI y] F1 M J (qI (fun x M' J' => x = 1)) := by
  refine ZN_of (L := [_, _, _, _]) (by decide) rfl rfl (Nat.le_of_ble_eq_true rfl) rfl (fun hav => ?_)
  refine Z_iload_n (n := 1) dX4_gets_0 rfl rfl ?_
  refine Z_if_eq (n := 4) (t := 10) dX4_gets_1 rfl (by decide) (fun c1 => ?_) (fun c1 => ?_)
  · omega
  · refine Z_aload_n (n := 5) dX4_gets_4 rfl rfl ?_
    refine Z_iload_n (n := 6) dX4_gets_5 rfl rfl ?_
    refine Z_iload_n (n := 7) dX4_gets_6 rfl rfl ?_
    refine Z_callVv (n := 10) [_, _] _ dX4_gets_7 rfl cwX4_182 rfl rfl rfl (Nat.le_of_ble_eq_true rfl) (by refine ⟨?_, ?_, ?_, ?_⟩ <;> exact Nat.le_of_ble_eq_true rfl) (fun _ h => h) (zX4_take_var (p := p) (by omega) (by omega) (by omega) (by omega) (by omega) (by exact hr h (by omega) (by omega)) (by exact hB) (by exact hS) (by exact hn) (by omega) (by omega)) ?_
    intro M7 J7 f7 q7
    obtain ⟨tz7, to7, t467, t497⟩ := q7
    refine Z_aload_n (n := 11) dX4_gets_10 rfl rfl ?_
    refine Z_callVv (n := 14) [] _ dX4_gets_11 rfl cwX4_185 rfl rfl rfl (Nat.le_of_ble_eq_true rfl) (by refine ⟨?_, ?_, ?_, ?_⟩ <;> exact Nat.le_of_ble_eq_true rfl) (fun a h => h.elim) (zX4_clearHand_1  (by exact fun g a b => (to7 g (by omega)).trans (hr g (by omega) (by omega))) (by exact Or.inr ⟨(to7 55 (by omega)).trans h55, by rw [← s0]; exact t467, t497⟩)) ?_
    intro M11 J11 f11 q11
    obtain ⟨e11_1, h11⟩ := q11
    replace e11_1 := e11_1.symm; subst e11_1
    refine Z_iload_n (n := 15) dX4_gets_14 rfl rfl ?_
    refine Z_if_eq (n := 18) (t := 27) dX4_gets_15 rfl (by decide) (fun c15 => ?_) (fun c15 => ?_)
    · omega
    · refine Z_aload_n (n := 19) dX4_gets_18 rfl rfl ?_
      refine Z_getA (n := 22) dX4_gets_19 rfl ffX4_51 rfl rfl ?_
      refine Z_iload_n (n := 23) dX4_gets_22 rfl rfl ?_
      refine Z_iald (n := 24) dX4_gets_23 rfl rfl rfl (by first | decide | assumption) (by omega) (by omega) (fun r23 s23 => ?_)
      refine Z_goto (t := 29) dX4_gets_24 (by decide) ?_
      refine Z_iret dX4_gets_29 rfl ?_
      rw [h11 h (by omega) (by omega)]; exact tz7
