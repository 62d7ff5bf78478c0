/-! ===== constructors ===== -/
abbrev kNw (b a : Nat) : Prop := ¬ a = b
abbrev kBench (a : Nat) : Prop := 30 < a
abbrev kModel (a : Nat) : Prop := a < 31
def F_ord (F : zF) : zF := pF (nwF (pF (nwF F 2 8) 2 0 3) 2 8) 2 1 4
def F_pool (F : zF) : zF := pF (nwF (pF (nwF (pF (nwF (pF (nwF (pF (nwF (pF (nwF F 2 252) 5 0 6) 2 252) 5 1 7) 2 252) 5 2 8) 2 252) 5 3 9) 2 252) 5 4 10) 2 256) 5 5 11
def F_net (b : Nat) (F : zF) : zF := pF (nwF (pF (nwF (pF (nwF (pF (nwF F 2 40) b 0 (b + 1)) 2 120) b 1 (b + 2)) 2 4) b 2 (b + 3)) 2 40) b 3 (b + 4)
def F_model (F : zF) : zF := pF (nwF (pF (nwF (pF (nwF (pF (nwF (pF (nwF (pF (nwF (pF (nwF (pF (nwF (pF (nwF (pF (nwF (pF (nwF (pF (nwF (pF (nwF (pF (nwF (pF (nwF (pF (nwF (pF (nwF (pF (nwF (pF (nwF (pF (nwF (pF (nwF (pF (nwF (pF (nwF (pF (nwF (pF (nwF (pF (nwF F 2 3) 31 0 32) 2 3) 31 1 33) 2 120) 31 2 34) 2 360) 31 3 35) 2 12) 31 4 36) 3 40) 31 5 37) 2 8) 31 6 38) 2 8) 31 7 39) 3 40) 31 9 40) 2 41) 31 10 41) 2 41) 31 11 42) 3 56) 31 14 43) 4 224) 31 15 44) 2 56) 31 16 45) 2 14280) 31 17 46) 2 520) 31 18 47) 4 2080) 31 19 48) 2 520) 31 20 49) 2 520) 31 21 50) 2 512) 31 22 51) 2 520) 31 26 52) 4 4) 31 28 53) 4 8) 31 29 54) 3 40) 31 30 55) 2 40) 31 31 56) 2 256) 31 32 57
def F00 : zF := (fun _ => (0, 0), fun _ _ => none, 0)
def Fb0 : zF := nwF F00 1 3
def Fb3 : zF := nwF (pF (nwF Fb0 5 3) 0 0 1) 1 1
def Fb5 : zF := nwF (pF (F_ord Fb3) 0 1 2) 1 2
def Fb6 : zF := pF (nwF (pF (nwF (pF (nwF (pF (nwF (pF (F_pool Fb5) 0 2 5) 2 12) 0 3 12) 2 40) 0 4 13) 2 40) 0 5 14) 2 8) 0 6 15
def Fn0 : zF := nwF Fb6 1 0
def Fn1 : zF := nwF (pF (F_net 16 Fn0) 1 0 16) 1 0
def Fn2 : zF := nwF (pF (F_net 21 Fn1) 1 1 21) 1 0
def Fb9 : zF := pF (F_net 26 Fn2) 1 2 26
def Fm0 : zF := nwF Fb9 1 4
set_option maxRecDepth 20000 in
theorem zX1_init {G : tl_G} {M : zM} {J : zJ}  (hM0 : ∀ a : Nat, 2 ≤ a → ∀ k, M a k = 0) (hJ0 : ∀ a : Nat, 2 ≤ a → ∀ k, J a k = 0) : ZA G yX1_init mX1_init 1 2 16 kOrd [vR 2] Fb3 (F_ord Fb3) M J (qV (fun M' J' => J' = J ∧ M' 2 2 = 0 ∧ ∀ v : Int, 0 ≤ v → v < 8 → M' 3 v = v ∧ M' 4 v = v)) := by
  refine ZA_of (L := [_, _]) (by decide) rfl rfl (Nat.le_of_ble_eq_true rfl) rfl (fun hav => ?_)
  refine Z_aload_n (n := 1) dX1_init_0 rfl rfl ?_
  refine Z_objI (n := 4) dX1_init_1 rfl moX1_3 (by decide) (by decide) (Nat.le_of_ble_eq_true rfl) ?_
  refine Z_aload_n (n := 5) dX1_init_4 rfl rfl ?_
  refine Z_bipush (n := 7) dX1_init_5 rfl (by decide) (by decide) ?_
  refine Z_newI (N := 8) (z := 3) (n := 9) dX1_init_7 rfl rfl (by decide) rfl (fun k => hM0 _ (by decide) k) (fun k => hJ0 _ (by decide) k) (fun _ => rfl) (by decide) (by decide) ?_
  refine Z_putA (n := 12) dX1_init_9 rfl ffX1_9 (fun _ => rfl) rfl ?_
  refine Z_aload_n (n := 13) dX1_init_12 rfl rfl ?_
  refine Z_bipush (n := 15) dX1_init_13 rfl (by decide) (by decide) ?_
  refine Z_newI (N := 8) (z := 4) (n := 17) dX1_init_15 rfl rfl (by decide) rfl (fun k => hM0 _ (by decide) k) (fun k => hJ0 _ (by decide) k) (fun _ => rfl) (by decide) (by decide) ?_
  refine Z_putA (n := 20) dX1_init_17 rfl ffX1_15 (fun _ => rfl) rfl ?_
  refine Z_aload_n (n := 21) dX1_init_20 rfl rfl ?_
  refine Z_iconst (n := 22) dX1_init_21 rfl (by decide) ?_
  refine Z_putI (n := 25) (ki := 2) dX1_init_22 rfl ffX1_18 rfl (by decide) rfl rfl (by first | assumption | omega | decide) (by first | assumption | omega | decide) (by decide) ?_
  refine Z_iconst (n := 26) dX1_init_25 rfl (by decide) ?_
  refine Z_istore_n (L' := [_, _]) (n := 27) dX1_init_26 rfl (by decide) rfl rfl ?_
  have lp27 : ∀ (N27 : Nat) (v : Int) (M27 : zM) (J27 : zJ), ((8 - v).toNat) < N27 → (J27 = J) → (0 ≤ v) → (v ≤ 8) → (M27 2 2 = 0) → (∀ w : Int, 0 ≤ w → w < v → M27 3 w = w ∧ M27 4 w = w) → TZ G mX1_init (tl_rm 1 2 16) 2 16 kOrd M J 27 [some (vR 2), some (vI v)] [] (F_ord Fb3) M27 J27 (ZM G (zPost G kOrd (F_ord Fb3) M J (qV (fun M' J' => J' = J ∧ M' 2 2 = 0 ∧ ∀ v : Int, 0 ≤ v → v < 8 → M' 3 v = v ∧ M' 4 v = v))) 2 16) := by
    intro N27
    induction N27 with
    | zero => intro v M27 J27 hN; omega
    | succ N27 ih27 =>
      intro v M27 J27 hN27 i27_0 i27_1 i27_2 i27_3 i27_4
      refine Z_iload_n (n := 28) dX1_init_27 rfl rfl ?_
      refine Z_bipush (n := 30) dX1_init_28 rfl (by decide) (by decide) ?_
      refine Z_icmp_ge (n := 33) (t := 53) dX1_init_30 rfl (by decide) (fun c30 => ?_) (fun c30 => ?_)
      · refine Z_vret dX1_init_53 rfl ?_
        exact ⟨i27_0, i27_3, fun w a b => i27_4 w a (by omega)⟩
      · refine Z_aload_n (n := 34) dX1_init_33 rfl rfl ?_
        refine Z_getA (n := 37) dX1_init_34 rfl ffX1_9 rfl rfl ?_
        refine Z_iload_n (n := 38) dX1_init_37 rfl rfl ?_
        refine Z_iload_n (n := 39) dX1_init_38 rfl rfl ?_
        refine Z_iast (n := 40) dX1_init_39 rfl rfl rfl (by first | decide | assumption) (by omega) (by omega) (by first | assumption | omega | decide) (by first | assumption | omega | decide) (by decide) ?_
        refine Z_aload_n (n := 41) dX1_init_40 rfl rfl ?_
        refine Z_getA (n := 44) dX1_init_41 rfl ffX1_15 rfl rfl ?_
        refine Z_iload_n (n := 45) dX1_init_44 rfl rfl ?_
        refine Z_iload_n (n := 46) dX1_init_45 rfl rfl ?_
        refine Z_iast (n := 47) dX1_init_46 rfl rfl rfl (by first | decide | assumption) (by omega) (by omega) (by first | assumption | omega | decide) (by first | assumption | omega | decide) (by decide) ?_
        have nx : ∀ w : Int, 0 ≤ w → w < v + 1 → uz (uz M27 3 v v) 4 v v 3 w = w ∧ uz (uz M27 3 v v) 4 v v 4 w = w := fun w a b => by
          rw [uz_oo (show (3 : Nat) ≠ 4 by decide), uz_a, uz_a, uz_oo (show (4 : Nat) ≠ 3 by decide)]
          by_cases e : w = v
          · rw [if_pos e, if_pos e]; exact ⟨e.symm, e.symm⟩
          · rw [if_neg e, if_neg e]; exact i27_4 w a (by omega)
        refine Z_iinc (L' := [_, _]) (n := 50) dX1_init_47 rfl rfl (by decide) rfl rfl (by omega) rfl ?_
        refine Z_goto (t := 27) dX1_init_50 (by decide) ?_
        refine Z_loc (L' := [some _, some _]) (lsub_same (lsub_same lsub_nil)) ?_
        exact ih27 _ _ _ (by omega) (by first | rfl | assumption) (by first | assumption | omega | decide) (by first | assumption | omega | decide) (by first | exact uz_s | (rw [uz_oo (by decide), uz_oo (by decide)]; exact i27_3)) (by first | exact fun w a b => by omega | exact nx)
  refine Z_loc (L' := [some _, some _]) (lsub_same (lsub_same lsub_nil)) ?_
  exact lp27 _ _ _ _ (Nat.lt_succ_self _) (by first | rfl | assumption) (by first | assumption | omega | decide) (by first | assumption | omega | decide) (by first | exact uz_s | (rw [uz_oo (by decide), uz_oo (by decide)]; exact i27_3)) (by first | exact fun w a b => by omega | exact nx)
set_option maxRecDepth 20000 in
theorem zX2_init {G : tl_G} {M : zM} {J : zJ}  (hM0 : ∀ a : Nat, 5 ≤ a → ∀ k, M a k = 0) (hJ0 : ∀ a : Nat, 5 ≤ a → ∀ k, J a k = 0) : ZA G yX2_init mX2_init 2 6 1516 kPool [vR 5] Fb5 (F_pool Fb5) M J (qV (fun M' J' => J' = J ∧ pI M' ∧ M' 5 8 = 250)) := by
  refine ZA_of (L := [_]) (by decide) rfl rfl (Nat.le_of_ble_eq_true rfl) rfl (fun hav => ?_)
  refine Z_aload_n (n := 1) dX2_init_0 rfl rfl ?_
  refine Z_objI (n := 4) dX2_init_1 rfl moX2_3 (by decide) (by decide) (Nat.le_of_ble_eq_true rfl) ?_
  refine Z_aload_n (n := 5) dX2_init_4 rfl rfl ?_
  refine Z_sipush (n := 8) dX2_init_5 rfl (by decide) (by decide) ?_
  refine Z_newI (N := 252) (z := 6) (n := 10) dX2_init_8 rfl rfl (by decide) rfl (fun k => hM0 _ (by decide) k) (fun k => hJ0 _ (by decide) k) (fun _ => rfl) (by decide) (by decide) ?_
  refine Z_putA (n := 13) dX2_init_10 rfl ffX2_11 (fun _ => rfl) rfl ?_
  refine Z_aload_n (n := 14) dX2_init_13 rfl rfl ?_
  refine Z_sipush (n := 17) dX2_init_14 rfl (by decide) (by decide) ?_
  refine Z_newI (N := 252) (z := 7) (n := 19) dX2_init_17 rfl rfl (by decide) rfl (fun k => hM0 _ (by decide) k) (fun k => hJ0 _ (by decide) k) (fun _ => rfl) (by decide) (by decide) ?_
  refine Z_putA (n := 22) dX2_init_19 rfl ffX2_15 (fun _ => rfl) rfl ?_
  refine Z_aload_n (n := 23) dX2_init_22 rfl rfl ?_
  refine Z_sipush (n := 26) dX2_init_23 rfl (by decide) (by decide) ?_
  refine Z_newI (N := 252) (z := 8) (n := 28) dX2_init_26 rfl rfl (by decide) rfl (fun k => hM0 _ (by decide) k) (fun k => hJ0 _ (by decide) k) (fun _ => rfl) (by decide) (by decide) ?_
  refine Z_putA (n := 31) dX2_init_28 rfl ffX2_18 (fun _ => rfl) rfl ?_
  refine Z_aload_n (n := 32) dX2_init_31 rfl rfl ?_
  refine Z_sipush (n := 35) dX2_init_32 rfl (by decide) (by decide) ?_
  refine Z_newI (N := 252) (z := 9) (n := 37) dX2_init_35 rfl rfl (by decide) rfl (fun k => hM0 _ (by decide) k) (fun k => hJ0 _ (by decide) k) (fun _ => rfl) (by decide) (by decide) ?_
  refine Z_putA (n := 40) dX2_init_37 rfl ffX2_21 (fun _ => rfl) rfl ?_
  refine Z_aload_n (n := 41) dX2_init_40 rfl rfl ?_
  refine Z_sipush (n := 44) dX2_init_41 rfl (by decide) (by decide) ?_
  refine Z_newI (N := 252) (z := 10) (n := 46) dX2_init_44 rfl rfl (by decide) rfl (fun k => hM0 _ (by decide) k) (fun k => hJ0 _ (by decide) k) (fun _ => rfl) (by decide) (by decide) ?_
  refine Z_putA (n := 49) dX2_init_46 rfl ffX2_24 (fun _ => rfl) rfl ?_
  refine Z_aload_n (n := 50) dX2_init_49 rfl rfl ?_
  refine Z_sipush (n := 53) dX2_init_50 rfl (by decide) (by decide) ?_
  refine Z_newI (N := 256) (z := 11) (n := 55) dX2_init_53 rfl rfl (by decide) rfl (fun k => hM0 _ (by decide) k) (fun k => hJ0 _ (by decide) k) (fun _ => rfl) (by decide) (by decide) ?_
  refine Z_putA (n := 58) dX2_init_55 rfl ffX2_27 (fun _ => rfl) rfl ?_
  refine Z_aload_n (n := 59) dX2_init_58 rfl rfl ?_
  refine Z_iconst (n := 60) dX2_init_59 rfl (by decide) ?_
  refine Z_putI (n := 63) (ki := 6) dX2_init_60 rfl ffX2_30 rfl (by decide) rfl rfl (by first | assumption | omega | decide) (by first | assumption | omega | decide) (by decide) ?_
  refine Z_aload_n (n := 64) dX2_init_63 rfl rfl ?_
  refine Z_iconst (n := 65) dX2_init_64 rfl (by decide) ?_
  refine Z_putI (n := 68) (ki := 7) dX2_init_65 rfl ffX2_34 rfl (by decide) rfl rfl (by first | assumption | omega | decide) (by first | assumption | omega | decide) (by decide) ?_
  refine Z_aload_n (n := 69) dX2_init_68 rfl rfl ?_
  refine Z_sipush (n := 72) dX2_init_69 rfl (by decide) (by decide) ?_
  refine Z_putI (n := 75) (ki := 8) dX2_init_72 rfl ffX2_37 rfl (by decide) rfl rfl (by first | assumption | omega | decide) (by first | assumption | omega | decide) (by decide) ?_
  refine Z_aload_n (n := 76) dX2_init_75 rfl rfl ?_
  refine Z_getA (n := 79) dX2_init_76 rfl ffX2_11 rfl rfl ?_
  refine Z_iconst (n := 80) dX2_init_79 rfl (by decide) ?_
  refine Z_bipush (n := 82) dX2_init_80 rfl (by decide) (by decide) ?_
  refine Z_iast (n := 83) dX2_init_82 rfl rfl rfl (by first | decide | assumption) (by omega) (by omega) (by first | assumption | omega | decide) (by first | assumption | omega | decide) (by decide) ?_
  refine Z_aload_n (n := 84) dX2_init_83 rfl rfl ?_
  refine Z_getA (n := 87) dX2_init_84 rfl ffX2_11 rfl rfl ?_
  refine Z_iconst (n := 88) dX2_init_87 rfl (by decide) ?_
  refine Z_bipush (n := 90) dX2_init_88 rfl (by decide) (by decide) ?_
  refine Z_iast (n := 91) dX2_init_90 rfl rfl rfl (by first | decide | assumption) (by omega) (by omega) (by first | assumption | omega | decide) (by first | assumption | omega | decide) (by decide) ?_
  refine Z_aload_n (n := 92) dX2_init_91 rfl rfl ?_
  refine Z_callVv (n := 95) [] _ dX2_init_92 rfl cwX2_40 rfl rfl rfl (Nat.le_of_ble_eq_true rfl) (by refine ⟨?_, ?_, ?_, ?_⟩ <;> exact Nat.le_of_ble_eq_true rfl) (fun a h => by unfold kPool at h; unfold kSweep; omega) (zX2_sweep  (by exact ⟨rfl, ⟨rfl, rfl, rfl, rfl, rfl⟩, rfl, rfl, rfl, rfl, rfl⟩)) ?_
  intro M92 J92 f92 q92
  obtain ⟨e92_1, h92⟩ := q92
  replace e92_1 := e92_1.symm; subst e92_1
  refine Z_vret dX2_init_95 rfl ?_
  obtain ⟨q1, q2, q3⟩ := h92
  refine ⟨rfl, q2 ?_ ?_, q1.trans ?_⟩
  · rw [uz_n (by decide), uz_s]
  · rw [uz_s]
  · rw [uz_oo (by decide), uz_oo (by decide), uz_s]
set_option maxRecDepth 20000 in
theorem zX0_init_16 {G : tl_G} {M : zM} {J : zJ}  (hM0 : ∀ a : Nat, 16 ≤ a → ∀ k, M a k = 0) (hJ0 : ∀ a : Nat, 16 ≤ a → ∀ k, J a k = 0) : ZA G yX0_init mX0_init 1 4 204 (kNw 16) [vR 16] Fn0 (F_net 16 Fn0) M J (qV (fun M' J' => J' = J ∧ M' 16 4 = 0 ∧ M' 16 5 = 0)) := by
  refine ZA_of (L := [_]) (by decide) rfl rfl (Nat.le_of_ble_eq_true rfl) rfl (fun hav => ?_)
  refine Z_aload_n (n := 1) dX0_init_0 rfl rfl ?_
  refine Z_objI (n := 4) dX0_init_1 rfl moX0_3 (by decide) (by decide) (Nat.le_of_ble_eq_true rfl) ?_
  refine Z_aload_n (n := 5) dX0_init_4 rfl rfl ?_
  refine Z_bipush (n := 7) dX0_init_5 rfl (by decide) (by decide) ?_
  refine Z_newI (N := 40) (z := 17) (n := 9) dX0_init_7 rfl rfl (by decide) rfl (fun k => hM0 _ (by decide) k) (fun k => hJ0 _ (by decide) k) (fun _ => rfl) (by decide) (by decide) ?_
  refine Z_putA (n := 12) dX0_init_9 rfl ffX0_9 (fun _ => rfl) rfl ?_
  refine Z_aload_n (n := 13) dX0_init_12 rfl rfl ?_
  refine Z_bipush (n := 15) dX0_init_13 rfl (by decide) (by decide) ?_
  refine Z_newI (N := 120) (z := 18) (n := 17) dX0_init_15 rfl rfl (by decide) rfl (fun k => hM0 _ (by decide) k) (fun k => hJ0 _ (by decide) k) (fun _ => rfl) (by decide) (by decide) ?_
  refine Z_putA (n := 20) dX0_init_17 rfl ffX0_15 (fun _ => rfl) rfl ?_
  refine Z_aload_n (n := 21) dX0_init_20 rfl rfl ?_
  refine Z_iconst (n := 22) dX0_init_21 rfl (by decide) ?_
  refine Z_newI (N := 4) (z := 19) (n := 24) dX0_init_22 rfl rfl (by decide) rfl (fun k => hM0 _ (by decide) k) (fun k => hJ0 _ (by decide) k) (fun _ => rfl) (by decide) (by decide) ?_
  refine Z_putA (n := 27) dX0_init_24 rfl ffX0_18 (fun _ => rfl) rfl ?_
  refine Z_aload_n (n := 28) dX0_init_27 rfl rfl ?_
  refine Z_bipush (n := 30) dX0_init_28 rfl (by decide) (by decide) ?_
  refine Z_newI (N := 40) (z := 20) (n := 32) dX0_init_30 rfl rfl (by decide) rfl (fun k => hM0 _ (by decide) k) (fun k => hJ0 _ (by decide) k) (fun _ => rfl) (by decide) (by decide) ?_
  refine Z_putA (n := 35) dX0_init_32 rfl ffX0_21 (fun _ => rfl) rfl ?_
  refine Z_aload_n (n := 36) dX0_init_35 rfl rfl ?_
  refine Z_iconst (n := 37) dX0_init_36 rfl (by decide) ?_
  refine Z_putI (n := 40) (ki := 4) dX0_init_37 rfl ffX0_24 rfl (by decide) rfl rfl (by first | assumption | omega | decide) (by first | assumption | omega | decide) (by decide) ?_
  refine Z_aload_n (n := 41) dX0_init_40 rfl rfl ?_
  refine Z_iconst (n := 42) dX0_init_41 rfl (by decide) ?_
  refine Z_putI (n := 45) (ki := 5) dX0_init_42 rfl ffX0_28 rfl (by decide) rfl rfl (by first | assumption | omega | decide) (by first | assumption | omega | decide) (by decide) ?_
  refine Z_vret dX0_init_45 rfl ?_
  exact ⟨rfl, by rw [uz_n (by decide), uz_s], uz_s⟩
set_option maxRecDepth 20000 in
theorem zX0_init_21 {G : tl_G} {M : zM} {J : zJ}  (hM0 : ∀ a : Nat, 21 ≤ a → ∀ k, M a k = 0) (hJ0 : ∀ a : Nat, 21 ≤ a → ∀ k, J a k = 0) : ZA G yX0_init mX0_init 1 4 204 (kNw 21) [vR 21] Fn1 (F_net 21 Fn1) M J (qV (fun M' J' => J' = J ∧ M' 21 4 = 0 ∧ M' 21 5 = 0)) := by
  refine ZA_of (L := [_]) (by decide) rfl rfl (Nat.le_of_ble_eq_true rfl) rfl (fun hav => ?_)
  refine Z_aload_n (n := 1) dX0_init_0 rfl rfl ?_
  refine Z_objI (n := 4) dX0_init_1 rfl moX0_3 (by decide) (by decide) (Nat.le_of_ble_eq_true rfl) ?_
  refine Z_aload_n (n := 5) dX0_init_4 rfl rfl ?_
  refine Z_bipush (n := 7) dX0_init_5 rfl (by decide) (by decide) ?_
  refine Z_newI (N := 40) (z := 22) (n := 9) dX0_init_7 rfl rfl (by decide) rfl (fun k => hM0 _ (by decide) k) (fun k => hJ0 _ (by decide) k) (fun _ => rfl) (by decide) (by decide) ?_
  refine Z_putA (n := 12) dX0_init_9 rfl ffX0_9 (fun _ => rfl) rfl ?_
  refine Z_aload_n (n := 13) dX0_init_12 rfl rfl ?_
  refine Z_bipush (n := 15) dX0_init_13 rfl (by decide) (by decide) ?_
  refine Z_newI (N := 120) (z := 23) (n := 17) dX0_init_15 rfl rfl (by decide) rfl (fun k => hM0 _ (by decide) k) (fun k => hJ0 _ (by decide) k) (fun _ => rfl) (by decide) (by decide) ?_
  refine Z_putA (n := 20) dX0_init_17 rfl ffX0_15 (fun _ => rfl) rfl ?_
  refine Z_aload_n (n := 21) dX0_init_20 rfl rfl ?_
  refine Z_iconst (n := 22) dX0_init_21 rfl (by decide) ?_
  refine Z_newI (N := 4) (z := 24) (n := 24) dX0_init_22 rfl rfl (by decide) rfl (fun k => hM0 _ (by decide) k) (fun k => hJ0 _ (by decide) k) (fun _ => rfl) (by decide) (by decide) ?_
  refine Z_putA (n := 27) dX0_init_24 rfl ffX0_18 (fun _ => rfl) rfl ?_
  refine Z_aload_n (n := 28) dX0_init_27 rfl rfl ?_
  refine Z_bipush (n := 30) dX0_init_28 rfl (by decide) (by decide) ?_
  refine Z_newI (N := 40) (z := 25) (n := 32) dX0_init_30 rfl rfl (by decide) rfl (fun k => hM0 _ (by decide) k) (fun k => hJ0 _ (by decide) k) (fun _ => rfl) (by decide) (by decide) ?_
  refine Z_putA (n := 35) dX0_init_32 rfl ffX0_21 (fun _ => rfl) rfl ?_
  refine Z_aload_n (n := 36) dX0_init_35 rfl rfl ?_
  refine Z_iconst (n := 37) dX0_init_36 rfl (by decide) ?_
  refine Z_putI (n := 40) (ki := 4) dX0_init_37 rfl ffX0_24 rfl (by decide) rfl rfl (by first | assumption | omega | decide) (by first | assumption | omega | decide) (by decide) ?_
  refine Z_aload_n (n := 41) dX0_init_40 rfl rfl ?_
  refine Z_iconst (n := 42) dX0_init_41 rfl (by decide) ?_
  refine Z_putI (n := 45) (ki := 5) dX0_init_42 rfl ffX0_28 rfl (by decide) rfl rfl (by first | assumption | omega | decide) (by first | assumption | omega | decide) (by decide) ?_
  refine Z_vret dX0_init_45 rfl ?_
  exact ⟨rfl, by rw [uz_n (by decide), uz_s], uz_s⟩
set_option maxRecDepth 20000 in
theorem zX0_init_26 {G : tl_G} {M : zM} {J : zJ}  (hM0 : ∀ a : Nat, 26 ≤ a → ∀ k, M a k = 0) (hJ0 : ∀ a : Nat, 26 ≤ a → ∀ k, J a k = 0) : ZA G yX0_init mX0_init 1 4 204 (kNw 26) [vR 26] Fn2 (F_net 26 Fn2) M J (qV (fun M' J' => J' = J ∧ M' 26 4 = 0 ∧ M' 26 5 = 0)) := by
  refine ZA_of (L := [_]) (by decide) rfl rfl (Nat.le_of_ble_eq_true rfl) rfl (fun hav => ?_)
  refine Z_aload_n (n := 1) dX0_init_0 rfl rfl ?_
  refine Z_objI (n := 4) dX0_init_1 rfl moX0_3 (by decide) (by decide) (Nat.le_of_ble_eq_true rfl) ?_
  refine Z_aload_n (n := 5) dX0_init_4 rfl rfl ?_
  refine Z_bipush (n := 7) dX0_init_5 rfl (by decide) (by decide) ?_
  refine Z_newI (N := 40) (z := 27) (n := 9) dX0_init_7 rfl rfl (by decide) rfl (fun k => hM0 _ (by decide) k) (fun k => hJ0 _ (by decide) k) (fun _ => rfl) (by decide) (by decide) ?_
  refine Z_putA (n := 12) dX0_init_9 rfl ffX0_9 (fun _ => rfl) rfl ?_
  refine Z_aload_n (n := 13) dX0_init_12 rfl rfl ?_
  refine Z_bipush (n := 15) dX0_init_13 rfl (by decide) (by decide) ?_
  refine Z_newI (N := 120) (z := 28) (n := 17) dX0_init_15 rfl rfl (by decide) rfl (fun k => hM0 _ (by decide) k) (fun k => hJ0 _ (by decide) k) (fun _ => rfl) (by decide) (by decide) ?_
  refine Z_putA (n := 20) dX0_init_17 rfl ffX0_15 (fun _ => rfl) rfl ?_
  refine Z_aload_n (n := 21) dX0_init_20 rfl rfl ?_
  refine Z_iconst (n := 22) dX0_init_21 rfl (by decide) ?_
  refine Z_newI (N := 4) (z := 29) (n := 24) dX0_init_22 rfl rfl (by decide) rfl (fun k => hM0 _ (by decide) k) (fun k => hJ0 _ (by decide) k) (fun _ => rfl) (by decide) (by decide) ?_
  refine Z_putA (n := 27) dX0_init_24 rfl ffX0_18 (fun _ => rfl) rfl ?_
  refine Z_aload_n (n := 28) dX0_init_27 rfl rfl ?_
  refine Z_bipush (n := 30) dX0_init_28 rfl (by decide) (by decide) ?_
  refine Z_newI (N := 40) (z := 30) (n := 32) dX0_init_30 rfl rfl (by decide) rfl (fun k => hM0 _ (by decide) k) (fun k => hJ0 _ (by decide) k) (fun _ => rfl) (by decide) (by decide) ?_
  refine Z_putA (n := 35) dX0_init_32 rfl ffX0_21 (fun _ => rfl) rfl ?_
  refine Z_aload_n (n := 36) dX0_init_35 rfl rfl ?_
  refine Z_iconst (n := 37) dX0_init_36 rfl (by decide) ?_
  refine Z_putI (n := 40) (ki := 4) dX0_init_37 rfl ffX0_24 rfl (by decide) rfl rfl (by first | assumption | omega | decide) (by first | assumption | omega | decide) (by decide) ?_
  refine Z_aload_n (n := 41) dX0_init_40 rfl rfl ?_
  refine Z_iconst (n := 42) dX0_init_41 rfl (by decide) ?_
  refine Z_putI (n := 45) (ki := 5) dX0_init_42 rfl ffX0_28 rfl (by decide) rfl rfl (by first | assumption | omega | decide) (by first | assumption | omega | decide) (by decide) ?_
  refine Z_vret dX0_init_45 rfl ?_
  exact ⟨rfl, by rw [uz_n (by decide), uz_s], uz_s⟩
