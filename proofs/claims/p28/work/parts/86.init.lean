/-! ===== the class: a new object; gives ===== -/
abbrev kGv (a : Nat) : Prop := ¬ a = 20 ∧ ¬ a = 25 ∧ ¬ a = 30
theorem plo_no {M : zM} {w : Int → Int} (h : plo M (mC w)) (hw : ∀ n : Int, 2 ≤ n → n < 252 → w n = 0) : plo M (fun _ => False) := by
  have e : mC w = (fun _ => False) := funext (fun n => propext ⟨fun q => q.2 (hw n q.1.1 q.1.2), fun q => q.elim⟩)
  rw [e] at h
  exact h
set_option maxRecDepth 20000 in
theorem zX2_sweep_h {G : tl_G} {M : zM} {J : zJ} {F : zF} {S : Int → Prop} (hF : PoolF F) (hp : pst M S) (hC : ∀ n : Int, mC (M 9) n → S n ∧ okN (mC (M 9)) (M 7 n) ∧ okN (mC (M 9)) (M 8 n)) : ZN G yX2_sweep mX2_sweep 1 kSweep [vR 5] F M J (qV (fun M' J' => J' = J ∧ M' 5 8 = M 5 8 ∧ plo M' (mC (M 9)))) := by
  refine ZN_of (L := [_, _]) (by decide) rfl rfl (Nat.le_of_ble_eq_true rfl) rfl (fun hav => ?_)
  refine Z_aload_n (n := 1) dX2_sweep_0 rfl rfl ?_
  refine Z_getA (n := 4) dX2_sweep_1 rfl ffX2_27 (by first | exact hF.1 | exact hF.2.1.1 | exact hF.2.1.2.1 | exact hF.2.1.2.2.1 | exact hF.2.1.2.2.2.1 | exact hF.2.1.2.2.2.2 | exact hF.2.2.1 | exact hF.2.2.2.1 | exact hF.2.2.2.2.1 | exact hF.2.2.2.2.2.1 | exact hF.2.2.2.2.2.2 | rfl) (by first | exact hF.1 | exact hF.2.1.1 | exact hF.2.1.2.1 | exact hF.2.1.2.2.1 | exact hF.2.1.2.2.2.1 | exact hF.2.1.2.2.2.2 | exact hF.2.2.1 | exact hF.2.2.2.1 | exact hF.2.2.2.2.1 | exact hF.2.2.2.2.2.1 | exact hF.2.2.2.2.2.2 | rfl) ?_
  refine Z_iconst (n := 5) dX2_sweep_4 rfl (by decide) ?_
  refine Z_callSv (n := 8) [_, _] _ dX2_sweep_5 rfl cwX2_43 rfl rfl (Nat.le_of_ble_eq_true rfl) (by refine ⟨?_, ?_, ?_, ?_⟩ <;> exact Nat.le_of_ble_eq_true rfl) (fun _ h => h) (zJ7_fill_53178  (by exact hF.2.2.2.2.2.2) (by decide) (by exact fun _ => rfl) (by decide) (by decide) (by decide)) ?_
  intro M5 J5 f5 q5
  obtain ⟨e5_1, e5_2⟩ := q5
  replace e5_1 := e5_1.symm; subst e5_1
  replace e5_2 := e5_2.symm; subst e5_2
  refine Z_aload_n (n := 9) dX2_sweep_8 rfl rfl ?_
  refine Z_iconst (n := 10) dX2_sweep_9 rfl (by decide) ?_
  refine Z_putI (n := 13) (ki := 6) dX2_sweep_10 rfl ffX2_30 rfl (by decide) (by first | exact hF.1 | exact hF.2.1.1 | exact hF.2.1.2.1 | exact hF.2.1.2.2.1 | exact hF.2.1.2.2.2.1 | exact hF.2.1.2.2.2.2 | exact hF.2.2.1 | exact hF.2.2.2.1 | exact hF.2.2.2.2.1 | exact hF.2.2.2.2.2.1 | exact hF.2.2.2.2.2.2 | rfl) (by first | exact hF.1 | exact hF.2.1.1 | exact hF.2.1.2.1 | exact hF.2.1.2.2.1 | exact hF.2.1.2.2.2.1 | exact hF.2.1.2.2.2.2 | exact hF.2.2.1 | exact hF.2.2.2.1 | exact hF.2.2.2.2.1 | exact hF.2.2.2.2.2.1 | exact hF.2.2.2.2.2.2 | rfl) (by first | assumption | omega | decide) (by first | assumption | omega | decide) (by decide) ?_
  refine Z_aload_n (n := 14) dX2_sweep_13 rfl rfl ?_
  refine Z_iconst (n := 15) dX2_sweep_14 rfl (by decide) ?_
  refine Z_putI (n := 18) (ki := 7) dX2_sweep_15 rfl ffX2_34 rfl (by decide) (by first | exact hF.1 | exact hF.2.1.1 | exact hF.2.1.2.1 | exact hF.2.1.2.2.1 | exact hF.2.1.2.2.2.1 | exact hF.2.1.2.2.2.2 | exact hF.2.2.1 | exact hF.2.2.2.1 | exact hF.2.2.2.2.1 | exact hF.2.2.2.2.2.1 | exact hF.2.2.2.2.2.2 | rfl) (by first | exact hF.1 | exact hF.2.1.1 | exact hF.2.1.2.1 | exact hF.2.1.2.2.1 | exact hF.2.1.2.2.2.1 | exact hF.2.1.2.2.2.2 | exact hF.2.2.1 | exact hF.2.2.2.1 | exact hF.2.2.2.2.1 | exact hF.2.2.2.2.2.1 | exact hF.2.2.2.2.2.2 | rfl) (by first | assumption | omega | decide) (by first | assumption | omega | decide) (by decide) ?_
  refine Z_sipush (n := 21) dX2_sweep_18 rfl (by decide) (by decide) ?_
  refine Z_istore_n (L' := [_, _]) (n := 22) dX2_sweep_21 rfl (by decide) rfl rfl ?_
  have lp22 : ∀ (N22 : Nat) (n : Int) (M22 : zM) (J22 : zJ), (n.toNat) < N22 → (J22 = J) → (1 ≤ n) → (n ≤ 251) → (M22 5 7 ≤ 251 - n) → (M22 5 8 = M 5 8) → (swE M22 (mC (M 9)) n) → TZ G mX2_sweep (tl_rm 1 0 0) 0 0 kSweep M J 22 [some (vR 5), some (vI n)] [] F M22 J22 (ZM G (zPost G kSweep F M J (qV (fun M' J' => J' = J ∧ M' 5 8 = M 5 8 ∧ plo M' (mC (M 9))))) 0 0) := by
    intro N22
    induction N22 with
    | zero => intro n M22 J22 hN; omega
    | succ N22 ih22 =>
      intro n M22 J22 hN22 i22_0 i22_1 i22_2 i22_3 i22_4 i22_5
      refine Z_iload_n (n := 23) dX2_sweep_22 rfl rfl ?_
      refine Z_iconst (n := 24) dX2_sweep_23 rfl (by decide) ?_
      refine Z_icmp_lt (n := 27) (t := 65) dX2_sweep_24 rfl (by decide) (fun c24 => ?_) (fun c24 => ?_)
      · refine Z_fr (fun fr22 => ?_)
        refine Z_vret dX2_sweep_65 rfl ?_
        refine ⟨i22_0, i22_4, swT_end (M := M) ?_ ?_⟩
        · rw [show n = 1 by omega] at i22_5; exact i22_5
        · exact pst_cg (fr22 6 (by decide)).1 (fr22 7 (by decide)).1 (fr22 8 (by decide)).1 (pst_less hp hC)
      · refine Z_aload_n (n := 28) dX2_sweep_27 rfl rfl ?_
        refine Z_fr (fun fr22 => ?_)
        refine Z_ok (fun ok22 => ?_)
        have g7 : 0 ≤ M22 7 n ∧ M22 7 n ≤ 251 := ok22 7 n
        have g8 : 0 ≤ M22 8 n ∧ M22 8 n ≤ 251 := ok22 8 n
        refine Z_rg 5 7 rfl (fun g57 g57b => ?_)
        have e9 : M22 9 n = M 9 n := congrFun (fr22 9 (by decide)).1 n
        refine Z_getA (n := 31) dX2_sweep_28 rfl ffX2_21 (by first | exact hF.1 | exact hF.2.1.1 | exact hF.2.1.2.1 | exact hF.2.1.2.2.1 | exact hF.2.1.2.2.2.1 | exact hF.2.1.2.2.2.2 | exact hF.2.2.1 | exact hF.2.2.2.1 | exact hF.2.2.2.2.1 | exact hF.2.2.2.2.2.1 | exact hF.2.2.2.2.2.2 | rfl) (by first | exact hF.1 | exact hF.2.1.1 | exact hF.2.1.2.1 | exact hF.2.1.2.2.1 | exact hF.2.1.2.2.2.1 | exact hF.2.1.2.2.2.2 | exact hF.2.2.1 | exact hF.2.2.2.1 | exact hF.2.2.2.2.1 | exact hF.2.2.2.2.2.1 | exact hF.2.2.2.2.2.2 | rfl) ?_
        refine Z_iload_n (n := 32) dX2_sweep_31 rfl rfl ?_
        refine Z_iald (n := 33) dX2_sweep_32 rfl (by first | exact hF.1 | exact hF.2.1.1 | exact hF.2.1.2.1 | exact hF.2.1.2.2.1 | exact hF.2.1.2.2.2.1 | exact hF.2.1.2.2.2.2 | exact hF.2.2.1 | exact hF.2.2.2.1 | exact hF.2.2.2.2.1 | exact hF.2.2.2.2.2.1 | exact hF.2.2.2.2.2.2 | rfl) (by first | exact hF.1 | exact hF.2.1.1 | exact hF.2.1.2.1 | exact hF.2.1.2.2.1 | exact hF.2.1.2.2.2.1 | exact hF.2.1.2.2.2.2 | exact hF.2.2.1 | exact hF.2.2.2.1 | exact hF.2.2.2.2.1 | exact hF.2.2.2.2.2.1 | exact hF.2.2.2.2.2.2 | rfl) (by first | decide | assumption) (by omega) (by omega) (fun r32 s32 => ?_)
        refine Z_if_eq (n := 36) (t := 44) dX2_sweep_33 rfl (by decide) (fun c33 => ?_) (fun c33 => ?_)
        · refine Z_aload_n (n := 45) dX2_sweep_44 rfl rfl ?_
          refine Z_getA (n := 48) dX2_sweep_45 rfl ffX2_24 (by first | exact hF.1 | exact hF.2.1.1 | exact hF.2.1.2.1 | exact hF.2.1.2.2.1 | exact hF.2.1.2.2.2.1 | exact hF.2.1.2.2.2.2 | exact hF.2.2.1 | exact hF.2.2.2.1 | exact hF.2.2.2.2.1 | exact hF.2.2.2.2.2.1 | exact hF.2.2.2.2.2.2 | rfl) (by first | exact hF.1 | exact hF.2.1.1 | exact hF.2.1.2.1 | exact hF.2.1.2.2.1 | exact hF.2.1.2.2.2.1 | exact hF.2.1.2.2.2.2 | exact hF.2.2.1 | exact hF.2.2.2.1 | exact hF.2.2.2.2.1 | exact hF.2.2.2.2.2.1 | exact hF.2.2.2.2.2.2 | rfl) ?_
          refine Z_iload_n (n := 49) dX2_sweep_48 rfl rfl ?_
          refine Z_aload_n (n := 50) dX2_sweep_49 rfl rfl ?_
          refine Z_getI (n := 53) (ki := 6) dX2_sweep_50 rfl ffX2_30 rfl (by first | exact hF.1 | exact hF.2.1.1 | exact hF.2.1.2.1 | exact hF.2.1.2.2.1 | exact hF.2.1.2.2.2.1 | exact hF.2.1.2.2.2.2 | exact hF.2.2.1 | exact hF.2.2.2.1 | exact hF.2.2.2.2.1 | exact hF.2.2.2.2.2.1 | exact hF.2.2.2.2.2.2 | rfl) (by first | exact hF.1 | exact hF.2.1.1 | exact hF.2.1.2.1 | exact hF.2.1.2.2.1 | exact hF.2.1.2.2.2.1 | exact hF.2.1.2.2.2.2 | exact hF.2.2.1 | exact hF.2.2.2.1 | exact hF.2.2.2.2.1 | exact hF.2.2.2.2.2.1 | exact hF.2.2.2.2.2.2 | rfl) (fun r50 s50 => ?_)
          refine Z_iast (n := 54) dX2_sweep_53 rfl (by first | exact hF.1 | exact hF.2.1.1 | exact hF.2.1.2.1 | exact hF.2.1.2.2.1 | exact hF.2.1.2.2.2.1 | exact hF.2.1.2.2.2.2 | exact hF.2.2.1 | exact hF.2.2.2.1 | exact hF.2.2.2.2.1 | exact hF.2.2.2.2.2.1 | exact hF.2.2.2.2.2.2 | rfl) (by first | exact hF.1 | exact hF.2.1.1 | exact hF.2.1.2.1 | exact hF.2.1.2.2.1 | exact hF.2.1.2.2.2.1 | exact hF.2.1.2.2.2.2 | exact hF.2.2.1 | exact hF.2.2.2.1 | exact hF.2.2.2.2.1 | exact hF.2.2.2.2.2.1 | exact hF.2.2.2.2.2.2 | rfl) (by first | decide | assumption) (by omega) (by omega) (by first | assumption | omega | decide) (by first | assumption | omega | decide) (by decide) ?_
          refine Z_aload_n (n := 55) dX2_sweep_54 rfl rfl ?_
          refine Z_iload_n (n := 56) dX2_sweep_55 rfl rfl ?_
          refine Z_putI (n := 59) (ki := 6) dX2_sweep_56 rfl ffX2_30 rfl (by decide) (by first | exact hF.1 | exact hF.2.1.1 | exact hF.2.1.2.1 | exact hF.2.1.2.2.1 | exact hF.2.1.2.2.2.1 | exact hF.2.1.2.2.2.2 | exact hF.2.2.1 | exact hF.2.2.2.1 | exact hF.2.2.2.2.1 | exact hF.2.2.2.2.2.1 | exact hF.2.2.2.2.2.2 | rfl) (by first | exact hF.1 | exact hF.2.1.1 | exact hF.2.1.2.1 | exact hF.2.1.2.2.1 | exact hF.2.1.2.2.2.1 | exact hF.2.1.2.2.2.2 | exact hF.2.2.1 | exact hF.2.2.2.1 | exact hF.2.2.2.2.1 | exact hF.2.2.2.2.2.1 | exact hF.2.2.2.2.2.2 | rfl) (by first | assumption | omega | decide) (by first | assumption | omega | decide) (by decide) ?_
          have t3 : frez M22 n 5 7 ≤ 251 - (n + -1) := by rw [frez_57]; omega
          have t4 : frez M22 n 5 8 = M 5 8 := frez_58.trans i22_4
          have t5 : swE (frez M22 n) (mC (M 9)) (n + -1) := swT_fre i22_5 (by omega) (by omega) (fun q => q.2 (by omega))
          refine Z_iinc (L' := [_, _]) (n := 62) dX2_sweep_59 rfl rfl (by decide) rfl rfl (by omega) rfl ?_
          refine Z_goto (t := 22) dX2_sweep_62 (by decide) ?_
          refine Z_loc (L' := [some _, some _]) (lsub_same (lsub_same lsub_nil)) ?_
          exact ih22 _ _ _ (by omega) (by assumption) (by first | assumption | omega | decide) (by first | assumption | omega | decide) (by exact t3) (by exact t4) (by exact t5)
        · refine Z_aload_n (n := 37) dX2_sweep_36 rfl rfl ?_
          refine Z_iload_n (n := 38) dX2_sweep_37 rfl rfl ?_
          refine Z_callVv (n := 41) [_] _ dX2_sweep_38 rfl cwX2_64 rfl rfl (by first | exact hF.1 | exact hF.2.1.1 | exact hF.2.1.2.1 | exact hF.2.1.2.2.1 | exact hF.2.1.2.2.2.1 | exact hF.2.1.2.2.2.2 | exact hF.2.2.1 | exact hF.2.2.2.1 | exact hF.2.2.2.2.1 | exact hF.2.2.2.2.2.1 | exact hF.2.2.2.2.2.2 | rfl) (Nat.le_of_ble_eq_true rfl) (by refine ⟨?_, ?_, ?_, ?_⟩ <;> exact Nat.le_of_ble_eq_true rfl) (fun _ h => h) (zX2_enter  (by exact hF) (by omega) (by omega) (by omega) (by decide) (by decide) (by decide)) ?_
          intro M38 J38 f38 q38
          obtain ⟨e38_1, e38_2⟩ := q38
          replace e38_1 := e38_1.symm; subst e38_1
          replace e38_2 := e38_2.symm; subst e38_2
          have t3 : entz M22 n 5 7 ≤ 251 - (n + -1) := by rw [entz_57]; omega
          have t4 : entz M22 n 5 8 = M 5 8 := entz_58.trans i22_4
          have t5 : swE (entz M22 n) (mC (M 9)) (n + -1) := swT_ent i22_5 (by omega) (by omega) ⟨by omega, by omega⟩ (zxor_in g7.1 (by omega) g8.1 (by omega))
          refine Z_goto (t := 59) dX2_sweep_41 (by decide) ?_
          refine Z_iinc (L' := [_, _]) (n := 62) dX2_sweep_59 rfl rfl (by decide) rfl rfl (by omega) rfl ?_
          refine Z_goto (t := 22) dX2_sweep_62 (by decide) ?_
          refine Z_loc (L' := [some _, some _]) (lsub_same (lsub_same lsub_nil)) ?_
          exact ih22 _ _ _ (by omega) (by assumption) (by first | assumption | omega | decide) (by first | assumption | omega | decide) (by exact t3) (by exact t4) (by exact t5)
  refine Z_loc (L' := [some _, some _]) (lsub_same (lsub_same lsub_nil)) ?_
  exact lp22 _ _ _ _ (Nat.lt_succ_self _) (by rfl) (by first | assumption | omega | decide) (by first | assumption | omega | decide) (by rw [uz_s]; decide) (by exact sw0_58) (by exact swT_0)
set_option maxRecDepth 20000 in
theorem zX2_init_f {G : tl_G} {M : zM} {J : zJ}  (hM0 : ∀ a : Nat, 5 ≤ a → ∀ k, M a k = 0) (hJ0 : ∀ a : Nat, 5 ≤ a → ∀ k, J a k = 0) : ZA G yX2_init mX2_init 2 6 1516 kPool [vR 5] Fb5 (F_pool Fb5) M J (qV (fun M' J' => J' = J ∧ pI M' ∧ M' 5 8 = 250 ∧ plo M' (fun _ => False))) := by
  refine ZA_of (L := [_]) (by decide) rfl rfl (Nat.le_of_ble_eq_true rfl) rfl (fun hav => ?_)
  refine Z_aload_n (n := 1) dX2_init_0 rfl rfl ?_
  refine Z_objI (n := 4) dX2_init_1 rfl moX2_3 (by decide) (by decide) (Nat.le_of_ble_eq_true rfl) ?_
  refine Z_aload_n (n := 5) dX2_init_4 rfl rfl ?_
  refine Z_sipush (n := 8) dX2_init_5 rfl (by decide) (by decide) ?_
  refine Z_newI (N := 252) (z := 6) (n := 10) dX2_init_8 rfl rfl (by decide) rfl (fun k => hM0 _ (by decide) k) (fun k => hJ0 _ (by decide) k) (fun _ => rfl) (by decide) (by decide) ?_
  refine Z_putA (n := 13) dX2_init_10 rfl ffX2_11 (fun _ => rfl) rfl ?_
  refine Z_aload_n (n := 14) dX2_init_13 rfl rfl ?_
  refine Z_sipush (n := 17) dX2_init_14 rfl (by decide) (by decide) ?_
  refine Z_newI (N := 252) (z := 7) (n := 19) dX2_init_17 rfl rfl (by decide) rfl (fun k => hM0 _ (by decide) k) (fun k => hJ0 _ (by decide) k) (fun _ => rfl) (by decide) (by decide) ?_
  refine Z_putA (n := 22) dX2_init_19 rfl ffX2_15 (fun _ => rfl) rfl ?_
  refine Z_aload_n (n := 23) dX2_init_22 rfl rfl ?_
  refine Z_sipush (n := 26) dX2_init_23 rfl (by decide) (by decide) ?_
  refine Z_newI (N := 252) (z := 8) (n := 28) dX2_init_26 rfl rfl (by decide) rfl (fun k => hM0 _ (by decide) k) (fun k => hJ0 _ (by decide) k) (fun _ => rfl) (by decide) (by decide) ?_
  refine Z_putA (n := 31) dX2_init_28 rfl ffX2_18 (fun _ => rfl) rfl ?_
  refine Z_aload_n (n := 32) dX2_init_31 rfl rfl ?_
  refine Z_sipush (n := 35) dX2_init_32 rfl (by decide) (by decide) ?_
  refine Z_newI (N := 252) (z := 9) (n := 37) dX2_init_35 rfl rfl (by decide) rfl (fun k => hM0 _ (by decide) k) (fun k => hJ0 _ (by decide) k) (fun _ => rfl) (by decide) (by decide) ?_
  refine Z_putA (n := 40) dX2_init_37 rfl ffX2_21 (fun _ => rfl) rfl ?_
  refine Z_aload_n (n := 41) dX2_init_40 rfl rfl ?_
  refine Z_sipush (n := 44) dX2_init_41 rfl (by decide) (by decide) ?_
  refine Z_newI (N := 252) (z := 10) (n := 46) dX2_init_44 rfl rfl (by decide) rfl (fun k => hM0 _ (by decide) k) (fun k => hJ0 _ (by decide) k) (fun _ => rfl) (by decide) (by decide) ?_
  refine Z_putA (n := 49) dX2_init_46 rfl ffX2_24 (fun _ => rfl) rfl ?_
  refine Z_aload_n (n := 50) dX2_init_49 rfl rfl ?_
  refine Z_sipush (n := 53) dX2_init_50 rfl (by decide) (by decide) ?_
  refine Z_newI (N := 256) (z := 11) (n := 55) dX2_init_53 rfl rfl (by decide) rfl (fun k => hM0 _ (by decide) k) (fun k => hJ0 _ (by decide) k) (fun _ => rfl) (by decide) (by decide) ?_
  refine Z_putA (n := 58) dX2_init_55 rfl ffX2_27 (fun _ => rfl) rfl ?_
  refine Z_aload_n (n := 59) dX2_init_58 rfl rfl ?_
  refine Z_iconst (n := 60) dX2_init_59 rfl (by decide) ?_
  refine Z_putI (n := 63) (ki := 6) dX2_init_60 rfl ffX2_30 rfl (by decide) rfl rfl (by first | assumption | omega | decide) (by first | assumption | omega | decide) (by decide) ?_
  refine Z_aload_n (n := 64) dX2_init_63 rfl rfl ?_
  refine Z_iconst (n := 65) dX2_init_64 rfl (by decide) ?_
  refine Z_putI (n := 68) (ki := 7) dX2_init_65 rfl ffX2_34 rfl (by decide) rfl rfl (by first | assumption | omega | decide) (by first | assumption | omega | decide) (by decide) ?_
  refine Z_aload_n (n := 69) dX2_init_68 rfl rfl ?_
  refine Z_sipush (n := 72) dX2_init_69 rfl (by decide) (by decide) ?_
  refine Z_putI (n := 75) (ki := 8) dX2_init_72 rfl ffX2_37 rfl (by decide) rfl rfl (by first | assumption | omega | decide) (by first | assumption | omega | decide) (by decide) ?_
  refine Z_aload_n (n := 76) dX2_init_75 rfl rfl ?_
  refine Z_getA (n := 79) dX2_init_76 rfl ffX2_11 rfl rfl ?_
  refine Z_iconst (n := 80) dX2_init_79 rfl (by decide) ?_
  refine Z_bipush (n := 82) dX2_init_80 rfl (by decide) (by decide) ?_
  refine Z_iast (n := 83) dX2_init_82 rfl rfl rfl (by first | decide | assumption) (by omega) (by omega) (by first | assumption | omega | decide) (by first | assumption | omega | decide) (by decide) ?_
  refine Z_aload_n (n := 84) dX2_init_83 rfl rfl ?_
  refine Z_getA (n := 87) dX2_init_84 rfl ffX2_11 rfl rfl ?_
  refine Z_iconst (n := 88) dX2_init_87 rfl (by decide) ?_
  refine Z_bipush (n := 90) dX2_init_88 rfl (by decide) (by decide) ?_
  refine Z_iast (n := 91) dX2_init_90 rfl rfl rfl (by first | decide | assumption) (by omega) (by omega) (by first | assumption | omega | decide) (by first | assumption | omega | decide) (by decide) ?_
  refine Z_aload_n (n := 92) dX2_init_91 rfl rfl ?_
  refine Z_nm (fun M91 e91 => ?_)
  have a60 : M91 6 0 = 8 := by rw [e91, uz_n (by decide), uz_s]
  have a61 : M91 6 1 = 8 := by rw [e91, uz_s]
  have a58 : M91 5 8 = 250 := by rw [e91, uz_oo (by decide), uz_oo (by decide), uz_s]
  have a9 : ∀ n : Int, M91 9 n = 0 := fun n => by rw [e91]; simp only [uz_oo (show (9 : Nat) ≠ 5 by decide), uz_oo (show (9 : Nat) ≠ 6 by decide)]; exact hM0 9 (by decide) n
  clear e91
  have hp0 : pst M91 (fun _ => False) := ⟨⟨a60, a61⟩, fun n q => q.elim, fun n m q => q.elim⟩
  have hc0 : ∀ n : Int, mC (M91 9) n → (fun _ : Int => False) n ∧ okN (mC (M91 9)) (M91 7 n) ∧ okN (mC (M91 9)) (M91 8 n) := fun n q => absurd (a9 n) q.2
  refine Z_callVv (n := 95) [] _ dX2_init_92 rfl cwX2_40 rfl rfl rfl (Nat.le_of_ble_eq_true rfl) (by refine ⟨?_, ?_, ?_, ?_⟩ <;> exact Nat.le_of_ble_eq_true rfl) (fun a h => by unfold kPool at h; unfold kSweep; omega) (zX2_sweep_h  (by exact ⟨rfl, ⟨rfl, rfl, rfl, rfl, rfl⟩, rfl, rfl, rfl, rfl, rfl⟩) (by exact hp0) (by exact hc0)) ?_
  intro M92 J92 f92 q92
  obtain ⟨e92_1, lm92, po92⟩ := q92
  replace e92_1 := e92_1.symm; subst e92_1
  refine Z_vret dX2_init_95 rfl ?_
  have pn := plo_no po92 (fun n _ _ => a9 n)
  exact ⟨rfl, plo_pI pn, lm92.trans a58, pn⟩
set_option maxRecDepth 20000 in
theorem zX3_init_f {G : tl_G} {M : zM} {J : zJ}  (hM0 : ∀ a : Nat, 0 ≤ a → ∀ k, M a k = 0) (hJ0 : ∀ a : Nat, 0 ≤ a → ∀ k, J a k = 0) : ZA G yX3_init mX3_init 3 30 2277 kBench [vR 0] Fb0 Fb9 M J (qV (fun M' J' => J' = J ∧ cF M' ∧ plo M' (fun _ => False))) := by
  refine ZA_of (L := [_, _]) (by decide) rfl rfl (Nat.le_of_ble_eq_true rfl) rfl (fun hav => ?_)
  refine Z_aload_n (n := 1) dX3_init_0 rfl rfl ?_
  refine Z_objI (n := 4) dX3_init_1 rfl moX3_3 (by decide) (by decide) (Nat.le_of_ble_eq_true rfl) ?_
  refine Z_aload_n (n := 5) dX3_init_4 rfl rfl ?_
  refine Z_iconst (n := 6) dX3_init_5 rfl (by decide) ?_
  refine Z_anew (N := 3) (z := 1) (n := 9) dX3_init_6 rfl cl_X3_9 rfl (by decide) rfl (fun k => hM0 _ (by decide) k) (fun k => hJ0 _ (by decide) k) (fun _ => rfl) (by decide) (by decide) ?_
  refine Z_putA (n := 12) dX3_init_9 rfl ffX3_11 (fun _ => rfl) rfl ?_
  refine Z_aload_n (n := 13) dX3_init_12 rfl rfl ?_
  refine Z_new (z := 2) (n := 16) dX3_init_13 rfl cnX3_15 rfl (fun k => hM0 _ (by decide) k) (fun k => hJ0 _ (by decide) k) (fun _ => rfl) (by decide) (by decide) ?_
  refine Z_dup (n := 17) dX3_init_16 rfl rfl ?_
  refine Z_callI (n := 20) dX3_init_17 rfl cwX3_17 (Nat.le_of_ble_eq_true rfl) (by refine ⟨?_, ?_, ?_, ?_⟩ <;> exact Nat.le_of_ble_eq_true rfl) (fun a h => by unfold kBench at h; unfold kOrd; omega) (zX1_init (by exact fun a h k => hM0 a (by omega) k) (by exact fun a h k => hJ0 a (by omega) k)) ?_
  intro M17 J17 f17 q17
  obtain ⟨e17, o17, v17⟩ := q17
  replace e17 := e17.symm; subst e17
  have z17 : ∀ a : Nat, 5 ≤ a → ∀ k, M17 a k = 0 := fun a h k => (congrFun (f17 a (by unfold kOrd; omega)).1 k).trans (hM0 a (by omega) k)
  refine Z_putO (n := 23) dX3_init_20 rfl ffX3_18 (fun _ => rfl) rfl ?_
  refine Z_aload_n (n := 24) dX3_init_23 rfl rfl ?_
  refine Z_new (z := 5) (n := 27) dX3_init_24 rfl cnX3_22 rfl (fun k => z17 _ (by decide) k) (fun k => hJ0 _ (by decide) k) (fun _ => rfl) (by decide) (by decide) ?_
  refine Z_dup (n := 28) dX3_init_27 rfl rfl ?_
  refine Z_callI (n := 31) dX3_init_28 rfl cwX3_24 (Nat.le_of_ble_eq_true rfl) (by refine ⟨?_, ?_, ?_, ?_⟩ <;> exact Nat.le_of_ble_eq_true rfl) (fun a h => by unfold kBench at h; unfold kPool; omega) (zX2_init_f (by exact fun a h k => z17 a (by omega) k) (by exact fun a h k => hJ0 a (by omega) k)) ?_
  intro M28 J28 f28 q28
  obtain ⟨e28, p28, l28, pn28⟩ := q28
  replace e28 := e28.symm; subst e28
  have z28 : ∀ a : Nat, 12 ≤ a → ∀ k, M28 a k = 0 := fun a h k => (congrFun (f28 a (by unfold kPool; omega)).1 k).trans (z17 a (by omega) k)
  refine Z_putO (n := 34) dX3_init_31 rfl ffX3_25 (fun _ => rfl) rfl ?_
  refine Z_aload_n (n := 35) dX3_init_34 rfl rfl ?_
  refine Z_bipush (n := 37) dX3_init_35 rfl (by decide) (by decide) ?_
  refine Z_newI (N := 12) (z := 12) (n := 39) dX3_init_37 rfl rfl (by decide) rfl (fun k => z28 _ (by decide) k) (fun k => hJ0 _ (by decide) k) (fun _ => rfl) (by decide) (by decide) ?_
  refine Z_putA (n := 42) dX3_init_39 rfl ffX3_29 (fun _ => rfl) rfl ?_
  refine Z_aload_n (n := 43) dX3_init_42 rfl rfl ?_
  refine Z_bipush (n := 45) dX3_init_43 rfl (by decide) (by decide) ?_
  refine Z_newI (N := 40) (z := 13) (n := 47) dX3_init_45 rfl rfl (by decide) rfl (fun k => z28 _ (by decide) k) (fun k => hJ0 _ (by decide) k) (fun _ => rfl) (by decide) (by decide) ?_
  refine Z_putA (n := 50) dX3_init_47 rfl ffX3_33 (fun _ => rfl) rfl ?_
  refine Z_aload_n (n := 51) dX3_init_50 rfl rfl ?_
  refine Z_bipush (n := 53) dX3_init_51 rfl (by decide) (by decide) ?_
  refine Z_newI (N := 40) (z := 14) (n := 55) dX3_init_53 rfl rfl (by decide) rfl (fun k => z28 _ (by decide) k) (fun k => hJ0 _ (by decide) k) (fun _ => rfl) (by decide) (by decide) ?_
  refine Z_putA (n := 58) dX3_init_55 rfl ffX3_36 (fun _ => rfl) rfl ?_
  refine Z_aload_n (n := 59) dX3_init_58 rfl rfl ?_
  refine Z_bipush (n := 61) dX3_init_59 rfl (by decide) (by decide) ?_
  refine Z_newI (N := 8) (z := 15) (n := 63) dX3_init_61 rfl rfl (by decide) rfl (fun k => z28 _ (by decide) k) (fun k => hJ0 _ (by decide) k) (fun _ => rfl) (by decide) (by decide) ?_
  refine Z_putA (n := 66) dX3_init_63 rfl ffX3_39 (fun _ => rfl) rfl ?_
  refine Z_aload_n (n := 67) dX3_init_66 rfl rfl ?_
  refine Z_iconst (n := 68) dX3_init_67 rfl (by decide) ?_
  refine Z_putI (n := 71) (ki := 7) dX3_init_68 rfl ffX3_42 rfl (by decide) rfl rfl (by first | assumption | omega | decide) (by first | assumption | omega | decide) (by decide) ?_
  refine Z_aload_n (n := 72) dX3_init_71 rfl rfl ?_
  refine Z_iconst (n := 73) dX3_init_72 rfl (by decide) ?_
  refine Z_putI (n := 76) (ki := 8) dX3_init_73 rfl ffX3_46 rfl (by decide) rfl rfl (by first | assumption | omega | decide) (by first | assumption | omega | decide) (by decide) ?_
  refine Z_aload_n (n := 77) dX3_init_76 rfl rfl ?_
  refine Z_bipush (n := 79) dX3_init_77 rfl (by decide) (by decide) ?_
  refine Z_putI (n := 82) (ki := 9) dX3_init_79 rfl ffX3_49 rfl (by decide) rfl rfl (by first | assumption | omega | decide) (by first | assumption | omega | decide) (by decide) ?_
  refine Z_aload_n (n := 83) dX3_init_82 rfl rfl ?_
  refine Z_bipush (n := 85) dX3_init_83 rfl (by decide) (by decide) ?_
  refine Z_putI (n := 88) (ki := 10) dX3_init_85 rfl ffX3_52 rfl (by decide) rfl rfl (by first | assumption | omega | decide) (by first | assumption | omega | decide) (by decide) ?_
  refine Z_iconst (n := 89) dX3_init_88 rfl (by decide) ?_
  refine Z_istore_n (L' := [_, _]) (n := 90) dX3_init_89 rfl (by decide) rfl rfl ?_
  refine Z_iload_n (n := 91) dX3_init_90 rfl rfl ?_
  refine Z_iconst (n := 92) dX3_init_91 rfl (by decide) ?_
  refine Z_icmp_ge (n := 95) (t := 114) dX3_init_92 rfl (by decide) (fun c92 => ?_) (fun c92 => ?_)
  · omega
  · refine Z_aload_n (n := 96) dX3_init_95 rfl rfl ?_
    refine Z_getA (n := 99) dX3_init_96 rfl ffX3_11 rfl rfl ?_
    refine Z_iload_n (n := 100) dX3_init_99 rfl rfl ?_
    refine Z_new (z := 16) (n := 103) dX3_init_100 rfl cnX3_9 rfl (fun k => z28 _ (by decide) k) (fun k => hJ0 _ (by decide) k) (fun _ => rfl) (by decide) (by decide) ?_
    refine Z_dup (n := 104) dX3_init_103 rfl rfl ?_
    refine Z_callI (n := 107) dX3_init_104 rfl cwX3_55 (Nat.le_of_ble_eq_true rfl) (by refine ⟨?_, ?_, ?_, ?_⟩ <;> exact Nat.le_of_ble_eq_true rfl) (fun a h => by unfold kBench at h; unfold kNw; omega) (zX0_init_16 (by exact fun a h k => (congrFun (show (uz (uz (uz (uz M28 0 7 0) 0 8 0) 0 9 (-9)) 0 10 (-9)) a = M28 a by simp only [uz_o (show a ≠ 0 by omega)]) k).trans (z28 a (by omega) k)) (by exact fun a h k => hJ0 a (by omega) k)) ?_
    intro M104 J104 f104 q104
    obtain ⟨e104, n16⟩ := q104
    replace e104 := e104.symm; subst e104
    have z104 : ∀ a : Nat, 17 ≤ a → ∀ k, M104 a k = 0 := fun a h k => (congrFun (f104 a (by unfold kNw; omega)).1 k).trans ((congrFun (show (uz (uz (uz (uz M28 0 7 0) 0 8 0) 0 9 (-9)) 0 10 (-9)) a = M28 a by simp only [uz_o (show a ≠ 0 by omega)]) k).trans (z28 a (by omega) k))
    refine Z_aast (i := 0) (n := 108) dX3_init_107 rfl rfl rfl rfl (by decide) (by decide) ?_
    refine Z_iinc (L' := [_, _]) (n := 111) dX3_init_108 rfl rfl (by decide) rfl rfl (by omega) rfl ?_
    refine Z_goto (t := 90) dX3_init_111 (by decide) ?_
    refine Z_iload_n (n := 91) dX3_init_90 rfl rfl ?_
    refine Z_iconst (n := 92) dX3_init_91 rfl (by decide) ?_
    refine Z_icmp_ge (n := 95) (t := 114) dX3_init_92 rfl (by decide) (fun c92 => ?_) (fun c92 => ?_)
    · omega
    · refine Z_aload_n (n := 96) dX3_init_95 rfl rfl ?_
      refine Z_getA (n := 99) dX3_init_96 rfl ffX3_11 rfl rfl ?_
      refine Z_iload_n (n := 100) dX3_init_99 rfl rfl ?_
      refine Z_new (z := 21) (n := 103) dX3_init_100 rfl cnX3_9 rfl (fun k => z104 _ (by decide) k) (fun k => hJ0 _ (by decide) k) (fun _ => rfl) (by decide) (by decide) ?_
      refine Z_dup (n := 104) dX3_init_103 rfl rfl ?_
      refine Z_callI (n := 107) dX3_init_104 rfl cwX3_55 (Nat.le_of_ble_eq_true rfl) (by refine ⟨?_, ?_, ?_, ?_⟩ <;> exact Nat.le_of_ble_eq_true rfl) (fun a h => by unfold kBench at h; unfold kNw; omega) (zX0_init_21 (by exact fun a h k => z104 a (by omega) k) (by exact fun a h k => hJ0 a (by omega) k)) ?_
      intro M104_1 J104_1 f104_1 q104_1
      obtain ⟨e104b, n21⟩ := q104_1
      replace e104b := e104b.symm; subst e104b
      have z104b : ∀ a : Nat, 22 ≤ a → ∀ k, M104_1 a k = 0 := fun a h k => (congrFun (f104_1 a (by unfold kNw; omega)).1 k).trans (z104 a (by omega) k)
      refine Z_aast (i := 1) (n := 108) dX3_init_107 rfl rfl rfl rfl (by decide) (by decide) ?_
      refine Z_iinc (L' := [_, _]) (n := 111) dX3_init_108 rfl rfl (by decide) rfl rfl (by omega) rfl ?_
      refine Z_goto (t := 90) dX3_init_111 (by decide) ?_
      refine Z_iload_n (n := 91) dX3_init_90 rfl rfl ?_
      refine Z_iconst (n := 92) dX3_init_91 rfl (by decide) ?_
      refine Z_icmp_ge (n := 95) (t := 114) dX3_init_92 rfl (by decide) (fun c92 => ?_) (fun c92 => ?_)
      · omega
      · refine Z_aload_n (n := 96) dX3_init_95 rfl rfl ?_
        refine Z_getA (n := 99) dX3_init_96 rfl ffX3_11 rfl rfl ?_
        refine Z_iload_n (n := 100) dX3_init_99 rfl rfl ?_
        refine Z_new (z := 26) (n := 103) dX3_init_100 rfl cnX3_9 rfl (fun k => z104b _ (by decide) k) (fun k => hJ0 _ (by decide) k) (fun _ => rfl) (by decide) (by decide) ?_
        refine Z_dup (n := 104) dX3_init_103 rfl rfl ?_
        refine Z_callI (n := 107) dX3_init_104 rfl cwX3_55 (Nat.le_of_ble_eq_true rfl) (by refine ⟨?_, ?_, ?_, ?_⟩ <;> exact Nat.le_of_ble_eq_true rfl) (fun a h => by unfold kBench at h; unfold kNw; omega) (zX0_init_26 (by exact fun a h k => z104b a (by omega) k) (by exact fun a h k => hJ0 a (by omega) k)) ?_
        intro M104_2 J104_2 f104_2 q104_2
        obtain ⟨e104c, n26⟩ := q104_2
        replace e104c := e104c.symm; subst e104c
        refine Z_aast (i := 2) (n := 108) dX3_init_107 rfl rfl rfl rfl (by decide) (by decide) ?_
        refine Z_iinc (L' := [_, _]) (n := 111) dX3_init_108 rfl rfl (by decide) rfl rfl (by omega) rfl ?_
        refine Z_goto (t := 90) dX3_init_111 (by decide) ?_
        refine Z_iload_n (n := 91) dX3_init_90 rfl rfl ?_
        refine Z_iconst (n := 92) dX3_init_91 rfl (by decide) ?_
        refine Z_icmp_ge (n := 95) (t := 114) dX3_init_92 rfl (by decide) (fun c92 => ?_) (fun c92 => ?_)
        · refine Z_aload_n (n := 115) dX3_init_114 rfl rfl ?_
          refine Z_getA (n := 118) dX3_init_115 rfl ffX3_29 rfl rfl ?_
          refine Z_iconst (n := 119) dX3_init_118 rfl (by decide) ?_
          refine Z_callSv (n := 122) [_, _] _ dX3_init_119 rfl cwX3_56 rfl rfl (Nat.le_of_ble_eq_true rfl) (by refine ⟨?_, ?_, ?_, ?_⟩ <;> exact Nat.le_of_ble_eq_true rfl) (fun _ h => h) (zJ7_fill_53178  (by rfl) (by decide) (by exact fun _ => rfl) (by decide) (by decide) (by decide)) ?_
          intro M119 J119 f119 q119
          obtain ⟨e119_1, e119_2⟩ := q119
          replace e119_1 := e119_1.symm; subst e119_1
          replace e119_2 := e119_2.symm; subst e119_2
          refine Z_aload_n (n := 123) dX3_init_122 rfl rfl ?_
          refine Z_getA (n := 126) dX3_init_123 rfl ffX3_33 rfl rfl ?_
          refine Z_iconst (n := 127) dX3_init_126 rfl (by decide) ?_
          refine Z_callSv (n := 130) [_, _] _ dX3_init_127 rfl cwX3_56 rfl rfl (Nat.le_of_ble_eq_true rfl) (by refine ⟨?_, ?_, ?_, ?_⟩ <;> exact Nat.le_of_ble_eq_true rfl) (fun _ h => h) (zJ7_fill_53178  (by rfl) (by decide) (by exact fun _ => rfl) (by decide) (by decide) (by decide)) ?_
          intro M127 J127 f127 q127
          obtain ⟨e127_1, e127_2⟩ := q127
          replace e127_1 := e127_1.symm; subst e127_1
          replace e127_2 := e127_2.symm; subst e127_2
          refine Z_vret dX3_init_130 rfl ?_
          have hN : ∀ a : Nat, a ≠ 16 → a ≠ 21 → a ≠ 26 → a ≠ 0 → M104_2 a = M28 a := fun a h1 h2 h3 h4 => by
            rw [(f104_2 a h3).1, (f104_1 a h2).1, (f104 a h1).1]
            simp only [uz_o h4]
          have h0 : M104_2 0 = uz (uz (uz (uz M28 0 7 0) 0 8 0) 0 9 (-9)) 0 10 (-9) 0 := by rw [(f104_2 0 (by decide)).1, (f104_1 0 (by decide)).1, (f104 0 (by decide)).1]
          have hq : ∀ a : Nat, a ≠ 12 → a ≠ 13 → fillz (fillz M104_2 12 12 (-1)) 13 40 (-1) a = M104_2 a := fun a h1 h2 => by rw [fillz_o h2, fillz_o h1]
          have pz : plo (fillz (fillz M104_2 12 12 (-1)) 13 40 (-1)) (fun _ => False) := plo_cg ((hq 5 (by decide) (by decide)).trans (hN 5 (by decide) (by decide) (by decide) (by decide))) ((hq 6 (by decide) (by decide)).trans (hN 6 (by decide) (by decide) (by decide) (by decide))) ((hq 7 (by decide) (by decide)).trans (hN 7 (by decide) (by decide) (by decide) (by decide))) ((hq 8 (by decide) (by decide)).trans (hN 8 (by decide) (by decide) (by decide) (by decide))) ((hq 10 (by decide) (by decide)).trans (hN 10 (by decide) (by decide) (by decide) (by decide))) ((hq 11 (by decide) (by decide)).trans (hN 11 (by decide) (by decide) (by decide) (by decide))) pn28
          refine ⟨rfl, ?_, pz⟩
          refine cF_mk (N := M104_2) (fun a h1 h2 => by rw [fillz_o h2, fillz_o h1]) (fun h a b => by rw [fillz_o (by decide), fillz_a a (by omega)]) (fun h a b => fillz_a a (by omega)) (pI_fr p28 (hN 5 (by decide) (by decide) (by decide) (by decide)) (hN 6 (by decide) (by decide) (by decide) (by decide)) (hN 10 (by decide) (by decide) (by decide) (by decide)) (hN 11 (by decide) (by decide) (by decide) (by decide))) ?_ (fun w a b => ?_) ?_ ?_ ?_ n26
          · rw [hN 5 (by decide) (by decide) (by decide) (by decide)]; exact l28
          · rw [hN 3 (by decide) (by decide) (by decide) (by decide), hN 4 (by decide) (by decide) (by decide) (by decide), (f28 3 (by decide)).1, (f28 4 (by decide)).1]; exact v17 w a b
          · rw [h0]; exact ⟨rfl, rfl, rfl, rfl⟩
          · rw [(f104_2 16 (by decide)).1, (f104_1 16 (by decide)).1]; exact n16
          · rw [(f104_2 21 (by decide)).1]; exact n21
        · omega
set_option maxRecDepth 20000 in
theorem zX3_gives_k {G : tl_G} {M : zM} {J : zJ} {net o a : Int} (hc : cI M) : ZN G yX3_gives mX3_gives 3 kGv [vR 0, vI net, vI o, vI a] F1 M J (qI (fun x M' J' => J' = J)) := by
  refine ZN_of (L := [_, _, _, _]) (by decide) rfl rfl (Nat.le_of_ble_eq_true rfl) rfl (fun hav => ?_)
  refine Z_iload_n (n := 1) dX3_gives_0 rfl rfl ?_
  refine Z_callSi (n := 4) [_] _ dX3_gives_1 rfl cwX3_62 rfl rfl (Nat.le_of_ble_eq_true rfl) (by refine ⟨?_, ?_, ?_, ?_⟩ <;> exact Nat.le_of_ble_eq_true rfl) (fun _ _ => trivial) (zX3_isNet  ) ?_
  intro x1 M1 J1 z1 f1 q1
  obtain ⟨e1_1, e1_2, h1⟩ := q1
  replace e1_1 := e1_1.symm; subst e1_1
  replace e1_2 := e1_2.symm; subst e1_2
  refine Z_if_eq (n := 7) (t := 20) dX3_gives_4 rfl (by decide) (fun c4 => ?_) (fun c4 => ?_)
  · refine Z_iconst (n := 21) dX3_gives_20 rfl (by decide) ?_
    refine Z_iret dX3_gives_21 rfl ?_
    exact rfl
  · refine Z_aload_n (n := 8) dX3_gives_7 rfl rfl ?_
    refine Z_getA (n := 11) dX3_gives_8 rfl ffX3_11 (by first | rfl | exact nS0 (nA_at (by omega) (by omega))) (by first | rfl | exact nS0 (nA_at (by omega) (by omega))) ?_
    refine Z_iload_n (n := 12) dX3_gives_11 rfl rfl ?_
    refine Z_aald (n := 13) dX3_gives_12 rfl (by first | rfl | exact nS0 (nA_at (by omega) (by omega))) (by decide) (by omega) (by omega) (nA_P (by omega) (by omega)) ?_
    refine Z_iload_n (n := 14) dX3_gives_13 rfl rfl ?_
    refine Z_callVi (n := 17) [_] _ dX3_gives_14 rfl cwX3_88 rfl rfl (by first | rfl | exact nS0 (nA_at (by omega) (by omega))) (Nat.le_of_ble_eq_true rfl) (by refine ⟨?_, ?_, ?_, ?_⟩ <;> exact Nat.le_of_ble_eq_true rfl) (fun _ _ => trivial) (zX0_hasOutput  (by exact nA_at (by omega) (by omega))) ?_
    intro x14 M14 J14 z14 f14 q14
    obtain ⟨e14_1, e14_2, h14⟩ := q14
    replace e14_1 := e14_1.symm; subst e14_1
    replace e14_2 := e14_2.symm; subst e14_2
    refine Z_if_ne (n := 20) (t := 22) dX3_gives_17 rfl (by decide) (fun c17 => ?_) (fun c17 => ?_)
    · refine Z_iload_n (n := 23) dX3_gives_22 rfl rfl ?_
      refine Z_callSi (n := 26) [_] _ dX3_gives_23 rfl cwX3_91 rfl rfl (Nat.le_of_ble_eq_true rfl) (by refine ⟨?_, ?_, ?_, ?_⟩ <;> exact Nat.le_of_ble_eq_true rfl) (fun _ _ => trivial) (zX3_isAssignment  ) ?_
      intro x23 M23 J23 z23 f23 q23
      obtain ⟨e23_1, e23_2, h23⟩ := q23
      replace e23_1 := e23_1.symm; subst e23_1
      replace e23_2 := e23_2.symm; subst e23_2
      refine Z_if_ne (n := 29) (t := 32) dX3_gives_26 rfl (by decide) (fun c26 => ?_) (fun c26 => ?_)
      · refine Z_aload_n (n := 33) dX3_gives_32 rfl rfl ?_
        refine Z_getA (n := 36) dX3_gives_33 rfl ffX3_11 (by first | rfl | exact nS0 (nA_at (by omega) (by omega))) (by first | rfl | exact nS0 (nA_at (by omega) (by omega))) ?_
        refine Z_iload_n (n := 37) dX3_gives_36 rfl rfl ?_
        refine Z_aald (n := 38) dX3_gives_37 rfl (by first | rfl | exact nS0 (nA_at (by omega) (by omega))) (by decide) (by omega) (by omega) (nA_P (by omega) (by omega)) ?_
        refine Z_iload_n (n := 39) dX3_gives_38 rfl rfl ?_
        refine Z_iload_n (n := 40) dX3_gives_39 rfl rfl ?_
        refine Z_callVi (n := 43) [_, _] _ dX3_gives_40 rfl cwX3_94 rfl rfl (by first | rfl | exact nS0 (nA_at (by omega) (by omega))) (Nat.le_of_ble_eq_true rfl) (by refine ⟨?_, ?_, ?_, ?_⟩ <;> exact Nat.le_of_ble_eq_true rfl) (fun a h => by unfold kGv at h; unfold kOf nA; omega) (zX0_outputValue  (by exact nA_at (by omega) (by omega)) (by exact cI_net hc (nA_at (by omega) (by omega))) (by omega) (by omega)) ?_
        intro x40 M40 J40 z40 f40 q40
        obtain ⟨e40_1, h40⟩ := q40
        replace e40_1 := e40_1.symm; subst e40_1
        refine Z_iret dX3_gives_43 rfl ?_
        exact rfl
      · refine Z_bipush (n := 31) dX3_gives_29 rfl (by decide) (by decide) ?_
        refine Z_iret dX3_gives_31 rfl ?_
        exact rfl
    · refine Z_iconst (n := 21) dX3_gives_20 rfl (by decide) ?_
      refine Z_iret dX3_gives_21 rfl ?_
      exact rfl
set_option maxRecDepth 20000 in
theorem zX3_room_h {G : tl_G} {M : zM} {J : zJ} {n : Int} (hc : cI M) (hb : CB M) : ZN G yX3_room mX3_room 12 kColl [vR 0, vI n] F1 M J (qI (fun x M' J' => J' = J ∧ cI M' ∧ (((n < 0 ∨ 250 < n) ∧ x = -2 ∧ M' = M) ∨ (0 ≤ n ∧ n ≤ 250 ∧ rmQ M n x M' ∧ hkr M M')))) := by
  refine ZN_of (L := [_, _]) (by decide) rfl rfl (Nat.le_of_ble_eq_true rfl) rfl (fun hav => ?_)
  refine Z_iload_n (n := 1) dX3_room_0 rfl rfl ?_
  refine Z_if_lt (n := 4) (t := 11) dX3_room_1 rfl (by decide) (fun c1 => ?_) (fun c1 => ?_)
  · refine Z_bipush (n := 13) dX3_room_11 rfl (by decide) (by decide) ?_
    refine Z_iret dX3_room_13 rfl ?_
    exact ⟨rfl, hc, Or.inl ⟨by omega, rfl, rfl⟩⟩
  · refine Z_iload_n (n := 5) dX3_room_4 rfl rfl ?_
    refine Z_sipush (n := 8) dX3_room_5 rfl (by decide) (by decide) ?_
    refine Z_icmp_le (n := 11) (t := 14) dX3_room_8 rfl (by decide) (fun c8 => ?_) (fun c8 => ?_)
    · refine Z_aload_n (n := 15) dX3_room_14 rfl rfl ?_
      refine Z_callVi (n := 18) [] _ dX3_room_15 rfl cwX3_117 rfl rfl (by first | rfl | exact nS0 (nA_at (by omega) (by omega))) (Nat.le_of_ble_eq_true rfl) (by refine ⟨?_, ?_, ?_, ?_⟩ <;> exact Nat.le_of_ble_eq_true rfl) (fun _ h => h) (zX3_inUse_f  (by exact hb)) ?_
      intro x15 M15 J15 z15 f15 q15
      obtain ⟨e15_1, pi15, b15, cn15, hq15⟩ := q15
      replace e15_1 := e15_1.symm; subst e15_1
      refine Z_iload_n (n := 19) dX3_room_18 rfl rfl ?_
      refine Z_icmp_le (n := 22) (t := 25) dX3_room_19 rfl (by decide) (fun c19 => ?_) (fun c19 => ?_)
      · refine Z_aload_n (n := 26) dX3_room_25 rfl rfl ?_
        refine Z_getO (n := 29) dX3_room_26 rfl ffX3_25 (by first | rfl | exact nS0 (nA_at (by omega) (by omega))) (by first | rfl | exact nS0 (nA_at (by omega) (by omega))) ?_
        refine Z_iload_n (n := 30) dX3_room_29 rfl rfl ?_
        refine Z_callVi (n := 33) [_] _ dX3_room_30 rfl cwX3_120 rfl rfl (by first | rfl | exact nS0 (nA_at (by omega) (by omega))) (Nat.le_of_ble_eq_true rfl) (by refine ⟨?_, ?_, ?_, ?_⟩ <;> exact Nat.le_of_ble_eq_true rfl) (fun _ h => h) (zX2_changeLimit  (by omega) (by omega) (by decide)) ?_
        intro x30 M30 J30 z30 f30 q30
        obtain ⟨e30_1, h30, e30_2⟩ := q30
        replace e30_1 := e30_1.symm; subst e30_1
        replace e30_2 := e30_2.symm; subst e30_2
        refine Z_fr (fun frR => ?_)
        refine Z_iret dX3_room_33 rfl ?_
        obtain ⟨⟨⟨S', h1', h2'⟩, hno', ng'⟩, k12, kd⟩ := hq15
        have hrt : rt (uz M15 5 8 n) = rt M15 := rt_cg (uz_o (by decide)) (uz_o (by decide)) (uz_o (by decide)) (by rw [uz_oo (by decide)])
        have hl : LBc (uz M15 5 8 n) = LBc M15 := LBc_cg (uz_o (by decide)) (uz_o (by decide)) (uz_o (by decide)) hrt
        have hrt0 : rt M15 = rt M := rt_cg k12 (f15 13 (by decide)).1 (f15 15 (by decide)).1 (congrFun (f15 0 (by decide)).1 7)
        have hl0 : LBc M15 = LBc M := LBc_cg (f15 6 (by decide)).1 (f15 7 (by decide)).1 (f15 8 (by decide)).1 hrt0
        have hno2 : ¬ over (LBc (uz M15 5 8 n)) (uz M15 5 8 n 5 8) := by
          rw [hl, hl0, uz_s]
          intro ho
          have := cnt_over (fun _ q => q) cn15 ho
          omega
        exact ⟨rfl, cI_mk hc (fun a ha => frR a (by unfold kPub at ha; unfold kColl; omega)) (plo_pI (plo_58 h1')) (ordOK_fr hc.2.1 (by rw [uz_o (by decide)]; exact (f15 4 (by decide)).1)), Or.inr ⟨by omega, by omega, ⟨x15, cn15, Or.inr ⟨by omega, h30.trans b15, uz_s⟩⟩, ⟨⟨S', plo_58 h1', fun z hz => h2' z (by rw [← hrt]; exact hz)⟩, hno2, by rw [uz_o (by decide)]; exact ng'.1, by rw [uz_oo (by decide)]; exact ng'.2⟩, (uz_o (by decide)).trans k12, (den_cg (uz_o (by decide)) (uz_o (by decide)) (uz_o (by decide))).trans kd⟩⟩
      · refine Z_bipush (n := 24) dX3_room_22 rfl (by decide) (by decide) ?_
        refine Z_fr (fun frR => ?_)
        refine Z_iret dX3_room_24 rfl ?_
        exact ⟨rfl, cI_mk hc (fun a ha => frR a (by unfold kPub at ha; unfold kColl; omega)) pi15 (ordOK_fr hc.2.1 (f15 4 (by decide)).1), Or.inr ⟨by omega, by omega, ⟨x15, cn15, Or.inl ⟨by omega, rfl, b15⟩⟩, hq15⟩⟩
    · refine Z_bipush (n := 13) dX3_room_11 rfl (by decide) (by decide) ?_
      refine Z_iret dX3_room_13 rfl ?_
      exact ⟨rfl, hc, Or.inl ⟨by omega, rfl, rfl⟩⟩
