/-! ===== least: both sides ===== -/
set_option maxRecDepth 20000 in
theorem zX2_leastFor_f {G : tl_G} {M : zM} {J : zJ} {S : Int → Prop} {n s : Int} (hp : pst M S) (hn : okN S n) (hs : s = 0 ∨ s = 1) (ho : ∀ k : Int, 0 ≤ k → k < 8 → 0 ≤ M 3 k ∧ M 3 k < 8) : ZN G yX2_leastFor mX2_leastFor 1 kAll [vR 5, vI n, vI s, vR 2] F1 M J (qI (fun x M' J' => M' = M ∧ J' = J ∧ lfQ (den M n) (M 3) s x)) := by
  refine ZN_of (L := [_, _, _, _, _, _, _]) (by decide) rfl rfl (Nat.le_of_ble_eq_true rfl) rfl (fun hav => ?_)
  have hin := okN_in hp hn
  refine Z_iload_n (n := 1) dX2_leastFor_0 rfl rfl ?_
  refine Z_istore (L' := [_, _, _, _, _, _, _]) (n := 3) dX2_leastFor_1 rfl (by decide) rfl rfl ?_
  refine Z_iconst (n := 4) dX2_leastFor_3 rfl (by decide) ?_
  refine Z_istore (L' := [_, _, _, _, _, _, _]) (n := 6) dX2_leastFor_4 rfl (by decide) rfl rfl ?_
  refine Z_iconst (n := 7) dX2_leastFor_6 rfl (by decide) ?_
  refine Z_istore (L' := [_, _, _, _, _, _, _]) (n := 9) dX2_leastFor_7 rfl (by decide) rfl rfl ?_
  have lp9 : ∀ (N9 : Nat) (c a i : Int) , ((8 - i).toNat) < N9 → (0 ≤ c) → (c ≤ 251) → (0 ≤ i) → (i ≤ 8) → (okN S c) → (i ≤ M 6 c) → (lsE (den M n) (M 3) s M c a) → (2 ≤ c ∨ c = s ∨ c = n) → TZ G mX2_leastFor (tl_rm 1 0 0) 0 0 kAll M J 9 [some (vR 5), some (vI n), some (vI s), some (vR 2), some (vI c), some (vI a), some (vI i)] [] F1 M J (ZM G (zPost G kAll F1 M J (qI (fun x M' J' => M' = M ∧ J' = J ∧ lfQ (den M n) (M 3) s x))) 0 0) := by
    intro N9
    induction N9 with
    | zero => intro c a i  hN; omega
    | succ N9 ih9 =>
      intro c a i  hN9 i9_0 i9_1 i9_2 i9_3 i9_4 i9_5 i9_6 i9_7
      refine Z_iload (n := 11) dX2_leastFor_9 rfl rfl ?_
      refine Z_bipush (n := 13) dX2_leastFor_11 rfl (by decide) (by decide) ?_
      refine Z_icmp_ge (n := 16) (t := 89) dX2_leastFor_13 rfl (by decide) (fun c13 => ?_) (fun c13 => ?_)
      · refine Z_iload (n := 91) dX2_leastFor_89 rfl rfl ?_
        refine Z_iload_n (n := 92) dX2_leastFor_91 rfl rfl ?_
        refine Z_icmp_ne (n := 95) (t := 100) dX2_leastFor_92 rfl (by decide) (fun c92 => ?_) (fun c92 => ?_)
        · refine Z_bipush (n := 102) dX2_leastFor_100 rfl (by decide) (by decide) ?_
          refine Z_iret dX2_leastFor_102 rfl ?_
          have tc : c = 0 ∨ c = 1 := by
            by_cases q : c < 2
            · omega
            · exact pst_t hp i9_4 (by omega)
          refine ⟨rfl, rfl, ?_⟩
          first
            | exact ls_end hp tc c92 i9_6
            | (have ec : n = c := by omega
               rw [ec]
               exact ls_no tc c92)
        · refine Z_iload (n := 97) dX2_leastFor_95 rfl rfl ?_
          refine Z_goto (t := 102) dX2_leastFor_97 (by decide) ?_
          refine Z_iret dX2_leastFor_102 rfl ?_
          have tc : c = 0 ∨ c = 1 := by
            by_cases q : c < 2
            · omega
            · exact pst_t hp i9_4 (by omega)
          refine ⟨rfl, rfl, ?_⟩
          first
            | exact ls_end hp tc c92 i9_6
            | (have ec : n = c := by omega
               rw [ec]
               exact ls_no tc c92)
      · refine Z_iload (n := 18) dX2_leastFor_16 rfl rfl ?_
        refine Z_iconst (n := 19) dX2_leastFor_18 rfl (by decide) ?_
        refine Z_icmp_lt (n := 22) (t := 89) dX2_leastFor_19 rfl (by decide) (fun c19 => ?_) (fun c19 => ?_)
        · refine Z_iload (n := 91) dX2_leastFor_89 rfl rfl ?_
          refine Z_iload_n (n := 92) dX2_leastFor_91 rfl rfl ?_
          refine Z_icmp_ne (n := 95) (t := 100) dX2_leastFor_92 rfl (by decide) (fun c92 => ?_) (fun c92 => ?_)
          · refine Z_bipush (n := 102) dX2_leastFor_100 rfl (by decide) (by decide) ?_
            refine Z_iret dX2_leastFor_102 rfl ?_
            have tc : c = 0 ∨ c = 1 := by
              by_cases q : c < 2
              · omega
              · exact pst_t hp i9_4 (by omega)
            refine ⟨rfl, rfl, ?_⟩
            first
              | exact ls_end hp tc c92 i9_6
              | (have ec : n = c := by omega
                 rw [ec]
                 exact ls_no tc c92)
          · refine Z_iload (n := 97) dX2_leastFor_95 rfl rfl ?_
            refine Z_goto (t := 102) dX2_leastFor_97 (by decide) ?_
            refine Z_iret dX2_leastFor_102 rfl ?_
            have tc : c = 0 ∨ c = 1 := by
              by_cases q : c < 2
              · omega
              · exact pst_t hp i9_4 (by omega)
            refine ⟨rfl, rfl, ?_⟩
            first
              | exact ls_end hp tc c92 i9_6
              | (have ec : n = c := by omega
                 rw [ec]
                 exact ls_no tc c92)
        · have sc := okN_2 hp i9_4 (by omega)
          have pc := hp.2.1 c sc
          have pc1 := pc.2.1
          have pcn := pc.2.2.1
          have pcl := pc.2.2.2.1.2
          have pch := pc.2.2.2.2.2
          refine Z_aload_n (n := 23) dX2_leastFor_22 rfl rfl ?_
          refine Z_getA (n := 26) dX2_leastFor_23 rfl ffX2_15 rfl rfl ?_
          refine Z_iload (n := 28) dX2_leastFor_26 rfl rfl ?_
          refine Z_iald (n := 29) dX2_leastFor_28 rfl rfl rfl (by first | decide | assumption) (by omega) (by omega) (fun r28 s28 => ?_)
          refine Z_iconst (n := 30) dX2_leastFor_29 rfl (by decide) ?_
          refine Z_icmp_ge (n := 33) (t := 44) dX2_leastFor_30 rfl (by decide) (fun c30 => ?_) (fun c30 => ?_)
          · refine Z_aload_n (n := 45) dX2_leastFor_44 rfl rfl ?_
            refine Z_getA (n := 48) dX2_leastFor_45 rfl ffX2_15 rfl rfl ?_
            refine Z_iload (n := 50) dX2_leastFor_48 rfl rfl ?_
            refine Z_iald (n := 51) dX2_leastFor_50 rfl rfl rfl (by first | decide | assumption) (by omega) (by omega) (fun r50 s50 => ?_)
            have nx4 : okN S (M 7 c) := pc.2.2.2.1.1
            have nx5 : i + 1 ≤ M 6 (M 7 c) := by omega
            have nx6 : lsE (den M n) (M 3) s M (M 7 c) a := ls_low hp sc ho i9_6
            have nx7 : 2 ≤ M 7 c ∨ M 7 c = s ∨ M 7 c = n := by omega
            refine Z_istore (L' := [_, _, _, _, _, _, _]) (n := 53) dX2_leastFor_51 rfl (by decide) rfl rfl ?_
            refine Z_goto (t := 83) dX2_leastFor_53 (by decide) ?_
            refine Z_iinc (L' := [_, _, _, _, _, _, _]) (n := 86) dX2_leastFor_83 rfl rfl (by decide) rfl rfl (by omega) rfl ?_
            refine Z_goto (t := 9) dX2_leastFor_86 (by decide) ?_
            refine Z_loc (L' := [some _, some _, some _, some _, some _, some _, some _]) (lsub_same (lsub_same (lsub_same (lsub_same (lsub_same (lsub_same (lsub_same lsub_nil))))))) ?_
            exact ih9 _ _ _  (by omega) (by first | assumption | omega | decide) (by first | assumption | omega | decide) (by first | assumption | omega | decide) (by first | assumption | omega | decide) (by exact nx4) (by exact nx5) (by exact nx6) (by exact nx7)
          · refine Z_aload_n (n := 34) dX2_leastFor_33 rfl rfl ?_
            refine Z_getA (n := 37) dX2_leastFor_34 rfl ffX2_15 rfl rfl ?_
            refine Z_iload (n := 39) dX2_leastFor_37 rfl rfl ?_
            refine Z_iald (n := 40) dX2_leastFor_39 rfl rfl rfl (by first | decide | assumption) (by omega) (by omega) (fun r39 s39 => ?_)
            refine Z_iload_n (n := 41) dX2_leastFor_40 rfl rfl ?_
            refine Z_icmp_ne (n := 44) (t := 56) dX2_leastFor_41 rfl (by decide) (fun c41 => ?_) (fun c41 => ?_)
            · refine Z_iload (n := 58) dX2_leastFor_56 rfl rfl ?_
              refine Z_iconst (n := 59) dX2_leastFor_58 rfl (by decide) ?_
              refine Z_aload_n (n := 60) dX2_leastFor_59 rfl rfl ?_
              refine Z_aload_n (n := 61) dX2_leastFor_60 rfl rfl ?_
              refine Z_getA (n := 64) dX2_leastFor_61 rfl ffX2_11 rfl rfl ?_
              refine Z_iload (n := 66) dX2_leastFor_64 rfl rfl ?_
              refine Z_iald (n := 67) dX2_leastFor_66 rfl rfl rfl (by first | decide | assumption) (by omega) (by omega) (fun r66 s66 => ?_)
              rw [if_neg (by omega)] at s66
              refine Z_callVi (n := 70) [_] _ dX2_leastFor_67 rfl cwX2_95 rfl rfl rfl (Nat.le_of_ble_eq_true rfl) (by refine ⟨?_, ?_, ?_, ?_⟩ <;> exact Nat.le_of_ble_eq_true rfl) (fun _ h => h) (zX1_variableAt  (by first | assumption | omega | decide) (by first | assumption | omega | decide)) ?_
              intro x67 M67 J67 z67 f67 q67
              obtain ⟨e67_1, e67_2, h67⟩ := q67
              replace e67_1 := e67_1.symm; subst e67_1
              replace e67_2 := e67_2.symm; subst e67_2
              refine Z_ishl (n := 71) dX2_leastFor_70 rfl ?_
              refine Z_ior (n := 72) dX2_leastFor_71 rfl ?_
              refine Z_istore (L' := [_, _, _, _, _, _, _]) (n := 74) dX2_leastFor_72 rfl (by decide) rfl rfl ?_
              refine Z_aload_n (n := 75) dX2_leastFor_74 rfl rfl ?_
              refine Z_getA (n := 78) dX2_leastFor_75 rfl ffX2_18 rfl rfl ?_
              refine Z_iload (n := 80) dX2_leastFor_78 rfl rfl ?_
              refine Z_iald (n := 81) dX2_leastFor_80 rfl rfl rfl (by first | decide | assumption) (by omega) (by omega) (fun r80 s80 => ?_)
              have nx4 : okN S (M 8 c) := pc.2.2.2.2.1
              have nx5 : i + 1 ≤ M 6 (M 8 c) := by omega
              have nx6 : lsE (den M n) (M 3) s M (M 8 c) (zor a (zshl 1 x67)) := by
                rw [h67]
                exact ls_high hp hn sc ho (by omega) (by omega) i9_6
              have nx7 : 2 ≤ M 8 c ∨ M 8 c = s ∨ M 8 c = n := by omega
              refine Z_istore (L' := [_, _, _, _, _, _, _]) (n := 83) dX2_leastFor_81 rfl (by decide) rfl rfl ?_
              refine Z_iinc (L' := [_, _, _, _, _, _, _]) (n := 86) dX2_leastFor_83 rfl rfl (by decide) rfl rfl (by omega) rfl ?_
              refine Z_goto (t := 9) dX2_leastFor_86 (by decide) ?_
              refine Z_loc (L' := [some _, some _, some _, some _, some _, some _, some _]) (lsub_same (lsub_same (lsub_same (lsub_same (lsub_same (lsub_same (lsub_same lsub_nil))))))) ?_
              exact ih9 _ _ _  (by omega) (by first | assumption | omega | decide) (by first | assumption | omega | decide) (by first | assumption | omega | decide) (by first | assumption | omega | decide) (by exact nx4) (by exact nx5) (by exact nx6) (by exact nx7)
            · refine Z_aload_n (n := 45) dX2_leastFor_44 rfl rfl ?_
              refine Z_getA (n := 48) dX2_leastFor_45 rfl ffX2_15 rfl rfl ?_
              refine Z_iload (n := 50) dX2_leastFor_48 rfl rfl ?_
              refine Z_iald (n := 51) dX2_leastFor_50 rfl rfl rfl (by first | decide | assumption) (by omega) (by omega) (fun r50 s50 => ?_)
              have nx4 : okN S (M 7 c) := pc.2.2.2.1.1
              have nx5 : i + 1 ≤ M 6 (M 7 c) := by omega
              have nx6 : lsE (den M n) (M 3) s M (M 7 c) a := ls_low hp sc ho i9_6
              have nx7 : 2 ≤ M 7 c ∨ M 7 c = s ∨ M 7 c = n := by omega
              refine Z_istore (L' := [_, _, _, _, _, _, _]) (n := 53) dX2_leastFor_51 rfl (by decide) rfl rfl ?_
              refine Z_goto (t := 83) dX2_leastFor_53 (by decide) ?_
              refine Z_iinc (L' := [_, _, _, _, _, _, _]) (n := 86) dX2_leastFor_83 rfl rfl (by decide) rfl rfl (by omega) rfl ?_
              refine Z_goto (t := 9) dX2_leastFor_86 (by decide) ?_
              refine Z_loc (L' := [some _, some _, some _, some _, some _, some _, some _]) (lsub_same (lsub_same (lsub_same (lsub_same (lsub_same (lsub_same (lsub_same lsub_nil))))))) ?_
              exact ih9 _ _ _  (by omega) (by first | assumption | omega | decide) (by first | assumption | omega | decide) (by first | assumption | omega | decide) (by first | assumption | omega | decide) (by exact nx4) (by exact nx5) (by exact nx6) (by exact nx7)
  refine Z_loc (L' := [some _, some _, some _, some _, some _, some _, some _]) (lsub_same (lsub_same (lsub_same (lsub_same (lsub_same (lsub_same (lsub_same lsub_nil))))))) ?_
  exact lp9 _ _ _ _  (Nat.lt_succ_self _) (by first | assumption | omega | decide) (by first | assumption | omega | decide) (by first | assumption | omega | decide) (by first | assumption | omega | decide) (by exact hn) (by exact (pst_pl hp hn).1) (by exact ls_0 hp hn ho) (by first | assumption | omega | decide)
set_option maxRecDepth 20000 in
theorem zX3_least_f {G : tl_G} {M : zM} {J : zJ} {f y : Int} (hb : CB M) (hI : oIn (M 3) (M 4)) : ZN G yX3_least mX3_least 2 kAll [vR 0, vI f, vI y] F1 M J (qI (fun x M' J' => M' = M ∧ J' = J ∧ (((f < 0 ∨ 12 ≤ f ∨ M 12 f = -1) ∧ x = -1) ∨ (¬ (f < 0 ∨ 12 ≤ f ∨ M 12 f = -1) ∧ lfQ (den M (M 12 f)) (M 3) (if y = 0 then 0 else 1) x)))) := by
  refine ZN_of (L := [_, _, _]) (by decide) rfl rfl (Nat.le_of_ble_eq_true rfl) rfl (fun hav => ?_)
  obtain ⟨⟨Sb, hSb, hRb⟩, -⟩ := hb
  refine Z_aload_n (n := 1) dX3_least_0 rfl rfl ?_
  refine Z_iload_n (n := 2) dX3_least_1 rfl rfl ?_
  refine Z_callVi (n := 5) [_] _ dX3_least_2 rfl cwX3_139 rfl rfl (by first | rfl | exact nS0 (nA_at (by omega) (by omega))) (Nat.le_of_ble_eq_true rfl) (by refine ⟨?_, ?_, ?_, ?_⟩ <;> exact Nat.le_of_ble_eq_true rfl) (fun _ h => h) (zX3_hasFunction  ) ?_
  intro x2 M2 J2 z2 f2 q2
  obtain ⟨e2_1, e2_2, h2⟩ := q2
  replace e2_1 := e2_1.symm; subst e2_1
  replace e2_2 := e2_2.symm; subst e2_2
  refine Z_if_ne (n := 8) (t := 10) dX3_least_5 rfl (by decide) (fun c5 => ?_) (fun c5 => ?_)
  · have okf : okN Sb (M 12 f) := (hRb _ (Or.inl ⟨f, ⟨by omega, by omega⟩, rfl⟩)).resolve_left (by omega)
    have ho3 : ∀ k : Int, 0 ≤ k → k < 8 → 0 ≤ M 3 k ∧ M 3 k < 8 := fun k a b => ⟨(hI k a b).2.1, (hI k a b).2.2.1⟩
    refine Z_aload_n (n := 11) dX3_least_10 rfl rfl ?_
    refine Z_getO (n := 14) dX3_least_11 rfl ffX3_25 (by first | rfl | exact nS0 (nA_at (by omega) (by omega))) (by first | rfl | exact nS0 (nA_at (by omega) (by omega))) ?_
    refine Z_aload_n (n := 15) dX3_least_14 rfl rfl ?_
    refine Z_getA (n := 18) dX3_least_15 rfl ffX3_29 (by first | rfl | exact nS0 (nA_at (by omega) (by omega))) (by first | rfl | exact nS0 (nA_at (by omega) (by omega))) ?_
    refine Z_iload_n (n := 19) dX3_least_18 rfl rfl ?_
    refine Z_iald (n := 20) dX3_least_19 rfl (by first | rfl | exact nS0 (nA_at (by omega) (by omega))) rfl (by first | decide | assumption) (by omega) (by omega) (fun r19 s19 => ?_)
    refine Z_iload_n (n := 21) dX3_least_20 rfl rfl ?_
    refine Z_if_eq (n := 24) (t := 28) dX3_least_21 rfl (by decide) (fun c21 => ?_) (fun c21 => ?_)
    · refine Z_iconst (n := 29) dX3_least_28 rfl (by decide) ?_
      refine Z_aload_n (n := 30) dX3_least_29 rfl rfl ?_
      refine Z_getO (n := 33) dX3_least_30 rfl ffX3_18 (by first | rfl | exact nS0 (nA_at (by omega) (by omega))) (by first | rfl | exact nS0 (nA_at (by omega) (by omega))) ?_
      refine Z_callVi (n := 36) [_, _, _] _ dX3_least_33 rfl cwX3_175 rfl rfl (by first | rfl | exact nS0 (nA_at (by omega) (by omega))) (Nat.le_of_ble_eq_true rfl) (by refine ⟨?_, ?_, ?_, ?_⟩ <;> exact Nat.le_of_ble_eq_true rfl) (fun _ h => h) (zX2_leastFor_f  (by exact hSb.1) (by exact okf) (by first | exact Or.inr rfl | exact Or.inl rfl) (by exact ho3)) ?_
      intro x33 M33 J33 z33 f33 q33
      obtain ⟨e33_1, e33_2, lf33⟩ := q33
      replace e33_1 := e33_1.symm; subst e33_1
      replace e33_2 := e33_2.symm; subst e33_2
      refine Z_iret dX3_least_36 rfl ?_
      refine ⟨rfl, rfl, Or.inr ⟨by omega, ?_⟩⟩
      first
        | (rw [if_pos (show y = 0 by omega)]; exact lf33)
        | (rw [if_neg (show ¬ y = 0 by omega)]; exact lf33)
    · refine Z_iconst (n := 25) dX3_least_24 rfl (by decide) ?_
      refine Z_goto (t := 29) dX3_least_25 (by decide) ?_
      refine Z_aload_n (n := 30) dX3_least_29 rfl rfl ?_
      refine Z_getO (n := 33) dX3_least_30 rfl ffX3_18 (by first | rfl | exact nS0 (nA_at (by omega) (by omega))) (by first | rfl | exact nS0 (nA_at (by omega) (by omega))) ?_
      refine Z_callVi (n := 36) [_, _, _] _ dX3_least_33 rfl cwX3_175 rfl rfl (by first | rfl | exact nS0 (nA_at (by omega) (by omega))) (Nat.le_of_ble_eq_true rfl) (by refine ⟨?_, ?_, ?_, ?_⟩ <;> exact Nat.le_of_ble_eq_true rfl) (fun _ h => h) (zX2_leastFor_f  (by exact hSb.1) (by exact okf) (by first | exact Or.inr rfl | exact Or.inl rfl) (by exact ho3)) ?_
      intro x33 M33 J33 z33 f33 q33
      obtain ⟨e33_1, e33_2, lf33⟩ := q33
      replace e33_1 := e33_1.symm; subst e33_1
      replace e33_2 := e33_2.symm; subst e33_2
      refine Z_iret dX3_least_36 rfl ?_
      refine ⟨rfl, rfl, Or.inr ⟨by omega, ?_⟩⟩
      first
        | (rw [if_pos (show y = 0 by omega)]; exact lf33)
        | (rw [if_neg (show ¬ y = 0 by omega)]; exact lf33)
  · refine Z_iconst (n := 9) dX3_least_8 rfl (by decide) ?_
    refine Z_iret dX3_least_9 rfl ?_
    exact ⟨rfl, rfl, Or.inl ⟨by omega, rfl⟩⟩
set_option maxRecDepth 20000 in
theorem zX4_least_g {G : tl_G} {M : zM} {J : zJ} {f y : Int}  : ZN G yX4_least mX4_least 3 kAll [vR 31, vI f, vI y] F1 M J (qI (fun x M' J' => M' = M ∧ J' = J ∧ (((f < 0 ∨ 12 ≤ f ∨ M 43 f = 0) ∧ x = -1) ∨ (¬ (f < 0 ∨ 12 ≤ f ∨ M 43 f = 0) ∧ lgQ (bitF J f) (M 38) y x)))) := by
  refine ZN_of (L := [_, _, _, _]) (by decide) rfl rfl (Nat.le_of_ble_eq_true rfl) rfl (fun hav => ?_)
  refine Z_aload_n (n := 1) dX4_least_0 rfl rfl ?_
  refine Z_iload_n (n := 2) dX4_least_1 rfl rfl ?_
  refine Z_callVi (n := 5) [_] _ dX4_least_2 rfl cwX4_223 rfl rfl rfl (Nat.le_of_ble_eq_true rfl) (by refine ⟨?_, ?_, ?_, ?_⟩ <;> exact Nat.le_of_ble_eq_true rfl) (fun _ h => h) (zX4_isFunction  ) ?_
  intro x2 M2 J2 z2 f2 q2
  obtain ⟨e2_1, e2_2, h2⟩ := q2
  replace e2_1 := e2_1.symm; subst e2_1
  replace e2_2 := e2_2.symm; subst e2_2
  refine Z_if_ne (n := 8) (t := 10) dX4_least_5 rfl (by decide) (fun c5 => ?_) (fun c5 => ?_)
  · refine Z_aload_n (n := 11) dX4_least_10 rfl rfl ?_
    refine Z_iload_n (n := 12) dX4_least_11 rfl rfl ?_
    refine Z_iload_n (n := 13) dX4_least_12 rfl rfl ?_
    refine Z_callVi (n := 16) [_, _] _ dX4_least_13 rfl cwX4_246 rfl rfl rfl (Nat.le_of_ble_eq_true rfl) (by refine ⟨?_, ?_, ?_, ?_⟩ <;> exact Nat.le_of_ble_eq_true rfl) (fun _ h => h) (zX4_leastOf  (by first | assumption | omega | decide) (by first | assumption | omega | decide)) ?_
    intro x13 M13 J13 z13 f13 q13
    obtain ⟨e13_1, e13_2, h13⟩ := q13
    replace e13_1 := e13_1.symm; subst e13_1
    replace e13_2 := e13_2.symm; subst e13_2
    refine Z_istore_n (L' := [_, _, _, _]) (n := 17) dX4_least_16 rfl (by decide) rfl rfl ?_
    refine Z_iload_n (n := 18) dX4_least_17 rfl rfl ?_
    refine Z_if_ge (n := 21) (t := 26) dX4_least_18 rfl (by decide) (fun c18 => ?_) (fun c18 => ?_)
    · refine Z_aload_n (n := 27) dX4_least_26 rfl rfl ?_
      refine Z_iload_n (n := 28) dX4_least_27 rfl rfl ?_
      refine Z_callVi (n := 31) [_] _ dX4_least_28 rfl cwX4_250 rfl rfl rfl (Nat.le_of_ble_eq_true rfl) (by refine ⟨?_, ?_, ?_, ?_⟩ <;> exact Nat.le_of_ble_eq_true rfl) (fun _ h => h) (zX4_assignmentAt  ) ?_
      intro x28 M28 J28 z28 f28 q28
      obtain ⟨e28_1, e28_2, h28⟩ := q28
      replace e28_1 := e28_1.symm; subst e28_1
      replace e28_2 := e28_2.symm; subst e28_2
      refine Z_iret dX4_least_31 rfl ?_
      refine ⟨rfl, rfl, Or.inr ⟨by omega, ?_⟩⟩
      rcases h13 with ⟨a, b⟩ | ⟨a, b, c, d⟩
      · first
          | (exfalso; omega)
          | exact Or.inl ⟨rfl, b⟩
      · first
          | (exfalso; omega)
          | exact Or.inr ⟨x13, ⟨a, b⟩, c, d, h28⟩
    · refine Z_bipush (n := 23) dX4_least_21 rfl (by decide) (by decide) ?_
      refine Z_goto (t := 31) dX4_least_23 (by decide) ?_
      refine Z_iret dX4_least_31 rfl ?_
      refine ⟨rfl, rfl, Or.inr ⟨by omega, ?_⟩⟩
      rcases h13 with ⟨a, b⟩ | ⟨a, b, c, d⟩
      · first
          | (exfalso; omega)
          | exact Or.inl ⟨rfl, b⟩
      · first
          | (exfalso; omega)
          | exact Or.inr ⟨x13, ⟨a, b⟩, c, d, h28⟩
  · refine Z_iconst (n := 9) dX4_least_8 rfl (by decide) ?_
    refine Z_iret dX4_least_9 rfl ?_
    exact ⟨rfl, rfl, Or.inl ⟨by omega, rfl⟩⟩
theorem sim_least {M M1 : zM} {J : zJ} {x y f z w : Int} (h : LSy M J) (fr : ∀ a : Nat, 31 ≤ a → M1 a = M a) (hw : (if z = 0 then 0 else 1) = w) (hc : ((f < 0 ∨ 12 ≤ f ∨ M 12 f = -1) ∧ x = -1) ∨ (¬ (f < 0 ∨ 12 ≤ f ∨ M 12 f = -1) ∧ lfQ (den M (M 12 f)) (M 3) (if z = 0 then 0 else 1) x)) (hq : ((f < 0 ∨ 12 ≤ f ∨ M1 43 f = 0) ∧ y = -1) ∨ (¬ (f < 0 ∨ 12 ≤ f ∨ M1 43 f = 0) ∧ lgQ (bitF J f) (M1 38) w y)) : x = y := by
  have kf := ls_k h fr f
  rcases hc with ⟨a, b⟩ | ⟨a, b⟩
  · rcases hq with ⟨a', b'⟩ | ⟨a', b'⟩
    · exact b.trans b'.symm
    · exfalso; omega
  · rcases hq with ⟨a', b'⟩ | ⟨a', b'⟩
    · exfalso; omega
    · rw [ls_d h (f := f) (by omega) (by omega) (by omega), hw] at b
      rw [fr 38 (by decide)] at b'
      exact lf_lg (fun j j0 j1 => (h.2.2.2.1.1 j j0 j1).1.symm) b b'
