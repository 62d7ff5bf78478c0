/-! ===== Pool: making and reading ===== -/
def knF (t o s k : Int) : Int := if 2 ≤ o then t else zor (zand (if o = 1 then zshr t s else t) k) (zshl (zand (if o = 1 then zshr t s else t) k) s)
def mkz (M : zM) (n p l h : Int) : zM := uz (uz (uz (uz M 5 6 (M 10 n)) 6 n p) 7 n l) 8 n h
theorem mkz_57 {M : zM} {n p l h : Int} : mkz M n p l h 5 7 = M 5 7 := by
  unfold mkz
  rw [uz_oo (by decide), uz_oo (by decide), uz_oo (by decide), uz_n (by decide)]
theorem mkz_7 {M : zM} {n p l h : Int} : mkz M n p l h 7 n = l := by
  unfold mkz
  rw [uz_oo (by decide), uz_s]
theorem mkz_8 {M : zM} {n p l h : Int} : mkz M n p l h 8 n = h := uz_s
theorem pI_mk {M : zM} {n p l h : Int} (hI : pI M) (hn : 2 ≤ n) (hn2 : n < 252) : pI (mkz M n p l h) := by
  obtain ⟨h1, h2, h3, h4, h5⟩ := hI
  unfold pI mkz
  refine ⟨?_, ?_, ?_, fun k k0 k1 => ?_, fun r r0 r1 => ?_⟩
  · rw [uz_oo (by decide), uz_oo (by decide), uz_n (by omega), uz_oo (by decide)]; exact h1
  · rw [uz_oo (by decide), uz_oo (by decide), uz_n (by omega), uz_oo (by decide)]; exact h2
  · rw [uz_oo (by decide), uz_oo (by decide), uz_oo (by decide), uz_s]; exact h4 n hn hn2
  · rw [uz_oo (by decide), uz_oo (by decide), uz_oo (by decide), uz_oo (by decide)]; exact h4 k k0 k1
  · rw [uz_oo (by decide), uz_oo (by decide), uz_oo (by decide), uz_oo (by decide)]; exact h5 r r0 r1
set_option maxRecDepth 20000 in
theorem zX2_knowing {G : tl_G} {M : zM} {J : zJ} {t o s k : Int}  : ZN G yX2_knowing mX2_knowing 0 kAll [vI t, vI o, vI s, vI k] F1 M J (qI (fun x M' J' => M' = M ∧ J' = J ∧ x = knF t o s k)) := by
  refine ZN_of (L := [_, _, _, _, _]) (by decide) rfl rfl (Nat.le_of_ble_eq_true rfl) rfl (fun hav => ?_)
  refine Z_iload_n (n := 1) dX2_knowing_0 rfl rfl ?_
  refine Z_iconst (n := 2) dX2_knowing_1 rfl (by decide) ?_
  refine Z_icmp_lt (n := 5) (t := 7) dX2_knowing_2 rfl (by decide) (fun c2 => ?_) (fun c2 => ?_)
  · refine Z_iload_n (n := 8) dX2_knowing_7 rfl rfl ?_
    refine Z_iconst (n := 9) dX2_knowing_8 rfl (by decide) ?_
    refine Z_icmp_ne (n := 12) (t := 18) dX2_knowing_9 rfl (by decide) (fun c9 => ?_) (fun c9 => ?_)
    · refine Z_iload_n (n := 19) dX2_knowing_18 rfl rfl ?_
      refine Z_iload_n (n := 20) dX2_knowing_19 rfl rfl ?_
      refine Z_iand (n := 21) dX2_knowing_20 rfl ?_
      refine Z_istore (L' := [_, _, _, _, _]) (n := 23) dX2_knowing_21 rfl (by decide) rfl rfl ?_
      refine Z_iload (n := 25) dX2_knowing_23 rfl rfl ?_
      refine Z_iload (n := 27) dX2_knowing_25 rfl rfl ?_
      refine Z_iload_n (n := 28) dX2_knowing_27 rfl rfl ?_
      refine Z_ishl (n := 29) dX2_knowing_28 rfl ?_
      refine Z_ior (n := 30) dX2_knowing_29 rfl ?_
      refine Z_iret dX2_knowing_30 rfl ?_
      refine ⟨rfl, rfl, ?_⟩; unfold knF; rw [if_neg (by omega)]
      first | rw [if_pos (by omega)] | rw [if_neg (by omega)]
    · refine Z_iload_n (n := 13) dX2_knowing_12 rfl rfl ?_
      refine Z_iload_n (n := 14) dX2_knowing_13 rfl rfl ?_
      refine Z_ishr (n := 15) dX2_knowing_14 rfl ?_
      refine Z_goto (t := 19) dX2_knowing_15 (by decide) ?_
      refine Z_iload_n (n := 20) dX2_knowing_19 rfl rfl ?_
      refine Z_iand (n := 21) dX2_knowing_20 rfl ?_
      refine Z_istore (L' := [_, _, _, _, _]) (n := 23) dX2_knowing_21 rfl (by decide) rfl rfl ?_
      refine Z_iload (n := 25) dX2_knowing_23 rfl rfl ?_
      refine Z_iload (n := 27) dX2_knowing_25 rfl rfl ?_
      refine Z_iload_n (n := 28) dX2_knowing_27 rfl rfl ?_
      refine Z_ishl (n := 29) dX2_knowing_28 rfl ?_
      refine Z_ior (n := 30) dX2_knowing_29 rfl ?_
      refine Z_iret dX2_knowing_30 rfl ?_
      refine ⟨rfl, rfl, ?_⟩; unfold knF; rw [if_neg (by omega)]
      first | rw [if_pos (by omega)] | rw [if_neg (by omega)]
  · refine Z_iload_n (n := 6) dX2_knowing_5 rfl rfl ?_
    refine Z_iret dX2_knowing_6 rfl ?_
    refine ⟨rfl, rfl, ?_⟩; unfold knF; rw [if_pos (by omega)]
set_option maxRecDepth 20000 in
theorem zX2_lowAt {G : tl_G} {M : zM} {J : zJ} {n p : Int} (h0 : 0 ≤ n) (h1 : n ≤ 251) : ZN G yX2_lowAt mX2_lowAt 0 kAll [vR 5, vI n, vI p] F1 M J (qI (fun x M' J' => M' = M ∧ J' = J ∧ 0 ≤ x ∧ x ≤ 251 ∧ ((M 6 n = p ∧ x = M 7 n) ∨ (¬ M 6 n = p ∧ x = n)))) := by
  refine ZN_of (L := [_, _, _]) (by decide) rfl rfl (Nat.le_of_ble_eq_true rfl) rfl (fun hav => ?_)
  refine Z_aload_n (n := 1) dX2_lowAt_0 rfl rfl ?_
  refine Z_getA (n := 4) dX2_lowAt_1 rfl ffX2_11 rfl rfl ?_
  refine Z_iload_n (n := 5) dX2_lowAt_4 rfl rfl ?_
  refine Z_iald (n := 6) dX2_lowAt_5 rfl rfl rfl (by first | decide | assumption) (by omega) (by omega) (fun r5 s5 => ?_)
  refine Z_iload_n (n := 7) dX2_lowAt_6 rfl rfl ?_
  refine Z_icmp_ne (n := 10) (t := 19) dX2_lowAt_7 rfl (by decide) (fun c7 => ?_) (fun c7 => ?_)
  · refine Z_iload_n (n := 20) dX2_lowAt_19 rfl rfl ?_
    refine Z_iret dX2_lowAt_20 rfl ?_
    refine ⟨rfl, rfl, ?_⟩; omega
  · refine Z_aload_n (n := 11) dX2_lowAt_10 rfl rfl ?_
    refine Z_getA (n := 14) dX2_lowAt_11 rfl ffX2_15 rfl rfl ?_
    refine Z_iload_n (n := 15) dX2_lowAt_14 rfl rfl ?_
    refine Z_iald (n := 16) dX2_lowAt_15 rfl rfl rfl (by first | decide | assumption) (by omega) (by omega) (fun r15 s15 => ?_)
    refine Z_goto (t := 20) dX2_lowAt_16 (by decide) ?_
    refine Z_iret dX2_lowAt_20 rfl ?_
    refine ⟨rfl, rfl, ?_⟩; omega
set_option maxRecDepth 20000 in
theorem zX2_highAt {G : tl_G} {M : zM} {J : zJ} {n p : Int} (h0 : 0 ≤ n) (h1 : n ≤ 251) : ZN G yX2_highAt mX2_highAt 0 kAll [vR 5, vI n, vI p] F1 M J (qI (fun x M' J' => M' = M ∧ J' = J ∧ 0 ≤ x ∧ x ≤ 251 ∧ ((M 6 n = p ∧ x = M 8 n) ∨ (¬ M 6 n = p ∧ x = n)))) := by
  refine ZN_of (L := [_, _, _]) (by decide) rfl rfl (Nat.le_of_ble_eq_true rfl) rfl (fun hav => ?_)
  refine Z_aload_n (n := 1) dX2_highAt_0 rfl rfl ?_
  refine Z_getA (n := 4) dX2_highAt_1 rfl ffX2_11 rfl rfl ?_
  refine Z_iload_n (n := 5) dX2_highAt_4 rfl rfl ?_
  refine Z_iald (n := 6) dX2_highAt_5 rfl rfl rfl (by first | decide | assumption) (by omega) (by omega) (fun r5 s5 => ?_)
  refine Z_iload_n (n := 7) dX2_highAt_6 rfl rfl ?_
  refine Z_icmp_ne (n := 10) (t := 19) dX2_highAt_7 rfl (by decide) (fun c7 => ?_) (fun c7 => ?_)
  · refine Z_iload_n (n := 20) dX2_highAt_19 rfl rfl ?_
    refine Z_iret dX2_highAt_20 rfl ?_
    refine ⟨rfl, rfl, ?_⟩; omega
  · refine Z_aload_n (n := 11) dX2_highAt_10 rfl rfl ?_
    refine Z_getA (n := 14) dX2_highAt_11 rfl ffX2_18 rfl rfl ?_
    refine Z_iload_n (n := 15) dX2_highAt_14 rfl rfl ?_
    refine Z_iald (n := 16) dX2_highAt_15 rfl rfl rfl (by first | decide | assumption) (by omega) (by omega) (fun r15 s15 => ?_)
    refine Z_goto (t := 20) dX2_highAt_16 (by decide) ?_
    refine Z_iret dX2_highAt_20 rfl ?_
    refine ⟨rfl, rfl, ?_⟩; omega
set_option maxRecDepth 20000 in
theorem zX2_nodeFor {G : tl_G} {M : zM} {J : zJ} {p l h : Int} (h0 : 0 ≤ p) (h1 : p ≤ 7) (h2 : 0 ≤ l) (h3 : l ≤ 251) (h4 : -1 ≤ h) (h5 : h ≤ 251) (hI : pI M) : ZN G yX2_nodeFor mX2_nodeFor 1 kPool [vR 5, vI p, vI l, vI h] F1 M J (qI (fun x M' J' => J' = J ∧ -1 ≤ x ∧ x ≤ 251 ∧ (pI M → pI M') ∧ (((h = -1 ∨ l = h) ∧ x = h ∧ M' = M) ∨ (¬ M 11 (zxor l h) = -1 ∧ 0 ≤ x ∧ x ≤ 251 ∧ M 6 x = p ∧ M 7 x = l ∧ M 8 x = h ∧ M' = M) ∨ (¬ h = -1 ∧ ¬ l = h ∧ x = -1 ∧ M' = M ∧ (M 5 8 ≤ M 5 7 ∨ M 5 6 = -1)) ∨ (¬ h = -1 ∧ ¬ l = h ∧ x = M 5 6 ∧ 0 ≤ x ∧ x ≤ 251 ∧ M 5 7 < M 5 8 ∧ M' = entz (mkz M x p l h) x)))) := by
  refine ZN_of (L := [_, _, _, _, _, _]) (by decide) rfl rfl (Nat.le_of_ble_eq_true rfl) rfl (fun hav => ?_)
  refine Z_iload_n (n := 1) dX2_nodeFor_0 rfl rfl ?_
  refine Z_iconst (n := 2) dX2_nodeFor_1 rfl (by decide) ?_
  refine Z_icmp_eq (n := 5) (t := 10) dX2_nodeFor_2 rfl (by decide) (fun c2 => ?_) (fun c2 => ?_)
  · refine Z_iload_n (n := 11) dX2_nodeFor_10 rfl rfl ?_
    refine Z_iret dX2_nodeFor_11 rfl ?_
    exact ⟨rfl, by omega, by omega, fun a => a, Or.inl ⟨by omega, rfl, rfl⟩⟩
  · refine Z_iload_n (n := 6) dX2_nodeFor_5 rfl rfl ?_
    refine Z_iload_n (n := 7) dX2_nodeFor_6 rfl rfl ?_
    refine Z_icmp_ne (n := 10) (t := 12) dX2_nodeFor_7 rfl (by decide) (fun c7 => ?_) (fun c7 => ?_)
    · refine Z_aload_n (n := 13) dX2_nodeFor_12 rfl rfl ?_
      refine Z_getA (n := 16) dX2_nodeFor_13 rfl ffX2_27 rfl rfl ?_
      refine Z_iload_n (n := 17) dX2_nodeFor_16 rfl rfl ?_
      refine Z_iload_n (n := 18) dX2_nodeFor_17 rfl rfl ?_
      refine Z_ixor (n := 19) dX2_nodeFor_18 rfl ?_
      have hx := zxor_in (x := l) (y := h) (by omega) (by omega) (by omega) (by omega)
      refine Z_iald (n := 20) dX2_nodeFor_19 rfl rfl rfl (by first | decide | assumption) (by omega) (by omega) (fun r19 s19 => ?_)
      try simp only [uz_oo (show (10 : Nat) ≠ 5 by decide)] at r19 s19 ⊢
      refine Z_istore (L' := [_, _, _, _, _, _]) (n := 22) dX2_nodeFor_20 rfl (by decide) rfl rfl ?_
      refine Z_iconst (n := 23) dX2_nodeFor_22 rfl (by decide) ?_
      refine Z_istore (L' := [_, _, _, _, _, _]) (n := 25) dX2_nodeFor_23 rfl (by decide) rfl rfl ?_
      have lp25 : ∀ (N25 : Nat) (n t : Int) , ((252 - t).toNat) < N25 → (-1 ≤ n) → (n ≤ 251) → (0 ≤ t) → (t ≤ 252) → (¬ n = -1 → ¬ M 11 (zxor l h) = -1) → TZ G mX2_nodeFor (tl_rm 1 0 0) 0 0 kPool M J 25 [some (vR 5), some (vI p), some (vI l), some (vI h), some (vI n), some (vI t)] [] F1 M J (ZM G (zPost G kPool F1 M J (qI (fun x M' J' => J' = J ∧ -1 ≤ x ∧ x ≤ 251 ∧ (pI M → pI M') ∧ (((h = -1 ∨ l = h) ∧ x = h ∧ M' = M) ∨ (¬ M 11 (zxor l h) = -1 ∧ 0 ≤ x ∧ x ≤ 251 ∧ M 6 x = p ∧ M 7 x = l ∧ M 8 x = h ∧ M' = M) ∨ (¬ h = -1 ∧ ¬ l = h ∧ x = -1 ∧ M' = M ∧ (M 5 8 ≤ M 5 7 ∨ M 5 6 = -1)) ∨ (¬ h = -1 ∧ ¬ l = h ∧ x = M 5 6 ∧ 0 ≤ x ∧ x ≤ 251 ∧ M 5 7 < M 5 8 ∧ M' = entz (mkz M x p l h) x))))) 0 0) := by
        intro N25
        induction N25 with
        | zero => intro n t  hN; omega
        | succ N25 ih25 =>
          intro n t  hN25 i25_0 i25_1 i25_2 i25_3 i25_4
          refine Z_iload (n := 27) dX2_nodeFor_25 rfl rfl ?_
          refine Z_iconst (n := 28) dX2_nodeFor_27 rfl (by decide) ?_
          refine Z_icmp_eq (n := 31) (t := 90) dX2_nodeFor_28 rfl (by decide) (fun c28 => ?_) (fun c28 => ?_)
          · refine Z_aload_n (n := 91) dX2_nodeFor_90 rfl rfl ?_
            refine Z_getI (n := 94) (ki := 6) dX2_nodeFor_91 rfl ffX2_30 rfl rfl rfl (fun r91 s91 => ?_)
            try simp only [uz_oo (show (10 : Nat) ≠ 5 by decide)] at r91 s91 ⊢
            refine Z_istore (L' := [_, _, _, _, _, _]) (n := 96) dX2_nodeFor_94 rfl (by decide) rfl rfl ?_
            refine Z_aload_n (n := 97) dX2_nodeFor_96 rfl rfl ?_
            refine Z_getI (n := 100) (ki := 7) dX2_nodeFor_97 rfl ffX2_34 rfl rfl rfl (fun r97 s97 => ?_)
            try simp only [uz_oo (show (10 : Nat) ≠ 5 by decide)] at r97 s97 ⊢
            refine Z_aload_n (n := 101) dX2_nodeFor_100 rfl rfl ?_
            refine Z_getI (n := 104) (ki := 8) dX2_nodeFor_101 rfl ffX2_37 rfl rfl rfl (fun r101 s101 => ?_)
            try simp only [uz_oo (show (10 : Nat) ≠ 5 by decide)] at r101 s101 ⊢
            refine Z_icmp_ge (n := 107) (t := 113) dX2_nodeFor_104 rfl (by decide) (fun c104 => ?_) (fun c104 => ?_)
            · refine Z_iconst (n := 114) dX2_nodeFor_113 rfl (by decide) ?_
              refine Z_iret dX2_nodeFor_114 rfl ?_
              exact ⟨rfl, by omega, by omega, fun a => a, Or.inr (Or.inr (Or.inl ⟨by omega, by omega, rfl, rfl, by omega⟩))⟩
            · refine Z_iload (n := 109) dX2_nodeFor_107 rfl rfl ?_
              refine Z_iconst (n := 110) dX2_nodeFor_109 rfl (by decide) ?_
              refine Z_icmp_ne (n := 113) (t := 115) dX2_nodeFor_110 rfl (by decide) (fun c110 => ?_) (fun c110 => ?_)
              · refine Z_aload_n (n := 116) dX2_nodeFor_115 rfl rfl ?_
                refine Z_aload_n (n := 117) dX2_nodeFor_116 rfl rfl ?_
                refine Z_getA (n := 120) dX2_nodeFor_117 rfl ffX2_24 rfl rfl ?_
                refine Z_iload (n := 122) dX2_nodeFor_120 rfl rfl ?_
                refine Z_iald (n := 123) dX2_nodeFor_122 rfl rfl rfl (by first | decide | assumption) (by omega) (by omega) (fun r122 s122 => ?_)
                try simp only [uz_oo (show (10 : Nat) ≠ 5 by decide)] at r122 s122 ⊢
                refine Z_putI (n := 126) (ki := 6) dX2_nodeFor_123 rfl ffX2_30 rfl (by decide) rfl rfl (by first | assumption | omega | decide) (by first | assumption | omega | decide) (by decide) ?_
                have hn2 : 2 ≤ M 5 6 := by have := hI.2.2.1; omega
                refine Z_aload_n (n := 127) dX2_nodeFor_126 rfl rfl ?_
                refine Z_getA (n := 130) dX2_nodeFor_127 rfl ffX2_11 rfl rfl ?_
                refine Z_iload (n := 132) dX2_nodeFor_130 rfl rfl ?_
                refine Z_iload_n (n := 133) dX2_nodeFor_132 rfl rfl ?_
                refine Z_iast (n := 134) dX2_nodeFor_133 rfl rfl rfl (by first | decide | assumption) (by omega) (by omega) (by first | omega | (rw [if_neg (by omega)]; omega)) (by first | omega | (rw [if_neg (by omega)]; omega)) (by decide) ?_
                refine Z_aload_n (n := 135) dX2_nodeFor_134 rfl rfl ?_
                refine Z_getA (n := 138) dX2_nodeFor_135 rfl ffX2_15 rfl rfl ?_
                refine Z_iload (n := 140) dX2_nodeFor_138 rfl rfl ?_
                refine Z_iload_n (n := 141) dX2_nodeFor_140 rfl rfl ?_
                refine Z_iast (n := 142) dX2_nodeFor_141 rfl rfl rfl (by first | decide | assumption) (by omega) (by omega) (by first | assumption | omega | decide) (by first | assumption | omega | decide) (by decide) ?_
                refine Z_aload_n (n := 143) dX2_nodeFor_142 rfl rfl ?_
                refine Z_getA (n := 146) dX2_nodeFor_143 rfl ffX2_18 rfl rfl ?_
                refine Z_iload (n := 148) dX2_nodeFor_146 rfl rfl ?_
                refine Z_iload_n (n := 149) dX2_nodeFor_148 rfl rfl ?_
                refine Z_iast (n := 150) dX2_nodeFor_149 rfl rfl rfl (by first | decide | assumption) (by omega) (by omega) (by first | assumption | omega | decide) (by first | assumption | omega | decide) (by decide) ?_
                refine Z_aload_n (n := 151) dX2_nodeFor_150 rfl rfl ?_
                refine Z_iload (n := 153) dX2_nodeFor_151 rfl rfl ?_
                refine Z_callVv (n := 156) [_] _ dX2_nodeFor_153 rfl cwX2_64 rfl rfl rfl (Nat.le_of_ble_eq_true rfl) (by refine ⟨?_, ?_, ?_, ?_⟩ <;> exact Nat.le_of_ble_eq_true rfl) (fun _ h => h) (zX2_enter  (by exact PoolF1) (by omega) (by omega) (by rw [show uz (uz (uz (uz M 5 6 (M 10 (M 5 6))) 6 (M 5 6) p) 7 (M 5 6) l) 8 (M 5 6) h 5 7 = _ from mkz_57]; omega) (by decide) (by decide) (by decide)) ?_
                intro M153 J153 f153 q153
                obtain ⟨e153_1, e153_2⟩ := q153
                replace e153_1 := e153_1.symm; subst e153_1
                replace e153_2 := e153_2.symm; subst e153_2
                refine Z_iload (n := 158) dX2_nodeFor_156 rfl rfl ?_
                refine Z_iret dX2_nodeFor_158 rfl ?_
                refine ⟨rfl, by omega, by omega, fun a => ?_, Or.inr (Or.inr (Or.inr ⟨by omega, by omega, rfl, by omega, by omega, by omega, rfl⟩))⟩
                refine pI_ent (M := mkz M (M 5 6) p l h) (pI_mk a hn2 (by omega)) hn2 ?_
                rw [mkz_7, mkz_8]
                exact zxor_in (by omega) (by omega) (by omega) (by omega)
              · refine Z_iconst (n := 114) dX2_nodeFor_113 rfl (by decide) ?_
                refine Z_iret dX2_nodeFor_114 rfl ?_
                exact ⟨rfl, by omega, by omega, fun a => a, Or.inr (Or.inr (Or.inl ⟨by omega, by omega, rfl, rfl, by omega⟩))⟩
          · refine Z_iload (n := 33) dX2_nodeFor_31 rfl rfl ?_
            refine Z_sipush (n := 36) dX2_nodeFor_33 rfl (by decide) (by decide) ?_
            refine Z_icmp_ge (n := 39) (t := 90) dX2_nodeFor_36 rfl (by decide) (fun c36 => ?_) (fun c36 => ?_)
            · refine Z_aload_n (n := 91) dX2_nodeFor_90 rfl rfl ?_
              refine Z_getI (n := 94) (ki := 6) dX2_nodeFor_91 rfl ffX2_30 rfl rfl rfl (fun r91 s91 => ?_)
              try simp only [uz_oo (show (10 : Nat) ≠ 5 by decide)] at r91 s91 ⊢
              refine Z_istore (L' := [_, _, _, _, _, _]) (n := 96) dX2_nodeFor_94 rfl (by decide) rfl rfl ?_
              refine Z_aload_n (n := 97) dX2_nodeFor_96 rfl rfl ?_
              refine Z_getI (n := 100) (ki := 7) dX2_nodeFor_97 rfl ffX2_34 rfl rfl rfl (fun r97 s97 => ?_)
              try simp only [uz_oo (show (10 : Nat) ≠ 5 by decide)] at r97 s97 ⊢
              refine Z_aload_n (n := 101) dX2_nodeFor_100 rfl rfl ?_
              refine Z_getI (n := 104) (ki := 8) dX2_nodeFor_101 rfl ffX2_37 rfl rfl rfl (fun r101 s101 => ?_)
              try simp only [uz_oo (show (10 : Nat) ≠ 5 by decide)] at r101 s101 ⊢
              refine Z_icmp_ge (n := 107) (t := 113) dX2_nodeFor_104 rfl (by decide) (fun c104 => ?_) (fun c104 => ?_)
              · refine Z_iconst (n := 114) dX2_nodeFor_113 rfl (by decide) ?_
                refine Z_iret dX2_nodeFor_114 rfl ?_
                exact ⟨rfl, by omega, by omega, fun a => a, Or.inr (Or.inr (Or.inl ⟨by omega, by omega, rfl, rfl, by omega⟩))⟩
              · refine Z_iload (n := 109) dX2_nodeFor_107 rfl rfl ?_
                refine Z_iconst (n := 110) dX2_nodeFor_109 rfl (by decide) ?_
                refine Z_icmp_ne (n := 113) (t := 115) dX2_nodeFor_110 rfl (by decide) (fun c110 => ?_) (fun c110 => ?_)
                · refine Z_aload_n (n := 116) dX2_nodeFor_115 rfl rfl ?_
                  refine Z_aload_n (n := 117) dX2_nodeFor_116 rfl rfl ?_
                  refine Z_getA (n := 120) dX2_nodeFor_117 rfl ffX2_24 rfl rfl ?_
                  refine Z_iload (n := 122) dX2_nodeFor_120 rfl rfl ?_
                  refine Z_iald (n := 123) dX2_nodeFor_122 rfl rfl rfl (by first | decide | assumption) (by omega) (by omega) (fun r122 s122 => ?_)
                  try simp only [uz_oo (show (10 : Nat) ≠ 5 by decide)] at r122 s122 ⊢
                  refine Z_putI (n := 126) (ki := 6) dX2_nodeFor_123 rfl ffX2_30 rfl (by decide) rfl rfl (by first | assumption | omega | decide) (by first | assumption | omega | decide) (by decide) ?_
                  have hn2 : 2 ≤ M 5 6 := by have := hI.2.2.1; omega
                  refine Z_aload_n (n := 127) dX2_nodeFor_126 rfl rfl ?_
                  refine Z_getA (n := 130) dX2_nodeFor_127 rfl ffX2_11 rfl rfl ?_
                  refine Z_iload (n := 132) dX2_nodeFor_130 rfl rfl ?_
                  refine Z_iload_n (n := 133) dX2_nodeFor_132 rfl rfl ?_
                  refine Z_iast (n := 134) dX2_nodeFor_133 rfl rfl rfl (by first | decide | assumption) (by omega) (by omega) (by first | omega | (rw [if_neg (by omega)]; omega)) (by first | omega | (rw [if_neg (by omega)]; omega)) (by decide) ?_
                  refine Z_aload_n (n := 135) dX2_nodeFor_134 rfl rfl ?_
                  refine Z_getA (n := 138) dX2_nodeFor_135 rfl ffX2_15 rfl rfl ?_
                  refine Z_iload (n := 140) dX2_nodeFor_138 rfl rfl ?_
                  refine Z_iload_n (n := 141) dX2_nodeFor_140 rfl rfl ?_
                  refine Z_iast (n := 142) dX2_nodeFor_141 rfl rfl rfl (by first | decide | assumption) (by omega) (by omega) (by first | assumption | omega | decide) (by first | assumption | omega | decide) (by decide) ?_
                  refine Z_aload_n (n := 143) dX2_nodeFor_142 rfl rfl ?_
                  refine Z_getA (n := 146) dX2_nodeFor_143 rfl ffX2_18 rfl rfl ?_
                  refine Z_iload (n := 148) dX2_nodeFor_146 rfl rfl ?_
                  refine Z_iload_n (n := 149) dX2_nodeFor_148 rfl rfl ?_
                  refine Z_iast (n := 150) dX2_nodeFor_149 rfl rfl rfl (by first | decide | assumption) (by omega) (by omega) (by first | assumption | omega | decide) (by first | assumption | omega | decide) (by decide) ?_
                  refine Z_aload_n (n := 151) dX2_nodeFor_150 rfl rfl ?_
                  refine Z_iload (n := 153) dX2_nodeFor_151 rfl rfl ?_
                  refine Z_callVv (n := 156) [_] _ dX2_nodeFor_153 rfl cwX2_64 rfl rfl rfl (Nat.le_of_ble_eq_true rfl) (by refine ⟨?_, ?_, ?_, ?_⟩ <;> exact Nat.le_of_ble_eq_true rfl) (fun _ h => h) (zX2_enter  (by exact PoolF1) (by omega) (by omega) (by rw [show uz (uz (uz (uz M 5 6 (M 10 (M 5 6))) 6 (M 5 6) p) 7 (M 5 6) l) 8 (M 5 6) h 5 7 = _ from mkz_57]; omega) (by decide) (by decide) (by decide)) ?_
                  intro M153 J153 f153 q153
                  obtain ⟨e153_1, e153_2⟩ := q153
                  replace e153_1 := e153_1.symm; subst e153_1
                  replace e153_2 := e153_2.symm; subst e153_2
                  refine Z_iload (n := 158) dX2_nodeFor_156 rfl rfl ?_
                  refine Z_iret dX2_nodeFor_158 rfl ?_
                  refine ⟨rfl, by omega, by omega, fun a => ?_, Or.inr (Or.inr (Or.inr ⟨by omega, by omega, rfl, by omega, by omega, by omega, rfl⟩))⟩
                  refine pI_ent (M := mkz M (M 5 6) p l h) (pI_mk a hn2 (by omega)) hn2 ?_
                  rw [mkz_7, mkz_8]
                  exact zxor_in (by omega) (by omega) (by omega) (by omega)
                · refine Z_iconst (n := 114) dX2_nodeFor_113 rfl (by decide) ?_
                  refine Z_iret dX2_nodeFor_114 rfl ?_
                  exact ⟨rfl, by omega, by omega, fun a => a, Or.inr (Or.inr (Or.inl ⟨by omega, by omega, rfl, rfl, by omega⟩))⟩
            · refine Z_aload_n (n := 40) dX2_nodeFor_39 rfl rfl ?_
              refine Z_getA (n := 43) dX2_nodeFor_40 rfl ffX2_11 rfl rfl ?_
              refine Z_iload (n := 45) dX2_nodeFor_43 rfl rfl ?_
              refine Z_iald (n := 46) dX2_nodeFor_45 rfl rfl rfl (by first | decide | assumption) (by omega) (by omega) (fun r45 s45 => ?_)
              try simp only [uz_oo (show (10 : Nat) ≠ 5 by decide)] at r45 s45 ⊢
              refine Z_iload_n (n := 47) dX2_nodeFor_46 rfl rfl ?_
              refine Z_icmp_ne (n := 50) (t := 75) dX2_nodeFor_47 rfl (by decide) (fun c47 => ?_) (fun c47 => ?_)
              · refine Z_aload_n (n := 76) dX2_nodeFor_75 rfl rfl ?_
                refine Z_getA (n := 79) dX2_nodeFor_76 rfl ffX2_24 rfl rfl ?_
                refine Z_iload (n := 81) dX2_nodeFor_79 rfl rfl ?_
                refine Z_iald (n := 82) dX2_nodeFor_81 rfl rfl rfl (by first | decide | assumption) (by omega) (by omega) (fun r81 s81 => ?_)
                try simp only [uz_oo (show (10 : Nat) ≠ 5 by decide)] at r81 s81 ⊢
                refine Z_istore (L' := [_, _, _, _, _, _]) (n := 84) dX2_nodeFor_82 rfl (by decide) rfl rfl ?_
                refine Z_iinc (L' := [_, _, _, _, _, _]) (n := 87) dX2_nodeFor_84 rfl rfl (by decide) rfl rfl (by omega) rfl ?_
                refine Z_goto (t := 25) dX2_nodeFor_87 (by decide) ?_
                refine Z_loc (L' := [some _, some _, some _, some _, some _, some _]) (lsub_same (lsub_same (lsub_same (lsub_same (lsub_same (lsub_same lsub_nil)))))) ?_
                exact ih25 _ _  (by omega) (by first | assumption | omega | decide) (by first | assumption | omega | decide) (by first | assumption | omega | decide) (by first | assumption | omega | decide) (by first | exact fun a => a | exact fun _ => i25_4 (by omega))
              · refine Z_aload_n (n := 51) dX2_nodeFor_50 rfl rfl ?_
                refine Z_getA (n := 54) dX2_nodeFor_51 rfl ffX2_15 rfl rfl ?_
                refine Z_iload (n := 56) dX2_nodeFor_54 rfl rfl ?_
                refine Z_iald (n := 57) dX2_nodeFor_56 rfl rfl rfl (by first | decide | assumption) (by omega) (by omega) (fun r56 s56 => ?_)
                try simp only [uz_oo (show (10 : Nat) ≠ 5 by decide)] at r56 s56 ⊢
                refine Z_iload_n (n := 58) dX2_nodeFor_57 rfl rfl ?_
                refine Z_icmp_ne (n := 61) (t := 75) dX2_nodeFor_58 rfl (by decide) (fun c58 => ?_) (fun c58 => ?_)
                · refine Z_aload_n (n := 76) dX2_nodeFor_75 rfl rfl ?_
                  refine Z_getA (n := 79) dX2_nodeFor_76 rfl ffX2_24 rfl rfl ?_
                  refine Z_iload (n := 81) dX2_nodeFor_79 rfl rfl ?_
                  refine Z_iald (n := 82) dX2_nodeFor_81 rfl rfl rfl (by first | decide | assumption) (by omega) (by omega) (fun r81 s81 => ?_)
                  try simp only [uz_oo (show (10 : Nat) ≠ 5 by decide)] at r81 s81 ⊢
                  refine Z_istore (L' := [_, _, _, _, _, _]) (n := 84) dX2_nodeFor_82 rfl (by decide) rfl rfl ?_
                  refine Z_iinc (L' := [_, _, _, _, _, _]) (n := 87) dX2_nodeFor_84 rfl rfl (by decide) rfl rfl (by omega) rfl ?_
                  refine Z_goto (t := 25) dX2_nodeFor_87 (by decide) ?_
                  refine Z_loc (L' := [some _, some _, some _, some _, some _, some _]) (lsub_same (lsub_same (lsub_same (lsub_same (lsub_same (lsub_same lsub_nil)))))) ?_
                  exact ih25 _ _  (by omega) (by first | assumption | omega | decide) (by first | assumption | omega | decide) (by first | assumption | omega | decide) (by first | assumption | omega | decide) (by first | exact fun a => a | exact fun _ => i25_4 (by omega))
                · refine Z_aload_n (n := 62) dX2_nodeFor_61 rfl rfl ?_
                  refine Z_getA (n := 65) dX2_nodeFor_62 rfl ffX2_18 rfl rfl ?_
                  refine Z_iload (n := 67) dX2_nodeFor_65 rfl rfl ?_
                  refine Z_iald (n := 68) dX2_nodeFor_67 rfl rfl rfl (by first | decide | assumption) (by omega) (by omega) (fun r67 s67 => ?_)
                  try simp only [uz_oo (show (10 : Nat) ≠ 5 by decide)] at r67 s67 ⊢
                  refine Z_iload_n (n := 69) dX2_nodeFor_68 rfl rfl ?_
                  refine Z_icmp_ne (n := 72) (t := 75) dX2_nodeFor_69 rfl (by decide) (fun c69 => ?_) (fun c69 => ?_)
                  · refine Z_aload_n (n := 76) dX2_nodeFor_75 rfl rfl ?_
                    refine Z_getA (n := 79) dX2_nodeFor_76 rfl ffX2_24 rfl rfl ?_
                    refine Z_iload (n := 81) dX2_nodeFor_79 rfl rfl ?_
                    refine Z_iald (n := 82) dX2_nodeFor_81 rfl rfl rfl (by first | decide | assumption) (by omega) (by omega) (fun r81 s81 => ?_)
                    try simp only [uz_oo (show (10 : Nat) ≠ 5 by decide)] at r81 s81 ⊢
                    refine Z_istore (L' := [_, _, _, _, _, _]) (n := 84) dX2_nodeFor_82 rfl (by decide) rfl rfl ?_
                    refine Z_iinc (L' := [_, _, _, _, _, _]) (n := 87) dX2_nodeFor_84 rfl rfl (by decide) rfl rfl (by omega) rfl ?_
                    refine Z_goto (t := 25) dX2_nodeFor_87 (by decide) ?_
                    refine Z_loc (L' := [some _, some _, some _, some _, some _, some _]) (lsub_same (lsub_same (lsub_same (lsub_same (lsub_same (lsub_same lsub_nil)))))) ?_
                    exact ih25 _ _  (by omega) (by first | assumption | omega | decide) (by first | assumption | omega | decide) (by first | assumption | omega | decide) (by first | assumption | omega | decide) (by first | exact fun a => a | exact fun _ => i25_4 (by omega))
                  · refine Z_iload (n := 74) dX2_nodeFor_72 rfl rfl ?_
                    refine Z_iret dX2_nodeFor_74 rfl ?_
                    exact ⟨rfl, by omega, by omega, fun a => a, Or.inr (Or.inl ⟨i25_4 (by omega), by omega, by omega, by omega, by omega, by omega, rfl⟩)⟩
      refine Z_loc (L' := [some _, some _, some _, some _, some _, some _]) (lsub_same (lsub_same (lsub_same (lsub_same (lsub_same (lsub_same lsub_nil)))))) ?_
      exact lp25 _ _ _  (Nat.lt_succ_self _) (by first | assumption | omega | decide) (by first | assumption | omega | decide) (by first | assumption | omega | decide) (by first | assumption | omega | decide) (by first | exact fun a => a | exact fun _ => i25_4 (by omega))
    · refine Z_iload_n (n := 11) dX2_nodeFor_10 rfl rfl ?_
      refine Z_iret dX2_nodeFor_11 rfl ?_
      exact ⟨rfl, by omega, by omega, fun a => a, Or.inl ⟨by omega, rfl, rfl⟩⟩
set_option maxRecDepth 20000 in
theorem zX2_makeVariable {G : tl_G} {M : zM} {J : zJ} {p : Int} (h0 : 0 ≤ p) (h1 : p ≤ 7) (hI : pI M) : ZN G yX2_makeVariable mX2_makeVariable 2 kPool [vR 5, vI p] F1 M J (qI (fun x M' J' => J' = J ∧ -1 ≤ x ∧ x ≤ 251 ∧ (pI M → pI M') ∧ ((((1 : Int) = -1 ∨ (0 : Int) = 1) ∧ x = 1 ∧ M' = M) ∨ (¬ M 11 (zxor 0 1) = -1 ∧ 0 ≤ x ∧ x ≤ 251 ∧ M 6 x = p ∧ M 7 x = 0 ∧ M 8 x = 1 ∧ M' = M) ∨ (¬ (1 : Int) = -1 ∧ ¬ (0 : Int) = 1 ∧ x = -1 ∧ M' = M ∧ (M 5 8 ≤ M 5 7 ∨ M 5 6 = -1)) ∨ (¬ (1 : Int) = -1 ∧ ¬ (0 : Int) = 1 ∧ x = M 5 6 ∧ 0 ≤ x ∧ x ≤ 251 ∧ M 5 7 < M 5 8 ∧ M' = entz (mkz M x p 0 1) x)))) := by
  refine ZN_of (L := [_, _]) (by decide) rfl rfl (Nat.le_of_ble_eq_true rfl) rfl (fun hav => ?_)
  refine Z_aload_n (n := 1) dX2_makeVariable_0 rfl rfl ?_
  refine Z_iload_n (n := 2) dX2_makeVariable_1 rfl rfl ?_
  refine Z_iconst (n := 3) dX2_makeVariable_2 rfl (by decide) ?_
  refine Z_iconst (n := 4) dX2_makeVariable_3 rfl (by decide) ?_
  refine Z_callVi (n := 7) [_, _, _] _ dX2_makeVariable_4 rfl cwX2_67 rfl rfl rfl (Nat.le_of_ble_eq_true rfl) (by refine ⟨?_, ?_, ?_, ?_⟩ <;> exact Nat.le_of_ble_eq_true rfl) (fun _ h => h) (zX2_nodeFor  (by first | assumption | omega | decide) (by first | assumption | omega | decide) (by first | assumption | omega | decide) (by first | assumption | omega | decide) (by first | assumption | omega | decide) (by first | assumption | omega | decide) (by first | assumption | omega | decide)) ?_
  intro x4 M4 J4 z4 f4 q4
  obtain ⟨e4_1, l4, u4, pi4, h4⟩ := q4
  replace e4_1 := e4_1.symm; subst e4_1
  refine Z_iret dX2_makeVariable_7 rfl ?_
  exact ⟨rfl, l4, u4, pi4, h4⟩
set_option maxRecDepth 20000 in
theorem zX2_makeFrom {G : tl_G} {M : zM} {J : zJ} (k : Nat) {t u v w e : Int} (h0 : 0 ≤ u) (h1 : u ≤ 251) (h2 : 0 ≤ v) (h3 : v ≤ 251) (h4 : 0 ≤ w) (h5 : w ≤ 251) (h6 : 0 ≤ e) (h7 : e + k = 8) (hI : pI M) : ZN G yX2_makeFrom mX2_makeFrom (k + 2) kPool [vR 5, vI t, vI u, vI v, vI w, vI e] F1 M J (qI (fun x M' J' => J' = J ∧ -1 ≤ x ∧ x ≤ 251 ∧ pI M' ∧ (knF (knF (knF t u 1 85) v 2 51) w 4 15 = 0 → x = 0 ∧ M' = M) ∧ (knF (knF (knF t u 1 85) v 2 51) w 4 15 = 255 → x = 1 ∧ M' = M))) := by
  induction k generalizing M J t u v w e with
  | zero =>
    refine ZN_of (L := [_, _, _, _, _, _, _, _, _, _]) (by decide) rfl rfl (Nat.le_of_ble_eq_true rfl) rfl (fun hav => ?_)
    refine Z_iload_n (n := 1) dX2_makeFrom_0 rfl rfl ?_
    refine Z_iload_n (n := 2) dX2_makeFrom_1 rfl rfl ?_
    refine Z_iconst (n := 3) dX2_makeFrom_2 rfl (by decide) ?_
    refine Z_bipush (n := 5) dX2_makeFrom_3 rfl (by decide) (by decide) ?_
    refine Z_callSi (n := 8) [_, _, _, _] _ dX2_makeFrom_5 rfl cwX2_75 rfl rfl (Nat.le_of_ble_eq_true rfl) ⟨by show 0 + 1 ≤ (0 + 2); omega, by show 8 + (5 + 11) + 40 * 0 ≤ 40 * (0 + 2); omega, Nat.le_refl _, Nat.le_refl _⟩ (fun _ _ => trivial) (zX2_knowing  ) ?_
    intro x5 M5 J5 z5 f5 q5
    obtain ⟨e5_1, e5_2, h5⟩ := q5
    replace e5_1 := e5_1.symm; subst e5_1
    replace e5_2 := e5_2.symm; subst e5_2
    refine Z_iload_n (n := 9) dX2_makeFrom_8 rfl rfl ?_
    refine Z_iconst (n := 10) dX2_makeFrom_9 rfl (by decide) ?_
    refine Z_bipush (n := 12) dX2_makeFrom_10 rfl (by decide) (by decide) ?_
    refine Z_callSi (n := 15) [_, _, _, _] _ dX2_makeFrom_12 rfl cwX2_75 rfl rfl (Nat.le_of_ble_eq_true rfl) ⟨by show 0 + 1 ≤ (0 + 2); omega, by show 8 + (5 + 11) + 40 * 0 ≤ 40 * (0 + 2); omega, Nat.le_refl _, Nat.le_refl _⟩ (fun _ _ => trivial) (zX2_knowing  ) ?_
    intro x12 M12 J12 z12 f12 q12
    obtain ⟨e12_1, e12_2, h12⟩ := q12
    replace e12_1 := e12_1.symm; subst e12_1
    replace e12_2 := e12_2.symm; subst e12_2
    refine Z_iload (n := 17) dX2_makeFrom_15 rfl rfl ?_
    refine Z_iconst (n := 18) dX2_makeFrom_17 rfl (by decide) ?_
    refine Z_bipush (n := 20) dX2_makeFrom_18 rfl (by decide) (by decide) ?_
    refine Z_callSi (n := 23) [_, _, _, _] _ dX2_makeFrom_20 rfl cwX2_75 rfl rfl (Nat.le_of_ble_eq_true rfl) ⟨by show 0 + 1 ≤ (0 + 2); omega, by show 8 + (5 + 11) + 40 * 0 ≤ 40 * (0 + 2); omega, Nat.le_refl _, Nat.le_refl _⟩ (fun _ _ => trivial) (zX2_knowing  ) ?_
    intro x20 M20 J20 z20 f20 q20
    obtain ⟨e20_1, e20_2, h20⟩ := q20
    replace e20_1 := e20_1.symm; subst e20_1
    replace e20_2 := e20_2.symm; subst e20_2
    refine Z_istore (L' := [_, _, _, _, _, _, _, _, _, _]) (n := 25) dX2_makeFrom_23 rfl (by decide) rfl rfl ?_
    refine Z_iload (n := 27) dX2_makeFrom_25 rfl rfl ?_
    refine Z_lsc (td := 87) dX2_makeFrom_27 (by decide) (by decide) (by decide) ?_ (fun c27 => ?_)
    · refine lcases_cons (fun c27 t ht => ?_) ?_
      · obtain rfl : t = 76 := by omega
        refine Z_iconst (n := 77) dX2_makeFrom_76 rfl (by decide) ?_
        refine Z_iret dX2_makeFrom_77 rfl ?_
        dsimp only at c27
        rw [h20, h12, h5] at c27
        refine ⟨rfl, by omega, by omega, hI, fun _ => ⟨rfl, rfl⟩, fun q => by omega⟩
      refine lcases_cons (fun c27 t ht => ?_) ?_
      · obtain rfl : t = 80 := by omega
        refine Z_iload_n (n := 81) dX2_makeFrom_80 rfl rfl ?_
        refine Z_iret dX2_makeFrom_81 rfl ?_
        dsimp only at c27
        rw [h20, h12, h5] at c27
        refine ⟨rfl, by omega, by omega, hI, fun q => by omega, fun q => by omega⟩
      refine lcases_cons (fun c27 t ht => ?_) ?_
      · obtain rfl : t = 82 := by omega
        refine Z_iload_n (n := 83) dX2_makeFrom_82 rfl rfl ?_
        refine Z_iret dX2_makeFrom_83 rfl ?_
        dsimp only at c27
        rw [h20, h12, h5] at c27
        refine ⟨rfl, by omega, by omega, hI, fun q => by omega, fun q => by omega⟩
      refine lcases_cons (fun c27 t ht => ?_) ?_
      · obtain rfl : t = 84 := by omega
        refine Z_iload (n := 86) dX2_makeFrom_84 rfl rfl ?_
        refine Z_iret dX2_makeFrom_86 rfl ?_
        dsimp only at c27
        rw [h20, h12, h5] at c27
        refine ⟨rfl, by omega, by omega, hI, fun q => by omega, fun q => by omega⟩
      refine lcases_cons (fun c27 t ht => ?_) ?_
      · obtain rfl : t = 78 := by omega
        refine Z_iconst (n := 79) dX2_makeFrom_78 rfl (by decide) ?_
        refine Z_iret dX2_makeFrom_79 rfl ?_
        dsimp only at c27
        rw [h20, h12, h5] at c27
        refine ⟨rfl, by omega, by omega, hI, fun q => by omega, fun _ => ⟨rfl, rfl⟩⟩
      exact lcases_nil
    · refine Z_aload_n (n := 88) dX2_makeFrom_87 rfl rfl ?_
      refine Z_getA (n := 91) dX2_makeFrom_88 rfl ffX2_11 rfl rfl ?_
      refine Z_iload_n (n := 92) dX2_makeFrom_91 rfl rfl ?_
      refine Z_iald (n := 93) dX2_makeFrom_92 rfl rfl rfl (by first | decide | assumption) (by omega) (by omega) (fun r92 s92 => ?_)
      refine Z_aload_n (n := 94) dX2_makeFrom_93 rfl rfl ?_
      refine Z_getA (n := 97) dX2_makeFrom_94 rfl ffX2_11 rfl rfl ?_
      refine Z_iload_n (n := 98) dX2_makeFrom_97 rfl rfl ?_
      refine Z_iald (n := 99) dX2_makeFrom_98 rfl rfl rfl (by first | decide | assumption) (by omega) (by omega) (fun r98 s98 => ?_)
      refine Z_aload_n (n := 100) dX2_makeFrom_99 rfl rfl ?_
      refine Z_getA (n := 103) dX2_makeFrom_100 rfl ffX2_11 rfl rfl ?_
      refine Z_iload (n := 105) dX2_makeFrom_103 rfl rfl ?_
      refine Z_iald (n := 106) dX2_makeFrom_105 rfl rfl rfl (by first | decide | assumption) (by omega) (by omega) (fun r105 s105 => ?_)
      refine Z_mmin (n := 109) dX2_makeFrom_106 rfl cwX2_79 (Nat.le_of_ble_eq_true rfl) (by refine ⟨?_, ?_, ?_, ?_⟩ <;> first | exact Nat.le_of_ble_eq_true rfl | (simp only [tl_rm]; omega)) (fun x106 h106 => ?_)
      refine Z_mmin (n := 112) dX2_makeFrom_109 rfl cwX2_79 (Nat.le_of_ble_eq_true rfl) (by refine ⟨?_, ?_, ?_, ?_⟩ <;> first | exact Nat.le_of_ble_eq_true rfl | (simp only [tl_rm]; omega)) (fun x109 h109 => ?_)
      refine Z_istore (L' := [_, _, _, _, _, _, _, _, _, _]) (n := 114) dX2_makeFrom_112 rfl (by decide) rfl rfl ?_
      have hpl : 0 ≤ x109 := by omega
      clear h106 h109
      refine Z_iload (n := 116) dX2_makeFrom_114 rfl rfl ?_
      refine Z_bipush (n := 118) dX2_makeFrom_116 rfl (by decide) (by decide) ?_
      refine Z_icmp_ge (n := 121) (t := 128) dX2_makeFrom_118 rfl (by decide) (fun c118 => ?_) (fun c118 => ?_)
      · refine Z_iconst (n := 129) dX2_makeFrom_128 rfl (by decide) ?_
        refine Z_iret dX2_makeFrom_129 rfl ?_
        refine ⟨rfl, by omega, by omega, hI, fun q => absurd q (by rw [← h5, ← h12, ← h20]; exact c27 (0, 49) (by decide)), fun q => absurd q (by rw [← h5, ← h12, ← h20]; exact c27 (255, 51) (by decide))⟩
      · omega
  | succ k ih =>
    refine ZN_of (L := [_, _, _, _, _, _, _, _, _, _]) (by decide) rfl rfl (Nat.le_of_ble_eq_true rfl) rfl (fun hav => ?_)
    refine Z_iload_n (n := 1) dX2_makeFrom_0 rfl rfl ?_
    refine Z_iload_n (n := 2) dX2_makeFrom_1 rfl rfl ?_
    refine Z_iconst (n := 3) dX2_makeFrom_2 rfl (by decide) ?_
    refine Z_bipush (n := 5) dX2_makeFrom_3 rfl (by decide) (by decide) ?_
    refine Z_callSi (n := 8) [_, _, _, _] _ dX2_makeFrom_5 rfl cwX2_75 rfl rfl (Nat.le_of_ble_eq_true rfl) ⟨by show 0 + 1 ≤ ((k + 1) + 2); omega, by show 8 + (5 + 11) + 40 * 0 ≤ 40 * ((k + 1) + 2); omega, Nat.le_refl _, Nat.le_refl _⟩ (fun _ _ => trivial) (zX2_knowing  ) ?_
    intro x5 M5 J5 z5 f5 q5
    obtain ⟨e5_1, e5_2, h5⟩ := q5
    replace e5_1 := e5_1.symm; subst e5_1
    replace e5_2 := e5_2.symm; subst e5_2
    refine Z_iload_n (n := 9) dX2_makeFrom_8 rfl rfl ?_
    refine Z_iconst (n := 10) dX2_makeFrom_9 rfl (by decide) ?_
    refine Z_bipush (n := 12) dX2_makeFrom_10 rfl (by decide) (by decide) ?_
    refine Z_callSi (n := 15) [_, _, _, _] _ dX2_makeFrom_12 rfl cwX2_75 rfl rfl (Nat.le_of_ble_eq_true rfl) ⟨by show 0 + 1 ≤ ((k + 1) + 2); omega, by show 8 + (5 + 11) + 40 * 0 ≤ 40 * ((k + 1) + 2); omega, Nat.le_refl _, Nat.le_refl _⟩ (fun _ _ => trivial) (zX2_knowing  ) ?_
    intro x12 M12 J12 z12 f12 q12
    obtain ⟨e12_1, e12_2, h12⟩ := q12
    replace e12_1 := e12_1.symm; subst e12_1
    replace e12_2 := e12_2.symm; subst e12_2
    refine Z_iload (n := 17) dX2_makeFrom_15 rfl rfl ?_
    refine Z_iconst (n := 18) dX2_makeFrom_17 rfl (by decide) ?_
    refine Z_bipush (n := 20) dX2_makeFrom_18 rfl (by decide) (by decide) ?_
    refine Z_callSi (n := 23) [_, _, _, _] _ dX2_makeFrom_20 rfl cwX2_75 rfl rfl (Nat.le_of_ble_eq_true rfl) ⟨by show 0 + 1 ≤ ((k + 1) + 2); omega, by show 8 + (5 + 11) + 40 * 0 ≤ 40 * ((k + 1) + 2); omega, Nat.le_refl _, Nat.le_refl _⟩ (fun _ _ => trivial) (zX2_knowing  ) ?_
    intro x20 M20 J20 z20 f20 q20
    obtain ⟨e20_1, e20_2, h20⟩ := q20
    replace e20_1 := e20_1.symm; subst e20_1
    replace e20_2 := e20_2.symm; subst e20_2
    refine Z_istore (L' := [_, _, _, _, _, _, _, _, _, _]) (n := 25) dX2_makeFrom_23 rfl (by decide) rfl rfl ?_
    refine Z_iload (n := 27) dX2_makeFrom_25 rfl rfl ?_
    refine Z_lsc (td := 87) dX2_makeFrom_27 (by decide) (by decide) (by decide) ?_ (fun c27 => ?_)
    · refine lcases_cons (fun c27 t ht => ?_) ?_
      · obtain rfl : t = 76 := by omega
        refine Z_iconst (n := 77) dX2_makeFrom_76 rfl (by decide) ?_
        refine Z_iret dX2_makeFrom_77 rfl ?_
        dsimp only at c27
        rw [h20, h12, h5] at c27
        refine ⟨rfl, by omega, by omega, hI, fun _ => ⟨rfl, rfl⟩, fun q => by omega⟩
      refine lcases_cons (fun c27 t ht => ?_) ?_
      · obtain rfl : t = 80 := by omega
        refine Z_iload_n (n := 81) dX2_makeFrom_80 rfl rfl ?_
        refine Z_iret dX2_makeFrom_81 rfl ?_
        dsimp only at c27
        rw [h20, h12, h5] at c27
        refine ⟨rfl, by omega, by omega, hI, fun q => by omega, fun q => by omega⟩
      refine lcases_cons (fun c27 t ht => ?_) ?_
      · obtain rfl : t = 82 := by omega
        refine Z_iload_n (n := 83) dX2_makeFrom_82 rfl rfl ?_
        refine Z_iret dX2_makeFrom_83 rfl ?_
        dsimp only at c27
        rw [h20, h12, h5] at c27
        refine ⟨rfl, by omega, by omega, hI, fun q => by omega, fun q => by omega⟩
      refine lcases_cons (fun c27 t ht => ?_) ?_
      · obtain rfl : t = 84 := by omega
        refine Z_iload (n := 86) dX2_makeFrom_84 rfl rfl ?_
        refine Z_iret dX2_makeFrom_86 rfl ?_
        dsimp only at c27
        rw [h20, h12, h5] at c27
        refine ⟨rfl, by omega, by omega, hI, fun q => by omega, fun q => by omega⟩
      refine lcases_cons (fun c27 t ht => ?_) ?_
      · obtain rfl : t = 78 := by omega
        refine Z_iconst (n := 79) dX2_makeFrom_78 rfl (by decide) ?_
        refine Z_iret dX2_makeFrom_79 rfl ?_
        dsimp only at c27
        rw [h20, h12, h5] at c27
        refine ⟨rfl, by omega, by omega, hI, fun q => by omega, fun _ => ⟨rfl, rfl⟩⟩
      exact lcases_nil
    · refine Z_aload_n (n := 88) dX2_makeFrom_87 rfl rfl ?_
      refine Z_getA (n := 91) dX2_makeFrom_88 rfl ffX2_11 rfl rfl ?_
      refine Z_iload_n (n := 92) dX2_makeFrom_91 rfl rfl ?_
      refine Z_iald (n := 93) dX2_makeFrom_92 rfl rfl rfl (by first | decide | assumption) (by omega) (by omega) (fun r92 s92 => ?_)
      refine Z_aload_n (n := 94) dX2_makeFrom_93 rfl rfl ?_
      refine Z_getA (n := 97) dX2_makeFrom_94 rfl ffX2_11 rfl rfl ?_
      refine Z_iload_n (n := 98) dX2_makeFrom_97 rfl rfl ?_
      refine Z_iald (n := 99) dX2_makeFrom_98 rfl rfl rfl (by first | decide | assumption) (by omega) (by omega) (fun r98 s98 => ?_)
      refine Z_aload_n (n := 100) dX2_makeFrom_99 rfl rfl ?_
      refine Z_getA (n := 103) dX2_makeFrom_100 rfl ffX2_11 rfl rfl ?_
      refine Z_iload (n := 105) dX2_makeFrom_103 rfl rfl ?_
      refine Z_iald (n := 106) dX2_makeFrom_105 rfl rfl rfl (by first | decide | assumption) (by omega) (by omega) (fun r105 s105 => ?_)
      refine Z_mmin (n := 109) dX2_makeFrom_106 rfl cwX2_79 (Nat.le_of_ble_eq_true rfl) (by refine ⟨?_, ?_, ?_, ?_⟩ <;> first | exact Nat.le_of_ble_eq_true rfl | (simp only [tl_rm]; omega)) (fun x106 h106 => ?_)
      refine Z_mmin (n := 112) dX2_makeFrom_109 rfl cwX2_79 (Nat.le_of_ble_eq_true rfl) (by refine ⟨?_, ?_, ?_, ?_⟩ <;> first | exact Nat.le_of_ble_eq_true rfl | (simp only [tl_rm]; omega)) (fun x109 h109 => ?_)
      refine Z_istore (L' := [_, _, _, _, _, _, _, _, _, _]) (n := 114) dX2_makeFrom_112 rfl (by decide) rfl rfl ?_
      have hpl : 0 ≤ x109 := by omega
      clear h106 h109
      refine Z_iload (n := 116) dX2_makeFrom_114 rfl rfl ?_
      refine Z_bipush (n := 118) dX2_makeFrom_116 rfl (by decide) (by decide) ?_
      refine Z_icmp_ge (n := 121) (t := 128) dX2_makeFrom_118 rfl (by decide) (fun c118 => ?_) (fun c118 => ?_)
      · refine Z_iconst (n := 129) dX2_makeFrom_128 rfl (by decide) ?_
        refine Z_iret dX2_makeFrom_129 rfl ?_
        refine ⟨rfl, by omega, by omega, hI, fun q => absurd q (by rw [← h5, ← h12, ← h20]; exact c27 (0, 49) (by decide)), fun q => absurd q (by rw [← h5, ← h12, ← h20]; exact c27 (255, 51) (by decide))⟩
      · refine Z_iload (n := 123) dX2_makeFrom_121 rfl rfl ?_
        refine Z_bipush (n := 125) dX2_makeFrom_123 rfl (by decide) (by decide) ?_
        refine Z_icmp_lt (n := 128) (t := 130) dX2_makeFrom_125 rfl (by decide) (fun c125 => ?_) (fun c125 => ?_)
        · refine Z_aload_n (n := 131) dX2_makeFrom_130 rfl rfl ?_
          refine Z_iload (n := 133) dX2_makeFrom_131 rfl rfl ?_
          refine Z_aload_n (n := 134) dX2_makeFrom_133 rfl rfl ?_
          refine Z_iload_n (n := 135) dX2_makeFrom_134 rfl rfl ?_
          refine Z_iload (n := 137) dX2_makeFrom_135 rfl rfl ?_
          refine Z_callVi (n := 140) [_, _] _ dX2_makeFrom_137 rfl cwX2_85 rfl rfl rfl (Nat.le_of_ble_eq_true rfl) ⟨by show 0 + 1 ≤ ((k + 1) + 2); omega, by show 8 + (3 + 11) + 40 * 0 ≤ 40 * ((k + 1) + 2); omega, Nat.le_refl _, Nat.le_refl _⟩ (fun _ _ => trivial) (zX2_lowAt  (by first | assumption | omega | decide) (by first | assumption | omega | decide)) ?_
          intro x137 M137 J137 z137 f137 q137
          obtain ⟨e137_1, e137_2, a137, b137, -⟩ := q137
          replace e137_1 := e137_1.symm; subst e137_1
          replace e137_2 := e137_2.symm; subst e137_2
          refine Z_aload_n (n := 141) dX2_makeFrom_140 rfl rfl ?_
          refine Z_iload_n (n := 142) dX2_makeFrom_141 rfl rfl ?_
          refine Z_iload (n := 144) dX2_makeFrom_142 rfl rfl ?_
          refine Z_callVi (n := 147) [_, _] _ dX2_makeFrom_144 rfl cwX2_85 rfl rfl rfl (Nat.le_of_ble_eq_true rfl) ⟨by show 0 + 1 ≤ ((k + 1) + 2); omega, by show 8 + (3 + 11) + 40 * 0 ≤ 40 * ((k + 1) + 2); omega, Nat.le_refl _, Nat.le_refl _⟩ (fun _ _ => trivial) (zX2_lowAt  (by first | assumption | omega | decide) (by first | assumption | omega | decide)) ?_
          intro x144 M144 J144 z144 f144 q144
          obtain ⟨e144_1, e144_2, a144, b144, -⟩ := q144
          replace e144_1 := e144_1.symm; subst e144_1
          replace e144_2 := e144_2.symm; subst e144_2
          refine Z_aload_n (n := 148) dX2_makeFrom_147 rfl rfl ?_
          refine Z_iload (n := 150) dX2_makeFrom_148 rfl rfl ?_
          refine Z_iload (n := 152) dX2_makeFrom_150 rfl rfl ?_
          refine Z_callVi (n := 155) [_, _] _ dX2_makeFrom_152 rfl cwX2_85 rfl rfl rfl (Nat.le_of_ble_eq_true rfl) ⟨by show 0 + 1 ≤ ((k + 1) + 2); omega, by show 8 + (3 + 11) + 40 * 0 ≤ 40 * ((k + 1) + 2); omega, Nat.le_refl _, Nat.le_refl _⟩ (fun _ _ => trivial) (zX2_lowAt  (by first | assumption | omega | decide) (by first | assumption | omega | decide)) ?_
          intro x152 M152 J152 z152 f152 q152
          obtain ⟨e152_1, e152_2, a152, b152, -⟩ := q152
          replace e152_1 := e152_1.symm; subst e152_1
          replace e152_2 := e152_2.symm; subst e152_2
          refine Z_iload (n := 157) dX2_makeFrom_155 rfl rfl ?_
          refine Z_iconst (n := 158) dX2_makeFrom_157 rfl (by decide) ?_
          refine Z_iadd (n := 159) dX2_makeFrom_158 rfl (by omega) ?_
          refine Z_callVi (n := 162) [_, _, _, _, _] _ dX2_makeFrom_159 rfl cwX2_71 rfl rfl rfl (Nat.le_of_ble_eq_true rfl) ⟨by show (k + 2) + 1 ≤ ((k + 1) + 2); omega, by show 8 + (10 + 11) + 40 * (k + 2) ≤ 40 * ((k + 1) + 2); omega, Nat.le_refl _, Nat.le_refl _⟩ (fun _ h => h) (@ih _ _ _ _ _ _ _  (by first | assumption | omega | decide) (by first | assumption | omega | decide) (by first | assumption | omega | decide) (by first | assumption | omega | decide) (by first | assumption | omega | decide) (by first | assumption | omega | decide) (by first | assumption | omega | decide) (by first | assumption | omega | decide) (by first | assumption | omega | decide)) ?_
          intro x159 M159 J159 z159 f159 q159
          obtain ⟨e159_1, l159, u159, pi159, -⟩ := q159
          replace e159_1 := e159_1.symm; subst e159_1
          refine Z_istore (L' := [_, _, _, _, _, _, _, _, _, _]) (n := 164) dX2_makeFrom_162 rfl (by decide) rfl rfl ?_
          refine Z_iload (n := 166) dX2_makeFrom_164 rfl rfl ?_
          refine Z_iconst (n := 167) dX2_makeFrom_166 rfl (by decide) ?_
          refine Z_icmp_ne (n := 170) (t := 172) dX2_makeFrom_167 rfl (by decide) (fun c167 => ?_) (fun c167 => ?_)
          · refine Z_aload_n (n := 173) dX2_makeFrom_172 rfl rfl ?_
            refine Z_iload (n := 175) dX2_makeFrom_173 rfl rfl ?_
            refine Z_aload_n (n := 176) dX2_makeFrom_175 rfl rfl ?_
            refine Z_iload_n (n := 177) dX2_makeFrom_176 rfl rfl ?_
            refine Z_iload (n := 179) dX2_makeFrom_177 rfl rfl ?_
            refine Z_callVi (n := 182) [_, _] _ dX2_makeFrom_179 rfl cwX2_88 rfl rfl rfl (Nat.le_of_ble_eq_true rfl) ⟨by show 0 + 1 ≤ ((k + 1) + 2); omega, by show 8 + (3 + 11) + 40 * 0 ≤ 40 * ((k + 1) + 2); omega, Nat.le_refl _, Nat.le_refl _⟩ (fun _ _ => trivial) (zX2_highAt  (by first | assumption | omega | decide) (by first | assumption | omega | decide)) ?_
            intro x179 M179 J179 z179 f179 q179
            obtain ⟨e179_1, e179_2, a179, b179, -⟩ := q179
            replace e179_1 := e179_1.symm; subst e179_1
            replace e179_2 := e179_2.symm; subst e179_2
            refine Z_aload_n (n := 183) dX2_makeFrom_182 rfl rfl ?_
            refine Z_iload_n (n := 184) dX2_makeFrom_183 rfl rfl ?_
            refine Z_iload (n := 186) dX2_makeFrom_184 rfl rfl ?_
            refine Z_callVi (n := 189) [_, _] _ dX2_makeFrom_186 rfl cwX2_88 rfl rfl rfl (Nat.le_of_ble_eq_true rfl) ⟨by show 0 + 1 ≤ ((k + 1) + 2); omega, by show 8 + (3 + 11) + 40 * 0 ≤ 40 * ((k + 1) + 2); omega, Nat.le_refl _, Nat.le_refl _⟩ (fun _ _ => trivial) (zX2_highAt  (by first | assumption | omega | decide) (by first | assumption | omega | decide)) ?_
            intro x186 M186 J186 z186 f186 q186
            obtain ⟨e186_1, e186_2, a186, b186, -⟩ := q186
            replace e186_1 := e186_1.symm; subst e186_1
            replace e186_2 := e186_2.symm; subst e186_2
            refine Z_aload_n (n := 190) dX2_makeFrom_189 rfl rfl ?_
            refine Z_iload (n := 192) dX2_makeFrom_190 rfl rfl ?_
            refine Z_iload (n := 194) dX2_makeFrom_192 rfl rfl ?_
            refine Z_callVi (n := 197) [_, _] _ dX2_makeFrom_194 rfl cwX2_88 rfl rfl rfl (Nat.le_of_ble_eq_true rfl) ⟨by show 0 + 1 ≤ ((k + 1) + 2); omega, by show 8 + (3 + 11) + 40 * 0 ≤ 40 * ((k + 1) + 2); omega, Nat.le_refl _, Nat.le_refl _⟩ (fun _ _ => trivial) (zX2_highAt  (by first | assumption | omega | decide) (by first | assumption | omega | decide)) ?_
            intro x194 M194 J194 z194 f194 q194
            obtain ⟨e194_1, e194_2, a194, b194, -⟩ := q194
            replace e194_1 := e194_1.symm; subst e194_1
            replace e194_2 := e194_2.symm; subst e194_2
            refine Z_iload (n := 199) dX2_makeFrom_197 rfl rfl ?_
            refine Z_iconst (n := 200) dX2_makeFrom_199 rfl (by decide) ?_
            refine Z_iadd (n := 201) dX2_makeFrom_200 rfl (by omega) ?_
            refine Z_callVi (n := 204) [_, _, _, _, _] _ dX2_makeFrom_201 rfl cwX2_71 rfl rfl rfl (Nat.le_of_ble_eq_true rfl) ⟨by show (k + 2) + 1 ≤ ((k + 1) + 2); omega, by show 8 + (10 + 11) + 40 * (k + 2) ≤ 40 * ((k + 1) + 2); omega, Nat.le_refl _, Nat.le_refl _⟩ (fun _ h => h) (@ih _ _ _ _ _ _ _  (by first | assumption | omega | decide) (by first | assumption | omega | decide) (by first | assumption | omega | decide) (by first | assumption | omega | decide) (by first | assumption | omega | decide) (by first | assumption | omega | decide) (by first | assumption | omega | decide) (by first | assumption | omega | decide) (by first | assumption | omega | decide)) ?_
            intro x201 M201 J201 z201 f201 q201
            obtain ⟨e201_1, l201, u201, pi201, -⟩ := q201
            replace e201_1 := e201_1.symm; subst e201_1
            refine Z_istore (L' := [_, _, _, _, _, _, _, _, _, _]) (n := 206) dX2_makeFrom_204 rfl (by decide) rfl rfl ?_
            refine Z_aload_n (n := 207) dX2_makeFrom_206 rfl rfl ?_
            refine Z_iload (n := 209) dX2_makeFrom_207 rfl rfl ?_
            refine Z_iload (n := 211) dX2_makeFrom_209 rfl rfl ?_
            refine Z_iload (n := 213) dX2_makeFrom_211 rfl rfl ?_
            refine Z_callVi (n := 216) [_, _, _] _ dX2_makeFrom_213 rfl cwX2_67 rfl rfl rfl (Nat.le_of_ble_eq_true rfl) ⟨by show 1 + 1 ≤ ((k + 1) + 2); omega, by show 8 + (6 + 11) + 40 * 1 ≤ 40 * ((k + 1) + 2); omega, Nat.le_refl _, Nat.le_refl _⟩ (fun _ h => h) (zX2_nodeFor  (by first | assumption | omega | decide) (by first | assumption | omega | decide) (by first | assumption | omega | decide) (by first | assumption | omega | decide) (by first | assumption | omega | decide) (by first | assumption | omega | decide) (by first | assumption | omega | decide)) ?_
            intro x213 M213 J213 z213 f213 q213
            obtain ⟨e213_1, l213, u213, pi213, -⟩ := q213
            replace e213_1 := e213_1.symm; subst e213_1
            refine Z_iret dX2_makeFrom_216 rfl ?_
            refine ⟨rfl, by omega, by omega, pi213 pi201, fun q => absurd q (by rw [← h5, ← h12, ← h20]; exact c27 (0, 49) (by decide)), fun q => absurd q (by rw [← h5, ← h12, ← h20]; exact c27 (255, 51) (by decide))⟩
          · refine Z_iconst (n := 171) dX2_makeFrom_170 rfl (by decide) ?_
            refine Z_iret dX2_makeFrom_171 rfl ?_
            refine ⟨rfl, by omega, by omega, pi159, fun q => absurd q (by rw [← h5, ← h12, ← h20]; exact c27 (0, 49) (by decide)), fun q => absurd q (by rw [← h5, ← h12, ← h20]; exact c27 (255, 51) (by decide))⟩
        · refine Z_iconst (n := 129) dX2_makeFrom_128 rfl (by decide) ?_
          refine Z_iret dX2_makeFrom_129 rfl ?_
          refine ⟨rfl, by omega, by omega, hI, fun q => absurd q (by rw [← h5, ← h12, ← h20]; exact c27 (0, 49) (by decide)), fun q => absurd q (by rw [← h5, ← h12, ← h20]; exact c27 (255, 51) (by decide))⟩
set_option maxRecDepth 20000 in
theorem zX2_make {G : tl_G} {M : zM} {J : zJ} {t u v w : Int} (h0 : 0 ≤ u) (h1 : u ≤ 251) (h2 : 0 ≤ v) (h3 : v ≤ 251) (h4 : 0 ≤ w) (h5 : w ≤ 251) (hI : pI M) : ZN G yX2_make mX2_make 11 kPool [vR 5, vI t, vI u, vI v, vI w] F1 M J (qI (fun x M' J' => J' = J ∧ -1 ≤ x ∧ x ≤ 251 ∧ pI M' ∧ (knF (knF (knF t u 1 85) v 2 51) w 4 15 = 0 → x = 0 ∧ M' = M) ∧ (knF (knF (knF t u 1 85) v 2 51) w 4 15 = 255 → x = 1 ∧ M' = M))) := by
  refine ZN_of (L := [_, _, _, _, _]) (by decide) rfl rfl (Nat.le_of_ble_eq_true rfl) rfl (fun hav => ?_)
  refine Z_aload_n (n := 1) dX2_make_0 rfl rfl ?_
  refine Z_iload_n (n := 2) dX2_make_1 rfl rfl ?_
  refine Z_iload_n (n := 3) dX2_make_2 rfl rfl ?_
  refine Z_iload_n (n := 4) dX2_make_3 rfl rfl ?_
  refine Z_iload (n := 6) dX2_make_4 rfl rfl ?_
  refine Z_iconst (n := 7) dX2_make_6 rfl (by decide) ?_
  refine Z_callVi (n := 10) [_, _, _, _, _] _ dX2_make_7 rfl cwX2_71 rfl rfl rfl (Nat.le_of_ble_eq_true rfl) (by refine ⟨?_, ?_, ?_, ?_⟩ <;> exact Nat.le_of_ble_eq_true rfl) (fun _ h => h) (zX2_makeFrom 8  (by first | assumption | omega | decide) (by first | assumption | omega | decide) (by first | assumption | omega | decide) (by first | assumption | omega | decide) (by first | assumption | omega | decide) (by first | assumption | omega | decide) (by first | assumption | omega | decide) (by first | assumption | omega | decide) (by first | assumption | omega | decide)) ?_
  intro x7 M7 J7 z7 f7 q7
  obtain ⟨e7_1, l7, u7, pi7, h7⟩ := q7
  replace e7_1 := e7_1.symm; subst e7_1
  refine Z_iret dX2_make_10 rfl ?_
  exact ⟨rfl, l7, u7, pi7, h7⟩
set_option maxRecDepth 20000 in
theorem zX2_fixFrom {G : tl_G} {M : zM} {J : zJ} (k : Nat) {n p y e : Int} (h0 : 0 ≤ n) (h1 : n ≤ 251) (h2 : 0 ≤ p) (h3 : p ≤ 7) (h6 : 0 ≤ e) (h7 : e + k = 8) (hI : pI M) : ZN G yX2_fixFrom mX2_fixFrom (k + 2) kPool [vR 5, vI n, vI p, vI y, vI e] F1 M J (qI (fun x M' J' => J' = J ∧ -1 ≤ x ∧ x ≤ 251 ∧ pI M')) := by
  induction k generalizing M J n p y e with
  | zero =>
    refine ZN_of (L := [_, _, _, _, _, _, _]) (by decide) rfl rfl (Nat.le_of_ble_eq_true rfl) rfl (fun hav => ?_)
    refine Z_aload_n (n := 1) dX2_fixFrom_0 rfl rfl ?_
    refine Z_getA (n := 4) dX2_fixFrom_1 rfl ffX2_11 rfl rfl ?_
    refine Z_iload_n (n := 5) dX2_fixFrom_4 rfl rfl ?_
    refine Z_iald (n := 6) dX2_fixFrom_5 rfl rfl rfl (by first | decide | assumption) (by omega) (by omega) (fun r5 s5 => ?_)
    refine Z_iload_n (n := 7) dX2_fixFrom_6 rfl rfl ?_
    refine Z_icmp_le (n := 10) (t := 12) dX2_fixFrom_7 rfl (by decide) (fun c7 => ?_) (fun c7 => ?_)
    · have hn : 2 ≤ n := pI_ge hI h0 (by omega)
      refine Z_aload_n (n := 13) dX2_fixFrom_12 rfl rfl ?_
      refine Z_getA (n := 16) dX2_fixFrom_13 rfl ffX2_11 rfl rfl ?_
      refine Z_iload_n (n := 17) dX2_fixFrom_16 rfl rfl ?_
      refine Z_iald (n := 18) dX2_fixFrom_17 rfl rfl rfl (by first | decide | assumption) (by omega) (by omega) (fun r17 s17 => ?_)
      refine Z_iload_n (n := 19) dX2_fixFrom_18 rfl rfl ?_
      refine Z_icmp_ne (n := 22) (t := 42) dX2_fixFrom_19 rfl (by decide) (fun c19 => ?_) (fun c19 => ?_)
      · refine Z_iload (n := 44) dX2_fixFrom_42 rfl rfl ?_
        refine Z_bipush (n := 46) dX2_fixFrom_44 rfl (by decide) (by decide) ?_
        refine Z_icmp_lt (n := 49) (t := 51) dX2_fixFrom_46 rfl (by decide) (fun c46 => ?_) (fun c46 => ?_)
        · omega
        · refine Z_iconst (n := 50) dX2_fixFrom_49 rfl (by decide) ?_
          refine Z_iret dX2_fixFrom_50 rfl ?_
          exact ⟨rfl, by omega, by omega, hI⟩
      · refine Z_iload_n (n := 23) dX2_fixFrom_22 rfl rfl ?_
        refine Z_if_eq (n := 26) (t := 35) dX2_fixFrom_23 rfl (by decide) (fun c23 => ?_) (fun c23 => ?_)
        · refine Z_aload_n (n := 36) dX2_fixFrom_35 rfl rfl ?_
          refine Z_getA (n := 39) dX2_fixFrom_36 rfl ffX2_15 rfl rfl ?_
          refine Z_iload_n (n := 40) dX2_fixFrom_39 rfl rfl ?_
          refine Z_iald (n := 41) dX2_fixFrom_40 rfl rfl rfl (by first | decide | assumption) (by omega) (by omega) (fun r40 s40 => ?_)
          refine Z_iret dX2_fixFrom_41 rfl ?_
          exact ⟨rfl, by omega, by omega, hI⟩
        · refine Z_aload_n (n := 27) dX2_fixFrom_26 rfl rfl ?_
          refine Z_getA (n := 30) dX2_fixFrom_27 rfl ffX2_18 rfl rfl ?_
          refine Z_iload_n (n := 31) dX2_fixFrom_30 rfl rfl ?_
          refine Z_iald (n := 32) dX2_fixFrom_31 rfl rfl rfl (by first | decide | assumption) (by omega) (by omega) (fun r31 s31 => ?_)
          refine Z_goto (t := 41) dX2_fixFrom_32 (by decide) ?_
          refine Z_iret dX2_fixFrom_41 rfl ?_
          exact ⟨rfl, by omega, by omega, hI⟩
    · refine Z_iload_n (n := 11) dX2_fixFrom_10 rfl rfl ?_
      refine Z_iret dX2_fixFrom_11 rfl ?_
      exact ⟨rfl, by omega, by omega, hI⟩
  | succ k ih =>
    refine ZN_of (L := [_, _, _, _, _, _, _]) (by decide) rfl rfl (Nat.le_of_ble_eq_true rfl) rfl (fun hav => ?_)
    refine Z_aload_n (n := 1) dX2_fixFrom_0 rfl rfl ?_
    refine Z_getA (n := 4) dX2_fixFrom_1 rfl ffX2_11 rfl rfl ?_
    refine Z_iload_n (n := 5) dX2_fixFrom_4 rfl rfl ?_
    refine Z_iald (n := 6) dX2_fixFrom_5 rfl rfl rfl (by first | decide | assumption) (by omega) (by omega) (fun r5 s5 => ?_)
    refine Z_iload_n (n := 7) dX2_fixFrom_6 rfl rfl ?_
    refine Z_icmp_le (n := 10) (t := 12) dX2_fixFrom_7 rfl (by decide) (fun c7 => ?_) (fun c7 => ?_)
    · have hn : 2 ≤ n := pI_ge hI h0 (by omega)
      refine Z_aload_n (n := 13) dX2_fixFrom_12 rfl rfl ?_
      refine Z_getA (n := 16) dX2_fixFrom_13 rfl ffX2_11 rfl rfl ?_
      refine Z_iload_n (n := 17) dX2_fixFrom_16 rfl rfl ?_
      refine Z_iald (n := 18) dX2_fixFrom_17 rfl rfl rfl (by first | decide | assumption) (by omega) (by omega) (fun r17 s17 => ?_)
      refine Z_iload_n (n := 19) dX2_fixFrom_18 rfl rfl ?_
      refine Z_icmp_ne (n := 22) (t := 42) dX2_fixFrom_19 rfl (by decide) (fun c19 => ?_) (fun c19 => ?_)
      · refine Z_iload (n := 44) dX2_fixFrom_42 rfl rfl ?_
        refine Z_bipush (n := 46) dX2_fixFrom_44 rfl (by decide) (by decide) ?_
        refine Z_icmp_lt (n := 49) (t := 51) dX2_fixFrom_46 rfl (by decide) (fun c46 => ?_) (fun c46 => ?_)
        · refine Z_aload_n (n := 52) dX2_fixFrom_51 rfl rfl ?_
          refine Z_aload_n (n := 53) dX2_fixFrom_52 rfl rfl ?_
          refine Z_getA (n := 56) dX2_fixFrom_53 rfl ffX2_15 rfl rfl ?_
          refine Z_iload_n (n := 57) dX2_fixFrom_56 rfl rfl ?_
          refine Z_iald (n := 58) dX2_fixFrom_57 rfl rfl rfl (by first | decide | assumption) (by omega) (by omega) (fun r57 s57 => ?_)
          refine Z_iload_n (n := 59) dX2_fixFrom_58 rfl rfl ?_
          refine Z_iload_n (n := 60) dX2_fixFrom_59 rfl rfl ?_
          refine Z_iload (n := 62) dX2_fixFrom_60 rfl rfl ?_
          refine Z_iconst (n := 63) dX2_fixFrom_62 rfl (by decide) ?_
          refine Z_iadd (n := 64) dX2_fixFrom_63 rfl (by omega) ?_
          refine Z_callVi (n := 67) [_, _, _, _] _ dX2_fixFrom_64 rfl cwX2_91 rfl rfl rfl (Nat.le_of_ble_eq_true rfl) ⟨by show (k + 2) + 1 ≤ ((k + 1) + 2); omega, by show 8 + (7 + 11) + 40 * (k + 2) ≤ 40 * ((k + 1) + 2); omega, Nat.le_refl _, Nat.le_refl _⟩ (fun _ h => h) (@ih _ _ _ _ _ _  (by first | assumption | omega | decide) (by first | assumption | omega | decide) (by first | assumption | omega | decide) (by first | assumption | omega | decide) (by first | assumption | omega | decide) (by first | assumption | omega | decide) (by first | assumption | omega | decide)) ?_
          intro x64 M64 J64 z64 f64 q64
          obtain ⟨e64_1, l64, u64, pi64⟩ := q64
          replace e64_1 := e64_1.symm; subst e64_1
          refine Z_istore (L' := [_, _, _, _, _, _, _]) (n := 69) dX2_fixFrom_67 rfl (by decide) rfl rfl ?_
          refine Z_iload (n := 71) dX2_fixFrom_69 rfl rfl ?_
          refine Z_iconst (n := 72) dX2_fixFrom_71 rfl (by decide) ?_
          refine Z_icmp_ne (n := 75) (t := 77) dX2_fixFrom_72 rfl (by decide) (fun c72 => ?_) (fun c72 => ?_)
          · refine Z_aload_n (n := 78) dX2_fixFrom_77 rfl rfl ?_
            refine Z_aload_n (n := 79) dX2_fixFrom_78 rfl rfl ?_
            refine Z_getA (n := 82) dX2_fixFrom_79 rfl ffX2_18 rfl rfl ?_
            refine Z_iload_n (n := 83) dX2_fixFrom_82 rfl rfl ?_
            refine Z_iald (n := 84) dX2_fixFrom_83 rfl rfl rfl (by first | decide | assumption) (by omega) (by omega) (fun r83 s83 => ?_)
            refine Z_iload_n (n := 85) dX2_fixFrom_84 rfl rfl ?_
            refine Z_iload_n (n := 86) dX2_fixFrom_85 rfl rfl ?_
            refine Z_iload (n := 88) dX2_fixFrom_86 rfl rfl ?_
            refine Z_iconst (n := 89) dX2_fixFrom_88 rfl (by decide) ?_
            refine Z_iadd (n := 90) dX2_fixFrom_89 rfl (by omega) ?_
            refine Z_callVi (n := 93) [_, _, _, _] _ dX2_fixFrom_90 rfl cwX2_91 rfl rfl rfl (Nat.le_of_ble_eq_true rfl) ⟨by show (k + 2) + 1 ≤ ((k + 1) + 2); omega, by show 8 + (7 + 11) + 40 * (k + 2) ≤ 40 * ((k + 1) + 2); omega, Nat.le_refl _, Nat.le_refl _⟩ (fun _ h => h) (@ih _ _ _ _ _ _  (by first | assumption | omega | decide) (by first | assumption | omega | decide) (by first | assumption | omega | decide) (by first | assumption | omega | decide) (by first | assumption | omega | decide) (by first | assumption | omega | decide) (by first | assumption | omega | decide)) ?_
            intro x90 M90 J90 z90 f90 q90
            obtain ⟨e90_1, l90, u90, pi90⟩ := q90
            replace e90_1 := e90_1.symm; subst e90_1
            refine Z_istore (L' := [_, _, _, _, _, _, _]) (n := 95) dX2_fixFrom_93 rfl (by decide) rfl rfl ?_
            refine Z_aload_n (n := 96) dX2_fixFrom_95 rfl rfl ?_
            refine Z_aload_n (n := 97) dX2_fixFrom_96 rfl rfl ?_
            refine Z_getA (n := 100) dX2_fixFrom_97 rfl ffX2_11 rfl rfl ?_
            refine Z_iload_n (n := 101) dX2_fixFrom_100 rfl rfl ?_
            refine Z_iald (n := 102) dX2_fixFrom_101 rfl rfl rfl (by first | decide | assumption) (by omega) (by omega) (fun r101 s101 => ?_)
            refine Z_iload (n := 104) dX2_fixFrom_102 rfl rfl ?_
            refine Z_iload (n := 106) dX2_fixFrom_104 rfl rfl ?_
            rw [if_neg (by omega)] at s101
            refine Z_callVi (n := 109) [_, _, _] _ dX2_fixFrom_106 rfl cwX2_67 rfl rfl rfl (Nat.le_of_ble_eq_true rfl) ⟨by show 1 + 1 ≤ ((k + 1) + 2); omega, by show 8 + (6 + 11) + 40 * 1 ≤ 40 * ((k + 1) + 2); omega, Nat.le_refl _, Nat.le_refl _⟩ (fun _ h => h) (zX2_nodeFor  (by first | assumption | omega | decide) (by first | assumption | omega | decide) (by first | assumption | omega | decide) (by first | assumption | omega | decide) (by first | assumption | omega | decide) (by first | assumption | omega | decide) (by first | assumption | omega | decide)) ?_
            intro x106 M106 J106 z106 f106 q106
            obtain ⟨e106_1, l106, u106, pi106, -⟩ := q106
            replace e106_1 := e106_1.symm; subst e106_1
            refine Z_iret dX2_fixFrom_109 rfl ?_
            exact ⟨rfl, by omega, by omega, pi106 pi90⟩
          · refine Z_iconst (n := 76) dX2_fixFrom_75 rfl (by decide) ?_
            refine Z_iret dX2_fixFrom_76 rfl ?_
            exact ⟨rfl, by omega, by omega, pi64⟩
        · refine Z_iconst (n := 50) dX2_fixFrom_49 rfl (by decide) ?_
          refine Z_iret dX2_fixFrom_50 rfl ?_
          exact ⟨rfl, by omega, by omega, hI⟩
      · refine Z_iload_n (n := 23) dX2_fixFrom_22 rfl rfl ?_
        refine Z_if_eq (n := 26) (t := 35) dX2_fixFrom_23 rfl (by decide) (fun c23 => ?_) (fun c23 => ?_)
        · refine Z_aload_n (n := 36) dX2_fixFrom_35 rfl rfl ?_
          refine Z_getA (n := 39) dX2_fixFrom_36 rfl ffX2_15 rfl rfl ?_
          refine Z_iload_n (n := 40) dX2_fixFrom_39 rfl rfl ?_
          refine Z_iald (n := 41) dX2_fixFrom_40 rfl rfl rfl (by first | decide | assumption) (by omega) (by omega) (fun r40 s40 => ?_)
          refine Z_iret dX2_fixFrom_41 rfl ?_
          exact ⟨rfl, by omega, by omega, hI⟩
        · refine Z_aload_n (n := 27) dX2_fixFrom_26 rfl rfl ?_
          refine Z_getA (n := 30) dX2_fixFrom_27 rfl ffX2_18 rfl rfl ?_
          refine Z_iload_n (n := 31) dX2_fixFrom_30 rfl rfl ?_
          refine Z_iald (n := 32) dX2_fixFrom_31 rfl rfl rfl (by first | decide | assumption) (by omega) (by omega) (fun r31 s31 => ?_)
          refine Z_goto (t := 41) dX2_fixFrom_32 (by decide) ?_
          refine Z_iret dX2_fixFrom_41 rfl ?_
          exact ⟨rfl, by omega, by omega, hI⟩
    · refine Z_iload_n (n := 11) dX2_fixFrom_10 rfl rfl ?_
      refine Z_iret dX2_fixFrom_11 rfl ?_
      exact ⟨rfl, by omega, by omega, hI⟩
set_option maxRecDepth 20000 in
theorem zX2_makeFixed {G : tl_G} {M : zM} {J : zJ} {n p y : Int} (h0 : 0 ≤ n) (h1 : n ≤ 251) (h2 : 0 ≤ p) (h3 : p ≤ 7) (hI : pI M) : ZN G yX2_makeFixed mX2_makeFixed 11 kPool [vR 5, vI n, vI p, vI y] F1 M J (qI (fun x M' J' => J' = J ∧ -1 ≤ x ∧ x ≤ 251 ∧ pI M')) := by
  refine ZN_of (L := [_, _, _, _]) (by decide) rfl rfl (Nat.le_of_ble_eq_true rfl) rfl (fun hav => ?_)
  refine Z_aload_n (n := 1) dX2_makeFixed_0 rfl rfl ?_
  refine Z_iload_n (n := 2) dX2_makeFixed_1 rfl rfl ?_
  refine Z_iload_n (n := 3) dX2_makeFixed_2 rfl rfl ?_
  refine Z_iload_n (n := 4) dX2_makeFixed_3 rfl rfl ?_
  refine Z_iconst (n := 5) dX2_makeFixed_4 rfl (by decide) ?_
  refine Z_callVi (n := 8) [_, _, _, _] _ dX2_makeFixed_5 rfl cwX2_91 rfl rfl rfl (Nat.le_of_ble_eq_true rfl) (by refine ⟨?_, ?_, ?_, ?_⟩ <;> exact Nat.le_of_ble_eq_true rfl) (fun _ h => h) (zX2_fixFrom 8  (by first | assumption | omega | decide) (by first | assumption | omega | decide) (by first | assumption | omega | decide) (by first | assumption | omega | decide) (by first | assumption | omega | decide) (by first | assumption | omega | decide) (by first | assumption | omega | decide)) ?_
  intro x5 M5 J5 z5 f5 q5
  obtain ⟨e5_1, l5, u5, pi5⟩ := q5
  replace e5_1 := e5_1.symm; subst e5_1
  refine Z_iret dX2_makeFixed_8 rfl ?_
  exact ⟨rfl, l5, u5, pi5⟩
set_option maxRecDepth 20000 in
theorem zX2_valueFor {G : tl_G} {M : zM} {J : zJ} {n a : Int} (h0 : 0 ≤ n) (h1 : n ≤ 251) : ZN G yX2_valueFor mX2_valueFor 1 kAll [vR 5, vI n, vI a, vR 2] F1 M J (qI (fun x M' J' => M' = M ∧ J' = J ∧ 0 ≤ x ∧ x ≤ 1)) := by
  refine ZN_of (L := [_, _, _, _, _, _, _]) (by decide) rfl rfl (Nat.le_of_ble_eq_true rfl) rfl (fun hav => ?_)
  refine Z_iload_n (n := 1) dX2_valueFor_0 rfl rfl ?_
  refine Z_istore (L' := [_, _, _, _, _, _, _]) (n := 3) dX2_valueFor_1 rfl (by decide) rfl rfl ?_
  refine Z_iconst (n := 4) dX2_valueFor_3 rfl (by decide) ?_
  refine Z_istore (L' := [_, _, _, _, _, _, _]) (n := 6) dX2_valueFor_4 rfl (by decide) rfl rfl ?_
  have lp6 : ∀ (N6 : Nat) (c i : Int) , ((8 - i).toNat) < N6 → (0 ≤ c) → (c ≤ 251) → (0 ≤ i) → (i ≤ 8) → TZ G mX2_valueFor (tl_rm 1 0 0) 0 0 kAll M J 6 [some (vR 5), some (vI n), some (vI a), some (vR 2), some (vI c), some (vI i), none] [] F1 M J (ZM G (zPost G kAll F1 M J (qI (fun x M' J' => M' = M ∧ J' = J ∧ 0 ≤ x ∧ x ≤ 1))) 0 0) := by
    intro N6
    induction N6 with
    | zero => intro c i  hN; omega
    | succ N6 ih6 =>
      intro c i  hN6 i6_0 i6_1 i6_2 i6_3
      refine Z_iload (n := 8) dX2_valueFor_6 rfl rfl ?_
      refine Z_bipush (n := 10) dX2_valueFor_8 rfl (by decide) (by decide) ?_
      refine Z_icmp_ge (n := 13) (t := 75) dX2_valueFor_10 rfl (by decide) (fun c10 => ?_) (fun c10 => ?_)
      · refine Z_iload (n := 77) dX2_valueFor_75 rfl rfl ?_
        refine Z_iconst (n := 78) dX2_valueFor_77 rfl (by decide) ?_
        refine Z_icmp_ne (n := 81) (t := 85) dX2_valueFor_78 rfl (by decide) (fun c78 => ?_) (fun c78 => ?_)
        · refine Z_iconst (n := 86) dX2_valueFor_85 rfl (by decide) ?_
          refine Z_iret dX2_valueFor_86 rfl ?_
          refine ⟨rfl, rfl, ?_⟩; omega
        · refine Z_iconst (n := 82) dX2_valueFor_81 rfl (by decide) ?_
          refine Z_goto (t := 86) dX2_valueFor_82 (by decide) ?_
          refine Z_iret dX2_valueFor_86 rfl ?_
          refine ⟨rfl, rfl, ?_⟩; omega
      · refine Z_iload (n := 15) dX2_valueFor_13 rfl rfl ?_
        refine Z_iconst (n := 16) dX2_valueFor_15 rfl (by decide) ?_
        refine Z_icmp_lt (n := 19) (t := 75) dX2_valueFor_16 rfl (by decide) (fun c16 => ?_) (fun c16 => ?_)
        · refine Z_iload (n := 77) dX2_valueFor_75 rfl rfl ?_
          refine Z_iconst (n := 78) dX2_valueFor_77 rfl (by decide) ?_
          refine Z_icmp_ne (n := 81) (t := 85) dX2_valueFor_78 rfl (by decide) (fun c78 => ?_) (fun c78 => ?_)
          · refine Z_iconst (n := 86) dX2_valueFor_85 rfl (by decide) ?_
            refine Z_iret dX2_valueFor_86 rfl ?_
            refine ⟨rfl, rfl, ?_⟩; omega
          · refine Z_iconst (n := 82) dX2_valueFor_81 rfl (by decide) ?_
            refine Z_goto (t := 86) dX2_valueFor_82 (by decide) ?_
            refine Z_iret dX2_valueFor_86 rfl ?_
            refine ⟨rfl, rfl, ?_⟩; omega
        · refine Z_iload_n (n := 20) dX2_valueFor_19 rfl rfl ?_
          refine Z_aload_n (n := 21) dX2_valueFor_20 rfl rfl ?_
          refine Z_aload_n (n := 22) dX2_valueFor_21 rfl rfl ?_
          refine Z_getA (n := 25) dX2_valueFor_22 rfl ffX2_11 rfl rfl ?_
          refine Z_iload (n := 27) dX2_valueFor_25 rfl rfl ?_
          refine Z_iald (n := 28) dX2_valueFor_27 rfl rfl rfl (by first | decide | assumption) (by omega) (by omega) (fun r27 s27 => ?_)
          rw [if_neg (by omega)] at s27
          refine Z_callVi (n := 31) [_] _ dX2_valueFor_28 rfl cwX2_95 rfl rfl rfl (Nat.le_of_ble_eq_true rfl) (by refine ⟨?_, ?_, ?_, ?_⟩ <;> exact Nat.le_of_ble_eq_true rfl) (fun _ h => h) (zX1_variableAt  (by first | assumption | omega | decide) (by first | assumption | omega | decide)) ?_
          intro x28 M28 J28 z28 f28 q28
          obtain ⟨e28_1, e28_2, h28⟩ := q28
          replace e28_1 := e28_1.symm; subst e28_1
          replace e28_2 := e28_2.symm; subst e28_2
          refine Z_ishr (n := 32) dX2_valueFor_31 rfl ?_
          refine Z_iconst (n := 33) dX2_valueFor_32 rfl (by decide) ?_
          refine Z_iand (n := 34) dX2_valueFor_33 rfl ?_
          refine Z_iconst (n := 35) dX2_valueFor_34 rfl (by decide) ?_
          refine Z_icmp_ne (n := 38) (t := 42) dX2_valueFor_35 rfl (by decide) (fun c35 => ?_) (fun c35 => ?_)
          · refine Z_iconst (n := 43) dX2_valueFor_42 rfl (by decide) ?_
            refine Z_istore (L' := [_, _, _, _, _, _, _]) (n := 45) dX2_valueFor_43 rfl (by decide) rfl rfl ?_
            refine Z_iload (n := 47) dX2_valueFor_45 rfl rfl ?_
            refine Z_if_eq (n := 50) (t := 60) dX2_valueFor_47 rfl (by decide) (fun c47 => ?_) (fun c47 => ?_)
            · refine Z_aload_n (n := 61) dX2_valueFor_60 rfl rfl ?_
              refine Z_getA (n := 64) dX2_valueFor_61 rfl ffX2_15 rfl rfl ?_
              refine Z_iload (n := 66) dX2_valueFor_64 rfl rfl ?_
              refine Z_iald (n := 67) dX2_valueFor_66 rfl rfl rfl (by first | decide | assumption) (by omega) (by omega) (fun r66 s66 => ?_)
              refine Z_istore (L' := [_, _, _, _, _, _, _]) (n := 69) dX2_valueFor_67 rfl (by decide) rfl rfl ?_
              refine Z_iinc (L' := [_, _, _, _, _, _, _]) (n := 72) dX2_valueFor_69 rfl rfl (by decide) rfl rfl (by omega) rfl ?_
              refine Z_goto (t := 6) dX2_valueFor_72 (by decide) ?_
              refine Z_loc (L' := [some _, some _, some _, some _, some _, some _, none]) (lsub_same (lsub_same (lsub_same (lsub_same (lsub_same (lsub_same (lsub_none lsub_nil))))))) ?_
              exact ih6 _ _  (by omega) (by first | assumption | omega | decide) (by first | assumption | omega | decide) (by first | assumption | omega | decide) (by first | assumption | omega | decide)
            · refine Z_aload_n (n := 51) dX2_valueFor_50 rfl rfl ?_
              refine Z_getA (n := 54) dX2_valueFor_51 rfl ffX2_18 rfl rfl ?_
              refine Z_iload (n := 56) dX2_valueFor_54 rfl rfl ?_
              refine Z_iald (n := 57) dX2_valueFor_56 rfl rfl rfl (by first | decide | assumption) (by omega) (by omega) (fun r56 s56 => ?_)
              refine Z_goto (t := 67) dX2_valueFor_57 (by decide) ?_
              refine Z_istore (L' := [_, _, _, _, _, _, _]) (n := 69) dX2_valueFor_67 rfl (by decide) rfl rfl ?_
              refine Z_iinc (L' := [_, _, _, _, _, _, _]) (n := 72) dX2_valueFor_69 rfl rfl (by decide) rfl rfl (by omega) rfl ?_
              refine Z_goto (t := 6) dX2_valueFor_72 (by decide) ?_
              refine Z_loc (L' := [some _, some _, some _, some _, some _, some _, none]) (lsub_same (lsub_same (lsub_same (lsub_same (lsub_same (lsub_same (lsub_none lsub_nil))))))) ?_
              exact ih6 _ _  (by omega) (by first | assumption | omega | decide) (by first | assumption | omega | decide) (by first | assumption | omega | decide) (by first | assumption | omega | decide)
          · refine Z_iconst (n := 39) dX2_valueFor_38 rfl (by decide) ?_
            refine Z_goto (t := 43) dX2_valueFor_39 (by decide) ?_
            refine Z_istore (L' := [_, _, _, _, _, _, _]) (n := 45) dX2_valueFor_43 rfl (by decide) rfl rfl ?_
            refine Z_iload (n := 47) dX2_valueFor_45 rfl rfl ?_
            refine Z_if_eq (n := 50) (t := 60) dX2_valueFor_47 rfl (by decide) (fun c47 => ?_) (fun c47 => ?_)
            · refine Z_aload_n (n := 61) dX2_valueFor_60 rfl rfl ?_
              refine Z_getA (n := 64) dX2_valueFor_61 rfl ffX2_15 rfl rfl ?_
              refine Z_iload (n := 66) dX2_valueFor_64 rfl rfl ?_
              refine Z_iald (n := 67) dX2_valueFor_66 rfl rfl rfl (by first | decide | assumption) (by omega) (by omega) (fun r66 s66 => ?_)
              refine Z_istore (L' := [_, _, _, _, _, _, _]) (n := 69) dX2_valueFor_67 rfl (by decide) rfl rfl ?_
              refine Z_iinc (L' := [_, _, _, _, _, _, _]) (n := 72) dX2_valueFor_69 rfl rfl (by decide) rfl rfl (by omega) rfl ?_
              refine Z_goto (t := 6) dX2_valueFor_72 (by decide) ?_
              refine Z_loc (L' := [some _, some _, some _, some _, some _, some _, none]) (lsub_same (lsub_same (lsub_same (lsub_same (lsub_same (lsub_same (lsub_none lsub_nil))))))) ?_
              exact ih6 _ _  (by omega) (by first | assumption | omega | decide) (by first | assumption | omega | decide) (by first | assumption | omega | decide) (by first | assumption | omega | decide)
            · refine Z_aload_n (n := 51) dX2_valueFor_50 rfl rfl ?_
              refine Z_getA (n := 54) dX2_valueFor_51 rfl ffX2_18 rfl rfl ?_
              refine Z_iload (n := 56) dX2_valueFor_54 rfl rfl ?_
              refine Z_iald (n := 57) dX2_valueFor_56 rfl rfl rfl (by first | decide | assumption) (by omega) (by omega) (fun r56 s56 => ?_)
              refine Z_goto (t := 67) dX2_valueFor_57 (by decide) ?_
              refine Z_istore (L' := [_, _, _, _, _, _, _]) (n := 69) dX2_valueFor_67 rfl (by decide) rfl rfl ?_
              refine Z_iinc (L' := [_, _, _, _, _, _, _]) (n := 72) dX2_valueFor_69 rfl rfl (by decide) rfl rfl (by omega) rfl ?_
              refine Z_goto (t := 6) dX2_valueFor_72 (by decide) ?_
              refine Z_loc (L' := [some _, some _, some _, some _, some _, some _, none]) (lsub_same (lsub_same (lsub_same (lsub_same (lsub_same (lsub_same (lsub_none lsub_nil))))))) ?_
              exact ih6 _ _  (by omega) (by first | assumption | omega | decide) (by first | assumption | omega | decide) (by first | assumption | omega | decide) (by first | assumption | omega | decide)
  refine Z_loc (L' := [some _, some _, some _, some _, some _, some _, none]) (lsub_same (lsub_same (lsub_same (lsub_same (lsub_same (lsub_same (lsub_none lsub_nil))))))) ?_
  exact lp6 _ _ _  (Nat.lt_succ_self _) (by first | assumption | omega | decide) (by first | assumption | omega | decide) (by first | assumption | omega | decide) (by first | assumption | omega | decide)
set_option maxRecDepth 20000 in
theorem zX2_leastFor {G : tl_G} {M : zM} {J : zJ} {n s : Int} (h0 : 0 ≤ n) (h1 : n ≤ 251) : ZN G yX2_leastFor mX2_leastFor 1 kAll [vR 5, vI n, vI s, vR 2] F1 M J (qI (fun x M' J' => M' = M ∧ J' = J)) := by
  refine ZN_of (L := [_, _, _, _, _, _, _]) (by decide) rfl rfl (Nat.le_of_ble_eq_true rfl) rfl (fun hav => ?_)
  refine Z_iload_n (n := 1) dX2_leastFor_0 rfl rfl ?_
  refine Z_istore (L' := [_, _, _, _, _, _, _]) (n := 3) dX2_leastFor_1 rfl (by decide) rfl rfl ?_
  refine Z_iconst (n := 4) dX2_leastFor_3 rfl (by decide) ?_
  refine Z_istore (L' := [_, _, _, _, _, _, _]) (n := 6) dX2_leastFor_4 rfl (by decide) rfl rfl ?_
  refine Z_iconst (n := 7) dX2_leastFor_6 rfl (by decide) ?_
  refine Z_istore (L' := [_, _, _, _, _, _, _]) (n := 9) dX2_leastFor_7 rfl (by decide) rfl rfl ?_
  have lp9 : ∀ (N9 : Nat) (c a i : Int) , ((8 - i).toNat) < N9 → (0 ≤ c) → (c ≤ 251) → (0 ≤ i) → (i ≤ 8) → TZ G mX2_leastFor (tl_rm 1 0 0) 0 0 kAll M J 9 [some (vR 5), some (vI n), some (vI s), some (vR 2), some (vI c), some (vI a), some (vI i)] [] F1 M J (ZM G (zPost G kAll F1 M J (qI (fun x M' J' => M' = M ∧ J' = J))) 0 0) := by
    intro N9
    induction N9 with
    | zero => intro c a i  hN; omega
    | succ N9 ih9 =>
      intro c a i  hN9 i9_0 i9_1 i9_2 i9_3
      refine Z_iload (n := 11) dX2_leastFor_9 rfl rfl ?_
      refine Z_bipush (n := 13) dX2_leastFor_11 rfl (by decide) (by decide) ?_
      refine Z_icmp_ge (n := 16) (t := 89) dX2_leastFor_13 rfl (by decide) (fun c13 => ?_) (fun c13 => ?_)
      · refine Z_iload (n := 91) dX2_leastFor_89 rfl rfl ?_
        refine Z_iload_n (n := 92) dX2_leastFor_91 rfl rfl ?_
        refine Z_icmp_ne (n := 95) (t := 100) dX2_leastFor_92 rfl (by decide) (fun c92 => ?_) (fun c92 => ?_)
        · refine Z_bipush (n := 102) dX2_leastFor_100 rfl (by decide) (by decide) ?_
          refine Z_iret dX2_leastFor_102 rfl ?_
          exact ⟨rfl, rfl⟩
        · refine Z_iload (n := 97) dX2_leastFor_95 rfl rfl ?_
          refine Z_goto (t := 102) dX2_leastFor_97 (by decide) ?_
          refine Z_iret dX2_leastFor_102 rfl ?_
          exact ⟨rfl, rfl⟩
      · refine Z_iload (n := 18) dX2_leastFor_16 rfl rfl ?_
        refine Z_iconst (n := 19) dX2_leastFor_18 rfl (by decide) ?_
        refine Z_icmp_lt (n := 22) (t := 89) dX2_leastFor_19 rfl (by decide) (fun c19 => ?_) (fun c19 => ?_)
        · refine Z_iload (n := 91) dX2_leastFor_89 rfl rfl ?_
          refine Z_iload_n (n := 92) dX2_leastFor_91 rfl rfl ?_
          refine Z_icmp_ne (n := 95) (t := 100) dX2_leastFor_92 rfl (by decide) (fun c92 => ?_) (fun c92 => ?_)
          · refine Z_bipush (n := 102) dX2_leastFor_100 rfl (by decide) (by decide) ?_
            refine Z_iret dX2_leastFor_102 rfl ?_
            exact ⟨rfl, rfl⟩
          · refine Z_iload (n := 97) dX2_leastFor_95 rfl rfl ?_
            refine Z_goto (t := 102) dX2_leastFor_97 (by decide) ?_
            refine Z_iret dX2_leastFor_102 rfl ?_
            exact ⟨rfl, rfl⟩
        · refine Z_aload_n (n := 23) dX2_leastFor_22 rfl rfl ?_
          refine Z_getA (n := 26) dX2_leastFor_23 rfl ffX2_15 rfl rfl ?_
          refine Z_iload (n := 28) dX2_leastFor_26 rfl rfl ?_
          refine Z_iald (n := 29) dX2_leastFor_28 rfl rfl rfl (by first | decide | assumption) (by omega) (by omega) (fun r28 s28 => ?_)
          refine Z_iconst (n := 30) dX2_leastFor_29 rfl (by decide) ?_
          refine Z_icmp_ge (n := 33) (t := 44) dX2_leastFor_30 rfl (by decide) (fun c30 => ?_) (fun c30 => ?_)
          · refine Z_aload_n (n := 45) dX2_leastFor_44 rfl rfl ?_
            refine Z_getA (n := 48) dX2_leastFor_45 rfl ffX2_15 rfl rfl ?_
            refine Z_iload (n := 50) dX2_leastFor_48 rfl rfl ?_
            refine Z_iald (n := 51) dX2_leastFor_50 rfl rfl rfl (by first | decide | assumption) (by omega) (by omega) (fun r50 s50 => ?_)
            refine Z_istore (L' := [_, _, _, _, _, _, _]) (n := 53) dX2_leastFor_51 rfl (by decide) rfl rfl ?_
            refine Z_goto (t := 83) dX2_leastFor_53 (by decide) ?_
            refine Z_iinc (L' := [_, _, _, _, _, _, _]) (n := 86) dX2_leastFor_83 rfl rfl (by decide) rfl rfl (by omega) rfl ?_
            refine Z_goto (t := 9) dX2_leastFor_86 (by decide) ?_
            refine Z_loc (L' := [some _, some _, some _, some _, some _, some _, some _]) (lsub_same (lsub_same (lsub_same (lsub_same (lsub_same (lsub_same (lsub_same lsub_nil))))))) ?_
            exact ih9 _ _ _  (by omega) (by first | assumption | omega | decide) (by first | assumption | omega | decide) (by first | assumption | omega | decide) (by first | assumption | omega | decide)
          · refine Z_aload_n (n := 34) dX2_leastFor_33 rfl rfl ?_
            refine Z_getA (n := 37) dX2_leastFor_34 rfl ffX2_15 rfl rfl ?_
            refine Z_iload (n := 39) dX2_leastFor_37 rfl rfl ?_
            refine Z_iald (n := 40) dX2_leastFor_39 rfl rfl rfl (by first | decide | assumption) (by omega) (by omega) (fun r39 s39 => ?_)
            refine Z_iload_n (n := 41) dX2_leastFor_40 rfl rfl ?_
            refine Z_icmp_ne (n := 44) (t := 56) dX2_leastFor_41 rfl (by decide) (fun c41 => ?_) (fun c41 => ?_)
            · refine Z_iload (n := 58) dX2_leastFor_56 rfl rfl ?_
              refine Z_iconst (n := 59) dX2_leastFor_58 rfl (by decide) ?_
              refine Z_aload_n (n := 60) dX2_leastFor_59 rfl rfl ?_
              refine Z_aload_n (n := 61) dX2_leastFor_60 rfl rfl ?_
              refine Z_getA (n := 64) dX2_leastFor_61 rfl ffX2_11 rfl rfl ?_
              refine Z_iload (n := 66) dX2_leastFor_64 rfl rfl ?_
              refine Z_iald (n := 67) dX2_leastFor_66 rfl rfl rfl (by first | decide | assumption) (by omega) (by omega) (fun r66 s66 => ?_)
              rw [if_neg (by omega)] at s66
              refine Z_callVi (n := 70) [_] _ dX2_leastFor_67 rfl cwX2_95 rfl rfl rfl (Nat.le_of_ble_eq_true rfl) (by refine ⟨?_, ?_, ?_, ?_⟩ <;> exact Nat.le_of_ble_eq_true rfl) (fun _ h => h) (zX1_variableAt  (by first | assumption | omega | decide) (by first | assumption | omega | decide)) ?_
              intro x67 M67 J67 z67 f67 q67
              obtain ⟨e67_1, e67_2, h67⟩ := q67
              replace e67_1 := e67_1.symm; subst e67_1
              replace e67_2 := e67_2.symm; subst e67_2
              refine Z_ishl (n := 71) dX2_leastFor_70 rfl ?_
              refine Z_ior (n := 72) dX2_leastFor_71 rfl ?_
              refine Z_istore (L' := [_, _, _, _, _, _, _]) (n := 74) dX2_leastFor_72 rfl (by decide) rfl rfl ?_
              refine Z_aload_n (n := 75) dX2_leastFor_74 rfl rfl ?_
              refine Z_getA (n := 78) dX2_leastFor_75 rfl ffX2_18 rfl rfl ?_
              refine Z_iload (n := 80) dX2_leastFor_78 rfl rfl ?_
              refine Z_iald (n := 81) dX2_leastFor_80 rfl rfl rfl (by first | decide | assumption) (by omega) (by omega) (fun r80 s80 => ?_)
              refine Z_istore (L' := [_, _, _, _, _, _, _]) (n := 83) dX2_leastFor_81 rfl (by decide) rfl rfl ?_
              refine Z_iinc (L' := [_, _, _, _, _, _, _]) (n := 86) dX2_leastFor_83 rfl rfl (by decide) rfl rfl (by omega) rfl ?_
              refine Z_goto (t := 9) dX2_leastFor_86 (by decide) ?_
              refine Z_loc (L' := [some _, some _, some _, some _, some _, some _, some _]) (lsub_same (lsub_same (lsub_same (lsub_same (lsub_same (lsub_same (lsub_same lsub_nil))))))) ?_
              exact ih9 _ _ _  (by omega) (by first | assumption | omega | decide) (by first | assumption | omega | decide) (by first | assumption | omega | decide) (by first | assumption | omega | decide)
            · refine Z_aload_n (n := 45) dX2_leastFor_44 rfl rfl ?_
              refine Z_getA (n := 48) dX2_leastFor_45 rfl ffX2_15 rfl rfl ?_
              refine Z_iload (n := 50) dX2_leastFor_48 rfl rfl ?_
              refine Z_iald (n := 51) dX2_leastFor_50 rfl rfl rfl (by first | decide | assumption) (by omega) (by omega) (fun r50 s50 => ?_)
              refine Z_istore (L' := [_, _, _, _, _, _, _]) (n := 53) dX2_leastFor_51 rfl (by decide) rfl rfl ?_
              refine Z_goto (t := 83) dX2_leastFor_53 (by decide) ?_
              refine Z_iinc (L' := [_, _, _, _, _, _, _]) (n := 86) dX2_leastFor_83 rfl rfl (by decide) rfl rfl (by omega) rfl ?_
              refine Z_goto (t := 9) dX2_leastFor_86 (by decide) ?_
              refine Z_loc (L' := [some _, some _, some _, some _, some _, some _, some _]) (lsub_same (lsub_same (lsub_same (lsub_same (lsub_same (lsub_same (lsub_same lsub_nil))))))) ?_
              exact ih9 _ _ _  (by omega) (by first | assumption | omega | decide) (by first | assumption | omega | decide) (by first | assumption | omega | decide) (by first | assumption | omega | decide)
  refine Z_loc (L' := [some _, some _, some _, some _, some _, some _, some _]) (lsub_same (lsub_same (lsub_same (lsub_same (lsub_same (lsub_same (lsub_same lsub_nil))))))) ?_
  exact lp9 _ _ _ _  (Nat.lt_succ_self _) (by first | assumption | omega | decide) (by first | assumption | omega | decide) (by first | assumption | omega | decide) (by first | assumption | omega | decide)
set_option maxRecDepth 20000 in
theorem zX2_pathsFrom {G : tl_G} {M : zM} {J : zJ} (k : Nat) {n s e : Int} (h0 : 0 ≤ n) (h1 : n ≤ 251) (h6 : 0 ≤ e) (h7 : e + k = 8) : ZN G yX2_pathsFrom mX2_pathsFrom (k) kAll [vR 5, vI n, vI s, vI e] F1 M J (qI (fun x M' J' => M' = M ∧ J' = J)) := by
  induction k generalizing M J n s e with
  | zero =>
    refine ZN_of (L := [_, _, _, _]) (by decide) rfl rfl (Nat.le_of_ble_eq_true rfl) rfl (fun hav => ?_)
    refine Z_iload_n (n := 1) dX2_pathsFrom_0 rfl rfl ?_
    refine Z_iconst (n := 2) dX2_pathsFrom_1 rfl (by decide) ?_
    refine Z_icmp_lt (n := 5) (t := 11) dX2_pathsFrom_2 rfl (by decide) (fun c2 => ?_) (fun c2 => ?_)
    · refine Z_iload_n (n := 12) dX2_pathsFrom_11 rfl rfl ?_
      refine Z_iload_n (n := 13) dX2_pathsFrom_12 rfl rfl ?_
      refine Z_icmp_ne (n := 16) (t := 20) dX2_pathsFrom_13 rfl (by decide) (fun c13 => ?_) (fun c13 => ?_)
      · refine Z_iconst (n := 21) dX2_pathsFrom_20 rfl (by decide) ?_
        refine Z_iret dX2_pathsFrom_21 rfl ?_
        exact ⟨rfl, rfl⟩
      · refine Z_iconst (n := 17) dX2_pathsFrom_16 rfl (by decide) ?_
        refine Z_goto (t := 21) dX2_pathsFrom_17 (by decide) ?_
        refine Z_iret dX2_pathsFrom_21 rfl ?_
        exact ⟨rfl, rfl⟩
    · refine Z_iload_n (n := 6) dX2_pathsFrom_5 rfl rfl ?_
      refine Z_bipush (n := 8) dX2_pathsFrom_6 rfl (by decide) (by decide) ?_
      refine Z_icmp_lt (n := 11) (t := 22) dX2_pathsFrom_8 rfl (by decide) (fun c8 => ?_) (fun c8 => ?_)
      · omega
      · refine Z_iload_n (n := 12) dX2_pathsFrom_11 rfl rfl ?_
        refine Z_iload_n (n := 13) dX2_pathsFrom_12 rfl rfl ?_
        refine Z_icmp_ne (n := 16) (t := 20) dX2_pathsFrom_13 rfl (by decide) (fun c13 => ?_) (fun c13 => ?_)
        · refine Z_iconst (n := 21) dX2_pathsFrom_20 rfl (by decide) ?_
          refine Z_iret dX2_pathsFrom_21 rfl ?_
          exact ⟨rfl, rfl⟩
        · refine Z_iconst (n := 17) dX2_pathsFrom_16 rfl (by decide) ?_
          refine Z_goto (t := 21) dX2_pathsFrom_17 (by decide) ?_
          refine Z_iret dX2_pathsFrom_21 rfl ?_
          exact ⟨rfl, rfl⟩
  | succ k ih =>
    refine ZN_of (L := [_, _, _, _]) (by decide) rfl rfl (Nat.le_of_ble_eq_true rfl) rfl (fun hav => ?_)
    refine Z_iload_n (n := 1) dX2_pathsFrom_0 rfl rfl ?_
    refine Z_iconst (n := 2) dX2_pathsFrom_1 rfl (by decide) ?_
    refine Z_icmp_lt (n := 5) (t := 11) dX2_pathsFrom_2 rfl (by decide) (fun c2 => ?_) (fun c2 => ?_)
    · refine Z_iload_n (n := 12) dX2_pathsFrom_11 rfl rfl ?_
      refine Z_iload_n (n := 13) dX2_pathsFrom_12 rfl rfl ?_
      refine Z_icmp_ne (n := 16) (t := 20) dX2_pathsFrom_13 rfl (by decide) (fun c13 => ?_) (fun c13 => ?_)
      · refine Z_iconst (n := 21) dX2_pathsFrom_20 rfl (by decide) ?_
        refine Z_iret dX2_pathsFrom_21 rfl ?_
        exact ⟨rfl, rfl⟩
      · refine Z_iconst (n := 17) dX2_pathsFrom_16 rfl (by decide) ?_
        refine Z_goto (t := 21) dX2_pathsFrom_17 (by decide) ?_
        refine Z_iret dX2_pathsFrom_21 rfl ?_
        exact ⟨rfl, rfl⟩
    · refine Z_iload_n (n := 6) dX2_pathsFrom_5 rfl rfl ?_
      refine Z_bipush (n := 8) dX2_pathsFrom_6 rfl (by decide) (by decide) ?_
      refine Z_icmp_lt (n := 11) (t := 22) dX2_pathsFrom_8 rfl (by decide) (fun c8 => ?_) (fun c8 => ?_)
      · refine Z_aload_n (n := 23) dX2_pathsFrom_22 rfl rfl ?_
        refine Z_aload_n (n := 24) dX2_pathsFrom_23 rfl rfl ?_
        refine Z_getA (n := 27) dX2_pathsFrom_24 rfl ffX2_15 rfl rfl ?_
        refine Z_iload_n (n := 28) dX2_pathsFrom_27 rfl rfl ?_
        refine Z_iald (n := 29) dX2_pathsFrom_28 rfl rfl rfl (by first | decide | assumption) (by omega) (by omega) (fun r28 s28 => ?_)
        refine Z_iload_n (n := 30) dX2_pathsFrom_29 rfl rfl ?_
        refine Z_iload_n (n := 31) dX2_pathsFrom_30 rfl rfl ?_
        refine Z_iconst (n := 32) dX2_pathsFrom_31 rfl (by decide) ?_
        refine Z_iadd (n := 33) dX2_pathsFrom_32 rfl (by omega) ?_
        refine Z_callVi (n := 36) [_, _, _] _ dX2_pathsFrom_33 rfl cwX2_100 rfl rfl rfl (Nat.le_of_ble_eq_true rfl) ⟨by show (k) + 1 ≤ ((k + 1)); omega, by show 8 + (4 + 11) + 40 * (k) ≤ 40 * ((k + 1)); omega, Nat.le_refl _, Nat.le_refl _⟩ (fun _ h => h) (@ih _ _ _ _ _  (by first | assumption | omega | decide) (by first | assumption | omega | decide) (by first | assumption | omega | decide) (by first | assumption | omega | decide)) ?_
        intro x33 M33 J33 z33 f33 q33
        obtain ⟨e33_1, e33_2⟩ := q33
        replace e33_1 := e33_1.symm; subst e33_1
        replace e33_2 := e33_2.symm; subst e33_2
        refine Z_aload_n (n := 37) dX2_pathsFrom_36 rfl rfl ?_
        refine Z_aload_n (n := 38) dX2_pathsFrom_37 rfl rfl ?_
        refine Z_getA (n := 41) dX2_pathsFrom_38 rfl ffX2_18 rfl rfl ?_
        refine Z_iload_n (n := 42) dX2_pathsFrom_41 rfl rfl ?_
        refine Z_iald (n := 43) dX2_pathsFrom_42 rfl rfl rfl (by first | decide | assumption) (by omega) (by omega) (fun r42 s42 => ?_)
        refine Z_iload_n (n := 44) dX2_pathsFrom_43 rfl rfl ?_
        refine Z_iload_n (n := 45) dX2_pathsFrom_44 rfl rfl ?_
        refine Z_iconst (n := 46) dX2_pathsFrom_45 rfl (by decide) ?_
        refine Z_iadd (n := 47) dX2_pathsFrom_46 rfl (by omega) ?_
        refine Z_callVi (n := 50) [_, _, _] _ dX2_pathsFrom_47 rfl cwX2_100 rfl rfl rfl (Nat.le_of_ble_eq_true rfl) ⟨by show (k) + 1 ≤ ((k + 1)); omega, by show 8 + (4 + 11) + 40 * (k) ≤ 40 * ((k + 1)); omega, Nat.le_refl _, Nat.le_refl _⟩ (fun _ h => h) (@ih _ _ _ _ _  (by first | assumption | omega | decide) (by first | assumption | omega | decide) (by first | assumption | omega | decide) (by first | assumption | omega | decide)) ?_
        intro x47 M47 J47 z47 f47 q47
        obtain ⟨e47_1, e47_2⟩ := q47
        replace e47_1 := e47_1.symm; subst e47_1
        replace e47_2 := e47_2.symm; subst e47_2
        refine Z_iaddw (n := 51) dX2_pathsFrom_50 rfl ?_
        refine Z_iret dX2_pathsFrom_51 rfl ?_
        exact ⟨rfl, rfl⟩
      · refine Z_iload_n (n := 12) dX2_pathsFrom_11 rfl rfl ?_
        refine Z_iload_n (n := 13) dX2_pathsFrom_12 rfl rfl ?_
        refine Z_icmp_ne (n := 16) (t := 20) dX2_pathsFrom_13 rfl (by decide) (fun c13 => ?_) (fun c13 => ?_)
        · refine Z_iconst (n := 21) dX2_pathsFrom_20 rfl (by decide) ?_
          refine Z_iret dX2_pathsFrom_21 rfl ?_
          exact ⟨rfl, rfl⟩
        · refine Z_iconst (n := 17) dX2_pathsFrom_16 rfl (by decide) ?_
          refine Z_goto (t := 21) dX2_pathsFrom_17 (by decide) ?_
          refine Z_iret dX2_pathsFrom_21 rfl ?_
          exact ⟨rfl, rfl⟩
set_option maxRecDepth 20000 in
theorem zX2_pathCount {G : tl_G} {M : zM} {J : zJ} {n s : Int} (h0 : 0 ≤ n) (h1 : n ≤ 251) : ZN G yX2_pathCount mX2_pathCount 9 kAll [vR 5, vI n, vI s] F1 M J (qI (fun x M' J' => M' = M ∧ J' = J)) := by
  refine ZN_of (L := [_, _, _]) (by decide) rfl rfl (Nat.le_of_ble_eq_true rfl) rfl (fun hav => ?_)
  refine Z_aload_n (n := 1) dX2_pathCount_0 rfl rfl ?_
  refine Z_iload_n (n := 2) dX2_pathCount_1 rfl rfl ?_
  refine Z_iload_n (n := 3) dX2_pathCount_2 rfl rfl ?_
  refine Z_iconst (n := 4) dX2_pathCount_3 rfl (by decide) ?_
  refine Z_callVi (n := 7) [_, _, _] _ dX2_pathCount_4 rfl cwX2_100 rfl rfl rfl (Nat.le_of_ble_eq_true rfl) (by refine ⟨?_, ?_, ?_, ?_⟩ <;> exact Nat.le_of_ble_eq_true rfl) (fun _ h => h) (zX2_pathsFrom 8  (by first | assumption | omega | decide) (by first | assumption | omega | decide) (by first | assumption | omega | decide) (by first | assumption | omega | decide)) ?_
  intro x4 M4 J4 z4 f4 q4
  obtain ⟨e4_1, e4_2⟩ := q4
  replace e4_1 := e4_1.symm; subst e4_1
  replace e4_2 := e4_2.symm; subst e4_2
  refine Z_iret dX2_pathCount_7 rfl ?_
  exact ⟨rfl, rfl⟩
