section
/-! ===== the class: share, drop, inUse, room ===== -/
/-- handles and room as they were -/
def hkp (M M' : zM) : Prop := CB M' ∧ M' 5 8 = M 5 8 ∧ ∀ j : Int, 0 ≤ j → j < 12 → (M' 12 j = M 12 j ∧ (M 12 j = -1 ∨ den M' (M 12 j) = den M (M 12 j)))
theorem hkp_0 {M : zM} (h : CB M) : hkp M M := ⟨h, rfl, fun _ _ _ => ⟨rfl, Or.inr rfl⟩⟩
/-- where only what does not count has changed -/
theorem CB_cg {M M1 : zM} (h07 : M1 0 7 = M 0 7) (h5 : M1 5 = M 5) (h6 : M1 6 = M 6) (h7 : M1 7 = M 7) (h8 : M1 8 = M 8) (h10 : M1 10 = M 10) (h11 : M1 11 = M 11) (h12 : M1 12 = M 12) (h13 : M1 13 = M 13) (h15 : M1 15 = M 15) (h : CB M) : CB M1 := by
  obtain ⟨⟨S, hS, hR⟩, hno, ng, n7⟩ := h
  have hrt : rt M1 = rt M := rt_cg h12 h13 h15 h07
  refine ⟨⟨S, plo_cg h5 h6 h7 h8 h10 h11 hS, fun x hx => hR x (by rw [← hrt]; exact hx)⟩, ?_, by rw [h13]; exact ng, by rw [h07]; exact n7⟩
  rw [LBc_cg h6 h7 h8 hrt, h5]
  exact hno
/-- a handle is set to what another one has, or to nothing -/
theorem CB_12 {M : zM} {h v : Int} (hb : CB M) (hv : v = -1 ∨ ∃ f : Int, (0 ≤ f ∧ f < 12) ∧ v = M 12 f) : CB (uz M 12 h v) := by
  obtain ⟨⟨S, hS, hR⟩, hno, ng, n7⟩ := hb
  have o : ∀ a : Nat, ¬ a = 12 → uz M 12 h v a = M a := fun a ha => uz_o ha
  have hd : den (uz M 12 h v) = den M := den_cg (o 6 (by decide)) (o 7 (by decide)) (o 8 (by decide))
  have hrt : ∀ z, rt (uz M 12 h v) z → z = -1 ∨ rt M z := fun z hz => by
    rcases hz with ⟨j, jb, q⟩ | ⟨g, gb, q⟩ | ⟨k, kb, q⟩
    · rw [uz_a] at q
      by_cases e : j = h
      · rw [if_pos e] at q
        rcases hv with w | ⟨f, fb, w⟩
        · exact Or.inl (q.trans w)
        · exact Or.inr (Or.inl ⟨f, fb, q.trans w⟩)
      · rw [if_neg e] at q
        exact Or.inr (Or.inl ⟨j, jb, q⟩)
    · rw [o 13 (by decide)] at q
      exact Or.inr (Or.inr (Or.inl ⟨g, gb, q⟩))
    · rw [o 0 (by decide)] at kb
      rw [o 15 (by decide)] at q
      exact Or.inr (Or.inr (Or.inr ⟨k, kb, q⟩))
  refine ⟨⟨S, plo_cg (o 5 (by decide)) (o 6 (by decide)) (o 7 (by decide)) (o 8 (by decide)) (o 10 (by decide)) (o 11 (by decide)) hS, fun z hz => ?_⟩, ?_, by rw [o 13 (by decide)]; exact ng, by rw [o 0 (by decide)]; exact n7⟩
  · rcases hrt z hz with q | q
    · exact Or.inl q
    · exact hR z q
  · rw [o 5 (by decide)]
    refine fun ho => hno (over_mono (fun y hy => ?_) ho)
    obtain ⟨z, a, b, c⟩ := hy
    rw [hd] at c
    exact ⟨z, (hrt z a).resolve_left b, b, c⟩
theorem plo_58 {M : zM} {S : Int → Prop} {n : Int} (h : plo M S) : plo (uz M 5 8 n) S := by
  obtain ⟨h1, ch, fl, h2⟩ := h
  refine ⟨pst_cg (uz_o (by decide)) (uz_o (by decide)) (uz_o (by decide)) h1, ch, fl, ?_⟩
  unfold tbC at *
  rw [uz_n (show (6 : Int) ≠ 8 by decide), uz_n (show (7 : Int) ≠ 8 by decide), uz_o (show (10 : Nat) ≠ 5 by decide), uz_o (show (11 : Nat) ≠ 5 by decide), uz_o (show (7 : Nat) ≠ 5 by decide), uz_o (show (8 : Nat) ≠ 5 by decide)]
  exact h2
def rmQ (M : zM) (n x : Int) (M' : zM) : Prop := ∃ u : Int, cnt (LBc M) u ∧ ((n < u ∧ x = -3 ∧ M' 5 8 = M 5 8) ∨ (u ≤ n ∧ x = M 5 8 ∧ M' 5 8 = n))
def hkr (M M' : zM) : Prop := CB M' ∧ M' 12 = M 12 ∧ den M' = den M
set_option maxRecDepth 20000 in
theorem zX3_share_f {G : tl_G} {M : zM} {J : zJ} {h f : Int} (hc : cI M) (hb : CB M) : ZN G yX3_share mX3_share 2 kPub [vR 0, vI h, vI f] F1 M J (qI (fun x M' J' => J' = J ∧ cI M' ∧ (((h < 0 ∨ 12 ≤ h ∨ f < 0 ∨ 12 ≤ f ∨ M 12 f = -1) ∧ x = -1 ∧ M' = M) ∨ (¬ (h < 0 ∨ 12 ≤ h ∨ f < 0 ∨ 12 ≤ f ∨ M 12 f = -1) ∧ x = 1 ∧ CB M' ∧ M' = uz M 12 h (M 12 f))))) := by
  refine ZN_of (L := [_, _, _]) (by decide) rfl rfl (Nat.le_of_ble_eq_true rfl) rfl (fun hav => ?_)
  refine Z_iload_n (n := 1) dX3_share_0 rfl rfl ?_
  refine Z_callSi (n := 4) [_] _ dX3_share_1 rfl cwX3_123 rfl rfl (Nat.le_of_ble_eq_true rfl) (by refine ⟨?_, ?_, ?_, ?_⟩ <;> exact Nat.le_of_ble_eq_true rfl) (fun _ _ => trivial) (zX3_isHandle  ) ?_
  intro x1 M1 J1 z1 f1 q1
  obtain ⟨e1_1, e1_2, h1⟩ := q1
  replace e1_1 := e1_1.symm; subst e1_1
  replace e1_2 := e1_2.symm; subst e1_2
  refine Z_if_eq (n := 7) (t := 15) dX3_share_4 rfl (by decide) (fun c4 => ?_) (fun c4 => ?_)
  · refine Z_iconst (n := 16) dX3_share_15 rfl (by decide) ?_
    refine Z_iret dX3_share_16 rfl ?_
    exact ⟨rfl, hc, Or.inl ⟨by omega, rfl, rfl⟩⟩
  · refine Z_aload_n (n := 8) dX3_share_7 rfl rfl ?_
    refine Z_iload_n (n := 9) dX3_share_8 rfl rfl ?_
    refine Z_callVi (n := 12) [_] _ dX3_share_9 rfl cwX3_139 rfl rfl (by first | rfl | exact nS0 (nA_at (by omega) (by omega))) (Nat.le_of_ble_eq_true rfl) (by refine ⟨?_, ?_, ?_, ?_⟩ <;> exact Nat.le_of_ble_eq_true rfl) (fun _ _ => trivial) (zX3_hasFunction  ) ?_
    intro x9 M9 J9 z9 f9 q9
    obtain ⟨e9_1, e9_2, h9⟩ := q9
    replace e9_1 := e9_1.symm; subst e9_1
    replace e9_2 := e9_2.symm; subst e9_2
    refine Z_if_ne (n := 15) (t := 17) dX3_share_12 rfl (by decide) (fun c12 => ?_) (fun c12 => ?_)
    · refine Z_aload_n (n := 18) dX3_share_17 rfl rfl ?_
      refine Z_getA (n := 21) dX3_share_18 rfl ffX3_29 (by first | rfl | exact nS0 (nA_at (by omega) (by omega))) (by first | rfl | exact nS0 (nA_at (by omega) (by omega))) ?_
      refine Z_iload_n (n := 22) dX3_share_21 rfl rfl ?_
      refine Z_aload_n (n := 23) dX3_share_22 rfl rfl ?_
      refine Z_getA (n := 26) dX3_share_23 rfl ffX3_29 (by first | rfl | exact nS0 (nA_at (by omega) (by omega))) (by first | rfl | exact nS0 (nA_at (by omega) (by omega))) ?_
      refine Z_iload_n (n := 27) dX3_share_26 rfl rfl ?_
      refine Z_iald (n := 28) dX3_share_27 rfl (by first | rfl | exact nS0 (nA_at (by omega) (by omega))) rfl (by first | decide | assumption) (by omega) (by omega) (fun r27 s27 => ?_)
      refine Z_iast (n := 29) dX3_share_28 rfl (by first | rfl | exact nS0 (nA_at (by omega) (by omega))) rfl (by first | decide | assumption) (by omega) (by omega) (by first | assumption | omega | decide) (by first | assumption | omega | decide) (by decide) ?_
      refine Z_iconst (n := 30) dX3_share_29 rfl (by decide) ?_
      refine Z_fr (fun frR => ?_)
      refine Z_iret dX3_share_30 rfl ?_
      exact ⟨rfl, cI_mk hc frR (pI_fr hc.1 (uz_o (by decide)) (uz_o (by decide)) (uz_o (by decide)) (uz_o (by decide))) (ordOK_fr hc.2.1 (uz_o (by decide))), Or.inr ⟨by omega, rfl, CB_12 hb (Or.inr ⟨f, ⟨by omega, by omega⟩, rfl⟩), rfl⟩⟩
    · refine Z_iconst (n := 16) dX3_share_15 rfl (by decide) ?_
      refine Z_iret dX3_share_16 rfl ?_
      exact ⟨rfl, hc, Or.inl ⟨by omega, rfl, rfl⟩⟩
set_option maxRecDepth 20000 in
theorem zX3_drop_f {G : tl_G} {M : zM} {J : zJ} {h : Int} (hc : cI M) (hb : CB M) : ZN G yX3_drop mX3_drop 1 kPub [vR 0, vI h] F1 M J (qI (fun x M' J' => J' = J ∧ cI M' ∧ (((h < 0 ∨ 12 ≤ h) ∧ x = -1 ∧ M' = M) ∨ (0 ≤ h ∧ h < 12 ∧ ((M 12 h = -1 ∧ x = 0) ∨ (¬ M 12 h = -1 ∧ x = 1)) ∧ CB M' ∧ M' = uz M 12 h (-1))))) := by
  refine ZN_of (L := [_, _, _]) (by decide) rfl rfl (Nat.le_of_ble_eq_true rfl) rfl (fun hav => ?_)
  refine Z_iload_n (n := 1) dX3_drop_0 rfl rfl ?_
  refine Z_callSi (n := 4) [_] _ dX3_drop_1 rfl cwX3_123 rfl rfl (Nat.le_of_ble_eq_true rfl) (by refine ⟨?_, ?_, ?_, ?_⟩ <;> exact Nat.le_of_ble_eq_true rfl) (fun _ _ => trivial) (zX3_isHandle  ) ?_
  intro x1 M1 J1 z1 f1 q1
  obtain ⟨e1_1, e1_2, h1⟩ := q1
  replace e1_1 := e1_1.symm; subst e1_1
  replace e1_2 := e1_2.symm; subst e1_2
  refine Z_if_ne (n := 7) (t := 9) dX3_drop_4 rfl (by decide) (fun c4 => ?_) (fun c4 => ?_)
  · refine Z_aload_n (n := 10) dX3_drop_9 rfl rfl ?_
    refine Z_getA (n := 13) dX3_drop_10 rfl ffX3_29 (by first | rfl | exact nS0 (nA_at (by omega) (by omega))) (by first | rfl | exact nS0 (nA_at (by omega) (by omega))) ?_
    refine Z_iload_n (n := 14) dX3_drop_13 rfl rfl ?_
    refine Z_iald (n := 15) dX3_drop_14 rfl (by first | rfl | exact nS0 (nA_at (by omega) (by omega))) rfl (by first | decide | assumption) (by omega) (by omega) (fun r14 s14 => ?_)
    refine Z_iconst (n := 16) dX3_drop_15 rfl (by decide) ?_
    refine Z_icmp_ne (n := 19) (t := 23) dX3_drop_16 rfl (by decide) (fun c16 => ?_) (fun c16 => ?_)
    · refine Z_iconst (n := 24) dX3_drop_23 rfl (by decide) ?_
      refine Z_istore_n (L' := [_, _, _]) (n := 25) dX3_drop_24 rfl (by decide) rfl rfl ?_
      refine Z_aload_n (n := 26) dX3_drop_25 rfl rfl ?_
      refine Z_getA (n := 29) dX3_drop_26 rfl ffX3_29 (by first | rfl | exact nS0 (nA_at (by omega) (by omega))) (by first | rfl | exact nS0 (nA_at (by omega) (by omega))) ?_
      refine Z_iload_n (n := 30) dX3_drop_29 rfl rfl ?_
      refine Z_iconst (n := 31) dX3_drop_30 rfl (by decide) ?_
      refine Z_iast (n := 32) dX3_drop_31 rfl (by first | rfl | exact nS0 (nA_at (by omega) (by omega))) rfl (by first | decide | assumption) (by omega) (by omega) (by first | assumption | omega | decide) (by first | assumption | omega | decide) (by decide) ?_
      refine Z_iload_n (n := 33) dX3_drop_32 rfl rfl ?_
      refine Z_fr (fun frR => ?_)
      refine Z_iret dX3_drop_33 rfl ?_
      exact ⟨rfl, cI_mk hc frR (pI_fr hc.1 (uz_o (by decide)) (uz_o (by decide)) (uz_o (by decide)) (uz_o (by decide))) (ordOK_fr hc.2.1 (uz_o (by decide))), Or.inr ⟨by omega, by omega, by omega, CB_12 hb (Or.inl rfl), rfl⟩⟩
    · refine Z_iconst (n := 20) dX3_drop_19 rfl (by decide) ?_
      refine Z_goto (t := 24) dX3_drop_20 (by decide) ?_
      refine Z_istore_n (L' := [_, _, _]) (n := 25) dX3_drop_24 rfl (by decide) rfl rfl ?_
      refine Z_aload_n (n := 26) dX3_drop_25 rfl rfl ?_
      refine Z_getA (n := 29) dX3_drop_26 rfl ffX3_29 (by first | rfl | exact nS0 (nA_at (by omega) (by omega))) (by first | rfl | exact nS0 (nA_at (by omega) (by omega))) ?_
      refine Z_iload_n (n := 30) dX3_drop_29 rfl rfl ?_
      refine Z_iconst (n := 31) dX3_drop_30 rfl (by decide) ?_
      refine Z_iast (n := 32) dX3_drop_31 rfl (by first | rfl | exact nS0 (nA_at (by omega) (by omega))) rfl (by first | decide | assumption) (by omega) (by omega) (by first | assumption | omega | decide) (by first | assumption | omega | decide) (by decide) ?_
      refine Z_iload_n (n := 33) dX3_drop_32 rfl rfl ?_
      refine Z_fr (fun frR => ?_)
      refine Z_iret dX3_drop_33 rfl ?_
      exact ⟨rfl, cI_mk hc frR (pI_fr hc.1 (uz_o (by decide)) (uz_o (by decide)) (uz_o (by decide)) (uz_o (by decide))) (ordOK_fr hc.2.1 (uz_o (by decide))), Or.inr ⟨by omega, by omega, by omega, CB_12 hb (Or.inl rfl), rfl⟩⟩
  · refine Z_iconst (n := 8) dX3_drop_7 rfl (by decide) ?_
    refine Z_iret dX3_drop_8 rfl ?_
    exact ⟨rfl, hc, Or.inl ⟨by omega, rfl, rfl⟩⟩
set_option maxRecDepth 20000 in
theorem zX3_inUse_f {G : tl_G} {M : zM} {J : zJ}  (hb : CB M) : ZN G yX3_inUse mX3_inUse 11 kColl [vR 0] F1 M J (qI (fun x M' J' => J' = J ∧ pI M' ∧ M' 5 8 = M 5 8 ∧ cnt (LBc M) x ∧ hkr M M')) := by
  refine ZN_of (L := [_]) (by decide) rfl rfl (Nat.le_of_ble_eq_true rfl) rfl (fun hav => ?_)
  obtain ⟨⟨Sb, hSb, hRb⟩, hno, ng⟩ := hb
  refine Z_aload_n (n := 1) dX3_inUse_0 rfl rfl ?_
  refine Z_callVv (n := 4) [] _ dX3_inUse_1 rfl cwX3_155 rfl rfl rfl (Nat.le_of_ble_eq_true rfl) (by refine ⟨?_, ?_, ?_, ?_⟩ <;> exact Nat.le_of_ble_eq_true rfl) (fun _ h => h) (zX3_collect_f  (by exact hSb) (by exact hRb)) ?_
  intro M1 J1 f1 q1
  obtain ⟨e1_1, cq1⟩ := q1
  replace e1_1 := e1_1.symm; subst e1_1
  refine Z_aload_n (n := 5) dX3_inUse_4 rfl rfl ?_
  refine Z_getO (n := 8) dX3_inUse_5 rfl ffX3_25 rfl rfl ?_
  refine Z_callVi (n := 11) [] _ dX3_inUse_8 rfl cwX3_158 rfl rfl rfl (Nat.le_of_ble_eq_true rfl) (by refine ⟨?_, ?_, ?_, ?_⟩ <;> exact Nat.le_of_ble_eq_true rfl) (fun _ _ => trivial) (zX2_usedCount  ) ?_
  intro x8 M8 J8 z8 f8 q8
  obtain ⟨e8_1, e8_2, h8⟩ := q8
  replace e8_1 := e8_1.symm; subst e8_1
  replace e8_2 := e8_2.symm; subst e8_2
  refine Z_iret dX3_inUse_11 rfl ?_
  obtain ⟨S', h1', h2', h3', h4'⟩ := cq1
  have hrt : rt M1 = rt M := rt_cg (f1 12 (by decide)).1 (f1 13 (by decide)).1 (f1 15 (by decide)).1 (congrFun (f1 0 (by decide)).1 7)
  have hl := LBc_cg (f1 6 (by decide)).1 (f1 7 (by decide)).1 (f1 8 (by decide)).1 hrt
  exact ⟨rfl, plo_pI h1', h4', by rw [← hl, h8]; exact cl_cnt h1' h2' h3', ⟨⟨S', h1', h2'⟩, by rw [hl, h4']; exact hno, by rw [(f1 13 (by decide)).1]; exact ng.1, by rw [(f1 0 (by decide)).1]; exact ng.2⟩, (f1 12 (by decide)).1, den_cg (f1 6 (by decide)).1 (f1 7 (by decide)).1 (f1 8 (by decide)).1⟩
end
section
/-! ===== which gates are needed; a gate's function ===== -/
def isop (kd : Int → Int) (od : Int → Int → Int) (k x : Int) : Prop := ∃ c : Int, (0 ≤ c ∧ c < opF (kd k)) ∧ od k c = x
/-- L x: the last gate that needs x, -1 if none does; the output's own gate: itself -/
def lnS (kd : Int → Int) (od : Int → Int → Int) (g : Int) (L : Int → Int) : Prop := L g = g ∧ ∀ x : Int, 0 ≤ x → x < 40 → x ≠ g → (L x = -1 ∧ ∀ k : Int, x < k → k ≤ g → ¬ L k = -1 → ¬ isop kd od k x) ∨ ((x < L x ∧ L x ≤ g) ∧ ¬ L (L x) = -1 ∧ isop kd od (L x) x ∧ ∀ k : Int, L x < k → k ≤ g → ¬ L k = -1 → ¬ isop kd od k x)
theorem lnS_uniq {kd kd' : Int → Int} {od od' : Int → Int → Int} {g : Int} {L L' : Int → Int} (g1 : g < 40) (hi : ∀ k x : Int, 0 ≤ k → k ≤ g → (isop kd od k x ↔ isop kd' od' k x)) (h : lnS kd od g L) (h' : lnS kd' od' g L') : ∀ x : Int, 0 ≤ x → x < 40 → L' x = L x := by
  have key : ∀ N : Nat, ∀ x : Int, 0 ≤ x → x < 40 → 40 - x ≤ N → L' x = L x := by
    intro N
    induction N with
    | zero => intro x a b c; omega
    | succ N ih =>
      intro x a b c
      by_cases e : x = g
      · rw [e, h.1, h'.1]
      · have up : ∀ k : Int, x < k → k ≤ g → L' k = L k := fun k k0 k1 => ih k (by omega) (by omega) (by omega)
        rcases h.2 x a b e with ⟨p, q⟩ | ⟨p, q, r, s⟩
        · rcases h'.2 x a b e with ⟨p', q'⟩ | ⟨p', q', r', s'⟩
          · rw [p, p']
          · exfalso
            refine q (L' x) p'.1 p'.2 ?_ ((hi _ _ (by omega) p'.2).mpr r')
            rw [← up (L' x) p'.1 p'.2]
            exact q'
        · rcases h'.2 x a b e with ⟨p', q'⟩ | ⟨p', q', r', s'⟩
          · exfalso
            refine q' (L x) p.1 p.2 ?_ ((hi _ _ (by omega) p.2).mp r)
            rw [up (L x) p.1 p.2]
            exact q
          · rcases Int.lt_trichotomy (L x) (L' x) with w | w | w
            · exfalso
              refine s (L' x) w p'.2 ?_ ((hi _ _ (by omega) p'.2).mpr r')
              rw [← up (L' x) p'.1 p'.2]
              exact q'
            · exact w.symm
            · exfalso
              refine s' (L x) w p.2 ?_ ((hi _ _ (by omega) p.2).mp r)
              rw [up (L x) p.1 p.2]
              exact q
  exact fun x a b => key (40 - x).toNat x a b (by omega)
/-- a gate's function out of those before it -/
def gst (kd : Int → Int) (od : Int → Int → Int) (pl : Int → Int) (F : Int → FN) (k : Int) : FN := if kd k = 0 then (fun r => bz (r (pl (od k 0)))) else fun r => tbl (tabF (kd k)) (if 0 < opF (kd k) then F (od k 0) r else 0) (if 1 < opF (kd k) then F (od k 1) r else 0) (if 2 < opF (kd k) then F (od k 2) r else 0)
def gfn (kd : Int → Int) (od : Int → Int → Int) (pl : Int → Int) : Nat → Int → FN
  | 0, _ => fun _ => 0
  | n + 1, k => gst kd od pl (gfn kd od pl n) k
/-- the function of gate k -/
def gF (kd : Int → Int) (od : Int → Int → Int) (pl : Int → Int) (k : Int) : FN := gfn kd od pl (k.toNat + 1) k
theorem gst_cg {kd kd' : Int → Int} {od od' : Int → Int → Int} {pl pl' : Int → Int} {F F' : Int → FN} {k : Int} (hk : kd' k = kd k) (ho : ∀ c : Int, 0 ≤ c → c < 3 → od' k c = od k c) (hp : kd k = 0 → pl' (od k 0) = pl (od k 0)) (hF : ∀ c : Int, 0 ≤ c → c < opF (kd k) → F' (od k c) = F (od k c)) : gst kd' od' pl' F' k = gst kd od pl F k := by
  unfold gst
  rw [hk, ho 0 (by decide) (by decide), ho 1 (by decide) (by decide), ho 2 (by decide) (by decide)]
  by_cases e : kd k = 0
  · rw [if_pos e, if_pos e, hp e]
  · rw [if_neg e, if_neg e]
    funext r
    have a : (if 0 < opF (kd k) then F' (od k 0) r else 0) = (if 0 < opF (kd k) then F (od k 0) r else 0) := by
      by_cases q : 0 < opF (kd k)
      · rw [if_pos q, if_pos q, hF 0 (by decide) q]
      · rw [if_neg q, if_neg q]
    have b : (if 1 < opF (kd k) then F' (od k 1) r else 0) = (if 1 < opF (kd k) then F (od k 1) r else 0) := by
      by_cases q : 1 < opF (kd k)
      · rw [if_pos q, if_pos q, hF 1 (by decide) q]
      · rw [if_neg q, if_neg q]
    have c : (if 2 < opF (kd k) then F' (od k 2) r else 0) = (if 2 < opF (kd k) then F (od k 2) r else 0) := by
      by_cases q : 2 < opF (kd k)
      · rw [if_pos q, if_pos q, hF 2 (by decide) q]
      · rw [if_neg q, if_neg q]
    rw [a, b, c]
theorem gfn_fuel {kd : Int → Int} {od : Int → Int → Int} {pl : Int → Int} {m : Int} (hb : odB kd od m) : ∀ (n n' : Nat) (k : Int), 0 ≤ k → k < m → k < n → k < n' → gfn kd od pl n k = gfn kd od pl n' k := by
  intro n
  induction n with
  | zero => intro n' k a b c d; omega
  | succ n ih =>
    intro n' k a b c d
    cases n' with
    | zero => omega
    | succ n' =>
      show gst kd od pl (gfn kd od pl n) k = gst kd od pl (gfn kd od pl n') k
      exact gst_cg rfl (fun _ _ _ => rfl) (fun _ => rfl) (fun i i0 i1 => by
        have q := hb k a b i i0 i1
        exact ih n' _ q.1 (by omega) (by omega) (by omega))
theorem gF_eq {kd : Int → Int} {od : Int → Int → Int} {pl : Int → Int} {m : Int} (hb : odB kd od m) {k : Int} (k0 : 0 ≤ k) (k1 : k < m) : gF kd od pl k = gst kd od pl (gF kd od pl) k := by
  show gst kd od pl (gfn kd od pl k.toNat) k = _
  exact gst_cg rfl (fun _ _ _ => rfl) (fun _ => rfl) (fun i i0 i1 => by
    have q := hb k k0 k1 i i0 i1
    exact gfn_fuel hb _ _ _ q.1 (by omega) (by omega) (by omega))
theorem gF_cg {kd kd' : Int → Int} {od od' : Int → Int → Int} {pl pl' : Int → Int} {m : Int} (hb : odB kd od m) (hk : ∀ k : Int, 0 ≤ k → k < m → kd' k = kd k ∧ ∀ c : Int, 0 ≤ c → c < 3 → od' k c = od k c) (hp : ∀ k : Int, 0 ≤ k → k < m → kd k = 0 → pl' (od k 0) = pl (od k 0)) : ∀ k : Int, 0 ≤ k → k < m → gF kd' od' pl' k = gF kd od pl k := by
  have hb' : odB kd' od' m := fun k a b c c0 c1 => by
    obtain ⟨e1, e2⟩ := hk k a b
    rw [e1] at c1
    have := opF_in (kd k)
    rw [e2 c c0 (by omega)]
    exact hb k a b c c0 c1
  have key : ∀ N : Nat, ∀ k : Int, 0 ≤ k → k < N → k < m → gF kd' od' pl' k = gF kd od pl k := by
    intro N
    induction N with
    | zero => intro k a b; omega
    | succ N ih =>
      intro k a b c
      rw [gF_eq hb' a c, gF_eq hb a c]
      exact gst_cg (hk k a c).1 (hk k a c).2 (hp k a c) (fun i i0 i1 => by
        have q := hb k a c i i0 i1
        exact ih _ q.1 (by omega) (by omega))
  exact fun k a b => key (k.toNat + 1) k a (by omega) b
/-- at hand before gate k is made -/
def hnd (L : Int → Int) (g k x : Int) : Prop := (0 ≤ x ∧ x < k) ∧ ¬ L x = -1 ∧ (x = g ∨ k ≤ L x)
/-- the labels at hand before gate k is made -/
def EH (E : Lb → Prop) (F : Int → FN) (H : Int → Prop) (y : Lb) : Prop := E y ∨ ∃ x : Int, H x ∧ laid (F x) y
/-- while the needs are found: gates above k are done, and c operands of k -/
def lnP (kd : Int → Int) (od : Int → Int → Int) (g : Int) (L : Int → Int) (k c : Int) : Prop := L g = g ∧ ∀ x : Int, 0 ≤ x → x < 40 → x ≠ g → (L x = -1 ∧ (∀ j : Int, k < j → j ≤ g → ¬ L j = -1 → ¬ isop kd od j x) ∧ (¬ L k = -1 → ∀ i : Int, 0 ≤ i → i < c → i < opF (kd k) → od k i ≠ x)) ∨ ((x < L x ∧ L x ≤ g ∧ k ≤ L x) ∧ ¬ L (L x) = -1 ∧ isop kd od (L x) x ∧ ∀ j : Int, L x < j → j ≤ g → ¬ L j = -1 → ¬ isop kd od j x)
theorem lnP_0 {kd : Int → Int} {od : Int → Int → Int} {g : Int} {L : Int → Int} (h0 : L g = g) (h1 : ∀ x : Int, 0 ≤ x → x < 40 → x ≠ g → L x = -1) : lnP kd od g L g 0 :=
  ⟨h0, fun x a b e => Or.inl ⟨h1 x a b e, fun j c d => absurd d (by omega), fun _ i c d => absurd d (by omega)⟩⟩
/-- one operand more -/
theorem lnP_st {kd : Int → Int} {od : Int → Int → Int} {g k c x0 : Int} {L L' : Int → Int} (h : lnP kd od g L k c) (hk : ¬ L k = -1) (kg : k ≤ g) (c0 : 0 ≤ c) (c1 : c < opF (kd k)) (hx : od k c = x0) (x00 : 0 ≤ x0) (x01 : x0 < k) (g1 : g < 40) (hL : (L x0 = -1 ∧ L' = updI L x0 k) ∨ (¬ L x0 = -1 ∧ L' = L)) : lnP kd od g L' k (c + 1) := by
  rcases hL with ⟨q, e⟩ | ⟨q, e⟩
  · have up : ∀ j : Int, j ≠ x0 → L' j = L j := fun j hj => by rw [e]; exact updI_n hj
    have es : L' x0 = k := by rw [e]; exact updI_s
    refine ⟨(up g (by omega)).trans h.1, fun x a b w => ?_⟩
    by_cases ex : x = x0
    · right
      rw [ex, es, up k (by omega)]
      rcases h.2 x0 x00 (by omega) (by omega) with ⟨p1, p2, p3⟩ | ⟨p1, p2, p3, p4⟩
      · refine ⟨⟨x01, kg, Int.le_refl _⟩, hk, ⟨c, ⟨c0, c1⟩, hx⟩, fun j j0 j1 => ?_⟩
        rw [up j (by omega)]
        exact p2 j j0 j1
      · omega
    · rw [up x ex]
      rcases h.2 x a b w with ⟨p1, p2, p3⟩ | ⟨p1, p2, p3, p4⟩
      · left
        refine ⟨p1, fun j j0 j1 => ?_, fun _ i i0 i1 i2 => ?_⟩
        · rw [up j (by omega)]; exact p2 j j0 j1
        · by_cases ei : i = c
          · rw [ei, hx]; exact fun t => ex t.symm
          · exact p3 hk i i0 (by omega) i2
      · right
        rw [up (L x) (by omega)]
        refine ⟨p1, p2, p3, fun j j0 j1 => ?_⟩
        rw [up j (by omega)]
        exact p4 j j0 j1
  · rw [e]
    refine ⟨h.1, fun x a b w => ?_⟩
    rcases h.2 x a b w with ⟨p1, p2, p3⟩ | p
    · left
      refine ⟨p1, p2, fun _ i i0 i1 i2 => ?_⟩
      by_cases ei : i = c
      · rw [ei, hx]
        intro t
        rw [t] at q
        exact q p1
      · exact p3 hk i i0 (by omega) i2
    · exact Or.inr p
/-- gate k is done -/
theorem lnP_dn {kd : Int → Int} {od : Int → Int → Int} {g k c : Int} {L : Int → Int} (h : lnP kd od g L k c) (hc : L k = -1 ∨ opF (kd k) ≤ c) : lnP kd od g L (k - 1) 0 := by
  refine ⟨h.1, fun x a b w => ?_⟩
  rcases h.2 x a b w with ⟨p1, p2, p3⟩ | ⟨p1, p2, p3, p4⟩
  · left
    refine ⟨p1, fun j j0 j1 hj hi => ?_, fun _ i i0 i1 => by omega⟩
    by_cases e : j = k
    · rw [e] at hj hi
      obtain ⟨i, ⟨i0, i1⟩, hi⟩ := hi
      rcases hc with z | z
      · exact hj z
      · exact p3 hj i i0 (by omega) i1 hi
    · exact p2 j (by omega) j1 hj hi
  · right
    exact ⟨⟨p1.1, p1.2.1, by omega⟩, p2, p3, p4⟩
theorem lnP_end {kd : Int → Int} {od : Int → Int → Int} {g : Int} {L : Int → Int} (h : lnP kd od g L (-1) 0) : lnS kd od g L := by
  refine ⟨h.1, fun x a b w => ?_⟩
  rcases h.2 x a b w with ⟨p1, p2, -⟩ | ⟨p1, p2, p3, p4⟩
  · exact Or.inl ⟨p1, fun k k0 k1 => p2 k (by omega) k1⟩
  · exact Or.inr ⟨⟨p1.1, p1.2.1⟩, p2, p3, p4⟩
/-- what the last need says of the next gate -/
theorem lnS_in {kd : Int → Int} {od : Int → Int → Int} {g : Int} {L : Int → Int} (h : lnS kd od g L) {x : Int} (x0 : 0 ≤ x) (x1 : x < 40) (hx : ¬ L x = -1) : x ≤ L x ∧ L x ≤ g ∧ (x = g ∨ x < L x) := by
  by_cases e : x = g
  · rw [e, h.1]; exact ⟨Int.le_refl _, Int.le_refl _, Or.inl rfl⟩
  · rcases h.2 x x0 x1 e with ⟨p, -⟩ | ⟨p, -⟩
    · exact absurd p hx
    · exact ⟨by omega, p.2, Or.inr p.1⟩
/-- a needed gate's operands are at hand -/
theorem lnS_op {kd : Int → Int} {od : Int → Int → Int} {g : Int} {L : Int → Int} (h : lnS kd od g L) (g1 : g < 40) {k x : Int} (k1 : k ≤ g) (hk : ¬ L k = -1) (x0 : 0 ≤ x) (xk : x < k) (hi : isop kd od k x) : hnd L g k x := by
  rcases h.2 x x0 (by omega) (by omega) with ⟨p, q⟩ | ⟨p, q, r, s⟩
  · exact absurd hi (q k xk k1 hk)
  · refine ⟨⟨x0, xk⟩, by omega, Or.inr ?_⟩
    by_cases w : k ≤ L x
    · exact w
    · exact absurd hi (s k (by omega) k1 hk)
theorem hn_skip {kd : Int → Int} {od : Int → Int → Int} {g k : Int} {L : Int → Int} (h : lnS kd od g L) (g1 : g < 40) (k1 : k ≤ g) (hk : L k = -1) (z : Int) : hnd L g (k + 1) z ↔ hnd L g k z := by
  constructor
  · rintro ⟨a, b, c⟩
    have e : z ≠ k := fun e => b (by rw [e]; exact hk)
    exact ⟨by omega, b, by omega⟩
  · rintro ⟨a, b, c⟩
    refine ⟨by omega, b, ?_⟩
    rcases c with c | c
    · exact Or.inl c
    · by_cases e : z = g
      · exact Or.inl e
      · right
        rcases h.2 z a.1 (by omega) e with ⟨p, -⟩ | ⟨-, q, -⟩
        · exact absurd p b
        · by_cases w : L z = k
          · rw [w] at q; exact absurd hk q
          · omega
theorem hn_step {kd : Int → Int} {od : Int → Int → Int} {g k : Int} {L : Int → Int} (h : lnS kd od g L) (g1 : g < 40) (k0 : 0 ≤ k) (k1 : k ≤ g) (hk : ¬ L k = -1) (ho : ∀ z, isop kd od k z → z < k) (z : Int) : hnd L g (k + 1) z ↔ ((hnd L g k z ∨ z = k) ∧ ¬ (isop kd od k z ∧ L z = k)) := by
  constructor
  · rintro ⟨a, b, c⟩
    by_cases e : z = k
    · refine ⟨Or.inr e, fun q => ?_⟩
      have := ho z q.1
      omega
    · refine ⟨Or.inl ⟨by omega, b, by omega⟩, fun q => ?_⟩
      omega
  · rintro ⟨a | a, b⟩
    · obtain ⟨a1, a2, a3⟩ := a
      refine ⟨by omega, a2, ?_⟩
      rcases a3 with c | c
      · exact Or.inl c
      · by_cases e : z = g
        · exact Or.inl e
        · right
          rcases h.2 z a1.1 (by omega) e with ⟨p, -⟩ | ⟨-, -, q, -⟩
          · exact absurd p a2
          · by_cases w : L z = k
            · rw [w] at q; exact absurd ⟨q, w⟩ b
            · omega
    · have q := lnS_in h (x := z) (by omega) (by omega) (by rw [a]; exact hk)
      exact ⟨by omega, by rw [a]; exact hk, by omega⟩
theorem hn_end {kd : Int → Int} {od : Int → Int → Int} {g : Int} {L : Int → Int} (h : lnS kd od g L) (g0 : 0 ≤ g) (g1 : g < 40) (z : Int) : hnd L g (g + 1) z ↔ z = g := by
  constructor
  · rintro ⟨a, b, c⟩
    have q := lnS_in h a.1 (by omega) b
    omega
  · intro e
    have := h.1
    refine ⟨by omega, ?_, Or.inl e⟩
    rw [e]
    omega
theorem hn_0 {g : Int} {L : Int → Int} (z : Int) : hnd L g 0 z ↔ False := ⟨fun q => by have := q.1; omega, False.elim⟩
end
section
/-! ===== the class: a building on its way ===== -/
/-- labels of what is kept -/
def kpL (M : zM) (y : Lb) : Prop := ∃ k : Int, (0 ≤ k ∧ k < M 0 7) ∧ ¬ M 15 k = -1 ∧ laid (den M (M 15 k)) y
/-- gates H at hand -/
def gtI (M0 M : zM) (E : Lb → Prop) (F : Int → FN) (H : Int → Prop) : Prop := (∃ S : Int → Prop, plo M S ∧ rtO M S) ∧ (∀ j : Int, 0 ≤ j → j < 12 → M 12 j = M0 12 j ∧ (M0 12 j = -1 ∨ den M (M0 12 j) = den M0 (M0 12 j))) ∧ M 5 8 = M0 5 8 ∧ (∀ y, (LBc M0 y ∨ kpL M y) ↔ (LBc M0 y ∨ E y)) ∧ (∀ x : Int, 0 ≤ x → x < 40 → (H x ∧ ¬ M 13 x = -1 ∧ den M (M 13 x) = F x) ∨ (¬ H x ∧ M 13 x = -1)) ∧ ¬ over (fun y => LBc M0 y ∨ EH E F H y) (M0 5 8)
/-- between calls the handles alone are roots -/
theorem CB_rt {M : zM} (h : CB M) {y : Lb} (hy : LBc M y) : ∃ j : Int, (0 ≤ j ∧ j < 12) ∧ ¬ M 12 j = -1 ∧ laid (den M (M 12 j)) y := by
  obtain ⟨z, a, b, c⟩ := hy
  rcases a with ⟨j, jb, q⟩ | ⟨g, gb, q⟩ | ⟨k, kb, q⟩
  · exact ⟨j, jb, by rw [← q]; exact b, by rw [← q]; exact c⟩
  · exact absurd (q.trans (h.2.2.1 g gb.1 gb.2)) b
  · rw [h.2.2.2] at kb; omega
theorem gt_mid {M0 M : zM} {E : Lb → Prop} {F : Int → FN} {H : Int → Prop} (hb : CB M0) (h : gtI M0 M E F H) (hH : ∀ x, H x → 0 ≤ x ∧ x < 40) : mid M0 M (EH E F H) := by
  obtain ⟨h1, h2, h3, h4, h5, h6⟩ := h
  refine ⟨h1, h2, h3, fun y => ?_, h6⟩
  constructor
  · rintro ⟨z, a, b, c⟩
    rcases a with ⟨j, jb, q⟩ | ⟨g, gb, q⟩ | ⟨k, kb, q⟩
    · obtain ⟨e, w⟩ := h2 j jb.1 jb.2
      rw [q, e] at b c
      rw [w.resolve_left b] at c
      exact Or.inl ⟨M0 12 j, Or.inl ⟨j, jb, rfl⟩, b, c⟩
    · rw [q] at b c
      rcases h5 g gb.1 gb.2 with ⟨w1, w2, w3⟩ | ⟨w1, w2⟩
      · rw [w3] at c
        exact Or.inr (Or.inr ⟨g, w1, c⟩)
      · exact absurd w2 b
    · rw [q] at b c
      rcases (h4 y).mp (Or.inr ⟨k, kb, b, c⟩) with w | w
      · exact Or.inl w
      · exact Or.inr (Or.inl w)
  · have up : (LBc M0 y ∨ kpL M y) → LBc M y := by
      rintro (w | ⟨k, kb, b, c⟩)
      · obtain ⟨j, jb, b, c⟩ := CB_rt hb w
        obtain ⟨e, v⟩ := h2 j jb.1 jb.2
        exact ⟨M 12 j, Or.inl ⟨j, jb, rfl⟩, by rw [e]; exact b, by rw [e, v.resolve_left b]; exact c⟩
      · exact ⟨M 15 k, Or.inr (Or.inr ⟨k, kb, rfl⟩), b, c⟩
    rintro (w | w | ⟨x, w1, w2⟩)
    · exact up (Or.inl w)
    · exact up ((h4 y).mpr (Or.inr w))
    · have xb := hH x w1
      rcases h5 x xb.1 xb.2 with ⟨-, v2, v3⟩ | ⟨v1, -⟩
      · exact ⟨M 13 x, Or.inr (Or.inl ⟨x, xb, rfl⟩), v2, by rw [v3]; exact w2⟩
      · exact absurd w1 v1
theorem mid_gt {M0 M : zM} {E : Lb → Prop} {F : Int → FN} (h : mid M0 M E) (hg : ∀ x : Int, 0 ≤ x → x < 40 → M 13 x = -1) : gtI M0 M E F (fun _ => False) := by
  obtain ⟨h1, h2, h3, h4, h5⟩ := h
  refine ⟨h1, h2, h3, fun y => ?_, fun x a b => Or.inr ⟨id, hg x a b⟩, ?_⟩
  · constructor
    · rintro (w | ⟨k, kb, b, c⟩)
      · exact Or.inl w
      · exact (h4 y).mp ⟨M 15 k, Or.inr (Or.inr ⟨k, kb, rfl⟩), b, c⟩
    · intro w
      obtain ⟨z, a, b, c⟩ := (h4 y).mpr w
      rcases a with ⟨j, jb, q⟩ | ⟨g, gb, q⟩ | ⟨k, kb, q⟩
      · obtain ⟨e, v⟩ := h2 j jb.1 jb.2
        rw [q, e] at b c
        rw [v.resolve_left b] at c
        exact Or.inl ⟨M0 12 j, Or.inl ⟨j, jb, rfl⟩, b, c⟩
      · exact absurd (q.trans (hg g gb.1 gb.2)) b
      · rw [q] at b c
        exact Or.inr ⟨k, kb, b, c⟩
  · refine fun ho => h5 (over_mono (fun y hy => ?_) ho)
    rcases hy with w | w | ⟨_, w, _⟩
    · exact Or.inl w
    · exact Or.inr w
    · exact w.elim
/-- the same, other words for H -/
theorem gt_H {M0 M : zM} {E : Lb → Prop} {F : Int → FN} {H H' : Int → Prop} (h : gtI M0 M E F H) (e : ∀ x, H' x ↔ H x) : gtI M0 M E F H' := by
  rw [show H' = H from funext (fun x => propext (e x))]
  exact h
/-- where nothing that counts has changed -/
theorem gt_cg {M0 M M1 : zM} {E : Lb → Prop} {F : Int → FN} {H : Int → Prop} (h07 : M1 0 7 = M 0 7) (h5 : M1 5 = M 5) (h6 : M1 6 = M 6) (h7 : M1 7 = M 7) (h8 : M1 8 = M 8) (h10 : M1 10 = M 10) (h11 : M1 11 = M 11) (h12 : M1 12 = M 12) (h13 : M1 13 = M 13) (h15 : M1 15 = M 15) (h : gtI M0 M E F H) : gtI M0 M1 E F H := by
  obtain ⟨⟨S, hS, hR⟩, g2, g3, g4, g5, g6⟩ := h
  have hrt : rt M1 = rt M := rt_cg h12 h13 h15 h07
  have hd : den M1 = den M := den_cg h6 h7 h8
  have hk : kpL M1 = kpL M := by
    funext y
    unfold kpL
    rw [h07, h15, hd]
  refine ⟨⟨S, plo_cg h5 h6 h7 h8 h10 h11 hS, fun x hx => hR x (by rw [← hrt]; exact hx)⟩, by rw [h12, hd]; exact g2, by rw [h5]; exact g3, by rw [hk]; exact g4, by rw [h13, hd]; exact g5, g6⟩
/-- behind a step -/
theorem gt_st {M0 M M3 : zM} {E : Lb → Prop} {F : Int → FN} {H : Int → Prop} {Fk : FN} {x : Int} (hb : CB M0) (h : gtI M0 M E F H) (hH : ∀ x, H x → 0 ≤ x ∧ x < 40) (hq : stQ M Fk x M3) (h12 : M3 12 = M 12) (h13 : M3 13 = M 13) (h15 : M3 15 = M 15) : ((x = -1 ∧ ¬ okP M0 (EH E F H) Fk ∧ mid M0 M3 (EH E F H)) ∨ (¬ x = -1 ∧ okP M0 (EH E F H) Fk ∧ den M3 x = Fk ∧ gtI M0 M3 E F H)) ∧ ∃ S : Int → Prop, plo M3 S ∧ rtO M3 S ∧ (x = -1 ∨ okN S x) := by
  obtain ⟨md, rs, S, hS, hR, hx⟩ := mid_st (gt_mid hb h hH) hq h12 h13 h15
  refine ⟨?_, S, hS, hR, hx⟩
  obtain ⟨o1, o2⟩ := rs_ok rs
  by_cases e : x = -1
  · exact Or.inl ⟨e, fun t => o1.mp t e, md⟩
  · obtain ⟨d, ok⟩ := o2 e
    refine Or.inr ⟨e, ok, d, ⟨S, hS, hR⟩, md.2.1, md.2.2.1, fun y => ?_, fun z a b => ?_, h.2.2.2.2.2⟩
    · rw [← h.2.2.2.1 y]
      refine or_congr Iff.rfl ?_
      unfold kpL
      rw [hq.2.2.2.1, h15]
      constructor
      · rintro ⟨k, kb, p, q⟩
        have w := (hq.2.1 (M 15 k) (Or.inr (Or.inr ⟨k, kb, rfl⟩))).resolve_left p
        rw [w] at q
        exact ⟨k, kb, p, q⟩
      · rintro ⟨k, kb, p, q⟩
        have w := (hq.2.1 (M 15 k) (Or.inr (Or.inr ⟨k, kb, rfl⟩))).resolve_left p
        exact ⟨k, kb, p, by rw [w]; exact q⟩
    · rw [h13]
      rcases h.2.2.2.2.1 z a b with ⟨p, q, r⟩ | p
      · exact Or.inl ⟨p, q, ((hq.2.1 (M 13 z) (Or.inr (Or.inl ⟨z, ⟨a, b⟩, rfl⟩))).resolve_left q).trans r⟩
      · exact Or.inr p
/-- what was made becomes gate k's -/
theorem gt_add {M0 M M1 : zM} {E : Lb → Prop} {F : Int → FN} {H : Int → Prop} {S : Int → Prop} {k x : Int} (h : gtI M0 M E F H) (hS : plo M S) (hR : rtO M S) (hx : okN S x) (hd : den M x = F k) (k0 : 0 ≤ k) (k1 : k < 40) (ok : okP M0 (EH E F H) (F k)) (e : M1 = uz M 13 k x) : gtI M0 M1 E F (fun z => H z ∨ z = k) := by
  have o : ∀ a : Nat, ¬ a = 13 → M1 a = M a := fun a ha => by rw [e]; exact uz_o ha
  have hdn : den M1 = den M := den_cg (o 6 (by decide)) (o 7 (by decide)) (o 8 (by decide))
  have e13 : M1 13 = updI (M 13) k x := by rw [e, uz_fn]
  have hx1 : ¬ x = -1 := fun z => by have := okN_in hS.1 hx; omega
  have hk : kpL M1 = kpL M := by
    funext y
    unfold kpL
    rw [o 0 (by decide), o 15 (by decide), hdn]
  refine ⟨⟨S, plo_cg (o 5 (by decide)) (o 6 (by decide)) (o 7 (by decide)) (o 8 (by decide)) (o 10 (by decide)) (o 11 (by decide)) hS, fun z hz => ?_⟩, by rw [o 12 (by decide), hdn]; exact h.2.1, by rw [o 5 (by decide)]; exact h.2.2.1, by rw [hk]; exact h.2.2.2.1, fun z a b => ?_, ?_⟩
  · rcases hz with ⟨j, jb, q⟩ | ⟨g, gb, q⟩ | ⟨j, jb, q⟩
    · rw [o 12 (by decide)] at q; exact hR z (Or.inl ⟨j, jb, q⟩)
    · rw [e13] at q
      by_cases w : g = k
      · rw [w, updI_s] at q; rw [q]; exact Or.inr hx
      · rw [updI_n w] at q; exact hR z (Or.inr (Or.inl ⟨g, gb, q⟩))
    · rw [o 15 (by decide)] at q; rw [o 0 (by decide)] at jb; exact hR z (Or.inr (Or.inr ⟨j, jb, q⟩))
  · rw [e13, hdn]
    by_cases w : z = k
    · rw [w, updI_s]; exact Or.inl ⟨Or.inr rfl, hx1, hd⟩
    · rw [updI_n w]
      rcases h.2.2.2.2.1 z a b with ⟨p, q⟩ | ⟨p, q⟩
      · exact Or.inl ⟨Or.inl p, q⟩
      · exact Or.inr ⟨fun t => t.elim p w, q⟩
  · refine fun ho => ok (over_mono (fun y hy => ?_) ho)
    rcases hy with w | w | ⟨z, w | w, v⟩
    · exact Or.inl (Or.inl w)
    · exact Or.inl (Or.inr (Or.inl w))
    · exact Or.inl (Or.inr (Or.inr ⟨z, w, v⟩))
    · rw [w] at v; exact Or.inr v
/-- some are let go -/
theorem gt_let {M0 M M1 : zM} {E : Lb → Prop} {F : Int → FN} {H D : Int → Prop} (h : gtI M0 M E F H) (o : ∀ a : Nat, ¬ a = 13 → M1 a = M a) (e : ∀ z : Int, 0 ≤ z → z < 40 → (D z ∧ M1 13 z = -1) ∨ (¬ D z ∧ M1 13 z = M 13 z)) : gtI M0 M1 E F (fun z => H z ∧ ¬ D z) := by
  have hdn : den M1 = den M := den_cg (o 6 (by decide)) (o 7 (by decide)) (o 8 (by decide))
  have hk : kpL M1 = kpL M := by
    funext y
    unfold kpL
    rw [o 0 (by decide), o 15 (by decide), hdn]
  obtain ⟨⟨S, hS, hR⟩, g2, g3, g4, g5, g6⟩ := h
  refine ⟨⟨S, plo_cg (o 5 (by decide)) (o 6 (by decide)) (o 7 (by decide)) (o 8 (by decide)) (o 10 (by decide)) (o 11 (by decide)) hS, fun z hz => ?_⟩, by rw [o 12 (by decide), hdn]; exact g2, by rw [o 5 (by decide)]; exact g3, by rw [hk]; exact g4, fun z a b => ?_, ?_⟩
  · rcases hz with ⟨j, jb, q⟩ | ⟨g, gb, q⟩ | ⟨j, jb, q⟩
    · rw [o 12 (by decide)] at q; exact hR z (Or.inl ⟨j, jb, q⟩)
    · rcases e g gb.1 gb.2 with ⟨-, w⟩ | ⟨-, w⟩
      · exact Or.inl (q.trans w)
      · rw [w] at q; exact hR z (Or.inr (Or.inl ⟨g, gb, q⟩))
    · rw [o 15 (by decide)] at q; rw [o 0 (by decide)] at jb; exact hR z (Or.inr (Or.inr ⟨j, jb, q⟩))
  · rw [hdn]
    rcases e z a b with ⟨w, v⟩ | ⟨w, v⟩
    · exact Or.inr ⟨fun t => t.2 w, v⟩
    · rw [v]
      rcases g5 z a b with ⟨p, q⟩ | ⟨p, q⟩
      · exact Or.inl ⟨⟨p, w⟩, q⟩
      · exact Or.inr ⟨fun t => p t.1, q⟩
  · refine fun ho => g6 (over_mono (fun y hy => ?_) ho)
    rcases hy with w | w | ⟨z, w, v⟩
    · exact Or.inl w
    · exact Or.inr (Or.inl w)
    · exact Or.inr (Or.inr ⟨z, w.1, v⟩)
/-- the output's own is kept, and let go as a gate's -/
theorem gt_kp {M0 M M1 M2 : zM} {E : Lb → Prop} {F : Int → FN} {g : Int} (hb : CB M0) (h : gtI M0 M E F (fun z => z = g)) (g0 : 0 ≤ g) (g1 : g < 40) (h7 : 0 ≤ M 0 7) (e1 : M1 = uz (uz M 15 (M 0 7) (M 13 g)) 0 7 (M 0 7 + 1)) (e2 : M2 = uz M1 13 g (-1)) : mid M0 M2 (fun y => E y ∨ laid (F g) y) ∧ rt M2 (M 13 g) ∧ ¬ M 13 g = -1 ∧ den M2 (M 13 g) = F g ∧ ∀ x : Int, 0 ≤ x → x < 40 → M2 13 x = -1 := by
  obtain ⟨-, hn, hd⟩ := (h.2.2.2.2.1 g g0 g1).resolve_right (fun t => t.1 rfl)
  have hm := gt_mid hb h (fun x hx => by omega)
  obtain ⟨S, hS, hR⟩ := hm.1
  have hx : okN S (M 13 g) := (hR _ (Or.inr (Or.inl ⟨g, ⟨g0, g1⟩, rfl⟩))).resolve_left hn
  have o : ∀ a : Nat, ¬ a = 0 → ¬ a = 13 → ¬ a = 15 → M2 a = M a := fun a p q r => by rw [e2, uz_o q, e1, uz_o p, uz_o r]
  have hdn : den M2 = den M := den_cg (o 6 (by decide) (by decide) (by decide)) (o 7 (by decide) (by decide) (by decide)) (o 8 (by decide) (by decide) (by decide))
  have e07 : M2 0 7 = M 0 7 + 1 := by rw [e2, uz_oo (by decide), e1, uz_s]
  have e15 : M2 15 = updI (M 15) (M 0 7) (M 13 g) := by rw [e2, uz_o (by decide), e1, uz_o (by decide), uz_fn]
  have e13 : ∀ x : Int, 0 ≤ x → x < 40 → M2 13 x = -1 := fun x a b => by
    rw [e2, uz_a]
    by_cases w : x = g
    · rw [if_pos w]
    · rw [if_neg w, e1, uz_oo (by decide), uz_oo (by decide)]
      exact ((h.2.2.2.2.1 x a b).resolve_left (fun t => w t.1)).2
  have hrt : ∀ z, rt M2 z → z = -1 ∨ rt M z := fun z hz => by
    rcases hz with ⟨j, jb, q⟩ | ⟨x, xb, q⟩ | ⟨k, kb, q⟩
    · rw [o 12 (by decide) (by decide) (by decide)] at q; exact Or.inr (Or.inl ⟨j, jb, q⟩)
    · exact Or.inl (q.trans (e13 x xb.1 xb.2))
    · rw [e15] at q
      rw [e07] at kb
      by_cases w : k = M 0 7
      · rw [w, updI_s] at q; exact Or.inr (Or.inr (Or.inl ⟨g, ⟨g0, g1⟩, q⟩))
      · rw [updI_n w] at q; exact Or.inr (Or.inr (Or.inr ⟨k, by omega, q⟩))
  have hrt2 : ∀ z, ¬ z = -1 → rt M z → rt M2 z := fun z hz1 hz => by
    rcases hz with ⟨j, jb, q⟩ | ⟨x, xb, q⟩ | ⟨k, kb, q⟩
    · exact Or.inl ⟨j, jb, by rw [o 12 (by decide) (by decide) (by decide)]; exact q⟩
    · by_cases w : x = g
      · exact Or.inr (Or.inr ⟨M 0 7, by omega, by rw [e15, updI_s, q, w]⟩)
      · exact absurd (q.trans ((h.2.2.2.2.1 x xb.1 xb.2).resolve_left (fun t => w t.1)).2) hz1
    · exact Or.inr (Or.inr ⟨k, by omega, by rw [e15, updI_n (by omega)]; exact q⟩)
  have hEq : ∀ y, EH E F (fun z => z = g) y ↔ (E y ∨ laid (F g) y) := fun y => or_congr Iff.rfl ⟨fun ⟨z, a, b⟩ => by rw [a] at b; exact b, fun b => ⟨g, rfl, b⟩⟩
  have hl : ∀ y, LBc M2 y ↔ LBc M y := fun y => by
    unfold LBc
    rw [hdn]
    constructor
    · rintro ⟨z, a, b, c⟩
      exact ⟨z, (hrt z a).resolve_left b, b, c⟩
    · rintro ⟨z, a, b, c⟩
      exact ⟨z, hrt2 z b a, b, c⟩
  refine ⟨⟨⟨S, plo_cg (o 5 (by decide) (by decide) (by decide)) (o 6 (by decide) (by decide) (by decide)) (o 7 (by decide) (by decide) (by decide)) (o 8 (by decide) (by decide) (by decide)) (o 10 (by decide) (by decide) (by decide)) (o 11 (by decide) (by decide) (by decide)) hS, fun z hz => ?_⟩, by rw [o 12 (by decide) (by decide) (by decide), hdn]; exact hm.2.1, by rw [o 5 (by decide) (by decide) (by decide)]; exact hm.2.2.1, fun y => ?_, ?_⟩, hrt2 _ hn (Or.inr (Or.inl ⟨g, ⟨g0, g1⟩, rfl⟩)), hn, by rw [hdn]; exact hd, e13⟩
  · rcases hrt z hz with w | w
    · exact Or.inl w
    · exact hR z w
  · rw [hl y, hm.2.2.2.1 y]
    exact or_congr Iff.rfl (hEq y)
  · rw [← over_cg (fun y => or_congr Iff.rfl (hEq y))]
    exact hm.2.2.2.2
/-- every gate that is needed finds room -/
def okB (M0 : zM) (E : Lb → Prop) (F : Int → FN) (L : Int → Int) (g : Int) : Prop := ∀ k : Int, 0 ≤ k → k ≤ g → ¬ L k = -1 → okP M0 (EH E F (hnd L g k)) (F k)
def bdQ (M0 : zM) (E : Lb → Prop) (F : Int → FN) (L : Int → Int) (g x : Int) (M' : zM) : Prop := (x = -1 ∧ ¬ okB M0 E F L g ∧ ∃ E' : Lb → Prop, mid M0 M' E') ∨ (¬ x = -1 ∧ okB M0 E F L g ∧ mid M0 M' (fun y => E y ∨ laid (F g) y) ∧ (rt M' x ∧ den M' x = F g) ∧ ∀ z : Int, 0 ≤ z → z < 40 → M' 13 z = -1)
end
