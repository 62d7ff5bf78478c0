/-! ===== the class: share, drop, inUse, room ===== -/
/-- handles and room as they were -/
def hkp (M M' : zM) : Prop := CB M' ∧ M' 5 8 = M 5 8 ∧ ∀ j : Int, 0 ≤ j → j < 12 → (M' 12 j = M 12 j ∧ (M 12 j = -1 ∨ den M' (M 12 j) = den M (M 12 j)))
theorem hkp_0 {M : zM} (h : CB M) : hkp M M := ⟨h, rfl, fun _ _ _ => ⟨rfl, Or.inr rfl⟩⟩
/-- where only what does not count has changed -/
theorem CB_cg {M M1 : zM} (h07 : M1 0 7 = M 0 7) (h5 : M1 5 = M 5) (h6 : M1 6 = M 6) (h7 : M1 7 = M 7) (h8 : M1 8 = M 8) (h10 : M1 10 = M 10) (h11 : M1 11 = M 11) (h12 : M1 12 = M 12) (h13 : M1 13 = M 13) (h15 : M1 15 = M 15) (h : CB M) : CB M1 := by
  obtain ⟨⟨S, hS, hR⟩, hno, ng, n7⟩ := h
  have hrt : rt M1 = rt M := rt_cg h12 h13 h15 h07
  refine ⟨⟨S, plo_cg h5 h6 h7 h8 h10 h11 hS, fun x hx => hR x (by rw [← hrt]; exact hx)⟩, ?_, by rw [h13]; exact ng, by rw [h07]; exact n7⟩
  rw [LBc_cg h6 h7 h8 hrt, h5]
  exact hno
theorem hkp_cg {M M1 : zM} (h07 : M1 0 7 = M 0 7) (h5 : M1 5 = M 5) (h6 : M1 6 = M 6) (h7 : M1 7 = M 7) (h8 : M1 8 = M 8) (h10 : M1 10 = M 10) (h11 : M1 11 = M 11) (h12 : M1 12 = M 12) (h13 : M1 13 = M 13) (h15 : M1 15 = M 15) (h : CB M) : hkp M M1 :=
  ⟨CB_cg h07 h5 h6 h7 h8 h10 h11 h12 h13 h15 h, by rw [h5], fun j _ _ => ⟨by rw [h12], Or.inr (by rw [den_cg h6 h7 h8])⟩⟩
/-- a handle is set to what another one has, or to nothing -/
theorem CB_12 {M : zM} {h v : Int} (hb : CB M) (hv : v = -1 ∨ ∃ f : Int, (0 ≤ f ∧ f < 12) ∧ v = M 12 f) : CB (uz M 12 h v) := by
  obtain ⟨⟨S, hS, hR⟩, hno, ng, n7⟩ := hb
  have o : ∀ a : Nat, ¬ a = 12 → uz M 12 h v a = M a := fun a ha => uz_o ha
  have hd : den (uz M 12 h v) = den M := den_cg (o 6 (by decide)) (o 7 (by decide)) (o 8 (by decide))
  have hrt : ∀ z, rt (uz M 12 h v) z → z = -1 ∨ rt M z := fun z hz => by
    rcases hz with ⟨j, jb, q⟩ | ⟨g, gb, q⟩ | ⟨k, kb, q⟩
    · rw [uz_a] at q
      by_cases e : j = h
      · rw [if_pos e] at q
        rcases hv with w | ⟨f, fb, w⟩
        · exact Or.inl (q.trans w)
        · exact Or.inr (Or.inl ⟨f, fb, q.trans w⟩)
      · rw [if_neg e] at q
        exact Or.inr (Or.inl ⟨j, jb, q⟩)
    · rw [o 13 (by decide)] at q
      exact Or.inr (Or.inr (Or.inl ⟨g, gb, q⟩))
    · rw [o 0 (by decide)] at kb
      rw [o 15 (by decide)] at q
      exact Or.inr (Or.inr (Or.inr ⟨k, kb, q⟩))
  refine ⟨⟨S, plo_cg (o 5 (by decide)) (o 6 (by decide)) (o 7 (by decide)) (o 8 (by decide)) (o 10 (by decide)) (o 11 (by decide)) hS, fun z hz => ?_⟩, ?_, by rw [o 13 (by decide)]; exact ng, by rw [o 0 (by decide)]; exact n7⟩
  · rcases hrt z hz with q | q
    · exact Or.inl q
    · exact hR z q
  · rw [o 5 (by decide)]
    refine fun ho => hno (over_mono (fun y hy => ?_) ho)
    obtain ⟨z, a, b, c⟩ := hy
    rw [hd] at c
    exact ⟨z, (hrt z a).resolve_left b, b, c⟩
theorem plo_58 {M : zM} {S : Int → Prop} {n : Int} (h : plo M S) : plo (uz M 5 8 n) S := by
  obtain ⟨h1, ch, fl, h2⟩ := h
  refine ⟨pst_cg (uz_o (by decide)) (uz_o (by decide)) (uz_o (by decide)) h1, ch, fl, ?_⟩
  unfold tbC at *
  rw [uz_n (show (6 : Int) ≠ 8 by decide), uz_n (show (7 : Int) ≠ 8 by decide), uz_o (show (10 : Nat) ≠ 5 by decide), uz_o (show (11 : Nat) ≠ 5 by decide), uz_o (show (7 : Nat) ≠ 5 by decide), uz_o (show (8 : Nat) ≠ 5 by decide)]
  exact h2
def rmQ (M : zM) (n x : Int) (M' : zM) : Prop := ∃ u : Int, cnt (LBc M) u ∧ ((n < u ∧ x = -3 ∧ M' 5 8 = M 5 8) ∨ (u ≤ n ∧ x = M 5 8 ∧ M' 5 8 = n))
def hkr (M M' : zM) : Prop := CB M' ∧ M' 12 = M 12 ∧ den M' = den M
set_option maxRecDepth 20000 in
theorem zX3_share_f {G : tl_G} {M : zM} {J : zJ} {h f : Int} (hc : cI M) (hb : CB M) : ZN G yX3_share mX3_share 2 kPub [vR 0, vI h, vI f] F1 M J (qI (fun x M' J' => J' = J ∧ cI M' ∧ (((h < 0 ∨ 12 ≤ h ∨ f < 0 ∨ 12 ≤ f ∨ M 12 f = -1) ∧ x = -1 ∧ M' = M) ∨ (¬ (h < 0 ∨ 12 ≤ h ∨ f < 0 ∨ 12 ≤ f ∨ M 12 f = -1) ∧ x = 1 ∧ CB M' ∧ M' = uz M 12 h (M 12 f))))) := by
  refine ZN_of (L := [_, _, _]) (by decide) rfl rfl (Nat.le_of_ble_eq_true rfl) rfl (fun hav => ?_)
  refine Z_iload_n (n := 1) dX3_share_0 rfl rfl ?_
  refine Z_callSi (n := 4) [_] _ dX3_share_1 rfl cwX3_123 rfl rfl (Nat.le_of_ble_eq_true rfl) (by refine ⟨?_, ?_, ?_, ?_⟩ <;> exact Nat.le_of_ble_eq_true rfl) (fun _ _ => trivial) (zX3_isHandle  ) ?_
  intro x1 M1 J1 z1 f1 q1
  obtain ⟨e1_1, e1_2, h1⟩ := q1
  replace e1_1 := e1_1.symm; subst e1_1
  replace e1_2 := e1_2.symm; subst e1_2
  refine Z_if_eq (n := 7) (t := 15) dX3_share_4 rfl (by decide) (fun c4 => ?_) (fun c4 => ?_)
  · refine Z_iconst (n := 16) dX3_share_15 rfl (by decide) ?_
    refine Z_iret dX3_share_16 rfl ?_
    exact ⟨rfl, hc, Or.inl ⟨by omega, rfl, rfl⟩⟩
  · refine Z_aload_n (n := 8) dX3_share_7 rfl rfl ?_
    refine Z_iload_n (n := 9) dX3_share_8 rfl rfl ?_
    refine Z_callVi (n := 12) [_] _ dX3_share_9 rfl cwX3_139 rfl rfl (by first | rfl | exact nS0 (nA_at (by omega) (by omega))) (Nat.le_of_ble_eq_true rfl) (by refine ⟨?_, ?_, ?_, ?_⟩ <;> exact Nat.le_of_ble_eq_true rfl) (fun _ _ => trivial) (zX3_hasFunction  ) ?_
    intro x9 M9 J9 z9 f9 q9
    obtain ⟨e9_1, e9_2, h9⟩ := q9
    replace e9_1 := e9_1.symm; subst e9_1
    replace e9_2 := e9_2.symm; subst e9_2
    refine Z_if_ne (n := 15) (t := 17) dX3_share_12 rfl (by decide) (fun c12 => ?_) (fun c12 => ?_)
    · refine Z_aload_n (n := 18) dX3_share_17 rfl rfl ?_
      refine Z_getA (n := 21) dX3_share_18 rfl ffX3_29 (by first | rfl | exact nS0 (nA_at (by omega) (by omega))) (by first | rfl | exact nS0 (nA_at (by omega) (by omega))) ?_
      refine Z_iload_n (n := 22) dX3_share_21 rfl rfl ?_
      refine Z_aload_n (n := 23) dX3_share_22 rfl rfl ?_
      refine Z_getA (n := 26) dX3_share_23 rfl ffX3_29 (by first | rfl | exact nS0 (nA_at (by omega) (by omega))) (by first | rfl | exact nS0 (nA_at (by omega) (by omega))) ?_
      refine Z_iload_n (n := 27) dX3_share_26 rfl rfl ?_
      refine Z_iald (n := 28) dX3_share_27 rfl (by first | rfl | exact nS0 (nA_at (by omega) (by omega))) rfl (by first | decide | assumption) (by omega) (by omega) (fun r27 s27 => ?_)
      refine Z_iast (n := 29) dX3_share_28 rfl (by first | rfl | exact nS0 (nA_at (by omega) (by omega))) rfl (by first | decide | assumption) (by omega) (by omega) (by first | assumption | omega | decide) (by first | assumption | omega | decide) (by decide) ?_
      refine Z_iconst (n := 30) dX3_share_29 rfl (by decide) ?_
      refine Z_fr (fun frR => ?_)
      refine Z_iret dX3_share_30 rfl ?_
      exact ⟨rfl, cI_mk hc frR (pI_fr hc.1 (uz_o (by decide)) (uz_o (by decide)) (uz_o (by decide)) (uz_o (by decide))) (ordOK_fr hc.2.1 (uz_o (by decide))), Or.inr ⟨by omega, rfl, CB_12 hb (Or.inr ⟨f, ⟨by omega, by omega⟩, rfl⟩), rfl⟩⟩
    · refine Z_iconst (n := 16) dX3_share_15 rfl (by decide) ?_
      refine Z_iret dX3_share_16 rfl ?_
      exact ⟨rfl, hc, Or.inl ⟨by omega, rfl, rfl⟩⟩
set_option maxRecDepth 20000 in
theorem zX3_drop_f {G : tl_G} {M : zM} {J : zJ} {h : Int} (hc : cI M) (hb : CB M) : ZN G yX3_drop mX3_drop 1 kPub [vR 0, vI h] F1 M J (qI (fun x M' J' => J' = J ∧ cI M' ∧ (((h < 0 ∨ 12 ≤ h) ∧ x = -1 ∧ M' = M) ∨ (0 ≤ h ∧ h < 12 ∧ ((M 12 h = -1 ∧ x = 0) ∨ (¬ M 12 h = -1 ∧ x = 1)) ∧ CB M' ∧ M' = uz M 12 h (-1))))) := by
  refine ZN_of (L := [_, _, _]) (by decide) rfl rfl (Nat.le_of_ble_eq_true rfl) rfl (fun hav => ?_)
  refine Z_iload_n (n := 1) dX3_drop_0 rfl rfl ?_
  refine Z_callSi (n := 4) [_] _ dX3_drop_1 rfl cwX3_123 rfl rfl (Nat.le_of_ble_eq_true rfl) (by refine ⟨?_, ?_, ?_, ?_⟩ <;> exact Nat.le_of_ble_eq_true rfl) (fun _ _ => trivial) (zX3_isHandle  ) ?_
  intro x1 M1 J1 z1 f1 q1
  obtain ⟨e1_1, e1_2, h1⟩ := q1
  replace e1_1 := e1_1.symm; subst e1_1
  replace e1_2 := e1_2.symm; subst e1_2
  refine Z_if_ne (n := 7) (t := 9) dX3_drop_4 rfl (by decide) (fun c4 => ?_) (fun c4 => ?_)
  · refine Z_aload_n (n := 10) dX3_drop_9 rfl rfl ?_
    refine Z_getA (n := 13) dX3_drop_10 rfl ffX3_29 (by first | rfl | exact nS0 (nA_at (by omega) (by omega))) (by first | rfl | exact nS0 (nA_at (by omega) (by omega))) ?_
    refine Z_iload_n (n := 14) dX3_drop_13 rfl rfl ?_
    refine Z_iald (n := 15) dX3_drop_14 rfl (by first | rfl | exact nS0 (nA_at (by omega) (by omega))) rfl (by first | decide | assumption) (by omega) (by omega) (fun r14 s14 => ?_)
    refine Z_iconst (n := 16) dX3_drop_15 rfl (by decide) ?_
    refine Z_icmp_ne (n := 19) (t := 23) dX3_drop_16 rfl (by decide) (fun c16 => ?_) (fun c16 => ?_)
    · refine Z_iconst (n := 24) dX3_drop_23 rfl (by decide) ?_
      refine Z_istore_n (L' := [_, _, _]) (n := 25) dX3_drop_24 rfl (by decide) rfl rfl ?_
      refine Z_aload_n (n := 26) dX3_drop_25 rfl rfl ?_
      refine Z_getA (n := 29) dX3_drop_26 rfl ffX3_29 (by first | rfl | exact nS0 (nA_at (by omega) (by omega))) (by first | rfl | exact nS0 (nA_at (by omega) (by omega))) ?_
      refine Z_iload_n (n := 30) dX3_drop_29 rfl rfl ?_
      refine Z_iconst (n := 31) dX3_drop_30 rfl (by decide) ?_
      refine Z_iast (n := 32) dX3_drop_31 rfl (by first | rfl | exact nS0 (nA_at (by omega) (by omega))) rfl (by first | decide | assumption) (by omega) (by omega) (by first | assumption | omega | decide) (by first | assumption | omega | decide) (by decide) ?_
      refine Z_iload_n (n := 33) dX3_drop_32 rfl rfl ?_
      refine Z_fr (fun frR => ?_)
      refine Z_iret dX3_drop_33 rfl ?_
      exact ⟨rfl, cI_mk hc frR (pI_fr hc.1 (uz_o (by decide)) (uz_o (by decide)) (uz_o (by decide)) (uz_o (by decide))) (ordOK_fr hc.2.1 (uz_o (by decide))), Or.inr ⟨by omega, by omega, by omega, CB_12 hb (Or.inl rfl), rfl⟩⟩
    · refine Z_iconst (n := 20) dX3_drop_19 rfl (by decide) ?_
      refine Z_goto (t := 24) dX3_drop_20 (by decide) ?_
      refine Z_istore_n (L' := [_, _, _]) (n := 25) dX3_drop_24 rfl (by decide) rfl rfl ?_
      refine Z_aload_n (n := 26) dX3_drop_25 rfl rfl ?_
      refine Z_getA (n := 29) dX3_drop_26 rfl ffX3_29 (by first | rfl | exact nS0 (nA_at (by omega) (by omega))) (by first | rfl | exact nS0 (nA_at (by omega) (by omega))) ?_
      refine Z_iload_n (n := 30) dX3_drop_29 rfl rfl ?_
      refine Z_iconst (n := 31) dX3_drop_30 rfl (by decide) ?_
      refine Z_iast (n := 32) dX3_drop_31 rfl (by first | rfl | exact nS0 (nA_at (by omega) (by omega))) rfl (by first | decide | assumption) (by omega) (by omega) (by first | assumption | omega | decide) (by first | assumption | omega | decide) (by decide) ?_
      refine Z_iload_n (n := 33) dX3_drop_32 rfl rfl ?_
      refine Z_fr (fun frR => ?_)
      refine Z_iret dX3_drop_33 rfl ?_
      exact ⟨rfl, cI_mk hc frR (pI_fr hc.1 (uz_o (by decide)) (uz_o (by decide)) (uz_o (by decide)) (uz_o (by decide))) (ordOK_fr hc.2.1 (uz_o (by decide))), Or.inr ⟨by omega, by omega, by omega, CB_12 hb (Or.inl rfl), rfl⟩⟩
  · refine Z_iconst (n := 8) dX3_drop_7 rfl (by decide) ?_
    refine Z_iret dX3_drop_8 rfl ?_
    exact ⟨rfl, hc, Or.inl ⟨by omega, rfl, rfl⟩⟩
set_option maxRecDepth 20000 in
theorem zX3_inUse_f {G : tl_G} {M : zM} {J : zJ}  (hb : CB M) : ZN G yX3_inUse mX3_inUse 11 kColl [vR 0] F1 M J (qI (fun x M' J' => J' = J ∧ pI M' ∧ M' 5 8 = M 5 8 ∧ cnt (LBc M) x ∧ hkr M M')) := by
  refine ZN_of (L := [_]) (by decide) rfl rfl (Nat.le_of_ble_eq_true rfl) rfl (fun hav => ?_)
  obtain ⟨⟨Sb, hSb, hRb⟩, hno, ng⟩ := hb
  refine Z_aload_n (n := 1) dX3_inUse_0 rfl rfl ?_
  refine Z_callVv (n := 4) [] _ dX3_inUse_1 rfl cwX3_155 rfl rfl rfl (Nat.le_of_ble_eq_true rfl) (by refine ⟨?_, ?_, ?_, ?_⟩ <;> exact Nat.le_of_ble_eq_true rfl) (fun _ h => h) (zX3_collect_f  (by exact hSb) (by exact hRb)) ?_
  intro M1 J1 f1 q1
  obtain ⟨e1_1, cq1⟩ := q1
  replace e1_1 := e1_1.symm; subst e1_1
  refine Z_aload_n (n := 5) dX3_inUse_4 rfl rfl ?_
  refine Z_getO (n := 8) dX3_inUse_5 rfl ffX3_25 rfl rfl ?_
  refine Z_callVi (n := 11) [] _ dX3_inUse_8 rfl cwX3_158 rfl rfl rfl (Nat.le_of_ble_eq_true rfl) (by refine ⟨?_, ?_, ?_, ?_⟩ <;> exact Nat.le_of_ble_eq_true rfl) (fun _ _ => trivial) (zX2_usedCount  ) ?_
  intro x8 M8 J8 z8 f8 q8
  obtain ⟨e8_1, e8_2, h8⟩ := q8
  replace e8_1 := e8_1.symm; subst e8_1
  replace e8_2 := e8_2.symm; subst e8_2
  refine Z_iret dX3_inUse_11 rfl ?_
  obtain ⟨S', h1', h2', h3', h4'⟩ := cq1
  have hrt : rt M1 = rt M := rt_cg (f1 12 (by decide)).1 (f1 13 (by decide)).1 (f1 15 (by decide)).1 (congrFun (f1 0 (by decide)).1 7)
  have hl := LBc_cg (f1 6 (by decide)).1 (f1 7 (by decide)).1 (f1 8 (by decide)).1 hrt
  exact ⟨rfl, plo_pI h1', h4', by rw [← hl, h8]; exact cl_cnt h1' h2' h3', ⟨⟨S', h1', h2'⟩, by rw [hl, h4']; exact hno, by rw [(f1 13 (by decide)).1]; exact ng.1, by rw [(f1 0 (by decide)).1]; exact ng.2⟩, (f1 12 (by decide)).1, den_cg (f1 6 (by decide)).1 (f1 7 (by decide)).1 (f1 8 (by decide)).1⟩
set_option maxRecDepth 20000 in
theorem zX3_room_f {G : tl_G} {M : zM} {J : zJ} {n : Int} (hc : cI M) (hb : CB M) : ZN G yX3_room mX3_room 12 kPub [vR 0, vI n] F1 M J (qI (fun x M' J' => J' = J ∧ cI M' ∧ (((n < 0 ∨ 250 < n) ∧ x = -2 ∧ M' = M) ∨ (0 ≤ n ∧ n ≤ 250 ∧ rmQ M n x M' ∧ hkr M M')))) := by
  refine ZN_of (L := [_, _]) (by decide) rfl rfl (Nat.le_of_ble_eq_true rfl) rfl (fun hav => ?_)
  refine Z_iload_n (n := 1) dX3_room_0 rfl rfl ?_
  refine Z_if_lt (n := 4) (t := 11) dX3_room_1 rfl (by decide) (fun c1 => ?_) (fun c1 => ?_)
  · refine Z_bipush (n := 13) dX3_room_11 rfl (by decide) (by decide) ?_
    refine Z_iret dX3_room_13 rfl ?_
    exact ⟨rfl, hc, Or.inl ⟨by omega, rfl, rfl⟩⟩
  · refine Z_iload_n (n := 5) dX3_room_4 rfl rfl ?_
    refine Z_sipush (n := 8) dX3_room_5 rfl (by decide) (by decide) ?_
    refine Z_icmp_le (n := 11) (t := 14) dX3_room_8 rfl (by decide) (fun c8 => ?_) (fun c8 => ?_)
    · refine Z_aload_n (n := 15) dX3_room_14 rfl rfl ?_
      refine Z_callVi (n := 18) [] _ dX3_room_15 rfl cwX3_117 rfl rfl (by first | rfl | exact nS0 (nA_at (by omega) (by omega))) (Nat.le_of_ble_eq_true rfl) (by refine ⟨?_, ?_, ?_, ?_⟩ <;> exact Nat.le_of_ble_eq_true rfl) (fun a h => by unfold kPub at h; unfold kColl; omega) (zX3_inUse_f  (by exact hb)) ?_
      intro x15 M15 J15 z15 f15 q15
      obtain ⟨e15_1, pi15, b15, cn15, hq15⟩ := q15
      replace e15_1 := e15_1.symm; subst e15_1
      refine Z_iload_n (n := 19) dX3_room_18 rfl rfl ?_
      refine Z_icmp_le (n := 22) (t := 25) dX3_room_19 rfl (by decide) (fun c19 => ?_) (fun c19 => ?_)
      · refine Z_aload_n (n := 26) dX3_room_25 rfl rfl ?_
        refine Z_getO (n := 29) dX3_room_26 rfl ffX3_25 (by first | rfl | exact nS0 (nA_at (by omega) (by omega))) (by first | rfl | exact nS0 (nA_at (by omega) (by omega))) ?_
        refine Z_iload_n (n := 30) dX3_room_29 rfl rfl ?_
        refine Z_callVi (n := 33) [_] _ dX3_room_30 rfl cwX3_120 rfl rfl (by first | rfl | exact nS0 (nA_at (by omega) (by omega))) (Nat.le_of_ble_eq_true rfl) (by refine ⟨?_, ?_, ?_, ?_⟩ <;> exact Nat.le_of_ble_eq_true rfl) (fun _ h => h) (zX2_changeLimit  (by omega) (by omega) (by decide)) ?_
        intro x30 M30 J30 z30 f30 q30
        obtain ⟨e30_1, h30, e30_2⟩ := q30
        replace e30_1 := e30_1.symm; subst e30_1
        replace e30_2 := e30_2.symm; subst e30_2
        refine Z_fr (fun frR => ?_)
        refine Z_iret dX3_room_33 rfl ?_
        obtain ⟨⟨⟨S', h1', h2'⟩, hno', ng'⟩, k12, kd⟩ := hq15
        have hrt : rt (uz M15 5 8 n) = rt M15 := rt_cg (uz_o (by decide)) (uz_o (by decide)) (uz_o (by decide)) (by rw [uz_oo (by decide)])
        have hl : LBc (uz M15 5 8 n) = LBc M15 := LBc_cg (uz_o (by decide)) (uz_o (by decide)) (uz_o (by decide)) hrt
        have hrt0 : rt M15 = rt M := rt_cg k12 (f15 13 (by decide)).1 (f15 15 (by decide)).1 (congrFun (f15 0 (by decide)).1 7)
        have hl0 : LBc M15 = LBc M := LBc_cg (f15 6 (by decide)).1 (f15 7 (by decide)).1 (f15 8 (by decide)).1 hrt0
        have hno2 : ¬ over (LBc (uz M15 5 8 n)) (uz M15 5 8 n 5 8) := by
          rw [hl, hl0, uz_s]
          intro ho
          have := cnt_over (fun _ q => q) cn15 ho
          omega
        exact ⟨rfl, cI_mk hc frR (plo_pI (plo_58 h1')) (ordOK_fr hc.2.1 (by rw [uz_o (by decide)]; exact (f15 4 (by decide)).1)), Or.inr ⟨by omega, by omega, ⟨x15, cn15, Or.inr ⟨by omega, h30.trans b15, uz_s⟩⟩, ⟨⟨S', plo_58 h1', fun z hz => h2' z (by rw [← hrt]; exact hz)⟩, hno2, by rw [uz_o (by decide)]; exact ng'.1, by rw [uz_oo (by decide)]; exact ng'.2⟩, (uz_o (by decide)).trans k12, (den_cg (uz_o (by decide)) (uz_o (by decide)) (uz_o (by decide))).trans kd⟩⟩
      · refine Z_bipush (n := 24) dX3_room_22 rfl (by decide) (by decide) ?_
        refine Z_fr (fun frR => ?_)
        refine Z_iret dX3_room_24 rfl ?_
        exact ⟨rfl, cI_mk hc frR pi15 (ordOK_fr hc.2.1 (f15 4 (by decide)).1), Or.inr ⟨by omega, by omega, ⟨x15, cn15, Or.inl ⟨by omega, rfl, b15⟩⟩, hq15⟩⟩
    · refine Z_bipush (n := 13) dX3_room_11 rfl (by decide) (by decide) ?_
      refine Z_iret dX3_room_13 rfl ?_
      exact ⟨rfl, hc, Or.inl ⟨by omega, rfl, rfl⟩⟩
