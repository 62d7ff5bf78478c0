/-! ===== the class: counts, give, keep; a call on its way ===== -/
/-- as many marked ones as markedWith says -/
theorem ctE_hr {w : Int → Int} : ∀ n : Nat, ctE (fun k => w (k + 2)) 1 n = hr (fun k => ind ((2 ≤ k ∧ k < 252) ∧ w k = 1)) (n + 2) ∨ 250 < n
  | 0 => Or.inl (by
    show 0 = _
    exact (hr_zero (fun k a b => ind_f (fun q => by omega))).symm)
  | n + 1 => by
    by_cases hn : 250 < n + 1
    · exact Or.inr hn
    · left
      have ih := (ctE_hr (w := w) n).resolve_right (by omega)
      show ctE (fun k => w (k + 2)) 1 n + (if w ((n : Int) + 2) = 1 then 1 else 0) = hr _ (n + 2) + (if ind (_ ∧ w ((n + 2 : Nat) : Int) = 1) = 0 then 0 else 1)
      rw [ih, show ((n + 2 : Nat) : Int) = (n : Int) + 2 by omega]
      by_cases e : w ((n : Int) + 2) = 1
      · rw [if_pos e, if_neg (ind_nz.mpr ⟨⟨by omega, by omega⟩, e⟩)]
      · rw [if_neg e, if_pos (ind_f (fun q => e q.2))]
/-- marks of one node alone -/
theorem mk_one {M : zM} {S : Int → Prop} {n : Int} {w w' : Int → Int} (hp : pst M S) (hn : n = -1 ∨ okN S n) (h0 : ∀ m : Int, 0 ≤ m → m < 252 → w m = 0) (hm : mkR M S 1 n 0 w w') : (∀ m : Int, 2 ≤ m → m < 252 → w' m = 0 ∨ (w' m = 1 ∧ S m ∧ laid (den M n) (lab M m))) ∧ ∀ y : Lb, laid (den M n) y → ∃ m : Int, ((2 ≤ m ∧ m < 252) ∧ w' m = 1) ∧ lab M m = y := by
  have h1 : ∀ m : Int, 2 ≤ m → m < 252 → w' m = 0 ∨ (w' m = 1 ∧ S m ∧ laid (den M n) (lab M m)) := fun m m0 m1 => by
    rcases hm.1 m with e | ⟨e, a, b⟩
    · left; rw [e]; exact h0 m (by omega) m1
    · right; rw [e, h0 m (by omega) m1]; exact ⟨zo01.1, a, b⟩
  refine ⟨h1, fun y hy => ?_⟩
  have hok : okN S n := hn.resolve_left (fun e => by rw [e] at hy; exact laid_neg (by decide) hy)
  have hC : ∀ m : Int, (((2 ≤ m ∧ m < 252) ∧ w' m = 1)) → S m ∧ okN (fun m => (2 ≤ m ∧ m < 252) ∧ w' m = 1) (M 7 m) ∧ okN (fun m => (2 ≤ m ∧ m < 252) ∧ w' m = 1) (M 8 m) := fun m q => by
    have a : S m := by
      rcases h1 m q.1.1 q.1.2 with z | z
      · rw [q.2] at z; cases z
      · exact z.2.1
    obtain ⟨-, p, -, c1, c2⟩ := hp.2.1 m a
    have z := hm.2.2 m a p.1 (by unfold mkw; rw [q.2, zo01.2.2.2]; decide)
    have up : ∀ c : Int, okN S c → okw w' 1 c → okN (fun m => (2 ≤ m ∧ m < 252) ∧ w' m = 1) c := fun c hc t => by
      have ci := okN_in hp hc
      by_cases u : c < 2
      · rcases (show c = 0 ∨ c = 1 by omega) with v | v
        · exact Or.inl v
        · exact Or.inr (Or.inl v)
      · have k := t.resolve_left u
        rcases h1 c (by omega) ci.2 with v | v
        · unfold mkw at k
          rw [v, zo01.2.2.1] at k
          exact absurd rfl k
        · exact Or.inr (Or.inr ⟨⟨by omega, ci.2⟩, v.1⟩)
    exact ⟨a, up _ c1.1 z.1, up _ c2.1 z.2⟩
  have hx : okN (fun m => (2 ≤ m ∧ m < 252) ∧ w' m = 1) n := by
    have ci := okN_in hp hok
    by_cases u : n < 2
    · rcases (show n = 0 ∨ n = 1 by omega) with v | v
      · exact Or.inl v
      · exact Or.inr (Or.inl v)
    · have k := hm.2.1 (by omega)
      rcases h1 n (by omega) ci.2 with v | v
      · unfold mkw at k
        rw [v, zo01.2.2.1] at k
        exact absurd rfl k
      · exact Or.inr (Or.inr ⟨⟨by omega, ci.2⟩, v.1⟩)
  exact laid_in hp hC hx hy
theorem cnt_one {M : zM} {S : Int → Prop} {n x : Int} {w w' : Int → Int} (hp : pst M S) (hn : n = -1 ∨ okN S n) (h0 : ∀ m : Int, 0 ≤ m → m < 252 → w m = 0) (hm : mkR M S 1 n 0 w w') (hx : x = ctE (fun k => w' (k + 2)) 1 250) : cnt (laid (den M n)) x := by
  obtain ⟨h1, h2⟩ := mk_one hp hn h0 hm
  rw [hx, (ctE_hr (w := w') 250).resolve_right (by decide)]
  refine cnt_hr (g := lab M) (fun a b a0 a1 b0 b1 ha hb e => ?_) (fun a a0 a1 ha => ?_) (fun y hy => ?_)
  · have qa := ind_nz.mp ha
    have qb := ind_nz.mp hb
    refine lab_inj hp ?_ ?_ e
    · rcases h1 a qa.1.1 qa.1.2 with z | z
      · rw [qa.2] at z; cases z
      · exact z.2.1
    · rcases h1 b qb.1.1 qb.1.2 with z | z
      · rw [qb.2] at z; cases z
      · exact z.2.1
  · have qa := ind_nz.mp ha
    rcases h1 a qa.1.1 qa.1.2 with z | z
    · rw [qa.2] at z; cases z
    · exact z.2.2
  · obtain ⟨m, q, e⟩ := h2 y hy
    exact ⟨m, by omega, by omega, ind_nz.mpr q, e⟩
set_option maxRecDepth 20000 in
theorem zX2_nodeCount_f {G : tl_G} {M : zM} {J : zJ} {S : Int → Prop} {n : Int} (hp : pst M S) (hn : n = -1 ∨ okN S n) : ZN G yX2_nodeCount mX2_nodeCount 10 kMarks [vR 5, vI n] F1 M J (qI (fun x M' J' => J' = J ∧ cnt (laid (den M n)) x)) := by
  refine ZN_of (L := [_, _]) (by decide) rfl rfl (Nat.le_of_ble_eq_true rfl) rfl (fun hav => ?_)
  refine Z_aload_n (n := 1) dX2_nodeCount_0 rfl rfl ?_
  refine Z_callVv (n := 4) [] _ dX2_nodeCount_1 rfl cwX2_53 rfl rfl rfl (Nat.le_of_ble_eq_true rfl) (by refine ⟨?_, ?_, ?_, ?_⟩ <;> exact Nat.le_of_ble_eq_true rfl) (fun _ h => h) (zX2_unmark  (by decide)) ?_
  intro M1 J1 f1 q1
  obtain ⟨e1_1, e1_2⟩ := q1
  replace e1_1 := e1_1.symm; subst e1_1
  replace e1_2 := e1_2.symm; subst e1_2
  have o1 : ∀ a : Nat, ¬ a = 9 → fillz M 9 252 0 a = M a := fun a ha => fillz_o ha
  have z1 : ∀ m : Int, 0 ≤ m → m < 252 → fillz M 9 252 0 9 m = 0 := fun m a b => fillz_a a (by omega)
  have hp1 : pst (fillz M 9 252 0) S := pst_cg (o1 6 (by decide)) (o1 7 (by decide)) (o1 8 (by decide)) hp
  refine Z_aload_n (n := 5) dX2_nodeCount_4 rfl rfl ?_
  refine Z_iload_n (n := 6) dX2_nodeCount_5 rfl rfl ?_
  refine Z_callVv (n := 9) [_] _ dX2_nodeCount_6 rfl cwX2_56 rfl rfl rfl (Nat.le_of_ble_eq_true rfl) (by refine ⟨?_, ?_, ?_, ?_⟩ <;> exact Nat.le_of_ble_eq_true rfl) (fun _ h => h) (zX2_mark_f  (by exact hp1) (by exact hn) (by exact (c3_0 hp1 z1).2)) ?_
  intro M6 J6 f6 q6
  obtain ⟨e6_1, mr6⟩ := q6
  replace e6_1 := e6_1.symm; subst e6_1
  refine Z_aload_n (n := 10) dX2_nodeCount_9 rfl rfl ?_
  refine Z_iconst (n := 11) dX2_nodeCount_10 rfl (by decide) ?_
  refine Z_callVi (n := 14) [_] _ dX2_nodeCount_11 rfl cwX2_60 rfl rfl rfl (Nat.le_of_ble_eq_true rfl) (by refine ⟨?_, ?_, ?_, ?_⟩ <;> exact Nat.le_of_ble_eq_true rfl) (fun _ _ => trivial) (zX2_markedWith  ) ?_
  intro x11 M11 J11 z11 f11 q11
  obtain ⟨e11_1, e11_2, h11⟩ := q11
  replace e11_1 := e11_1.symm; subst e11_1
  replace e11_2 := e11_2.symm; subst e11_2
  refine Z_iret dX2_nodeCount_14 rfl ?_
  exact ⟨rfl, cnt_one hp hn z1 (mkR_cg (o1 6 (by decide)) (o1 7 (by decide)) (o1 8 (by decide)) mr6) h11⟩
set_option maxRecDepth 20000 in
theorem zX3_give_f {G : tl_G} {M : zM} {J : zJ} {S : Int → Prop} {h v : Int} (h0 : 0 ≤ h) (h1 : h < 12) (hp : pst M S) (hv : v = -1 ∨ okN S v) : ZN G yX3_give mX3_give 11 kGive [vR 0, vI h, vI v] F1 M J (qI (fun x M' J' => J' = J ∧ ((∀ g : Int, 0 ≤ g → g < 40 → M' 13 g = -1) ∧ M' 0 7 = 0) ∧ ((v = -1 ∧ x = -5 ∧ M' 12 = M 12) ∨ (¬ v = -1 ∧ cnt (laid (den M v)) x ∧ M' 12 = updI (M 12) h v)))) := by
  refine ZN_of (L := [_, _, _]) (by decide) rfl rfl (Nat.le_of_ble_eq_true rfl) rfl (fun hav => ?_)
  have iv : v = -1 ∨ (0 ≤ v ∧ v < 252) := hv.imp_right (fun q => okN_in hp q)
  refine Z_aload_n (n := 1) dX3_give_0 rfl rfl ?_
  refine Z_callVv (n := 4) [] _ dX3_give_1 rfl cwX3_188 rfl rfl rfl (Nat.le_of_ble_eq_true rfl) (by refine ⟨?_, ?_, ?_, ?_⟩ <;> exact Nat.le_of_ble_eq_true rfl) (fun _ h => h) (zX3_endSteps  (by decide) (by decide)) ?_
  intro M1 J1 f1 q1
  obtain ⟨e1_1, e1_2⟩ := q1
  replace e1_1 := e1_1.symm; subst e1_1
  replace e1_2 := e1_2.symm; subst e1_2
  have o1 : ∀ a : Nat, ¬ a = 0 → ¬ a = 13 → fillz (uz M 0 7 0) 13 40 (-1) a = M a := fun a h1 h2 => by rw [fillz_o h2, uz_o h1]
  refine Z_iload_n (n := 5) dX3_give_4 rfl rfl ?_
  refine Z_iconst (n := 6) dX3_give_5 rfl (by decide) ?_
  refine Z_icmp_ne (n := 9) (t := 12) dX3_give_6 rfl (by decide) (fun c6 => ?_) (fun c6 => ?_)
  · refine Z_aload_n (n := 13) dX3_give_12 rfl rfl ?_
    refine Z_getA (n := 16) dX3_give_13 rfl ffX3_29 rfl rfl ?_
    refine Z_iload_n (n := 17) dX3_give_16 rfl rfl ?_
    refine Z_iload_n (n := 18) dX3_give_17 rfl rfl ?_
    refine Z_iast (n := 19) dX3_give_18 rfl rfl rfl (by first | decide | assumption) (by omega) (by omega) (by first | assumption | omega | decide) (by first | assumption | omega | decide) (by decide) ?_
    refine Z_nm (fun M18 e18 => ?_)
    have o2 : ∀ a : Nat, ¬ a = 0 → ¬ a = 13 → ¬ a = 12 → M18 a = M a := fun a h1 h2 h3 => by rw [e18, uz_o h3]; exact o1 a h1 h2
    have t12 : M18 12 = updI (M 12) h v := by rw [e18, uz_fn, o1 12 (by decide) (by decide)]
    have t13 : ∀ g : Int, 0 ≤ g → g < 40 → M18 13 g = -1 := fun g a b => by rw [e18, uz_oo (by decide)]; exact fillz_a a (by omega)
    have t07 : M18 0 7 = 0 := by rw [e18, uz_oo (by decide), fillz_o (by decide), uz_s]
    clear e18
    refine Z_aload_n (n := 20) dX3_give_19 rfl rfl ?_
    refine Z_getO (n := 23) dX3_give_20 rfl ffX3_25 rfl rfl ?_
    refine Z_iload_n (n := 24) dX3_give_23 rfl rfl ?_
    refine Z_callVi (n := 27) [_] _ dX3_give_24 rfl cwX3_152 rfl rfl rfl (Nat.le_of_ble_eq_true rfl) (by refine ⟨?_, ?_, ?_, ?_⟩ <;> exact Nat.le_of_ble_eq_true rfl) (fun a h => by unfold kGive at h; unfold kMarks; omega) (zX2_nodeCount_f  (by exact pst_cg (o2 6 (by decide) (by decide) (by decide)) (o2 7 (by decide) (by decide) (by decide)) (o2 8 (by decide) (by decide) (by decide)) hp) (by exact hv)) ?_
    intro x24 M24 J24 z24 f24 q24
    obtain ⟨e24_1, cn24⟩ := q24
    replace e24_1 := e24_1.symm; subst e24_1
    refine Z_iret dX3_give_27 rfl ?_
    rw [den_cg (o2 6 (by decide) (by decide) (by decide)) (o2 7 (by decide) (by decide) (by decide)) (o2 8 (by decide) (by decide) (by decide))] at cn24
    refine ⟨rfl, ⟨fun g a b => ?_, ?_⟩, Or.inr ⟨by omega, cn24, ?_⟩⟩
    · rw [(f24 13 (by decide)).1]; exact t13 g a b
    · rw [(f24 0 (by decide)).1]; exact t07
    · rw [(f24 12 (by decide)).1]; exact t12
  · refine Z_bipush (n := 11) dX3_give_9 rfl (by decide) (by decide) ?_
    refine Z_iret dX3_give_11 rfl ?_
    refine ⟨rfl, ⟨fun g a b => fillz_a a (by omega), ?_⟩, Or.inl ⟨by omega, rfl, o1 12 (by decide) (by decide)⟩⟩
    rw [fillz_o (by decide), uz_s]
set_option maxRecDepth 20000 in
theorem zX3_keep_f {G : tl_G} {M : zM} {J : zJ} {v : Int} (h0 : -1 ≤ v) (h1 : v ≤ 251) (h7 : M 0 7 < 8) : ZN G yX3_keep mX3_keep 0 kKeep [vR 0, vI v] F1 M J (qI (fun x M' J' => J' = J ∧ x = v ∧ ((v = -1 ∧ M' = M) ∨ (¬ v = -1 ∧ M' = uz (uz M 15 (M 0 7) v) 0 7 (M 0 7 + 1))))) := by
  refine ZN_of (L := [_, _]) (by decide) rfl rfl (Nat.le_of_ble_eq_true rfl) rfl (fun hav => ?_)
  refine Z_iload_n (n := 1) dX3_keep_0 rfl rfl ?_
  refine Z_iconst (n := 2) dX3_keep_1 rfl (by decide) ?_
  refine Z_icmp_eq (n := 5) (t := 34) dX3_keep_2 rfl (by decide) (fun c2 => ?_) (fun c2 => ?_)
  · refine Z_iload_n (n := 35) dX3_keep_34 rfl rfl ?_
    refine Z_iret dX3_keep_35 rfl ?_
    refine ⟨rfl, rfl, ?_⟩
    first
      | exact Or.inl ⟨by omega, rfl⟩
      | exact Or.inr ⟨by omega, rfl⟩
  · refine Z_aload_n (n := 6) dX3_keep_5 rfl rfl ?_
    refine Z_getI (n := 9) (ki := 7) dX3_keep_6 rfl ffX3_42 rfl rfl rfl (fun r6 s6 => ?_)
    try simp only [uz_oo (show (0 : Nat) ≠ 15 by decide)] at r6 s6 ⊢
    refine Z_bipush (n := 11) dX3_keep_9 rfl (by decide) (by decide) ?_
    refine Z_icmp_ge (n := 14) (t := 34) dX3_keep_11 rfl (by decide) (fun c11 => ?_) (fun c11 => ?_)
    · omega
    · refine Z_aload_n (n := 15) dX3_keep_14 rfl rfl ?_
      refine Z_getA (n := 18) dX3_keep_15 rfl ffX3_39 rfl rfl ?_
      refine Z_aload_n (n := 19) dX3_keep_18 rfl rfl ?_
      refine Z_getI (n := 22) (ki := 7) dX3_keep_19 rfl ffX3_42 rfl rfl rfl (fun r19 s19 => ?_)
      try simp only [uz_oo (show (0 : Nat) ≠ 15 by decide)] at r19 s19 ⊢
      refine Z_iload_n (n := 23) dX3_keep_22 rfl rfl ?_
      refine Z_iast (n := 24) dX3_keep_23 rfl rfl rfl (by first | decide | assumption) (by omega) (by omega) (by first | assumption | omega | decide) (by first | assumption | omega | decide) (by decide) ?_
      refine Z_aload_n (n := 25) dX3_keep_24 rfl rfl ?_
      refine Z_dup (n := 26) dX3_keep_25 rfl rfl ?_
      refine Z_getI (n := 29) (ki := 7) dX3_keep_26 rfl ffX3_42 rfl rfl rfl (fun r26 s26 => ?_)
      try simp only [uz_oo (show (0 : Nat) ≠ 15 by decide)] at r26 s26 ⊢
      refine Z_iconst (n := 30) dX3_keep_29 rfl (by decide) ?_
      refine Z_iadd (n := 31) dX3_keep_30 rfl (by omega) ?_
      refine Z_putI (n := 34) (ki := 7) dX3_keep_31 rfl ffX3_42 rfl (by decide) rfl rfl (by first | assumption | omega | decide) (by first | assumption | omega | decide) (by decide) ?_
      refine Z_iload_n (n := 35) dX3_keep_34 rfl rfl ?_
      refine Z_iret dX3_keep_35 rfl ?_
      refine ⟨rfl, rfl, ?_⟩
      first
        | exact Or.inl ⟨by omega, rfl⟩
        | exact Or.inr ⟨by omega, rfl⟩
/-- a call on its way: handles as they were, E at hand beside them -/
def mid (M M2 : zM) (E : Lb → Prop) : Prop := (∃ S : Int → Prop, plo M2 S ∧ rtO M2 S) ∧ (∀ j : Int, 0 ≤ j → j < 12 → M2 12 j = M 12 j ∧ (M 12 j = -1 ∨ den M2 (M 12 j) = den M (M 12 j))) ∧ M2 5 8 = M 5 8 ∧ (∀ y, LBc M2 y ↔ (LBc M y ∨ E y)) ∧ ¬ over (fun y => LBc M y ∨ E y) (M 5 8)
/-- between calls -/
def CB (M : zM) : Prop := (∃ S : Int → Prop, plo M S ∧ rtO M S) ∧ ¬ over (LBc M) (M 5 8) ∧ (∀ g : Int, 0 ≤ g → g < 40 → M 13 g = -1) ∧ M 0 7 = 0
theorem over_cg {P Q : Lb → Prop} {c : Int} (h : ∀ y, P y ↔ Q y) : over P c ↔ over Q c := ⟨over_mono (fun y => (h y).mp), over_mono (fun y => (h y).mpr)⟩
theorem mid_no {M M2 : zM} {E : Lb → Prop} (h : mid M M2 E) : ¬ over (LBc M2) (M2 5 8) := by
  rw [h.2.2.1, over_cg h.2.2.2.1]
  exact h.2.2.2.2
theorem mid_0 {M M2 : zM} (h : CB M) (o : ∀ a : Nat, ¬ a = 0 → M2 a = M a) (h07 : M2 0 7 = M 0 7) : mid M M2 (fun _ => False) := by
  obtain ⟨⟨S, hS, hR⟩, hno, -, -⟩ := h
  have hrt : rt M2 = rt M := rt_cg (o 12 (by decide)) (o 13 (by decide)) (o 15 (by decide)) h07
  have hd : den M2 = den M := den_cg (o 6 (by decide)) (o 7 (by decide)) (o 8 (by decide))
  refine ⟨⟨S, plo_cg (o 5 (by decide)) (o 6 (by decide)) (o 7 (by decide)) (o 8 (by decide)) (o 10 (by decide)) (o 11 (by decide)) hS, fun x hx => hR x (by rw [← hrt]; exact hx)⟩, fun j _ _ => ⟨by rw [o 12 (by decide)], Or.inr (by rw [hd])⟩, by rw [o 5 (by decide)], fun y => ?_, ?_⟩
  · rw [LBc_cg (o 6 (by decide)) (o 7 (by decide)) (o 8 (by decide)) hrt]
    exact ⟨Or.inl, fun q => q.resolve_right id⟩
  · rw [over_cg (Q := LBc M) (fun y => ⟨fun q => q.resolve_right id, Or.inl⟩)]
    exact hno
/-- behind a step -/
theorem mid_st {M M2 M3 : zM} {E : Lb → Prop} {F : FN} {x : Int} (h : mid M M2 E) (hq : stQ M2 F x M3) (h12 : M3 12 = M2 12) (h13 : M3 13 = M2 13) (h15 : M3 15 = M2 15) : mid M M3 E ∧ ((x = -1 ∧ over (fun y => (LBc M y ∨ E y) ∨ laid F y) (M 5 8)) ∨ (¬ x = -1 ∧ den M3 x = F ∧ ¬ over (fun y => (LBc M y ∨ E y) ∨ laid F y) (M 5 8))) ∧ (∃ S : Int → Prop, plo M3 S ∧ rtO M3 S ∧ (x = -1 ∨ okN S x)) := by
  obtain ⟨⟨S, hS, hR⟩, hh, h58, hlb, hno⟩ := h
  obtain ⟨⟨S', hS', hR', hx⟩, hd, k58, k07, hr⟩ := hq
  have hrt : rt M3 = rt M2 := rt_cg h12 h13 h15 k07
  have hl3 : ∀ y, LBc M3 y ↔ LBc M2 y := fun y => by
    unfold LBc
    rw [hrt]
    constructor
    · rintro ⟨z, a, b, c⟩
      have t := (hd z a).resolve_left b
      rw [t] at c
      exact ⟨z, a, b, c⟩
    · rintro ⟨z, a, b, c⟩
      have t := (hd z a).resolve_left b
      exact ⟨z, a, b, by rw [t]; exact c⟩
  refine ⟨⟨⟨S', hS', hR'⟩, fun j a b => ?_, k58.trans h58, fun y => (hl3 y).trans (hlb y), hno⟩, ?_, ⟨S', hS', hR', hx⟩⟩
  · obtain ⟨e, q⟩ := hh j a b
    refine ⟨by rw [h12]; exact e, ?_⟩
    rcases q with q | q
    · exact Or.inl q
    · have z := hd (M 12 j) (Or.inl ⟨j, ⟨a, b⟩, e.symm⟩)
      exact z.imp_right (fun t => t.trans q)
  · rw [h58] at hr
    have e : ∀ y, (LBc M2 y ∨ laid F y) ↔ ((LBc M y ∨ E y) ∨ laid F y) := fun y => or_congr (hlb y) Iff.rfl
    rw [over_cg e] at hr
    exact hr
/-- it is kept -/
theorem mid_kp {M M3 M4 : zM} {E : Lb → Prop} {F : FN} {x : Int} {S : Int → Prop} (h : mid M M3 E) (hS : plo M3 S) (hR : rtO M3 S) (hx : okN S x) (hd : den M3 x = F) (hno : ¬ over (fun y => (LBc M y ∨ E y) ∨ laid F y) (M 5 8)) (h7 : 0 ≤ M3 0 7) (e : M4 = uz (uz M3 15 (M3 0 7) x) 0 7 (M3 0 7 + 1)) : mid M M4 (fun y => E y ∨ laid F y) ∧ rt M4 x := by
  have o : ∀ a : Nat, ¬ a = 0 → ¬ a = 15 → M4 a = M3 a := fun a h1 h2 => by rw [e, uz_o h1, uz_o h2]
  have e07 : M4 0 7 = M3 0 7 + 1 := by rw [e, uz_s]
  have e15 : M4 15 = updI (M3 15) (M3 0 7) x := by rw [e, uz_o (by decide), uz_fn]
  have hd4 : den M4 = den M3 := den_cg (o 6 (by decide) (by decide)) (o 7 (by decide) (by decide)) (o 8 (by decide) (by decide))
  have hx1 : ¬ x = -1 := fun z => by have := okN_in hS.1 hx; omega
  have hrt : ∀ z, rt M4 z ↔ (rt M3 z ∨ z = x) := fun z => by
    unfold rt
    rw [o 12 (by decide) (by decide), o 13 (by decide) (by decide), e15, e07]
    constructor
    · rintro (q | q | ⟨k, kb, q⟩)
      · exact Or.inl (Or.inl q)
      · exact Or.inl (Or.inr (Or.inl q))
      · by_cases t : k = M3 0 7
        · right
          rw [t, updI_s] at q
          exact q
        · left
          rw [updI_n t] at q
          exact Or.inr (Or.inr ⟨k, by omega, q⟩)
    · rintro ((q | q | ⟨k, kb, q⟩) | q)
      · exact Or.inl q
      · exact Or.inr (Or.inl q)
      · exact Or.inr (Or.inr ⟨k, by omega, by rw [updI_n (by omega)]; exact q⟩)
      · exact Or.inr (Or.inr ⟨M3 0 7, by omega, by rw [updI_s]; exact q⟩)
  have hlb : ∀ y, LBc M4 y ↔ (LBc M3 y ∨ laid F y) := fun y => by
    unfold LBc
    rw [hd4]
    constructor
    · rintro ⟨z, a, b, c⟩
      rcases (hrt z).mp a with t | t
      · exact Or.inl ⟨z, t, b, c⟩
      · right; rw [t, hd] at c; exact c
    · rintro (⟨z, a, b, c⟩ | c)
      · exact ⟨z, (hrt z).mpr (Or.inl a), b, c⟩
      · exact ⟨x, (hrt x).mpr (Or.inr rfl), hx1, by rw [hd]; exact c⟩
  have assoc : ∀ y, ((LBc M y ∨ E y) ∨ laid F y) ↔ (LBc M y ∨ E y ∨ laid F y) := fun y => or_assoc
  refine ⟨⟨⟨S, plo_cg (o 5 (by decide) (by decide)) (o 6 (by decide) (by decide)) (o 7 (by decide) (by decide)) (o 8 (by decide) (by decide)) (o 10 (by decide) (by decide)) (o 11 (by decide) (by decide)) hS, fun z hz => ?_⟩, fun j a b => ?_, by rw [o 5 (by decide) (by decide)]; exact h.2.2.1, fun y => ?_, ?_⟩, (hrt x).mpr (Or.inr rfl)⟩
  · rcases (hrt z).mp hz with t | t
    · exact hR z t
    · right; rw [t]; exact hx
  · rw [o 12 (by decide) (by decide), hd4]
    exact h.2.1 j a b
  · rw [hlb y, h.2.2.2.1 y]
    exact assoc y
  · rw [← over_cg assoc]
    exact hno
/-- what a call that gives a handle leaves -/
def finQ (M : zM) (h : Int) (ok : Prop) (F : FN) (x : Int) (M' : zM) : Prop := CB M' ∧ M' 5 8 = M 5 8 ∧ ((¬ ok ∧ x = -5 ∧ ∀ j : Int, 0 ≤ j → j < 12 → (M' 12 j = M 12 j ∧ (M 12 j = -1 ∨ den M' (M 12 j) = den M (M 12 j)))) ∨ (ok ∧ cnt (laid F) x ∧ (¬ M' 12 h = -1 ∧ den M' (M' 12 h) = F) ∧ ∀ j : Int, 0 ≤ j → j < 12 → j ≠ h → (M' 12 j = M 12 j ∧ (M 12 j = -1 ∨ den M' (M 12 j) = den M (M 12 j)))))
theorem fin_mk {M M3 M4 : zM} {E : Lb → Prop} {F : FN} {x v h : Int} {ok : Prop} {S : Int → Prop} (hm : mid M M3 E) (h0 : 0 ≤ h) (h1 : h < 12) (hS : plo M3 S) (hR : rtO M3 S) (hv : v = -1 ∨ okN S v) (hok : ok ↔ ¬ v = -1) (hd : ¬ v = -1 → den M3 v = F ∧ ¬ over (fun y => (LBc M y ∨ E y) ∨ laid F y) (M 5 8)) (fr : ∀ a : Nat, ¬ a = 0 → ¬ a = 9 → ¬ a = 12 → ¬ a = 13 → M4 a = M3 a) (ng : (∀ g : Int, 0 ≤ g → g < 40 → M4 13 g = -1) ∧ M4 0 7 = 0) (gv : (v = -1 ∧ x = -5 ∧ M4 12 = M3 12) ∨ (¬ v = -1 ∧ cnt (laid (den M3 v)) x ∧ M4 12 = updI (M3 12) h v)) : finQ M h ok F x M4 := by
  have hd4 : den M4 = den M3 := den_cg (fr 6 (by decide) (by decide) (by decide) (by decide)) (fr 7 (by decide) (by decide) (by decide) (by decide)) (fr 8 (by decide) (by decide) (by decide) (by decide))
  have p4 : plo M4 S := plo_cg (fr 5 (by decide) (by decide) (by decide) (by decide)) (fr 6 (by decide) (by decide) (by decide) (by decide)) (fr 7 (by decide) (by decide) (by decide) (by decide)) (fr 8 (by decide) (by decide) (by decide) (by decide)) (fr 10 (by decide) (by decide) (by decide) (by decide)) (fr 11 (by decide) (by decide) (by decide) (by decide)) hS
  have e58 : M4 5 8 = M 5 8 := by rw [fr 5 (by decide) (by decide) (by decide) (by decide)]; exact hm.2.2.1
  -- roots: the handles, or nothing
  have hrt : ∀ z, rt M4 z → z = -1 ∨ ∃ j : Int, (0 ≤ j ∧ j < 12) ∧ z = M4 12 j := fun z hz => by
    rcases hz with ⟨j, jb, q⟩ | ⟨g, gb, q⟩ | ⟨k, kb, q⟩
    · exact Or.inr ⟨j, jb, q⟩
    · left; rw [q]; exact ng.1 g gb.1 gb.2
    · rw [ng.2] at kb; omega
  have old : ∀ j : Int, 0 ≤ j → j < 12 → M3 12 j = M 12 j ∧ (M 12 j = -1 ∨ den M4 (M 12 j) = den M (M 12 j)) := fun j a b => by
    rw [hd4]; exact hm.2.1 j a b
  have oldr : ∀ j : Int, 0 ≤ j → j < 12 → (M3 12 j = -1 ∨ okN S (M3 12 j)) := fun j a b => hR _ (Or.inl ⟨j, ⟨a, b⟩, rfl⟩)
  have oldl : ∀ (j : Int) (y : Lb), 0 ≤ j → j < 12 → ¬ M3 12 j = -1 → laid (den M4 (M3 12 j)) y → LBc M y := fun j y a b c d => by
    obtain ⟨e, q⟩ := old j a b
    rw [e] at c d
    rw [q.resolve_left c] at d
    exact ⟨M 12 j, Or.inl ⟨j, ⟨a, b⟩, rfl⟩, c, d⟩
  rcases gv with ⟨hv1, hx, e12⟩ | ⟨hv1, hx, e12⟩
  · refine ⟨⟨⟨S, p4, fun z hz => ?_⟩, ?_, ng⟩, e58, Or.inl ⟨fun t => (hok.mp t) hv1, hx, fun j a b => ?_⟩⟩
    · rcases hrt z hz with t | ⟨j, jb, t⟩
      · exact Or.inl t
      · rw [t, e12]; exact oldr j jb.1 jb.2
    · rw [e58]
      refine fun ho => hm.2.2.2.2 (over_mono (fun y hy => ?_) ho)
      obtain ⟨z, a, b, c⟩ := hy
      rcases hrt z a with t | ⟨j, jb, t⟩
      · exact absurd t b
      · rw [t, e12] at b c
        exact Or.inl (oldl j y jb.1 jb.2 b c)
    · rw [e12]; exact old j a b
  · obtain ⟨hdF, hno⟩ := hd hv1
    have hvS := hv.resolve_left hv1
    refine ⟨⟨⟨S, p4, fun z hz => ?_⟩, ?_, ng⟩, e58, Or.inr ⟨hok.mpr hv1, by rw [← hdF]; exact hx, ⟨by rw [e12, updI_s]; exact hv1, by rw [e12, updI_s, hd4]; exact hdF⟩, fun j a b c => ?_⟩⟩
    · rcases hrt z hz with t | ⟨j, jb, t⟩
      · exact Or.inl t
      · rw [t, e12]
        by_cases w : j = h
        · rw [w, updI_s]; exact Or.inr hvS
        · rw [updI_n w]; exact oldr j jb.1 jb.2
    · rw [e58]
      refine fun ho => hno (over_mono (fun y hy => ?_) ho)
      obtain ⟨z, a, b, c⟩ := hy
      rcases hrt z a with t | ⟨j, jb, t⟩
      · exact absurd t b
      · by_cases w : j = h
        · rw [t, e12, w, updI_s, hd4, hdF] at c
          exact Or.inr c
        · rw [t, e12, updI_n w] at b c
          exact Or.inl (Or.inl (oldl j y jb.1 jb.2 b c))
    · rw [e12, updI_n c]; exact old j a b
