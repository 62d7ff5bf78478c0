section
/-! ===== readers: what is read of a function ===== -/
/-! counts over places -/
noncomputable def ncF (w pl : Int → Int) (p k : Int) : Int := ind ((2 ≤ k ∧ ¬ w k = 0) ∧ pl k = p)
theorem cnt_at {M : zM} {S : Int → Prop} {n x p : Int} {w w' : Int → Int} (hp : pst M S) (hn : n = -1 ∨ okN S n) (h0 : ∀ m : Int, 0 ≤ m → m < 252 → w m = 0) (hm : mkR M S 1 n 0 w w') (hx : x = hr (ncF w' (M 6) p) 252) : cnt (fun y => laid (den M n) y ∧ y.1 = p) x := by
  obtain ⟨h1, h2⟩ := mk_one hp hn h0 hm
  rw [hx]
  have key : ∀ a : Int, a < 252 → ¬ ncF w' (M 6) p a = 0 → S a ∧ laid (den M n) (lab M a) ∧ M 6 a = p := fun a a1 ha => by
    have q := ind_nz.mp ha
    rcases h1 a q.1.1 a1 with z | z
    · exact absurd z q.1.2
    · exact ⟨z.2.1, z.2.2, q.2⟩
  refine cnt_hr (g := lab M) (fun a b a0 a1 b0 b1 ha hb e => lab_inj hp (key a (by omega) ha).1 (key b (by omega) hb).1 e) (fun a a0 a1 ha => ?_) (fun y hy => ?_)
  · have q := key a (by omega) ha
    exact ⟨q.2.1, q.2.2⟩
  · obtain ⟨m, q, e⟩ := h2 y hy.1
    refine ⟨m, by omega, by omega, ind_nz.mpr ⟨⟨q.1.1, by rw [q.2]; decide⟩, ?_⟩, e⟩
    have e2 : (lab M m).1 = y.1 := by rw [e]
    exact e2.trans hy.2
/-! the reference's nodes of a function -/
theorem ref_ix {M : zM} {J : zJ} (h : TI M J) (hok : zOK M) {f : Int} (f0 : 0 ≤ f) (f1 : f < 56) (hf : ¬ M 43 f = 0) : (∀ a : Int, 0 ≤ a → a < M 45 f → ((0 ≤ M 46 (255 * f + a) ∧ M 46 (255 * f + a) < 520) ∧ ¬ M 49 (M 46 (255 * f + a)) = 0) ∧ laid (phi J f) (rlab M J (M 46 (255 * f + a)))) ∧ (∀ a b : Int, 0 ≤ a → a < M 45 f → 0 ≤ b → b < M 45 f → M 46 (255 * f + a) = M 46 (255 * f + b) → a = b) ∧ ∀ y : Lb, laid (phi J f) y → ∃ a : Int, 0 ≤ a ∧ a < M 45 f ∧ rlab M J (M 46 (255 * f + a)) = y := by
  have hin : ∀ j : Int, 0 ≤ j → j < M 45 f → inS M f 0 (M 46 (255 * f + j)) := fun j a b => ⟨j, a, b, rfl⟩
  have hlv : ∀ j : Int, 0 ≤ j → j < M 45 f → (0 ≤ M 46 (255 * f + j) ∧ M 46 (255 * f + j) < 520) ∧ ¬ M 49 (M 46 (255 * f + j)) = 0 := fun j a b => by
    have nr := inS_range hok (hin j a b)
    exact ⟨nr, held_of h.2.1 f0 f1 nr.1 nr.2 hf (hin j a b)⟩
  refine ⟨fun a a0 a1 => ⟨hlv a a0 a1, ?_⟩, fun a b a0 a1 b0 b1 q => ?_, fun x hx => ?_⟩
  · obtain ⟨d, i, q1, q2, q3⟩ := (h.2.2.1 f f0 f1 hf).2 _ (hin a a0 a1)
    refine laid_B.mpr ⟨i, ?_⟩
    rw [rlab_eq q3.1 q1.1.1 q1.1.2 (kyf_of q3)]
    exact ⟨q1.1, q1.2, q2, rfl⟩
  · have z := (h.2.1.2 f f0 f1).1
    by_cases t : a = b
    · exact t
    · exfalso
      rcases (show a < b ∨ b < a by omega) with t | t
      · exact z a b a0 t b1 q
      · exact z b a b0 t a1 q.symm
  · obtain ⟨i, ⟨a, b⟩, ⟨c, w⟩, q, e⟩ := laid_B.mp hx
    obtain ⟨n, ⟨j, j0, j1, hj⟩, h2⟩ := (h.2.2.1 f f0 f1 hf).1 x.1 i a b c w q
    refine ⟨j, j0, j1, ?_⟩
    rw [hj, rlab_eq h2.1 a b (kyf_of h2)]
    exact Prod.ext rfl e.symm
noncomputable def lvF (M : zM) (f d k : Int) : Int := ind (M 47 (M 46 (255 * f + k)) = d)
theorem ref_lv {M : zM} {J : zJ} (h : TI M J) (hok : zOK M) {f d : Int} (f0 : 0 ≤ f) (f1 : f < 56) (hf : ¬ M 43 f = 0) : cnt (fun y => laid (phi J f) y ∧ y.1 = d) (hr (lvF M f d) (M 45 f).toNat) := by
  obtain ⟨h1, h2, h3⟩ := ref_ix h hok f0 f1 hf
  have h45 : 0 ≤ M 45 f ∧ M 45 f ≤ 255 := hok 45 f
  refine cnt_hr (g := fun a => rlab M J (M 46 (255 * f + a))) (fun a b a0 a1 b0 b1 _ _ e => ?_) (fun a a0 a1 ha => ⟨(h1 a a0 (by omega)).2, ind_nz.mp ha⟩) (fun y hy => ?_)
  · have za := (h1 a a0 (by omega)).1
    have zb := (h1 b b0 (by omega)).1
    exact h2 a b a0 (by omega) b0 (by omega) (rlab_inj h za.1.1 za.1.2 zb.1.1 zb.1.2 za.2 zb.2 e)
  · obtain ⟨a, a0, a1, e⟩ := h3 y hy.1
    refine ⟨a, a0, by omega, ind_nz.mpr ?_, e⟩
    have e2 : (rlab M J (M 46 (255 * f + a))).1 = y.1 := by rw [e]
    exact e2.trans hy.2
end
section
/-! ===== readers: their answers ===== -/
set_option maxRecDepth 20000 in
theorem zX2_nodeCountAt_f {G : tl_G} {M : zM} {J : zJ} {S : Int → Prop} {n p : Int} (hp : pst M S) (hn : n = -1 ∨ okN S n) : ZN G yX2_nodeCountAt mX2_nodeCountAt 10 kMarks [vR 5, vI n, vI p] F1 M J (qI (fun x M' J' => J' = J ∧ cnt (fun y => laid (den M n) y ∧ y.1 = p) x)) := by
  refine ZN_of (L := [_, _, _, _, _]) (by decide) rfl rfl (Nat.le_of_ble_eq_true rfl) rfl (fun hav => ?_)
  refine Z_aload_n (n := 1) dX2_nodeCountAt_0 rfl rfl ?_
  refine Z_callVv (n := 4) [] _ dX2_nodeCountAt_1 rfl cwX2_53 rfl rfl rfl (Nat.le_of_ble_eq_true rfl) (by refine ⟨?_, ?_, ?_, ?_⟩ <;> exact Nat.le_of_ble_eq_true rfl) (fun _ h => h) (zX2_unmark  (by decide)) ?_
  intro M1 J1 f1 q1
  obtain ⟨e1_1, e1_2⟩ := q1
  replace e1_1 := e1_1.symm; subst e1_1
  replace e1_2 := e1_2.symm; subst e1_2
  have o1 : ∀ a : Nat, ¬ a = 9 → fillz M 9 252 0 a = M a := fun a ha => fillz_o ha
  have z1 : ∀ m : Int, 0 ≤ m → m < 252 → fillz M 9 252 0 9 m = 0 := fun m a b => fillz_a a (by omega)
  have hp1 : pst (fillz M 9 252 0) S := pst_cg (o1 6 (by decide)) (o1 7 (by decide)) (o1 8 (by decide)) hp
  refine Z_aload_n (n := 5) dX2_nodeCountAt_4 rfl rfl ?_
  refine Z_iload_n (n := 6) dX2_nodeCountAt_5 rfl rfl ?_
  refine Z_callVv (n := 9) [_] _ dX2_nodeCountAt_6 rfl cwX2_56 rfl rfl rfl (Nat.le_of_ble_eq_true rfl) (by refine ⟨?_, ?_, ?_, ?_⟩ <;> exact Nat.le_of_ble_eq_true rfl) (fun _ h => h) (zX2_mark_f  (by exact hp1) (by exact hn) (by exact (c3_0 hp1 z1).2)) ?_
  intro M6 J6 f6 q6
  obtain ⟨e6_1, mr6⟩ := q6
  replace e6_1 := e6_1.symm; subst e6_1
  refine Z_iconst (n := 10) dX2_nodeCountAt_9 rfl (by decide) ?_
  refine Z_istore_n (L' := [_, _, _, _, _]) (n := 11) dX2_nodeCountAt_10 rfl (by decide) rfl rfl ?_
  refine Z_iconst (n := 12) dX2_nodeCountAt_11 rfl (by decide) ?_
  refine Z_istore (L' := [_, _, _, _, _]) (n := 14) dX2_nodeCountAt_12 rfl (by decide) rfl rfl ?_
  have lp14 : ∀ (N14 : Nat) (c i : Int) , ((252 - i).toNat) < N14 → (2 ≤ i) → (i ≤ 252) → (c = hr (ncF (M6 9) (M6 6) p) i.toNat) → (0 ≤ c) → (c ≤ i - 2) → TZ G mX2_nodeCountAt (tl_rm 10 0 0) 0 0 kMarks M J 14 [some (vR 5), some (vI n), some (vI p), some (vI c), some (vI i)] [] F1 M6 J (ZM G (zPost G kMarks F1 M J (qI (fun x M' J' => J' = J ∧ cnt (fun y => laid (den M n) y ∧ y.1 = p) x))) 0 0) := by
    intro N14
    induction N14 with
    | zero => intro c i  hN; omega
    | succ N14 ih14 =>
      intro c i  hN14 i14_0 i14_1 i14_2 i14_3 i14_4
      refine Z_iload (n := 16) dX2_nodeCountAt_14 rfl rfl ?_
      refine Z_sipush (n := 19) dX2_nodeCountAt_16 rfl (by decide) (by decide) ?_
      refine Z_icmp_ge (n := 22) (t := 52) dX2_nodeCountAt_19 rfl (by decide) (fun c19 => ?_) (fun c19 => ?_)
      · refine Z_iload_n (n := 53) dX2_nodeCountAt_52 rfl rfl ?_
        refine Z_iret dX2_nodeCountAt_53 rfl ?_
        have o6 : M6 6 = M 6 := ((f6 6 (by decide)).1).trans (o1 6 (by decide))
        refine ⟨rfl, cnt_at hp hn z1 (mkR_cg (o1 6 (by decide)) (o1 7 (by decide)) (o1 8 (by decide)) mr6) ?_⟩
        rw [i14_2, o6, show i = 252 by omega]
        rfl
      · refine Z_aload_n (n := 23) dX2_nodeCountAt_22 rfl rfl ?_
        refine Z_getA (n := 26) dX2_nodeCountAt_23 rfl ffX2_21 rfl rfl ?_
        refine Z_iload (n := 28) dX2_nodeCountAt_26 rfl rfl ?_
        refine Z_iald (n := 29) dX2_nodeCountAt_28 rfl rfl rfl (by first | decide | assumption) (by omega) (by omega) (fun r28 s28 => ?_)
        refine Z_if_eq (n := 32) (t := 46) dX2_nodeCountAt_29 rfl (by decide) (fun c29 => ?_) (fun c29 => ?_)
        · have nx : c = hr (ncF (M6 9) (M6 6) p) (i + 1).toNat := by
            have z := hr_up (ncF (M6 9) (M6 6) p) (i := i) (by omega)
            have nz : ncF (M6 9) (M6 6) p i = 0 := ind_f (fun q => q.1.2 c29)
            rw [if_pos nz] at z
            omega
          refine Z_iinc (L' := [_, _, _, _, _]) (n := 49) dX2_nodeCountAt_46 rfl rfl (by decide) rfl rfl (by omega) rfl ?_
          refine Z_goto (t := 14) dX2_nodeCountAt_49 (by decide) ?_
          refine Z_loc (L' := [some _, some _, some _, some _, some _]) (lsub_same (lsub_same (lsub_same (lsub_same (lsub_same lsub_nil))))) ?_
          exact ih14 _ _  (by omega) (by first | assumption | omega | decide) (by first | assumption | omega | decide) (by exact nx) (by first | assumption | omega | decide) (by first | assumption | omega | decide)
        · refine Z_aload_n (n := 33) dX2_nodeCountAt_32 rfl rfl ?_
          refine Z_getA (n := 36) dX2_nodeCountAt_33 rfl ffX2_11 rfl rfl ?_
          refine Z_iload (n := 38) dX2_nodeCountAt_36 rfl rfl ?_
          refine Z_iald (n := 39) dX2_nodeCountAt_38 rfl rfl rfl (by first | decide | assumption) (by omega) (by omega) (fun r38 s38 => ?_)
          refine Z_iload_n (n := 40) dX2_nodeCountAt_39 rfl rfl ?_
          refine Z_icmp_ne (n := 43) (t := 46) dX2_nodeCountAt_40 rfl (by decide) (fun c40 => ?_) (fun c40 => ?_)
          · have nx : c = hr (ncF (M6 9) (M6 6) p) (i + 1).toNat := by
              have z := hr_up (ncF (M6 9) (M6 6) p) (i := i) (by omega)
              have nz : ncF (M6 9) (M6 6) p i = 0 := ind_f (fun q => c40 q.2)
              rw [if_pos nz] at z
              omega
            refine Z_iinc (L' := [_, _, _, _, _]) (n := 49) dX2_nodeCountAt_46 rfl rfl (by decide) rfl rfl (by omega) rfl ?_
            refine Z_goto (t := 14) dX2_nodeCountAt_49 (by decide) ?_
            refine Z_loc (L' := [some _, some _, some _, some _, some _]) (lsub_same (lsub_same (lsub_same (lsub_same (lsub_same lsub_nil))))) ?_
            exact ih14 _ _  (by omega) (by first | assumption | omega | decide) (by first | assumption | omega | decide) (by exact nx) (by first | assumption | omega | decide) (by first | assumption | omega | decide)
          · have nx : c + 1 = hr (ncF (M6 9) (M6 6) p) (i + 1).toNat := by
              have z := hr_up (ncF (M6 9) (M6 6) p) (i := i) (by omega)
              have nz : ¬ ncF (M6 9) (M6 6) p i = 0 := ind_nz.mpr ⟨⟨by omega, c29⟩, c40⟩
              rw [if_neg nz] at z
              omega
            refine Z_iinc (L' := [_, _, _, _, _]) (n := 46) dX2_nodeCountAt_43 rfl rfl (by decide) rfl rfl (by omega) rfl ?_
            refine Z_iinc (L' := [_, _, _, _, _]) (n := 49) dX2_nodeCountAt_46 rfl rfl (by decide) rfl rfl (by omega) rfl ?_
            refine Z_goto (t := 14) dX2_nodeCountAt_49 (by decide) ?_
            refine Z_loc (L' := [some _, some _, some _, some _, some _]) (lsub_same (lsub_same (lsub_same (lsub_same (lsub_same lsub_nil))))) ?_
            exact ih14 _ _  (by omega) (by first | assumption | omega | decide) (by first | assumption | omega | decide) (by exact nx) (by first | assumption | omega | decide) (by first | assumption | omega | decide)
  refine Z_loc (L' := [some _, some _, some _, some _, some _]) (lsub_same (lsub_same (lsub_same (lsub_same (lsub_same lsub_nil))))) ?_
  exact lp14 _ _ _  (Nat.lt_succ_self _) (by first | assumption | omega | decide) (by first | assumption | omega | decide) (by exact (hr_zero (fun k a b => ind_f (fun q => by omega))).symm) (by first | assumption | omega | decide) (by first | assumption | omega | decide)
set_option maxRecDepth 20000 in
theorem zX3_level_f {G : tl_G} {M : zM} {J : zJ} {f v : Int} (hb : CB M) : ZN G yX3_level mX3_level 11 kMarks [vR 0, vI f, vI v] F1 M J (qI (fun x M' J' => J' = J ∧ (((f < 0 ∨ 12 ≤ f ∨ M 12 f = -1) ∧ x = -1) ∨ (¬ (f < 0 ∨ 12 ≤ f ∨ M 12 f = -1) ∧ (v < 0 ∨ 8 ≤ v) ∧ x = -2) ∨ (¬ (f < 0 ∨ 12 ≤ f ∨ M 12 f = -1) ∧ 0 ≤ v ∧ v < 8 ∧ cnt (fun y => laid (den M (M 12 f)) y ∧ y.1 = M 4 v) x)))) := by
  refine ZN_of (L := [_, _, _]) (by decide) rfl rfl (Nat.le_of_ble_eq_true rfl) rfl (fun hav => ?_)
  obtain ⟨⟨Sb, hSb, hRb⟩, -⟩ := hb
  refine Z_aload_n (n := 1) dX3_level_0 rfl rfl ?_
  refine Z_iload_n (n := 2) dX3_level_1 rfl rfl ?_
  refine Z_callVi (n := 5) [_] _ dX3_level_2 rfl cwX3_139 rfl rfl (by first | rfl | exact nS0 (nA_at (by omega) (by omega))) (Nat.le_of_ble_eq_true rfl) (by refine ⟨?_, ?_, ?_, ?_⟩ <;> exact Nat.le_of_ble_eq_true rfl) (fun _ _ => trivial) (zX3_hasFunction  ) ?_
  intro x2 M2 J2 z2 f2 q2
  obtain ⟨e2_1, e2_2, h2⟩ := q2
  replace e2_1 := e2_1.symm; subst e2_1
  replace e2_2 := e2_2.symm; subst e2_2
  refine Z_if_ne (n := 8) (t := 10) dX3_level_5 rfl (by decide) (fun c5 => ?_) (fun c5 => ?_)
  · refine Z_iload_n (n := 11) dX3_level_10 rfl rfl ?_
    refine Z_callSi (n := 14) [_] _ dX3_level_11 rfl cwX3_70 rfl rfl (Nat.le_of_ble_eq_true rfl) (by refine ⟨?_, ?_, ?_, ?_⟩ <;> exact Nat.le_of_ble_eq_true rfl) (fun _ _ => trivial) (zX3_isVariable  ) ?_
    intro x11 M11 J11 z11 f11 q11
    obtain ⟨e11_1, e11_2, h11⟩ := q11
    replace e11_1 := e11_1.symm; subst e11_1
    replace e11_2 := e11_2.symm; subst e11_2
    refine Z_if_ne (n := 17) (t := 20) dX3_level_14 rfl (by decide) (fun c14 => ?_) (fun c14 => ?_)
    · have okf : okN Sb (M 12 f) := (hRb _ (Or.inl ⟨f, ⟨by omega, by omega⟩, rfl⟩)).resolve_left (by omega)
      refine Z_aload_n (n := 21) dX3_level_20 rfl rfl ?_
      refine Z_getO (n := 24) dX3_level_21 rfl ffX3_25 (by first | rfl | exact nS0 (nA_at (by omega) (by omega))) (by first | rfl | exact nS0 (nA_at (by omega) (by omega))) ?_
      refine Z_aload_n (n := 25) dX3_level_24 rfl rfl ?_
      refine Z_getA (n := 28) dX3_level_25 rfl ffX3_29 (by first | rfl | exact nS0 (nA_at (by omega) (by omega))) (by first | rfl | exact nS0 (nA_at (by omega) (by omega))) ?_
      refine Z_iload_n (n := 29) dX3_level_28 rfl rfl ?_
      refine Z_iald (n := 30) dX3_level_29 rfl (by first | rfl | exact nS0 (nA_at (by omega) (by omega))) rfl (by first | decide | assumption) (by omega) (by omega) (fun r29 s29 => ?_)
      refine Z_aload_n (n := 31) dX3_level_30 rfl rfl ?_
      refine Z_getO (n := 34) dX3_level_31 rfl ffX3_18 (by first | rfl | exact nS0 (nA_at (by omega) (by omega))) (by first | rfl | exact nS0 (nA_at (by omega) (by omega))) ?_
      refine Z_iload_n (n := 35) dX3_level_34 rfl rfl ?_
      refine Z_callVi (n := 38) [_] _ dX3_level_35 rfl cwX3_174 rfl rfl (by first | rfl | exact nS0 (nA_at (by omega) (by omega))) (Nat.le_of_ble_eq_true rfl) (by refine ⟨?_, ?_, ?_, ?_⟩ <;> exact Nat.le_of_ble_eq_true rfl) (fun _ _ => trivial) (zX1_placeOf  (by first | assumption | omega | decide) (by first | assumption | omega | decide)) ?_
      intro x35 M35 J35 z35 f35 q35
      obtain ⟨e35_1, e35_2, h35⟩ := q35
      replace e35_1 := e35_1.symm; subst e35_1
      replace e35_2 := e35_2.symm; subst e35_2
      refine Z_callVi (n := 41) [_, _] _ dX3_level_38 rfl cwX3_168 rfl rfl (by first | rfl | exact nS0 (nA_at (by omega) (by omega))) (Nat.le_of_ble_eq_true rfl) (by refine ⟨?_, ?_, ?_, ?_⟩ <;> exact Nat.le_of_ble_eq_true rfl) (fun _ h => h) (zX2_nodeCountAt_f  (by exact hSb.1) (by exact Or.inr okf)) ?_
      intro x38 M38 J38 z38 f38 q38
      obtain ⟨e38_1, cn38⟩ := q38
      replace e38_1 := e38_1.symm; subst e38_1
      refine Z_iret dX3_level_41 rfl ?_
      rw [h35] at cn38
      exact ⟨rfl, Or.inr (Or.inr ⟨by omega, by omega, by omega, cn38⟩)⟩
    · refine Z_bipush (n := 19) dX3_level_17 rfl (by decide) (by decide) ?_
      refine Z_iret dX3_level_19 rfl ?_
      exact ⟨rfl, Or.inr (Or.inl ⟨by omega, by omega, rfl⟩)⟩
  · refine Z_iconst (n := 9) dX3_level_8 rfl (by decide) ?_
    refine Z_iret dX3_level_9 rfl ?_
    exact ⟨rfl, Or.inl ⟨by omega, rfl⟩⟩
set_option maxRecDepth 20000 in
theorem zX4_level_g {G : tl_G} {M : zM} {J : zJ} {f v : Int}  : ZN G yX4_level mX4_level 3 kAll [vR 31, vI f, vI v] F1 M J (qI (fun x M' J' => M' = M ∧ J' = J ∧ (((f < 0 ∨ 12 ≤ f ∨ M 43 f = 0) ∧ x = -1) ∨ (¬ (f < 0 ∨ 12 ≤ f ∨ M 43 f = 0) ∧ (v < 0 ∨ 8 ≤ v) ∧ x = -2) ∨ (¬ (f < 0 ∨ 12 ≤ f ∨ M 43 f = 0) ∧ 0 ≤ v ∧ v < 8 ∧ x = hr (lvF M f (M 39 v)) (M 45 f).toNat)))) := by
  refine ZN_of (L := [_, _, _, _, _]) (by decide) rfl rfl (Nat.le_of_ble_eq_true rfl) rfl (fun hav => ?_)
  refine Z_aload_n (n := 1) dX4_level_0 rfl rfl ?_
  refine Z_iload_n (n := 2) dX4_level_1 rfl rfl ?_
  refine Z_callVi (n := 5) [_] _ dX4_level_2 rfl cwX4_223 rfl rfl rfl (Nat.le_of_ble_eq_true rfl) (by refine ⟨?_, ?_, ?_, ?_⟩ <;> exact Nat.le_of_ble_eq_true rfl) (fun _ h => h) (zX4_isFunction  ) ?_
  intro x2 M2 J2 z2 f2 q2
  obtain ⟨e2_1, e2_2, h2⟩ := q2
  replace e2_1 := e2_1.symm; subst e2_1
  replace e2_2 := e2_2.symm; subst e2_2
  refine Z_if_ne (n := 8) (t := 10) dX4_level_5 rfl (by decide) (fun c5 => ?_) (fun c5 => ?_)
  · refine Z_iload_n (n := 11) dX4_level_10 rfl rfl ?_
    refine Z_iconst (n := 12) dX4_level_11 rfl (by decide) ?_
    refine Z_bipush (n := 14) dX4_level_12 rfl (by decide) (by decide) ?_
    refine Z_callSi (n := 17) [_, _, _] _ dX4_level_14 rfl cwX4_112 rfl rfl (Nat.le_of_ble_eq_true rfl) (by refine ⟨?_, ?_, ?_, ?_⟩ <;> exact Nat.le_of_ble_eq_true rfl) (fun _ h => h) (zX4_in  ) ?_
    intro x14 M14 J14 z14 f14 q14
    obtain ⟨e14_1, e14_2, h14⟩ := q14
    replace e14_1 := e14_1.symm; subst e14_1
    replace e14_2 := e14_2.symm; subst e14_2
    refine Z_if_ne (n := 20) (t := 23) dX4_level_17 rfl (by decide) (fun c17 => ?_) (fun c17 => ?_)
    · refine Z_rg 45 f rfl (fun g45 g45b => ?_)
      refine Z_iconst (n := 24) dX4_level_23 rfl (by decide) ?_
      refine Z_istore_n (L' := [_, _, _, _, _]) (n := 25) dX4_level_24 rfl (by decide) rfl rfl ?_
      refine Z_iconst (n := 26) dX4_level_25 rfl (by decide) ?_
      refine Z_istore (L' := [_, _, _, _, _]) (n := 28) dX4_level_26 rfl (by decide) rfl rfl ?_
      have lp28 : ∀ (N28 : Nat) (n k : Int) , ((255 - k).toNat) < N28 → (0 ≤ k) → (k ≤ 255) → (0 ≤ n) → (n ≤ k) → (n = hr (lvF M f (M 39 v)) k.toNat) → (k ≤ M 45 f) → TZ G mX4_level (tl_rm 3 0 0) 0 0 kAll M J 28 [some (vR 31), some (vI f), some (vI v), some (vI n), some (vI k)] [] F1 M J (ZM G (zPost G kAll F1 M J (qI (fun x M' J' => M' = M ∧ J' = J ∧ (((f < 0 ∨ 12 ≤ f ∨ M 43 f = 0) ∧ x = -1) ∨ (¬ (f < 0 ∨ 12 ≤ f ∨ M 43 f = 0) ∧ (v < 0 ∨ 8 ≤ v) ∧ x = -2) ∨ (¬ (f < 0 ∨ 12 ≤ f ∨ M 43 f = 0) ∧ 0 ≤ v ∧ v < 8 ∧ x = hr (lvF M f (M 39 v)) (M 45 f).toNat))))) 0 0) := by
        intro N28
        induction N28 with
        | zero => intro n k  hN; omega
        | succ N28 ih28 =>
          intro n k  hN28 i28_0 i28_1 i28_2 i28_3 i28_4 i28_5
          refine Z_iload (n := 30) dX4_level_28 rfl rfl ?_
          refine Z_aload_n (n := 31) dX4_level_30 rfl rfl ?_
          refine Z_getA (n := 34) dX4_level_31 rfl ffX4_51 rfl rfl ?_
          refine Z_iload_n (n := 35) dX4_level_34 rfl rfl ?_
          refine Z_iald (n := 36) dX4_level_35 rfl rfl rfl (by first | decide | assumption) (by omega) (by omega) (fun r35 s35 => ?_)
          refine Z_icmp_ge (n := 39) (t := 80) dX4_level_36 rfl (by decide) (fun c36 => ?_) (fun c36 => ?_)
          · refine Z_iload_n (n := 81) dX4_level_80 rfl rfl ?_
            refine Z_iret dX4_level_81 rfl ?_
            refine ⟨rfl, rfl, Or.inr (Or.inr ⟨by omega, by omega, by omega, ?_⟩)⟩
            rw [show M 45 f = k by omega]
            exact i28_4
          · refine Z_iload_n (n := 40) dX4_level_39 rfl rfl ?_
            refine Z_aload_n (n := 41) dX4_level_40 rfl rfl ?_
            refine Z_getA (n := 44) dX4_level_41 rfl ffX4_57 rfl rfl ?_
            refine Z_aload_n (n := 45) dX4_level_44 rfl rfl ?_
            refine Z_getA (n := 48) dX4_level_45 rfl ffX4_54 rfl rfl ?_
            refine Z_sipush (n := 51) dX4_level_48 rfl (by decide) (by decide) ?_
            refine Z_iload_n (n := 52) dX4_level_51 rfl rfl ?_
            refine Z_imul (n := 53) dX4_level_52 rfl (by omega) ?_
            refine Z_iload (n := 55) dX4_level_53 rfl rfl ?_
            refine Z_iadd (n := 56) dX4_level_55 rfl (by omega) ?_
            refine Z_iald (n := 57) dX4_level_56 rfl rfl rfl (by first | decide | assumption) (by omega) (by omega) (fun r56 s56 => ?_)
            refine Z_iald (n := 58) dX4_level_57 rfl rfl rfl (by first | decide | assumption) (by omega) (by omega) (fun r57 s57 => ?_)
            refine Z_aload_n (n := 59) dX4_level_58 rfl rfl ?_
            refine Z_getA (n := 62) dX4_level_59 rfl ffX4_32 rfl rfl ?_
            refine Z_iload_n (n := 63) dX4_level_62 rfl rfl ?_
            refine Z_iald (n := 64) dX4_level_63 rfl rfl rfl (by first | decide | assumption) (by omega) (by omega) (fun r63 s63 => ?_)
            refine Z_icmp_ne (n := 67) (t := 71) dX4_level_64 rfl (by decide) (fun c64 => ?_) (fun c64 => ?_)
            · have nx4 : n + 0 = hr (lvF M f (M 39 v)) (k + 1).toNat := by
                have z := hr_up (lvF M f (M 39 v)) (i := k) (by omega)
                have nz : lvF M f (M 39 v) k = 0 := ind_f c64
                rw [if_pos nz] at z
                omega
              refine Z_iconst (n := 72) dX4_level_71 rfl (by decide) ?_
              refine Z_iadd (n := 73) dX4_level_72 rfl (by omega) ?_
              refine Z_istore_n (L' := [_, _, _, _, _]) (n := 74) dX4_level_73 rfl (by decide) rfl rfl ?_
              refine Z_iinc (L' := [_, _, _, _, _]) (n := 77) dX4_level_74 rfl rfl (by decide) rfl rfl (by omega) rfl ?_
              refine Z_goto (t := 28) dX4_level_77 (by decide) ?_
              refine Z_loc (L' := [some _, some _, some _, some _, some _]) (lsub_same (lsub_same (lsub_same (lsub_same (lsub_same lsub_nil))))) ?_
              exact ih28 _ _  (by omega) (by first | assumption | omega | decide) (by first | assumption | omega | decide) (by first | assumption | omega | decide) (by first | assumption | omega | decide) (by exact nx4) (by omega)
            · have nx4 : n + 1 = hr (lvF M f (M 39 v)) (k + 1).toNat := by
                have z := hr_up (lvF M f (M 39 v)) (i := k) (by omega)
                have nz : ¬ lvF M f (M 39 v) k = 0 := ind_nz.mpr c64
                rw [if_neg nz] at z
                omega
              refine Z_iconst (n := 68) dX4_level_67 rfl (by decide) ?_
              refine Z_goto (t := 72) dX4_level_68 (by decide) ?_
              refine Z_iadd (n := 73) dX4_level_72 rfl (by omega) ?_
              refine Z_istore_n (L' := [_, _, _, _, _]) (n := 74) dX4_level_73 rfl (by decide) rfl rfl ?_
              refine Z_iinc (L' := [_, _, _, _, _]) (n := 77) dX4_level_74 rfl rfl (by decide) rfl rfl (by omega) rfl ?_
              refine Z_goto (t := 28) dX4_level_77 (by decide) ?_
              refine Z_loc (L' := [some _, some _, some _, some _, some _]) (lsub_same (lsub_same (lsub_same (lsub_same (lsub_same lsub_nil))))) ?_
              exact ih28 _ _  (by omega) (by first | assumption | omega | decide) (by first | assumption | omega | decide) (by first | assumption | omega | decide) (by first | assumption | omega | decide) (by exact nx4) (by omega)
      refine Z_loc (L' := [some _, some _, some _, some _, some _]) (lsub_same (lsub_same (lsub_same (lsub_same (lsub_same lsub_nil))))) ?_
      exact lp28 _ _ _  (Nat.lt_succ_self _) (by first | assumption | omega | decide) (by first | assumption | omega | decide) (by first | assumption | omega | decide) (by first | assumption | omega | decide) (by rfl) (by omega)
    · refine Z_bipush (n := 22) dX4_level_20 rfl (by decide) (by decide) ?_
      refine Z_iret dX4_level_22 rfl ?_
      exact ⟨rfl, rfl, Or.inr (Or.inl ⟨by omega, by omega, rfl⟩)⟩
  · refine Z_iconst (n := 9) dX4_level_8 rfl (by decide) ?_
    refine Z_iret dX4_level_9 rfl ?_
    exact ⟨rfl, rfl, Or.inl ⟨by omega, rfl⟩⟩
end
section
/-! ===== readers on both sides ===== -/
section RDS
variable {M M1 : zM} {J : zJ} {x y : Int}
theorem ls_k (h : LSy M J) (fr : ∀ a : Nat, 31 ≤ a → M1 a = M a) (f : Int) : f < 0 ∨ 12 ≤ f ∨ (M 12 f = -1 ∧ M1 43 f = 0) ∨ (¬ M 12 f = -1 ∧ ¬ M1 43 f = 0) := hs_k h.2.2.2.2.2 (fr 43 (by decide)) f
theorem ls_d (h : LSy M J) {f : Int} (f0 : 0 ≤ f) (f1 : f < 12) (q : ¬ M 12 f = -1) : den M (M 12 f) = phi J f := (h.2.2.2.2.2 f f0 f1).2.resolve_left q
theorem sim_level {f v : Int} (ok : zOK M) (h : LSy M J) (fr : ∀ a : Nat, 31 ≤ a → M1 a = M a) (hc : ((f < 0 ∨ 12 ≤ f ∨ M 12 f = -1) ∧ x = -1) ∨ (¬ (f < 0 ∨ 12 ≤ f ∨ M 12 f = -1) ∧ (v < 0 ∨ 8 ≤ v) ∧ x = -2) ∨ (¬ (f < 0 ∨ 12 ≤ f ∨ M 12 f = -1) ∧ 0 ≤ v ∧ v < 8 ∧ cnt (fun y => laid (den M (M 12 f)) y ∧ y.1 = M 4 v) x)) (hq : ((f < 0 ∨ 12 ≤ f ∨ M1 43 f = 0) ∧ y = -1) ∨ (¬ (f < 0 ∨ 12 ≤ f ∨ M1 43 f = 0) ∧ (v < 0 ∨ 8 ≤ v) ∧ y = -2) ∨ (¬ (f < 0 ∨ 12 ≤ f ∨ M1 43 f = 0) ∧ 0 ≤ v ∧ v < 8 ∧ y = hr (lvF M1 f (M1 39 v)) (M1 45 f).toNat)) : x = y := by
  have kf := ls_k h fr f
  rcases hc with ⟨a, b⟩ | ⟨a, a2, b⟩ | ⟨a, a2, a3, b⟩
  · rcases hq with ⟨a', b'⟩ | ⟨a', -⟩ | ⟨a', -⟩
    · exact b.trans b'.symm
    all_goals (exfalso; omega)
  · rcases hq with ⟨a', -⟩ | ⟨a', a2', b'⟩ | ⟨a', a2', a3', -⟩
    · exfalso; omega
    · exact b.trans b'.symm
    · exfalso; omega
  · rcases hq with ⟨a', -⟩ | ⟨a', a2', -⟩ | ⟨a', a2', a3', b'⟩
    · exfalso; omega
    · exfalso; omega
    · have e43 : M1 43 = M 43 := fr 43 (by decide)
      have df := ls_d h (f := f) (by omega) (by omega) (by omega)
      have nf : ¬ M 43 f = 0 := by rw [← e43]; omega
      have el : lvF M1 f (M1 39 v) = lvF M f (M 4 v) := by
        funext k
        unfold lvF
        rw [fr 47 (by decide), fr 46 (by decide), fr 39 (by decide), (h.2.2.2.1.1 v a2 a3).2]
      rw [df] at b
      rw [b', el, fr 45 (by decide)]
      exact cnt_uniq (fun _ => Iff.rfl) b (ref_lv h.1.2.1.1 ok (by omega) (by omega) nf)
end RDS
end
