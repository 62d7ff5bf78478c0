/-! ===== the reference: take, gets, what makes bits ===== -/
abbrev kTk (a : Nat) : Prop := a < 31 ∨ (31 < a ∧ a < 43) ∨ 53 < a
theorem tabC_B {M : zM} {J J' : zJ} {g : Int} (h : tabC M J g) (e48 : J' 48 = J 48) (eb : ∀ k : Int, 0 ≤ k → k < 4 → bitF J' g k = bitF J g k) : tabC M J' g := by
  have hm : ∀ (m d : Int) (P : Int → Int64), mtc M J m d P → mtc M J' m d P := fun m d P z => by
    unfold mtc at *
    rw [e48]
    exact z
  refine ⟨fun d i a b c w q => ?_, fun n hn => ?_⟩
  · rw [lyR_congr eb a b c w] at q
    obtain ⟨n, h1, h2⟩ := h.1 d i a b c w q
    exact ⟨n, h1, mtc_congr (fun k k0 k1 => (lyP_congr eb a b c w k k0 k1).symm) (hm _ _ _ h2)⟩
  · obtain ⟨d, i, ⟨⟨a, b⟩, c, w⟩, q, h3⟩ := h.2 n hn
    refine ⟨d, i, ⟨⟨a, b⟩, c, w⟩, by rw [lyR_congr eb a b c w]; exact q, mtc_congr (fun k k0 k1 => (lyP_congr eb a b c w k k0 k1).symm) (hm _ _ _ h3)⟩
/-- the bits of one that is none are free -/
theorem TI_bits {M : zM} {J J' : zJ} {t : Int} (h : TI M J) (ht : M 43 t = 0) (e48 : J' 48 = J 48) (e44 : ∀ j : Int, (j < 4 * t ∨ 4 * t + 4 ≤ j) → J' 44 j = J 44 j) : TI M J' := by
  obtain ⟨⟨ch, fl, t1⟩, t2, t3, t4, tu⟩ := h
  refine ⟨⟨ch, fl, tabA_J e48 t1⟩, t2, fun g g0 g1 hg => ?_, t4, tabU_mv tu (fun _ z => z) rfl e48⟩
  have hgt : g ≠ t := fun e => hg (by rw [e]; exact ht)
  exact tabC_B (t3 g g0 g1 hg) e48 (fun k k0 k1 => e44 _ (by omega))
theorem cvd_of {M : zM} {J : zJ} {f : Int} {B : Int → Int64} (h : TI M J) (hok : zOK M) (f0 : 0 ≤ f) (f1 : f < 56) (hf : ¬ M 43 f = 0) (eB : ∀ k : Int, 0 ≤ k → k < 4 → B k = bitF J f k) : cvd M J B := fun d i a b c w q => by
  rw [lyR_congr eB a b c w] at q
  obtain ⟨n, h1, h2⟩ := (h.2.2.1 f f0 f1 hf).1 d i a b c w q
  have nr := inS_range hok h1
  exact ⟨n, nr, held_of h.2.1 f0 f1 nr.1 nr.2 hf h1, mtc_congr (fun k k0 k1 => (lyP_congr eB a b c w k k0 k1).symm) h2⟩
set_option maxRecDepth 20000 in
theorem zX4_take {G : tl_G} {M : zM} {J : zJ} {f t : Int} (f0 : 0 ≤ f) (f1 : f < 56) (t0 : 0 ≤ t) (t1 : t < 56) (hft : f ≠ t) (hT : TI M J) (hf : ¬ M 43 f = 0) (hu : M 31 24 ≤ 250) (hk : M 31 27 < 2147483647) : ZN G yX4_take mX4_take 3 kTk [vR 31, vI f, vI t] F1 M J (qV (fun M' J' => TI M' J' ∧ ¬ M' 43 t = 0 ∧ M' 31 27 = M 31 27 + 1 ∧ M' 31 24 ≤ M 31 24 ∧ adf M M' t ∧ (∀ k : Int, 0 ≤ k → k < 4 → J' 44 (4 * t + k) = J 44 (4 * f + k)) ∧ ∀ j : Int, (j < 4 * t ∨ 4 * t + 4 ≤ j) → J' 44 j = J 44 j)) := by
  refine ZN_of (L := [_, _, _, _]) (by decide) rfl rfl (Nat.le_of_ble_eq_true rfl) rfl (fun hav => ?_)
  refine Z_aload_n (n := 1) dX4_take_0 rfl rfl ?_
  refine Z_iload_n (n := 2) dX4_take_1 rfl rfl ?_
  refine Z_callVv (n := 5) [_] _ dX4_take_2 rfl cwX4_179 rfl rfl rfl (Nat.le_of_ble_eq_true rfl) (by refine ⟨?_, ?_, ?_, ?_⟩ <;> exact Nat.le_of_ble_eq_true rfl) (fun a h => by unfold kTk at h; unfold kRv; omega) (zX4_remove  (by first | assumption | omega | decide) (by first | assumption | omega | decide) (by first | assumption | omega | decide)) ?_
  intro M2 J2 f2 q2
  obtain ⟨ti2, ah2, am2, au2, af2⟩ := q2
  refine Z_iconst (n := 6) dX4_take_5 rfl (by decide) ?_
  refine Z_istore_n (L' := [_, _, _, _]) (n := 7) dX4_take_6 rfl (by decide) rfl rfl ?_
  have lp7 : ∀ (N7 : Nat) (k : Int) (M7 : zM) (J7 : zJ), ((4 - k).toNat) < N7 → (M7 = M2) → (J7 48 = J 48) → (0 ≤ k) → (k ≤ 4) → (∀ j : Int, 0 ≤ j → j < k → J7 44 (4 * t + j) = J 44 (4 * f + j)) → (∀ j : Int, (j < 4 * t ∨ 4 * t + 4 ≤ j) → J7 44 j = J 44 j) → TZ G mX4_take (tl_rm 3 0 0) 0 0 kTk M J 7 [some (vR 31), some (vI f), some (vI t), some (vI k)] [] F1 M7 J7 (ZM G (zPost G kTk F1 M J (qV (fun M' J' => TI M' J' ∧ ¬ M' 43 t = 0 ∧ M' 31 27 = M 31 27 + 1 ∧ M' 31 24 ≤ M 31 24 ∧ adf M M' t ∧ (∀ k : Int, 0 ≤ k → k < 4 → J' 44 (4 * t + k) = J 44 (4 * f + k)) ∧ ∀ j : Int, (j < 4 * t ∨ 4 * t + 4 ≤ j) → J' 44 j = J 44 j))) 0 0) := by
    intro N7
    induction N7 with
    | zero => intro k M7 J7 hN; omega
    | succ N7 ih7 =>
      intro k M7 J7 hN7 i7_0 i7_1 i7_2 i7_3 i7_4 i7_5
      refine Z_iload_n (n := 8) dX4_take_7 rfl rfl ?_
      refine Z_iconst (n := 9) dX4_take_8 rfl (by decide) ?_
      refine Z_icmp_ge (n := 12) (t := 38) dX4_take_9 rfl (by decide) (fun c9 => ?_) (fun c9 => ?_)
      · replace i7_0 := i7_0.symm; subst i7_0
        refine Z_ok (fun ok7 => ?_)
        have ti7 : TI M2 J7 := TI_bits ti2 ah2 (i7_1.trans (f2 48 (by decide)).2.symm) (fun j hj => by rw [i7_5 j hj, congrFun (f2 44 (by decide)).2 j])
        have hf2 : ¬ M2 43 f = 0 := by rw [(af2.1 f hft).2]; exact hf
        have hcv : cvd M2 J7 (bitF J7 t) := cvd_of (f := f) ti7 ok7 f0 f1 hf2 (fun k k0 k1 => by
          unfold bitF
          rw [i7_4 k k0 (by omega), i7_5 _ (by omega)])
        refine Z_aload_n (n := 39) dX4_take_38 rfl rfl ?_
        refine Z_iload_n (n := 40) dX4_take_39 rfl rfl ?_
        refine Z_callVv (n := 43) [_] _ dX4_take_40 rfl cwX4_173 rfl rfl rfl (Nat.le_of_ble_eq_true rfl) (by refine ⟨?_, ?_, ?_, ?_⟩ <;> exact Nat.le_of_ble_eq_true rfl) (fun a h => by unfold kTk at h; unfold kAd; omega) (zX4_add  (by omega) (by omega) (by exact ti7) (by exact ah2) (by omega) (by omega)) ?_
        intro M40 J40 f40 q40
        obtain ⟨ti40, ah40, am40, au40, af40, ac40⟩ := q40
        refine Z_vret dX4_take_43 rfl ?_
        have u40 := ac40 hcv
        refine ⟨ti40, ah40, by omega, by omega, adf_t af2 af40, fun k k0 k1 => ?_, fun j hj => ?_⟩
        · rw [congrFun (f40 44 (by decide)).2 _]; exact i7_4 k k0 (by omega)
        · rw [congrFun (f40 44 (by decide)).2 _]; exact i7_5 j hj
      · refine Z_aload_n (n := 13) dX4_take_12 rfl rfl ?_
        refine Z_getA (n := 16) dX4_take_13 rfl ffX4_47 rfl rfl ?_
        refine Z_iconst (n := 17) dX4_take_16 rfl (by decide) ?_
        refine Z_iload_n (n := 18) dX4_take_17 rfl rfl ?_
        refine Z_imul (n := 19) dX4_take_18 rfl (by omega) ?_
        refine Z_iload_n (n := 20) dX4_take_19 rfl rfl ?_
        refine Z_iadd (n := 21) dX4_take_20 rfl (by omega) ?_
        refine Z_aload_n (n := 22) dX4_take_21 rfl rfl ?_
        refine Z_getA (n := 25) dX4_take_22 rfl ffX4_47 rfl rfl ?_
        refine Z_iconst (n := 26) dX4_take_25 rfl (by decide) ?_
        refine Z_iload_n (n := 27) dX4_take_26 rfl rfl ?_
        refine Z_imul (n := 28) dX4_take_27 rfl (by omega) ?_
        refine Z_iload_n (n := 29) dX4_take_28 rfl rfl ?_
        refine Z_iadd (n := 30) dX4_take_29 rfl (by omega) ?_
        refine Z_lald (n := 31) dX4_take_30 rfl rfl (by decide) (by omega) (by omega) ?_
        refine Z_last (n := 32) dX4_take_31 rfl rfl (by decide) (by omega) (by omega) (by decide) ?_
        refine Z_iinc (L' := [_, _, _, _]) (n := 35) dX4_take_32 rfl rfl (by decide) rfl rfl (by omega) rfl ?_
        refine Z_goto (t := 7) dX4_take_35 (by decide) ?_
        refine Z_loc (L' := [some _, some _, some _, some _]) (lsub_same (lsub_same (lsub_same (lsub_same lsub_nil)))) ?_
        exact ih7 _ _ _ (by omega) (by first | rfl | assumption) (by first | exact (f2 48 (by decide)).2 | (rw [uz_o (by decide)]; exact i7_1)) (by first | assumption | omega | decide) (by first | assumption | omega | decide) (by first | exact fun j j0 j1 => by omega | exact st_step (i7_5 _ (by omega)) i7_4) (by first | exact fun j _ => congrFun (f2 44 (by decide)).2 j | exact fun j hj => by rw [uz_n (by omega)]; exact i7_5 j hj)
  refine Z_loc (L' := [some _, some _, some _, some _]) (lsub_same (lsub_same (lsub_same (lsub_same lsub_nil)))) ?_
  exact lp7 _ _ _ _ (Nat.lt_succ_self _) (by first | rfl | assumption) (by first | exact (f2 48 (by decide)).2 | (rw [uz_o (by decide)]; exact i7_1)) (by first | assumption | omega | decide) (by first | assumption | omega | decide) (by first | exact fun j j0 j1 => by omega | exact st_step (i7_5 _ (by omega)) i7_4) (by first | exact fun j _ => congrFun (f2 44 (by decide)).2 j | exact fun j hj => by rw [uz_n (by omega)]; exact i7_5 j hj)
/-- as hdl, but for h -/
def hdx (M M' : zM) (h : Int) : Prop := (∀ g : Int, g < 12 → g ≠ h → M' 45 g = M 45 g ∧ M' 43 g = M 43 g) ∧ ∀ j : Int, j ≠ 23 → j ≠ 24 → j ≠ 25 → j ≠ 27 → M' 31 j = M 31 j
def hnd0 (M : zM) : Prop := ∀ g : Int, 12 ≤ g → g < 56 → M 43 g = 0
set_option maxRecDepth 20000 in
theorem zX4_gets {G : tl_G} {M : zM} {J : zJ} {h f y : Int} (h0 : 0 ≤ h) (h1 : h < 12) (f0 : 12 ≤ f) (f1 : f < 56) (y0 : y = 0 ∨ y = 1) (hT : TI M J) (hg : y = 1 → ¬ M 43 f = 0 ∧ M 31 24 ≤ 250) (hk : M 31 27 < 2147483647) : ZN G yX4_gets mX4_gets 4 kTk [vR 31, vI h, vI f, vI y] F1 M J (qI (fun x M' J' => TI M' J' ∧ hnd0 M' ∧ M' 31 27 ≤ M 31 27 + 1 ∧ ((y = 0 ∧ x = -5 ∧ hdl M M' ∧ J' 44 = J 44) ∨ (y = 1 ∧ x = M' 45 h ∧ ¬ M' 43 h = 0 ∧ M' 31 24 ≤ M 31 24 ∧ hdx M M' h ∧ (∀ k : Int, 0 ≤ k → k < 4 → J' 44 (4 * h + k) = J 44 (4 * f + k)) ∧ ∀ j : Int, (j < 4 * h ∨ 4 * h + 4 ≤ j) → J' 44 j = J 44 j)))) := by
  refine ZN_of (L := [_, _, _, _]) (by decide) rfl rfl (Nat.le_of_ble_eq_true rfl) rfl (fun hav => ?_)
  refine Z_iload_n (n := 1) dX4_gets_0 rfl rfl ?_
  refine Z_if_eq (n := 4) (t := 10) dX4_gets_1 rfl (by decide) (fun c1 => ?_) (fun c1 => ?_)
  · refine Z_aload_n (n := 11) dX4_gets_10 rfl rfl ?_
    refine Z_callVv (n := 14) [] _ dX4_gets_11 rfl cwX4_185 rfl rfl rfl (Nat.le_of_ble_eq_true rfl) (by refine ⟨?_, ?_, ?_, ?_⟩ <;> exact Nat.le_of_ble_eq_true rfl) (fun a h => by unfold kTk at h; unfold kRv; omega) (zX4_clearHand  (by first | assumption | omega | decide)) ?_
    intro M11 J11 f11 q11
    obtain ⟨ti11, hn11, am11, au11, hd11⟩ := q11
    refine Z_iload_n (n := 15) dX4_gets_14 rfl rfl ?_
    refine Z_if_eq (n := 18) (t := 27) dX4_gets_15 rfl (by decide) (fun c15 => ?_) (fun c15 => ?_)
    · refine Z_bipush (n := 29) dX4_gets_27 rfl (by decide) (by decide) ?_
      refine Z_iret dX4_gets_29 rfl ?_
      first
        | (refine ⟨ti11, hn11, by omega, Or.inl ⟨by omega, rfl, hd11, (f11 44 (by decide)).2⟩⟩)
        | (refine ⟨ti11, hn11, by omega, Or.inr ⟨by omega, rfl, by rw [(hd11.1 h (by omega)).2]; exact ah7, by omega, ⟨fun g a b => ⟨((hd11.1 g a).1).trans (af7.1 g b).1, ((hd11.1 g a).2).trans (af7.1 g b).2⟩, fun j a b c e => (hd11.2.2 j a b c e).trans (af7.2.2 j a b c e)⟩, fun k k0 k1 => by rw [congrFun (f11 44 (by decide)).2 _]; exact b17 k k0 k1, fun j hj => by rw [congrFun (f11 44 (by decide)).2 _]; exact b27 j hj⟩⟩)
        | (exfalso; omega)
    · refine Z_aload_n (n := 19) dX4_gets_18 rfl rfl ?_
      refine Z_getA (n := 22) dX4_gets_19 rfl ffX4_51 rfl rfl ?_
      refine Z_iload_n (n := 23) dX4_gets_22 rfl rfl ?_
      refine Z_iald (n := 24) dX4_gets_23 rfl rfl rfl (by first | decide | assumption) (by omega) (by omega) (fun r23 s23 => ?_)
      refine Z_goto (t := 29) dX4_gets_24 (by decide) ?_
      refine Z_iret dX4_gets_29 rfl ?_
      first
        | (refine ⟨ti11, hn11, by omega, Or.inl ⟨by omega, rfl, hd11, (f11 44 (by decide)).2⟩⟩)
        | (refine ⟨ti11, hn11, by omega, Or.inr ⟨by omega, rfl, by rw [(hd11.1 h (by omega)).2]; exact ah7, by omega, ⟨fun g a b => ⟨((hd11.1 g a).1).trans (af7.1 g b).1, ((hd11.1 g a).2).trans (af7.1 g b).2⟩, fun j a b c e => (hd11.2.2 j a b c e).trans (af7.2.2 j a b c e)⟩, fun k k0 k1 => by rw [congrFun (f11 44 (by decide)).2 _]; exact b17 k k0 k1, fun j hj => by rw [congrFun (f11 44 (by decide)).2 _]; exact b27 j hj⟩⟩)
        | (exfalso; omega)
  · have hg1 := hg (by omega)
    refine Z_aload_n (n := 5) dX4_gets_4 rfl rfl ?_
    refine Z_iload_n (n := 6) dX4_gets_5 rfl rfl ?_
    refine Z_iload_n (n := 7) dX4_gets_6 rfl rfl ?_
    refine Z_callVv (n := 10) [_, _] _ dX4_gets_7 rfl cwX4_182 rfl rfl rfl (Nat.le_of_ble_eq_true rfl) (by refine ⟨?_, ?_, ?_, ?_⟩ <;> exact Nat.le_of_ble_eq_true rfl) (fun _ h => h) (zX4_take  (by omega) (by omega) (by omega) (by omega) (by omega) (by exact hT) (by exact hg1.1) (by exact hg1.2) (by omega)) ?_
    intro M7 J7 f7 q7
    obtain ⟨ti7, ah7, am7, au7, af7, b17, b27⟩ := q7
    refine Z_aload_n (n := 11) dX4_gets_10 rfl rfl ?_
    refine Z_callVv (n := 14) [] _ dX4_gets_11 rfl cwX4_185 rfl rfl rfl (Nat.le_of_ble_eq_true rfl) (by refine ⟨?_, ?_, ?_, ?_⟩ <;> exact Nat.le_of_ble_eq_true rfl) (fun a h => by unfold kTk at h; unfold kRv; omega) (zX4_clearHand  (by first | assumption | omega | decide)) ?_
    intro M11 J11 f11 q11
    obtain ⟨ti11, hn11, am11, au11, hd11⟩ := q11
    refine Z_iload_n (n := 15) dX4_gets_14 rfl rfl ?_
    refine Z_if_eq (n := 18) (t := 27) dX4_gets_15 rfl (by decide) (fun c15 => ?_) (fun c15 => ?_)
    · refine Z_bipush (n := 29) dX4_gets_27 rfl (by decide) (by decide) ?_
      refine Z_iret dX4_gets_29 rfl ?_
      first
        | (refine ⟨ti11, hn11, by omega, Or.inl ⟨by omega, rfl, hd11, (f11 44 (by decide)).2⟩⟩)
        | (refine ⟨ti11, hn11, by omega, Or.inr ⟨by omega, rfl, by rw [(hd11.1 h (by omega)).2]; exact ah7, by omega, ⟨fun g a b => ⟨((hd11.1 g a).1).trans (af7.1 g b).1, ((hd11.1 g a).2).trans (af7.1 g b).2⟩, fun j a b c e => (hd11.2.2 j a b c e).trans (af7.2.2 j a b c e)⟩, fun k k0 k1 => by rw [congrFun (f11 44 (by decide)).2 _]; exact b17 k k0 k1, fun j hj => by rw [congrFun (f11 44 (by decide)).2 _]; exact b27 j hj⟩⟩)
        | (exfalso; omega)
    · refine Z_aload_n (n := 19) dX4_gets_18 rfl rfl ?_
      refine Z_getA (n := 22) dX4_gets_19 rfl ffX4_51 rfl rfl ?_
      refine Z_iload_n (n := 23) dX4_gets_22 rfl rfl ?_
      refine Z_iald (n := 24) dX4_gets_23 rfl rfl rfl (by first | decide | assumption) (by omega) (by omega) (fun r23 s23 => ?_)
      refine Z_goto (t := 29) dX4_gets_24 (by decide) ?_
      refine Z_iret dX4_gets_29 rfl ?_
      first
        | (refine ⟨ti11, hn11, by omega, Or.inl ⟨by omega, rfl, hd11, (f11 44 (by decide)).2⟩⟩)
        | (refine ⟨ti11, hn11, by omega, Or.inr ⟨by omega, rfl, by rw [(hd11.1 h (by omega)).2]; exact ah7, by omega, ⟨fun g a b => ⟨((hd11.1 g a).1).trans (af7.1 g b).1, ((hd11.1 g a).2).trans (af7.1 g b).2⟩, fun j a b c e => (hd11.2.2 j a b c e).trans (af7.2.2 j a b c e)⟩, fun k k0 k1 => by rw [congrFun (f11 44 (by decide)).2 _]; exact b17 k k0 k1, fun j hj => by rw [congrFun (f11 44 (by decide)).2 _]; exact b27 j hj⟩⟩)
        | (exfalso; omega)
set_option maxRecDepth 20000 in
theorem zX4_makeChoice {G : tl_G} {M : zM} {J : zJ} {t f g k : Int} (t0 : 0 ≤ t) (t1 : t < 56) (f0 : 0 ≤ f) (f1 : f < 56) (g0 : 0 ≤ g) (g1 : g < 56) (k0 : 0 ≤ k) (k1 : k < 56) : ZN G yX4_makeChoice mX4_makeChoice 0 kBits [vR 31, vI t, vI f, vI g, vI k] F1 M J (qV (fun M' J' => M' = M ∧ (∀ w : Int, 0 ≤ w → w < 4 → J' 44 (4 * t + w) = (J 44 (4 * f + w) &&& J 44 (4 * g + w)) ||| ((J 44 (4 * f + w) ^^^ -1) &&& J 44 (4 * k + w))) ∧ ∀ j : Int, (j < 4 * t ∨ 4 * t + 4 ≤ j) → J' 44 j = J 44 j)) := by
  refine ZN_of (L := [_, _, _, _, _, _, _, _]) (by decide) rfl rfl (Nat.le_of_ble_eq_true rfl) rfl (fun hav => ?_)
  refine Z_iconst (n := 1) dX4_makeChoice_0 rfl (by decide) ?_
  refine Z_istore (L' := [_, _, _, _, _, _, _, _]) (n := 3) dX4_makeChoice_1 rfl (by decide) rfl rfl ?_
  have lp3 : ∀ (N3 : Nat) (q : Int) (M3 : zM) (J3 : zJ), ((4 - q).toNat) < N3 → (M3 = M) → (0 ≤ q) → (q ≤ 4) → (∀ j : Int, 0 ≤ j → j < q → J3 44 (4 * t + j) = (J 44 (4 * f + j) &&& J 44 (4 * g + j)) ||| ((J 44 (4 * f + j) ^^^ -1) &&& J 44 (4 * k + j))) → (∀ j : Int, (j < 4 * t ∨ 4 * t + q ≤ j) → J3 44 j = J 44 j) → TZ G mX4_makeChoice (tl_rm 0 0 0) 0 0 kBits M J 3 [some (vR 31), some (vI t), some (vI f), some (vI g), some (vI k), some (vI q), none, none] [] F1 M3 J3 (ZM G (zPost G kBits F1 M J (qV (fun M' J' => M' = M ∧ (∀ w : Int, 0 ≤ w → w < 4 → J' 44 (4 * t + w) = (J 44 (4 * f + w) &&& J 44 (4 * g + w)) ||| ((J 44 (4 * f + w) ^^^ -1) &&& J 44 (4 * k + w))) ∧ ∀ j : Int, (j < 4 * t ∨ 4 * t + 4 ≤ j) → J' 44 j = J 44 j))) 0 0) := by
    intro N3
    induction N3 with
    | zero => intro q M3 J3 hN; omega
    | succ N3 ih3 =>
      intro q M3 J3 hN3 i3_0 i3_1 i3_2 i3_3 i3_4
      refine Z_iload (n := 5) dX4_makeChoice_3 rfl rfl ?_
      refine Z_iconst (n := 6) dX4_makeChoice_5 rfl (by decide) ?_
      refine Z_icmp_ge (n := 9) (t := 73) dX4_makeChoice_6 rfl (by decide) (fun c6 => ?_) (fun c6 => ?_)
      · refine Z_vret dX4_makeChoice_73 rfl ?_
        exact ⟨i3_0, fun j j0 j1 => i3_3 j j0 (by omega), fun j hj => i3_4 j (by omega)⟩
      · refine Z_aload_n (n := 10) dX4_makeChoice_9 rfl rfl ?_
        refine Z_getA (n := 13) dX4_makeChoice_10 rfl ffX4_47 rfl rfl ?_
        refine Z_iconst (n := 14) dX4_makeChoice_13 rfl (by decide) ?_
        refine Z_iload_n (n := 15) dX4_makeChoice_14 rfl rfl ?_
        refine Z_imul (n := 16) dX4_makeChoice_15 rfl (by omega) ?_
        refine Z_iload (n := 18) dX4_makeChoice_16 rfl rfl ?_
        refine Z_iadd (n := 19) dX4_makeChoice_18 rfl (by omega) ?_
        refine Z_lald (n := 20) dX4_makeChoice_19 rfl rfl (by decide) (by omega) (by omega) ?_
        refine Z_lstore (L' := [_, _, _, _, _, _, _, _]) (n := 22) dX4_makeChoice_20 rfl (by decide) rfl rfl ?_
        refine Z_aload_n (n := 23) dX4_makeChoice_22 rfl rfl ?_
        refine Z_getA (n := 26) dX4_makeChoice_23 rfl ffX4_47 rfl rfl ?_
        refine Z_iconst (n := 27) dX4_makeChoice_26 rfl (by decide) ?_
        refine Z_iload_n (n := 28) dX4_makeChoice_27 rfl rfl ?_
        refine Z_imul (n := 29) dX4_makeChoice_28 rfl (by omega) ?_
        refine Z_iload (n := 31) dX4_makeChoice_29 rfl rfl ?_
        refine Z_iadd (n := 32) dX4_makeChoice_31 rfl (by omega) ?_
        refine Z_lload (n := 34) dX4_makeChoice_32 rfl rfl ?_
        refine Z_aload_n (n := 35) dX4_makeChoice_34 rfl rfl ?_
        refine Z_getA (n := 38) dX4_makeChoice_35 rfl ffX4_47 rfl rfl ?_
        refine Z_iconst (n := 39) dX4_makeChoice_38 rfl (by decide) ?_
        refine Z_iload_n (n := 40) dX4_makeChoice_39 rfl rfl ?_
        refine Z_imul (n := 41) dX4_makeChoice_40 rfl (by omega) ?_
        refine Z_iload (n := 43) dX4_makeChoice_41 rfl rfl ?_
        refine Z_iadd (n := 44) dX4_makeChoice_43 rfl (by omega) ?_
        refine Z_lald (n := 45) dX4_makeChoice_44 rfl rfl (by decide) (by omega) (by omega) ?_
        refine Z_land (n := 46) dX4_makeChoice_45 rfl ?_
        refine Z_lload (n := 48) dX4_makeChoice_46 rfl rfl ?_
        refine Z_ldc2 (n := 51) dX4_makeChoice_48 rfl clX4_188 ?_
        refine Z_lxor (n := 52) dX4_makeChoice_51 rfl ?_
        refine Z_aload_n (n := 53) dX4_makeChoice_52 rfl rfl ?_
        refine Z_getA (n := 56) dX4_makeChoice_53 rfl ffX4_47 rfl rfl ?_
        refine Z_iconst (n := 57) dX4_makeChoice_56 rfl (by decide) ?_
        refine Z_iload (n := 59) dX4_makeChoice_57 rfl rfl ?_
        refine Z_imul (n := 60) dX4_makeChoice_59 rfl (by omega) ?_
        refine Z_iload (n := 62) dX4_makeChoice_60 rfl rfl ?_
        refine Z_iadd (n := 63) dX4_makeChoice_62 rfl (by omega) ?_
        refine Z_lald (n := 64) dX4_makeChoice_63 rfl rfl (by decide) (by omega) (by omega) ?_
        refine Z_land (n := 65) dX4_makeChoice_64 rfl ?_
        refine Z_lor (n := 66) dX4_makeChoice_65 rfl ?_
        refine Z_last (n := 67) dX4_makeChoice_66 rfl rfl (by decide) (by omega) (by omega) (by decide) ?_
        refine Z_iinc (L' := [_, _, _, _, _, _, _, _]) (n := 70) dX4_makeChoice_67 rfl rfl (by decide) rfl rfl (by omega) rfl ?_
        refine Z_goto (t := 3) dX4_makeChoice_70 (by decide) ?_
        refine Z_loc (L' := [some _, some _, some _, some _, some _, some _, none, none]) (lsub_same (lsub_same (lsub_same (lsub_same (lsub_same (lsub_same (lsub_none (lsub_none lsub_nil)))))))) ?_
        exact ih3 _ _ _ (by omega) (by first | rfl | assumption) (by first | assumption | omega | decide) (by first | assumption | omega | decide) (by first | exact fun j j0 j1 => by omega | exact st_step (by rw [i3_4 _ (by omega), i3_4 _ (by omega), i3_4 _ (by omega)]) i3_3) (by first | exact fun j _ => rfl | exact fun j hj => by rw [uz_n (by omega)]; exact i3_4 j (by omega))
  refine Z_loc (L' := [some _, some _, some _, some _, some _, some _, none, none]) (lsub_same (lsub_same (lsub_same (lsub_same (lsub_same (lsub_same (lsub_none (lsub_none lsub_nil)))))))) ?_
  exact lp3 _ _ _ _ (Nat.lt_succ_self _) (by first | rfl | assumption) (by first | assumption | omega | decide) (by first | assumption | omega | decide) (by first | exact fun j j0 j1 => by omega | exact st_step (by rw [i3_4 _ (by omega), i3_4 _ (by omega), i3_4 _ (by omega)]) i3_3) (by first | exact fun j _ => rfl | exact fun j hj => by rw [uz_n (by omega)]; exact i3_4 j (by omega))
theorem zor_2 {w b : Int} (h0 : 0 ≤ w) (h1 : w < 4) (hb : b = 1 ∨ b = 2) : 0 ≤ zor w b ∧ zor w b < 4 := by
  rcases (show w = 0 ∨ w = 1 ∨ w = 2 ∨ w = 3 by omega) with rfl | rfl | rfl | rfl <;> rcases hb with rfl | rfl <;> decide +kernel
theorem zandn_2 {w b : Int} (h0 : 0 ≤ w) (h1 : w < 4) (hb : b = 1 ∨ b = 2) : 0 ≤ zand w (zxor b (-1)) ∧ zand w (zxor b (-1)) < 4 := by
  rcases (show w = 0 ∨ w = 1 ∨ w = 2 ∨ w = 3 by omega) with rfl | rfl | rfl | rfl <;> rcases hb with rfl | rfl <;> decide +kernel
set_option maxRecDepth 20000 in
theorem zX4_makeHalf {G : tl_G} {M : zM} {J : zJ} {t f v y : Int} (t0 : 0 ≤ t) (t1 : t < 56) (f0 : 0 ≤ f) (f1 : f < 56) (v0 : 0 ≤ v) (v1 : v < 8) (hO : rOrd M) : ZN G yX4_makeHalf mX4_makeHalf 0 kBits [vR 31, vI t, vI f, vI v, vI y] F1 M J (qV (fun M' J' => M' = M ∧ ∀ j : Int, (j < 4 * t ∨ 4 * t + 4 ≤ j) → J' 44 j = J 44 j)) := by
  refine ZN_of (L := [_, _, _, _, _, _, _, _, _, _]) (by decide) rfl rfl (Nat.le_of_ble_eq_true rfl) rfl (fun hav => ?_)
  have hw := hO v v0 v1
  refine Z_aload_n (n := 1) dX4_makeHalf_0 rfl rfl ?_
  refine Z_getA (n := 4) dX4_makeHalf_1 rfl ffX4_32 rfl rfl ?_
  refine Z_iload_n (n := 5) dX4_makeHalf_4 rfl rfl ?_
  refine Z_iald (n := 6) dX4_makeHalf_5 rfl rfl rfl (by first | decide | assumption) (by omega) (by omega) (fun r5 s5 => ?_)
  refine Z_istore (L' := [_, _, _, _, _, _, _, _, _, _]) (n := 8) dX4_makeHalf_6 rfl (by decide) rfl rfl ?_
  refine Z_iconst (n := 9) dX4_makeHalf_8 rfl (by decide) ?_
  refine Z_istore (L' := [_, _, _, _, _, _, _, _, _, _]) (n := 11) dX4_makeHalf_9 rfl (by decide) rfl rfl ?_
  have lp11 : ∀ (N11 : Nat) (q : Int) (M11 : zM) (J11 : zJ), ((4 - q).toNat) < N11 → (M11 = M) → (0 ≤ q) → (q ≤ 4) → (∀ j : Int, (j < 4 * t ∨ 4 * t + 4 ≤ j) → J11 44 j = J 44 j) → TZ G mX4_makeHalf (tl_rm 0 0 0) 0 0 kBits M J 11 [some (vR 31), some (vI t), some (vI f), some (vI v), some (vI y), some (vI (M 39 v)), some (vI q), none, none, none] [] F1 M11 J11 (ZM G (zPost G kBits F1 M J (qV (fun M' J' => M' = M ∧ ∀ j : Int, (j < 4 * t ∨ 4 * t + 4 ≤ j) → J' 44 j = J 44 j))) 0 0) := by
    intro N11
    induction N11 with
    | zero => intro q M11 J11 hN; omega
    | succ N11 ih11 =>
      intro q M11 J11 hN11 i11_0 i11_1 i11_2 i11_3
      refine Z_iload (n := 13) dX4_makeHalf_11 rfl rfl ?_
      refine Z_iconst (n := 14) dX4_makeHalf_13 rfl (by decide) ?_
      refine Z_icmp_ge (n := 17) (t := 168) dX4_makeHalf_14 rfl (by decide) (fun c14 => ?_) (fun c14 => ?_)
      · refine Z_vret dX4_makeHalf_168 rfl ?_
        exact ⟨i11_0, i11_3⟩
      · replace i11_0 := i11_0.symm; subst i11_0
        refine Z_iload (n := 19) dX4_makeHalf_17 rfl rfl ?_
        refine Z_iconst (n := 20) dX4_makeHalf_19 rfl (by decide) ?_
        refine Z_icmp_ge (n := 23) (t := 78) dX4_makeHalf_20 rfl (by decide) (fun c20 => ?_) (fun c20 => ?_)
        · refine Z_iconst (n := 79) dX4_makeHalf_78 rfl (by decide) ?_
          refine Z_bipush (n := 81) dX4_makeHalf_79 rfl (by decide) (by decide) ?_
          refine Z_iload (n := 83) dX4_makeHalf_81 rfl rfl ?_
          refine Z_isub (n := 84) dX4_makeHalf_83 rfl (by omega) ?_
          refine Z_ishl (n := 85) dX4_makeHalf_84 rfl ?_
          refine Z_istore (L' := [_, _, _, _, _, _, _, _, _, _]) (n := 87) dX4_makeHalf_85 rfl (by decide) rfl rfl ?_
          refine Z_aload_n (n := 88) dX4_makeHalf_87 rfl rfl ?_
          refine Z_getA (n := 91) dX4_makeHalf_88 rfl ffX4_47 rfl rfl ?_
          refine Z_iconst (n := 92) dX4_makeHalf_91 rfl (by decide) ?_
          refine Z_iload_n (n := 93) dX4_makeHalf_92 rfl rfl ?_
          refine Z_imul (n := 94) dX4_makeHalf_93 rfl (by omega) ?_
          refine Z_iload (n := 96) dX4_makeHalf_94 rfl rfl ?_
          refine Z_iadd (n := 97) dX4_makeHalf_96 rfl (by omega) ?_
          refine Z_lald (n := 98) dX4_makeHalf_97 rfl rfl (by decide) (by omega) (by omega) ?_
          refine Z_iload (n := 100) dX4_makeHalf_98 rfl rfl ?_
          refine Z_if_eq (n := 103) (t := 113) dX4_makeHalf_100 rfl (by decide) (fun c100 => ?_) (fun c100 => ?_)
          · refine Z_aload_n (n := 114) dX4_makeHalf_113 rfl rfl ?_
            refine Z_getA (n := 117) dX4_makeHalf_114 rfl ffX4_90 rfl rfl ?_
            refine Z_iload (n := 119) dX4_makeHalf_117 rfl rfl ?_
            refine Z_lald (n := 120) dX4_makeHalf_119 rfl rfl (by decide) (by omega) (by omega) ?_
            refine Z_ldc2 (n := 123) dX4_makeHalf_120 rfl clX4_188 ?_
            refine Z_lxor (n := 124) dX4_makeHalf_123 rfl ?_
            refine Z_land (n := 125) dX4_makeHalf_124 rfl ?_
            refine Z_lstore (L' := [_, _, _, _, _, _, _, _, _, _]) (n := 127) dX4_makeHalf_125 rfl (by decide) rfl rfl ?_
            refine Z_aload_n (n := 128) dX4_makeHalf_127 rfl rfl ?_
            refine Z_getA (n := 131) dX4_makeHalf_128 rfl ffX4_47 rfl rfl ?_
            refine Z_iconst (n := 132) dX4_makeHalf_131 rfl (by decide) ?_
            refine Z_iload_n (n := 133) dX4_makeHalf_132 rfl rfl ?_
            refine Z_imul (n := 134) dX4_makeHalf_133 rfl (by omega) ?_
            refine Z_iload (n := 136) dX4_makeHalf_134 rfl rfl ?_
            refine Z_iadd (n := 137) dX4_makeHalf_136 rfl (by omega) ?_
            refine Z_iload (n := 139) dX4_makeHalf_137 rfl rfl ?_
            refine Z_if_eq (n := 142) (t := 153) dX4_makeHalf_139 rfl (by decide) (fun c139 => ?_) (fun c139 => ?_)
            · refine Z_lload (n := 155) dX4_makeHalf_153 rfl rfl ?_
              refine Z_lload (n := 157) dX4_makeHalf_155 rfl rfl ?_
              refine Z_iload (n := 159) dX4_makeHalf_157 rfl rfl ?_
              refine Z_lshl (n := 160) dX4_makeHalf_159 rfl ?_
              refine Z_lor (n := 161) dX4_makeHalf_160 rfl ?_
              refine Z_last (n := 162) dX4_makeHalf_161 rfl rfl (by decide) (by omega) (by omega) (by decide) ?_
              refine Z_iinc (L' := [_, _, _, _, _, _, _, _, _, _]) (n := 165) dX4_makeHalf_162 rfl rfl (by decide) rfl rfl (by omega) rfl ?_
              refine Z_goto (t := 11) dX4_makeHalf_165 (by decide) ?_
              refine Z_loc (L' := [some _, some _, some _, some _, some _, some _, some _, none, none, none]) (lsub_same (lsub_same (lsub_same (lsub_same (lsub_same (lsub_same (lsub_same (lsub_none (lsub_none (lsub_none lsub_nil)))))))))) ?_
              exact ih11 _ _ _ (by omega) (by first | rfl | assumption) (by first | assumption | omega | decide) (by first | assumption | omega | decide) (by first | exact fun j _ => rfl | exact fun j hj => by rw [uz_n (by omega)]; exact i11_3 j hj)
            · refine Z_lload (n := 144) dX4_makeHalf_142 rfl rfl ?_
              refine Z_lload (n := 146) dX4_makeHalf_144 rfl rfl ?_
              refine Z_iload (n := 148) dX4_makeHalf_146 rfl rfl ?_
              refine Z_lushr (n := 149) dX4_makeHalf_148 rfl ?_
              refine Z_lor (n := 150) dX4_makeHalf_149 rfl ?_
              refine Z_goto (t := 161) dX4_makeHalf_150 (by decide) ?_
              refine Z_last (n := 162) dX4_makeHalf_161 rfl rfl (by decide) (by omega) (by omega) (by decide) ?_
              refine Z_iinc (L' := [_, _, _, _, _, _, _, _, _, _]) (n := 165) dX4_makeHalf_162 rfl rfl (by decide) rfl rfl (by omega) rfl ?_
              refine Z_goto (t := 11) dX4_makeHalf_165 (by decide) ?_
              refine Z_loc (L' := [some _, some _, some _, some _, some _, some _, some _, none, none, none]) (lsub_same (lsub_same (lsub_same (lsub_same (lsub_same (lsub_same (lsub_same (lsub_none (lsub_none (lsub_none lsub_nil)))))))))) ?_
              exact ih11 _ _ _ (by omega) (by first | rfl | assumption) (by first | assumption | omega | decide) (by first | assumption | omega | decide) (by first | exact fun j _ => rfl | exact fun j hj => by rw [uz_n (by omega)]; exact i11_3 j hj)
          · refine Z_aload_n (n := 104) dX4_makeHalf_103 rfl rfl ?_
            refine Z_getA (n := 107) dX4_makeHalf_104 rfl ffX4_90 rfl rfl ?_
            refine Z_iload (n := 109) dX4_makeHalf_107 rfl rfl ?_
            refine Z_lald (n := 110) dX4_makeHalf_109 rfl rfl (by decide) (by omega) (by omega) ?_
            refine Z_goto (t := 124) dX4_makeHalf_110 (by decide) ?_
            refine Z_land (n := 125) dX4_makeHalf_124 rfl ?_
            refine Z_lstore (L' := [_, _, _, _, _, _, _, _, _, _]) (n := 127) dX4_makeHalf_125 rfl (by decide) rfl rfl ?_
            refine Z_aload_n (n := 128) dX4_makeHalf_127 rfl rfl ?_
            refine Z_getA (n := 131) dX4_makeHalf_128 rfl ffX4_47 rfl rfl ?_
            refine Z_iconst (n := 132) dX4_makeHalf_131 rfl (by decide) ?_
            refine Z_iload_n (n := 133) dX4_makeHalf_132 rfl rfl ?_
            refine Z_imul (n := 134) dX4_makeHalf_133 rfl (by omega) ?_
            refine Z_iload (n := 136) dX4_makeHalf_134 rfl rfl ?_
            refine Z_iadd (n := 137) dX4_makeHalf_136 rfl (by omega) ?_
            refine Z_iload (n := 139) dX4_makeHalf_137 rfl rfl ?_
            refine Z_if_eq (n := 142) (t := 153) dX4_makeHalf_139 rfl (by decide) (fun c139 => ?_) (fun c139 => ?_)
            · refine Z_lload (n := 155) dX4_makeHalf_153 rfl rfl ?_
              refine Z_lload (n := 157) dX4_makeHalf_155 rfl rfl ?_
              refine Z_iload (n := 159) dX4_makeHalf_157 rfl rfl ?_
              refine Z_lshl (n := 160) dX4_makeHalf_159 rfl ?_
              refine Z_lor (n := 161) dX4_makeHalf_160 rfl ?_
              refine Z_last (n := 162) dX4_makeHalf_161 rfl rfl (by decide) (by omega) (by omega) (by decide) ?_
              refine Z_iinc (L' := [_, _, _, _, _, _, _, _, _, _]) (n := 165) dX4_makeHalf_162 rfl rfl (by decide) rfl rfl (by omega) rfl ?_
              refine Z_goto (t := 11) dX4_makeHalf_165 (by decide) ?_
              refine Z_loc (L' := [some _, some _, some _, some _, some _, some _, some _, none, none, none]) (lsub_same (lsub_same (lsub_same (lsub_same (lsub_same (lsub_same (lsub_same (lsub_none (lsub_none (lsub_none lsub_nil)))))))))) ?_
              exact ih11 _ _ _ (by omega) (by first | rfl | assumption) (by first | assumption | omega | decide) (by first | assumption | omega | decide) (by first | exact fun j _ => rfl | exact fun j hj => by rw [uz_n (by omega)]; exact i11_3 j hj)
            · refine Z_lload (n := 144) dX4_makeHalf_142 rfl rfl ?_
              refine Z_lload (n := 146) dX4_makeHalf_144 rfl rfl ?_
              refine Z_iload (n := 148) dX4_makeHalf_146 rfl rfl ?_
              refine Z_lushr (n := 149) dX4_makeHalf_148 rfl ?_
              refine Z_lor (n := 150) dX4_makeHalf_149 rfl ?_
              refine Z_goto (t := 161) dX4_makeHalf_150 (by decide) ?_
              refine Z_last (n := 162) dX4_makeHalf_161 rfl rfl (by decide) (by omega) (by omega) (by decide) ?_
              refine Z_iinc (L' := [_, _, _, _, _, _, _, _, _, _]) (n := 165) dX4_makeHalf_162 rfl rfl (by decide) rfl rfl (by omega) rfl ?_
              refine Z_goto (t := 11) dX4_makeHalf_165 (by decide) ?_
              refine Z_loc (L' := [some _, some _, some _, some _, some _, some _, some _, none, none, none]) (lsub_same (lsub_same (lsub_same (lsub_same (lsub_same (lsub_same (lsub_same (lsub_none (lsub_none (lsub_none lsub_nil)))))))))) ?_
              exact ih11 _ _ _ (by omega) (by first | rfl | assumption) (by first | assumption | omega | decide) (by first | assumption | omega | decide) (by first | exact fun j _ => rfl | exact fun j hj => by rw [uz_n (by omega)]; exact i11_3 j hj)
        · refine Z_iload (n := 25) dX4_makeHalf_23 rfl rfl ?_
          refine Z_if_ne (n := 28) (t := 32) dX4_makeHalf_25 rfl (by decide) (fun c25 => ?_) (fun c25 => ?_)
          · refine Z_iconst (n := 33) dX4_makeHalf_32 rfl (by decide) ?_
            refine Z_istore (L' := [_, _, _, _, _, _, _, _, _, _]) (n := 35) dX4_makeHalf_33 rfl (by decide) rfl rfl ?_
            refine Z_aload_n (n := 36) dX4_makeHalf_35 rfl rfl ?_
            refine Z_getA (n := 39) dX4_makeHalf_36 rfl ffX4_47 rfl rfl ?_
            refine Z_iconst (n := 40) dX4_makeHalf_39 rfl (by decide) ?_
            refine Z_iload_n (n := 41) dX4_makeHalf_40 rfl rfl ?_
            refine Z_imul (n := 42) dX4_makeHalf_41 rfl (by omega) ?_
            refine Z_iload (n := 44) dX4_makeHalf_42 rfl rfl ?_
            refine Z_iadd (n := 45) dX4_makeHalf_44 rfl (by omega) ?_
            refine Z_aload_n (n := 46) dX4_makeHalf_45 rfl rfl ?_
            refine Z_getA (n := 49) dX4_makeHalf_46 rfl ffX4_47 rfl rfl ?_
            refine Z_iconst (n := 50) dX4_makeHalf_49 rfl (by decide) ?_
            refine Z_iload_n (n := 51) dX4_makeHalf_50 rfl rfl ?_
            refine Z_imul (n := 52) dX4_makeHalf_51 rfl (by omega) ?_
            refine Z_iload (n := 54) dX4_makeHalf_52 rfl rfl ?_
            refine Z_if_eq (n := 57) (t := 65) dX4_makeHalf_54 rfl (by decide) (fun c54 => ?_) (fun c54 => ?_)
            · have hz2 : 0 ≤ zand q (zxor 2 (-1)) ∧ zand q (zxor 2 (-1)) < 4 := zandn_2 (by omega) (by omega) (by decide)
              have hz1 : 0 ≤ zand q (zxor 1 (-1)) ∧ zand q (zxor 1 (-1)) < 4 := zandn_2 (by omega) (by omega) (by decide)
              refine Z_iload (n := 67) dX4_makeHalf_65 rfl rfl ?_
              refine Z_iload (n := 69) dX4_makeHalf_67 rfl rfl ?_
              refine Z_iconst (n := 70) dX4_makeHalf_69 rfl (by decide) ?_
              refine Z_ixor (n := 71) dX4_makeHalf_70 rfl ?_
              refine Z_iand (n := 72) dX4_makeHalf_71 rfl ?_
              refine Z_iadd (n := 73) dX4_makeHalf_72 rfl (by omega) ?_
              refine Z_lald (n := 74) dX4_makeHalf_73 rfl rfl (by decide) (by omega) (by omega) ?_
              refine Z_last (n := 75) dX4_makeHalf_74 rfl rfl (by decide) (by omega) (by omega) (by decide) ?_
              refine Z_goto (t := 162) dX4_makeHalf_75 (by decide) ?_
              refine Z_iinc (L' := [_, _, _, _, _, _, _, _, _, _]) (n := 165) dX4_makeHalf_162 rfl rfl (by decide) rfl rfl (by omega) rfl ?_
              refine Z_goto (t := 11) dX4_makeHalf_165 (by decide) ?_
              refine Z_loc (L' := [some _, some _, some _, some _, some _, some _, some _, none, none, none]) (lsub_same (lsub_same (lsub_same (lsub_same (lsub_same (lsub_same (lsub_same (lsub_none (lsub_none (lsub_none lsub_nil)))))))))) ?_
              exact ih11 _ _ _ (by omega) (by first | rfl | assumption) (by first | assumption | omega | decide) (by first | assumption | omega | decide) (by first | exact fun j _ => rfl | exact fun j hj => by rw [uz_n (by omega)]; exact i11_3 j hj)
            · have hz2 : 0 ≤ zor q 2 ∧ zor q 2 < 4 := zor_2 (by omega) (by omega) (by decide)
              have hz1 : 0 ≤ zor q 1 ∧ zor q 1 < 4 := zor_2 (by omega) (by omega) (by decide)
              refine Z_iload (n := 59) dX4_makeHalf_57 rfl rfl ?_
              refine Z_iload (n := 61) dX4_makeHalf_59 rfl rfl ?_
              refine Z_ior (n := 62) dX4_makeHalf_61 rfl ?_
              refine Z_goto (t := 72) dX4_makeHalf_62 (by decide) ?_
              refine Z_iadd (n := 73) dX4_makeHalf_72 rfl (by omega) ?_
              refine Z_lald (n := 74) dX4_makeHalf_73 rfl rfl (by decide) (by omega) (by omega) ?_
              refine Z_last (n := 75) dX4_makeHalf_74 rfl rfl (by decide) (by omega) (by omega) (by decide) ?_
              refine Z_goto (t := 162) dX4_makeHalf_75 (by decide) ?_
              refine Z_iinc (L' := [_, _, _, _, _, _, _, _, _, _]) (n := 165) dX4_makeHalf_162 rfl rfl (by decide) rfl rfl (by omega) rfl ?_
              refine Z_goto (t := 11) dX4_makeHalf_165 (by decide) ?_
              refine Z_loc (L' := [some _, some _, some _, some _, some _, some _, some _, none, none, none]) (lsub_same (lsub_same (lsub_same (lsub_same (lsub_same (lsub_same (lsub_same (lsub_none (lsub_none (lsub_none lsub_nil)))))))))) ?_
              exact ih11 _ _ _ (by omega) (by first | rfl | assumption) (by first | assumption | omega | decide) (by first | assumption | omega | decide) (by first | exact fun j _ => rfl | exact fun j hj => by rw [uz_n (by omega)]; exact i11_3 j hj)
          · refine Z_iconst (n := 29) dX4_makeHalf_28 rfl (by decide) ?_
            refine Z_goto (t := 33) dX4_makeHalf_29 (by decide) ?_
            refine Z_istore (L' := [_, _, _, _, _, _, _, _, _, _]) (n := 35) dX4_makeHalf_33 rfl (by decide) rfl rfl ?_
            refine Z_aload_n (n := 36) dX4_makeHalf_35 rfl rfl ?_
            refine Z_getA (n := 39) dX4_makeHalf_36 rfl ffX4_47 rfl rfl ?_
            refine Z_iconst (n := 40) dX4_makeHalf_39 rfl (by decide) ?_
            refine Z_iload_n (n := 41) dX4_makeHalf_40 rfl rfl ?_
            refine Z_imul (n := 42) dX4_makeHalf_41 rfl (by omega) ?_
            refine Z_iload (n := 44) dX4_makeHalf_42 rfl rfl ?_
            refine Z_iadd (n := 45) dX4_makeHalf_44 rfl (by omega) ?_
            refine Z_aload_n (n := 46) dX4_makeHalf_45 rfl rfl ?_
            refine Z_getA (n := 49) dX4_makeHalf_46 rfl ffX4_47 rfl rfl ?_
            refine Z_iconst (n := 50) dX4_makeHalf_49 rfl (by decide) ?_
            refine Z_iload_n (n := 51) dX4_makeHalf_50 rfl rfl ?_
            refine Z_imul (n := 52) dX4_makeHalf_51 rfl (by omega) ?_
            refine Z_iload (n := 54) dX4_makeHalf_52 rfl rfl ?_
            refine Z_if_eq (n := 57) (t := 65) dX4_makeHalf_54 rfl (by decide) (fun c54 => ?_) (fun c54 => ?_)
            · have hz2 : 0 ≤ zand q (zxor 2 (-1)) ∧ zand q (zxor 2 (-1)) < 4 := zandn_2 (by omega) (by omega) (by decide)
              have hz1 : 0 ≤ zand q (zxor 1 (-1)) ∧ zand q (zxor 1 (-1)) < 4 := zandn_2 (by omega) (by omega) (by decide)
              refine Z_iload (n := 67) dX4_makeHalf_65 rfl rfl ?_
              refine Z_iload (n := 69) dX4_makeHalf_67 rfl rfl ?_
              refine Z_iconst (n := 70) dX4_makeHalf_69 rfl (by decide) ?_
              refine Z_ixor (n := 71) dX4_makeHalf_70 rfl ?_
              refine Z_iand (n := 72) dX4_makeHalf_71 rfl ?_
              refine Z_iadd (n := 73) dX4_makeHalf_72 rfl (by omega) ?_
              refine Z_lald (n := 74) dX4_makeHalf_73 rfl rfl (by decide) (by omega) (by omega) ?_
              refine Z_last (n := 75) dX4_makeHalf_74 rfl rfl (by decide) (by omega) (by omega) (by decide) ?_
              refine Z_goto (t := 162) dX4_makeHalf_75 (by decide) ?_
              refine Z_iinc (L' := [_, _, _, _, _, _, _, _, _, _]) (n := 165) dX4_makeHalf_162 rfl rfl (by decide) rfl rfl (by omega) rfl ?_
              refine Z_goto (t := 11) dX4_makeHalf_165 (by decide) ?_
              refine Z_loc (L' := [some _, some _, some _, some _, some _, some _, some _, none, none, none]) (lsub_same (lsub_same (lsub_same (lsub_same (lsub_same (lsub_same (lsub_same (lsub_none (lsub_none (lsub_none lsub_nil)))))))))) ?_
              exact ih11 _ _ _ (by omega) (by first | rfl | assumption) (by first | assumption | omega | decide) (by first | assumption | omega | decide) (by first | exact fun j _ => rfl | exact fun j hj => by rw [uz_n (by omega)]; exact i11_3 j hj)
            · have hz2 : 0 ≤ zor q 2 ∧ zor q 2 < 4 := zor_2 (by omega) (by omega) (by decide)
              have hz1 : 0 ≤ zor q 1 ∧ zor q 1 < 4 := zor_2 (by omega) (by omega) (by decide)
              refine Z_iload (n := 59) dX4_makeHalf_57 rfl rfl ?_
              refine Z_iload (n := 61) dX4_makeHalf_59 rfl rfl ?_
              refine Z_ior (n := 62) dX4_makeHalf_61 rfl ?_
              refine Z_goto (t := 72) dX4_makeHalf_62 (by decide) ?_
              refine Z_iadd (n := 73) dX4_makeHalf_72 rfl (by omega) ?_
              refine Z_lald (n := 74) dX4_makeHalf_73 rfl rfl (by decide) (by omega) (by omega) ?_
              refine Z_last (n := 75) dX4_makeHalf_74 rfl rfl (by decide) (by omega) (by omega) (by decide) ?_
              refine Z_goto (t := 162) dX4_makeHalf_75 (by decide) ?_
              refine Z_iinc (L' := [_, _, _, _, _, _, _, _, _, _]) (n := 165) dX4_makeHalf_162 rfl rfl (by decide) rfl rfl (by omega) rfl ?_
              refine Z_goto (t := 11) dX4_makeHalf_165 (by decide) ?_
              refine Z_loc (L' := [some _, some _, some _, some _, some _, some _, some _, none, none, none]) (lsub_same (lsub_same (lsub_same (lsub_same (lsub_same (lsub_same (lsub_same (lsub_none (lsub_none (lsub_none lsub_nil)))))))))) ?_
              exact ih11 _ _ _ (by omega) (by first | rfl | assumption) (by first | assumption | omega | decide) (by first | assumption | omega | decide) (by first | exact fun j _ => rfl | exact fun j hj => by rw [uz_n (by omega)]; exact i11_3 j hj)
  refine Z_loc (L' := [some _, some _, some _, some _, some _, some _, some _, none, none, none]) (lsub_same (lsub_same (lsub_same (lsub_same (lsub_same (lsub_same (lsub_same (lsub_none (lsub_none (lsub_none lsub_nil)))))))))) ?_
  exact lp11 _ _ _ _ (Nat.lt_succ_self _) (by first | rfl | assumption) (by first | assumption | omega | decide) (by first | assumption | omega | decide) (by first | exact fun j _ => rfl | exact fun j hj => by rw [uz_n (by omega)]; exact i11_3 j hj)
