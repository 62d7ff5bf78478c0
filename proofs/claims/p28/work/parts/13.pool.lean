/-! ===== Order and Pool ===== -/
set_option maxRecDepth 20000 in
theorem zX1_variableAt {G : tl_G} {M : zM} {J : zJ} {p : Int} (h0 : 0 ≤ p) (h1 : p < 8) : ZN G yX1_variableAt mX1_variableAt 0 kAll [vR 2, vI p] F1 M J (qI (fun x M' J' => M' = M ∧ J' = J ∧ x = M 3 p)) := by
  refine ZN_of (L := [_, _]) (by decide) rfl rfl (Nat.le_of_ble_eq_true rfl) rfl (fun hav => ?_)
  refine Z_aload_n (n := 1) dX1_variableAt_0 rfl rfl ?_
  refine Z_getA (n := 4) dX1_variableAt_1 rfl ffX1_9 rfl rfl ?_
  refine Z_iload_n (n := 5) dX1_variableAt_4 rfl rfl ?_
  refine Z_iald (n := 6) dX1_variableAt_5 rfl rfl rfl (by first | decide | assumption) (by omega) (by omega) (fun r5 s5 => ?_)
  refine Z_iret dX1_variableAt_6 rfl ?_
  exact ⟨rfl, rfl, rfl⟩
set_option maxRecDepth 20000 in
theorem zX1_placeOf {G : tl_G} {M : zM} {J : zJ} {v : Int} (h0 : 0 ≤ v) (h1 : v < 8) : ZN G yX1_placeOf mX1_placeOf 0 kAll [vR 2, vI v] F1 M J (qI (fun x M' J' => M' = M ∧ J' = J ∧ x = M 4 v)) := by
  refine ZN_of (L := [_, _]) (by decide) rfl rfl (Nat.le_of_ble_eq_true rfl) rfl (fun hav => ?_)
  refine Z_aload_n (n := 1) dX1_placeOf_0 rfl rfl ?_
  refine Z_getA (n := 4) dX1_placeOf_1 rfl ffX1_15 rfl rfl ?_
  refine Z_iload_n (n := 5) dX1_placeOf_4 rfl rfl ?_
  refine Z_iald (n := 6) dX1_placeOf_5 rfl rfl rfl (by first | decide | assumption) (by omega) (by omega) (fun r5 s5 => ?_)
  refine Z_iret dX1_placeOf_6 rfl ?_
  exact ⟨rfl, rfl, rfl⟩
set_option maxRecDepth 20000 in
theorem zX1_put {G : tl_G} {M : zM} {J : zJ} {K : Nat → Prop} {v p : Int} (h0 : 0 ≤ v) (h1 : v < 8) (h2 : 0 ≤ p) (h3 : p < 8) (hK3 : ¬ K 3) (hK4 : ¬ K 4) : ZN G yX1_put mX1_put 0 K [vR 2, vI v, vI p] F1 M J (qV (fun M' J' => J' = J ∧ M' = uz (uz M 3 p v) 4 v p)) := by
  refine ZN_of (L := [_, _, _]) (by decide) rfl rfl (Nat.le_of_ble_eq_true rfl) rfl (fun hav => ?_)
  refine Z_aload_n (n := 1) dX1_put_0 rfl rfl ?_
  refine Z_getA (n := 4) dX1_put_1 rfl ffX1_9 rfl rfl ?_
  refine Z_iload_n (n := 5) dX1_put_4 rfl rfl ?_
  refine Z_iload_n (n := 6) dX1_put_5 rfl rfl ?_
  refine Z_iast (n := 7) dX1_put_6 rfl rfl rfl (by first | decide | assumption) (by omega) (by omega) (by first | assumption | omega | decide) (by first | assumption | omega | decide) (by assumption) ?_
  refine Z_aload_n (n := 8) dX1_put_7 rfl rfl ?_
  refine Z_getA (n := 11) dX1_put_8 rfl ffX1_15 rfl rfl ?_
  refine Z_iload_n (n := 12) dX1_put_11 rfl rfl ?_
  refine Z_iload_n (n := 13) dX1_put_12 rfl rfl ?_
  refine Z_iast (n := 14) dX1_put_13 rfl rfl rfl (by first | decide | assumption) (by omega) (by omega) (by first | assumption | omega | decide) (by first | assumption | omega | decide) (by assumption) ?_
  refine Z_vret dX1_put_14 rfl ?_
  exact ⟨rfl, rfl⟩
set_option maxRecDepth 20000 in
theorem zX1_forget {G : tl_G} {M : zM} {J : zJ} {K : Nat → Prop} (hK2 : ¬ K 2) (hK4 : ¬ K 4) : ZN G yX1_forget mX1_forget 1 K [vR 2] F1 M J (qV (fun M' J' => J' = J ∧ M' = uz (fillz M 4 8 (-1)) 2 2 0)) := by
  refine ZN_of (L := [_]) (by decide) rfl rfl (Nat.le_of_ble_eq_true rfl) rfl (fun hav => ?_)
  refine Z_aload_n (n := 1) dX1_forget_0 rfl rfl ?_
  refine Z_getA (n := 4) dX1_forget_1 rfl ffX1_15 rfl rfl ?_
  refine Z_iconst (n := 5) dX1_forget_4 rfl (by decide) ?_
  refine Z_callSv (n := 8) [_, _] _ dX1_forget_5 rfl cwX1_22 rfl rfl (Nat.le_of_ble_eq_true rfl) (by refine ⟨?_, ?_, ?_, ?_⟩ <;> exact Nat.le_of_ble_eq_true rfl) (fun _ h => h) (zJ7_fill_53178  (by rfl) (by decide) (by exact fun _ => rfl) (by decide) (by decide) (by assumption)) ?_
  intro M5 J5 f5 q5
  obtain ⟨e5_1, e5_2⟩ := q5
  replace e5_1 := e5_1.symm; subst e5_1
  replace e5_2 := e5_2.symm; subst e5_2
  refine Z_aload_n (n := 9) dX1_forget_8 rfl rfl ?_
  refine Z_iconst (n := 10) dX1_forget_9 rfl (by decide) ?_
  refine Z_putI (n := 13) (ki := 2) dX1_forget_10 rfl ffX1_18 rfl (by decide) rfl rfl (by first | assumption | omega | decide) (by first | assumption | omega | decide) (by assumption) ?_
  refine Z_vret dX1_forget_13 rfl ?_
  exact ⟨rfl, rfl⟩
set_option maxRecDepth 20000 in
theorem zX1_meet {G : tl_G} {M : zM} {J : zJ} {K : Nat → Prop} {v : Int} (h0 : 0 ≤ v) (h1 : v < 8) (hK2 : ¬ K 2) (hK3 : ¬ K 3) (hK4 : ¬ K 4) : ZN G yX1_meet mX1_meet 1 K [vR 2, vI v] F1 M J (qV (fun M' J' => J' = J ∧ ((M 4 v = -1 ∧ M 2 2 < 8 ∧ M' = uz (uz (uz M 3 (M 2 2) v) 4 v (M 2 2)) 2 2 (M 2 2 + 1)) ∨ ((¬ M 4 v = -1 ∨ 8 ≤ M 2 2) ∧ M' = M)))) := by
  refine ZN_of (L := [_, _]) (by decide) rfl rfl (Nat.le_of_ble_eq_true rfl) rfl (fun hav => ?_)
  refine Z_aload_n (n := 1) dX1_meet_0 rfl rfl ?_
  refine Z_getA (n := 4) dX1_meet_1 rfl ffX1_15 rfl rfl ?_
  refine Z_iload_n (n := 5) dX1_meet_4 rfl rfl ?_
  refine Z_iald (n := 6) dX1_meet_5 rfl rfl rfl (by first | decide | assumption) (by omega) (by omega) (fun r5 s5 => ?_)
  try simp only [uz_oo (show (2 : Nat) ≠ 3 by decide), uz_oo (show (2 : Nat) ≠ 4 by decide)] at r5 s5 ⊢
  refine Z_iconst (n := 7) dX1_meet_6 rfl (by decide) ?_
  refine Z_icmp_ne (n := 10) (t := 38) dX1_meet_7 rfl (by decide) (fun c7 => ?_) (fun c7 => ?_)
  · refine Z_vret dX1_meet_38 rfl ?_
    refine ⟨rfl, ?_⟩
    first | exact Or.inr ⟨by omega, rfl⟩ | exact Or.inl ⟨by omega, by omega, rfl⟩
  · refine Z_aload_n (n := 11) dX1_meet_10 rfl rfl ?_
    refine Z_getI (n := 14) (ki := 2) dX1_meet_11 rfl ffX1_18 rfl rfl rfl (fun r11 s11 => ?_)
    try simp only [uz_oo (show (2 : Nat) ≠ 3 by decide), uz_oo (show (2 : Nat) ≠ 4 by decide)] at r11 s11 ⊢
    refine Z_bipush (n := 16) dX1_meet_14 rfl (by decide) (by decide) ?_
    refine Z_icmp_ge (n := 19) (t := 38) dX1_meet_16 rfl (by decide) (fun c16 => ?_) (fun c16 => ?_)
    · refine Z_vret dX1_meet_38 rfl ?_
      refine ⟨rfl, ?_⟩
      first | exact Or.inr ⟨by omega, rfl⟩ | exact Or.inl ⟨by omega, by omega, rfl⟩
    · refine Z_aload_n (n := 20) dX1_meet_19 rfl rfl ?_
      refine Z_iload_n (n := 21) dX1_meet_20 rfl rfl ?_
      refine Z_aload_n (n := 22) dX1_meet_21 rfl rfl ?_
      refine Z_getI (n := 25) (ki := 2) dX1_meet_22 rfl ffX1_18 rfl rfl rfl (fun r22 s22 => ?_)
      try simp only [uz_oo (show (2 : Nat) ≠ 3 by decide), uz_oo (show (2 : Nat) ≠ 4 by decide)] at r22 s22 ⊢
      refine Z_callVv (n := 28) [_, _] _ dX1_meet_25 rfl cwX1_28 rfl rfl rfl (Nat.le_of_ble_eq_true rfl) (by refine ⟨?_, ?_, ?_, ?_⟩ <;> exact Nat.le_of_ble_eq_true rfl) (fun _ h => h) (zX1_put  (by first | assumption | omega | decide) (by first | assumption | omega | decide) (by first | assumption | omega | decide) (by first | assumption | omega | decide) (by first | assumption | omega | decide) (by first | assumption | omega | decide)) ?_
      intro M25 J25 f25 q25
      obtain ⟨e25_1, e25_2⟩ := q25
      replace e25_1 := e25_1.symm; subst e25_1
      replace e25_2 := e25_2.symm; subst e25_2
      refine Z_aload_n (n := 29) dX1_meet_28 rfl rfl ?_
      refine Z_dup (n := 30) dX1_meet_29 rfl rfl ?_
      refine Z_getI (n := 33) (ki := 2) dX1_meet_30 rfl ffX1_18 rfl rfl rfl (fun r30 s30 => ?_)
      try simp only [uz_oo (show (2 : Nat) ≠ 3 by decide), uz_oo (show (2 : Nat) ≠ 4 by decide)] at r30 s30 ⊢
      refine Z_iconst (n := 34) dX1_meet_33 rfl (by decide) ?_
      refine Z_iadd (n := 35) dX1_meet_34 rfl (by omega) ?_
      refine Z_putI (n := 38) (ki := 2) dX1_meet_35 rfl ffX1_18 rfl (by decide) rfl rfl (by first | assumption | omega | decide) (by first | assumption | omega | decide) (by assumption) ?_
      refine Z_vret dX1_meet_38 rfl ?_
      refine ⟨rfl, ?_⟩
      first | exact Or.inr ⟨by omega, rfl⟩ | exact Or.inl ⟨by omega, by omega, rfl⟩
theorem hc_o {f g : Int → Int} : ∀ {n : Nat}, (∀ k : Int, 0 ≤ k → k < n → (f k = -1 ↔ g k = -1)) → hc f n = hc g n
  | 0, _ => rfl
  | n + 1, h => by
    unfold hc
    rw [hc_o (n := n) (fun k h0 h1 => h k h0 (by omega))]
    have := h n (by omega) (by omega)
    by_cases q : f n = -1
    · rw [if_pos q, if_pos (this.mp q)]
    · rw [if_neg q, if_neg (fun e => q (this.mpr e))]
theorem hc_lt {f : Int → Int} : ∀ {n : Nat} {v : Int}, 0 ≤ v → v < n → f v = -1 → hc f n < n
  | 0, v, h0, h1, _ => by omega
  | n + 1, v, h0, h1, h => by
    unfold hc
    by_cases e : v = n
    · subst e
      rw [if_pos h]
      have := hc_in f n
      omega
    · have := hc_lt (n := n) h0 (by omega) h
      split <;> omega
theorem hc_set {f g : Int → Int} : ∀ {n : Nat} {v : Int}, 0 ≤ v → v < n → f v = -1 → ¬ g v = -1 → (∀ k, k ≠ v → g k = f k) → hc g n = hc f n + 1
  | 0, v, h0, h1, _, _, _ => by omega
  | n + 1, v, h0, h1, h2, h3, h4 => by
    unfold hc
    by_cases e : v = n
    · subst e
      rw [if_pos h2, if_neg h3, hc_o (f := g) (g := f) (fun k _ hk => by rw [h4 k (by omega)])]
      omega
    · rw [hc_set (n := n) h0 (by omega) h2 h3 h4, h4 n (by omega)]
      omega
theorem hc_full {f : Int → Int} {n : Nat} (h : hc f n = n) {v : Int} (h0 : 0 ≤ v) (h1 : v < n) : ¬ f v = -1 := fun e => by
  have := hc_lt h0 h1 e
  omega
/-- met counts the places that are taken -/
def oMet (M : zM) : Prop := M 2 2 = hc (M 4) 8
theorem oMet_meet {M : zM} {v : Int} (h0 : 0 ≤ v) (h1 : v < 8) (h : oMet M) (hok : zOK M) (hv : M 4 v = -1) : oMet (uz (uz (uz M 3 (M 2 2) v) 4 v (M 2 2)) 2 2 (M 2 2 + 1)) := by
  have hm := (hok 2 2).1
  unfold oMet at *
  rw [uz_s, uz_o (show (4 : Nat) ≠ 2 by decide)]
  rw [hc_set (f := M 4) (g := uz (uz M 3 (M 2 2) v) 4 v (M 2 2) 4) (n := 8) h0 (by omega) hv (by rw [uz_s]; have : (zT 2 2).1 = 0 := rfl; omega) (fun k hk => by rw [uz_n hk, uz_o (show (4 : Nat) ≠ 3 by decide)])]
  omega
set_option maxRecDepth 20000 in
theorem zX1_meetOthers {G : tl_G} {M : zM} {J : zJ}   : ZN G yX1_meetOthers mX1_meetOthers 2 kOrd [vR 2] F1 M J (qI (fun x M' J' => x = M 2 2 ∧ J' = J ∧ ((hM : oMet M) → ∀ v : Int, 0 ≤ v → v < 8 → 0 ≤ M' 4 v))) := by
  refine ZN_of (L := [_, _, _]) (by decide) rfl rfl (Nat.le_of_ble_eq_true rfl) rfl (fun hav => ?_)
  refine Z_aload_n (n := 1) dX1_meetOthers_0 rfl rfl ?_
  refine Z_getI (n := 4) (ki := 2) dX1_meetOthers_1 rfl ffX1_18 rfl rfl rfl (fun r1 s1 => ?_)
  refine Z_istore_n (L' := [_, _, _]) (n := 5) dX1_meetOthers_4 rfl (by decide) rfl rfl ?_
  refine Z_iconst (n := 6) dX1_meetOthers_5 rfl (by decide) ?_
  refine Z_istore_n (L' := [_, _, _]) (n := 7) dX1_meetOthers_6 rfl (by decide) rfl rfl ?_
  have lp7 : ∀ (N7 : Nat) (v : Int) (M7 : zM) (J7 : zJ), ((8 - v).toNat) < N7 → (J7 = J) → (0 ≤ v) → (v ≤ 8) → (oMet M → oMet M7 ∧ ∀ w : Int, 0 ≤ w → w < v → ¬ M7 4 w = -1) → TZ G mX1_meetOthers (tl_rm 2 0 0) 0 0 kOrd M J 7 [some (vR 2), some (vI (M 2 2)), some (vI v)] [] F1 M7 J7 (ZM G (zPost G kOrd F1 M J (qI (fun x M' J' => x = M 2 2 ∧ J' = J ∧ ((hM : oMet M) → ∀ v : Int, 0 ≤ v → v < 8 → 0 ≤ M' 4 v)))) 0 0) := by
    intro N7
    induction N7 with
    | zero => intro v M7 J7 hN; omega
    | succ N7 ih7 =>
      intro v M7 J7 hN7 i7_0 i7_1 i7_2 i7_3
      refine Z_iload_n (n := 8) dX1_meetOthers_7 rfl rfl ?_
      refine Z_bipush (n := 10) dX1_meetOthers_8 rfl (by decide) (by decide) ?_
      refine Z_icmp_ge (n := 13) (t := 24) dX1_meetOthers_10 rfl (by decide) (fun c10 => ?_) (fun c10 => ?_)
      · refine Z_ok (fun ok7 => ?_)
        refine Z_iload_n (n := 25) dX1_meetOthers_24 rfl rfl ?_
        refine Z_iret dX1_meetOthers_25 rfl ?_
        refine ⟨rfl, i7_0, fun h w h0 h1 => ?_⟩
        have e := (i7_3 h).2 w h0 (by omega)
        have := (ok7 4 w).1
        have e2 : (zT 4 w).1 = -1 := rfl
        omega
      · refine Z_aload_n (n := 14) dX1_meetOthers_13 rfl rfl ?_
        refine Z_ok (fun ok7 => ?_)
        refine Z_rg 2 2 rfl (fun g7 g7b => ?_)
        refine Z_iload_n (n := 15) dX1_meetOthers_14 rfl rfl ?_
        refine Z_callVv (n := 18) [_] _ dX1_meetOthers_15 rfl cwX1_32 rfl rfl rfl (Nat.le_of_ble_eq_true rfl) (by refine ⟨?_, ?_, ?_, ?_⟩ <;> exact Nat.le_of_ble_eq_true rfl) (fun _ h => h) (zX1_meet  (by first | assumption | omega | decide) (by first | assumption | omega | decide) (by first | assumption | omega | decide) (by first | assumption | omega | decide) (by first | assumption | omega | decide)) ?_
        intro M15 J15 f15 q15
        obtain ⟨e15_1, h15⟩ := q15
        replace e15_1 := e15_1.symm; subst e15_1
        have nxt : oMet M → oMet M15 ∧ ∀ w : Int, 0 ≤ w → w < v + 1 → ¬ M15 4 w = -1 := by
          intro h
          obtain ⟨h1, h2⟩ := i7_3 h
          rcases h15 with ⟨e1, e2, rfl⟩ | ⟨e1, rfl⟩
          · refine ⟨oMet_meet (by omega) (by omega) h1 ok7 e1, fun w h3 h4 => ?_⟩
            rw [uz_oo (show (4 : Nat) ≠ 2 by decide)]
            by_cases e : w = v
            · subst e; rw [uz_s]; omega
            · rw [uz_n e, uz_oo (show (4 : Nat) ≠ 3 by decide)]; exact h2 w h3 (by omega)
          · refine ⟨h1, fun w h3 h4 => ?_⟩
            by_cases e : w = v
            · subst e
              intro e3
              have := hc_lt (f := M15 4) (n := 8) h3 (by omega) e3
              unfold oMet at h1
              omega
            · exact h2 w h3 (by omega)
        refine Z_iinc (L' := [_, _, _]) (n := 21) dX1_meetOthers_18 rfl rfl (by decide) rfl rfl (by omega) rfl ?_
        refine Z_goto (t := 7) dX1_meetOthers_21 (by decide) ?_
        refine Z_loc (L' := [some _, some _, some _]) (lsub_same (lsub_same (lsub_same lsub_nil))) ?_
        exact ih7 _ _ _ (by omega) (by first | rfl | assumption) (by first | assumption | omega | decide) (by first | assumption | omega | decide) (by first | exact fun h => ⟨h, fun w h0 h1 => by omega⟩ | exact nxt)
  refine Z_loc (L' := [some _, some _, some _]) (lsub_same (lsub_same (lsub_same lsub_nil))) ?_
  exact lp7 _ _ _ _ (Nat.lt_succ_self _) (by first | rfl | assumption) (by first | assumption | omega | decide) (by first | assumption | omega | decide) (by first | exact fun h => ⟨h, fun w h0 h1 => by omega⟩ | exact nxt)
set_option maxRecDepth 20000 in
theorem zX1_moveTo {G : tl_G} {M : zM} {J : zJ} {v p : Int} (h0 : 0 ≤ v) (h1 : v < 8) (h2 : 0 ≤ p) (h3 : p < 8) (h4 : 0 ≤ M 4 v) : ZN G yX1_moveTo mX1_moveTo 1 kOrd [vR 2, vI v, vI p] F1 M J (qI (fun x M' J' => x = M 4 v ∧ J' = J ∧ ((∀ w : Int, 0 ≤ w → w < 8 → 0 ≤ M 4 w) → ∀ w : Int, 0 ≤ w → w < 8 → 0 ≤ M' 4 w))) := by
  refine ZN_of (L := [_, _, _, _, _]) (by decide) rfl rfl (Nat.le_of_ble_eq_true rfl) rfl (fun hav => ?_)
  refine Z_aload_n (n := 1) dX1_moveTo_0 rfl rfl ?_
  refine Z_getA (n := 4) dX1_moveTo_1 rfl ffX1_15 rfl rfl ?_
  refine Z_iload_n (n := 5) dX1_moveTo_4 rfl rfl ?_
  refine Z_iald (n := 6) dX1_moveTo_5 rfl rfl rfl (by first | decide | assumption) (by omega) (by omega) (fun r5 s5 => ?_)
  refine Z_istore_n (L' := [_, _, _, _, _]) (n := 7) dX1_moveTo_6 rfl (by decide) rfl rfl ?_
  refine Z_iload_n (n := 8) dX1_moveTo_7 rfl rfl ?_
  refine Z_istore (L' := [_, _, _, _, _]) (n := 10) dX1_moveTo_8 rfl (by decide) rfl rfl ?_
  have lp10 : ∀ (N10 : Nat) (q : Int) (M10 : zM) (J10 : zJ), ((p - q).toNat) < N10 → (J10 = J) → (0 ≤ q) → (q ≤ 7) → ((∀ w : Int, 0 ≤ w → w < 8 → 0 ≤ M 4 w) → ∀ w : Int, 0 ≤ w → w < 8 → 0 ≤ M10 4 w) → TZ G mX1_moveTo (tl_rm 1 0 0) 0 0 kOrd M J 10 [some (vR 2), some (vI v), some (vI p), some (vI (M 4 v)), some (vI q)] [] F1 M10 J10 (ZM G (zPost G kOrd F1 M J (qI (fun x M' J' => x = M 4 v ∧ J' = J ∧ ((∀ w : Int, 0 ≤ w → w < 8 → 0 ≤ M 4 w) → ∀ w : Int, 0 ≤ w → w < 8 → 0 ≤ M' 4 w)))) 0 0) := by
    intro N10
    induction N10 with
    | zero => intro q M10 J10 hN; omega
    | succ N10 ih10 =>
      intro q M10 J10 hN10 i10_0 i10_1 i10_2 i10_3
      refine Z_iload (n := 12) dX1_moveTo_10 rfl rfl ?_
      refine Z_iload_n (n := 13) dX1_moveTo_12 rfl rfl ?_
      refine Z_icmp_ge (n := 16) (t := 37) dX1_moveTo_13 rfl (by decide) (fun c13 => ?_) (fun c13 => ?_)
      · refine Z_iload_n (n := 38) dX1_moveTo_37 rfl rfl ?_
        refine Z_istore (L' := [_, _, _, _, _]) (n := 40) dX1_moveTo_38 rfl (by decide) rfl rfl ?_
        have lp40 : ∀ (N40 : Nat) (q : Int) (M40 : zM) (J40 : zJ), ((q - p).toNat) < N40 → (J40 = J) → (0 ≤ q) → (q ≤ 7) → ((∀ w : Int, 0 ≤ w → w < 8 → 0 ≤ M 4 w) → ∀ w : Int, 0 ≤ w → w < 8 → 0 ≤ M40 4 w) → TZ G mX1_moveTo (tl_rm 1 0 0) 0 0 kOrd M J 40 [some (vR 2), some (vI v), some (vI p), some (vI (M 4 v)), some (vI q)] [] F1 M40 J40 (ZM G (zPost G kOrd F1 M J (qI (fun x M' J' => x = M 4 v ∧ J' = J ∧ ((∀ w : Int, 0 ≤ w → w < 8 → 0 ≤ M 4 w) → ∀ w : Int, 0 ≤ w → w < 8 → 0 ≤ M' 4 w)))) 0 0) := by
          intro N40
          induction N40 with
          | zero => intro q M40 J40 hN; omega
          | succ N40 ih40 =>
            intro q M40 J40 hN40 i40_0 i40_1 i40_2 i40_3
            refine Z_iload (n := 42) dX1_moveTo_40 rfl rfl ?_
            refine Z_iload_n (n := 43) dX1_moveTo_42 rfl rfl ?_
            refine Z_icmp_le (n := 46) (t := 67) dX1_moveTo_43 rfl (by decide) (fun c43 => ?_) (fun c43 => ?_)
            · refine Z_aload_n (n := 68) dX1_moveTo_67 rfl rfl ?_
              refine Z_iload_n (n := 69) dX1_moveTo_68 rfl rfl ?_
              refine Z_iload_n (n := 70) dX1_moveTo_69 rfl rfl ?_
              refine Z_callVv (n := 73) [_, _] _ dX1_moveTo_70 rfl cwX1_28 rfl rfl rfl (Nat.le_of_ble_eq_true rfl) (by refine ⟨?_, ?_, ?_, ?_⟩ <;> exact Nat.le_of_ble_eq_true rfl) (fun _ h => h) (zX1_put  (by first | assumption | omega | decide) (by first | assumption | omega | decide) (by first | assumption | omega | decide) (by first | assumption | omega | decide) (by first | assumption | omega | decide) (by first | assumption | omega | decide)) ?_
              intro M70 J70 f70 q70
              obtain ⟨e70_1, e70_2⟩ := q70
              replace e70_1 := e70_1.symm; subst e70_1
              replace e70_2 := e70_2.symm; subst e70_2
              refine Z_iload_n (n := 74) dX1_moveTo_73 rfl rfl ?_
              refine Z_iret dX1_moveTo_74 rfl ?_
              refine ⟨rfl, i40_0, fun h w h5 h6 => ?_⟩
              rw [uz_a, uz_oo (show (4 : Nat) ≠ 3 by decide)]
              have := i40_3 h w h5 h6
              split <;> omega
            · refine Z_aload_n (n := 47) dX1_moveTo_46 rfl rfl ?_
              refine Z_aload_n (n := 48) dX1_moveTo_47 rfl rfl ?_
              refine Z_getA (n := 51) dX1_moveTo_48 rfl ffX1_9 rfl rfl ?_
              refine Z_iload (n := 53) dX1_moveTo_51 rfl rfl ?_
              refine Z_iconst (n := 54) dX1_moveTo_53 rfl (by decide) ?_
              refine Z_isub (n := 55) dX1_moveTo_54 rfl (by omega) ?_
              refine Z_iald (n := 56) dX1_moveTo_55 rfl rfl rfl (by first | decide | assumption) (by omega) (by omega) (fun r55 s55 => ?_)
              refine Z_iload (n := 58) dX1_moveTo_56 rfl rfl ?_
              refine Z_callVv (n := 61) [_, _] _ dX1_moveTo_58 rfl cwX1_28 rfl rfl rfl (Nat.le_of_ble_eq_true rfl) (by refine ⟨?_, ?_, ?_, ?_⟩ <;> exact Nat.le_of_ble_eq_true rfl) (fun _ h => h) (zX1_put  (by first | assumption | omega | decide) (by first | assumption | omega | decide) (by first | assumption | omega | decide) (by first | assumption | omega | decide) (by first | assumption | omega | decide) (by first | assumption | omega | decide)) ?_
              intro M58 J58 f58 q58
              obtain ⟨e58_1, e58_2⟩ := q58
              replace e58_1 := e58_1.symm; subst e58_1
              replace e58_2 := e58_2.symm; subst e58_2
              have nxt : (∀ w : Int, 0 ≤ w → w < 8 → 0 ≤ M 4 w) → ∀ w : Int, 0 ≤ w → w < 8 → 0 ≤ uz (uz M40 3 q (M40 3 (q - 1))) 4 (M40 3 (q - 1)) q 4 w := fun h w h5 h6 => by
                rw [uz_a, uz_oo (show (4 : Nat) ≠ 3 by decide)]
                have := i40_3 h w h5 h6
                split <;> omega
              refine Z_iinc (L' := [_, _, _, _, _]) (n := 64) dX1_moveTo_61 rfl rfl (by decide) rfl rfl (by omega) rfl ?_
              refine Z_goto (t := 40) dX1_moveTo_64 (by decide) ?_
              refine Z_loc (L' := [some _, some _, some _, some _, some _]) (lsub_same (lsub_same (lsub_same (lsub_same (lsub_same lsub_nil))))) ?_
              exact ih40 _ _ _ (by omega) (by first | rfl | assumption) (by first | assumption | omega | decide) (by first | assumption | omega | decide) (by first | exact i10_3 | exact nxt)
        refine Z_loc (L' := [some _, some _, some _, some _, some _]) (lsub_same (lsub_same (lsub_same (lsub_same (lsub_same lsub_nil))))) ?_
        exact lp40 _ _ _ _ (Nat.lt_succ_self _) (by first | rfl | assumption) (by first | assumption | omega | decide) (by first | assumption | omega | decide) (by first | exact i10_3 | exact nxt)
      · refine Z_aload_n (n := 17) dX1_moveTo_16 rfl rfl ?_
        refine Z_aload_n (n := 18) dX1_moveTo_17 rfl rfl ?_
        refine Z_getA (n := 21) dX1_moveTo_18 rfl ffX1_9 rfl rfl ?_
        refine Z_iload (n := 23) dX1_moveTo_21 rfl rfl ?_
        refine Z_iconst (n := 24) dX1_moveTo_23 rfl (by decide) ?_
        refine Z_iadd (n := 25) dX1_moveTo_24 rfl (by omega) ?_
        refine Z_iald (n := 26) dX1_moveTo_25 rfl rfl rfl (by first | decide | assumption) (by omega) (by omega) (fun r25 s25 => ?_)
        refine Z_iload (n := 28) dX1_moveTo_26 rfl rfl ?_
        refine Z_callVv (n := 31) [_, _] _ dX1_moveTo_28 rfl cwX1_28 rfl rfl rfl (Nat.le_of_ble_eq_true rfl) (by refine ⟨?_, ?_, ?_, ?_⟩ <;> exact Nat.le_of_ble_eq_true rfl) (fun _ h => h) (zX1_put  (by first | assumption | omega | decide) (by first | assumption | omega | decide) (by first | assumption | omega | decide) (by first | assumption | omega | decide) (by first | assumption | omega | decide) (by first | assumption | omega | decide)) ?_
        intro M28 J28 f28 q28
        obtain ⟨e28_1, e28_2⟩ := q28
        replace e28_1 := e28_1.symm; subst e28_1
        replace e28_2 := e28_2.symm; subst e28_2
        have nxt : (∀ w : Int, 0 ≤ w → w < 8 → 0 ≤ M 4 w) → ∀ w : Int, 0 ≤ w → w < 8 → 0 ≤ uz (uz M10 3 q (M10 3 (q + 1))) 4 (M10 3 (q + 1)) q 4 w := fun h w h5 h6 => by
          rw [uz_a, uz_oo (show (4 : Nat) ≠ 3 by decide)]
          have := i10_3 h w h5 h6
          split <;> omega
        refine Z_iinc (L' := [_, _, _, _, _]) (n := 34) dX1_moveTo_31 rfl rfl (by decide) rfl rfl (by omega) rfl ?_
        refine Z_goto (t := 10) dX1_moveTo_34 (by decide) ?_
        refine Z_loc (L' := [some _, some _, some _, some _, some _]) (lsub_same (lsub_same (lsub_same (lsub_same (lsub_same lsub_nil))))) ?_
        exact ih10 _ _ _ (by omega) (by first | rfl | assumption) (by first | assumption | omega | decide) (by first | assumption | omega | decide) (by first | exact fun h => h | exact nxt)
  refine Z_loc (L' := [some _, some _, some _, some _, some _]) (lsub_same (lsub_same (lsub_same (lsub_same (lsub_same lsub_nil))))) ?_
  exact lp10 _ _ _ _ (Nat.lt_succ_self _) (by first | rfl | assumption) (by first | assumption | omega | decide) (by first | assumption | omega | decide) (by first | exact fun h => h | exact nxt)
