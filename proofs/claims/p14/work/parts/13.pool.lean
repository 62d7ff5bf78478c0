/-! ===== Order and Pool ===== -/
set_option maxRecDepth 20000 in
theorem zX1_variableAt {G : tl_G} {M : zM} {J : zJ} {p : Int} (h0 : 0 ≤ p) (h1 : p < 8) : ZN G yX1_variableAt mX1_variableAt 0 kAll [vR 2, vI p] F1 M J (qI (fun x M' J' => M' = M ∧ J' = J ∧ x = M 3 p)) := by
  refine ZN_of (L := [_, _]) (by decide) rfl rfl (Nat.le_of_ble_eq_true rfl) rfl (fun hav => ?_)
  refine Z_aload_n (n := 1) dX1_variableAt_0 rfl rfl ?_
  refine Z_getA (n := 4) dX1_variableAt_1 rfl ffX1_9 rfl rfl ?_
  refine Z_iload_n (n := 5) dX1_variableAt_4 rfl rfl ?_
  refine Z_iald (n := 6) dX1_variableAt_5 rfl rfl rfl (by first | decide | assumption) (by omega) (by omega) (fun r5 s5 => ?_)
  refine Z_iret dX1_variableAt_6 rfl ?_
  exact ⟨rfl, rfl, rfl⟩
set_option maxRecDepth 20000 in
theorem zX1_placeOf {G : tl_G} {M : zM} {J : zJ} {v : Int} (h0 : 0 ≤ v) (h1 : v < 8) : ZN G yX1_placeOf mX1_placeOf 0 kAll [vR 2, vI v] F1 M J (qI (fun x M' J' => M' = M ∧ J' = J ∧ x = M 4 v)) := by
  refine ZN_of (L := [_, _]) (by decide) rfl rfl (Nat.le_of_ble_eq_true rfl) rfl (fun hav => ?_)
  refine Z_aload_n (n := 1) dX1_placeOf_0 rfl rfl ?_
  refine Z_getA (n := 4) dX1_placeOf_1 rfl ffX1_15 rfl rfl ?_
  refine Z_iload_n (n := 5) dX1_placeOf_4 rfl rfl ?_
  refine Z_iald (n := 6) dX1_placeOf_5 rfl rfl rfl (by first | decide | assumption) (by omega) (by omega) (fun r5 s5 => ?_)
  refine Z_iret dX1_placeOf_6 rfl ?_
  exact ⟨rfl, rfl, rfl⟩
set_option maxRecDepth 20000 in
theorem zX1_put {G : tl_G} {M : zM} {J : zJ} {K : Nat → Prop} {v p : Int} (h0 : 0 ≤ v) (h1 : v < 8) (h2 : 0 ≤ p) (h3 : p < 8) (hK3 : ¬ K 3) (hK4 : ¬ K 4) : ZN G yX1_put mX1_put 0 K [vR 2, vI v, vI p] F1 M J (qV (fun M' J' => J' = J ∧ M' = uz (uz M 3 p v) 4 v p)) := by
  refine ZN_of (L := [_, _, _]) (by decide) rfl rfl (Nat.le_of_ble_eq_true rfl) rfl (fun hav => ?_)
  refine Z_aload_n (n := 1) dX1_put_0 rfl rfl ?_
  refine Z_getA (n := 4) dX1_put_1 rfl ffX1_9 rfl rfl ?_
  refine Z_iload_n (n := 5) dX1_put_4 rfl rfl ?_
  refine Z_iload_n (n := 6) dX1_put_5 rfl rfl ?_
  refine Z_iast (n := 7) dX1_put_6 rfl rfl rfl (by first | decide | assumption) (by omega) (by omega) (by first | assumption | omega | decide) (by first | assumption | omega | decide) (by assumption) ?_
  refine Z_aload_n (n := 8) dX1_put_7 rfl rfl ?_
  refine Z_getA (n := 11) dX1_put_8 rfl ffX1_15 rfl rfl ?_
  refine Z_iload_n (n := 12) dX1_put_11 rfl rfl ?_
  refine Z_iload_n (n := 13) dX1_put_12 rfl rfl ?_
  refine Z_iast (n := 14) dX1_put_13 rfl rfl rfl (by first | decide | assumption) (by omega) (by omega) (by first | assumption | omega | decide) (by first | assumption | omega | decide) (by assumption) ?_
  refine Z_vret dX1_put_14 rfl ?_
  exact ⟨rfl, rfl⟩
set_option maxRecDepth 20000 in
theorem zX1_forget {G : tl_G} {M : zM} {J : zJ} {K : Nat → Prop} (hK2 : ¬ K 2) (hK4 : ¬ K 4) : ZN G yX1_forget mX1_forget 1 K [vR 2] F1 M J (qV (fun M' J' => J' = J ∧ M' = uz (fillz M 4 8 (-1)) 2 2 0)) := by
  refine ZN_of (L := [_]) (by decide) rfl rfl (Nat.le_of_ble_eq_true rfl) rfl (fun hav => ?_)
  refine Z_aload_n (n := 1) dX1_forget_0 rfl rfl ?_
  refine Z_getA (n := 4) dX1_forget_1 rfl ffX1_15 rfl rfl ?_
  refine Z_iconst (n := 5) dX1_forget_4 rfl (by decide) ?_
  refine Z_callSv (n := 8) [_, _] _ dX1_forget_5 rfl cwX1_22 rfl rfl (Nat.le_of_ble_eq_true rfl) (by refine ⟨?_, ?_, ?_, ?_⟩ <;> exact Nat.le_of_ble_eq_true rfl) (fun _ h => h) (zJ7_fill_53178  (by rfl) (by decide) (by exact fun _ => rfl) (by decide) (by decide) (by assumption)) ?_
  intro M5 J5 f5 q5
  obtain ⟨e5_1, e5_2⟩ := q5
  replace e5_1 := e5_1.symm; subst e5_1
  replace e5_2 := e5_2.symm; subst e5_2
  refine Z_aload_n (n := 9) dX1_forget_8 rfl rfl ?_
  refine Z_iconst (n := 10) dX1_forget_9 rfl (by decide) ?_
  refine Z_putI (n := 13) (ki := 2) dX1_forget_10 rfl ffX1_18 rfl (by decide) rfl rfl (by first | assumption | omega | decide) (by first | assumption | omega | decide) (by assumption) ?_
  refine Z_vret dX1_forget_13 rfl ?_
  exact ⟨rfl, rfl⟩
set_option maxRecDepth 20000 in
theorem zX1_meet {G : tl_G} {M : zM} {J : zJ} {K : Nat → Prop} {v : Int} (h0 : 0 ≤ v) (h1 : v < 8) (hK2 : ¬ K 2) (hK3 : ¬ K 3) (hK4 : ¬ K 4) : ZN G yX1_meet mX1_meet 1 K [vR 2, vI v] F1 M J (qV (fun M' J' => J' = J ∧ ((M 4 v = -1 ∧ M 2 2 < 8 ∧ M' = uz (uz (uz M 3 (M 2 2) v) 4 v (M 2 2)) 2 2 (M 2 2 + 1)) ∨ ((¬ M 4 v = -1 ∨ 8 ≤ M 2 2) ∧ M' = M)))) := by
  refine ZN_of (L := [_, _]) (by decide) rfl rfl (Nat.le_of_ble_eq_true rfl) rfl (fun hav => ?_)
  refine Z_aload_n (n := 1) dX1_meet_0 rfl rfl ?_
  refine Z_getA (n := 4) dX1_meet_1 rfl ffX1_15 rfl rfl ?_
  refine Z_iload_n (n := 5) dX1_meet_4 rfl rfl ?_
  refine Z_iald (n := 6) dX1_meet_5 rfl rfl rfl (by first | decide | assumption) (by omega) (by omega) (fun r5 s5 => ?_)
  try simp only [uz_oo (show (2 : Nat) ≠ 3 by decide), uz_oo (show (2 : Nat) ≠ 4 by decide)] at r5 s5 ⊢
  refine Z_iconst (n := 7) dX1_meet_6 rfl (by decide) ?_
  refine Z_icmp_ne (n := 10) (t := 38) dX1_meet_7 rfl (by decide) (fun c7 => ?_) (fun c7 => ?_)
  · refine Z_vret dX1_meet_38 rfl ?_
    refine ⟨rfl, ?_⟩
    first | exact Or.inr ⟨by omega, rfl⟩ | exact Or.inl ⟨by omega, by omega, rfl⟩
  · refine Z_aload_n (n := 11) dX1_meet_10 rfl rfl ?_
    refine Z_getI (n := 14) (ki := 2) dX1_meet_11 rfl ffX1_18 rfl rfl rfl (fun r11 s11 => ?_)
    try simp only [uz_oo (show (2 : Nat) ≠ 3 by decide), uz_oo (show (2 : Nat) ≠ 4 by decide)] at r11 s11 ⊢
    refine Z_bipush (n := 16) dX1_meet_14 rfl (by decide) (by decide) ?_
    refine Z_icmp_ge (n := 19) (t := 38) dX1_meet_16 rfl (by decide) (fun c16 => ?_) (fun c16 => ?_)
    · refine Z_vret dX1_meet_38 rfl ?_
      refine ⟨rfl, ?_⟩
      first | exact Or.inr ⟨by omega, rfl⟩ | exact Or.inl ⟨by omega, by omega, rfl⟩
    · refine Z_aload_n (n := 20) dX1_meet_19 rfl rfl ?_
      refine Z_iload_n (n := 21) dX1_meet_20 rfl rfl ?_
      refine Z_aload_n (n := 22) dX1_meet_21 rfl rfl ?_
      refine Z_getI (n := 25) (ki := 2) dX1_meet_22 rfl ffX1_18 rfl rfl rfl (fun r22 s22 => ?_)
      try simp only [uz_oo (show (2 : Nat) ≠ 3 by decide), uz_oo (show (2 : Nat) ≠ 4 by decide)] at r22 s22 ⊢
      refine Z_callVv (n := 28) [_, _] _ dX1_meet_25 rfl cwX1_28 rfl rfl rfl (Nat.le_of_ble_eq_true rfl) (by refine ⟨?_, ?_, ?_, ?_⟩ <;> exact Nat.le_of_ble_eq_true rfl) (fun _ h => h) (zX1_put  (by first | assumption | omega | decide) (by first | assumption | omega | decide) (by first | assumption | omega | decide) (by first | assumption | omega | decide) (by first | assumption | omega | decide) (by first | assumption | omega | decide)) ?_
      intro M25 J25 f25 q25
      obtain ⟨e25_1, e25_2⟩ := q25
      replace e25_1 := e25_1.symm; subst e25_1
      replace e25_2 := e25_2.symm; subst e25_2
      refine Z_aload_n (n := 29) dX1_meet_28 rfl rfl ?_
      refine Z_dup (n := 30) dX1_meet_29 rfl rfl ?_
      refine Z_getI (n := 33) (ki := 2) dX1_meet_30 rfl ffX1_18 rfl rfl rfl (fun r30 s30 => ?_)
      try simp only [uz_oo (show (2 : Nat) ≠ 3 by decide), uz_oo (show (2 : Nat) ≠ 4 by decide)] at r30 s30 ⊢
      refine Z_iconst (n := 34) dX1_meet_33 rfl (by decide) ?_
      refine Z_iadd (n := 35) dX1_meet_34 rfl (by omega) ?_
      refine Z_putI (n := 38) (ki := 2) dX1_meet_35 rfl ffX1_18 rfl (by decide) rfl rfl (by first | assumption | omega | decide) (by first | assumption | omega | decide) (by assumption) ?_
      refine Z_vret dX1_meet_38 rfl ?_
      refine ⟨rfl, ?_⟩
      first | exact Or.inr ⟨by omega, rfl⟩ | exact Or.inl ⟨by omega, by omega, rfl⟩
theorem hc_o {f g : Int → Int} : ∀ {n : Nat}, (∀ k : Int, 0 ≤ k → k < n → (f k = -1 ↔ g k = -1)) → hc f n = hc g n
  | 0, _ => rfl
  | n + 1, h => by
    unfold hc
    rw [hc_o (n := n) (fun k h0 h1 => h k h0 (by omega))]
    have := h n (by omega) (by omega)
    by_cases q : f n = -1
    · rw [if_pos q, if_pos (this.mp q)]
    · rw [if_neg q, if_neg (fun e => q (this.mpr e))]
theorem hc_lt {f : Int → Int} : ∀ {n : Nat} {v : Int}, 0 ≤ v → v < n → f v = -1 → hc f n < n
  | 0, v, h0, h1, _ => by omega
  | n + 1, v, h0, h1, h => by
    unfold hc
    by_cases e : v = n
    · subst e
      rw [if_pos h]
      have := hc_in f n
      omega
    · have := hc_lt (n := n) h0 (by omega) h
      split <;> omega
theorem hc_set {f g : Int → Int} : ∀ {n : Nat} {v : Int}, 0 ≤ v → v < n → f v = -1 → ¬ g v = -1 → (∀ k, k ≠ v → g k = f k) → hc g n = hc f n + 1
  | 0, v, h0, h1, _, _, _ => by omega
  | n + 1, v, h0, h1, h2, h3, h4 => by
    unfold hc
    by_cases e : v = n
    · subst e
      rw [if_pos h2, if_neg h3, hc_o (f := g) (g := f) (fun k _ hk => by rw [h4 k (by omega)])]
      omega
    · rw [hc_set (n := n) h0 (by omega) h2 h3 h4, h4 n (by omega)]
      omega
/-- met counts the places that are taken -/
def oMet (M : zM) : Prop := M 2 2 = hc (M 4) 8
theorem oMet_meet {M : zM} {v : Int} (h0 : 0 ≤ v) (h1 : v < 8) (h : oMet M) (hok : zOK M) (hv : M 4 v = -1) : oMet (uz (uz (uz M 3 (M 2 2) v) 4 v (M 2 2)) 2 2 (M 2 2 + 1)) := by
  have hm := (hok 2 2).1
  unfold oMet at *
  rw [uz_s, uz_o (show (4 : Nat) ≠ 2 by decide)]
  rw [hc_set (f := M 4) (g := uz (uz M 3 (M 2 2) v) 4 v (M 2 2) 4) (n := 8) h0 (by omega) hv (by rw [uz_s]; have : (zT 2 2).1 = 0 := rfl; omega) (fun k hk => by rw [uz_n hk, uz_o (show (4 : Nat) ≠ 3 by decide)])]
  omega
