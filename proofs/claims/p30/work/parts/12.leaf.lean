section
/-! ===== leaves of the class ===== -/
set_option maxRecDepth 20000 in
theorem zX3_isNet {G : tl_G} {M : zM} {J : zJ} {v : Int}  : ZN G yX3_isNet mX3_isNet 0 kAll [vI v] F1 M J (qI (fun x M' J' => M' = M ∧ J' = J ∧ ((x = 1 ∧ 0 ≤ v ∧ v < 3) ∨ (x = 0 ∧ (v < 0 ∨ 3 ≤ v))))) := by
  refine ZN_of (L := [_]) (by decide) rfl rfl (Nat.le_of_ble_eq_true rfl) rfl (fun hav => ?_)
  refine Z_iload_n (n := 1) dX3_isNet_0 rfl rfl ?_
  refine Z_if_lt (n := 4) (t := 13) dX3_isNet_1 rfl (by decide) (fun c1 => ?_) (fun c1 => ?_)
  · refine Z_iconst (n := 14) dX3_isNet_13 rfl (by decide) ?_
    refine Z_zret dX3_isNet_14 rfl (by first | assumption | omega | decide) (by first | assumption | omega | decide) ?_
    refine ⟨rfl, rfl, ?_⟩; omega
  · refine Z_iload_n (n := 5) dX3_isNet_4 rfl rfl ?_
    refine Z_iconst (n := 6) dX3_isNet_5 rfl (by decide) ?_
    refine Z_icmp_ge (n := 9) (t := 13) dX3_isNet_6 rfl (by decide) (fun c6 => ?_) (fun c6 => ?_)
    · refine Z_iconst (n := 14) dX3_isNet_13 rfl (by decide) ?_
      refine Z_zret dX3_isNet_14 rfl (by first | assumption | omega | decide) (by first | assumption | omega | decide) ?_
      refine ⟨rfl, rfl, ?_⟩; omega
    · refine Z_iconst (n := 10) dX3_isNet_9 rfl (by decide) ?_
      refine Z_goto (t := 14) dX3_isNet_10 (by decide) ?_
      refine Z_zret dX3_isNet_14 rfl (by first | assumption | omega | decide) (by first | assumption | omega | decide) ?_
      refine ⟨rfl, rfl, ?_⟩; omega
set_option maxRecDepth 20000 in
theorem zX3_isVariable {G : tl_G} {M : zM} {J : zJ} {v : Int}  : ZN G yX3_isVariable mX3_isVariable 0 kAll [vI v] F1 M J (qI (fun x M' J' => M' = M ∧ J' = J ∧ ((x = 1 ∧ 0 ≤ v ∧ v < 8) ∨ (x = 0 ∧ (v < 0 ∨ 8 ≤ v))))) := by
  refine ZN_of (L := [_]) (by decide) rfl rfl (Nat.le_of_ble_eq_true rfl) rfl (fun hav => ?_)
  refine Z_iload_n (n := 1) dX3_isVariable_0 rfl rfl ?_
  refine Z_if_lt (n := 4) (t := 14) dX3_isVariable_1 rfl (by decide) (fun c1 => ?_) (fun c1 => ?_)
  · refine Z_iconst (n := 15) dX3_isVariable_14 rfl (by decide) ?_
    refine Z_zret dX3_isVariable_15 rfl (by first | assumption | omega | decide) (by first | assumption | omega | decide) ?_
    refine ⟨rfl, rfl, ?_⟩; omega
  · refine Z_iload_n (n := 5) dX3_isVariable_4 rfl rfl ?_
    refine Z_bipush (n := 7) dX3_isVariable_5 rfl (by decide) (by decide) ?_
    refine Z_icmp_ge (n := 10) (t := 14) dX3_isVariable_7 rfl (by decide) (fun c7 => ?_) (fun c7 => ?_)
    · refine Z_iconst (n := 15) dX3_isVariable_14 rfl (by decide) ?_
      refine Z_zret dX3_isVariable_15 rfl (by first | assumption | omega | decide) (by first | assumption | omega | decide) ?_
      refine ⟨rfl, rfl, ?_⟩; omega
    · refine Z_iconst (n := 11) dX3_isVariable_10 rfl (by decide) ?_
      refine Z_goto (t := 15) dX3_isVariable_11 (by decide) ?_
      refine Z_zret dX3_isVariable_15 rfl (by first | assumption | omega | decide) (by first | assumption | omega | decide) ?_
      refine ⟨rfl, rfl, ?_⟩; omega
set_option maxRecDepth 20000 in
theorem zX3_isAssignment {G : tl_G} {M : zM} {J : zJ} {v : Int}  : ZN G yX3_isAssignment mX3_isAssignment 0 kAll [vI v] F1 M J (qI (fun x M' J' => M' = M ∧ J' = J ∧ ((x = 1 ∧ 0 ≤ v ∧ v < 256) ∨ (x = 0 ∧ (v < 0 ∨ 256 ≤ v))))) := by
  refine ZN_of (L := [_]) (by decide) rfl rfl (Nat.le_of_ble_eq_true rfl) rfl (fun hav => ?_)
  refine Z_iload_n (n := 1) dX3_isAssignment_0 rfl rfl ?_
  refine Z_if_lt (n := 4) (t := 15) dX3_isAssignment_1 rfl (by decide) (fun c1 => ?_) (fun c1 => ?_)
  · refine Z_iconst (n := 16) dX3_isAssignment_15 rfl (by decide) ?_
    refine Z_zret dX3_isAssignment_16 rfl (by first | assumption | omega | decide) (by first | assumption | omega | decide) ?_
    refine ⟨rfl, rfl, ?_⟩; omega
  · refine Z_iload_n (n := 5) dX3_isAssignment_4 rfl rfl ?_
    refine Z_sipush (n := 8) dX3_isAssignment_5 rfl (by decide) (by decide) ?_
    refine Z_icmp_ge (n := 11) (t := 15) dX3_isAssignment_8 rfl (by decide) (fun c8 => ?_) (fun c8 => ?_)
    · refine Z_iconst (n := 16) dX3_isAssignment_15 rfl (by decide) ?_
      refine Z_zret dX3_isAssignment_16 rfl (by first | assumption | omega | decide) (by first | assumption | omega | decide) ?_
      refine ⟨rfl, rfl, ?_⟩; omega
    · refine Z_iconst (n := 12) dX3_isAssignment_11 rfl (by decide) ?_
      refine Z_goto (t := 16) dX3_isAssignment_12 (by decide) ?_
      refine Z_zret dX3_isAssignment_16 rfl (by first | assumption | omega | decide) (by first | assumption | omega | decide) ?_
      refine ⟨rfl, rfl, ?_⟩; omega
set_option maxRecDepth 20000 in
theorem zX3_isHandle {G : tl_G} {M : zM} {J : zJ} {v : Int}  : ZN G yX3_isHandle mX3_isHandle 0 kAll [vI v] F1 M J (qI (fun x M' J' => M' = M ∧ J' = J ∧ ((x = 1 ∧ 0 ≤ v ∧ v < 12) ∨ (x = 0 ∧ (v < 0 ∨ 12 ≤ v))))) := by
  refine ZN_of (L := [_]) (by decide) rfl rfl (Nat.le_of_ble_eq_true rfl) rfl (fun hav => ?_)
  refine Z_iload_n (n := 1) dX3_isHandle_0 rfl rfl ?_
  refine Z_if_lt (n := 4) (t := 14) dX3_isHandle_1 rfl (by decide) (fun c1 => ?_) (fun c1 => ?_)
  · refine Z_iconst (n := 15) dX3_isHandle_14 rfl (by decide) ?_
    refine Z_zret dX3_isHandle_15 rfl (by first | assumption | omega | decide) (by first | assumption | omega | decide) ?_
    refine ⟨rfl, rfl, ?_⟩; omega
  · refine Z_iload_n (n := 5) dX3_isHandle_4 rfl rfl ?_
    refine Z_bipush (n := 7) dX3_isHandle_5 rfl (by decide) (by decide) ?_
    refine Z_icmp_ge (n := 10) (t := 14) dX3_isHandle_7 rfl (by decide) (fun c7 => ?_) (fun c7 => ?_)
    · refine Z_iconst (n := 15) dX3_isHandle_14 rfl (by decide) ?_
      refine Z_zret dX3_isHandle_15 rfl (by first | assumption | omega | decide) (by first | assumption | omega | decide) ?_
      refine ⟨rfl, rfl, ?_⟩; omega
    · refine Z_iconst (n := 11) dX3_isHandle_10 rfl (by decide) ?_
      refine Z_goto (t := 15) dX3_isHandle_11 (by decide) ?_
      refine Z_zret dX3_isHandle_15 rfl (by first | assumption | omega | decide) (by first | assumption | omega | decide) ?_
      refine ⟨rfl, rfl, ?_⟩; omega
set_option maxRecDepth 20000 in
theorem zX3_hasFunction {G : tl_G} {M : zM} {J : zJ} {f : Int}  : ZN G yX3_hasFunction mX3_hasFunction 1 kAll [vR 0, vI f] F1 M J (qI (fun x M' J' => M' = M ∧ J' = J ∧ ((x = 1 ∧ 0 ≤ f ∧ f < 12 ∧ ¬ M 12 f = -1) ∨ (x = 0 ∧ (f < 0 ∨ 12 ≤ f ∨ M 12 f = -1))))) := by
  refine ZN_of (L := [_, _]) (by decide) rfl rfl (Nat.le_of_ble_eq_true rfl) rfl (fun hav => ?_)
  refine Z_iload_n (n := 1) dX3_hasFunction_0 rfl rfl ?_
  refine Z_callSi (n := 4) [_] _ dX3_hasFunction_1 rfl cwX3_123 rfl rfl (Nat.le_of_ble_eq_true rfl) (by refine ⟨?_, ?_, ?_, ?_⟩ <;> exact Nat.le_of_ble_eq_true rfl) (fun _ h => h) (zX3_isHandle  ) ?_
  intro x1 M1 J1 z1 f1 q1
  obtain ⟨e1_1, e1_2, h1⟩ := q1
  replace e1_1 := e1_1.symm; subst e1_1
  replace e1_2 := e1_2.symm; subst e1_2
  refine Z_if_eq (n := 7) (t := 21) dX3_hasFunction_4 rfl (by decide) (fun c4 => ?_) (fun c4 => ?_)
  · refine Z_iconst (n := 22) dX3_hasFunction_21 rfl (by decide) ?_
    refine Z_zret dX3_hasFunction_22 rfl (by first | assumption | omega | decide) (by first | assumption | omega | decide) ?_
    refine ⟨rfl, rfl, ?_⟩; omega
  · refine Z_aload_n (n := 8) dX3_hasFunction_7 rfl rfl ?_
    refine Z_getA (n := 11) dX3_hasFunction_8 rfl ffX3_29 rfl rfl ?_
    refine Z_iload_n (n := 12) dX3_hasFunction_11 rfl rfl ?_
    refine Z_iald (n := 13) dX3_hasFunction_12 rfl rfl rfl (by first | decide | assumption) (by omega) (by omega) (fun r12 s12 => ?_)
    refine Z_iconst (n := 14) dX3_hasFunction_13 rfl (by decide) ?_
    refine Z_icmp_eq (n := 17) (t := 21) dX3_hasFunction_14 rfl (by decide) (fun c14 => ?_) (fun c14 => ?_)
    · refine Z_iconst (n := 22) dX3_hasFunction_21 rfl (by decide) ?_
      refine Z_zret dX3_hasFunction_22 rfl (by first | assumption | omega | decide) (by first | assumption | omega | decide) ?_
      refine ⟨rfl, rfl, ?_⟩; omega
    · refine Z_iconst (n := 18) dX3_hasFunction_17 rfl (by decide) ?_
      refine Z_goto (t := 22) dX3_hasFunction_18 (by decide) ?_
      refine Z_zret dX3_hasFunction_22 rfl (by first | assumption | omega | decide) (by first | assumption | omega | decide) ?_
      refine ⟨rfl, rfl, ?_⟩; omega
def hc (f : Int → Int) : Nat → Int
  | 0 => 0
  | n + 1 => hc f n + (if f (n : Int) = -1 then 0 else 1)
theorem hc_in (f : Int → Int) : ∀ n : Nat, 0 ≤ hc f n ∧ hc f n ≤ n
  | 0 => by simp [hc]
  | n + 1 => by
    have h := hc_in f n
    unfold hc
    split <;> omega
theorem hc_up (f : Int → Int) {i : Int} (h : 0 ≤ i) : hc f (i + 1).toNat = hc f i.toNat + (if f i = -1 then 0 else 1) := by
  rw [show (i + 1).toNat = i.toNat + 1 by omega]
  show hc f i.toNat + (if f (i.toNat : Int) = -1 then 0 else 1) = _
  rw [Int.toNat_of_nonneg h]
theorem hc_zero {f : Int → Int} : ∀ {n : Nat}, (∀ h : Int, 0 ≤ h → h < n → f h = -1) → hc f n = 0
  | 0, _ => rfl
  | n + 1, h => by
    unfold hc
    rw [hc_zero (n := n) (fun k h0 h1 => h k h0 (by omega)), if_pos (h n (by omega) (by omega))]
    rfl
set_option maxRecDepth 20000 in
theorem zX3_heldCount {G : tl_G} {M : zM} {J : zJ}   : ZN G yX3_heldCount mX3_heldCount 0 kAll [vR 0] F1 M J (qI (fun x M' J' => M' = M ∧ J' = J ∧ x = hc (M 12) 12)) := by
  refine ZN_of (L := [_, _, _]) (by decide) rfl rfl (Nat.le_of_ble_eq_true rfl) rfl (fun hav => ?_)
  refine Z_iconst (n := 1) dX3_heldCount_0 rfl (by decide) ?_
  refine Z_istore_n (L' := [_, _, _]) (n := 2) dX3_heldCount_1 rfl (by decide) rfl rfl ?_
  refine Z_iconst (n := 3) dX3_heldCount_2 rfl (by decide) ?_
  refine Z_istore_n (L' := [_, _, _]) (n := 4) dX3_heldCount_3 rfl (by decide) rfl rfl ?_
  have lp4 : ∀ (N4 : Nat) (n i : Int) , ((12 - i).toNat) < N4 → (0 ≤ i) → (i ≤ 12) → (n = hc (M 12) i.toNat) → TZ G mX3_heldCount (tl_rm 0 0 0) 0 0 kAll M J 4 [some (vR 0), some (vI n), some (vI i)] [] F1 M J (ZM G (zPost G kAll F1 M J (qI (fun x M' J' => M' = M ∧ J' = J ∧ x = hc (M 12) 12))) 0 0) := by
    intro N4
    induction N4 with
    | zero => intro n i  hN; omega
    | succ N4 ih4 =>
      intro n i  hN4 i4_0 i4_1 i4_2
      refine Z_iload_n (n := 5) dX3_heldCount_4 rfl rfl ?_
      refine Z_bipush (n := 7) dX3_heldCount_5 rfl (by decide) (by decide) ?_
      refine Z_icmp_ge (n := 10) (t := 29) dX3_heldCount_7 rfl (by decide) (fun c7 => ?_) (fun c7 => ?_)
      · refine Z_iload_n (n := 30) dX3_heldCount_29 rfl rfl ?_
        refine Z_iret dX3_heldCount_30 rfl ?_
        refine ⟨rfl, rfl, ?_⟩; rw [i4_2, show i = 12 by omega]; rfl
      · refine Z_aload_n (n := 11) dX3_heldCount_10 rfl rfl ?_
        refine Z_getA (n := 14) dX3_heldCount_11 rfl ffX3_29 rfl rfl ?_
        refine Z_iload_n (n := 15) dX3_heldCount_14 rfl rfl ?_
        refine Z_iald (n := 16) dX3_heldCount_15 rfl rfl rfl (by first | decide | assumption) (by omega) (by omega) (fun r15 s15 => ?_)
        refine Z_iconst (n := 17) dX3_heldCount_16 rfl (by decide) ?_
        refine Z_icmp_eq (n := 20) (t := 23) dX3_heldCount_17 rfl (by decide) (fun c17 => ?_) (fun c17 => ?_)
        · refine Z_iinc (L' := [_, _, _]) (n := 26) dX3_heldCount_23 rfl rfl (by decide) rfl rfl (by omega) rfl ?_
          refine Z_goto (t := 4) dX3_heldCount_26 (by decide) ?_
          refine Z_loc (L' := [some _, some _, some _]) (lsub_same (lsub_same (lsub_same lsub_nil))) ?_
          exact ih4 _ _  (by omega) (by first | assumption | omega | decide) (by first | assumption | omega | decide) (by first | rfl | (rw [hc_up _ (by assumption)]; subst i4_2; first | rw [if_pos (by assumption)]; omega | rw [if_neg (by assumption)]))
        · have hcin := hc_in (M 12) i.toNat
          refine Z_iinc (L' := [_, _, _]) (n := 23) dX3_heldCount_20 rfl rfl (by decide) rfl rfl (by omega) rfl ?_
          refine Z_iinc (L' := [_, _, _]) (n := 26) dX3_heldCount_23 rfl rfl (by decide) rfl rfl (by omega) rfl ?_
          refine Z_goto (t := 4) dX3_heldCount_26 (by decide) ?_
          refine Z_loc (L' := [some _, some _, some _]) (lsub_same (lsub_same (lsub_same lsub_nil))) ?_
          exact ih4 _ _  (by omega) (by first | assumption | omega | decide) (by first | assumption | omega | decide) (by first | rfl | (rw [hc_up _ (by assumption)]; subst i4_2; first | rw [if_pos (by assumption)]; omega | rw [if_neg (by assumption)]))
  refine Z_loc (L' := [some _, some _, some _]) (lsub_same (lsub_same (lsub_same lsub_nil))) ?_
  exact lp4 _ _ _  (Nat.lt_succ_self _) (by first | assumption | omega | decide) (by first | assumption | omega | decide) (by first | rfl | (rw [hc_up _ (by assumption)]; subst i4_2; first | rw [if_pos (by assumption)]; omega | rw [if_neg (by assumption)]))
theorem uz_oo {α : Type} {M : Nat → Int → α} {a a' : Nat} {j j' : Int} {v : α} (h : a' ≠ a) : uz M a j v a' j' = M a' j' := by simp [uz, h]
def fillz (M : zM) (a : Nat) (n v : Int) : zM := fun a' j => if a' = a ∧ 0 ≤ j ∧ j < n then v else M a' j
theorem fillz_z {M : zM} {a : Nat} {v : Int} : fillz M a 0 v = M := by
  funext a' j
  unfold fillz
  rw [if_neg (by omega)]
theorem fillz_s {M : zM} {a : Nat} {n v : Int} (h : 0 ≤ n) : uz (fillz M a n v) a n v = fillz M a (n + 1) v := by
  funext a' j
  simp only [uz, fillz]
  (repeat' split) <;> first | rfl | omega
theorem fillz_o {M : zM} {a a' : Nat} {n v : Int} (h : a' ≠ a) : fillz M a n v a' = M a' := by
  funext j
  unfold fillz
  rw [if_neg (fun e => h e.1)]
theorem fillz_a {M : zM} {a : Nat} {n v j : Int} (h0 : 0 ≤ j) (h1 : j < n) : fillz M a n v a j = v := by
  unfold fillz
  rw [if_pos ⟨rfl, h0, h1⟩]
set_option maxRecDepth 20000 in
theorem zJ7_fill_53178 {G : tl_G} {M : zM} {J : zJ} {F : zF} {K : Nat → Prop} {a N : Nat} {v lo hi : Int} (hS : F.1 a = (2, N)) (hN : N < 2147483648) (hT : ∀ j, zT a j = (lo, hi)) (h0 : lo ≤ v) (h1 : v ≤ hi) (hK : ¬ K a) : ZN G yJ7_fill_53178 mJ7_fill_53178 0 K [vR a, vI v] F M J (qV (fun M' J' => J' = J ∧ M' = fillz M a (N : Int) v)) := by
  refine ZN_of (L := [_, _, _, _]) (by decide) rfl rfl (Nat.le_of_ble_eq_true rfl) rfl (fun hav => ?_)
  refine Z_iconst (n := 1) dJ7_fill_53178_0 rfl (by decide) ?_
  refine Z_istore_n (L' := [_, _, _, _]) (n := 2) dJ7_fill_53178_1 rfl (by decide) rfl rfl ?_
  refine Z_aload_n (n := 3) dJ7_fill_53178_2 rfl rfl ?_
  refine Z_alen (n := 4) dJ7_fill_53178_3 rfl (by first | exact hS | exact hT _) (by first | decide | assumption) ?_
  refine Z_istore_n (L' := [_, _, _, _]) (n := 5) dJ7_fill_53178_4 rfl (by decide) rfl rfl ?_
  have lp5 : ∀ (N5 : Nat) (i : Int) (M5 : zM) (J5 : zJ), (((N : Int) - i).toNat) < N5 → (J5 = J) → (M5 = fillz M a i v) → (0 ≤ i) → (i ≤ (N : Int)) → TZ G mJ7_fill_53178 (tl_rm 0 0 0) 0 0 K M J 5 [some (vR a), some (vI v), some (vI i), some (vI (N : Int))] [] F M5 J5 (ZM G (zPost G K F M J (qV (fun M' J' => J' = J ∧ M' = fillz M a (N : Int) v))) 0 0) := by
    intro N5
    induction N5 with
    | zero => intro i M5 J5 hN; omega
    | succ N5 ih5 =>
      intro i M5 J5 hN5 i5_0 i5_1 i5_2 i5_3
      refine Z_iload_n (n := 6) dJ7_fill_53178_5 rfl rfl ?_
      refine Z_iload_n (n := 7) dJ7_fill_53178_6 rfl rfl ?_
      refine Z_icmp_ge (n := 10) (t := 20) dJ7_fill_53178_7 rfl (by decide) (fun c7 => ?_) (fun c7 => ?_)
      · refine Z_vret dJ7_fill_53178_20 rfl ?_
        refine ⟨i5_0, ?_⟩; rw [i5_1, show i = (N : Int) by omega]
      · refine Z_aload_n (n := 11) dJ7_fill_53178_10 rfl rfl ?_
        refine Z_iload_n (n := 12) dJ7_fill_53178_11 rfl rfl ?_
        refine Z_iload_n (n := 13) dJ7_fill_53178_12 rfl rfl ?_
        refine Z_iast (n := 14) dJ7_fill_53178_13 rfl (by first | exact hS | exact hT _) (by first | exact hS | exact hT _) (by first | decide | assumption) (by omega) (by omega) (by first | assumption | omega | decide) (by first | assumption | omega | decide) (by assumption) ?_
        refine Z_iinc (L' := [_, _, _, _]) (n := 17) dJ7_fill_53178_14 rfl rfl (by decide) rfl rfl (by omega) rfl ?_
        refine Z_goto (t := 5) dJ7_fill_53178_17 (by decide) ?_
        refine Z_loc (L' := [some _, some _, some _, some _]) (lsub_same (lsub_same (lsub_same (lsub_same lsub_nil)))) ?_
        exact ih5 _ _ _ (by omega) (by first | rfl | assumption) (by first | exact fillz_z.symm | (rw [i5_1]; exact fillz_s (by assumption))) (by first | assumption | omega | decide) (by first | assumption | omega | decide)
  refine Z_loc (L' := [some _, some _, some _, some _]) (lsub_same (lsub_same (lsub_same (lsub_same lsub_nil)))) ?_
  exact lp5 _ _ _ _ (Nat.lt_succ_self _) (by first | rfl | assumption) (by first | exact fillz_z.symm | (rw [i5_1]; exact fillz_s (by assumption))) (by first | assumption | omega | decide) (by first | assumption | omega | decide)
set_option maxRecDepth 20000 in
theorem zX0_gateCount {G : tl_G} {M : zM} {J : zJ} {b : Nat}  (hb : NetAt b) : ZN G yX0_gateCount mX0_gateCount 0 kAll [vR b] F1 M J (qI (fun x M' J' => M' = M ∧ J' = J ∧ x = M b 4)) := by
  refine ZN_of (L := [_]) (by decide) rfl rfl (Nat.le_of_ble_eq_true rfl) rfl (fun hav => ?_)
  refine Z_aload_n (n := 1) dX0_gateCount_0 rfl rfl ?_
  refine Z_getI (n := 4) (ki := 4) dX0_gateCount_1 rfl ffX0_24 rfl (by first | exact nS0 hb | exact nS1 hb | exact nS2 hb | exact nS3 hb | exact nS4 hb | exact nP0 hb | exact nP1 hb | exact nP2 hb | exact nP3 hb | rfl) (by first | exact nTg hb | exact nTo hb | exact nT1 hb | exact nT2 hb | exact nT3 hb | exact nT4 hb | rfl) (fun r1 s1 => ?_)
  refine Z_iret dX0_gateCount_4 rfl ?_
  exact ⟨rfl, rfl, rfl⟩
set_option maxRecDepth 20000 in
theorem zX0_outputCount {G : tl_G} {M : zM} {J : zJ} {b : Nat}  (hb : NetAt b) : ZN G yX0_outputCount mX0_outputCount 0 kAll [vR b] F1 M J (qI (fun x M' J' => M' = M ∧ J' = J ∧ x = M b 5)) := by
  refine ZN_of (L := [_]) (by decide) rfl rfl (Nat.le_of_ble_eq_true rfl) rfl (fun hav => ?_)
  refine Z_aload_n (n := 1) dX0_outputCount_0 rfl rfl ?_
  refine Z_getI (n := 4) (ki := 5) dX0_outputCount_1 rfl ffX0_28 rfl (by first | exact nS0 hb | exact nS1 hb | exact nS2 hb | exact nS3 hb | exact nS4 hb | exact nP0 hb | exact nP1 hb | exact nP2 hb | exact nP3 hb | rfl) (by first | exact nTg hb | exact nTo hb | exact nT1 hb | exact nT2 hb | exact nT3 hb | exact nT4 hb | rfl) (fun r1 s1 => ?_)
  refine Z_iret dX0_outputCount_4 rfl ?_
  exact ⟨rfl, rfl, rfl⟩
set_option maxRecDepth 20000 in
theorem zX0_hasGate {G : tl_G} {M : zM} {J : zJ} {b : Nat} {g : Int} (hb : NetAt b) : ZN G yX0_hasGate mX0_hasGate 0 kAll [vR b, vI g] F1 M J (qI (fun x M' J' => M' = M ∧ J' = J ∧ ((x = 1 ∧ 0 ≤ g ∧ g < M b 4) ∨ (x = 0 ∧ (g < 0 ∨ M b 4 ≤ g))))) := by
  refine ZN_of (L := [_, _]) (by decide) rfl rfl (Nat.le_of_ble_eq_true rfl) rfl (fun hav => ?_)
  refine Z_iload_n (n := 1) dX0_hasGate_0 rfl rfl ?_
  refine Z_if_lt (n := 4) (t := 16) dX0_hasGate_1 rfl (by decide) (fun c1 => ?_) (fun c1 => ?_)
  · refine Z_iconst (n := 17) dX0_hasGate_16 rfl (by decide) ?_
    refine Z_zret dX0_hasGate_17 rfl (by first | assumption | omega | decide) (by first | assumption | omega | decide) ?_
    refine ⟨rfl, rfl, ?_⟩; omega
  · refine Z_iload_n (n := 5) dX0_hasGate_4 rfl rfl ?_
    refine Z_aload_n (n := 6) dX0_hasGate_5 rfl rfl ?_
    refine Z_getI (n := 9) (ki := 4) dX0_hasGate_6 rfl ffX0_24 rfl (by first | exact nS0 hb | exact nS1 hb | exact nS2 hb | exact nS3 hb | exact nS4 hb | exact nP0 hb | exact nP1 hb | exact nP2 hb | exact nP3 hb | rfl) (by first | exact nTg hb | exact nTo hb | exact nT1 hb | exact nT2 hb | exact nT3 hb | exact nT4 hb | rfl) (fun r6 s6 => ?_)
    refine Z_icmp_ge (n := 12) (t := 16) dX0_hasGate_9 rfl (by decide) (fun c9 => ?_) (fun c9 => ?_)
    · refine Z_iconst (n := 17) dX0_hasGate_16 rfl (by decide) ?_
      refine Z_zret dX0_hasGate_17 rfl (by first | assumption | omega | decide) (by first | assumption | omega | decide) ?_
      refine ⟨rfl, rfl, ?_⟩; omega
    · refine Z_iconst (n := 13) dX0_hasGate_12 rfl (by decide) ?_
      refine Z_goto (t := 17) dX0_hasGate_13 (by decide) ?_
      refine Z_zret dX0_hasGate_17 rfl (by first | assumption | omega | decide) (by first | assumption | omega | decide) ?_
      refine ⟨rfl, rfl, ?_⟩; omega
set_option maxRecDepth 20000 in
theorem zX0_hasOutput {G : tl_G} {M : zM} {J : zJ} {b : Nat} {g : Int} (hb : NetAt b) : ZN G yX0_hasOutput mX0_hasOutput 0 kAll [vR b, vI g] F1 M J (qI (fun x M' J' => M' = M ∧ J' = J ∧ ((x = 1 ∧ 0 ≤ g ∧ g < M b 5) ∨ (x = 0 ∧ (g < 0 ∨ M b 5 ≤ g))))) := by
  refine ZN_of (L := [_, _]) (by decide) rfl rfl (Nat.le_of_ble_eq_true rfl) rfl (fun hav => ?_)
  refine Z_iload_n (n := 1) dX0_hasOutput_0 rfl rfl ?_
  refine Z_if_lt (n := 4) (t := 16) dX0_hasOutput_1 rfl (by decide) (fun c1 => ?_) (fun c1 => ?_)
  · refine Z_iconst (n := 17) dX0_hasOutput_16 rfl (by decide) ?_
    refine Z_zret dX0_hasOutput_17 rfl (by first | assumption | omega | decide) (by first | assumption | omega | decide) ?_
    refine ⟨rfl, rfl, ?_⟩; omega
  · refine Z_iload_n (n := 5) dX0_hasOutput_4 rfl rfl ?_
    refine Z_aload_n (n := 6) dX0_hasOutput_5 rfl rfl ?_
    refine Z_getI (n := 9) (ki := 5) dX0_hasOutput_6 rfl ffX0_28 rfl (by first | exact nS0 hb | exact nS1 hb | exact nS2 hb | exact nS3 hb | exact nS4 hb | exact nP0 hb | exact nP1 hb | exact nP2 hb | exact nP3 hb | rfl) (by first | exact nTg hb | exact nTo hb | exact nT1 hb | exact nT2 hb | exact nT3 hb | exact nT4 hb | rfl) (fun r6 s6 => ?_)
    refine Z_icmp_ge (n := 12) (t := 16) dX0_hasOutput_9 rfl (by decide) (fun c9 => ?_) (fun c9 => ?_)
    · refine Z_iconst (n := 17) dX0_hasOutput_16 rfl (by decide) ?_
      refine Z_zret dX0_hasOutput_17 rfl (by first | assumption | omega | decide) (by first | assumption | omega | decide) ?_
      refine ⟨rfl, rfl, ?_⟩; omega
    · refine Z_iconst (n := 13) dX0_hasOutput_12 rfl (by decide) ?_
      refine Z_goto (t := 17) dX0_hasOutput_13 (by decide) ?_
      refine Z_zret dX0_hasOutput_17 rfl (by first | assumption | omega | decide) (by first | assumption | omega | decide) ?_
      refine ⟨rfl, rfl, ?_⟩; omega
set_option maxRecDepth 20000 in
theorem zX0_kindOf {G : tl_G} {M : zM} {J : zJ} {b : Nat} {g : Int} (hb : NetAt b) (h0 : 0 ≤ g) (h1 : g < 40) : ZN G yX0_kindOf mX0_kindOf 0 kAll [vR b, vI g] F1 M J (qI (fun x M' J' => M' = M ∧ J' = J ∧ x = M (b + 1) g)) := by
  refine ZN_of (L := [_, _]) (by decide) rfl rfl (Nat.le_of_ble_eq_true rfl) rfl (fun hav => ?_)
  refine Z_aload_n (n := 1) dX0_kindOf_0 rfl rfl ?_
  refine Z_getA (n := 4) dX0_kindOf_1 rfl ffX0_9 (by first | exact nS0 hb | exact nS1 hb | exact nS2 hb | exact nS3 hb | exact nS4 hb | exact nP0 hb | exact nP1 hb | exact nP2 hb | exact nP3 hb | rfl) (by first | exact nS0 hb | exact nS1 hb | exact nS2 hb | exact nS3 hb | exact nS4 hb | exact nP0 hb | exact nP1 hb | exact nP2 hb | exact nP3 hb | rfl) ?_
  refine Z_iload_n (n := 5) dX0_kindOf_4 rfl rfl ?_
  refine Z_iald (n := 6) dX0_kindOf_5 rfl (by first | exact nS0 hb | exact nS1 hb | exact nS2 hb | exact nS3 hb | exact nS4 hb | exact nP0 hb | exact nP1 hb | exact nP2 hb | exact nP3 hb | rfl) (by first | exact nTg hb | exact nTo hb | exact nT1 hb | exact nT2 hb | exact nT3 hb | exact nT4 hb | rfl) (by first | decide | assumption) (by omega) (by omega) (fun r5 s5 => ?_)
  refine Z_iret dX0_kindOf_6 rfl ?_
  exact ⟨rfl, rfl, rfl⟩
set_option maxRecDepth 20000 in
theorem zX0_operand {G : tl_G} {M : zM} {J : zJ} {b : Nat} {g i : Int} (hb : NetAt b) (h0 : 0 ≤ g) (h1 : g < 40) (h2 : 0 ≤ i) (h3 : i < 3) : ZN G yX0_operand mX0_operand 0 kAll [vR b, vI g, vI i] F1 M J (qI (fun x M' J' => M' = M ∧ J' = J ∧ x = M (b + 2) (3 * g + i))) := by
  refine ZN_of (L := [_, _, _]) (by decide) rfl rfl (Nat.le_of_ble_eq_true rfl) rfl (fun hav => ?_)
  refine Z_aload_n (n := 1) dX0_operand_0 rfl rfl ?_
  refine Z_getA (n := 4) dX0_operand_1 rfl ffX0_15 (by first | exact nS0 hb | exact nS1 hb | exact nS2 hb | exact nS3 hb | exact nS4 hb | exact nP0 hb | exact nP1 hb | exact nP2 hb | exact nP3 hb | rfl) (by first | exact nS0 hb | exact nS1 hb | exact nS2 hb | exact nS3 hb | exact nS4 hb | exact nP0 hb | exact nP1 hb | exact nP2 hb | exact nP3 hb | rfl) ?_
  refine Z_iconst (n := 5) dX0_operand_4 rfl (by decide) ?_
  refine Z_iload_n (n := 6) dX0_operand_5 rfl rfl ?_
  refine Z_imul (n := 7) dX0_operand_6 rfl (by omega) ?_
  refine Z_iload_n (n := 8) dX0_operand_7 rfl rfl ?_
  refine Z_iadd (n := 9) dX0_operand_8 rfl (by omega) ?_
  refine Z_iald (n := 10) dX0_operand_9 rfl (by first | exact nS0 hb | exact nS1 hb | exact nS2 hb | exact nS3 hb | exact nS4 hb | exact nP0 hb | exact nP1 hb | exact nP2 hb | exact nP3 hb | rfl) (by first | exact nTg hb | exact nTo hb | exact nT1 hb | exact nT2 hb | exact nT3 hb | exact nT4 hb | rfl) (by first | decide | assumption) (by omega) (by omega) (fun r9 s9 => ?_)
  refine Z_iret dX0_operand_10 rfl ?_
  exact ⟨rfl, rfl, rfl⟩
set_option maxRecDepth 20000 in
theorem zX0_hasOperands {G : tl_G} {M : zM} {J : zJ} {b : Nat} {k u v w : Int} (hb : NetAt b) (h0 : 0 ≤ k) (h1 : k ≤ 10) : ZN G yX0_hasOperands mX0_hasOperands 1 kAll [vR b, vI k, vI u, vI v, vI w] F1 M J (qI (fun x M' J' => M' = M ∧ J' = J ∧ ((x = 1 ∧ ((opF k < 1 ∨ (0 ≤ u ∧ u < M b 4)) ∧ (opF k < 2 ∨ (0 ≤ v ∧ v < M b 4)) ∧ (opF k < 3 ∨ (0 ≤ w ∧ w < M b 4)))) ∨ (x = 0 ∧ (¬ ((opF k < 1 ∨ (0 ≤ u ∧ u < M b 4)) ∧ (opF k < 2 ∨ (0 ≤ v ∧ v < M b 4)) ∧ (opF k < 3 ∨ (0 ≤ w ∧ w < M b 4)))))))) := by
  refine ZN_of (L := [_, _, _, _, _, _]) (by decide) rfl rfl (Nat.le_of_ble_eq_true rfl) rfl (fun hav => ?_)
  refine Z_getsN (i := 1) (n := 3) dX0_hasOperands_0 rfl (by decide) (by decide) rfl rfl ?_
  refine Z_iload_n (n := 4) dX0_hasOperands_3 rfl rfl ?_
  refine Z_ialdS1 (n := 5) dX0_hasOperands_4 rfl (by omega) (by omega) (fun r4 s4 => ?_)
  refine Z_istore (L' := [_, _, _, _, _, _]) (n := 7) dX0_hasOperands_5 rfl (by decide) rfl rfl ?_
  refine Z_iload (n := 9) dX0_hasOperands_7 rfl rfl ?_
  refine Z_iconst (n := 10) dX0_hasOperands_9 rfl (by decide) ?_
  refine Z_icmp_lt (n := 13) (t := 21) dX0_hasOperands_10 rfl (by decide) (fun c10 => ?_) (fun c10 => ?_)
  · refine Z_iload (n := 23) dX0_hasOperands_21 rfl rfl ?_
    refine Z_iconst (n := 24) dX0_hasOperands_23 rfl (by decide) ?_
    refine Z_icmp_lt (n := 27) (t := 35) dX0_hasOperands_24 rfl (by decide) (fun c24 => ?_) (fun c24 => ?_)
    · refine Z_iload (n := 37) dX0_hasOperands_35 rfl rfl ?_
      refine Z_iconst (n := 38) dX0_hasOperands_37 rfl (by decide) ?_
      refine Z_icmp_lt (n := 41) (t := 50) dX0_hasOperands_38 rfl (by decide) (fun c38 => ?_) (fun c38 => ?_)
      · refine Z_iconst (n := 51) dX0_hasOperands_50 rfl (by decide) ?_
        refine Z_goto (t := 55) dX0_hasOperands_51 (by decide) ?_
        refine Z_zret dX0_hasOperands_55 rfl (by first | assumption | omega | decide) (by first | assumption | omega | decide) ?_
        refine ⟨rfl, rfl, ?_⟩; omega
      · refine Z_aload_n (n := 42) dX0_hasOperands_41 rfl rfl ?_
        refine Z_iload (n := 44) dX0_hasOperands_42 rfl rfl ?_
        refine Z_callVi (n := 47) [_] _ dX0_hasOperands_44 rfl cwX0_34 rfl rfl (by first | exact nS0 hb | exact nS1 hb | exact nS2 hb | exact nS3 hb | exact nS4 hb | exact nP0 hb | exact nP1 hb | exact nP2 hb | exact nP3 hb | rfl) (Nat.le_of_ble_eq_true rfl) (by refine ⟨?_, ?_, ?_, ?_⟩ <;> exact Nat.le_of_ble_eq_true rfl) (fun _ h => h) (zX0_hasGate  (by first | assumption | omega | decide)) ?_
        intro x44 M44 J44 z44 f44 q44
        obtain ⟨e44_1, e44_2, h44⟩ := q44
        replace e44_1 := e44_1.symm; subst e44_1
        replace e44_2 := e44_2.symm; subst e44_2
        refine Z_if_eq (n := 50) (t := 54) dX0_hasOperands_47 rfl (by decide) (fun c47 => ?_) (fun c47 => ?_)
        · refine Z_iconst (n := 55) dX0_hasOperands_54 rfl (by decide) ?_
          refine Z_zret dX0_hasOperands_55 rfl (by first | assumption | omega | decide) (by first | assumption | omega | decide) ?_
          refine ⟨rfl, rfl, ?_⟩; omega
        · refine Z_iconst (n := 51) dX0_hasOperands_50 rfl (by decide) ?_
          refine Z_goto (t := 55) dX0_hasOperands_51 (by decide) ?_
          refine Z_zret dX0_hasOperands_55 rfl (by first | assumption | omega | decide) (by first | assumption | omega | decide) ?_
          refine ⟨rfl, rfl, ?_⟩; omega
    · refine Z_aload_n (n := 28) dX0_hasOperands_27 rfl rfl ?_
      refine Z_iload_n (n := 29) dX0_hasOperands_28 rfl rfl ?_
      refine Z_callVi (n := 32) [_] _ dX0_hasOperands_29 rfl cwX0_34 rfl rfl (by first | exact nS0 hb | exact nS1 hb | exact nS2 hb | exact nS3 hb | exact nS4 hb | exact nP0 hb | exact nP1 hb | exact nP2 hb | exact nP3 hb | rfl) (Nat.le_of_ble_eq_true rfl) (by refine ⟨?_, ?_, ?_, ?_⟩ <;> exact Nat.le_of_ble_eq_true rfl) (fun _ h => h) (zX0_hasGate  (by first | assumption | omega | decide)) ?_
      intro x29 M29 J29 z29 f29 q29
      obtain ⟨e29_1, e29_2, h29⟩ := q29
      replace e29_1 := e29_1.symm; subst e29_1
      replace e29_2 := e29_2.symm; subst e29_2
      refine Z_if_eq (n := 35) (t := 54) dX0_hasOperands_32 rfl (by decide) (fun c32 => ?_) (fun c32 => ?_)
      · refine Z_iconst (n := 55) dX0_hasOperands_54 rfl (by decide) ?_
        refine Z_zret dX0_hasOperands_55 rfl (by first | assumption | omega | decide) (by first | assumption | omega | decide) ?_
        refine ⟨rfl, rfl, ?_⟩; omega
      · refine Z_iload (n := 37) dX0_hasOperands_35 rfl rfl ?_
        refine Z_iconst (n := 38) dX0_hasOperands_37 rfl (by decide) ?_
        refine Z_icmp_lt (n := 41) (t := 50) dX0_hasOperands_38 rfl (by decide) (fun c38 => ?_) (fun c38 => ?_)
        · refine Z_iconst (n := 51) dX0_hasOperands_50 rfl (by decide) ?_
          refine Z_goto (t := 55) dX0_hasOperands_51 (by decide) ?_
          refine Z_zret dX0_hasOperands_55 rfl (by first | assumption | omega | decide) (by first | assumption | omega | decide) ?_
          refine ⟨rfl, rfl, ?_⟩; omega
        · refine Z_aload_n (n := 42) dX0_hasOperands_41 rfl rfl ?_
          refine Z_iload (n := 44) dX0_hasOperands_42 rfl rfl ?_
          refine Z_callVi (n := 47) [_] _ dX0_hasOperands_44 rfl cwX0_34 rfl rfl (by first | exact nS0 hb | exact nS1 hb | exact nS2 hb | exact nS3 hb | exact nS4 hb | exact nP0 hb | exact nP1 hb | exact nP2 hb | exact nP3 hb | rfl) (Nat.le_of_ble_eq_true rfl) (by refine ⟨?_, ?_, ?_, ?_⟩ <;> exact Nat.le_of_ble_eq_true rfl) (fun _ h => h) (zX0_hasGate  (by first | assumption | omega | decide)) ?_
          intro x44 M44 J44 z44 f44 q44
          obtain ⟨e44_1, e44_2, h44⟩ := q44
          replace e44_1 := e44_1.symm; subst e44_1
          replace e44_2 := e44_2.symm; subst e44_2
          refine Z_if_eq (n := 50) (t := 54) dX0_hasOperands_47 rfl (by decide) (fun c47 => ?_) (fun c47 => ?_)
          · refine Z_iconst (n := 55) dX0_hasOperands_54 rfl (by decide) ?_
            refine Z_zret dX0_hasOperands_55 rfl (by first | assumption | omega | decide) (by first | assumption | omega | decide) ?_
            refine ⟨rfl, rfl, ?_⟩; omega
          · refine Z_iconst (n := 51) dX0_hasOperands_50 rfl (by decide) ?_
            refine Z_goto (t := 55) dX0_hasOperands_51 (by decide) ?_
            refine Z_zret dX0_hasOperands_55 rfl (by first | assumption | omega | decide) (by first | assumption | omega | decide) ?_
            refine ⟨rfl, rfl, ?_⟩; omega
  · refine Z_aload_n (n := 14) dX0_hasOperands_13 rfl rfl ?_
    refine Z_iload_n (n := 15) dX0_hasOperands_14 rfl rfl ?_
    refine Z_callVi (n := 18) [_] _ dX0_hasOperands_15 rfl cwX0_34 rfl rfl (by first | exact nS0 hb | exact nS1 hb | exact nS2 hb | exact nS3 hb | exact nS4 hb | exact nP0 hb | exact nP1 hb | exact nP2 hb | exact nP3 hb | rfl) (Nat.le_of_ble_eq_true rfl) (by refine ⟨?_, ?_, ?_, ?_⟩ <;> exact Nat.le_of_ble_eq_true rfl) (fun _ h => h) (zX0_hasGate  (by first | assumption | omega | decide)) ?_
    intro x15 M15 J15 z15 f15 q15
    obtain ⟨e15_1, e15_2, h15⟩ := q15
    replace e15_1 := e15_1.symm; subst e15_1
    replace e15_2 := e15_2.symm; subst e15_2
    refine Z_if_eq (n := 21) (t := 54) dX0_hasOperands_18 rfl (by decide) (fun c18 => ?_) (fun c18 => ?_)
    · refine Z_iconst (n := 55) dX0_hasOperands_54 rfl (by decide) ?_
      refine Z_zret dX0_hasOperands_55 rfl (by first | assumption | omega | decide) (by first | assumption | omega | decide) ?_
      refine ⟨rfl, rfl, ?_⟩; omega
    · refine Z_iload (n := 23) dX0_hasOperands_21 rfl rfl ?_
      refine Z_iconst (n := 24) dX0_hasOperands_23 rfl (by decide) ?_
      refine Z_icmp_lt (n := 27) (t := 35) dX0_hasOperands_24 rfl (by decide) (fun c24 => ?_) (fun c24 => ?_)
      · refine Z_iload (n := 37) dX0_hasOperands_35 rfl rfl ?_
        refine Z_iconst (n := 38) dX0_hasOperands_37 rfl (by decide) ?_
        refine Z_icmp_lt (n := 41) (t := 50) dX0_hasOperands_38 rfl (by decide) (fun c38 => ?_) (fun c38 => ?_)
        · refine Z_iconst (n := 51) dX0_hasOperands_50 rfl (by decide) ?_
          refine Z_goto (t := 55) dX0_hasOperands_51 (by decide) ?_
          refine Z_zret dX0_hasOperands_55 rfl (by first | assumption | omega | decide) (by first | assumption | omega | decide) ?_
          refine ⟨rfl, rfl, ?_⟩; omega
        · refine Z_aload_n (n := 42) dX0_hasOperands_41 rfl rfl ?_
          refine Z_iload (n := 44) dX0_hasOperands_42 rfl rfl ?_
          refine Z_callVi (n := 47) [_] _ dX0_hasOperands_44 rfl cwX0_34 rfl rfl (by first | exact nS0 hb | exact nS1 hb | exact nS2 hb | exact nS3 hb | exact nS4 hb | exact nP0 hb | exact nP1 hb | exact nP2 hb | exact nP3 hb | rfl) (Nat.le_of_ble_eq_true rfl) (by refine ⟨?_, ?_, ?_, ?_⟩ <;> exact Nat.le_of_ble_eq_true rfl) (fun _ h => h) (zX0_hasGate  (by first | assumption | omega | decide)) ?_
          intro x44 M44 J44 z44 f44 q44
          obtain ⟨e44_1, e44_2, h44⟩ := q44
          replace e44_1 := e44_1.symm; subst e44_1
          replace e44_2 := e44_2.symm; subst e44_2
          refine Z_if_eq (n := 50) (t := 54) dX0_hasOperands_47 rfl (by decide) (fun c47 => ?_) (fun c47 => ?_)
          · refine Z_iconst (n := 55) dX0_hasOperands_54 rfl (by decide) ?_
            refine Z_zret dX0_hasOperands_55 rfl (by first | assumption | omega | decide) (by first | assumption | omega | decide) ?_
            refine ⟨rfl, rfl, ?_⟩; omega
          · refine Z_iconst (n := 51) dX0_hasOperands_50 rfl (by decide) ?_
            refine Z_goto (t := 55) dX0_hasOperands_51 (by decide) ?_
            refine Z_zret dX0_hasOperands_55 rfl (by first | assumption | omega | decide) (by first | assumption | omega | decide) ?_
            refine ⟨rfl, rfl, ?_⟩; omega
      · refine Z_aload_n (n := 28) dX0_hasOperands_27 rfl rfl ?_
        refine Z_iload_n (n := 29) dX0_hasOperands_28 rfl rfl ?_
        refine Z_callVi (n := 32) [_] _ dX0_hasOperands_29 rfl cwX0_34 rfl rfl (by first | exact nS0 hb | exact nS1 hb | exact nS2 hb | exact nS3 hb | exact nS4 hb | exact nP0 hb | exact nP1 hb | exact nP2 hb | exact nP3 hb | rfl) (Nat.le_of_ble_eq_true rfl) (by refine ⟨?_, ?_, ?_, ?_⟩ <;> exact Nat.le_of_ble_eq_true rfl) (fun _ h => h) (zX0_hasGate  (by first | assumption | omega | decide)) ?_
        intro x29 M29 J29 z29 f29 q29
        obtain ⟨e29_1, e29_2, h29⟩ := q29
        replace e29_1 := e29_1.symm; subst e29_1
        replace e29_2 := e29_2.symm; subst e29_2
        refine Z_if_eq (n := 35) (t := 54) dX0_hasOperands_32 rfl (by decide) (fun c32 => ?_) (fun c32 => ?_)
        · refine Z_iconst (n := 55) dX0_hasOperands_54 rfl (by decide) ?_
          refine Z_zret dX0_hasOperands_55 rfl (by first | assumption | omega | decide) (by first | assumption | omega | decide) ?_
          refine ⟨rfl, rfl, ?_⟩; omega
        · refine Z_iload (n := 37) dX0_hasOperands_35 rfl rfl ?_
          refine Z_iconst (n := 38) dX0_hasOperands_37 rfl (by decide) ?_
          refine Z_icmp_lt (n := 41) (t := 50) dX0_hasOperands_38 rfl (by decide) (fun c38 => ?_) (fun c38 => ?_)
          · refine Z_iconst (n := 51) dX0_hasOperands_50 rfl (by decide) ?_
            refine Z_goto (t := 55) dX0_hasOperands_51 (by decide) ?_
            refine Z_zret dX0_hasOperands_55 rfl (by first | assumption | omega | decide) (by first | assumption | omega | decide) ?_
            refine ⟨rfl, rfl, ?_⟩; omega
          · refine Z_aload_n (n := 42) dX0_hasOperands_41 rfl rfl ?_
            refine Z_iload (n := 44) dX0_hasOperands_42 rfl rfl ?_
            refine Z_callVi (n := 47) [_] _ dX0_hasOperands_44 rfl cwX0_34 rfl rfl (by first | exact nS0 hb | exact nS1 hb | exact nS2 hb | exact nS3 hb | exact nS4 hb | exact nP0 hb | exact nP1 hb | exact nP2 hb | exact nP3 hb | rfl) (Nat.le_of_ble_eq_true rfl) (by refine ⟨?_, ?_, ?_, ?_⟩ <;> exact Nat.le_of_ble_eq_true rfl) (fun _ h => h) (zX0_hasGate  (by first | assumption | omega | decide)) ?_
            intro x44 M44 J44 z44 f44 q44
            obtain ⟨e44_1, e44_2, h44⟩ := q44
            replace e44_1 := e44_1.symm; subst e44_1
            replace e44_2 := e44_2.symm; subst e44_2
            refine Z_if_eq (n := 50) (t := 54) dX0_hasOperands_47 rfl (by decide) (fun c47 => ?_) (fun c47 => ?_)
            · refine Z_iconst (n := 55) dX0_hasOperands_54 rfl (by decide) ?_
              refine Z_zret dX0_hasOperands_55 rfl (by first | assumption | omega | decide) (by first | assumption | omega | decide) ?_
              refine ⟨rfl, rfl, ?_⟩; omega
            · refine Z_iconst (n := 51) dX0_hasOperands_50 rfl (by decide) ?_
              refine Z_goto (t := 55) dX0_hasOperands_51 (by decide) ?_
              refine Z_zret dX0_hasOperands_55 rfl (by first | assumption | omega | decide) (by first | assumption | omega | decide) ?_
              refine ⟨rfl, rfl, ?_⟩; omega
set_option maxRecDepth 20000 in
theorem zX0_addGate {G : tl_G} {M : zM} {J : zJ} {b : Nat} {K : Nat → Prop} {k u v w : Int} (hb : NetAt b) (h0 : 0 ≤ k) (h1 : k ≤ 10) (hK0 : ¬ K b) (hK1 : ¬ K (b + 1)) (hK2 : ¬ K (b + 2)) : ZN G yX0_addGate mX0_addGate 0 K [vR b, vI k, vI u, vI v, vI w] F1 M J (qI (fun x M' J' => J' = J ∧ ((x = -4 ∧ M' = M ∧ 40 ≤ M b 4) ∨ (x = M b 4 ∧ M b 4 < 40 ∧ M' = uz (uz (uz (uz (uz M (b + 1) (M b 4) k) (b + 2) (3 * M b 4) u) (b + 2) (3 * M b 4 + 1) v) (b + 2) (3 * M b 4 + 2) w) b 4 (M b 4 + 1))))) := by
  refine ZN_of (L := [_, _, _, _, _]) (by decide) rfl rfl (Nat.le_of_ble_eq_true rfl) rfl (fun hav => ?_)
  refine Z_aload_n (n := 1) dX0_addGate_0 rfl rfl ?_
  refine Z_getI (n := 4) (ki := 4) dX0_addGate_1 rfl ffX0_24 rfl (by first | exact nS0 hb | exact nS1 hb | exact nS2 hb | exact nS3 hb | exact nS4 hb | exact nP0 hb | exact nP1 hb | exact nP2 hb | exact nP3 hb | rfl) (by first | exact nTg hb | exact nTo hb | exact nT1 hb | exact nT2 hb | exact nT3 hb | exact nT4 hb | rfl) (fun r1 s1 => ?_)
  try simp only [uz_oo (show b ≠ b + 1 by omega), uz_oo (show b ≠ b + 2 by omega), uz_s] at r1 s1 ⊢
  refine Z_bipush (n := 6) dX0_addGate_4 rfl (by decide) (by decide) ?_
  refine Z_icmp_lt (n := 9) (t := 12) dX0_addGate_6 rfl (by decide) (fun c6 => ?_) (fun c6 => ?_)
  · refine Z_aload_n (n := 13) dX0_addGate_12 rfl rfl ?_
    refine Z_getA (n := 16) dX0_addGate_13 rfl ffX0_9 (by first | exact nS0 hb | exact nS1 hb | exact nS2 hb | exact nS3 hb | exact nS4 hb | exact nP0 hb | exact nP1 hb | exact nP2 hb | exact nP3 hb | rfl) (by first | exact nS0 hb | exact nS1 hb | exact nS2 hb | exact nS3 hb | exact nS4 hb | exact nP0 hb | exact nP1 hb | exact nP2 hb | exact nP3 hb | rfl) ?_
    refine Z_aload_n (n := 17) dX0_addGate_16 rfl rfl ?_
    refine Z_getI (n := 20) (ki := 4) dX0_addGate_17 rfl ffX0_24 rfl (by first | exact nS0 hb | exact nS1 hb | exact nS2 hb | exact nS3 hb | exact nS4 hb | exact nP0 hb | exact nP1 hb | exact nP2 hb | exact nP3 hb | rfl) (by first | exact nTg hb | exact nTo hb | exact nT1 hb | exact nT2 hb | exact nT3 hb | exact nT4 hb | rfl) (fun r17 s17 => ?_)
    try simp only [uz_oo (show b ≠ b + 1 by omega), uz_oo (show b ≠ b + 2 by omega), uz_s] at r17 s17 ⊢
    refine Z_iload_n (n := 21) dX0_addGate_20 rfl rfl ?_
    refine Z_iast (n := 22) dX0_addGate_21 rfl (by first | exact nS0 hb | exact nS1 hb | exact nS2 hb | exact nS3 hb | exact nS4 hb | exact nP0 hb | exact nP1 hb | exact nP2 hb | exact nP3 hb | rfl) (by first | exact nTg hb | exact nTo hb | exact nT1 hb | exact nT2 hb | exact nT3 hb | exact nT4 hb | rfl) (by first | decide | assumption) (by omega) (by omega) (by omega) (by omega) (by assumption) ?_
    refine Z_aload_n (n := 23) dX0_addGate_22 rfl rfl ?_
    refine Z_getA (n := 26) dX0_addGate_23 rfl ffX0_15 (by first | exact nS0 hb | exact nS1 hb | exact nS2 hb | exact nS3 hb | exact nS4 hb | exact nP0 hb | exact nP1 hb | exact nP2 hb | exact nP3 hb | rfl) (by first | exact nS0 hb | exact nS1 hb | exact nS2 hb | exact nS3 hb | exact nS4 hb | exact nP0 hb | exact nP1 hb | exact nP2 hb | exact nP3 hb | rfl) ?_
    refine Z_iconst (n := 27) dX0_addGate_26 rfl (by decide) ?_
    refine Z_aload_n (n := 28) dX0_addGate_27 rfl rfl ?_
    refine Z_getI (n := 31) (ki := 4) dX0_addGate_28 rfl ffX0_24 rfl (by first | exact nS0 hb | exact nS1 hb | exact nS2 hb | exact nS3 hb | exact nS4 hb | exact nP0 hb | exact nP1 hb | exact nP2 hb | exact nP3 hb | rfl) (by first | exact nTg hb | exact nTo hb | exact nT1 hb | exact nT2 hb | exact nT3 hb | exact nT4 hb | rfl) (fun r28 s28 => ?_)
    try simp only [uz_oo (show b ≠ b + 1 by omega), uz_oo (show b ≠ b + 2 by omega), uz_s] at r28 s28 ⊢
    refine Z_imul (n := 32) dX0_addGate_31 rfl (by omega) ?_
    refine Z_iload_n (n := 33) dX0_addGate_32 rfl rfl ?_
    refine Z_iast (n := 34) dX0_addGate_33 rfl (by first | exact nS0 hb | exact nS1 hb | exact nS2 hb | exact nS3 hb | exact nS4 hb | exact nP0 hb | exact nP1 hb | exact nP2 hb | exact nP3 hb | rfl) (by first | exact nTg hb | exact nTo hb | exact nT1 hb | exact nT2 hb | exact nT3 hb | exact nT4 hb | rfl) (by first | decide | assumption) (by omega) (by omega) (by first | exact (show zI u from hav (vI u) (by simp)).1 | exact (show zI u from hav (vI u) (by simp)).2) (by first | exact (show zI u from hav (vI u) (by simp)).1 | exact (show zI u from hav (vI u) (by simp)).2) (by assumption) ?_
    refine Z_aload_n (n := 35) dX0_addGate_34 rfl rfl ?_
    refine Z_getA (n := 38) dX0_addGate_35 rfl ffX0_15 (by first | exact nS0 hb | exact nS1 hb | exact nS2 hb | exact nS3 hb | exact nS4 hb | exact nP0 hb | exact nP1 hb | exact nP2 hb | exact nP3 hb | rfl) (by first | exact nS0 hb | exact nS1 hb | exact nS2 hb | exact nS3 hb | exact nS4 hb | exact nP0 hb | exact nP1 hb | exact nP2 hb | exact nP3 hb | rfl) ?_
    refine Z_iconst (n := 39) dX0_addGate_38 rfl (by decide) ?_
    refine Z_aload_n (n := 40) dX0_addGate_39 rfl rfl ?_
    refine Z_getI (n := 43) (ki := 4) dX0_addGate_40 rfl ffX0_24 rfl (by first | exact nS0 hb | exact nS1 hb | exact nS2 hb | exact nS3 hb | exact nS4 hb | exact nP0 hb | exact nP1 hb | exact nP2 hb | exact nP3 hb | rfl) (by first | exact nTg hb | exact nTo hb | exact nT1 hb | exact nT2 hb | exact nT3 hb | exact nT4 hb | rfl) (fun r40 s40 => ?_)
    try simp only [uz_oo (show b ≠ b + 1 by omega), uz_oo (show b ≠ b + 2 by omega), uz_s] at r40 s40 ⊢
    refine Z_imul (n := 44) dX0_addGate_43 rfl (by omega) ?_
    refine Z_iconst (n := 45) dX0_addGate_44 rfl (by decide) ?_
    refine Z_iadd (n := 46) dX0_addGate_45 rfl (by omega) ?_
    refine Z_iload_n (n := 47) dX0_addGate_46 rfl rfl ?_
    refine Z_iast (n := 48) dX0_addGate_47 rfl (by first | exact nS0 hb | exact nS1 hb | exact nS2 hb | exact nS3 hb | exact nS4 hb | exact nP0 hb | exact nP1 hb | exact nP2 hb | exact nP3 hb | rfl) (by first | exact nTg hb | exact nTo hb | exact nT1 hb | exact nT2 hb | exact nT3 hb | exact nT4 hb | rfl) (by first | decide | assumption) (by omega) (by omega) (by first | exact (show zI v from hav (vI v) (by simp)).1 | exact (show zI v from hav (vI v) (by simp)).2) (by first | exact (show zI v from hav (vI v) (by simp)).1 | exact (show zI v from hav (vI v) (by simp)).2) (by assumption) ?_
    refine Z_aload_n (n := 49) dX0_addGate_48 rfl rfl ?_
    refine Z_getA (n := 52) dX0_addGate_49 rfl ffX0_15 (by first | exact nS0 hb | exact nS1 hb | exact nS2 hb | exact nS3 hb | exact nS4 hb | exact nP0 hb | exact nP1 hb | exact nP2 hb | exact nP3 hb | rfl) (by first | exact nS0 hb | exact nS1 hb | exact nS2 hb | exact nS3 hb | exact nS4 hb | exact nP0 hb | exact nP1 hb | exact nP2 hb | exact nP3 hb | rfl) ?_
    refine Z_iconst (n := 53) dX0_addGate_52 rfl (by decide) ?_
    refine Z_aload_n (n := 54) dX0_addGate_53 rfl rfl ?_
    refine Z_getI (n := 57) (ki := 4) dX0_addGate_54 rfl ffX0_24 rfl (by first | exact nS0 hb | exact nS1 hb | exact nS2 hb | exact nS3 hb | exact nS4 hb | exact nP0 hb | exact nP1 hb | exact nP2 hb | exact nP3 hb | rfl) (by first | exact nTg hb | exact nTo hb | exact nT1 hb | exact nT2 hb | exact nT3 hb | exact nT4 hb | rfl) (fun r54 s54 => ?_)
    try simp only [uz_oo (show b ≠ b + 1 by omega), uz_oo (show b ≠ b + 2 by omega), uz_s] at r54 s54 ⊢
    refine Z_imul (n := 58) dX0_addGate_57 rfl (by omega) ?_
    refine Z_iconst (n := 59) dX0_addGate_58 rfl (by decide) ?_
    refine Z_iadd (n := 60) dX0_addGate_59 rfl (by omega) ?_
    refine Z_iload (n := 62) dX0_addGate_60 rfl rfl ?_
    refine Z_iast (n := 63) dX0_addGate_62 rfl (by first | exact nS0 hb | exact nS1 hb | exact nS2 hb | exact nS3 hb | exact nS4 hb | exact nP0 hb | exact nP1 hb | exact nP2 hb | exact nP3 hb | rfl) (by first | exact nTg hb | exact nTo hb | exact nT1 hb | exact nT2 hb | exact nT3 hb | exact nT4 hb | rfl) (by first | decide | assumption) (by omega) (by omega) (by first | exact (show zI w from hav (vI w) (by simp)).1 | exact (show zI w from hav (vI w) (by simp)).2) (by first | exact (show zI w from hav (vI w) (by simp)).1 | exact (show zI w from hav (vI w) (by simp)).2) (by assumption) ?_
    refine Z_aload_n (n := 64) dX0_addGate_63 rfl rfl ?_
    refine Z_dup (n := 65) dX0_addGate_64 rfl rfl ?_
    refine Z_getI (n := 68) (ki := 4) dX0_addGate_65 rfl ffX0_24 rfl (by first | exact nS0 hb | exact nS1 hb | exact nS2 hb | exact nS3 hb | exact nS4 hb | exact nP0 hb | exact nP1 hb | exact nP2 hb | exact nP3 hb | rfl) (by first | exact nTg hb | exact nTo hb | exact nT1 hb | exact nT2 hb | exact nT3 hb | exact nT4 hb | rfl) (fun r65 s65 => ?_)
    try simp only [uz_oo (show b ≠ b + 1 by omega), uz_oo (show b ≠ b + 2 by omega), uz_s] at r65 s65 ⊢
    refine Z_iconst (n := 69) dX0_addGate_68 rfl (by decide) ?_
    refine Z_iadd (n := 70) dX0_addGate_69 rfl (by omega) ?_
    refine Z_putI (n := 73) (ki := 4) dX0_addGate_70 rfl ffX0_24 rfl (by decide) (by first | exact nS0 hb | exact nS1 hb | exact nS2 hb | exact nS3 hb | exact nS4 hb | exact nP0 hb | exact nP1 hb | exact nP2 hb | exact nP3 hb | rfl) (by first | exact nTg hb | exact nTo hb | exact nT1 hb | exact nT2 hb | exact nT3 hb | exact nT4 hb | rfl) (by first | assumption | omega | decide) (by first | assumption | omega | decide) (by assumption) ?_
    refine Z_aload_n (n := 74) dX0_addGate_73 rfl rfl ?_
    refine Z_getI (n := 77) (ki := 4) dX0_addGate_74 rfl ffX0_24 rfl (by first | exact nS0 hb | exact nS1 hb | exact nS2 hb | exact nS3 hb | exact nS4 hb | exact nP0 hb | exact nP1 hb | exact nP2 hb | exact nP3 hb | rfl) (by first | exact nTg hb | exact nTo hb | exact nT1 hb | exact nT2 hb | exact nT3 hb | exact nT4 hb | rfl) (fun r74 s74 => ?_)
    try simp only [uz_oo (show b ≠ b + 1 by omega), uz_oo (show b ≠ b + 2 by omega), uz_s] at r74 s74 ⊢
    refine Z_iconst (n := 78) dX0_addGate_77 rfl (by decide) ?_
    refine Z_isub (n := 79) dX0_addGate_78 rfl (by omega) ?_
    refine Z_iret dX0_addGate_79 rfl ?_
    exact ⟨rfl, Or.inr ⟨by omega, by omega, rfl⟩⟩
  · refine Z_bipush (n := 11) dX0_addGate_9 rfl (by decide) (by decide) ?_
    refine Z_iret dX0_addGate_11 rfl ?_
    exact ⟨rfl, Or.inl ⟨rfl, rfl, by omega⟩⟩
set_option maxRecDepth 20000 in
theorem zX0_addOutput {G : tl_G} {M : zM} {J : zJ} {b : Nat} {K : Nat → Prop} {g : Int} (hb : NetAt b) (h0 : 0 ≤ g) (h1 : g ≤ 39) (hK0 : ¬ K b) (hK1 : ¬ K (b + 3)) : ZN G yX0_addOutput mX0_addOutput 0 K [vR b, vI g] F1 M J (qI (fun x M' J' => J' = J ∧ ((x = -4 ∧ M' = M ∧ 4 ≤ M b 5) ∨ (x = M b 5 ∧ M b 5 < 4 ∧ M' = uz (uz M (b + 3) (M b 5) g) b 5 (M b 5 + 1))))) := by
  refine ZN_of (L := [_, _]) (by decide) rfl rfl (Nat.le_of_ble_eq_true rfl) rfl (fun hav => ?_)
  refine Z_aload_n (n := 1) dX0_addOutput_0 rfl rfl ?_
  refine Z_getI (n := 4) (ki := 5) dX0_addOutput_1 rfl ffX0_28 rfl (by first | exact nS0 hb | exact nS1 hb | exact nS2 hb | exact nS3 hb | exact nS4 hb | exact nP0 hb | exact nP1 hb | exact nP2 hb | exact nP3 hb | rfl) (by first | exact nTg hb | exact nTo hb | exact nT1 hb | exact nT2 hb | exact nT3 hb | exact nT4 hb | rfl) (fun r1 s1 => ?_)
  try simp only [uz_oo (show b ≠ b + 3 by omega), uz_s] at r1 s1 ⊢
  refine Z_iconst (n := 5) dX0_addOutput_4 rfl (by decide) ?_
  refine Z_icmp_lt (n := 8) (t := 11) dX0_addOutput_5 rfl (by decide) (fun c5 => ?_) (fun c5 => ?_)
  · refine Z_aload_n (n := 12) dX0_addOutput_11 rfl rfl ?_
    refine Z_getA (n := 15) dX0_addOutput_12 rfl ffX0_18 (by first | exact nS0 hb | exact nS1 hb | exact nS2 hb | exact nS3 hb | exact nS4 hb | exact nP0 hb | exact nP1 hb | exact nP2 hb | exact nP3 hb | rfl) (by first | exact nS0 hb | exact nS1 hb | exact nS2 hb | exact nS3 hb | exact nS4 hb | exact nP0 hb | exact nP1 hb | exact nP2 hb | exact nP3 hb | rfl) ?_
    refine Z_aload_n (n := 16) dX0_addOutput_15 rfl rfl ?_
    refine Z_getI (n := 19) (ki := 5) dX0_addOutput_16 rfl ffX0_28 rfl (by first | exact nS0 hb | exact nS1 hb | exact nS2 hb | exact nS3 hb | exact nS4 hb | exact nP0 hb | exact nP1 hb | exact nP2 hb | exact nP3 hb | rfl) (by first | exact nTg hb | exact nTo hb | exact nT1 hb | exact nT2 hb | exact nT3 hb | exact nT4 hb | rfl) (fun r16 s16 => ?_)
    try simp only [uz_oo (show b ≠ b + 3 by omega), uz_s] at r16 s16 ⊢
    refine Z_iload_n (n := 20) dX0_addOutput_19 rfl rfl ?_
    refine Z_iast (n := 21) dX0_addOutput_20 rfl (by first | exact nS0 hb | exact nS1 hb | exact nS2 hb | exact nS3 hb | exact nS4 hb | exact nP0 hb | exact nP1 hb | exact nP2 hb | exact nP3 hb | rfl) (by first | exact nTg hb | exact nTo hb | exact nT1 hb | exact nT2 hb | exact nT3 hb | exact nT4 hb | rfl) (by first | decide | assumption) (by omega) (by omega) (by first | assumption | omega | decide) (by first | assumption | omega | decide) (by assumption) ?_
    refine Z_aload_n (n := 22) dX0_addOutput_21 rfl rfl ?_
    refine Z_dup (n := 23) dX0_addOutput_22 rfl rfl ?_
    refine Z_getI (n := 26) (ki := 5) dX0_addOutput_23 rfl ffX0_28 rfl (by first | exact nS0 hb | exact nS1 hb | exact nS2 hb | exact nS3 hb | exact nS4 hb | exact nP0 hb | exact nP1 hb | exact nP2 hb | exact nP3 hb | rfl) (by first | exact nTg hb | exact nTo hb | exact nT1 hb | exact nT2 hb | exact nT3 hb | exact nT4 hb | rfl) (fun r23 s23 => ?_)
    try simp only [uz_oo (show b ≠ b + 3 by omega), uz_s] at r23 s23 ⊢
    refine Z_iconst (n := 27) dX0_addOutput_26 rfl (by decide) ?_
    refine Z_iadd (n := 28) dX0_addOutput_27 rfl (by omega) ?_
    refine Z_putI (n := 31) (ki := 5) dX0_addOutput_28 rfl ffX0_28 rfl (by decide) (by first | exact nS0 hb | exact nS1 hb | exact nS2 hb | exact nS3 hb | exact nS4 hb | exact nP0 hb | exact nP1 hb | exact nP2 hb | exact nP3 hb | rfl) (by first | exact nTg hb | exact nTo hb | exact nT1 hb | exact nT2 hb | exact nT3 hb | exact nT4 hb | rfl) (by first | assumption | omega | decide) (by first | assumption | omega | decide) (by assumption) ?_
    refine Z_aload_n (n := 32) dX0_addOutput_31 rfl rfl ?_
    refine Z_getI (n := 35) (ki := 5) dX0_addOutput_32 rfl ffX0_28 rfl (by first | exact nS0 hb | exact nS1 hb | exact nS2 hb | exact nS3 hb | exact nS4 hb | exact nP0 hb | exact nP1 hb | exact nP2 hb | exact nP3 hb | rfl) (by first | exact nTg hb | exact nTo hb | exact nT1 hb | exact nT2 hb | exact nT3 hb | exact nT4 hb | rfl) (fun r32 s32 => ?_)
    try simp only [uz_oo (show b ≠ b + 3 by omega), uz_s] at r32 s32 ⊢
    refine Z_iconst (n := 36) dX0_addOutput_35 rfl (by decide) ?_
    refine Z_isub (n := 37) dX0_addOutput_36 rfl (by omega) ?_
    refine Z_iret dX0_addOutput_37 rfl ?_
    exact ⟨rfl, Or.inr ⟨by omega, by omega, rfl⟩⟩
  · refine Z_bipush (n := 10) dX0_addOutput_8 rfl (by decide) (by decide) ?_
    refine Z_iret dX0_addOutput_10 rfl ?_
    exact ⟨rfl, Or.inl ⟨rfl, rfl, by omega⟩⟩
set_option maxRecDepth 20000 in
theorem zX0_empty {G : tl_G} {M : zM} {J : zJ} {b : Nat} {K : Nat → Prop} (hb : NetAt b) (hK0 : ¬ K b) : ZN G yX0_empty mX0_empty 0 K [vR b] F1 M J (qI (fun x M' J' => J' = J ∧ x = M b 4 ∧ M' = uz (uz M b 4 0) b 5 0)) := by
  refine ZN_of (L := [_, _]) (by decide) rfl rfl (Nat.le_of_ble_eq_true rfl) rfl (fun hav => ?_)
  refine Z_aload_n (n := 1) dX0_empty_0 rfl rfl ?_
  refine Z_getI (n := 4) (ki := 4) dX0_empty_1 rfl ffX0_24 rfl (by first | exact nS0 hb | exact nS1 hb | exact nS2 hb | exact nS3 hb | exact nS4 hb | exact nP0 hb | exact nP1 hb | exact nP2 hb | exact nP3 hb | rfl) (by first | exact nTg hb | exact nTo hb | exact nT1 hb | exact nT2 hb | exact nT3 hb | exact nT4 hb | rfl) (fun r1 s1 => ?_)
  refine Z_istore_n (L' := [_, _]) (n := 5) dX0_empty_4 rfl (by decide) rfl rfl ?_
  refine Z_aload_n (n := 6) dX0_empty_5 rfl rfl ?_
  refine Z_iconst (n := 7) dX0_empty_6 rfl (by decide) ?_
  refine Z_putI (n := 10) (ki := 4) dX0_empty_7 rfl ffX0_24 rfl (by decide) (by first | exact nS0 hb | exact nS1 hb | exact nS2 hb | exact nS3 hb | exact nS4 hb | exact nP0 hb | exact nP1 hb | exact nP2 hb | exact nP3 hb | rfl) (by first | exact nTg hb | exact nTo hb | exact nT1 hb | exact nT2 hb | exact nT3 hb | exact nT4 hb | rfl) (by first | assumption | omega | decide) (by first | assumption | omega | decide) (by assumption) ?_
  refine Z_aload_n (n := 11) dX0_empty_10 rfl rfl ?_
  refine Z_iconst (n := 12) dX0_empty_11 rfl (by decide) ?_
  refine Z_putI (n := 15) (ki := 5) dX0_empty_12 rfl ffX0_28 rfl (by decide) (by first | exact nS0 hb | exact nS1 hb | exact nS2 hb | exact nS3 hb | exact nS4 hb | exact nP0 hb | exact nP1 hb | exact nP2 hb | exact nP3 hb | rfl) (by first | exact nTg hb | exact nTo hb | exact nT1 hb | exact nT2 hb | exact nT3 hb | exact nT4 hb | rfl) (by first | assumption | omega | decide) (by first | assumption | omega | decide) (by assumption) ?_
  refine Z_iload_n (n := 16) dX0_empty_15 rfl rfl ?_
  refine Z_iret dX0_empty_16 rfl ?_
  exact ⟨rfl, rfl, rfl⟩
end
section
/-! ===== Order and Pool ===== -/
set_option maxRecDepth 20000 in
theorem zX1_variableAt {G : tl_G} {M : zM} {J : zJ} {p : Int} (h0 : 0 ≤ p) (h1 : p < 8) : ZN G yX1_variableAt mX1_variableAt 0 kAll [vR 2, vI p] F1 M J (qI (fun x M' J' => M' = M ∧ J' = J ∧ x = M 3 p)) := by
  refine ZN_of (L := [_, _]) (by decide) rfl rfl (Nat.le_of_ble_eq_true rfl) rfl (fun hav => ?_)
  refine Z_aload_n (n := 1) dX1_variableAt_0 rfl rfl ?_
  refine Z_getA (n := 4) dX1_variableAt_1 rfl ffX1_9 rfl rfl ?_
  refine Z_iload_n (n := 5) dX1_variableAt_4 rfl rfl ?_
  refine Z_iald (n := 6) dX1_variableAt_5 rfl rfl rfl (by first | decide | assumption) (by omega) (by omega) (fun r5 s5 => ?_)
  refine Z_iret dX1_variableAt_6 rfl ?_
  exact ⟨rfl, rfl, rfl⟩
set_option maxRecDepth 20000 in
theorem zX1_placeOf {G : tl_G} {M : zM} {J : zJ} {v : Int} (h0 : 0 ≤ v) (h1 : v < 8) : ZN G yX1_placeOf mX1_placeOf 0 kAll [vR 2, vI v] F1 M J (qI (fun x M' J' => M' = M ∧ J' = J ∧ x = M 4 v)) := by
  refine ZN_of (L := [_, _]) (by decide) rfl rfl (Nat.le_of_ble_eq_true rfl) rfl (fun hav => ?_)
  refine Z_aload_n (n := 1) dX1_placeOf_0 rfl rfl ?_
  refine Z_getA (n := 4) dX1_placeOf_1 rfl ffX1_15 rfl rfl ?_
  refine Z_iload_n (n := 5) dX1_placeOf_4 rfl rfl ?_
  refine Z_iald (n := 6) dX1_placeOf_5 rfl rfl rfl (by first | decide | assumption) (by omega) (by omega) (fun r5 s5 => ?_)
  refine Z_iret dX1_placeOf_6 rfl ?_
  exact ⟨rfl, rfl, rfl⟩
set_option maxRecDepth 20000 in
theorem zX1_put {G : tl_G} {M : zM} {J : zJ} {K : Nat → Prop} {v p : Int} (h0 : 0 ≤ v) (h1 : v < 8) (h2 : 0 ≤ p) (h3 : p < 8) (hK3 : ¬ K 3) (hK4 : ¬ K 4) : ZN G yX1_put mX1_put 0 K [vR 2, vI v, vI p] F1 M J (qV (fun M' J' => J' = J ∧ M' = uz (uz M 3 p v) 4 v p)) := by
  refine ZN_of (L := [_, _, _]) (by decide) rfl rfl (Nat.le_of_ble_eq_true rfl) rfl (fun hav => ?_)
  refine Z_aload_n (n := 1) dX1_put_0 rfl rfl ?_
  refine Z_getA (n := 4) dX1_put_1 rfl ffX1_9 rfl rfl ?_
  refine Z_iload_n (n := 5) dX1_put_4 rfl rfl ?_
  refine Z_iload_n (n := 6) dX1_put_5 rfl rfl ?_
  refine Z_iast (n := 7) dX1_put_6 rfl rfl rfl (by first | decide | assumption) (by omega) (by omega) (by first | assumption | omega | decide) (by first | assumption | omega | decide) (by assumption) ?_
  refine Z_aload_n (n := 8) dX1_put_7 rfl rfl ?_
  refine Z_getA (n := 11) dX1_put_8 rfl ffX1_15 rfl rfl ?_
  refine Z_iload_n (n := 12) dX1_put_11 rfl rfl ?_
  refine Z_iload_n (n := 13) dX1_put_12 rfl rfl ?_
  refine Z_iast (n := 14) dX1_put_13 rfl rfl rfl (by first | decide | assumption) (by omega) (by omega) (by first | assumption | omega | decide) (by first | assumption | omega | decide) (by assumption) ?_
  refine Z_vret dX1_put_14 rfl ?_
  exact ⟨rfl, rfl⟩
set_option maxRecDepth 20000 in
theorem zX1_forget {G : tl_G} {M : zM} {J : zJ} {K : Nat → Prop} (hK2 : ¬ K 2) (hK4 : ¬ K 4) : ZN G yX1_forget mX1_forget 1 K [vR 2] F1 M J (qV (fun M' J' => J' = J ∧ M' = uz (fillz M 4 8 (-1)) 2 2 0)) := by
  refine ZN_of (L := [_]) (by decide) rfl rfl (Nat.le_of_ble_eq_true rfl) rfl (fun hav => ?_)
  refine Z_aload_n (n := 1) dX1_forget_0 rfl rfl ?_
  refine Z_getA (n := 4) dX1_forget_1 rfl ffX1_15 rfl rfl ?_
  refine Z_iconst (n := 5) dX1_forget_4 rfl (by decide) ?_
  refine Z_callSv (n := 8) [_, _] _ dX1_forget_5 rfl cwX1_22 rfl rfl (Nat.le_of_ble_eq_true rfl) (by refine ⟨?_, ?_, ?_, ?_⟩ <;> exact Nat.le_of_ble_eq_true rfl) (fun _ h => h) (zJ7_fill_53178  (by rfl) (by decide) (by exact fun _ => rfl) (by decide) (by decide) (by assumption)) ?_
  intro M5 J5 f5 q5
  obtain ⟨e5_1, e5_2⟩ := q5
  replace e5_1 := e5_1.symm; subst e5_1
  replace e5_2 := e5_2.symm; subst e5_2
  refine Z_aload_n (n := 9) dX1_forget_8 rfl rfl ?_
  refine Z_iconst (n := 10) dX1_forget_9 rfl (by decide) ?_
  refine Z_putI (n := 13) (ki := 2) dX1_forget_10 rfl ffX1_18 rfl (by decide) rfl rfl (by first | assumption | omega | decide) (by first | assumption | omega | decide) (by assumption) ?_
  refine Z_vret dX1_forget_13 rfl ?_
  exact ⟨rfl, rfl⟩
set_option maxRecDepth 20000 in
theorem zX1_meet {G : tl_G} {M : zM} {J : zJ} {K : Nat → Prop} {v : Int} (h0 : 0 ≤ v) (h1 : v < 8) (hK2 : ¬ K 2) (hK3 : ¬ K 3) (hK4 : ¬ K 4) : ZN G yX1_meet mX1_meet 1 K [vR 2, vI v] F1 M J (qV (fun M' J' => J' = J ∧ ((M 4 v = -1 ∧ M 2 2 < 8 ∧ M' = uz (uz (uz M 3 (M 2 2) v) 4 v (M 2 2)) 2 2 (M 2 2 + 1)) ∨ ((¬ M 4 v = -1 ∨ 8 ≤ M 2 2) ∧ M' = M)))) := by
  refine ZN_of (L := [_, _]) (by decide) rfl rfl (Nat.le_of_ble_eq_true rfl) rfl (fun hav => ?_)
  refine Z_aload_n (n := 1) dX1_meet_0 rfl rfl ?_
  refine Z_getA (n := 4) dX1_meet_1 rfl ffX1_15 rfl rfl ?_
  refine Z_iload_n (n := 5) dX1_meet_4 rfl rfl ?_
  refine Z_iald (n := 6) dX1_meet_5 rfl rfl rfl (by first | decide | assumption) (by omega) (by omega) (fun r5 s5 => ?_)
  try simp only [uz_oo (show (2 : Nat) ≠ 3 by decide), uz_oo (show (2 : Nat) ≠ 4 by decide)] at r5 s5 ⊢
  refine Z_iconst (n := 7) dX1_meet_6 rfl (by decide) ?_
  refine Z_icmp_ne (n := 10) (t := 38) dX1_meet_7 rfl (by decide) (fun c7 => ?_) (fun c7 => ?_)
  · refine Z_vret dX1_meet_38 rfl ?_
    refine ⟨rfl, ?_⟩
    first | exact Or.inr ⟨by omega, rfl⟩ | exact Or.inl ⟨by omega, by omega, rfl⟩
  · refine Z_aload_n (n := 11) dX1_meet_10 rfl rfl ?_
    refine Z_getI (n := 14) (ki := 2) dX1_meet_11 rfl ffX1_18 rfl rfl rfl (fun r11 s11 => ?_)
    try simp only [uz_oo (show (2 : Nat) ≠ 3 by decide), uz_oo (show (2 : Nat) ≠ 4 by decide)] at r11 s11 ⊢
    refine Z_bipush (n := 16) dX1_meet_14 rfl (by decide) (by decide) ?_
    refine Z_icmp_ge (n := 19) (t := 38) dX1_meet_16 rfl (by decide) (fun c16 => ?_) (fun c16 => ?_)
    · refine Z_vret dX1_meet_38 rfl ?_
      refine ⟨rfl, ?_⟩
      first | exact Or.inr ⟨by omega, rfl⟩ | exact Or.inl ⟨by omega, by omega, rfl⟩
    · refine Z_aload_n (n := 20) dX1_meet_19 rfl rfl ?_
      refine Z_iload_n (n := 21) dX1_meet_20 rfl rfl ?_
      refine Z_aload_n (n := 22) dX1_meet_21 rfl rfl ?_
      refine Z_getI (n := 25) (ki := 2) dX1_meet_22 rfl ffX1_18 rfl rfl rfl (fun r22 s22 => ?_)
      try simp only [uz_oo (show (2 : Nat) ≠ 3 by decide), uz_oo (show (2 : Nat) ≠ 4 by decide)] at r22 s22 ⊢
      refine Z_callVv (n := 28) [_, _] _ dX1_meet_25 rfl cwX1_28 rfl rfl rfl (Nat.le_of_ble_eq_true rfl) (by refine ⟨?_, ?_, ?_, ?_⟩ <;> exact Nat.le_of_ble_eq_true rfl) (fun _ h => h) (zX1_put  (by first | assumption | omega | decide) (by first | assumption | omega | decide) (by first | assumption | omega | decide) (by first | assumption | omega | decide) (by first | assumption | omega | decide) (by first | assumption | omega | decide)) ?_
      intro M25 J25 f25 q25
      obtain ⟨e25_1, e25_2⟩ := q25
      replace e25_1 := e25_1.symm; subst e25_1
      replace e25_2 := e25_2.symm; subst e25_2
      refine Z_aload_n (n := 29) dX1_meet_28 rfl rfl ?_
      refine Z_dup (n := 30) dX1_meet_29 rfl rfl ?_
      refine Z_getI (n := 33) (ki := 2) dX1_meet_30 rfl ffX1_18 rfl rfl rfl (fun r30 s30 => ?_)
      try simp only [uz_oo (show (2 : Nat) ≠ 3 by decide), uz_oo (show (2 : Nat) ≠ 4 by decide)] at r30 s30 ⊢
      refine Z_iconst (n := 34) dX1_meet_33 rfl (by decide) ?_
      refine Z_iadd (n := 35) dX1_meet_34 rfl (by omega) ?_
      refine Z_putI (n := 38) (ki := 2) dX1_meet_35 rfl ffX1_18 rfl (by decide) rfl rfl (by first | assumption | omega | decide) (by first | assumption | omega | decide) (by assumption) ?_
      refine Z_vret dX1_meet_38 rfl ?_
      refine ⟨rfl, ?_⟩
      first | exact Or.inr ⟨by omega, rfl⟩ | exact Or.inl ⟨by omega, by omega, rfl⟩
theorem hc_o {f g : Int → Int} : ∀ {n : Nat}, (∀ k : Int, 0 ≤ k → k < n → (f k = -1 ↔ g k = -1)) → hc f n = hc g n
  | 0, _ => rfl
  | n + 1, h => by
    unfold hc
    rw [hc_o (n := n) (fun k h0 h1 => h k h0 (by omega))]
    have := h n (by omega) (by omega)
    by_cases q : f n = -1
    · rw [if_pos q, if_pos (this.mp q)]
    · rw [if_neg q, if_neg (fun e => q (this.mpr e))]
theorem hc_lt {f : Int → Int} : ∀ {n : Nat} {v : Int}, 0 ≤ v → v < n → f v = -1 → hc f n < n
  | 0, v, h0, h1, _ => by omega
  | n + 1, v, h0, h1, h => by
    unfold hc
    by_cases e : v = n
    · subst e
      rw [if_pos h]
      have := hc_in f n
      omega
    · have := hc_lt (n := n) h0 (by omega) h
      split <;> omega
theorem hc_set {f g : Int → Int} : ∀ {n : Nat} {v : Int}, 0 ≤ v → v < n → f v = -1 → ¬ g v = -1 → (∀ k, k ≠ v → g k = f k) → hc g n = hc f n + 1
  | 0, v, h0, h1, _, _, _ => by omega
  | n + 1, v, h0, h1, h2, h3, h4 => by
    unfold hc
    by_cases e : v = n
    · subst e
      rw [if_pos h2, if_neg h3, hc_o (f := g) (g := f) (fun k _ hk => by rw [h4 k (by omega)])]
      omega
    · rw [hc_set (n := n) h0 (by omega) h2 h3 h4, h4 n (by omega)]
      omega
/-- met counts the places that are taken -/
def oMet (M : zM) : Prop := M 2 2 = hc (M 4) 8
theorem oMet_meet {M : zM} {v : Int} (h0 : 0 ≤ v) (h1 : v < 8) (h : oMet M) (hok : zOK M) (hv : M 4 v = -1) : oMet (uz (uz (uz M 3 (M 2 2) v) 4 v (M 2 2)) 2 2 (M 2 2 + 1)) := by
  have hm := (hok 2 2).1
  unfold oMet at *
  rw [uz_s, uz_o (show (4 : Nat) ≠ 2 by decide)]
  rw [hc_set (f := M 4) (g := uz (uz M 3 (M 2 2) v) 4 v (M 2 2) 4) (n := 8) h0 (by omega) hv (by rw [uz_s]; have : (zT 2 2).1 = 0 := rfl; omega) (fun k hk => by rw [uz_n hk, uz_o (show (4 : Nat) ≠ 3 by decide)])]
  omega
end
section
/-! ===== Pool ===== -/
abbrev kMarks (a : Nat) : Prop := ¬ a = 9
abbrev kSweep (a : Nat) : Prop := ¬ a = 5 ∧ ¬ a = 10 ∧ ¬ a = 11
def ctE (f : Int → Int) (s : Int) : Nat → Int
  | 0 => 0
  | n + 1 => ctE f s n + (if f (n : Int) = s then 1 else 0)
theorem ctE_in (f : Int → Int) (s : Int) : ∀ n : Nat, 0 ≤ ctE f s n ∧ ctE f s n ≤ n
  | 0 => by simp [ctE]
  | n + 1 => by
    have h := ctE_in f s n
    unfold ctE
    split <;> omega
theorem ctE_up (f : Int → Int) (s : Int) {i : Int} (h : 0 ≤ i) : ctE f s (i + 1).toNat = ctE f s i.toNat + (if f i = s then 1 else 0) := by
  rw [show (i + 1).toNat = i.toNat + 1 by omega]
  show ctE f s i.toNat + (if f (i.toNat : Int) = s then 1 else 0) = _
  rw [Int.toNat_of_nonneg h]
def PoolF (F : zF) : Prop := F.1 5 = (1, 2) ∧ (F.2.1 5 1 = some 7 ∧ F.2.1 5 2 = some 8 ∧ F.2.1 5 3 = some 9 ∧ F.2.1 5 4 = some 10 ∧ F.2.1 5 5 = some 11) ∧ F.1 7 = (2, 252) ∧ F.1 8 = (2, 252) ∧ F.1 9 = (2, 252) ∧ F.1 10 = (2, 252) ∧ F.1 11 = (2, 256)
theorem PoolF1 : PoolF F1 := ⟨rfl, ⟨rfl, rfl, rfl, rfl, rfl⟩, rfl, rfl, rfl, rfl, rfl⟩
/-- the pool's links are nodes, its two ends stand below all variables -/
def pI (M : zM) : Prop := M 6 0 = 8 ∧ M 6 1 = 8 ∧ (M 5 6 = -1 ∨ 2 ≤ M 5 6) ∧ (∀ n : Int, 2 ≤ n → n < 252 → (M 10 n = -1 ∨ 2 ≤ M 10 n)) ∧ ∀ r : Int, 0 ≤ r → r < 256 → (M 11 r = -1 ∨ 2 ≤ M 11 r)
theorem pI_fr {M M' : zM} (h : pI M) (h5 : M' 5 = M 5) (h6 : M' 6 = M 6) (h10 : M' 10 = M 10) (h11 : M' 11 = M 11) : pI M' := by
  unfold pI
  rw [h5, h6, h10, h11]
  exact h
def entz (M : zM) (n : Int) : zM := uz (uz (uz M 10 n (M 11 (zxor (M 7 n) (M 8 n)))) 11 (zxor (M 7 n) (M 8 n)) n) 5 7 (M 5 7 + 1)
set_option maxRecDepth 20000 in
theorem zX2_limit {G : tl_G} {M : zM} {J : zJ}   : ZN G yX2_limit mX2_limit 0 kAll [vR 5] F1 M J (qI (fun x M' J' => M' = M ∧ J' = J ∧ x = M 5 8)) := by
  refine ZN_of (L := [_]) (by decide) rfl rfl (Nat.le_of_ble_eq_true rfl) rfl (fun hav => ?_)
  refine Z_aload_n (n := 1) dX2_limit_0 rfl rfl ?_
  refine Z_getI (n := 4) (ki := 8) dX2_limit_1 rfl ffX2_37 rfl rfl rfl (fun r1 s1 => ?_)
  refine Z_iret dX2_limit_4 rfl ?_
  exact ⟨rfl, rfl, rfl⟩
set_option maxRecDepth 20000 in
theorem zX2_usedCount {G : tl_G} {M : zM} {J : zJ}   : ZN G yX2_usedCount mX2_usedCount 0 kAll [vR 5] F1 M J (qI (fun x M' J' => M' = M ∧ J' = J ∧ x = M 5 7)) := by
  refine ZN_of (L := [_]) (by decide) rfl rfl (Nat.le_of_ble_eq_true rfl) rfl (fun hav => ?_)
  refine Z_aload_n (n := 1) dX2_usedCount_0 rfl rfl ?_
  refine Z_getI (n := 4) (ki := 7) dX2_usedCount_1 rfl ffX2_34 rfl rfl rfl (fun r1 s1 => ?_)
  refine Z_iret dX2_usedCount_4 rfl ?_
  exact ⟨rfl, rfl, rfl⟩
set_option maxRecDepth 20000 in
theorem zX2_placeOf {G : tl_G} {M : zM} {J : zJ} {n : Int} (h0 : 0 ≤ n) (h1 : n < 252) : ZN G yX2_placeOf mX2_placeOf 0 kAll [vR 5, vI n] F1 M J (qI (fun x M' J' => M' = M ∧ J' = J ∧ x = M 6 n)) := by
  refine ZN_of (L := [_, _]) (by decide) rfl rfl (Nat.le_of_ble_eq_true rfl) rfl (fun hav => ?_)
  refine Z_aload_n (n := 1) dX2_placeOf_0 rfl rfl ?_
  refine Z_getA (n := 4) dX2_placeOf_1 rfl ffX2_11 rfl rfl ?_
  refine Z_iload_n (n := 5) dX2_placeOf_4 rfl rfl ?_
  refine Z_iald (n := 6) dX2_placeOf_5 rfl rfl rfl (by first | decide | assumption) (by omega) (by omega) (fun r5 s5 => ?_)
  refine Z_iret dX2_placeOf_6 rfl ?_
  exact ⟨rfl, rfl, rfl⟩
set_option maxRecDepth 20000 in
theorem zX2_changeLimit {G : tl_G} {M : zM} {J : zJ} {K : Nat → Prop} {n : Int} (h0 : 0 ≤ n) (h1 : n ≤ 250) (hK5 : ¬ K 5) : ZN G yX2_changeLimit mX2_changeLimit 0 K [vR 5, vI n] F1 M J (qI (fun x M' J' => J' = J ∧ x = M 5 8 ∧ M' = uz M 5 8 n)) := by
  refine ZN_of (L := [_, _, _]) (by decide) rfl rfl (Nat.le_of_ble_eq_true rfl) rfl (fun hav => ?_)
  refine Z_aload_n (n := 1) dX2_changeLimit_0 rfl rfl ?_
  refine Z_getI (n := 4) (ki := 8) dX2_changeLimit_1 rfl ffX2_37 rfl rfl rfl (fun r1 s1 => ?_)
  refine Z_istore_n (L' := [_, _, _]) (n := 5) dX2_changeLimit_4 rfl (by decide) rfl rfl ?_
  refine Z_aload_n (n := 6) dX2_changeLimit_5 rfl rfl ?_
  refine Z_iload_n (n := 7) dX2_changeLimit_6 rfl rfl ?_
  refine Z_putI (n := 10) (ki := 8) dX2_changeLimit_7 rfl ffX2_37 rfl (by decide) rfl rfl (by first | assumption | omega | decide) (by first | assumption | omega | decide) (by assumption) ?_
  refine Z_iload_n (n := 11) dX2_changeLimit_10 rfl rfl ?_
  refine Z_iret dX2_changeLimit_11 rfl ?_
  exact ⟨rfl, rfl, rfl⟩
set_option maxRecDepth 20000 in
theorem zX2_unmark {G : tl_G} {M : zM} {J : zJ} {K : Nat → Prop} (hK9 : ¬ K 9) : ZN G yX2_unmark mX2_unmark 1 K [vR 5] F1 M J (qV (fun M' J' => J' = J ∧ M' = fillz M 9 252 0)) := by
  refine ZN_of (L := [_]) (by decide) rfl rfl (Nat.le_of_ble_eq_true rfl) rfl (fun hav => ?_)
  refine Z_aload_n (n := 1) dX2_unmark_0 rfl rfl ?_
  refine Z_getA (n := 4) dX2_unmark_1 rfl ffX2_21 rfl rfl ?_
  refine Z_iconst (n := 5) dX2_unmark_4 rfl (by decide) ?_
  refine Z_callSv (n := 8) [_, _] _ dX2_unmark_5 rfl cwX2_43 rfl rfl (Nat.le_of_ble_eq_true rfl) (by refine ⟨?_, ?_, ?_, ?_⟩ <;> exact Nat.le_of_ble_eq_true rfl) (fun _ h => h) (zJ7_fill_53178  (by rfl) (by decide) (by exact fun _ => rfl) (by decide) (by decide) (by assumption)) ?_
  intro M5 J5 f5 q5
  obtain ⟨e5_1, e5_2⟩ := q5
  replace e5_1 := e5_1.symm; subst e5_1
  replace e5_2 := e5_2.symm; subst e5_2
  refine Z_vret dX2_unmark_8 rfl ?_
  exact ⟨rfl, rfl⟩
set_option maxRecDepth 20000 in
theorem zX2_markWith {G : tl_G} {M : zM} {J : zJ} (k : Nat) {s n e : Int} (h0 : 0 ≤ s) (h1 : s ≤ 3) (h2 : -1 ≤ n) (h3 : n ≤ 251) (h4 : 0 ≤ e) (h5 : e + k = 8) : ZN G yX2_markWith mX2_markWith (k) kMarks [vR 5, vI s, vI n, vI e] F1 M J (qV (fun M' J' => J' = J ∧ (n < 2 → M' = M))) := by
  induction k generalizing M J s n e with
  | zero =>
    refine ZN_of (L := [_, _, _, _]) (by decide) rfl rfl (Nat.le_of_ble_eq_true rfl) rfl (fun hav => ?_)
    refine Z_iload_n (n := 1) dX2_markWith_0 rfl rfl ?_
    refine Z_iconst (n := 2) dX2_markWith_1 rfl (by decide) ?_
    refine Z_icmp_lt (n := 5) (t := 22) dX2_markWith_2 rfl (by decide) (fun c2 => ?_) (fun c2 => ?_)
    · refine Z_vret dX2_markWith_22 rfl ?_
      exact ⟨rfl, fun _ => rfl⟩
    · refine Z_iload_n (n := 6) dX2_markWith_5 rfl rfl ?_
      refine Z_bipush (n := 8) dX2_markWith_6 rfl (by decide) (by decide) ?_
      refine Z_icmp_ge (n := 11) (t := 22) dX2_markWith_8 rfl (by decide) (fun c8 => ?_) (fun c8 => ?_)
      · refine Z_vret dX2_markWith_22 rfl ?_
        exact ⟨rfl, fun _ => rfl⟩
      · omega
  | succ k ih =>
    refine ZN_of (L := [_, _, _, _]) (by decide) rfl rfl (Nat.le_of_ble_eq_true rfl) rfl (fun hav => ?_)
    refine Z_iload_n (n := 1) dX2_markWith_0 rfl rfl ?_
    refine Z_iconst (n := 2) dX2_markWith_1 rfl (by decide) ?_
    refine Z_icmp_lt (n := 5) (t := 22) dX2_markWith_2 rfl (by decide) (fun c2 => ?_) (fun c2 => ?_)
    · refine Z_vret dX2_markWith_22 rfl ?_
      exact ⟨rfl, fun _ => rfl⟩
    · refine Z_iload_n (n := 6) dX2_markWith_5 rfl rfl ?_
      refine Z_bipush (n := 8) dX2_markWith_6 rfl (by decide) (by decide) ?_
      refine Z_icmp_ge (n := 11) (t := 22) dX2_markWith_8 rfl (by decide) (fun c8 => ?_) (fun c8 => ?_)
      · refine Z_vret dX2_markWith_22 rfl ?_
        exact ⟨rfl, fun _ => rfl⟩
      · refine Z_aload_n (n := 12) dX2_markWith_11 rfl rfl ?_
        refine Z_getA (n := 15) dX2_markWith_12 rfl ffX2_21 rfl rfl ?_
        refine Z_iload_n (n := 16) dX2_markWith_15 rfl rfl ?_
        refine Z_iald (n := 17) dX2_markWith_16 rfl rfl rfl (by first | decide | assumption) (by omega) (by omega) (fun r16 s16 => ?_)
        refine Z_iload_n (n := 18) dX2_markWith_17 rfl rfl ?_
        refine Z_iand (n := 19) dX2_markWith_18 rfl ?_
        refine Z_if_eq (n := 22) (t := 23) dX2_markWith_19 rfl (by decide) (fun c19 => ?_) (fun c19 => ?_)
        · refine Z_aload_n (n := 24) dX2_markWith_23 rfl rfl ?_
          refine Z_getA (n := 27) dX2_markWith_24 rfl ffX2_21 rfl rfl ?_
          refine Z_iload_n (n := 28) dX2_markWith_27 rfl rfl ?_
          refine Z_dup2 (n := 29) dX2_markWith_28 rfl rfl rfl ?_
          refine Z_iald (n := 30) dX2_markWith_29 rfl rfl rfl (by first | decide | assumption) (by omega) (by omega) (fun r29 s29 => ?_)
          refine Z_iload_n (n := 31) dX2_markWith_30 rfl rfl ?_
          refine Z_ior (n := 32) dX2_markWith_31 rfl ?_
          have hz := zor_in3 (x := M 9 n) (y := s) (by omega) (by omega) (by omega) (by omega)
          refine Z_iast (n := 33) dX2_markWith_32 rfl rfl rfl (by first | decide | assumption) (by omega) (by omega) (by first | assumption | omega | decide) (by first | assumption | omega | decide) (by decide) ?_
          refine Z_any (fun M32 => ?_)
          refine Z_aload_n (n := 34) dX2_markWith_33 rfl rfl ?_
          refine Z_iload_n (n := 35) dX2_markWith_34 rfl rfl ?_
          refine Z_aload_n (n := 36) dX2_markWith_35 rfl rfl ?_
          refine Z_getA (n := 39) dX2_markWith_36 rfl ffX2_15 rfl rfl ?_
          refine Z_iload_n (n := 40) dX2_markWith_39 rfl rfl ?_
          refine Z_iald (n := 41) dX2_markWith_40 rfl rfl rfl (by first | decide | assumption) (by omega) (by omega) (fun r40 s40 => ?_)
          refine Z_iload_n (n := 42) dX2_markWith_41 rfl rfl ?_
          refine Z_iconst (n := 43) dX2_markWith_42 rfl (by decide) ?_
          refine Z_iadd (n := 44) dX2_markWith_43 rfl (by omega) ?_
          refine Z_callVv (n := 47) [_, _, _] _ dX2_markWith_44 rfl cwX2_49 rfl rfl rfl (Nat.le_of_ble_eq_true rfl) ⟨by show (k) + 1 ≤ ((k + 1)); omega, by show 8 + (4 + 11) + 40 * (k) ≤ 40 * ((k + 1)); omega, Nat.le_refl _, Nat.le_refl _⟩ (fun _ h => h) (@ih _ _ _ _ _  (by first | assumption | omega | decide) (by first | assumption | omega | decide) (by first | assumption | omega | decide) (by first | assumption | omega | decide) (by first | assumption | omega | decide) (by first | assumption | omega | decide)) ?_
          intro M44 J44 f44 q44
          obtain ⟨e44_1, h44⟩ := q44
          replace e44_1 := e44_1.symm; subst e44_1
          refine Z_aload_n (n := 48) dX2_markWith_47 rfl rfl ?_
          refine Z_iload_n (n := 49) dX2_markWith_48 rfl rfl ?_
          refine Z_aload_n (n := 50) dX2_markWith_49 rfl rfl ?_
          refine Z_getA (n := 53) dX2_markWith_50 rfl ffX2_18 rfl rfl ?_
          refine Z_iload_n (n := 54) dX2_markWith_53 rfl rfl ?_
          refine Z_iald (n := 55) dX2_markWith_54 rfl rfl rfl (by first | decide | assumption) (by omega) (by omega) (fun r54 s54 => ?_)
          refine Z_iload_n (n := 56) dX2_markWith_55 rfl rfl ?_
          refine Z_iconst (n := 57) dX2_markWith_56 rfl (by decide) ?_
          refine Z_iadd (n := 58) dX2_markWith_57 rfl (by omega) ?_
          refine Z_callVv (n := 61) [_, _, _] _ dX2_markWith_58 rfl cwX2_49 rfl rfl rfl (Nat.le_of_ble_eq_true rfl) ⟨by show (k) + 1 ≤ ((k + 1)); omega, by show 8 + (4 + 11) + 40 * (k) ≤ 40 * ((k + 1)); omega, Nat.le_refl _, Nat.le_refl _⟩ (fun _ h => h) (@ih _ _ _ _ _  (by first | assumption | omega | decide) (by first | assumption | omega | decide) (by first | assumption | omega | decide) (by first | assumption | omega | decide) (by first | assumption | omega | decide) (by first | assumption | omega | decide)) ?_
          intro M58 J58 f58 q58
          obtain ⟨e58_1, h58⟩ := q58
          replace e58_1 := e58_1.symm; subst e58_1
          refine Z_vret dX2_markWith_61 rfl ?_
          exact ⟨rfl, fun _ => by omega⟩
        · refine Z_vret dX2_markWith_22 rfl ?_
          exact ⟨rfl, fun _ => rfl⟩
set_option maxRecDepth 20000 in
theorem zX2_mark {G : tl_G} {M : zM} {J : zJ} {n : Int} (h2 : -1 ≤ n) (h3 : n ≤ 251) : ZN G yX2_mark mX2_mark 9 kMarks [vR 5, vI n] F1 M J (qV (fun M' J' => J' = J ∧ (n < 2 → M' = M))) := by
  refine ZN_of (L := [_, _]) (by decide) rfl rfl (Nat.le_of_ble_eq_true rfl) rfl (fun hav => ?_)
  refine Z_aload_n (n := 1) dX2_mark_0 rfl rfl ?_
  refine Z_iconst (n := 2) dX2_mark_1 rfl (by decide) ?_
  refine Z_iload_n (n := 3) dX2_mark_2 rfl rfl ?_
  refine Z_iconst (n := 4) dX2_mark_3 rfl (by decide) ?_
  refine Z_callVv (n := 7) [_, _, _] _ dX2_mark_4 rfl cwX2_49 rfl rfl rfl (Nat.le_of_ble_eq_true rfl) (by refine ⟨?_, ?_, ?_, ?_⟩ <;> exact Nat.le_of_ble_eq_true rfl) (fun _ h => h) (zX2_markWith 8  (by first | assumption | omega | decide) (by first | assumption | omega | decide) (by first | assumption | omega | decide) (by first | assumption | omega | decide) (by first | assumption | omega | decide) (by first | assumption | omega | decide)) ?_
  intro M4 J4 f4 q4
  obtain ⟨e4_1, h4⟩ := q4
  replace e4_1 := e4_1.symm; subst e4_1
  refine Z_vret dX2_mark_7 rfl ?_
  exact ⟨rfl, h4⟩
set_option maxRecDepth 20000 in
theorem zX2_markedWith {G : tl_G} {M : zM} {J : zJ} {s : Int}  : ZN G yX2_markedWith mX2_markedWith 0 kAll [vR 5, vI s] F1 M J (qI (fun x M' J' => M' = M ∧ J' = J ∧ x = ctE (fun k => M 9 (k + 2)) s 250)) := by
  refine ZN_of (L := [_, _, _, _]) (by decide) rfl rfl (Nat.le_of_ble_eq_true rfl) rfl (fun hav => ?_)
  refine Z_iconst (n := 1) dX2_markedWith_0 rfl (by decide) ?_
  refine Z_istore_n (L' := [_, _, _, _]) (n := 2) dX2_markedWith_1 rfl (by decide) rfl rfl ?_
  refine Z_iconst (n := 3) dX2_markedWith_2 rfl (by decide) ?_
  refine Z_istore_n (L' := [_, _, _, _]) (n := 4) dX2_markedWith_3 rfl (by decide) rfl rfl ?_
  have lp4 : ∀ (N4 : Nat) (n i : Int) , ((252 - i).toNat) < N4 → (2 ≤ i) → (i ≤ 252) → (n = ctE (fun k => M 9 (k + 2)) s (i - 2).toNat) → TZ G mX2_markedWith (tl_rm 0 0 0) 0 0 kAll M J 4 [some (vR 5), some (vI s), some (vI n), some (vI i)] [] F1 M J (ZM G (zPost G kAll F1 M J (qI (fun x M' J' => M' = M ∧ J' = J ∧ x = ctE (fun k => M 9 (k + 2)) s 250))) 0 0) := by
    intro N4
    induction N4 with
    | zero => intro n i  hN; omega
    | succ N4 ih4 =>
      intro n i  hN4 i4_0 i4_1 i4_2
      refine Z_iload_n (n := 5) dX2_markedWith_4 rfl rfl ?_
      refine Z_sipush (n := 8) dX2_markedWith_5 rfl (by decide) (by decide) ?_
      refine Z_icmp_ge (n := 11) (t := 30) dX2_markedWith_8 rfl (by decide) (fun c8 => ?_) (fun c8 => ?_)
      · refine Z_iload_n (n := 31) dX2_markedWith_30 rfl rfl ?_
        refine Z_iret dX2_markedWith_31 rfl ?_
        refine ⟨rfl, rfl, ?_⟩; rw [i4_2, show i = 252 by omega]; rfl
      · refine Z_aload_n (n := 12) dX2_markedWith_11 rfl rfl ?_
        refine Z_getA (n := 15) dX2_markedWith_12 rfl ffX2_21 rfl rfl ?_
        refine Z_iload_n (n := 16) dX2_markedWith_15 rfl rfl ?_
        refine Z_iald (n := 17) dX2_markedWith_16 rfl rfl rfl (by first | decide | assumption) (by omega) (by omega) (fun r16 s16 => ?_)
        refine Z_iload_n (n := 18) dX2_markedWith_17 rfl rfl ?_
        refine Z_icmp_ne (n := 21) (t := 24) dX2_markedWith_18 rfl (by decide) (fun c18 => ?_) (fun c18 => ?_)
        · refine Z_iinc (L' := [_, _, _, _]) (n := 27) dX2_markedWith_24 rfl rfl (by decide) rfl rfl (by omega) rfl ?_
          refine Z_goto (t := 4) dX2_markedWith_27 (by decide) ?_
          refine Z_loc (L' := [some _, some _, some _, some _]) (lsub_same (lsub_same (lsub_same (lsub_same lsub_nil)))) ?_
          exact ih4 _ _  (by omega) (by first | assumption | omega | decide) (by first | assumption | omega | decide) (by first | rfl | (rw [show i + 1 - 2 = (i - 2) + 1 by omega, ctE_up _ _ (by omega)]; subst i4_2; simp only [show i - 2 + 2 = i by omega]; first | rw [if_pos (by assumption)] | (rw [if_neg (by assumption)]; omega)))
        · have hcin := ctE_in (fun k => M 9 (k + 2)) s (i - 2).toNat
          refine Z_iinc (L' := [_, _, _, _]) (n := 24) dX2_markedWith_21 rfl rfl (by decide) rfl rfl (by omega) rfl ?_
          refine Z_iinc (L' := [_, _, _, _]) (n := 27) dX2_markedWith_24 rfl rfl (by decide) rfl rfl (by omega) rfl ?_
          refine Z_goto (t := 4) dX2_markedWith_27 (by decide) ?_
          refine Z_loc (L' := [some _, some _, some _, some _]) (lsub_same (lsub_same (lsub_same (lsub_same lsub_nil)))) ?_
          exact ih4 _ _  (by omega) (by first | assumption | omega | decide) (by first | assumption | omega | decide) (by first | rfl | (rw [show i + 1 - 2 = (i - 2) + 1 by omega, ctE_up _ _ (by omega)]; subst i4_2; simp only [show i - 2 + 2 = i by omega]; first | rw [if_pos (by assumption)] | (rw [if_neg (by assumption)]; omega)))
  refine Z_loc (L' := [some _, some _, some _, some _]) (lsub_same (lsub_same (lsub_same (lsub_same lsub_nil)))) ?_
  exact lp4 _ _ _  (Nat.lt_succ_self _) (by first | assumption | omega | decide) (by first | assumption | omega | decide) (by first | rfl | (rw [show i + 1 - 2 = (i - 2) + 1 by omega, ctE_up _ _ (by omega)]; subst i4_2; simp only [show i - 2 + 2 = i by omega]; first | rw [if_pos (by assumption)] | (rw [if_neg (by assumption)]; omega)))
theorem ctE_none {f : Int → Int} {s : Int} (hs : s ≠ 0) : ∀ {n : Nat}, (∀ k : Int, 0 ≤ k → k < n → f k = 0) → ctE f s n = 0
  | 0, _ => rfl
  | n + 1, h => by
    unfold ctE
    rw [ctE_none hs (n := n) (fun k h0 h1 => h k h0 (by omega)), h n (by omega) (by omega), if_neg (fun e => hs e.symm)]
    rfl
set_option maxRecDepth 20000 in
theorem zX2_nodeCount {G : tl_G} {M : zM} {J : zJ} {n : Int} (h2 : -1 ≤ n) (h3 : n ≤ 251) : ZN G yX2_nodeCount mX2_nodeCount 10 kMarks [vR 5, vI n] F1 M J (qI (fun x M' J' => J' = J ∧ 0 ≤ x ∧ x ≤ 250 ∧ (n < 2 → x = 0))) := by
  refine ZN_of (L := [_, _]) (by decide) rfl rfl (Nat.le_of_ble_eq_true rfl) rfl (fun hav => ?_)
  refine Z_aload_n (n := 1) dX2_nodeCount_0 rfl rfl ?_
  refine Z_callVv (n := 4) [] _ dX2_nodeCount_1 rfl cwX2_53 rfl rfl rfl (Nat.le_of_ble_eq_true rfl) (by refine ⟨?_, ?_, ?_, ?_⟩ <;> exact Nat.le_of_ble_eq_true rfl) (fun _ h => h) (zX2_unmark  (by first | assumption | omega | decide)) ?_
  intro M1 J1 f1 q1
  obtain ⟨e1_1, e1_2⟩ := q1
  replace e1_1 := e1_1.symm; subst e1_1
  replace e1_2 := e1_2.symm; subst e1_2
  refine Z_aload_n (n := 5) dX2_nodeCount_4 rfl rfl ?_
  refine Z_iload_n (n := 6) dX2_nodeCount_5 rfl rfl ?_
  refine Z_callVv (n := 9) [_] _ dX2_nodeCount_6 rfl cwX2_56 rfl rfl rfl (Nat.le_of_ble_eq_true rfl) (by refine ⟨?_, ?_, ?_, ?_⟩ <;> exact Nat.le_of_ble_eq_true rfl) (fun _ h => h) (zX2_mark  (by first | assumption | omega | decide) (by first | assumption | omega | decide)) ?_
  intro M6 J6 f6 q6
  obtain ⟨e6_1, h6⟩ := q6
  replace e6_1 := e6_1.symm; subst e6_1
  refine Z_aload_n (n := 10) dX2_nodeCount_9 rfl rfl ?_
  refine Z_iconst (n := 11) dX2_nodeCount_10 rfl (by decide) ?_
  refine Z_callVi (n := 14) [_] _ dX2_nodeCount_11 rfl cwX2_60 rfl rfl rfl (Nat.le_of_ble_eq_true rfl) (by refine ⟨?_, ?_, ?_, ?_⟩ <;> exact Nat.le_of_ble_eq_true rfl) (fun _ _ => trivial) (zX2_markedWith  ) ?_
  intro x11 M11 J11 z11 f11 q11
  obtain ⟨e11_1, e11_2, h11⟩ := q11
  replace e11_1 := e11_1.symm; subst e11_1
  replace e11_2 := e11_2.symm; subst e11_2
  refine Z_iret dX2_nodeCount_14 rfl ?_
  have hcin := ctE_in (fun k => M6 9 (k + 2)) 1 250
  refine ⟨rfl, by omega, by omega, fun q => ?_⟩
  rw [h11, h6 q]
  exact ctE_none (by decide) (fun k k0 k1 => fillz_a (by omega) (by omega))
set_option maxRecDepth 20000 in
theorem zX2_nodeCountAt {G : tl_G} {M : zM} {J : zJ} {n p : Int} (h2 : -1 ≤ n) (h3 : n ≤ 251) : ZN G yX2_nodeCountAt mX2_nodeCountAt 10 kMarks [vR 5, vI n, vI p] F1 M J (qI (fun x M' J' => J' = J ∧ 0 ≤ x ∧ x ≤ 250)) := by
  refine ZN_of (L := [_, _, _, _, _]) (by decide) rfl rfl (Nat.le_of_ble_eq_true rfl) rfl (fun hav => ?_)
  refine Z_aload_n (n := 1) dX2_nodeCountAt_0 rfl rfl ?_
  refine Z_callVv (n := 4) [] _ dX2_nodeCountAt_1 rfl cwX2_53 rfl rfl rfl (Nat.le_of_ble_eq_true rfl) (by refine ⟨?_, ?_, ?_, ?_⟩ <;> exact Nat.le_of_ble_eq_true rfl) (fun _ h => h) (zX2_unmark  (by first | assumption | omega | decide)) ?_
  intro M1 J1 f1 q1
  obtain ⟨e1_1, e1_2⟩ := q1
  replace e1_1 := e1_1.symm; subst e1_1
  replace e1_2 := e1_2.symm; subst e1_2
  refine Z_aload_n (n := 5) dX2_nodeCountAt_4 rfl rfl ?_
  refine Z_iload_n (n := 6) dX2_nodeCountAt_5 rfl rfl ?_
  refine Z_callVv (n := 9) [_] _ dX2_nodeCountAt_6 rfl cwX2_56 rfl rfl rfl (Nat.le_of_ble_eq_true rfl) (by refine ⟨?_, ?_, ?_, ?_⟩ <;> exact Nat.le_of_ble_eq_true rfl) (fun _ h => h) (zX2_mark  (by first | assumption | omega | decide) (by first | assumption | omega | decide)) ?_
  intro M6 J6 f6 q6
  obtain ⟨e6_1, h6⟩ := q6
  replace e6_1 := e6_1.symm; subst e6_1
  refine Z_iconst (n := 10) dX2_nodeCountAt_9 rfl (by decide) ?_
  refine Z_istore_n (L' := [_, _, _, _, _]) (n := 11) dX2_nodeCountAt_10 rfl (by decide) rfl rfl ?_
  refine Z_iconst (n := 12) dX2_nodeCountAt_11 rfl (by decide) ?_
  refine Z_istore (L' := [_, _, _, _, _]) (n := 14) dX2_nodeCountAt_12 rfl (by decide) rfl rfl ?_
  have lp14 : ∀ (N14 : Nat) (c i : Int) (M14 : zM) (J14 : zJ), ((252 - i).toNat) < N14 → (J14 = J) → (2 ≤ i) → (i ≤ 252) → (0 ≤ c) → (c ≤ i - 2) → TZ G mX2_nodeCountAt (tl_rm 10 0 0) 0 0 kMarks M J 14 [some (vR 5), some (vI n), some (vI p), some (vI c), some (vI i)] [] F1 M14 J14 (ZM G (zPost G kMarks F1 M J (qI (fun x M' J' => J' = J ∧ 0 ≤ x ∧ x ≤ 250))) 0 0) := by
    intro N14
    induction N14 with
    | zero => intro c i M14 J14 hN; omega
    | succ N14 ih14 =>
      intro c i M14 J14 hN14 i14_0 i14_1 i14_2 i14_3 i14_4
      refine Z_iload (n := 16) dX2_nodeCountAt_14 rfl rfl ?_
      refine Z_sipush (n := 19) dX2_nodeCountAt_16 rfl (by decide) (by decide) ?_
      refine Z_icmp_ge (n := 22) (t := 52) dX2_nodeCountAt_19 rfl (by decide) (fun c19 => ?_) (fun c19 => ?_)
      · refine Z_iload_n (n := 53) dX2_nodeCountAt_52 rfl rfl ?_
        refine Z_iret dX2_nodeCountAt_53 rfl ?_
        refine ⟨i14_0, ?_⟩; omega
      · refine Z_aload_n (n := 23) dX2_nodeCountAt_22 rfl rfl ?_
        refine Z_getA (n := 26) dX2_nodeCountAt_23 rfl ffX2_21 rfl rfl ?_
        refine Z_iload (n := 28) dX2_nodeCountAt_26 rfl rfl ?_
        refine Z_iald (n := 29) dX2_nodeCountAt_28 rfl rfl rfl (by first | decide | assumption) (by omega) (by omega) (fun r28 s28 => ?_)
        refine Z_if_eq (n := 32) (t := 46) dX2_nodeCountAt_29 rfl (by decide) (fun c29 => ?_) (fun c29 => ?_)
        · refine Z_iinc (L' := [_, _, _, _, _]) (n := 49) dX2_nodeCountAt_46 rfl rfl (by decide) rfl rfl (by omega) rfl ?_
          refine Z_goto (t := 14) dX2_nodeCountAt_49 (by decide) ?_
          refine Z_loc (L' := [some _, some _, some _, some _, some _]) (lsub_same (lsub_same (lsub_same (lsub_same (lsub_same lsub_nil))))) ?_
          exact ih14 _ _ _ _ (by omega) (by first | rfl | assumption) (by first | assumption | omega | decide) (by first | assumption | omega | decide) (by first | assumption | omega | decide) (by first | assumption | omega | decide)
        · refine Z_aload_n (n := 33) dX2_nodeCountAt_32 rfl rfl ?_
          refine Z_getA (n := 36) dX2_nodeCountAt_33 rfl ffX2_11 rfl rfl ?_
          refine Z_iload (n := 38) dX2_nodeCountAt_36 rfl rfl ?_
          refine Z_iald (n := 39) dX2_nodeCountAt_38 rfl rfl rfl (by first | decide | assumption) (by omega) (by omega) (fun r38 s38 => ?_)
          refine Z_iload_n (n := 40) dX2_nodeCountAt_39 rfl rfl ?_
          refine Z_icmp_ne (n := 43) (t := 46) dX2_nodeCountAt_40 rfl (by decide) (fun c40 => ?_) (fun c40 => ?_)
          · refine Z_iinc (L' := [_, _, _, _, _]) (n := 49) dX2_nodeCountAt_46 rfl rfl (by decide) rfl rfl (by omega) rfl ?_
            refine Z_goto (t := 14) dX2_nodeCountAt_49 (by decide) ?_
            refine Z_loc (L' := [some _, some _, some _, some _, some _]) (lsub_same (lsub_same (lsub_same (lsub_same (lsub_same lsub_nil))))) ?_
            exact ih14 _ _ _ _ (by omega) (by first | rfl | assumption) (by first | assumption | omega | decide) (by first | assumption | omega | decide) (by first | assumption | omega | decide) (by first | assumption | omega | decide)
          · refine Z_iinc (L' := [_, _, _, _, _]) (n := 46) dX2_nodeCountAt_43 rfl rfl (by decide) rfl rfl (by omega) rfl ?_
            refine Z_iinc (L' := [_, _, _, _, _]) (n := 49) dX2_nodeCountAt_46 rfl rfl (by decide) rfl rfl (by omega) rfl ?_
            refine Z_goto (t := 14) dX2_nodeCountAt_49 (by decide) ?_
            refine Z_loc (L' := [some _, some _, some _, some _, some _]) (lsub_same (lsub_same (lsub_same (lsub_same (lsub_same lsub_nil))))) ?_
            exact ih14 _ _ _ _ (by omega) (by first | rfl | assumption) (by first | assumption | omega | decide) (by first | assumption | omega | decide) (by first | assumption | omega | decide) (by first | assumption | omega | decide)
  refine Z_loc (L' := [some _, some _, some _, some _, some _]) (lsub_same (lsub_same (lsub_same (lsub_same (lsub_same lsub_nil))))) ?_
  exact lp14 _ _ _ _ _ (Nat.lt_succ_self _) (by first | rfl | assumption) (by first | assumption | omega | decide) (by first | assumption | omega | decide) (by first | assumption | omega | decide) (by first | assumption | omega | decide)
set_option maxRecDepth 20000 in
theorem zX2_commonCount {G : tl_G} {M : zM} {J : zJ} {n o : Int} (h2 : -1 ≤ n) (h3 : n ≤ 251) (h4 : -1 ≤ o) (h5 : o ≤ 251) : ZN G yX2_commonCount mX2_commonCount 10 kMarks [vR 5, vI n, vI o] F1 M J (qI (fun x M' J' => J' = J ∧ 0 ≤ x ∧ x ≤ 250)) := by
  refine ZN_of (L := [_, _, _]) (by decide) rfl rfl (Nat.le_of_ble_eq_true rfl) rfl (fun hav => ?_)
  refine Z_aload_n (n := 1) dX2_commonCount_0 rfl rfl ?_
  refine Z_callVv (n := 4) [] _ dX2_commonCount_1 rfl cwX2_53 rfl rfl rfl (Nat.le_of_ble_eq_true rfl) (by refine ⟨?_, ?_, ?_, ?_⟩ <;> exact Nat.le_of_ble_eq_true rfl) (fun _ h => h) (zX2_unmark  (by first | assumption | omega | decide)) ?_
  intro M1 J1 f1 q1
  obtain ⟨e1_1, e1_2⟩ := q1
  replace e1_1 := e1_1.symm; subst e1_1
  replace e1_2 := e1_2.symm; subst e1_2
  refine Z_aload_n (n := 5) dX2_commonCount_4 rfl rfl ?_
  refine Z_iconst (n := 6) dX2_commonCount_5 rfl (by decide) ?_
  refine Z_iload_n (n := 7) dX2_commonCount_6 rfl rfl ?_
  refine Z_iconst (n := 8) dX2_commonCount_7 rfl (by decide) ?_
  refine Z_callVv (n := 11) [_, _, _] _ dX2_commonCount_8 rfl cwX2_49 rfl rfl rfl (Nat.le_of_ble_eq_true rfl) (by refine ⟨?_, ?_, ?_, ?_⟩ <;> exact Nat.le_of_ble_eq_true rfl) (fun _ h => h) (zX2_markWith 8  (by first | assumption | omega | decide) (by first | assumption | omega | decide) (by first | assumption | omega | decide) (by first | assumption | omega | decide) (by first | assumption | omega | decide) (by first | assumption | omega | decide)) ?_
  intro M8 J8 f8 q8
  obtain ⟨e8_1, h8⟩ := q8
  replace e8_1 := e8_1.symm; subst e8_1
  refine Z_aload_n (n := 12) dX2_commonCount_11 rfl rfl ?_
  refine Z_iconst (n := 13) dX2_commonCount_12 rfl (by decide) ?_
  refine Z_iload_n (n := 14) dX2_commonCount_13 rfl rfl ?_
  refine Z_iconst (n := 15) dX2_commonCount_14 rfl (by decide) ?_
  refine Z_callVv (n := 18) [_, _, _] _ dX2_commonCount_15 rfl cwX2_49 rfl rfl rfl (Nat.le_of_ble_eq_true rfl) (by refine ⟨?_, ?_, ?_, ?_⟩ <;> exact Nat.le_of_ble_eq_true rfl) (fun _ h => h) (zX2_markWith 8  (by first | assumption | omega | decide) (by first | assumption | omega | decide) (by first | assumption | omega | decide) (by first | assumption | omega | decide) (by first | assumption | omega | decide) (by first | assumption | omega | decide)) ?_
  intro M15 J15 f15 q15
  obtain ⟨e15_1, h15⟩ := q15
  replace e15_1 := e15_1.symm; subst e15_1
  refine Z_aload_n (n := 19) dX2_commonCount_18 rfl rfl ?_
  refine Z_iconst (n := 20) dX2_commonCount_19 rfl (by decide) ?_
  refine Z_callVi (n := 23) [_] _ dX2_commonCount_20 rfl cwX2_60 rfl rfl rfl (Nat.le_of_ble_eq_true rfl) (by refine ⟨?_, ?_, ?_, ?_⟩ <;> exact Nat.le_of_ble_eq_true rfl) (fun _ _ => trivial) (zX2_markedWith  ) ?_
  intro x20 M20 J20 z20 f20 q20
  obtain ⟨e20_1, e20_2, h20⟩ := q20
  replace e20_1 := e20_1.symm; subst e20_1
  replace e20_2 := e20_2.symm; subst e20_2
  refine Z_iret dX2_commonCount_23 rfl ?_
  have hcin := ctE_in (fun k => M15 9 (k + 2)) 3 250
  refine ⟨rfl, by omega, by omega⟩
set_option maxRecDepth 20000 in
theorem zX2_enter {G : tl_G} {M : zM} {J : zJ} {F : zF} {K : Nat → Prop} {n : Int} (hF : PoolF F) (h0 : 0 ≤ n) (h1 : n < 252) (hu : M 5 7 < 252) (hK5 : ¬ K 5) (hK10 : ¬ K 10) (hK11 : ¬ K 11) : ZN G yX2_enter mX2_enter 0 K [vR 5, vI n] F M J (qV (fun M' J' => J' = J ∧ M' = entz M n)) := by
  refine ZN_of (L := [_, _, _]) (by decide) rfl rfl (Nat.le_of_ble_eq_true rfl) rfl (fun hav => ?_)
  refine Z_aload_n (n := 1) dX2_enter_0 rfl rfl ?_
  refine Z_getA (n := 4) dX2_enter_1 rfl ffX2_15 (by first | exact hF.1 | exact hF.2.1.1 | exact hF.2.1.2.1 | exact hF.2.1.2.2.1 | exact hF.2.1.2.2.2.1 | exact hF.2.1.2.2.2.2 | exact hF.2.2.1 | exact hF.2.2.2.1 | exact hF.2.2.2.2.1 | exact hF.2.2.2.2.2.1 | exact hF.2.2.2.2.2.2 | rfl) (by first | exact hF.1 | exact hF.2.1.1 | exact hF.2.1.2.1 | exact hF.2.1.2.2.1 | exact hF.2.1.2.2.2.1 | exact hF.2.1.2.2.2.2 | exact hF.2.2.1 | exact hF.2.2.2.1 | exact hF.2.2.2.2.1 | exact hF.2.2.2.2.2.1 | exact hF.2.2.2.2.2.2 | rfl) ?_
  refine Z_iload_n (n := 5) dX2_enter_4 rfl rfl ?_
  refine Z_iald (n := 6) dX2_enter_5 rfl (by first | exact hF.1 | exact hF.2.1.1 | exact hF.2.1.2.1 | exact hF.2.1.2.2.1 | exact hF.2.1.2.2.2.1 | exact hF.2.1.2.2.2.2 | exact hF.2.2.1 | exact hF.2.2.2.1 | exact hF.2.2.2.2.1 | exact hF.2.2.2.2.2.1 | exact hF.2.2.2.2.2.2 | rfl) (by first | exact hF.1 | exact hF.2.1.1 | exact hF.2.1.2.1 | exact hF.2.1.2.2.1 | exact hF.2.1.2.2.2.1 | exact hF.2.1.2.2.2.2 | exact hF.2.2.1 | exact hF.2.2.2.1 | exact hF.2.2.2.2.1 | exact hF.2.2.2.2.2.1 | exact hF.2.2.2.2.2.2 | rfl) (by first | decide | assumption) (by omega) (by omega) (fun r5 s5 => ?_)
  try simp only [uz_oo (show (5 : Nat) ≠ 10 by decide), uz_oo (show (5 : Nat) ≠ 11 by decide), uz_oo (show (11 : Nat) ≠ 10 by decide)] at r5 s5 ⊢
  refine Z_aload_n (n := 7) dX2_enter_6 rfl rfl ?_
  refine Z_getA (n := 10) dX2_enter_7 rfl ffX2_18 (by first | exact hF.1 | exact hF.2.1.1 | exact hF.2.1.2.1 | exact hF.2.1.2.2.1 | exact hF.2.1.2.2.2.1 | exact hF.2.1.2.2.2.2 | exact hF.2.2.1 | exact hF.2.2.2.1 | exact hF.2.2.2.2.1 | exact hF.2.2.2.2.2.1 | exact hF.2.2.2.2.2.2 | rfl) (by first | exact hF.1 | exact hF.2.1.1 | exact hF.2.1.2.1 | exact hF.2.1.2.2.1 | exact hF.2.1.2.2.2.1 | exact hF.2.1.2.2.2.2 | exact hF.2.2.1 | exact hF.2.2.2.1 | exact hF.2.2.2.2.1 | exact hF.2.2.2.2.2.1 | exact hF.2.2.2.2.2.2 | rfl) ?_
  refine Z_iload_n (n := 11) dX2_enter_10 rfl rfl ?_
  refine Z_iald (n := 12) dX2_enter_11 rfl (by first | exact hF.1 | exact hF.2.1.1 | exact hF.2.1.2.1 | exact hF.2.1.2.2.1 | exact hF.2.1.2.2.2.1 | exact hF.2.1.2.2.2.2 | exact hF.2.2.1 | exact hF.2.2.2.1 | exact hF.2.2.2.2.1 | exact hF.2.2.2.2.2.1 | exact hF.2.2.2.2.2.2 | rfl) (by first | exact hF.1 | exact hF.2.1.1 | exact hF.2.1.2.1 | exact hF.2.1.2.2.1 | exact hF.2.1.2.2.2.1 | exact hF.2.1.2.2.2.2 | exact hF.2.2.1 | exact hF.2.2.2.1 | exact hF.2.2.2.2.1 | exact hF.2.2.2.2.2.1 | exact hF.2.2.2.2.2.2 | rfl) (by first | decide | assumption) (by omega) (by omega) (fun r11 s11 => ?_)
  try simp only [uz_oo (show (5 : Nat) ≠ 10 by decide), uz_oo (show (5 : Nat) ≠ 11 by decide), uz_oo (show (11 : Nat) ≠ 10 by decide)] at r11 s11 ⊢
  refine Z_ixor (n := 13) dX2_enter_12 rfl ?_
  have hx := zxor_in (x := M 7 n) (y := M 8 n) (by omega) (by omega) (by omega) (by omega)
  refine Z_istore_n (L' := [_, _, _]) (n := 14) dX2_enter_13 rfl (by decide) rfl rfl ?_
  refine Z_aload_n (n := 15) dX2_enter_14 rfl rfl ?_
  refine Z_getA (n := 18) dX2_enter_15 rfl ffX2_24 (by first | exact hF.1 | exact hF.2.1.1 | exact hF.2.1.2.1 | exact hF.2.1.2.2.1 | exact hF.2.1.2.2.2.1 | exact hF.2.1.2.2.2.2 | exact hF.2.2.1 | exact hF.2.2.2.1 | exact hF.2.2.2.2.1 | exact hF.2.2.2.2.2.1 | exact hF.2.2.2.2.2.2 | rfl) (by first | exact hF.1 | exact hF.2.1.1 | exact hF.2.1.2.1 | exact hF.2.1.2.2.1 | exact hF.2.1.2.2.2.1 | exact hF.2.1.2.2.2.2 | exact hF.2.2.1 | exact hF.2.2.2.1 | exact hF.2.2.2.2.1 | exact hF.2.2.2.2.2.1 | exact hF.2.2.2.2.2.2 | rfl) ?_
  refine Z_iload_n (n := 19) dX2_enter_18 rfl rfl ?_
  refine Z_aload_n (n := 20) dX2_enter_19 rfl rfl ?_
  refine Z_getA (n := 23) dX2_enter_20 rfl ffX2_27 (by first | exact hF.1 | exact hF.2.1.1 | exact hF.2.1.2.1 | exact hF.2.1.2.2.1 | exact hF.2.1.2.2.2.1 | exact hF.2.1.2.2.2.2 | exact hF.2.2.1 | exact hF.2.2.2.1 | exact hF.2.2.2.2.1 | exact hF.2.2.2.2.2.1 | exact hF.2.2.2.2.2.2 | rfl) (by first | exact hF.1 | exact hF.2.1.1 | exact hF.2.1.2.1 | exact hF.2.1.2.2.1 | exact hF.2.1.2.2.2.1 | exact hF.2.1.2.2.2.2 | exact hF.2.2.1 | exact hF.2.2.2.1 | exact hF.2.2.2.2.1 | exact hF.2.2.2.2.2.1 | exact hF.2.2.2.2.2.2 | rfl) ?_
  refine Z_iload_n (n := 24) dX2_enter_23 rfl rfl ?_
  refine Z_iald (n := 25) dX2_enter_24 rfl (by first | exact hF.1 | exact hF.2.1.1 | exact hF.2.1.2.1 | exact hF.2.1.2.2.1 | exact hF.2.1.2.2.2.1 | exact hF.2.1.2.2.2.2 | exact hF.2.2.1 | exact hF.2.2.2.1 | exact hF.2.2.2.2.1 | exact hF.2.2.2.2.2.1 | exact hF.2.2.2.2.2.2 | rfl) (by first | exact hF.1 | exact hF.2.1.1 | exact hF.2.1.2.1 | exact hF.2.1.2.2.1 | exact hF.2.1.2.2.2.1 | exact hF.2.1.2.2.2.2 | exact hF.2.2.1 | exact hF.2.2.2.1 | exact hF.2.2.2.2.1 | exact hF.2.2.2.2.2.1 | exact hF.2.2.2.2.2.2 | rfl) (by first | decide | assumption) (by omega) (by omega) (fun r24 s24 => ?_)
  try simp only [uz_oo (show (5 : Nat) ≠ 10 by decide), uz_oo (show (5 : Nat) ≠ 11 by decide), uz_oo (show (11 : Nat) ≠ 10 by decide)] at r24 s24 ⊢
  refine Z_iast (n := 26) dX2_enter_25 rfl (by first | exact hF.1 | exact hF.2.1.1 | exact hF.2.1.2.1 | exact hF.2.1.2.2.1 | exact hF.2.1.2.2.2.1 | exact hF.2.1.2.2.2.2 | exact hF.2.2.1 | exact hF.2.2.2.1 | exact hF.2.2.2.2.1 | exact hF.2.2.2.2.2.1 | exact hF.2.2.2.2.2.2 | rfl) (by first | exact hF.1 | exact hF.2.1.1 | exact hF.2.1.2.1 | exact hF.2.1.2.2.1 | exact hF.2.1.2.2.2.1 | exact hF.2.1.2.2.2.2 | exact hF.2.2.1 | exact hF.2.2.2.1 | exact hF.2.2.2.2.1 | exact hF.2.2.2.2.2.1 | exact hF.2.2.2.2.2.2 | rfl) (by first | decide | assumption) (by omega) (by omega) (by first | assumption | omega | decide) (by first | assumption | omega | decide) (by assumption) ?_
  refine Z_aload_n (n := 27) dX2_enter_26 rfl rfl ?_
  refine Z_getA (n := 30) dX2_enter_27 rfl ffX2_27 (by first | exact hF.1 | exact hF.2.1.1 | exact hF.2.1.2.1 | exact hF.2.1.2.2.1 | exact hF.2.1.2.2.2.1 | exact hF.2.1.2.2.2.2 | exact hF.2.2.1 | exact hF.2.2.2.1 | exact hF.2.2.2.2.1 | exact hF.2.2.2.2.2.1 | exact hF.2.2.2.2.2.2 | rfl) (by first | exact hF.1 | exact hF.2.1.1 | exact hF.2.1.2.1 | exact hF.2.1.2.2.1 | exact hF.2.1.2.2.2.1 | exact hF.2.1.2.2.2.2 | exact hF.2.2.1 | exact hF.2.2.2.1 | exact hF.2.2.2.2.1 | exact hF.2.2.2.2.2.1 | exact hF.2.2.2.2.2.2 | rfl) ?_
  refine Z_iload_n (n := 31) dX2_enter_30 rfl rfl ?_
  refine Z_iload_n (n := 32) dX2_enter_31 rfl rfl ?_
  refine Z_iast (n := 33) dX2_enter_32 rfl (by first | exact hF.1 | exact hF.2.1.1 | exact hF.2.1.2.1 | exact hF.2.1.2.2.1 | exact hF.2.1.2.2.2.1 | exact hF.2.1.2.2.2.2 | exact hF.2.2.1 | exact hF.2.2.2.1 | exact hF.2.2.2.2.1 | exact hF.2.2.2.2.2.1 | exact hF.2.2.2.2.2.2 | rfl) (by first | exact hF.1 | exact hF.2.1.1 | exact hF.2.1.2.1 | exact hF.2.1.2.2.1 | exact hF.2.1.2.2.2.1 | exact hF.2.1.2.2.2.2 | exact hF.2.2.1 | exact hF.2.2.2.1 | exact hF.2.2.2.2.1 | exact hF.2.2.2.2.2.1 | exact hF.2.2.2.2.2.2 | rfl) (by first | decide | assumption) (by omega) (by omega) (by first | assumption | omega | decide) (by first | assumption | omega | decide) (by assumption) ?_
  refine Z_aload_n (n := 34) dX2_enter_33 rfl rfl ?_
  refine Z_dup (n := 35) dX2_enter_34 rfl rfl ?_
  refine Z_getI (n := 38) (ki := 7) dX2_enter_35 rfl ffX2_34 rfl (by first | exact hF.1 | exact hF.2.1.1 | exact hF.2.1.2.1 | exact hF.2.1.2.2.1 | exact hF.2.1.2.2.2.1 | exact hF.2.1.2.2.2.2 | exact hF.2.2.1 | exact hF.2.2.2.1 | exact hF.2.2.2.2.1 | exact hF.2.2.2.2.2.1 | exact hF.2.2.2.2.2.2 | rfl) (by first | exact hF.1 | exact hF.2.1.1 | exact hF.2.1.2.1 | exact hF.2.1.2.2.1 | exact hF.2.1.2.2.2.1 | exact hF.2.1.2.2.2.2 | exact hF.2.2.1 | exact hF.2.2.2.1 | exact hF.2.2.2.2.1 | exact hF.2.2.2.2.2.1 | exact hF.2.2.2.2.2.2 | rfl) (fun r35 s35 => ?_)
  try simp only [uz_oo (show (5 : Nat) ≠ 10 by decide), uz_oo (show (5 : Nat) ≠ 11 by decide), uz_oo (show (11 : Nat) ≠ 10 by decide)] at r35 s35 ⊢
  refine Z_iconst (n := 39) dX2_enter_38 rfl (by decide) ?_
  refine Z_iadd (n := 40) dX2_enter_39 rfl (by omega) ?_
  refine Z_putI (n := 43) (ki := 7) dX2_enter_40 rfl ffX2_34 rfl (by decide) (by first | exact hF.1 | exact hF.2.1.1 | exact hF.2.1.2.1 | exact hF.2.1.2.2.1 | exact hF.2.1.2.2.2.1 | exact hF.2.1.2.2.2.2 | exact hF.2.2.1 | exact hF.2.2.2.1 | exact hF.2.2.2.2.1 | exact hF.2.2.2.2.2.1 | exact hF.2.2.2.2.2.2 | rfl) (by first | exact hF.1 | exact hF.2.1.1 | exact hF.2.1.2.1 | exact hF.2.1.2.2.1 | exact hF.2.1.2.2.2.1 | exact hF.2.1.2.2.2.2 | exact hF.2.2.1 | exact hF.2.2.2.1 | exact hF.2.2.2.2.1 | exact hF.2.2.2.2.2.1 | exact hF.2.2.2.2.2.2 | rfl) (by first | assumption | omega | decide) (by first | assumption | omega | decide) (by assumption) ?_
  refine Z_vret dX2_enter_43 rfl ?_
  exact ⟨rfl, rfl⟩
def frez (M : zM) (n : Int) : zM := uz (uz M 10 n (M 5 6)) 5 6 n
def sw0 (M : zM) : zM := uz (uz (fillz M 11 256 (-1)) 5 6 (-1)) 5 7 0
theorem entz_57 {M : zM} {n : Int} : entz M n 5 7 = M 5 7 + 1 := uz_s
theorem entz_58 {M : zM} {n : Int} : entz M n 5 8 = M 5 8 := by
  unfold entz
  rw [uz_n (by decide), uz_oo (by decide), uz_oo (by decide)]
theorem frez_57 {M : zM} {n : Int} : frez M n 5 7 = M 5 7 := by
  unfold frez
  rw [uz_n (by decide), uz_oo (by decide)]
theorem frez_58 {M : zM} {n : Int} : frez M n 5 8 = M 5 8 := by
  unfold frez
  rw [uz_n (by decide), uz_oo (by decide)]
theorem sw0_58 {M : zM} : sw0 M 5 8 = M 5 8 := by
  unfold sw0
  rw [uz_n (by decide), uz_n (by decide), fillz_o (by decide)]
theorem sw0_57 {M : zM} : sw0 M 5 7 = 0 := uz_s
theorem sw0_11 {M : zM} {r : Int} (r0 : 0 ≤ r) (r1 : r < 256) : sw0 M 11 r = -1 := by
  unfold sw0
  rw [uz_oo (by decide), uz_oo (by decide), fillz_a r0 r1]
theorem sw0_56 {M : zM} : sw0 M 5 6 = -1 := by
  unfold sw0
  rw [uz_n (by decide), uz_s]
end
section
/-! ===== Pool: making and reading ===== -/
def knF (t o s k : Int) : Int := if 2 ≤ o then t else zor (zand (if o = 1 then zshr t s else t) k) (zshl (zand (if o = 1 then zshr t s else t) k) s)
def mkz (M : zM) (n p l h : Int) : zM := uz (uz (uz (uz M 5 6 (M 10 n)) 6 n p) 7 n l) 8 n h
theorem mkz_57 {M : zM} {n p l h : Int} : mkz M n p l h 5 7 = M 5 7 := by
  unfold mkz
  rw [uz_oo (by decide), uz_oo (by decide), uz_oo (by decide), uz_n (by decide)]
theorem mkz_7 {M : zM} {n p l h : Int} : mkz M n p l h 7 n = l := by
  unfold mkz
  rw [uz_oo (by decide), uz_s]
theorem mkz_8 {M : zM} {n p l h : Int} : mkz M n p l h 8 n = h := uz_s
set_option maxRecDepth 20000 in
theorem zX2_knowing {G : tl_G} {M : zM} {J : zJ} {t o s k : Int}  : ZN G yX2_knowing mX2_knowing 0 kAll [vI t, vI o, vI s, vI k] F1 M J (qI (fun x M' J' => M' = M ∧ J' = J ∧ x = knF t o s k)) := by
  refine ZN_of (L := [_, _, _, _, _]) (by decide) rfl rfl (Nat.le_of_ble_eq_true rfl) rfl (fun hav => ?_)
  refine Z_iload_n (n := 1) dX2_knowing_0 rfl rfl ?_
  refine Z_iconst (n := 2) dX2_knowing_1 rfl (by decide) ?_
  refine Z_icmp_lt (n := 5) (t := 7) dX2_knowing_2 rfl (by decide) (fun c2 => ?_) (fun c2 => ?_)
  · refine Z_iload_n (n := 8) dX2_knowing_7 rfl rfl ?_
    refine Z_iconst (n := 9) dX2_knowing_8 rfl (by decide) ?_
    refine Z_icmp_ne (n := 12) (t := 18) dX2_knowing_9 rfl (by decide) (fun c9 => ?_) (fun c9 => ?_)
    · refine Z_iload_n (n := 19) dX2_knowing_18 rfl rfl ?_
      refine Z_iload_n (n := 20) dX2_knowing_19 rfl rfl ?_
      refine Z_iand (n := 21) dX2_knowing_20 rfl ?_
      refine Z_istore (L' := [_, _, _, _, _]) (n := 23) dX2_knowing_21 rfl (by decide) rfl rfl ?_
      refine Z_iload (n := 25) dX2_knowing_23 rfl rfl ?_
      refine Z_iload (n := 27) dX2_knowing_25 rfl rfl ?_
      refine Z_iload_n (n := 28) dX2_knowing_27 rfl rfl ?_
      refine Z_ishl (n := 29) dX2_knowing_28 rfl ?_
      refine Z_ior (n := 30) dX2_knowing_29 rfl ?_
      refine Z_iret dX2_knowing_30 rfl ?_
      refine ⟨rfl, rfl, ?_⟩; unfold knF; rw [if_neg (by omega)]
      first | rw [if_pos (by omega)] | rw [if_neg (by omega)]
    · refine Z_iload_n (n := 13) dX2_knowing_12 rfl rfl ?_
      refine Z_iload_n (n := 14) dX2_knowing_13 rfl rfl ?_
      refine Z_ishr (n := 15) dX2_knowing_14 rfl ?_
      refine Z_goto (t := 19) dX2_knowing_15 (by decide) ?_
      refine Z_iload_n (n := 20) dX2_knowing_19 rfl rfl ?_
      refine Z_iand (n := 21) dX2_knowing_20 rfl ?_
      refine Z_istore (L' := [_, _, _, _, _]) (n := 23) dX2_knowing_21 rfl (by decide) rfl rfl ?_
      refine Z_iload (n := 25) dX2_knowing_23 rfl rfl ?_
      refine Z_iload (n := 27) dX2_knowing_25 rfl rfl ?_
      refine Z_iload_n (n := 28) dX2_knowing_27 rfl rfl ?_
      refine Z_ishl (n := 29) dX2_knowing_28 rfl ?_
      refine Z_ior (n := 30) dX2_knowing_29 rfl ?_
      refine Z_iret dX2_knowing_30 rfl ?_
      refine ⟨rfl, rfl, ?_⟩; unfold knF; rw [if_neg (by omega)]
      first | rw [if_pos (by omega)] | rw [if_neg (by omega)]
  · refine Z_iload_n (n := 6) dX2_knowing_5 rfl rfl ?_
    refine Z_iret dX2_knowing_6 rfl ?_
    refine ⟨rfl, rfl, ?_⟩; unfold knF; rw [if_pos (by omega)]
set_option maxRecDepth 20000 in
theorem zX2_lowAt {G : tl_G} {M : zM} {J : zJ} {n p : Int} (h0 : 0 ≤ n) (h1 : n ≤ 251) : ZN G yX2_lowAt mX2_lowAt 0 kAll [vR 5, vI n, vI p] F1 M J (qI (fun x M' J' => M' = M ∧ J' = J ∧ 0 ≤ x ∧ x ≤ 251 ∧ ((M 6 n = p ∧ x = M 7 n) ∨ (¬ M 6 n = p ∧ x = n)))) := by
  refine ZN_of (L := [_, _, _]) (by decide) rfl rfl (Nat.le_of_ble_eq_true rfl) rfl (fun hav => ?_)
  refine Z_aload_n (n := 1) dX2_lowAt_0 rfl rfl ?_
  refine Z_getA (n := 4) dX2_lowAt_1 rfl ffX2_11 rfl rfl ?_
  refine Z_iload_n (n := 5) dX2_lowAt_4 rfl rfl ?_
  refine Z_iald (n := 6) dX2_lowAt_5 rfl rfl rfl (by first | decide | assumption) (by omega) (by omega) (fun r5 s5 => ?_)
  refine Z_iload_n (n := 7) dX2_lowAt_6 rfl rfl ?_
  refine Z_icmp_ne (n := 10) (t := 19) dX2_lowAt_7 rfl (by decide) (fun c7 => ?_) (fun c7 => ?_)
  · refine Z_iload_n (n := 20) dX2_lowAt_19 rfl rfl ?_
    refine Z_iret dX2_lowAt_20 rfl ?_
    refine ⟨rfl, rfl, ?_⟩; omega
  · refine Z_aload_n (n := 11) dX2_lowAt_10 rfl rfl ?_
    refine Z_getA (n := 14) dX2_lowAt_11 rfl ffX2_15 rfl rfl ?_
    refine Z_iload_n (n := 15) dX2_lowAt_14 rfl rfl ?_
    refine Z_iald (n := 16) dX2_lowAt_15 rfl rfl rfl (by first | decide | assumption) (by omega) (by omega) (fun r15 s15 => ?_)
    refine Z_goto (t := 20) dX2_lowAt_16 (by decide) ?_
    refine Z_iret dX2_lowAt_20 rfl ?_
    refine ⟨rfl, rfl, ?_⟩; omega
set_option maxRecDepth 20000 in
theorem zX2_highAt {G : tl_G} {M : zM} {J : zJ} {n p : Int} (h0 : 0 ≤ n) (h1 : n ≤ 251) : ZN G yX2_highAt mX2_highAt 0 kAll [vR 5, vI n, vI p] F1 M J (qI (fun x M' J' => M' = M ∧ J' = J ∧ 0 ≤ x ∧ x ≤ 251 ∧ ((M 6 n = p ∧ x = M 8 n) ∨ (¬ M 6 n = p ∧ x = n)))) := by
  refine ZN_of (L := [_, _, _]) (by decide) rfl rfl (Nat.le_of_ble_eq_true rfl) rfl (fun hav => ?_)
  refine Z_aload_n (n := 1) dX2_highAt_0 rfl rfl ?_
  refine Z_getA (n := 4) dX2_highAt_1 rfl ffX2_11 rfl rfl ?_
  refine Z_iload_n (n := 5) dX2_highAt_4 rfl rfl ?_
  refine Z_iald (n := 6) dX2_highAt_5 rfl rfl rfl (by first | decide | assumption) (by omega) (by omega) (fun r5 s5 => ?_)
  refine Z_iload_n (n := 7) dX2_highAt_6 rfl rfl ?_
  refine Z_icmp_ne (n := 10) (t := 19) dX2_highAt_7 rfl (by decide) (fun c7 => ?_) (fun c7 => ?_)
  · refine Z_iload_n (n := 20) dX2_highAt_19 rfl rfl ?_
    refine Z_iret dX2_highAt_20 rfl ?_
    refine ⟨rfl, rfl, ?_⟩; omega
  · refine Z_aload_n (n := 11) dX2_highAt_10 rfl rfl ?_
    refine Z_getA (n := 14) dX2_highAt_11 rfl ffX2_18 rfl rfl ?_
    refine Z_iload_n (n := 15) dX2_highAt_14 rfl rfl ?_
    refine Z_iald (n := 16) dX2_highAt_15 rfl rfl rfl (by first | decide | assumption) (by omega) (by omega) (fun r15 s15 => ?_)
    refine Z_goto (t := 20) dX2_highAt_16 (by decide) ?_
    refine Z_iret dX2_highAt_20 rfl ?_
    refine ⟨rfl, rfl, ?_⟩; omega
set_option maxRecDepth 20000 in
theorem zX2_valueFor {G : tl_G} {M : zM} {J : zJ} {n a : Int} (h0 : 0 ≤ n) (h1 : n ≤ 251) : ZN G yX2_valueFor mX2_valueFor 1 kAll [vR 5, vI n, vI a, vR 2] F1 M J (qI (fun x M' J' => M' = M ∧ J' = J ∧ 0 ≤ x ∧ x ≤ 1)) := by
  refine ZN_of (L := [_, _, _, _, _, _, _]) (by decide) rfl rfl (Nat.le_of_ble_eq_true rfl) rfl (fun hav => ?_)
  refine Z_iload_n (n := 1) dX2_valueFor_0 rfl rfl ?_
  refine Z_istore (L' := [_, _, _, _, _, _, _]) (n := 3) dX2_valueFor_1 rfl (by decide) rfl rfl ?_
  refine Z_iconst (n := 4) dX2_valueFor_3 rfl (by decide) ?_
  refine Z_istore (L' := [_, _, _, _, _, _, _]) (n := 6) dX2_valueFor_4 rfl (by decide) rfl rfl ?_
  have lp6 : ∀ (N6 : Nat) (c i : Int) , ((8 - i).toNat) < N6 → (0 ≤ c) → (c ≤ 251) → (0 ≤ i) → (i ≤ 8) → TZ G mX2_valueFor (tl_rm 1 0 0) 0 0 kAll M J 6 [some (vR 5), some (vI n), some (vI a), some (vR 2), some (vI c), some (vI i), none] [] F1 M J (ZM G (zPost G kAll F1 M J (qI (fun x M' J' => M' = M ∧ J' = J ∧ 0 ≤ x ∧ x ≤ 1))) 0 0) := by
    intro N6
    induction N6 with
    | zero => intro c i  hN; omega
    | succ N6 ih6 =>
      intro c i  hN6 i6_0 i6_1 i6_2 i6_3
      refine Z_iload (n := 8) dX2_valueFor_6 rfl rfl ?_
      refine Z_bipush (n := 10) dX2_valueFor_8 rfl (by decide) (by decide) ?_
      refine Z_icmp_ge (n := 13) (t := 75) dX2_valueFor_10 rfl (by decide) (fun c10 => ?_) (fun c10 => ?_)
      · refine Z_iload (n := 77) dX2_valueFor_75 rfl rfl ?_
        refine Z_iconst (n := 78) dX2_valueFor_77 rfl (by decide) ?_
        refine Z_icmp_ne (n := 81) (t := 85) dX2_valueFor_78 rfl (by decide) (fun c78 => ?_) (fun c78 => ?_)
        · refine Z_iconst (n := 86) dX2_valueFor_85 rfl (by decide) ?_
          refine Z_iret dX2_valueFor_86 rfl ?_
          refine ⟨rfl, rfl, ?_⟩; omega
        · refine Z_iconst (n := 82) dX2_valueFor_81 rfl (by decide) ?_
          refine Z_goto (t := 86) dX2_valueFor_82 (by decide) ?_
          refine Z_iret dX2_valueFor_86 rfl ?_
          refine ⟨rfl, rfl, ?_⟩; omega
      · refine Z_iload (n := 15) dX2_valueFor_13 rfl rfl ?_
        refine Z_iconst (n := 16) dX2_valueFor_15 rfl (by decide) ?_
        refine Z_icmp_lt (n := 19) (t := 75) dX2_valueFor_16 rfl (by decide) (fun c16 => ?_) (fun c16 => ?_)
        · refine Z_iload (n := 77) dX2_valueFor_75 rfl rfl ?_
          refine Z_iconst (n := 78) dX2_valueFor_77 rfl (by decide) ?_
          refine Z_icmp_ne (n := 81) (t := 85) dX2_valueFor_78 rfl (by decide) (fun c78 => ?_) (fun c78 => ?_)
          · refine Z_iconst (n := 86) dX2_valueFor_85 rfl (by decide) ?_
            refine Z_iret dX2_valueFor_86 rfl ?_
            refine ⟨rfl, rfl, ?_⟩; omega
          · refine Z_iconst (n := 82) dX2_valueFor_81 rfl (by decide) ?_
            refine Z_goto (t := 86) dX2_valueFor_82 (by decide) ?_
            refine Z_iret dX2_valueFor_86 rfl ?_
            refine ⟨rfl, rfl, ?_⟩; omega
        · refine Z_iload_n (n := 20) dX2_valueFor_19 rfl rfl ?_
          refine Z_aload_n (n := 21) dX2_valueFor_20 rfl rfl ?_
          refine Z_aload_n (n := 22) dX2_valueFor_21 rfl rfl ?_
          refine Z_getA (n := 25) dX2_valueFor_22 rfl ffX2_11 rfl rfl ?_
          refine Z_iload (n := 27) dX2_valueFor_25 rfl rfl ?_
          refine Z_iald (n := 28) dX2_valueFor_27 rfl rfl rfl (by first | decide | assumption) (by omega) (by omega) (fun r27 s27 => ?_)
          rw [if_neg (by omega)] at s27
          refine Z_callVi (n := 31) [_] _ dX2_valueFor_28 rfl cwX2_95 rfl rfl rfl (Nat.le_of_ble_eq_true rfl) (by refine ⟨?_, ?_, ?_, ?_⟩ <;> exact Nat.le_of_ble_eq_true rfl) (fun _ h => h) (zX1_variableAt  (by first | assumption | omega | decide) (by first | assumption | omega | decide)) ?_
          intro x28 M28 J28 z28 f28 q28
          obtain ⟨e28_1, e28_2, h28⟩ := q28
          replace e28_1 := e28_1.symm; subst e28_1
          replace e28_2 := e28_2.symm; subst e28_2
          refine Z_ishr (n := 32) dX2_valueFor_31 rfl ?_
          refine Z_iconst (n := 33) dX2_valueFor_32 rfl (by decide) ?_
          refine Z_iand (n := 34) dX2_valueFor_33 rfl ?_
          refine Z_iconst (n := 35) dX2_valueFor_34 rfl (by decide) ?_
          refine Z_icmp_ne (n := 38) (t := 42) dX2_valueFor_35 rfl (by decide) (fun c35 => ?_) (fun c35 => ?_)
          · refine Z_iconst (n := 43) dX2_valueFor_42 rfl (by decide) ?_
            refine Z_istore (L' := [_, _, _, _, _, _, _]) (n := 45) dX2_valueFor_43 rfl (by decide) rfl rfl ?_
            refine Z_iload (n := 47) dX2_valueFor_45 rfl rfl ?_
            refine Z_if_eq (n := 50) (t := 60) dX2_valueFor_47 rfl (by decide) (fun c47 => ?_) (fun c47 => ?_)
            · refine Z_aload_n (n := 61) dX2_valueFor_60 rfl rfl ?_
              refine Z_getA (n := 64) dX2_valueFor_61 rfl ffX2_15 rfl rfl ?_
              refine Z_iload (n := 66) dX2_valueFor_64 rfl rfl ?_
              refine Z_iald (n := 67) dX2_valueFor_66 rfl rfl rfl (by first | decide | assumption) (by omega) (by omega) (fun r66 s66 => ?_)
              refine Z_istore (L' := [_, _, _, _, _, _, _]) (n := 69) dX2_valueFor_67 rfl (by decide) rfl rfl ?_
              refine Z_iinc (L' := [_, _, _, _, _, _, _]) (n := 72) dX2_valueFor_69 rfl rfl (by decide) rfl rfl (by omega) rfl ?_
              refine Z_goto (t := 6) dX2_valueFor_72 (by decide) ?_
              refine Z_loc (L' := [some _, some _, some _, some _, some _, some _, none]) (lsub_same (lsub_same (lsub_same (lsub_same (lsub_same (lsub_same (lsub_none lsub_nil))))))) ?_
              exact ih6 _ _  (by omega) (by first | assumption | omega | decide) (by first | assumption | omega | decide) (by first | assumption | omega | decide) (by first | assumption | omega | decide)
            · refine Z_aload_n (n := 51) dX2_valueFor_50 rfl rfl ?_
              refine Z_getA (n := 54) dX2_valueFor_51 rfl ffX2_18 rfl rfl ?_
              refine Z_iload (n := 56) dX2_valueFor_54 rfl rfl ?_
              refine Z_iald (n := 57) dX2_valueFor_56 rfl rfl rfl (by first | decide | assumption) (by omega) (by omega) (fun r56 s56 => ?_)
              refine Z_goto (t := 67) dX2_valueFor_57 (by decide) ?_
              refine Z_istore (L' := [_, _, _, _, _, _, _]) (n := 69) dX2_valueFor_67 rfl (by decide) rfl rfl ?_
              refine Z_iinc (L' := [_, _, _, _, _, _, _]) (n := 72) dX2_valueFor_69 rfl rfl (by decide) rfl rfl (by omega) rfl ?_
              refine Z_goto (t := 6) dX2_valueFor_72 (by decide) ?_
              refine Z_loc (L' := [some _, some _, some _, some _, some _, some _, none]) (lsub_same (lsub_same (lsub_same (lsub_same (lsub_same (lsub_same (lsub_none lsub_nil))))))) ?_
              exact ih6 _ _  (by omega) (by first | assumption | omega | decide) (by first | assumption | omega | decide) (by first | assumption | omega | decide) (by first | assumption | omega | decide)
          · refine Z_iconst (n := 39) dX2_valueFor_38 rfl (by decide) ?_
            refine Z_goto (t := 43) dX2_valueFor_39 (by decide) ?_
            refine Z_istore (L' := [_, _, _, _, _, _, _]) (n := 45) dX2_valueFor_43 rfl (by decide) rfl rfl ?_
            refine Z_iload (n := 47) dX2_valueFor_45 rfl rfl ?_
            refine Z_if_eq (n := 50) (t := 60) dX2_valueFor_47 rfl (by decide) (fun c47 => ?_) (fun c47 => ?_)
            · refine Z_aload_n (n := 61) dX2_valueFor_60 rfl rfl ?_
              refine Z_getA (n := 64) dX2_valueFor_61 rfl ffX2_15 rfl rfl ?_
              refine Z_iload (n := 66) dX2_valueFor_64 rfl rfl ?_
              refine Z_iald (n := 67) dX2_valueFor_66 rfl rfl rfl (by first | decide | assumption) (by omega) (by omega) (fun r66 s66 => ?_)
              refine Z_istore (L' := [_, _, _, _, _, _, _]) (n := 69) dX2_valueFor_67 rfl (by decide) rfl rfl ?_
              refine Z_iinc (L' := [_, _, _, _, _, _, _]) (n := 72) dX2_valueFor_69 rfl rfl (by decide) rfl rfl (by omega) rfl ?_
              refine Z_goto (t := 6) dX2_valueFor_72 (by decide) ?_
              refine Z_loc (L' := [some _, some _, some _, some _, some _, some _, none]) (lsub_same (lsub_same (lsub_same (lsub_same (lsub_same (lsub_same (lsub_none lsub_nil))))))) ?_
              exact ih6 _ _  (by omega) (by first | assumption | omega | decide) (by first | assumption | omega | decide) (by first | assumption | omega | decide) (by first | assumption | omega | decide)
            · refine Z_aload_n (n := 51) dX2_valueFor_50 rfl rfl ?_
              refine Z_getA (n := 54) dX2_valueFor_51 rfl ffX2_18 rfl rfl ?_
              refine Z_iload (n := 56) dX2_valueFor_54 rfl rfl ?_
              refine Z_iald (n := 57) dX2_valueFor_56 rfl rfl rfl (by first | decide | assumption) (by omega) (by omega) (fun r56 s56 => ?_)
              refine Z_goto (t := 67) dX2_valueFor_57 (by decide) ?_
              refine Z_istore (L' := [_, _, _, _, _, _, _]) (n := 69) dX2_valueFor_67 rfl (by decide) rfl rfl ?_
              refine Z_iinc (L' := [_, _, _, _, _, _, _]) (n := 72) dX2_valueFor_69 rfl rfl (by decide) rfl rfl (by omega) rfl ?_
              refine Z_goto (t := 6) dX2_valueFor_72 (by decide) ?_
              refine Z_loc (L' := [some _, some _, some _, some _, some _, some _, none]) (lsub_same (lsub_same (lsub_same (lsub_same (lsub_same (lsub_same (lsub_none lsub_nil))))))) ?_
              exact ih6 _ _  (by omega) (by first | assumption | omega | decide) (by first | assumption | omega | decide) (by first | assumption | omega | decide) (by first | assumption | omega | decide)
  refine Z_loc (L' := [some _, some _, some _, some _, some _, some _, none]) (lsub_same (lsub_same (lsub_same (lsub_same (lsub_same (lsub_same (lsub_none lsub_nil))))))) ?_
  exact lp6 _ _ _  (Nat.lt_succ_self _) (by first | assumption | omega | decide) (by first | assumption | omega | decide) (by first | assumption | omega | decide) (by first | assumption | omega | decide)
set_option maxRecDepth 20000 in
theorem zX2_leastFor {G : tl_G} {M : zM} {J : zJ} {n s : Int} (h0 : 0 ≤ n) (h1 : n ≤ 251) : ZN G yX2_leastFor mX2_leastFor 1 kAll [vR 5, vI n, vI s, vR 2] F1 M J (qI (fun x M' J' => M' = M ∧ J' = J)) := by
  refine ZN_of (L := [_, _, _, _, _, _, _]) (by decide) rfl rfl (Nat.le_of_ble_eq_true rfl) rfl (fun hav => ?_)
  refine Z_iload_n (n := 1) dX2_leastFor_0 rfl rfl ?_
  refine Z_istore (L' := [_, _, _, _, _, _, _]) (n := 3) dX2_leastFor_1 rfl (by decide) rfl rfl ?_
  refine Z_iconst (n := 4) dX2_leastFor_3 rfl (by decide) ?_
  refine Z_istore (L' := [_, _, _, _, _, _, _]) (n := 6) dX2_leastFor_4 rfl (by decide) rfl rfl ?_
  refine Z_iconst (n := 7) dX2_leastFor_6 rfl (by decide) ?_
  refine Z_istore (L' := [_, _, _, _, _, _, _]) (n := 9) dX2_leastFor_7 rfl (by decide) rfl rfl ?_
  have lp9 : ∀ (N9 : Nat) (c a i : Int) , ((8 - i).toNat) < N9 → (0 ≤ c) → (c ≤ 251) → (0 ≤ i) → (i ≤ 8) → TZ G mX2_leastFor (tl_rm 1 0 0) 0 0 kAll M J 9 [some (vR 5), some (vI n), some (vI s), some (vR 2), some (vI c), some (vI a), some (vI i)] [] F1 M J (ZM G (zPost G kAll F1 M J (qI (fun x M' J' => M' = M ∧ J' = J))) 0 0) := by
    intro N9
    induction N9 with
    | zero => intro c a i  hN; omega
    | succ N9 ih9 =>
      intro c a i  hN9 i9_0 i9_1 i9_2 i9_3
      refine Z_iload (n := 11) dX2_leastFor_9 rfl rfl ?_
      refine Z_bipush (n := 13) dX2_leastFor_11 rfl (by decide) (by decide) ?_
      refine Z_icmp_ge (n := 16) (t := 89) dX2_leastFor_13 rfl (by decide) (fun c13 => ?_) (fun c13 => ?_)
      · refine Z_iload (n := 91) dX2_leastFor_89 rfl rfl ?_
        refine Z_iload_n (n := 92) dX2_leastFor_91 rfl rfl ?_
        refine Z_icmp_ne (n := 95) (t := 100) dX2_leastFor_92 rfl (by decide) (fun c92 => ?_) (fun c92 => ?_)
        · refine Z_bipush (n := 102) dX2_leastFor_100 rfl (by decide) (by decide) ?_
          refine Z_iret dX2_leastFor_102 rfl ?_
          exact ⟨rfl, rfl⟩
        · refine Z_iload (n := 97) dX2_leastFor_95 rfl rfl ?_
          refine Z_goto (t := 102) dX2_leastFor_97 (by decide) ?_
          refine Z_iret dX2_leastFor_102 rfl ?_
          exact ⟨rfl, rfl⟩
      · refine Z_iload (n := 18) dX2_leastFor_16 rfl rfl ?_
        refine Z_iconst (n := 19) dX2_leastFor_18 rfl (by decide) ?_
        refine Z_icmp_lt (n := 22) (t := 89) dX2_leastFor_19 rfl (by decide) (fun c19 => ?_) (fun c19 => ?_)
        · refine Z_iload (n := 91) dX2_leastFor_89 rfl rfl ?_
          refine Z_iload_n (n := 92) dX2_leastFor_91 rfl rfl ?_
          refine Z_icmp_ne (n := 95) (t := 100) dX2_leastFor_92 rfl (by decide) (fun c92 => ?_) (fun c92 => ?_)
          · refine Z_bipush (n := 102) dX2_leastFor_100 rfl (by decide) (by decide) ?_
            refine Z_iret dX2_leastFor_102 rfl ?_
            exact ⟨rfl, rfl⟩
          · refine Z_iload (n := 97) dX2_leastFor_95 rfl rfl ?_
            refine Z_goto (t := 102) dX2_leastFor_97 (by decide) ?_
            refine Z_iret dX2_leastFor_102 rfl ?_
            exact ⟨rfl, rfl⟩
        · refine Z_aload_n (n := 23) dX2_leastFor_22 rfl rfl ?_
          refine Z_getA (n := 26) dX2_leastFor_23 rfl ffX2_15 rfl rfl ?_
          refine Z_iload (n := 28) dX2_leastFor_26 rfl rfl ?_
          refine Z_iald (n := 29) dX2_leastFor_28 rfl rfl rfl (by first | decide | assumption) (by omega) (by omega) (fun r28 s28 => ?_)
          refine Z_iconst (n := 30) dX2_leastFor_29 rfl (by decide) ?_
          refine Z_icmp_ge (n := 33) (t := 44) dX2_leastFor_30 rfl (by decide) (fun c30 => ?_) (fun c30 => ?_)
          · refine Z_aload_n (n := 45) dX2_leastFor_44 rfl rfl ?_
            refine Z_getA (n := 48) dX2_leastFor_45 rfl ffX2_15 rfl rfl ?_
            refine Z_iload (n := 50) dX2_leastFor_48 rfl rfl ?_
            refine Z_iald (n := 51) dX2_leastFor_50 rfl rfl rfl (by first | decide | assumption) (by omega) (by omega) (fun r50 s50 => ?_)
            refine Z_istore (L' := [_, _, _, _, _, _, _]) (n := 53) dX2_leastFor_51 rfl (by decide) rfl rfl ?_
            refine Z_goto (t := 83) dX2_leastFor_53 (by decide) ?_
            refine Z_iinc (L' := [_, _, _, _, _, _, _]) (n := 86) dX2_leastFor_83 rfl rfl (by decide) rfl rfl (by omega) rfl ?_
            refine Z_goto (t := 9) dX2_leastFor_86 (by decide) ?_
            refine Z_loc (L' := [some _, some _, some _, some _, some _, some _, some _]) (lsub_same (lsub_same (lsub_same (lsub_same (lsub_same (lsub_same (lsub_same lsub_nil))))))) ?_
            exact ih9 _ _ _  (by omega) (by first | assumption | omega | decide) (by first | assumption | omega | decide) (by first | assumption | omega | decide) (by first | assumption | omega | decide)
          · refine Z_aload_n (n := 34) dX2_leastFor_33 rfl rfl ?_
            refine Z_getA (n := 37) dX2_leastFor_34 rfl ffX2_15 rfl rfl ?_
            refine Z_iload (n := 39) dX2_leastFor_37 rfl rfl ?_
            refine Z_iald (n := 40) dX2_leastFor_39 rfl rfl rfl (by first | decide | assumption) (by omega) (by omega) (fun r39 s39 => ?_)
            refine Z_iload_n (n := 41) dX2_leastFor_40 rfl rfl ?_
            refine Z_icmp_ne (n := 44) (t := 56) dX2_leastFor_41 rfl (by decide) (fun c41 => ?_) (fun c41 => ?_)
            · refine Z_iload (n := 58) dX2_leastFor_56 rfl rfl ?_
              refine Z_iconst (n := 59) dX2_leastFor_58 rfl (by decide) ?_
              refine Z_aload_n (n := 60) dX2_leastFor_59 rfl rfl ?_
              refine Z_aload_n (n := 61) dX2_leastFor_60 rfl rfl ?_
              refine Z_getA (n := 64) dX2_leastFor_61 rfl ffX2_11 rfl rfl ?_
              refine Z_iload (n := 66) dX2_leastFor_64 rfl rfl ?_
              refine Z_iald (n := 67) dX2_leastFor_66 rfl rfl rfl (by first | decide | assumption) (by omega) (by omega) (fun r66 s66 => ?_)
              rw [if_neg (by omega)] at s66
              refine Z_callVi (n := 70) [_] _ dX2_leastFor_67 rfl cwX2_95 rfl rfl rfl (Nat.le_of_ble_eq_true rfl) (by refine ⟨?_, ?_, ?_, ?_⟩ <;> exact Nat.le_of_ble_eq_true rfl) (fun _ h => h) (zX1_variableAt  (by first | assumption | omega | decide) (by first | assumption | omega | decide)) ?_
              intro x67 M67 J67 z67 f67 q67
              obtain ⟨e67_1, e67_2, h67⟩ := q67
              replace e67_1 := e67_1.symm; subst e67_1
              replace e67_2 := e67_2.symm; subst e67_2
              refine Z_ishl (n := 71) dX2_leastFor_70 rfl ?_
              refine Z_ior (n := 72) dX2_leastFor_71 rfl ?_
              refine Z_istore (L' := [_, _, _, _, _, _, _]) (n := 74) dX2_leastFor_72 rfl (by decide) rfl rfl ?_
              refine Z_aload_n (n := 75) dX2_leastFor_74 rfl rfl ?_
              refine Z_getA (n := 78) dX2_leastFor_75 rfl ffX2_18 rfl rfl ?_
              refine Z_iload (n := 80) dX2_leastFor_78 rfl rfl ?_
              refine Z_iald (n := 81) dX2_leastFor_80 rfl rfl rfl (by first | decide | assumption) (by omega) (by omega) (fun r80 s80 => ?_)
              refine Z_istore (L' := [_, _, _, _, _, _, _]) (n := 83) dX2_leastFor_81 rfl (by decide) rfl rfl ?_
              refine Z_iinc (L' := [_, _, _, _, _, _, _]) (n := 86) dX2_leastFor_83 rfl rfl (by decide) rfl rfl (by omega) rfl ?_
              refine Z_goto (t := 9) dX2_leastFor_86 (by decide) ?_
              refine Z_loc (L' := [some _, some _, some _, some _, some _, some _, some _]) (lsub_same (lsub_same (lsub_same (lsub_same (lsub_same (lsub_same (lsub_same lsub_nil))))))) ?_
              exact ih9 _ _ _  (by omega) (by first | assumption | omega | decide) (by first | assumption | omega | decide) (by first | assumption | omega | decide) (by first | assumption | omega | decide)
            · refine Z_aload_n (n := 45) dX2_leastFor_44 rfl rfl ?_
              refine Z_getA (n := 48) dX2_leastFor_45 rfl ffX2_15 rfl rfl ?_
              refine Z_iload (n := 50) dX2_leastFor_48 rfl rfl ?_
              refine Z_iald (n := 51) dX2_leastFor_50 rfl rfl rfl (by first | decide | assumption) (by omega) (by omega) (fun r50 s50 => ?_)
              refine Z_istore (L' := [_, _, _, _, _, _, _]) (n := 53) dX2_leastFor_51 rfl (by decide) rfl rfl ?_
              refine Z_goto (t := 83) dX2_leastFor_53 (by decide) ?_
              refine Z_iinc (L' := [_, _, _, _, _, _, _]) (n := 86) dX2_leastFor_83 rfl rfl (by decide) rfl rfl (by omega) rfl ?_
              refine Z_goto (t := 9) dX2_leastFor_86 (by decide) ?_
              refine Z_loc (L' := [some _, some _, some _, some _, some _, some _, some _]) (lsub_same (lsub_same (lsub_same (lsub_same (lsub_same (lsub_same (lsub_same lsub_nil))))))) ?_
              exact ih9 _ _ _  (by omega) (by first | assumption | omega | decide) (by first | assumption | omega | decide) (by first | assumption | omega | decide) (by first | assumption | omega | decide)
  refine Z_loc (L' := [some _, some _, some _, some _, some _, some _, some _]) (lsub_same (lsub_same (lsub_same (lsub_same (lsub_same (lsub_same (lsub_same lsub_nil))))))) ?_
  exact lp9 _ _ _ _  (Nat.lt_succ_self _) (by first | assumption | omega | decide) (by first | assumption | omega | decide) (by first | assumption | omega | decide) (by first | assumption | omega | decide)
end
section
/-! ===== Net ===== -/
abbrev kOf (b a : Nat) : Prop := ¬ a = b + 4
abbrev kLN (a : Nat) : Prop := ¬ a = 14
abbrev kGo (b a : Nat) : Prop := ¬ a = b + 4 ∧ (a < 2 ∨ 4 < a)
/-- a net's gates look at gates before them; its outputs are gates -/
def netOK (M : zM) (b : Nat) : Prop := (∀ g : Int, 0 ≤ g → g < M b 4 → (∀ i : Int, 0 ≤ i → i < opF (M (b + 1) g) → 0 ≤ M (b + 2) (3 * g + i) ∧ M (b + 2) (3 * g + i) < g) ∧ (M (b + 1) g = 0 → 0 ≤ M (b + 2) (3 * g) ∧ M (b + 2) (3 * g) < 8)) ∧ ∀ o : Int, 0 ≤ o → o < M b 5 → 0 ≤ M (b + 3) o ∧ M (b + 3) o < M b 4
theorem netOK_fr {M M' : zM} {b : Nat} (h : netOK M b) (h0 : M' b = M b) (h1 : M' (b + 1) = M (b + 1)) (h2 : M' (b + 2) = M (b + 2)) (h3 : M' (b + 3) = M (b + 3)) : netOK M' b := by
  unfold netOK
  rw [h0, h1, h2, h3]
  exact h
theorem oMet_fr {M M' : zM} (h : oMet M) (h2 : M' 2 = M 2) (h4 : M' 4 = M 4) : oMet M' := by
  unfold oMet
  rw [h2, h4]
  exact h
set_option maxRecDepth 20000 in
theorem zX0_gateValue {G : tl_G} {M : zM} {J : zJ} {b : Nat} {g a : Int} (hb : NetAt b) (hN : netOK M b) (h0 : 0 ≤ g) (h1 : g < M b 4) : ZN G yX0_gateValue mX0_gateValue 1 kAll [vR b, vI g, vI a] F1 M J (qI (fun x M' J' => M' = M ∧ J' = J ∧ 0 ≤ x ∧ x ≤ 1)) := by
  refine ZN_of (L := [_, _, _, _, _, _]) (by decide) rfl rfl (Nat.le_of_ble_eq_true rfl) rfl (fun hav => ?_)
  refine Z_rg b 4 (nTg hb) (fun g4 g4b => ?_)
  refine Z_aload_n (n := 1) dX0_gateValue_0 rfl rfl ?_
  refine Z_getA (n := 4) dX0_gateValue_1 rfl ffX0_9 (by first | exact nS0 hb | exact nS1 hb | exact nS2 hb | exact nS3 hb | exact nS4 hb | exact nP0 hb | exact nP1 hb | exact nP2 hb | exact nP3 hb | rfl) (by first | exact nS0 hb | exact nS1 hb | exact nS2 hb | exact nS3 hb | exact nS4 hb | exact nP0 hb | exact nP1 hb | exact nP2 hb | exact nP3 hb | rfl) ?_
  refine Z_iload_n (n := 5) dX0_gateValue_4 rfl rfl ?_
  refine Z_iald (n := 6) dX0_gateValue_5 rfl (by first | exact nS0 hb | exact nS1 hb | exact nS2 hb | exact nS3 hb | exact nS4 hb | exact nP0 hb | exact nP1 hb | exact nP2 hb | exact nP3 hb | rfl) (by first | exact nTg hb | exact nTo hb | exact nT1 hb | exact nT2 hb | exact nT3 hb | exact nT4 hb | rfl) (by first | decide | assumption) (by omega) (by omega) (fun r5 s5 => ?_)
  refine Z_istore_n (L' := [_, _, _, _, _, _]) (n := 7) dX0_gateValue_6 rfl (by decide) rfl rfl ?_
  refine Z_iload_n (n := 8) dX0_gateValue_7 rfl rfl ?_
  refine Z_if_ne (n := 11) (t := 22) dX0_gateValue_8 rfl (by decide) (fun c8 => ?_) (fun c8 => ?_)
  · refine Z_iconst (n := 23) dX0_gateValue_22 rfl (by decide) ?_
    refine Z_istore (L' := [_, _, _, _, _, _]) (n := 25) dX0_gateValue_23 rfl (by decide) rfl rfl ?_
    refine Z_iconst (n := 26) dX0_gateValue_25 rfl (by decide) ?_
    refine Z_istore (L' := [_, _, _, _, _, _]) (n := 28) dX0_gateValue_26 rfl (by decide) rfl rfl ?_
    have lp28 : ∀ (N28 : Nat) (c i : Int) , ((3 - i).toNat) < N28 → (0 ≤ i) → (i ≤ 3) → TZ G mX0_gateValue (tl_rm 1 0 0) 0 0 kAll M J 28 [some (vR b), some (vI g), some (vI a), some (vI (M (b + 1) g)), some (vI c), some (vI i)] [] F1 M J (ZM G (zPost G kAll F1 M J (qI (fun x M' J' => M' = M ∧ J' = J ∧ 0 ≤ x ∧ x ≤ 1))) 0 0) := by
      intro N28
      induction N28 with
      | zero => intro c i  hN; omega
      | succ N28 ih28 =>
        intro c i  hN28 i28_0 i28_1
        refine Z_iload (n := 30) dX0_gateValue_28 rfl rfl ?_
        refine Z_getsN (i := 1) (n := 33) dX0_gateValue_30 rfl (by decide) (by decide) rfl rfl ?_
        refine Z_iload_n (n := 34) dX0_gateValue_33 rfl rfl ?_
        refine Z_ialdS1 (n := 35) dX0_gateValue_34 rfl (by omega) (by omega) (fun r34 s34 => ?_)
        refine Z_icmp_ge (n := 38) (t := 64) dX0_gateValue_35 rfl (by decide) (fun c35 => ?_) (fun c35 => ?_)
        · refine Z_getsN (i := 2) (n := 67) dX0_gateValue_64 rfl (by decide) (by decide) rfl rfl ?_
          refine Z_iload_n (n := 68) dX0_gateValue_67 rfl rfl ?_
          refine Z_ialdS2 (n := 69) dX0_gateValue_68 rfl (by omega) (by omega) (fun r68 s68 => ?_)
          refine Z_iload (n := 71) dX0_gateValue_69 rfl rfl ?_
          refine Z_ishr (n := 72) dX0_gateValue_71 rfl ?_
          refine Z_iconst (n := 73) dX0_gateValue_72 rfl (by decide) ?_
          refine Z_iand (n := 74) dX0_gateValue_73 rfl ?_
          refine Z_iret dX0_gateValue_74 rfl ?_
          have hz := zand_1 (zshr (tabF (M (b + 1) g)) c)
          refine ⟨rfl, rfl, ?_⟩; omega
        · refine Z_iload (n := 40) dX0_gateValue_38 rfl rfl ?_
          refine Z_aload_n (n := 41) dX0_gateValue_40 rfl rfl ?_
          refine Z_getA (n := 44) dX0_gateValue_41 rfl ffX0_21 (by first | exact nS0 hb | exact nS1 hb | exact nS2 hb | exact nS3 hb | exact nS4 hb | exact nP0 hb | exact nP1 hb | exact nP2 hb | exact nP3 hb | rfl) (by first | exact nS0 hb | exact nS1 hb | exact nS2 hb | exact nS3 hb | exact nS4 hb | exact nP0 hb | exact nP1 hb | exact nP2 hb | exact nP3 hb | rfl) ?_
          refine Z_aload_n (n := 45) dX0_gateValue_44 rfl rfl ?_
          refine Z_iload_n (n := 46) dX0_gateValue_45 rfl rfl ?_
          refine Z_iload (n := 48) dX0_gateValue_46 rfl rfl ?_
          refine Z_callVi (n := 51) [_, _] _ dX0_gateValue_48 rfl cwX0_42 rfl rfl (by first | exact nS0 hb | exact nS1 hb | exact nS2 hb | exact nS3 hb | exact nS4 hb | exact nP0 hb | exact nP1 hb | exact nP2 hb | exact nP3 hb | rfl) (Nat.le_of_ble_eq_true rfl) (by refine ⟨?_, ?_, ?_, ?_⟩ <;> exact Nat.le_of_ble_eq_true rfl) (fun _ h => h) (zX0_operand  (by first | assumption | omega | decide) (by first | assumption | omega | decide) (by first | assumption | omega | decide) (by first | assumption | omega | decide) (by first | assumption | omega | decide)) ?_
          intro x48 M48 J48 z48 f48 q48
          obtain ⟨e48_1, e48_2, h48⟩ := q48
          replace e48_1 := e48_1.symm; subst e48_1
          replace e48_2 := e48_2.symm; subst e48_2
          have hop := (hN.1 g h0 h1).1 i (by omega) (by omega)
          rw [← h48] at hop
          refine Z_iald (n := 52) dX0_gateValue_51 rfl (by first | exact nS0 hb | exact nS1 hb | exact nS2 hb | exact nS3 hb | exact nS4 hb | exact nP0 hb | exact nP1 hb | exact nP2 hb | exact nP3 hb | rfl) (by first | exact nTg hb | exact nTo hb | exact nT1 hb | exact nT2 hb | exact nT3 hb | exact nT4 hb | rfl) (by first | decide | assumption) (by omega) (by omega) (fun r51 s51 => ?_)
          refine Z_iload (n := 54) dX0_gateValue_52 rfl rfl ?_
          refine Z_ishl (n := 55) dX0_gateValue_54 rfl ?_
          refine Z_ior (n := 56) dX0_gateValue_55 rfl ?_
          refine Z_istore (L' := [_, _, _, _, _, _]) (n := 58) dX0_gateValue_56 rfl (by decide) rfl rfl ?_
          refine Z_iinc (L' := [_, _, _, _, _, _]) (n := 61) dX0_gateValue_58 rfl rfl (by decide) rfl rfl (by omega) rfl ?_
          refine Z_goto (t := 28) dX0_gateValue_61 (by decide) ?_
          refine Z_loc (L' := [some _, some _, some _, some _, some _, some _]) (lsub_same (lsub_same (lsub_same (lsub_same (lsub_same (lsub_same lsub_nil)))))) ?_
          exact ih28 _ _  (by omega) (by first | assumption | omega | decide) (by first | assumption | omega | decide)
    refine Z_loc (L' := [some _, some _, some _, some _, some _, some _]) (lsub_same (lsub_same (lsub_same (lsub_same (lsub_same (lsub_same lsub_nil)))))) ?_
    exact lp28 _ _ _  (Nat.lt_succ_self _) (by first | assumption | omega | decide) (by first | assumption | omega | decide)
  · refine Z_iload_n (n := 12) dX0_gateValue_11 rfl rfl ?_
    refine Z_aload_n (n := 13) dX0_gateValue_12 rfl rfl ?_
    refine Z_iload_n (n := 14) dX0_gateValue_13 rfl rfl ?_
    refine Z_iconst (n := 15) dX0_gateValue_14 rfl (by decide) ?_
    have ho0 := (hN.1 g h0 h1).2 (by omega)
    refine Z_callVi (n := 18) [_, _] _ dX0_gateValue_15 rfl cwX0_42 rfl rfl (by first | exact nS0 hb | exact nS1 hb | exact nS2 hb | exact nS3 hb | exact nS4 hb | exact nP0 hb | exact nP1 hb | exact nP2 hb | exact nP3 hb | rfl) (Nat.le_of_ble_eq_true rfl) (by refine ⟨?_, ?_, ?_, ?_⟩ <;> exact Nat.le_of_ble_eq_true rfl) (fun _ h => h) (zX0_operand  (by first | assumption | omega | decide) (by first | assumption | omega | decide) (by first | assumption | omega | decide) (by first | assumption | omega | decide) (by first | assumption | omega | decide)) ?_
    intro x15 M15 J15 z15 f15 q15
    obtain ⟨e15_1, e15_2, h15⟩ := q15
    replace e15_1 := e15_1.symm; subst e15_1
    replace e15_2 := e15_2.symm; subst e15_2
    refine Z_ishr (n := 19) dX0_gateValue_18 rfl ?_
    refine Z_iconst (n := 20) dX0_gateValue_19 rfl (by decide) ?_
    refine Z_iand (n := 21) dX0_gateValue_20 rfl ?_
    refine Z_iret dX0_gateValue_21 rfl ?_
    have hz := zand_1 (zshr a x15)
    refine ⟨rfl, rfl, ?_⟩; omega
set_option maxRecDepth 20000 in
theorem zX0_outputValue {G : tl_G} {M : zM} {J : zJ} {b : Nat} {o a : Int} (hb : NetAt b) (hN : netOK M b) (h0 : 0 ≤ o) (h1 : o < M b 5) : ZN G yX0_outputValue mX0_outputValue 2 (kOf b) [vR b, vI o, vI a] F1 M J (qI (fun x M' J' => J' = J ∧ 0 ≤ x ∧ x ≤ 1)) := by
  refine ZN_of (L := [_, _, _, _, _]) (by decide) rfl rfl (Nat.le_of_ble_eq_true rfl) rfl (fun hav => ?_)
  refine Z_rg b 5 (nTo hb) (fun g5 g5b => ?_)
  refine Z_rg b 4 (nTg hb) (fun g4 g4b => ?_)
  have ho := hN.2 o h0 h1
  refine Z_aload_n (n := 1) dX0_outputValue_0 rfl rfl ?_
  refine Z_getA (n := 4) dX0_outputValue_1 rfl ffX0_18 (by first | exact nS0 hb | exact nS1 hb | exact nS2 hb | exact nS3 hb | exact nS4 hb | exact nP0 hb | exact nP1 hb | exact nP2 hb | exact nP3 hb | rfl) (by first | exact nS0 hb | exact nS1 hb | exact nS2 hb | exact nS3 hb | exact nS4 hb | exact nP0 hb | exact nP1 hb | exact nP2 hb | exact nP3 hb | rfl) ?_
  refine Z_iload_n (n := 5) dX0_outputValue_4 rfl rfl ?_
  refine Z_iald (n := 6) dX0_outputValue_5 rfl (by first | exact nS0 hb | exact nS1 hb | exact nS2 hb | exact nS3 hb | exact nS4 hb | exact nP0 hb | exact nP1 hb | exact nP2 hb | exact nP3 hb | rfl) (by first | exact nTg hb | exact nTo hb | exact nT1 hb | exact nT2 hb | exact nT3 hb | exact nT4 hb | rfl) (by first | decide | assumption) (by omega) (by omega) (fun r5 s5 => ?_)
  refine Z_istore_n (L' := [_, _, _, _, _]) (n := 7) dX0_outputValue_6 rfl (by decide) rfl rfl ?_
  refine Z_iconst (n := 8) dX0_outputValue_7 rfl (by decide) ?_
  refine Z_istore (L' := [_, _, _, _, _]) (n := 10) dX0_outputValue_8 rfl (by decide) rfl rfl ?_
  have lp10 : ∀ (N10 : Nat) (g : Int) (M10 : zM) (J10 : zJ), ((M (b + 3) o + 1 - g).toNat) < N10 → (J10 = J) → (0 ≤ g) → (g ≤ M (b + 3) o + 1) → TZ G mX0_outputValue (tl_rm 2 0 0) 0 0 (kOf b) M J 10 [some (vR b), some (vI o), some (vI a), some (vI (M (b + 3) o)), some (vI g)] [] F1 M10 J10 (ZM G (zPost G (kOf b) F1 M J (qI (fun x M' J' => J' = J ∧ 0 ≤ x ∧ x ≤ 1))) 0 0) := by
    intro N10
    induction N10 with
    | zero => intro g M10 J10 hN; omega
    | succ N10 ih10 =>
      intro g M10 J10 hN10 i10_0 i10_1 i10_2
      refine Z_iload (n := 12) dX0_outputValue_10 rfl rfl ?_
      refine Z_iload_n (n := 13) dX0_outputValue_12 rfl rfl ?_
      refine Z_icmp_gt (n := 16) (t := 36) dX0_outputValue_13 rfl (by decide) (fun c13 => ?_) (fun c13 => ?_)
      · refine Z_aload_n (n := 37) dX0_outputValue_36 rfl rfl ?_
        refine Z_getA (n := 40) dX0_outputValue_37 rfl ffX0_21 (by first | exact nS0 hb | exact nS1 hb | exact nS2 hb | exact nS3 hb | exact nS4 hb | exact nP0 hb | exact nP1 hb | exact nP2 hb | exact nP3 hb | rfl) (by first | exact nS0 hb | exact nS1 hb | exact nS2 hb | exact nS3 hb | exact nS4 hb | exact nP0 hb | exact nP1 hb | exact nP2 hb | exact nP3 hb | rfl) ?_
        refine Z_iload_n (n := 41) dX0_outputValue_40 rfl rfl ?_
        refine Z_iald (n := 42) dX0_outputValue_41 rfl (by first | exact nS0 hb | exact nS1 hb | exact nS2 hb | exact nS3 hb | exact nS4 hb | exact nP0 hb | exact nP1 hb | exact nP2 hb | exact nP3 hb | rfl) (by first | exact nTg hb | exact nTo hb | exact nT1 hb | exact nT2 hb | exact nT3 hb | exact nT4 hb | rfl) (by first | decide | assumption) (by omega) (by omega) (fun r41 s41 => ?_)
        refine Z_iret dX0_outputValue_42 rfl ?_
        exact ⟨i10_0, by omega, by omega⟩
      · refine Z_fr (fun fr10 => ?_)
        have hN10 : netOK M10 b := netOK_fr hN (fr10 b (by unfold kOf; omega)).1 (fr10 (b + 1) (by unfold kOf; omega)).1 (fr10 (b + 2) (by unfold kOf; omega)).1 (fr10 (b + 3) (by unfold kOf; omega)).1
        have hb4 : M10 b 4 = M b 4 := congrFun (fr10 b (by unfold kOf; omega)).1 4
        refine Z_aload_n (n := 17) dX0_outputValue_16 rfl rfl ?_
        refine Z_getA (n := 20) dX0_outputValue_17 rfl ffX0_21 (by first | exact nS0 hb | exact nS1 hb | exact nS2 hb | exact nS3 hb | exact nS4 hb | exact nP0 hb | exact nP1 hb | exact nP2 hb | exact nP3 hb | rfl) (by first | exact nS0 hb | exact nS1 hb | exact nS2 hb | exact nS3 hb | exact nS4 hb | exact nP0 hb | exact nP1 hb | exact nP2 hb | exact nP3 hb | rfl) ?_
        refine Z_iload (n := 22) dX0_outputValue_20 rfl rfl ?_
        refine Z_aload_n (n := 23) dX0_outputValue_22 rfl rfl ?_
        refine Z_iload (n := 25) dX0_outputValue_23 rfl rfl ?_
        refine Z_iload_n (n := 26) dX0_outputValue_25 rfl rfl ?_
        refine Z_callVi (n := 29) [_, _] _ dX0_outputValue_26 rfl cwX0_38 rfl rfl (by first | exact nS0 hb | exact nS1 hb | exact nS2 hb | exact nS3 hb | exact nS4 hb | exact nP0 hb | exact nP1 hb | exact nP2 hb | exact nP3 hb | rfl) (Nat.le_of_ble_eq_true rfl) (by refine ⟨?_, ?_, ?_, ?_⟩ <;> exact Nat.le_of_ble_eq_true rfl) (fun _ _ => trivial) (zX0_gateValue  (by first | assumption | omega | decide) (by first | assumption | omega | decide) (by first | assumption | omega | decide) (by first | assumption | omega | decide)) ?_
        intro x26 M26 J26 z26 f26 q26
        obtain ⟨e26_1, e26_2, h26⟩ := q26
        replace e26_1 := e26_1.symm; subst e26_1
        replace e26_2 := e26_2.symm; subst e26_2
        refine Z_iast (n := 30) dX0_outputValue_29 rfl (by first | exact nS0 hb | exact nS1 hb | exact nS2 hb | exact nS3 hb | exact nS4 hb | exact nP0 hb | exact nP1 hb | exact nP2 hb | exact nP3 hb | rfl) (by first | exact nTg hb | exact nTo hb | exact nT1 hb | exact nT2 hb | exact nT3 hb | exact nT4 hb | rfl) (by first | decide | assumption) (by omega) (by omega) (by first | assumption | omega | decide) (by first | assumption | omega | decide) (by unfold kOf; omega) ?_
        refine Z_any (fun M29 => ?_)
        refine Z_iinc (L' := [_, _, _, _, _]) (n := 33) dX0_outputValue_30 rfl rfl (by decide) rfl rfl (by omega) rfl ?_
        refine Z_goto (t := 10) dX0_outputValue_33 (by decide) ?_
        refine Z_loc (L' := [some _, some _, some _, some _, some _]) (lsub_same (lsub_same (lsub_same (lsub_same (lsub_same lsub_nil))))) ?_
        exact ih10 _ _ _ (by omega) (by first | rfl | assumption) (by first | assumption | omega | decide) (by first | assumption | omega | decide)
  refine Z_loc (L' := [some _, some _, some _, some _, some _]) (lsub_same (lsub_same (lsub_same (lsub_same (lsub_same lsub_nil))))) ?_
  exact lp10 _ _ _ _ (Nat.lt_succ_self _) (by first | rfl | assumption) (by first | assumption | omega | decide) (by first | assumption | omega | decide)
end
section
/-! ===== the bench: steps ===== -/
abbrev kColl (a : Nat) : Prop := ¬ a = 5 ∧ ¬ a = 9 ∧ ¬ a = 10 ∧ ¬ a = 11
abbrev kKeep (a : Nat) : Prop := ¬ a = 0 ∧ ¬ a = 15
abbrev k0 (a : Nat) : Prop := ¬ a = 0
abbrev k13 (a : Nat) : Prop := ¬ a = 13
abbrev kGive (a : Nat) : Prop := ¬ a = 0 ∧ ¬ a = 9 ∧ ¬ a = 12 ∧ ¬ a = 13
def ordOK (M : zM) : Prop := ∀ v : Int, 0 ≤ v → v < 8 → 0 ≤ M 4 v
theorem ordOK_fr {M M' : zM} (h : ordOK M) (h4 : M' 4 = M 4) : ordOK M' := by
  unfold ordOK
  rw [h4]
  exact h
def noH (M : zM) : Prop := ∀ h : Int, 0 ≤ h → h < 12 → M 12 h = -1
def frsh (M : zM) : Prop := noH M ∧ (∀ g : Int, 0 ≤ g → g < 40 → M 13 g = -1) ∧ M 0 7 = 0
theorem Z_nm {G : tl_G} {mt : tl_M} {R : Room} {cells slots pc : Nat} {K : Nat → Prop} {M0 : zM} {J0 : zJ} {L : List (Option zV)} {st : List zV} {F : zF} {M : zM} {J : zJ} {Z : tl_Z} (k : ∀ M1, M1 = M → TZ G mt R cells slots K M0 J0 pc L st F M1 J Z) : TZ G mt R cells slots K M0 J0 pc L st F M J Z := k M rfl
set_option maxRecDepth 20000 in
theorem zX3_beginSteps {G : tl_G} {M : zM} {J : zJ} {K : Nat → Prop} (hK0 : ¬ K 0) : ZN G yX3_beginSteps mX3_beginSteps 0 K [vR 0] F1 M J (qV (fun M' J' => J' = J ∧ M' = uz M 0 8 0)) := by
  refine ZN_of (L := [_]) (by decide) rfl rfl (Nat.le_of_ble_eq_true rfl) rfl (fun hav => ?_)
  refine Z_aload_n (n := 1) dX3_beginSteps_0 rfl rfl ?_
  refine Z_iconst (n := 2) dX3_beginSteps_1 rfl (by decide) ?_
  refine Z_putI (n := 5) (ki := 8) dX3_beginSteps_2 rfl ffX3_46 rfl (by decide) rfl rfl (by first | assumption | omega | decide) (by first | assumption | omega | decide) (by assumption) ?_
  refine Z_vret dX3_beginSteps_5 rfl ?_
  exact ⟨rfl, rfl⟩
set_option maxRecDepth 20000 in
theorem zX3_endSteps {G : tl_G} {M : zM} {J : zJ} {K : Nat → Prop} (hK0 : ¬ K 0) (hK13 : ¬ K 13) : ZN G yX3_endSteps mX3_endSteps 1 K [vR 0] F1 M J (qV (fun M' J' => J' = J ∧ M' = fillz (uz M 0 7 0) 13 40 (-1))) := by
  refine ZN_of (L := [_]) (by decide) rfl rfl (Nat.le_of_ble_eq_true rfl) rfl (fun hav => ?_)
  refine Z_aload_n (n := 1) dX3_endSteps_0 rfl rfl ?_
  refine Z_iconst (n := 2) dX3_endSteps_1 rfl (by decide) ?_
  refine Z_putI (n := 5) (ki := 7) dX3_endSteps_2 rfl ffX3_42 rfl (by decide) rfl rfl (by first | assumption | omega | decide) (by first | assumption | omega | decide) (by assumption) ?_
  refine Z_aload_n (n := 6) dX3_endSteps_5 rfl rfl ?_
  refine Z_getA (n := 9) dX3_endSteps_6 rfl ffX3_33 rfl rfl ?_
  refine Z_iconst (n := 10) dX3_endSteps_9 rfl (by decide) ?_
  refine Z_callSv (n := 13) [_, _] _ dX3_endSteps_10 rfl cwX3_56 rfl rfl (Nat.le_of_ble_eq_true rfl) (by refine ⟨?_, ?_, ?_, ?_⟩ <;> exact Nat.le_of_ble_eq_true rfl) (fun _ h => h) (zJ7_fill_53178  (by rfl) (by decide) (by exact fun _ => rfl) (by decide) (by decide) (by assumption)) ?_
  intro M10 J10 f10 q10
  obtain ⟨e10_1, e10_2⟩ := q10
  replace e10_1 := e10_1.symm; subst e10_1
  replace e10_2 := e10_2.symm; subst e10_2
  refine Z_vret dX3_endSteps_13 rfl ?_
  exact ⟨rfl, rfl⟩
end
section
/-! ===== the class: its face ===== -/
abbrev kF (_ : Nat) : Prop := False
abbrev kPub (a : Nat) : Prop := 15 < a ∧ ¬ a = 20 ∧ ¬ a = 25 ∧ ¬ a = 30
def cI (M : zM) : Prop := pI M ∧ ordOK M ∧ netOK M 16 ∧ netOK M 21 ∧ netOK M 26
theorem cI_net {M : zM} (h : cI M) {b : Nat} (hb : NetAt b) : netOK M b := by
  rcases hb with rfl | rfl | rfl
  · exact h.2.2.1
  · exact h.2.2.2.1
  · exact h.2.2.2.2
theorem cI_mk {M M' : zM} {J J' : zJ} (hc : cI M) (fr : ∀ a, kPub a → M' a = M a ∧ J' a = J a) (hp : pI M') (ho : ordOK M') : cI M' :=
  ⟨hp, ho, netOK_fr hc.2.2.1 (fr 16 (by decide)).1 (fr 17 (by decide)).1 (fr 18 (by decide)).1 (fr 19 (by decide)).1, netOK_fr hc.2.2.2.1 (fr 21 (by decide)).1 (fr 22 (by decide)).1 (fr 23 (by decide)).1 (fr 24 (by decide)).1, netOK_fr hc.2.2.2.2 (fr 26 (by decide)).1 (fr 27 (by decide)).1 (fr 28 (by decide)).1 (fr 29 (by decide)).1⟩
def noOut (M : zM) : Prop := ∀ j : Int, 0 ≤ j → j < 3 → M (nA j) 5 = 0
set_option maxRecDepth 20000 in
theorem zX3_gate {G : tl_G} {M : zM} {J : zJ} {net k u v w : Int}  : ZN G yX3_gate mX3_gate 2 kF [vR 0, vI net, vI k, vI u, vI v, vI w] F1 M J (qI (fun x M' J' => J' = J ∧ (((net < 0 ∨ 3 ≤ net) ∧ x = -1 ∧ M' = M) ∨ (0 ≤ net ∧ net < 3 ∧ (k < 0 ∨ 10 < k) ∧ x = -2 ∧ M' = M) ∨ (0 ≤ net ∧ net < 3 ∧ 0 ≤ k ∧ k ≤ 10 ∧ ¬ ((opF k < 1 ∨ (0 ≤ u ∧ u < M (nA net) 4)) ∧ (opF k < 2 ∨ (0 ≤ v ∧ v < M (nA net) 4)) ∧ (opF k < 3 ∨ (0 ≤ w ∧ w < M (nA net) 4))) ∧ x = -1 ∧ M' = M) ∨ (0 ≤ net ∧ net < 3 ∧ 0 ≤ k ∧ k ≤ 10 ∧ ((opF k < 1 ∨ (0 ≤ u ∧ u < M (nA net) 4)) ∧ (opF k < 2 ∨ (0 ≤ v ∧ v < M (nA net) 4)) ∧ (opF k < 3 ∨ (0 ≤ w ∧ w < M (nA net) 4))) ∧ ((k = 0 ∧ (u < 0 ∨ 8 ≤ u) ∧ x = -2 ∧ M' = M) ∨ ((¬ k = 0 ∨ (0 ≤ u ∧ u < 8)) ∧ ((x = -4 ∧ M' = M ∧ 40 ≤ M (nA net) 4) ∨ (x = M (nA net) 4 ∧ M (nA net) 4 < 40 ∧ M' = uz (uz (uz (uz (uz M (nA net + 1) (M (nA net) 4) k) (nA net + 2) (3 * M (nA net) 4) u) (nA net + 2) (3 * M (nA net) 4 + 1) v) (nA net + 2) (3 * M (nA net) 4 + 2) w) (nA net) 4 (M (nA net) 4 + 1))))))))) := by
  refine ZN_of (L := [_, _, _, _, _, _]) (by decide) rfl rfl (Nat.le_of_ble_eq_true rfl) rfl (fun hav => ?_)
  refine Z_iload_n (n := 1) dX3_gate_0 rfl rfl ?_
  refine Z_callSi (n := 4) [_] _ dX3_gate_1 rfl cwX3_62 rfl rfl (Nat.le_of_ble_eq_true rfl) (by refine ⟨?_, ?_, ?_, ?_⟩ <;> exact Nat.le_of_ble_eq_true rfl) (fun _ _ => trivial) (zX3_isNet  ) ?_
  intro x1 M1 J1 z1 f1 q1
  obtain ⟨e1_1, e1_2, h1⟩ := q1
  replace e1_1 := e1_1.symm; subst e1_1
  replace e1_2 := e1_2.symm; subst e1_2
  refine Z_if_ne (n := 7) (t := 9) dX3_gate_4 rfl (by decide) (fun c4 => ?_) (fun c4 => ?_)
  · refine Z_iload_n (n := 10) dX3_gate_9 rfl rfl ?_
    refine Z_if_lt (n := 13) (t := 19) dX3_gate_10 rfl (by decide) (fun c10 => ?_) (fun c10 => ?_)
    · refine Z_bipush (n := 21) dX3_gate_19 rfl (by decide) (by decide) ?_
      refine Z_iret dX3_gate_21 rfl ?_
      exact ⟨rfl, Or.inr (Or.inl ⟨by omega, by omega, by omega, rfl, rfl⟩)⟩
    · refine Z_iload_n (n := 14) dX3_gate_13 rfl rfl ?_
      refine Z_bipush (n := 16) dX3_gate_14 rfl (by decide) (by decide) ?_
      refine Z_icmp_le (n := 19) (t := 22) dX3_gate_16 rfl (by decide) (fun c16 => ?_) (fun c16 => ?_)
      · refine Z_aload_n (n := 23) dX3_gate_22 rfl rfl ?_
        refine Z_getA (n := 26) dX3_gate_23 rfl ffX3_11 (by first | rfl | exact nS0 (nA_at (by omega) (by omega))) (by first | rfl | exact nS0 (nA_at (by omega) (by omega))) ?_
        refine Z_iload_n (n := 27) dX3_gate_26 rfl rfl ?_
        refine Z_aald (n := 28) dX3_gate_27 rfl (by first | rfl | exact nS0 (nA_at (by omega) (by omega))) (by decide) (by omega) (by omega) (nA_P (by omega) (by omega)) ?_
        refine Z_iload_n (n := 29) dX3_gate_28 rfl rfl ?_
        refine Z_iload_n (n := 30) dX3_gate_29 rfl rfl ?_
        refine Z_iload (n := 32) dX3_gate_30 rfl rfl ?_
        refine Z_iload (n := 34) dX3_gate_32 rfl rfl ?_
        refine Z_callVi (n := 37) [_, _, _, _] _ dX3_gate_34 rfl cwX3_66 rfl rfl (by first | rfl | exact nS0 (nA_at (by omega) (by omega))) (Nat.le_of_ble_eq_true rfl) (by refine ⟨?_, ?_, ?_, ?_⟩ <;> exact Nat.le_of_ble_eq_true rfl) (fun _ _ => trivial) (zX0_hasOperands  (by exact nA_at (by omega) (by omega)) (by first | assumption | omega | decide) (by first | assumption | omega | decide)) ?_
        intro x34 M34 J34 z34 f34 q34
        obtain ⟨e34_1, e34_2, h34⟩ := q34
        replace e34_1 := e34_1.symm; subst e34_1
        replace e34_2 := e34_2.symm; subst e34_2
        refine Z_if_ne (n := 40) (t := 42) dX3_gate_37 rfl (by decide) (fun c37 => ?_) (fun c37 => ?_)
        · refine Z_iload_n (n := 43) dX3_gate_42 rfl rfl ?_
          refine Z_if_ne (n := 46) (t := 56) dX3_gate_43 rfl (by decide) (fun c43 => ?_) (fun c43 => ?_)
          · refine Z_aload_n (n := 57) dX3_gate_56 rfl rfl ?_
            refine Z_getA (n := 60) dX3_gate_57 rfl ffX3_11 (by first | rfl | exact nS0 (nA_at (by omega) (by omega))) (by first | rfl | exact nS0 (nA_at (by omega) (by omega))) ?_
            refine Z_iload_n (n := 61) dX3_gate_60 rfl rfl ?_
            refine Z_aald (n := 62) dX3_gate_61 rfl (by first | rfl | exact nS0 (nA_at (by omega) (by omega))) (by decide) (by omega) (by omega) (nA_P (by omega) (by omega)) ?_
            refine Z_iload_n (n := 63) dX3_gate_62 rfl rfl ?_
            refine Z_iload_n (n := 64) dX3_gate_63 rfl rfl ?_
            refine Z_iload (n := 66) dX3_gate_64 rfl rfl ?_
            refine Z_iload (n := 68) dX3_gate_66 rfl rfl ?_
            refine Z_callVi (n := 71) [_, _, _, _] _ dX3_gate_68 rfl cwX3_73 rfl rfl (by first | rfl | exact nS0 (nA_at (by omega) (by omega))) (Nat.le_of_ble_eq_true rfl) (by refine ⟨?_, ?_, ?_, ?_⟩ <;> exact Nat.le_of_ble_eq_true rfl) (fun _ h => h) (zX0_addGate  (by exact nA_at (by omega) (by omega)) (by first | assumption | omega | decide) (by first | assumption | omega | decide) (by exact fun h => h) (by exact fun h => h) (by exact fun h => h)) ?_
            intro x68 M68 J68 z68 f68 q68
            obtain ⟨e68_1, h68⟩ := q68
            replace e68_1 := e68_1.symm; subst e68_1
            refine Z_iret dX3_gate_71 rfl ?_
            rcases h34 with ⟨-, q⟩ | ⟨q, -⟩
            · exact ⟨rfl, Or.inr (Or.inr (Or.inr ⟨by omega, by omega, by omega, by omega, q, Or.inr ⟨by omega, h68⟩⟩))⟩
            · omega
          · refine Z_iload_n (n := 47) dX3_gate_46 rfl rfl ?_
            refine Z_callSi (n := 50) [_] _ dX3_gate_47 rfl cwX3_70 rfl rfl (Nat.le_of_ble_eq_true rfl) (by refine ⟨?_, ?_, ?_, ?_⟩ <;> exact Nat.le_of_ble_eq_true rfl) (fun _ _ => trivial) (zX3_isVariable  ) ?_
            intro x47 M47 J47 z47 f47 q47
            obtain ⟨e47_1, e47_2, h47⟩ := q47
            replace e47_1 := e47_1.symm; subst e47_1
            replace e47_2 := e47_2.symm; subst e47_2
            refine Z_if_ne (n := 53) (t := 56) dX3_gate_50 rfl (by decide) (fun c50 => ?_) (fun c50 => ?_)
            · refine Z_aload_n (n := 57) dX3_gate_56 rfl rfl ?_
              refine Z_getA (n := 60) dX3_gate_57 rfl ffX3_11 (by first | rfl | exact nS0 (nA_at (by omega) (by omega))) (by first | rfl | exact nS0 (nA_at (by omega) (by omega))) ?_
              refine Z_iload_n (n := 61) dX3_gate_60 rfl rfl ?_
              refine Z_aald (n := 62) dX3_gate_61 rfl (by first | rfl | exact nS0 (nA_at (by omega) (by omega))) (by decide) (by omega) (by omega) (nA_P (by omega) (by omega)) ?_
              refine Z_iload_n (n := 63) dX3_gate_62 rfl rfl ?_
              refine Z_iload_n (n := 64) dX3_gate_63 rfl rfl ?_
              refine Z_iload (n := 66) dX3_gate_64 rfl rfl ?_
              refine Z_iload (n := 68) dX3_gate_66 rfl rfl ?_
              refine Z_callVi (n := 71) [_, _, _, _] _ dX3_gate_68 rfl cwX3_73 rfl rfl (by first | rfl | exact nS0 (nA_at (by omega) (by omega))) (Nat.le_of_ble_eq_true rfl) (by refine ⟨?_, ?_, ?_, ?_⟩ <;> exact Nat.le_of_ble_eq_true rfl) (fun _ h => h) (zX0_addGate  (by exact nA_at (by omega) (by omega)) (by first | assumption | omega | decide) (by first | assumption | omega | decide) (by exact fun h => h) (by exact fun h => h) (by exact fun h => h)) ?_
              intro x68 M68 J68 z68 f68 q68
              obtain ⟨e68_1, h68⟩ := q68
              replace e68_1 := e68_1.symm; subst e68_1
              refine Z_iret dX3_gate_71 rfl ?_
              rcases h34 with ⟨-, q⟩ | ⟨q, -⟩
              · exact ⟨rfl, Or.inr (Or.inr (Or.inr ⟨by omega, by omega, by omega, by omega, q, Or.inr ⟨by omega, h68⟩⟩))⟩
              · omega
            · refine Z_bipush (n := 55) dX3_gate_53 rfl (by decide) (by decide) ?_
              refine Z_iret dX3_gate_55 rfl ?_
              rcases h34 with ⟨-, q⟩ | ⟨q, -⟩
              · exact ⟨rfl, Or.inr (Or.inr (Or.inr ⟨by omega, by omega, by omega, by omega, q, Or.inl ⟨by omega, by omega, rfl, rfl⟩⟩))⟩
              · omega
        · refine Z_iconst (n := 41) dX3_gate_40 rfl (by decide) ?_
          refine Z_iret dX3_gate_41 rfl ?_
          rcases h34 with ⟨q, -⟩ | ⟨-, q⟩
          · omega
          · exact ⟨rfl, Or.inr (Or.inr (Or.inl ⟨by omega, by omega, by omega, by omega, q, rfl, rfl⟩))⟩
      · refine Z_bipush (n := 21) dX3_gate_19 rfl (by decide) (by decide) ?_
        refine Z_iret dX3_gate_21 rfl ?_
        exact ⟨rfl, Or.inr (Or.inl ⟨by omega, by omega, by omega, rfl, rfl⟩)⟩
  · refine Z_iconst (n := 8) dX3_gate_7 rfl (by decide) ?_
    refine Z_iret dX3_gate_8 rfl ?_
    exact ⟨rfl, Or.inl ⟨by omega, rfl, rfl⟩⟩
set_option maxRecDepth 20000 in
theorem zX3_output {G : tl_G} {M : zM} {J : zJ} {net g : Int}  : ZN G yX3_output mX3_output 2 kF [vR 0, vI net, vI g] F1 M J (qI (fun x M' J' => J' = J ∧ (((net < 0 ∨ 3 ≤ net) ∧ x = -1 ∧ M' = M) ∨ (0 ≤ net ∧ net < 3 ∧ (g < 0 ∨ M (nA net) 4 ≤ g) ∧ x = -1 ∧ M' = M) ∨ (0 ≤ net ∧ net < 3 ∧ 0 ≤ g ∧ g < M (nA net) 4 ∧ ((x = -4 ∧ M' = M ∧ 4 ≤ M (nA net) 5) ∨ (x = M (nA net) 5 ∧ M (nA net) 5 < 4 ∧ M' = uz (uz M (nA net + 3) (M (nA net) 5) g) (nA net) 5 (M (nA net) 5 + 1))))))) := by
  refine ZN_of (L := [_, _, _]) (by decide) rfl rfl (Nat.le_of_ble_eq_true rfl) rfl (fun hav => ?_)
  refine Z_iload_n (n := 1) dX3_output_0 rfl rfl ?_
  refine Z_callSi (n := 4) [_] _ dX3_output_1 rfl cwX3_62 rfl rfl (Nat.le_of_ble_eq_true rfl) (by refine ⟨?_, ?_, ?_, ?_⟩ <;> exact Nat.le_of_ble_eq_true rfl) (fun _ _ => trivial) (zX3_isNet  ) ?_
  intro x1 M1 J1 z1 f1 q1
  obtain ⟨e1_1, e1_2, h1⟩ := q1
  replace e1_1 := e1_1.symm; subst e1_1
  replace e1_2 := e1_2.symm; subst e1_2
  refine Z_if_eq (n := 7) (t := 20) dX3_output_4 rfl (by decide) (fun c4 => ?_) (fun c4 => ?_)
  · refine Z_iconst (n := 21) dX3_output_20 rfl (by decide) ?_
    refine Z_iret dX3_output_21 rfl ?_
    first | exact ⟨rfl, Or.inl ⟨by omega, rfl, rfl⟩⟩ | exact ⟨rfl, Or.inr (Or.inl ⟨by omega, by omega, by omega, rfl, rfl⟩)⟩
  · refine Z_aload_n (n := 8) dX3_output_7 rfl rfl ?_
    refine Z_getA (n := 11) dX3_output_8 rfl ffX3_11 (by first | rfl | exact nS0 (nA_at (by omega) (by omega))) (by first | rfl | exact nS0 (nA_at (by omega) (by omega))) ?_
    refine Z_iload_n (n := 12) dX3_output_11 rfl rfl ?_
    refine Z_aald (n := 13) dX3_output_12 rfl (by first | rfl | exact nS0 (nA_at (by omega) (by omega))) (by decide) (by omega) (by omega) (nA_P (by omega) (by omega)) ?_
    refine Z_iload_n (n := 14) dX3_output_13 rfl rfl ?_
    refine Z_callVi (n := 17) [_] _ dX3_output_14 rfl cwX3_77 rfl rfl (by first | rfl | exact nS0 (nA_at (by omega) (by omega))) (Nat.le_of_ble_eq_true rfl) (by refine ⟨?_, ?_, ?_, ?_⟩ <;> exact Nat.le_of_ble_eq_true rfl) (fun _ _ => trivial) (zX0_hasGate  (by exact nA_at (by omega) (by omega))) ?_
    intro x14 M14 J14 z14 f14 q14
    obtain ⟨e14_1, e14_2, h14⟩ := q14
    replace e14_1 := e14_1.symm; subst e14_1
    replace e14_2 := e14_2.symm; subst e14_2
    refine Z_if_ne (n := 20) (t := 22) dX3_output_17 rfl (by decide) (fun c17 => ?_) (fun c17 => ?_)
    · refine Z_aload_n (n := 23) dX3_output_22 rfl rfl ?_
      refine Z_getA (n := 26) dX3_output_23 rfl ffX3_11 (by first | rfl | exact nS0 (nA_at (by omega) (by omega))) (by first | rfl | exact nS0 (nA_at (by omega) (by omega))) ?_
      refine Z_iload_n (n := 27) dX3_output_26 rfl rfl ?_
      refine Z_aald (n := 28) dX3_output_27 rfl (by first | rfl | exact nS0 (nA_at (by omega) (by omega))) (by decide) (by omega) (by omega) (nA_P (by omega) (by omega)) ?_
      refine Z_rg (nA net) 4 (nTg (nA_at (by omega) (by omega))) (fun g4 g4b => ?_)
      refine Z_iload_n (n := 29) dX3_output_28 rfl rfl ?_
      refine Z_callVi (n := 32) [_] _ dX3_output_29 rfl cwX3_80 rfl rfl (by first | rfl | exact nS0 (nA_at (by omega) (by omega))) (Nat.le_of_ble_eq_true rfl) (by refine ⟨?_, ?_, ?_, ?_⟩ <;> exact Nat.le_of_ble_eq_true rfl) (fun _ h => h) (zX0_addOutput  (by exact nA_at (by omega) (by omega)) (by omega) (by omega) (by exact fun h => h) (by exact fun h => h)) ?_
      intro x29 M29 J29 z29 f29 q29
      obtain ⟨e29_1, h29⟩ := q29
      replace e29_1 := e29_1.symm; subst e29_1
      refine Z_iret dX3_output_32 rfl ?_
      exact ⟨rfl, Or.inr (Or.inr ⟨by omega, by omega, by omega, by omega, h29⟩)⟩
    · refine Z_iconst (n := 21) dX3_output_20 rfl (by decide) ?_
      refine Z_iret dX3_output_21 rfl ?_
      first | exact ⟨rfl, Or.inl ⟨by omega, rfl, rfl⟩⟩ | exact ⟨rfl, Or.inr (Or.inl ⟨by omega, by omega, by omega, rfl, rfl⟩)⟩
set_option maxRecDepth 20000 in
theorem zX3_clear {G : tl_G} {M : zM} {J : zJ} {net : Int}  : ZN G yX3_clear mX3_clear 1 kF [vR 0, vI net] F1 M J (qI (fun x M' J' => J' = J ∧ (((net < 0 ∨ 3 ≤ net) ∧ x = -1 ∧ M' = M) ∨ (0 ≤ net ∧ net < 3 ∧ x = M (nA net) 4 ∧ M' = uz (uz M (nA net) 4 0) (nA net) 5 0)))) := by
  refine ZN_of (L := [_, _]) (by decide) rfl rfl (Nat.le_of_ble_eq_true rfl) rfl (fun hav => ?_)
  refine Z_iload_n (n := 1) dX3_clear_0 rfl rfl ?_
  refine Z_callSi (n := 4) [_] _ dX3_clear_1 rfl cwX3_62 rfl rfl (Nat.le_of_ble_eq_true rfl) (by refine ⟨?_, ?_, ?_, ?_⟩ <;> exact Nat.le_of_ble_eq_true rfl) (fun _ _ => trivial) (zX3_isNet  ) ?_
  intro x1 M1 J1 z1 f1 q1
  obtain ⟨e1_1, e1_2, h1⟩ := q1
  replace e1_1 := e1_1.symm; subst e1_1
  replace e1_2 := e1_2.symm; subst e1_2
  refine Z_if_ne (n := 7) (t := 9) dX3_clear_4 rfl (by decide) (fun c4 => ?_) (fun c4 => ?_)
  · refine Z_aload_n (n := 10) dX3_clear_9 rfl rfl ?_
    refine Z_getA (n := 13) dX3_clear_10 rfl ffX3_11 (by first | rfl | exact nS0 (nA_at (by omega) (by omega))) (by first | rfl | exact nS0 (nA_at (by omega) (by omega))) ?_
    refine Z_iload_n (n := 14) dX3_clear_13 rfl rfl ?_
    refine Z_aald (n := 15) dX3_clear_14 rfl (by first | rfl | exact nS0 (nA_at (by omega) (by omega))) (by decide) (by omega) (by omega) (nA_P (by omega) (by omega)) ?_
    refine Z_callVi (n := 18) [] _ dX3_clear_15 rfl cwX3_84 rfl rfl (by first | rfl | exact nS0 (nA_at (by omega) (by omega))) (Nat.le_of_ble_eq_true rfl) (by refine ⟨?_, ?_, ?_, ?_⟩ <;> exact Nat.le_of_ble_eq_true rfl) (fun _ h => h) (zX0_empty  (by exact nA_at (by omega) (by omega)) (by exact fun h => h)) ?_
    intro x15 M15 J15 z15 f15 q15
    obtain ⟨e15_1, h15, e15_2⟩ := q15
    replace e15_1 := e15_1.symm; subst e15_1
    replace e15_2 := e15_2.symm; subst e15_2
    refine Z_iret dX3_clear_18 rfl ?_
    exact ⟨rfl, Or.inr ⟨by omega, by omega, h15, rfl⟩⟩
  · refine Z_iconst (n := 8) dX3_clear_7 rfl (by decide) ?_
    refine Z_iret dX3_clear_8 rfl ?_
    exact ⟨rfl, Or.inl ⟨by omega, rfl, rfl⟩⟩
set_option maxRecDepth 20000 in
theorem zX3_at {G : tl_G} {M : zM} {J : zJ} {p : Int}  : ZN G yX3_at mX3_at 1 kAll [vR 0, vI p] F1 M J (qI (fun x M' J' => M' = M ∧ J' = J ∧ (((p < 0 ∨ 8 ≤ p) ∧ x = -2) ∨ (0 ≤ p ∧ p < 8 ∧ x = M 3 p)))) := by
  refine ZN_of (L := [_, _]) (by decide) rfl rfl (Nat.le_of_ble_eq_true rfl) rfl (fun hav => ?_)
  refine Z_iload_n (n := 1) dX3_at_0 rfl rfl ?_
  refine Z_callSi (n := 4) [_] _ dX3_at_1 rfl cwX3_70 rfl rfl (Nat.le_of_ble_eq_true rfl) (by refine ⟨?_, ?_, ?_, ?_⟩ <;> exact Nat.le_of_ble_eq_true rfl) (fun _ h => h) (zX3_isVariable  ) ?_
  intro x1 M1 J1 z1 f1 q1
  obtain ⟨e1_1, e1_2, h1⟩ := q1
  replace e1_1 := e1_1.symm; subst e1_1
  replace e1_2 := e1_2.symm; subst e1_2
  refine Z_if_ne (n := 7) (t := 10) dX3_at_4 rfl (by decide) (fun c4 => ?_) (fun c4 => ?_)
  · refine Z_aload_n (n := 11) dX3_at_10 rfl rfl ?_
    refine Z_getO (n := 14) dX3_at_11 rfl ffX3_18 (by first | rfl | exact nS0 (nA_at (by omega) (by omega))) (by first | rfl | exact nS0 (nA_at (by omega) (by omega))) ?_
    refine Z_iload_n (n := 15) dX3_at_14 rfl rfl ?_
    refine Z_callVi (n := 18) [_] _ dX3_at_15 rfl cwX3_114 rfl rfl (by first | rfl | exact nS0 (nA_at (by omega) (by omega))) (Nat.le_of_ble_eq_true rfl) (by refine ⟨?_, ?_, ?_, ?_⟩ <;> exact Nat.le_of_ble_eq_true rfl) (fun _ h => h) (zX1_variableAt  (by first | assumption | omega | decide) (by first | assumption | omega | decide)) ?_
    intro x15 M15 J15 z15 f15 q15
    obtain ⟨e15_1, e15_2, h15⟩ := q15
    replace e15_1 := e15_1.symm; subst e15_1
    replace e15_2 := e15_2.symm; subst e15_2
    refine Z_iret dX3_at_18 rfl ?_
    refine ⟨rfl, rfl, ?_⟩; omega
  · refine Z_bipush (n := 9) dX3_at_7 rfl (by decide) (by decide) ?_
    refine Z_iret dX3_at_9 rfl ?_
    refine ⟨rfl, rfl, ?_⟩; omega
end
section
/-! ===== the class: its face, second half ===== -/
set_option maxRecDepth 20000 in
theorem zX3_value {G : tl_G} {M : zM} {J : zJ} {f a : Int}  : ZN G yX3_value mX3_value 2 kAll [vR 0, vI f, vI a] F1 M J (qI (fun x M' J' => M' = M ∧ J' = J ∧ (noH M → x = -1))) := by
  refine ZN_of (L := [_, _, _]) (by decide) rfl rfl (Nat.le_of_ble_eq_true rfl) rfl (fun hav => ?_)
  refine Z_aload_n (n := 1) dX3_value_0 rfl rfl ?_
  refine Z_iload_n (n := 2) dX3_value_1 rfl rfl ?_
  refine Z_callVi (n := 5) [_] _ dX3_value_2 rfl cwX3_139 rfl rfl (by first | rfl | exact nS0 (nA_at (by omega) (by omega))) (Nat.le_of_ble_eq_true rfl) (by refine ⟨?_, ?_, ?_, ?_⟩ <;> exact Nat.le_of_ble_eq_true rfl) (fun _ h => h) (zX3_hasFunction  ) ?_
  intro x2 M2 J2 z2 f2 q2
  obtain ⟨e2_1, e2_2, h2⟩ := q2
  replace e2_1 := e2_1.symm; subst e2_1
  replace e2_2 := e2_2.symm; subst e2_2
  refine Z_if_ne (n := 8) (t := 10) dX3_value_5 rfl (by decide) (fun c5 => ?_) (fun c5 => ?_)
  · refine Z_iload_n (n := 11) dX3_value_10 rfl rfl ?_
    refine Z_callSi (n := 14) [_] _ dX3_value_11 rfl cwX3_91 rfl rfl (Nat.le_of_ble_eq_true rfl) (by refine ⟨?_, ?_, ?_, ?_⟩ <;> exact Nat.le_of_ble_eq_true rfl) (fun _ h => h) (zX3_isAssignment  ) ?_
    intro x11 M11 J11 z11 f11 q11
    obtain ⟨e11_1, e11_2, h11⟩ := q11
    replace e11_1 := e11_1.symm; subst e11_1
    replace e11_2 := e11_2.symm; subst e11_2
    refine Z_if_ne (n := 17) (t := 20) dX3_value_14 rfl (by decide) (fun c14 => ?_) (fun c14 => ?_)
    · refine Z_aload_n (n := 21) dX3_value_20 rfl rfl ?_
      refine Z_getO (n := 24) dX3_value_21 rfl ffX3_25 (by first | rfl | exact nS0 (nA_at (by omega) (by omega))) (by first | rfl | exact nS0 (nA_at (by omega) (by omega))) ?_
      refine Z_aload_n (n := 25) dX3_value_24 rfl rfl ?_
      refine Z_getA (n := 28) dX3_value_25 rfl ffX3_29 (by first | rfl | exact nS0 (nA_at (by omega) (by omega))) (by first | rfl | exact nS0 (nA_at (by omega) (by omega))) ?_
      refine Z_iload_n (n := 29) dX3_value_28 rfl rfl ?_
      refine Z_iald (n := 30) dX3_value_29 rfl (by first | rfl | exact nS0 (nA_at (by omega) (by omega))) rfl (by first | decide | assumption) (by omega) (by omega) (fun r29 s29 => ?_)
      refine Z_iload_n (n := 31) dX3_value_30 rfl rfl ?_
      refine Z_aload_n (n := 32) dX3_value_31 rfl rfl ?_
      refine Z_getO (n := 35) dX3_value_32 rfl ffX3_18 (by first | rfl | exact nS0 (nA_at (by omega) (by omega))) (by first | rfl | exact nS0 (nA_at (by omega) (by omega))) ?_
      refine Z_callVi (n := 38) [_, _, _] _ dX3_value_35 rfl cwX3_164 rfl rfl (by first | rfl | exact nS0 (nA_at (by omega) (by omega))) (Nat.le_of_ble_eq_true rfl) (by refine ⟨?_, ?_, ?_, ?_⟩ <;> exact Nat.le_of_ble_eq_true rfl) (fun _ h => h) (zX2_valueFor  (by first | assumption | omega | decide) (by first | assumption | omega | decide)) ?_
      intro x35 M35 J35 z35 f35 q35
      obtain ⟨e35_1, e35_2, h35⟩ := q35
      replace e35_1 := e35_1.symm; subst e35_1
      replace e35_2 := e35_2.symm; subst e35_2
      refine Z_iret dX3_value_38 rfl ?_
      exact ⟨rfl, rfl, fun q => by have := q f (by omega) (by omega); omega⟩
    · refine Z_bipush (n := 19) dX3_value_17 rfl (by decide) (by decide) ?_
      refine Z_iret dX3_value_19 rfl ?_
      exact ⟨rfl, rfl, fun q => by have := q f (by omega) (by omega); omega⟩
  · refine Z_iconst (n := 9) dX3_value_8 rfl (by decide) ?_
    refine Z_iret dX3_value_9 rfl ?_
    exact ⟨rfl, rfl, fun _ => rfl⟩
set_option maxRecDepth 20000 in
theorem zX3_same {G : tl_G} {M : zM} {J : zJ} {f g : Int}  : ZN G yX3_same mX3_same 2 kAll [vR 0, vI f, vI g] F1 M J (qI (fun x M' J' => M' = M ∧ J' = J ∧ (noH M → x = -1))) := by
  refine ZN_of (L := [_, _, _]) (by decide) rfl rfl (Nat.le_of_ble_eq_true rfl) rfl (fun hav => ?_)
  refine Z_aload_n (n := 1) dX3_same_0 rfl rfl ?_
  refine Z_iload_n (n := 2) dX3_same_1 rfl rfl ?_
  refine Z_callVi (n := 5) [_] _ dX3_same_2 rfl cwX3_139 rfl rfl (by first | rfl | exact nS0 (nA_at (by omega) (by omega))) (Nat.le_of_ble_eq_true rfl) (by refine ⟨?_, ?_, ?_, ?_⟩ <;> exact Nat.le_of_ble_eq_true rfl) (fun _ h => h) (zX3_hasFunction  ) ?_
  intro x2 M2 J2 z2 f2 q2
  obtain ⟨e2_1, e2_2, h2⟩ := q2
  replace e2_1 := e2_1.symm; subst e2_1
  replace e2_2 := e2_2.symm; subst e2_2
  refine Z_if_eq (n := 8) (t := 16) dX3_same_5 rfl (by decide) (fun c5 => ?_) (fun c5 => ?_)
  · refine Z_iconst (n := 17) dX3_same_16 rfl (by decide) ?_
    refine Z_iret dX3_same_17 rfl ?_
    exact ⟨rfl, rfl, fun _ => rfl⟩
  · refine Z_aload_n (n := 9) dX3_same_8 rfl rfl ?_
    refine Z_iload_n (n := 10) dX3_same_9 rfl rfl ?_
    refine Z_callVi (n := 13) [_] _ dX3_same_10 rfl cwX3_139 rfl rfl (by first | rfl | exact nS0 (nA_at (by omega) (by omega))) (Nat.le_of_ble_eq_true rfl) (by refine ⟨?_, ?_, ?_, ?_⟩ <;> exact Nat.le_of_ble_eq_true rfl) (fun _ h => h) (zX3_hasFunction  ) ?_
    intro x10 M10 J10 z10 f10 q10
    obtain ⟨e10_1, e10_2, h10⟩ := q10
    replace e10_1 := e10_1.symm; subst e10_1
    replace e10_2 := e10_2.symm; subst e10_2
    refine Z_if_ne (n := 16) (t := 18) dX3_same_13 rfl (by decide) (fun c13 => ?_) (fun c13 => ?_)
    · refine Z_aload_n (n := 19) dX3_same_18 rfl rfl ?_
      refine Z_getA (n := 22) dX3_same_19 rfl ffX3_29 (by first | rfl | exact nS0 (nA_at (by omega) (by omega))) (by first | rfl | exact nS0 (nA_at (by omega) (by omega))) ?_
      refine Z_iload_n (n := 23) dX3_same_22 rfl rfl ?_
      refine Z_iald (n := 24) dX3_same_23 rfl (by first | rfl | exact nS0 (nA_at (by omega) (by omega))) rfl (by first | decide | assumption) (by omega) (by omega) (fun r23 s23 => ?_)
      refine Z_aload_n (n := 25) dX3_same_24 rfl rfl ?_
      refine Z_getA (n := 28) dX3_same_25 rfl ffX3_29 (by first | rfl | exact nS0 (nA_at (by omega) (by omega))) (by first | rfl | exact nS0 (nA_at (by omega) (by omega))) ?_
      refine Z_iload_n (n := 29) dX3_same_28 rfl rfl ?_
      refine Z_iald (n := 30) dX3_same_29 rfl (by first | rfl | exact nS0 (nA_at (by omega) (by omega))) rfl (by first | decide | assumption) (by omega) (by omega) (fun r29 s29 => ?_)
      refine Z_icmp_ne (n := 33) (t := 37) dX3_same_30 rfl (by decide) (fun c30 => ?_) (fun c30 => ?_)
      · refine Z_iconst (n := 38) dX3_same_37 rfl (by decide) ?_
        refine Z_iret dX3_same_38 rfl ?_
        exact ⟨rfl, rfl, fun q => by have := q f (by omega) (by omega); omega⟩
      · refine Z_iconst (n := 34) dX3_same_33 rfl (by decide) ?_
        refine Z_goto (t := 38) dX3_same_34 (by decide) ?_
        refine Z_iret dX3_same_38 rfl ?_
        exact ⟨rfl, rfl, fun q => by have := q f (by omega) (by omega); omega⟩
    · refine Z_iconst (n := 17) dX3_same_16 rfl (by decide) ?_
      refine Z_iret dX3_same_17 rfl ?_
      exact ⟨rfl, rfl, fun _ => rfl⟩
set_option maxRecDepth 20000 in
theorem zX3_top {G : tl_G} {M : zM} {J : zJ} {f : Int}  : ZN G yX3_top mX3_top 2 kAll [vR 0, vI f] F1 M J (qI (fun x M' J' => M' = M ∧ J' = J ∧ (noH M → x = -1))) := by
  refine ZN_of (L := [_, _, _]) (by decide) rfl rfl (Nat.le_of_ble_eq_true rfl) rfl (fun hav => ?_)
  refine Z_aload_n (n := 1) dX3_top_0 rfl rfl ?_
  refine Z_iload_n (n := 2) dX3_top_1 rfl rfl ?_
  refine Z_callVi (n := 5) [_] _ dX3_top_2 rfl cwX3_139 rfl rfl (by first | rfl | exact nS0 (nA_at (by omega) (by omega))) (Nat.le_of_ble_eq_true rfl) (by refine ⟨?_, ?_, ?_, ?_⟩ <;> exact Nat.le_of_ble_eq_true rfl) (fun _ h => h) (zX3_hasFunction  ) ?_
  intro x2 M2 J2 z2 f2 q2
  obtain ⟨e2_1, e2_2, h2⟩ := q2
  replace e2_1 := e2_1.symm; subst e2_1
  replace e2_2 := e2_2.symm; subst e2_2
  refine Z_if_ne (n := 8) (t := 10) dX3_top_5 rfl (by decide) (fun c5 => ?_) (fun c5 => ?_)
  · refine Z_aload_n (n := 11) dX3_top_10 rfl rfl ?_
    refine Z_getO (n := 14) dX3_top_11 rfl ffX3_25 (by first | rfl | exact nS0 (nA_at (by omega) (by omega))) (by first | rfl | exact nS0 (nA_at (by omega) (by omega))) ?_
    refine Z_aload_n (n := 15) dX3_top_14 rfl rfl ?_
    refine Z_getA (n := 18) dX3_top_15 rfl ffX3_29 (by first | rfl | exact nS0 (nA_at (by omega) (by omega))) (by first | rfl | exact nS0 (nA_at (by omega) (by omega))) ?_
    refine Z_iload_n (n := 19) dX3_top_18 rfl rfl ?_
    refine Z_iald (n := 20) dX3_top_19 rfl (by first | rfl | exact nS0 (nA_at (by omega) (by omega))) rfl (by first | decide | assumption) (by omega) (by omega) (fun r19 s19 => ?_)
    refine Z_callVi (n := 23) [_] _ dX3_top_20 rfl cwX3_171 rfl rfl (by first | rfl | exact nS0 (nA_at (by omega) (by omega))) (Nat.le_of_ble_eq_true rfl) (by refine ⟨?_, ?_, ?_, ?_⟩ <;> exact Nat.le_of_ble_eq_true rfl) (fun _ h => h) (zX2_placeOf  (by first | assumption | omega | decide) (by first | assumption | omega | decide)) ?_
    intro x20 M20 J20 z20 f20 q20
    obtain ⟨e20_1, e20_2, h20⟩ := q20
    replace e20_1 := e20_1.symm; subst e20_1
    replace e20_2 := e20_2.symm; subst e20_2
    refine Z_istore_n (L' := [_, _, _]) (n := 24) dX3_top_23 rfl (by decide) rfl rfl ?_
    refine Z_iload_n (n := 25) dX3_top_24 rfl rfl ?_
    refine Z_bipush (n := 27) dX3_top_25 rfl (by decide) (by decide) ?_
    refine Z_icmp_ge (n := 30) (t := 41) dX3_top_27 rfl (by decide) (fun c27 => ?_) (fun c27 => ?_)
    · refine Z_bipush (n := 43) dX3_top_41 rfl (by decide) (by decide) ?_
      refine Z_iret dX3_top_43 rfl ?_
      exact ⟨rfl, rfl, fun q => by have := q f (by omega) (by omega); omega⟩
    · refine Z_aload_n (n := 31) dX3_top_30 rfl rfl ?_
      refine Z_getO (n := 34) dX3_top_31 rfl ffX3_18 (by first | rfl | exact nS0 (nA_at (by omega) (by omega))) (by first | rfl | exact nS0 (nA_at (by omega) (by omega))) ?_
      refine Z_iload_n (n := 35) dX3_top_34 rfl rfl ?_
      refine Z_rg 6 (M 12 f) rfl (fun g6 g6b => ?_)
      refine Z_callVi (n := 38) [_] _ dX3_top_35 rfl cwX3_114 rfl rfl (by first | rfl | exact nS0 (nA_at (by omega) (by omega))) (Nat.le_of_ble_eq_true rfl) (by refine ⟨?_, ?_, ?_, ?_⟩ <;> exact Nat.le_of_ble_eq_true rfl) (fun _ h => h) (zX1_variableAt  (by first | assumption | omega | decide) (by first | assumption | omega | decide)) ?_
      intro x35 M35 J35 z35 f35 q35
      obtain ⟨e35_1, e35_2, h35⟩ := q35
      replace e35_1 := e35_1.symm; subst e35_1
      replace e35_2 := e35_2.symm; subst e35_2
      refine Z_goto (t := 43) dX3_top_38 (by decide) ?_
      refine Z_iret dX3_top_43 rfl ?_
      exact ⟨rfl, rfl, fun q => by have := q f (by omega) (by omega); omega⟩
  · refine Z_iconst (n := 9) dX3_top_8 rfl (by decide) ?_
    refine Z_iret dX3_top_9 rfl ?_
    exact ⟨rfl, rfl, fun _ => rfl⟩
set_option maxRecDepth 20000 in
theorem zX3_least {G : tl_G} {M : zM} {J : zJ} {f y : Int}  : ZN G yX3_least mX3_least 2 kAll [vR 0, vI f, vI y] F1 M J (qI (fun x M' J' => M' = M ∧ J' = J ∧ (noH M → x = -1))) := by
  refine ZN_of (L := [_, _, _]) (by decide) rfl rfl (Nat.le_of_ble_eq_true rfl) rfl (fun hav => ?_)
  refine Z_aload_n (n := 1) dX3_least_0 rfl rfl ?_
  refine Z_iload_n (n := 2) dX3_least_1 rfl rfl ?_
  refine Z_callVi (n := 5) [_] _ dX3_least_2 rfl cwX3_139 rfl rfl (by first | rfl | exact nS0 (nA_at (by omega) (by omega))) (Nat.le_of_ble_eq_true rfl) (by refine ⟨?_, ?_, ?_, ?_⟩ <;> exact Nat.le_of_ble_eq_true rfl) (fun _ h => h) (zX3_hasFunction  ) ?_
  intro x2 M2 J2 z2 f2 q2
  obtain ⟨e2_1, e2_2, h2⟩ := q2
  replace e2_1 := e2_1.symm; subst e2_1
  replace e2_2 := e2_2.symm; subst e2_2
  refine Z_if_ne (n := 8) (t := 10) dX3_least_5 rfl (by decide) (fun c5 => ?_) (fun c5 => ?_)
  · refine Z_aload_n (n := 11) dX3_least_10 rfl rfl ?_
    refine Z_getO (n := 14) dX3_least_11 rfl ffX3_25 (by first | rfl | exact nS0 (nA_at (by omega) (by omega))) (by first | rfl | exact nS0 (nA_at (by omega) (by omega))) ?_
    refine Z_aload_n (n := 15) dX3_least_14 rfl rfl ?_
    refine Z_getA (n := 18) dX3_least_15 rfl ffX3_29 (by first | rfl | exact nS0 (nA_at (by omega) (by omega))) (by first | rfl | exact nS0 (nA_at (by omega) (by omega))) ?_
    refine Z_iload_n (n := 19) dX3_least_18 rfl rfl ?_
    refine Z_iald (n := 20) dX3_least_19 rfl (by first | rfl | exact nS0 (nA_at (by omega) (by omega))) rfl (by first | decide | assumption) (by omega) (by omega) (fun r19 s19 => ?_)
    refine Z_iload_n (n := 21) dX3_least_20 rfl rfl ?_
    refine Z_if_eq (n := 24) (t := 28) dX3_least_21 rfl (by decide) (fun c21 => ?_) (fun c21 => ?_)
    · refine Z_iconst (n := 29) dX3_least_28 rfl (by decide) ?_
      refine Z_aload_n (n := 30) dX3_least_29 rfl rfl ?_
      refine Z_getO (n := 33) dX3_least_30 rfl ffX3_18 (by first | rfl | exact nS0 (nA_at (by omega) (by omega))) (by first | rfl | exact nS0 (nA_at (by omega) (by omega))) ?_
      refine Z_callVi (n := 36) [_, _, _] _ dX3_least_33 rfl cwX3_175 rfl rfl (by first | rfl | exact nS0 (nA_at (by omega) (by omega))) (Nat.le_of_ble_eq_true rfl) (by refine ⟨?_, ?_, ?_, ?_⟩ <;> exact Nat.le_of_ble_eq_true rfl) (fun _ h => h) (zX2_leastFor  (by first | assumption | omega | decide) (by first | assumption | omega | decide)) ?_
      intro x33 M33 J33 z33 f33 q33
      obtain ⟨e33_1, e33_2⟩ := q33
      replace e33_1 := e33_1.symm; subst e33_1
      replace e33_2 := e33_2.symm; subst e33_2
      refine Z_iret dX3_least_36 rfl ?_
      exact ⟨rfl, rfl, fun q => by have := q f (by omega) (by omega); omega⟩
    · refine Z_iconst (n := 25) dX3_least_24 rfl (by decide) ?_
      refine Z_goto (t := 29) dX3_least_25 (by decide) ?_
      refine Z_aload_n (n := 30) dX3_least_29 rfl rfl ?_
      refine Z_getO (n := 33) dX3_least_30 rfl ffX3_18 (by first | rfl | exact nS0 (nA_at (by omega) (by omega))) (by first | rfl | exact nS0 (nA_at (by omega) (by omega))) ?_
      refine Z_callVi (n := 36) [_, _, _] _ dX3_least_33 rfl cwX3_175 rfl rfl (by first | rfl | exact nS0 (nA_at (by omega) (by omega))) (Nat.le_of_ble_eq_true rfl) (by refine ⟨?_, ?_, ?_, ?_⟩ <;> exact Nat.le_of_ble_eq_true rfl) (fun _ h => h) (zX2_leastFor  (by first | assumption | omega | decide) (by first | assumption | omega | decide)) ?_
      intro x33 M33 J33 z33 f33 q33
      obtain ⟨e33_1, e33_2⟩ := q33
      replace e33_1 := e33_1.symm; subst e33_1
      replace e33_2 := e33_2.symm; subst e33_2
      refine Z_iret dX3_least_36 rfl ?_
      exact ⟨rfl, rfl, fun q => by have := q f (by omega) (by omega); omega⟩
  · refine Z_iconst (n := 9) dX3_least_8 rfl (by decide) ?_
    refine Z_iret dX3_least_9 rfl ?_
    exact ⟨rfl, rfl, fun _ => rfl⟩
set_option maxRecDepth 20000 in
theorem zX3_count {G : tl_G} {M : zM} {J : zJ} {f : Int}  : ZN G yX3_count mX3_count 2 kAll [vR 0, vI f] F1 M J (qI (fun x M' J' => M' = M ∧ J' = J ∧ (noH M → x = -1))) := by
  refine ZN_of (L := [_, _, _, _]) (by decide) rfl rfl (Nat.le_of_ble_eq_true rfl) rfl (fun hav => ?_)
  refine Z_aload_n (n := 1) dX3_count_0 rfl rfl ?_
  refine Z_iload_n (n := 2) dX3_count_1 rfl rfl ?_
  refine Z_callVi (n := 5) [_] _ dX3_count_2 rfl cwX3_139 rfl rfl (by first | rfl | exact nS0 (nA_at (by omega) (by omega))) (Nat.le_of_ble_eq_true rfl) (by refine ⟨?_, ?_, ?_, ?_⟩ <;> exact Nat.le_of_ble_eq_true rfl) (fun _ h => h) (zX3_hasFunction  ) ?_
  intro x2 M2 J2 z2 f2 q2
  obtain ⟨e2_1, e2_2, h2⟩ := q2
  replace e2_1 := e2_1.symm; subst e2_1
  replace e2_2 := e2_2.symm; subst e2_2
  refine Z_if_ne (n := 8) (t := 10) dX3_count_5 rfl (by decide) (fun c5 => ?_) (fun c5 => ?_)
  · refine Z_iconst (n := 11) dX3_count_10 rfl (by decide) ?_
    refine Z_istore_n (L' := [_, _, _, _]) (n := 12) dX3_count_11 rfl (by decide) rfl rfl ?_
    refine Z_iconst (n := 13) dX3_count_12 rfl (by decide) ?_
    refine Z_istore_n (L' := [_, _, _, _]) (n := 14) dX3_count_13 rfl (by decide) rfl rfl ?_
    have lp14 : ∀ (N14 : Nat) (n a : Int) , ((256 - a).toNat) < N14 → (0 ≤ a) → (a ≤ 256) → (0 ≤ n) → (n ≤ a) → TZ G mX3_count (tl_rm 2 0 0) 0 0 kAll M J 14 [some (vR 0), some (vI f), some (vI n), some (vI a)] [] F1 M J (ZM G (zPost G kAll F1 M J (qI (fun x M' J' => M' = M ∧ J' = J ∧ (noH M → x = -1)))) 0 0) := by
      intro N14
      induction N14 with
      | zero => intro n a  hN; omega
      | succ N14 ih14 =>
        intro n a  hN14 i14_0 i14_1 i14_2 i14_3
        refine Z_iload_n (n := 15) dX3_count_14 rfl rfl ?_
        refine Z_sipush (n := 18) dX3_count_15 rfl (by decide) (by decide) ?_
        refine Z_icmp_ge (n := 21) (t := 48) dX3_count_18 rfl (by decide) (fun c18 => ?_) (fun c18 => ?_)
        · refine Z_iload_n (n := 49) dX3_count_48 rfl rfl ?_
          refine Z_iret dX3_count_49 rfl ?_
          exact ⟨rfl, rfl, fun q => by have := q f (by omega) (by omega); omega⟩
        · refine Z_iload_n (n := 22) dX3_count_21 rfl rfl ?_
          refine Z_aload_n (n := 23) dX3_count_22 rfl rfl ?_
          refine Z_getO (n := 26) dX3_count_23 rfl ffX3_25 (by first | rfl | exact nS0 (nA_at (by omega) (by omega))) (by first | rfl | exact nS0 (nA_at (by omega) (by omega))) ?_
          refine Z_aload_n (n := 27) dX3_count_26 rfl rfl ?_
          refine Z_getA (n := 30) dX3_count_27 rfl ffX3_29 (by first | rfl | exact nS0 (nA_at (by omega) (by omega))) (by first | rfl | exact nS0 (nA_at (by omega) (by omega))) ?_
          refine Z_iload_n (n := 31) dX3_count_30 rfl rfl ?_
          refine Z_iald (n := 32) dX3_count_31 rfl (by first | rfl | exact nS0 (nA_at (by omega) (by omega))) rfl (by first | decide | assumption) (by omega) (by omega) (fun r31 s31 => ?_)
          refine Z_iload_n (n := 33) dX3_count_32 rfl rfl ?_
          refine Z_aload_n (n := 34) dX3_count_33 rfl rfl ?_
          refine Z_getO (n := 37) dX3_count_34 rfl ffX3_18 (by first | rfl | exact nS0 (nA_at (by omega) (by omega))) (by first | rfl | exact nS0 (nA_at (by omega) (by omega))) ?_
          refine Z_callVi (n := 40) [_, _, _] _ dX3_count_37 rfl cwX3_164 rfl rfl (by first | rfl | exact nS0 (nA_at (by omega) (by omega))) (Nat.le_of_ble_eq_true rfl) (by refine ⟨?_, ?_, ?_, ?_⟩ <;> exact Nat.le_of_ble_eq_true rfl) (fun _ h => h) (zX2_valueFor  (by first | assumption | omega | decide) (by first | assumption | omega | decide)) ?_
          intro x37 M37 J37 z37 f37 q37
          obtain ⟨e37_1, e37_2, h37⟩ := q37
          replace e37_1 := e37_1.symm; subst e37_1
          replace e37_2 := e37_2.symm; subst e37_2
          refine Z_iadd (n := 41) dX3_count_40 rfl (by omega) ?_
          refine Z_istore_n (L' := [_, _, _, _]) (n := 42) dX3_count_41 rfl (by decide) rfl rfl ?_
          refine Z_iinc (L' := [_, _, _, _]) (n := 45) dX3_count_42 rfl rfl (by decide) rfl rfl (by omega) rfl ?_
          refine Z_goto (t := 14) dX3_count_45 (by decide) ?_
          refine Z_loc (L' := [some _, some _, some _, some _]) (lsub_same (lsub_same (lsub_same (lsub_same lsub_nil)))) ?_
          exact ih14 _ _  (by omega) (by first | assumption | omega | decide) (by first | assumption | omega | decide) (by first | assumption | omega | decide) (by first | assumption | omega | decide)
    refine Z_loc (L' := [some _, some _, some _, some _]) (lsub_same (lsub_same (lsub_same (lsub_same lsub_nil)))) ?_
    exact lp14 _ _ _  (Nat.lt_succ_self _) (by first | assumption | omega | decide) (by first | assumption | omega | decide) (by first | assumption | omega | decide) (by first | assumption | omega | decide)
  · refine Z_iconst (n := 9) dX3_count_8 rfl (by decide) ?_
    refine Z_iret dX3_count_9 rfl ?_
    exact ⟨rfl, rfl, fun _ => rfl⟩
set_option maxRecDepth 20000 in
theorem zX3_peak {G : tl_G} {M : zM} {J : zJ}   : ZN G yX3_peak mX3_peak 0 kAll [vR 0] F1 M J (qI (fun x M' J' => M' = M ∧ J' = J ∧ x = M 0 8)) := by
  refine ZN_of (L := [_]) (by decide) rfl rfl (Nat.le_of_ble_eq_true rfl) rfl (fun hav => ?_)
  refine Z_aload_n (n := 1) dX3_peak_0 rfl rfl ?_
  refine Z_getI (n := 4) (ki := 8) dX3_peak_1 rfl ffX3_46 rfl (by first | rfl | exact nS0 (nA_at (by omega) (by omega))) rfl (fun r1 s1 => ?_)
  refine Z_iret dX3_peak_4 rfl ?_
  exact ⟨rfl, rfl, rfl⟩
set_option maxRecDepth 20000 in
theorem zX3_parting {G : tl_G} {M : zM} {J : zJ} {w : Int}  : ZN G yX3_parting mX3_parting 0 kAll [vR 0, vI w] F1 M J (qI (fun x M' J' => M' = M ∧ J' = J ∧ ((w = 0 ∧ x = M 0 9) ∨ (w = 1 ∧ x = M 0 10) ∨ ((w < 0 ∨ 1 < w) ∧ x = -2)))) := by
  refine ZN_of (L := [_, _]) (by decide) rfl rfl (Nat.le_of_ble_eq_true rfl) rfl (fun hav => ?_)
  refine Z_iload_n (n := 1) dX3_parting_0 rfl rfl ?_
  refine Z_if_lt (n := 4) (t := 9) dX3_parting_1 rfl (by decide) (fun c1 => ?_) (fun c1 => ?_)
  · refine Z_bipush (n := 11) dX3_parting_9 rfl (by decide) (by decide) ?_
    refine Z_iret dX3_parting_11 rfl ?_
    refine ⟨rfl, rfl, ?_⟩; omega
  · refine Z_iload_n (n := 5) dX3_parting_4 rfl rfl ?_
    refine Z_iconst (n := 6) dX3_parting_5 rfl (by decide) ?_
    refine Z_icmp_le (n := 9) (t := 12) dX3_parting_6 rfl (by decide) (fun c6 => ?_) (fun c6 => ?_)
    · refine Z_iload_n (n := 13) dX3_parting_12 rfl rfl ?_
      refine Z_if_ne (n := 16) (t := 23) dX3_parting_13 rfl (by decide) (fun c13 => ?_) (fun c13 => ?_)
      · refine Z_aload_n (n := 24) dX3_parting_23 rfl rfl ?_
        refine Z_getI (n := 27) (ki := 10) dX3_parting_24 rfl ffX3_52 rfl (by first | rfl | exact nS0 (nA_at (by omega) (by omega))) rfl (fun r24 s24 => ?_)
        refine Z_iret dX3_parting_27 rfl ?_
        refine ⟨rfl, rfl, ?_⟩; omega
      · refine Z_aload_n (n := 17) dX3_parting_16 rfl rfl ?_
        refine Z_getI (n := 20) (ki := 9) dX3_parting_17 rfl ffX3_49 rfl (by first | rfl | exact nS0 (nA_at (by omega) (by omega))) rfl (fun r17 s17 => ?_)
        refine Z_goto (t := 27) dX3_parting_20 (by decide) ?_
        refine Z_iret dX3_parting_27 rfl ?_
        refine ⟨rfl, rfl, ?_⟩; omega
    · refine Z_bipush (n := 11) dX3_parting_9 rfl (by decide) (by decide) ?_
      refine Z_iret dX3_parting_11 rfl ?_
      refine ⟨rfl, rfl, ?_⟩; omega
set_option maxRecDepth 20000 in
theorem zX3_told {G : tl_G} {M : zM} {J : zJ} {w : Int}  : ZN G yX3_told mX3_told 1 kAll [vR 0, vI w] F1 M J (qI (fun x M' J' => M' = M ∧ J' = J ∧ (((w < 0 ∨ 7 < w) ∧ x = -2) ∨ (0 ≤ w ∧ w < 3 ∧ x = M (nA w) 4) ∨ (3 ≤ w ∧ w < 6 ∧ x = M (nA (w - 3)) 5) ∨ (w = 6 ∧ x = hc (M 12) 12) ∨ (w = 7 ∧ x = M 5 8)))) := by
  refine ZN_of (L := [_, _]) (by decide) rfl rfl (Nat.le_of_ble_eq_true rfl) rfl (fun hav => ?_)
  refine Z_iload_n (n := 1) dX3_told_0 rfl rfl ?_
  refine Z_if_lt (n := 4) (t := 10) dX3_told_1 rfl (by decide) (fun c1 => ?_) (fun c1 => ?_)
  · refine Z_bipush (n := 12) dX3_told_10 rfl (by decide) (by decide) ?_
    refine Z_iret dX3_told_12 rfl ?_
    refine ⟨rfl, rfl, ?_⟩; omega
  · refine Z_iload_n (n := 5) dX3_told_4 rfl rfl ?_
    refine Z_bipush (n := 7) dX3_told_5 rfl (by decide) (by decide) ?_
    refine Z_icmp_le (n := 10) (t := 13) dX3_told_7 rfl (by decide) (fun c7 => ?_) (fun c7 => ?_)
    · refine Z_iload_n (n := 14) dX3_told_13 rfl rfl ?_
      refine Z_iconst (n := 15) dX3_told_14 rfl (by decide) ?_
      refine Z_icmp_ge (n := 18) (t := 28) dX3_told_15 rfl (by decide) (fun c15 => ?_) (fun c15 => ?_)
      · refine Z_iload_n (n := 29) dX3_told_28 rfl rfl ?_
        refine Z_bipush (n := 31) dX3_told_29 rfl (by decide) (by decide) ?_
        refine Z_icmp_ge (n := 34) (t := 46) dX3_told_31 rfl (by decide) (fun c31 => ?_) (fun c31 => ?_)
        · refine Z_iload_n (n := 47) dX3_told_46 rfl rfl ?_
          refine Z_bipush (n := 49) dX3_told_47 rfl (by decide) (by decide) ?_
          refine Z_icmp_ne (n := 52) (t := 59) dX3_told_49 rfl (by decide) (fun c49 => ?_) (fun c49 => ?_)
          · refine Z_aload_n (n := 60) dX3_told_59 rfl rfl ?_
            refine Z_getO (n := 63) dX3_told_60 rfl ffX3_25 (by first | rfl | exact nS0 (nA_at (by omega) (by omega))) (by first | rfl | exact nS0 (nA_at (by omega) (by omega))) ?_
            refine Z_callVi (n := 66) [] _ dX3_told_63 rfl cwX3_194 rfl rfl (by first | rfl | exact nS0 (nA_at (by omega) (by omega))) (Nat.le_of_ble_eq_true rfl) (by refine ⟨?_, ?_, ?_, ?_⟩ <;> exact Nat.le_of_ble_eq_true rfl) (fun _ h => h) (zX2_limit  ) ?_
            intro x63 M63 J63 z63 f63 q63
            obtain ⟨e63_1, e63_2, h63⟩ := q63
            replace e63_1 := e63_1.symm; subst e63_1
            replace e63_2 := e63_2.symm; subst e63_2
            refine Z_iret dX3_told_66 rfl ?_
            first | exact ⟨rfl, rfl, Or.inr (Or.inr (Or.inr (Or.inl ⟨by omega, h53⟩)))⟩ | exact ⟨rfl, rfl, Or.inr (Or.inr (Or.inr (Or.inr ⟨by omega, h63⟩)))⟩
          · refine Z_aload_n (n := 53) dX3_told_52 rfl rfl ?_
            refine Z_callVi (n := 56) [] _ dX3_told_53 rfl cwX3_98 rfl rfl (by first | rfl | exact nS0 (nA_at (by omega) (by omega))) (Nat.le_of_ble_eq_true rfl) (by refine ⟨?_, ?_, ?_, ?_⟩ <;> exact Nat.le_of_ble_eq_true rfl) (fun _ h => h) (zX3_heldCount  ) ?_
            intro x53 M53 J53 z53 f53 q53
            obtain ⟨e53_1, e53_2, h53⟩ := q53
            replace e53_1 := e53_1.symm; subst e53_1
            replace e53_2 := e53_2.symm; subst e53_2
            refine Z_goto (t := 66) dX3_told_56 (by decide) ?_
            refine Z_iret dX3_told_66 rfl ?_
            first | exact ⟨rfl, rfl, Or.inr (Or.inr (Or.inr (Or.inl ⟨by omega, h53⟩)))⟩ | exact ⟨rfl, rfl, Or.inr (Or.inr (Or.inr (Or.inr ⟨by omega, h63⟩)))⟩
        · refine Z_aload_n (n := 35) dX3_told_34 rfl rfl ?_
          refine Z_getA (n := 38) dX3_told_35 rfl ffX3_11 (by first | rfl | exact nS0 (nA_at (by omega) (by omega))) (by first | rfl | exact nS0 (nA_at (by omega) (by omega))) ?_
          refine Z_iload_n (n := 39) dX3_told_38 rfl rfl ?_
          refine Z_iconst (n := 40) dX3_told_39 rfl (by decide) ?_
          refine Z_isub (n := 41) dX3_told_40 rfl (by omega) ?_
          refine Z_aald (n := 42) dX3_told_41 rfl (by first | rfl | exact nS0 (nA_at (by omega) (by omega))) (by decide) (by omega) (by omega) (nA_P (by omega) (by omega)) ?_
          refine Z_callVi (n := 45) [] _ dX3_told_42 rfl cwX3_181 rfl rfl (by first | rfl | exact nS0 (nA_at (by omega) (by omega))) (Nat.le_of_ble_eq_true rfl) (by refine ⟨?_, ?_, ?_, ?_⟩ <;> exact Nat.le_of_ble_eq_true rfl) (fun _ h => h) (zX0_outputCount  (by exact nA_at (by omega) (by omega))) ?_
          intro x42 M42 J42 z42 f42 q42
          obtain ⟨e42_1, e42_2, h42⟩ := q42
          replace e42_1 := e42_1.symm; subst e42_1
          replace e42_2 := e42_2.symm; subst e42_2
          refine Z_iret dX3_told_45 rfl ?_
          exact ⟨rfl, rfl, Or.inr (Or.inr (Or.inl ⟨by omega, by omega, h42⟩))⟩
      · refine Z_aload_n (n := 19) dX3_told_18 rfl rfl ?_
        refine Z_getA (n := 22) dX3_told_19 rfl ffX3_11 (by first | rfl | exact nS0 (nA_at (by omega) (by omega))) (by first | rfl | exact nS0 (nA_at (by omega) (by omega))) ?_
        refine Z_iload_n (n := 23) dX3_told_22 rfl rfl ?_
        refine Z_aald (n := 24) dX3_told_23 rfl (by first | rfl | exact nS0 (nA_at (by omega) (by omega))) (by decide) (by omega) (by omega) (nA_P (by omega) (by omega)) ?_
        refine Z_callVi (n := 27) [] _ dX3_told_24 rfl cwX3_191 rfl rfl (by first | rfl | exact nS0 (nA_at (by omega) (by omega))) (Nat.le_of_ble_eq_true rfl) (by refine ⟨?_, ?_, ?_, ?_⟩ <;> exact Nat.le_of_ble_eq_true rfl) (fun _ h => h) (zX0_gateCount  (by exact nA_at (by omega) (by omega))) ?_
        intro x24 M24 J24 z24 f24 q24
        obtain ⟨e24_1, e24_2, h24⟩ := q24
        replace e24_1 := e24_1.symm; subst e24_1
        replace e24_2 := e24_2.symm; subst e24_2
        refine Z_iret dX3_told_27 rfl ?_
        exact ⟨rfl, rfl, Or.inr (Or.inl ⟨by omega, by omega, h24⟩)⟩
    · refine Z_bipush (n := 12) dX3_told_10 rfl (by decide) (by decide) ?_
      refine Z_iret dX3_told_12 rfl ?_
      refine ⟨rfl, rfl, ?_⟩; omega
end
section
/-! ===== the reference: small methods ===== -/
def noHr (M : zM) : Prop := ∀ h : Int, 0 ≤ h → h < 12 → M 43 h = 0
def exHr (M : zM) : Prop := ∃ h : Int, 0 ≤ h ∧ h < 12 ∧ ¬ M 43 h = 0
theorem pre_up {f : Int → Int} {i : Int} (h : ∀ k : Int, 0 ≤ k → k < i → f k = 0) (hi : f i = 0) : ∀ k : Int, 0 ≤ k → k < i + 1 → f k = 0 := by
  intro k k0 k1
  by_cases q : k = i
  · subst q; exact hi
  · exact h k k0 (by omega)
def rOrd (M : zM) : Prop := ∀ v : Int, 0 ≤ v → v < 8 → 0 ≤ M 39 v
abbrev kMv (a : Nat) : Prop := ¬ a = 38 ∧ ¬ a = 39
set_option maxRecDepth 20000 in
theorem zX4_in {G : tl_G} {M : zM} {J : zJ} {v l h : Int}  : ZN G yX4_in mX4_in 0 kAll [vI v, vI l, vI h] F1 M J (qI (fun x M' J' => M' = M ∧ J' = J ∧ ((x = 1 ∧ l ≤ v ∧ v ≤ h) ∨ (x = 0 ∧ (v < l ∨ h < v))))) := by
  refine ZN_of (L := [_, _, _]) (by decide) rfl rfl (Nat.le_of_ble_eq_true rfl) rfl (fun hav => ?_)
  refine Z_iload_n (n := 1) dX4_in_0 rfl rfl ?_
  refine Z_iload_n (n := 2) dX4_in_1 rfl rfl ?_
  refine Z_icmp_lt (n := 5) (t := 14) dX4_in_2 rfl (by decide) (fun c2 => ?_) (fun c2 => ?_)
  · refine Z_iconst (n := 15) dX4_in_14 rfl (by decide) ?_
    refine Z_zret dX4_in_15 rfl (by first | assumption | omega | decide) (by first | assumption | omega | decide) ?_
    refine ⟨rfl, rfl, ?_⟩; omega
  · refine Z_iload_n (n := 6) dX4_in_5 rfl rfl ?_
    refine Z_iload_n (n := 7) dX4_in_6 rfl rfl ?_
    refine Z_icmp_gt (n := 10) (t := 14) dX4_in_7 rfl (by decide) (fun c7 => ?_) (fun c7 => ?_)
    · refine Z_iconst (n := 15) dX4_in_14 rfl (by decide) ?_
      refine Z_zret dX4_in_15 rfl (by first | assumption | omega | decide) (by first | assumption | omega | decide) ?_
      refine ⟨rfl, rfl, ?_⟩; omega
    · refine Z_iconst (n := 11) dX4_in_10 rfl (by decide) ?_
      refine Z_goto (t := 15) dX4_in_11 (by decide) ?_
      refine Z_zret dX4_in_15 rfl (by first | assumption | omega | decide) (by first | assumption | omega | decide) ?_
      refine ⟨rfl, rfl, ?_⟩; omega
set_option maxRecDepth 20000 in
theorem zX4_isNet {G : tl_G} {M : zM} {J : zJ} {v : Int}  : ZN G yX4_isNet mX4_isNet 1 kAll [vI v] F1 M J (qI (fun x M' J' => M' = M ∧ J' = J ∧ ((x = 1 ∧ 0 ≤ v ∧ v < 3) ∨ (x = 0 ∧ (v < 0 ∨ 3 ≤ v))))) := by
  refine ZN_of (L := [_]) (by decide) rfl rfl (Nat.le_of_ble_eq_true rfl) rfl (fun hav => ?_)
  refine Z_iload_n (n := 1) dX4_isNet_0 rfl rfl ?_
  refine Z_iconst (n := 2) dX4_isNet_1 rfl (by decide) ?_
  refine Z_iconst (n := 3) dX4_isNet_2 rfl (by decide) ?_
  refine Z_callSi (n := 6) [_, _, _] _ dX4_isNet_3 rfl cwX4_112 rfl rfl (Nat.le_of_ble_eq_true rfl) (by refine ⟨?_, ?_, ?_, ?_⟩ <;> exact Nat.le_of_ble_eq_true rfl) (fun _ h => h) (zX4_in  ) ?_
  intro x3 M3 J3 z3 f3 q3
  obtain ⟨e3_1, e3_2, h3⟩ := q3
  replace e3_1 := e3_1.symm; subst e3_1
  replace e3_2 := e3_2.symm; subst e3_2
  refine Z_zret dX4_isNet_6 rfl (by first | assumption | omega | decide) (by first | assumption | omega | decide) ?_
  refine ⟨rfl, rfl, ?_⟩; omega
set_option maxRecDepth 20000 in
theorem zX4_isHandle {G : tl_G} {M : zM} {J : zJ} {v : Int}  : ZN G yX4_isHandle mX4_isHandle 1 kAll [vI v] F1 M J (qI (fun x M' J' => M' = M ∧ J' = J ∧ ((x = 1 ∧ 0 ≤ v ∧ v < 12) ∨ (x = 0 ∧ (v < 0 ∨ 12 ≤ v))))) := by
  refine ZN_of (L := [_]) (by decide) rfl rfl (Nat.le_of_ble_eq_true rfl) rfl (fun hav => ?_)
  refine Z_iload_n (n := 1) dX4_isHandle_0 rfl rfl ?_
  refine Z_iconst (n := 2) dX4_isHandle_1 rfl (by decide) ?_
  refine Z_bipush (n := 4) dX4_isHandle_2 rfl (by decide) (by decide) ?_
  refine Z_callSi (n := 7) [_, _, _] _ dX4_isHandle_4 rfl cwX4_112 rfl rfl (Nat.le_of_ble_eq_true rfl) (by refine ⟨?_, ?_, ?_, ?_⟩ <;> exact Nat.le_of_ble_eq_true rfl) (fun _ h => h) (zX4_in  ) ?_
  intro x4 M4 J4 z4 f4 q4
  obtain ⟨e4_1, e4_2, h4⟩ := q4
  replace e4_1 := e4_1.symm; subst e4_1
  replace e4_2 := e4_2.symm; subst e4_2
  refine Z_zret dX4_isHandle_7 rfl (by first | assumption | omega | decide) (by first | assumption | omega | decide) ?_
  refine ⟨rfl, rfl, ?_⟩; omega
set_option maxRecDepth 20000 in
theorem zX4_isGate {G : tl_G} {M : zM} {J : zJ} {n g : Int} (h0 : 0 ≤ n) (h1 : n < 3) : ZN G yX4_isGate mX4_isGate 1 kAll [vR 31, vI n, vI g] F1 M J (qI (fun x M' J' => M' = M ∧ J' = J ∧ ((x = 1 ∧ 0 ≤ g ∧ g < M 32 n) ∨ (x = 0 ∧ (g < 0 ∨ M 32 n ≤ g))))) := by
  refine ZN_of (L := [_, _, _]) (by decide) rfl rfl (Nat.le_of_ble_eq_true rfl) rfl (fun hav => ?_)
  refine Z_iload_n (n := 1) dX4_isGate_0 rfl rfl ?_
  refine Z_iconst (n := 2) dX4_isGate_1 rfl (by decide) ?_
  refine Z_aload_n (n := 3) dX4_isGate_2 rfl rfl ?_
  refine Z_getA (n := 6) dX4_isGate_3 rfl ffX4_7 rfl rfl ?_
  refine Z_iload_n (n := 7) dX4_isGate_6 rfl rfl ?_
  refine Z_iald (n := 8) dX4_isGate_7 rfl rfl rfl (by first | decide | assumption) (by omega) (by omega) (fun r7 s7 => ?_)
  refine Z_iconst (n := 9) dX4_isGate_8 rfl (by decide) ?_
  refine Z_isub (n := 10) dX4_isGate_9 rfl (by omega) ?_
  refine Z_callSi (n := 13) [_, _, _] _ dX4_isGate_10 rfl cwX4_112 rfl rfl (Nat.le_of_ble_eq_true rfl) (by refine ⟨?_, ?_, ?_, ?_⟩ <;> exact Nat.le_of_ble_eq_true rfl) (fun _ h => h) (zX4_in  ) ?_
  intro x10 M10 J10 z10 f10 q10
  obtain ⟨e10_1, e10_2, h10⟩ := q10
  replace e10_1 := e10_1.symm; subst e10_1
  replace e10_2 := e10_2.symm; subst e10_2
  refine Z_zret dX4_isGate_13 rfl (by first | assumption | omega | decide) (by first | assumption | omega | decide) ?_
  refine ⟨rfl, rfl, ?_⟩; omega
set_option maxRecDepth 20000 in
theorem zX4_isOutput {G : tl_G} {M : zM} {J : zJ} {n g : Int}  : ZN G yX4_isOutput mX4_isOutput 2 kAll [vR 31, vI n, vI g] F1 M J (qI (fun x M' J' => M' = M ∧ J' = J ∧ ((x = 1 ∧ 0 ≤ n ∧ n < 3 ∧ 0 ≤ g ∧ g < M 33 n) ∨ (x = 0 ∧ (n < 0 ∨ 3 ≤ n ∨ g < 0 ∨ M 33 n ≤ g))))) := by
  refine ZN_of (L := [_, _, _]) (by decide) rfl rfl (Nat.le_of_ble_eq_true rfl) rfl (fun hav => ?_)
  refine Z_iload_n (n := 1) dX4_isOutput_0 rfl rfl ?_
  refine Z_callSi (n := 4) [_] _ dX4_isOutput_1 rfl cwX4_116 rfl rfl (Nat.le_of_ble_eq_true rfl) (by refine ⟨?_, ?_, ?_, ?_⟩ <;> exact Nat.le_of_ble_eq_true rfl) (fun _ h => h) (zX4_isNet  ) ?_
  intro x1 M1 J1 z1 f1 q1
  obtain ⟨e1_1, e1_2, h1⟩ := q1
  replace e1_1 := e1_1.symm; subst e1_1
  replace e1_2 := e1_2.symm; subst e1_2
  refine Z_if_eq (n := 7) (t := 27) dX4_isOutput_4 rfl (by decide) (fun c4 => ?_) (fun c4 => ?_)
  · refine Z_iconst (n := 28) dX4_isOutput_27 rfl (by decide) ?_
    refine Z_zret dX4_isOutput_28 rfl (by first | assumption | omega | decide) (by first | assumption | omega | decide) ?_
    refine ⟨rfl, rfl, ?_⟩; omega
  · refine Z_iload_n (n := 8) dX4_isOutput_7 rfl rfl ?_
    refine Z_iconst (n := 9) dX4_isOutput_8 rfl (by decide) ?_
    refine Z_aload_n (n := 10) dX4_isOutput_9 rfl rfl ?_
    refine Z_getA (n := 13) dX4_isOutput_10 rfl ffX4_13 rfl rfl ?_
    refine Z_iload_n (n := 14) dX4_isOutput_13 rfl rfl ?_
    refine Z_iald (n := 15) dX4_isOutput_14 rfl rfl rfl (by first | decide | assumption) (by omega) (by omega) (fun r14 s14 => ?_)
    refine Z_iconst (n := 16) dX4_isOutput_15 rfl (by decide) ?_
    refine Z_isub (n := 17) dX4_isOutput_16 rfl (by omega) ?_
    refine Z_callSi (n := 20) [_, _, _] _ dX4_isOutput_17 rfl cwX4_112 rfl rfl (Nat.le_of_ble_eq_true rfl) (by refine ⟨?_, ?_, ?_, ?_⟩ <;> exact Nat.le_of_ble_eq_true rfl) (fun _ h => h) (zX4_in  ) ?_
    intro x17 M17 J17 z17 f17 q17
    obtain ⟨e17_1, e17_2, h17⟩ := q17
    replace e17_1 := e17_1.symm; subst e17_1
    replace e17_2 := e17_2.symm; subst e17_2
    refine Z_if_eq (n := 23) (t := 27) dX4_isOutput_20 rfl (by decide) (fun c20 => ?_) (fun c20 => ?_)
    · refine Z_iconst (n := 28) dX4_isOutput_27 rfl (by decide) ?_
      refine Z_zret dX4_isOutput_28 rfl (by first | assumption | omega | decide) (by first | assumption | omega | decide) ?_
      refine ⟨rfl, rfl, ?_⟩; omega
    · refine Z_iconst (n := 24) dX4_isOutput_23 rfl (by decide) ?_
      refine Z_goto (t := 28) dX4_isOutput_24 (by decide) ?_
      refine Z_zret dX4_isOutput_28 rfl (by first | assumption | omega | decide) (by first | assumption | omega | decide) ?_
      refine ⟨rfl, rfl, ?_⟩; omega
set_option maxRecDepth 20000 in
theorem zX4_wants {G : tl_G} {M : zM} {J : zJ} {k : Int}  : ZN G yX4_wants mX4_wants 0 kAll [vI k] F1 M J (qI (fun x M' J' => M' = M ∧ J' = J ∧ x = opF k)) := by
  refine ZN_of (L := [_]) (by decide) rfl rfl (Nat.le_of_ble_eq_true rfl) rfl (fun hav => ?_)
  refine Z_iload_n (n := 1) dX4_wants_0 rfl rfl ?_
  refine Z_iconst (n := 2) dX4_wants_1 rfl (by decide) ?_
  refine Z_icmp_ge (n := 5) (t := 9) dX4_wants_2 rfl (by decide) (fun c2 => ?_) (fun c2 => ?_)
  · refine Z_iload_n (n := 10) dX4_wants_9 rfl rfl ?_
    refine Z_iconst (n := 11) dX4_wants_10 rfl (by decide) ?_
    refine Z_icmp_ne (n := 14) (t := 18) dX4_wants_11 rfl (by decide) (fun c11 => ?_) (fun c11 => ?_)
    · refine Z_iload_n (n := 19) dX4_wants_18 rfl rfl ?_
      refine Z_bipush (n := 21) dX4_wants_19 rfl (by decide) (by decide) ?_
      refine Z_icmp_ge (n := 24) (t := 28) dX4_wants_21 rfl (by decide) (fun c21 => ?_) (fun c21 => ?_)
      · refine Z_iconst (n := 29) dX4_wants_28 rfl (by decide) ?_
        refine Z_iret dX4_wants_29 rfl ?_
        refine ⟨rfl, rfl, ?_⟩; unfold opF; (repeat' split) <;> omega
      · refine Z_iconst (n := 25) dX4_wants_24 rfl (by decide) ?_
        refine Z_goto (t := 29) dX4_wants_25 (by decide) ?_
        refine Z_iret dX4_wants_29 rfl ?_
        refine ⟨rfl, rfl, ?_⟩; unfold opF; (repeat' split) <;> omega
    · refine Z_iconst (n := 15) dX4_wants_14 rfl (by decide) ?_
      refine Z_goto (t := 29) dX4_wants_15 (by decide) ?_
      refine Z_iret dX4_wants_29 rfl ?_
      refine ⟨rfl, rfl, ?_⟩; unfold opF; (repeat' split) <;> omega
  · refine Z_iconst (n := 6) dX4_wants_5 rfl (by decide) ?_
    refine Z_goto (t := 29) dX4_wants_6 (by decide) ?_
    refine Z_iret dX4_wants_29 rfl ?_
    refine ⟨rfl, rfl, ?_⟩; unfold opF; (repeat' split) <;> omega
set_option maxRecDepth 20000 in
theorem zX4_isFunction {G : tl_G} {M : zM} {J : zJ} {f : Int}  : ZN G yX4_isFunction mX4_isFunction 2 kAll [vR 31, vI f] F1 M J (qI (fun x M' J' => M' = M ∧ J' = J ∧ ((x = 1 ∧ 0 ≤ f ∧ f < 12 ∧ ¬ M 43 f = 0) ∨ (x = 0 ∧ (f < 0 ∨ 12 ≤ f ∨ M 43 f = 0))))) := by
  refine ZN_of (L := [_, _]) (by decide) rfl rfl (Nat.le_of_ble_eq_true rfl) rfl (fun hav => ?_)
  refine Z_iload_n (n := 1) dX4_isFunction_0 rfl rfl ?_
  refine Z_callSi (n := 4) [_] _ dX4_isFunction_1 rfl cwX4_210 rfl rfl (Nat.le_of_ble_eq_true rfl) (by refine ⟨?_, ?_, ?_, ?_⟩ <;> exact Nat.le_of_ble_eq_true rfl) (fun _ h => h) (zX4_isHandle  ) ?_
  intro x1 M1 J1 z1 f1 q1
  obtain ⟨e1_1, e1_2, h1⟩ := q1
  replace e1_1 := e1_1.symm; subst e1_1
  replace e1_2 := e1_2.symm; subst e1_2
  refine Z_if_eq (n := 7) (t := 20) dX4_isFunction_4 rfl (by decide) (fun c4 => ?_) (fun c4 => ?_)
  · refine Z_iconst (n := 21) dX4_isFunction_20 rfl (by decide) ?_
    refine Z_zret dX4_isFunction_21 rfl (by first | assumption | omega | decide) (by first | assumption | omega | decide) ?_
    refine ⟨rfl, rfl, ?_⟩; omega
  · refine Z_aload_n (n := 8) dX4_isFunction_7 rfl rfl ?_
    refine Z_getA (n := 11) dX4_isFunction_8 rfl ffX4_44 rfl rfl ?_
    refine Z_iload_n (n := 12) dX4_isFunction_11 rfl rfl ?_
    refine Z_zald (n := 13) dX4_isFunction_12 rfl rfl rfl (by first | decide | assumption) (by omega) (by omega) (fun r12 s12 => ?_)
    refine Z_if_eq (n := 16) (t := 20) dX4_isFunction_13 rfl (by decide) (fun c13 => ?_) (fun c13 => ?_)
    · refine Z_iconst (n := 21) dX4_isFunction_20 rfl (by decide) ?_
      refine Z_zret dX4_isFunction_21 rfl (by first | assumption | omega | decide) (by first | assumption | omega | decide) ?_
      refine ⟨rfl, rfl, ?_⟩; omega
    · refine Z_iconst (n := 17) dX4_isFunction_16 rfl (by decide) ?_
      refine Z_goto (t := 21) dX4_isFunction_17 (by decide) ?_
      refine Z_zret dX4_isFunction_21 rfl (by first | assumption | omega | decide) (by first | assumption | omega | decide) ?_
      refine ⟨rfl, rfl, ?_⟩; omega
set_option maxRecDepth 20000 in
theorem zX4_isEmpty {G : tl_G} {M : zM} {J : zJ}   : ZN G yX4_isEmpty mX4_isEmpty 0 kAll [vR 31] F1 M J (qI (fun x M' J' => M' = M ∧ J' = J ∧ ((x = 1 ∧ noHr M) ∨ (x = 0 ∧ exHr M)))) := by
  refine ZN_of (L := [_, _, _]) (by decide) rfl rfl (Nat.le_of_ble_eq_true rfl) rfl (fun hav => ?_)
  refine Z_iconst (n := 1) dX4_isEmpty_0 rfl (by decide) ?_
  refine Z_istore_n (L' := [_, _, _]) (n := 2) dX4_isEmpty_1 rfl (by decide) rfl rfl ?_
  refine Z_iconst (n := 3) dX4_isEmpty_2 rfl (by decide) ?_
  refine Z_istore_n (L' := [_, _, _]) (n := 4) dX4_isEmpty_3 rfl (by decide) rfl rfl ?_
  have lp4 : ∀ (N4 : Nat) (e i : Int) , ((12 - i).toNat) < N4 → (0 ≤ i) → (i ≤ 12) → ((e = 1 ∧ ∀ h : Int, 0 ≤ h → h < i → M 43 h = 0) ∨ (e = 0 ∧ exHr M)) → TZ G mX4_isEmpty (tl_rm 0 0 0) 0 0 kAll M J 4 [some (vR 31), some (vI e), some (vI i)] [] F1 M J (ZM G (zPost G kAll F1 M J (qI (fun x M' J' => M' = M ∧ J' = J ∧ ((x = 1 ∧ noHr M) ∨ (x = 0 ∧ exHr M))))) 0 0) := by
    intro N4
    induction N4 with
    | zero => intro e i  hN; omega
    | succ N4 ih4 =>
      intro e i  hN4 i4_0 i4_1 i4_2
      refine Z_iload_n (n := 5) dX4_isEmpty_4 rfl rfl ?_
      refine Z_bipush (n := 7) dX4_isEmpty_5 rfl (by decide) (by decide) ?_
      refine Z_icmp_ge (n := 10) (t := 35) dX4_isEmpty_7 rfl (by decide) (fun c7 => ?_) (fun c7 => ?_)
      · refine Z_iload_n (n := 36) dX4_isEmpty_35 rfl rfl ?_
        have hb : e = 0 ∨ e = 1 := by rcases i4_2 with ⟨q, -⟩ | ⟨q, -⟩ <;> omega
        refine Z_zret dX4_isEmpty_36 rfl (by first | assumption | omega | decide) (by first | assumption | omega | decide) ?_
        refine ⟨rfl, rfl, ?_⟩
        rcases i4_2 with ⟨q1, q2⟩ | ⟨q1, q2⟩
        · exact Or.inl ⟨q1, fun h h0 h1 => q2 h h0 (by omega)⟩
        · exact Or.inr ⟨q1, q2⟩
      · refine Z_iload_n (n := 11) dX4_isEmpty_10 rfl rfl ?_
        refine Z_if_eq (n := 14) (t := 27) dX4_isEmpty_11 rfl (by decide) (fun c11 => ?_) (fun c11 => ?_)
        · have nx : ((0 : Int) = 1 ∧ ∀ h : Int, 0 ≤ h → h < i + 1 → M 43 h = 0) ∨ ((0 : Int) = 0 ∧ exHr M) := by
            refine Or.inr ⟨rfl, ?_⟩
            rcases i4_2 with ⟨q, q2⟩ | ⟨q, q2⟩
            · first | (exfalso; omega) | exact ⟨i, by omega, by omega, by assumption⟩
            · exact q2
          refine Z_iconst (n := 28) dX4_isEmpty_27 rfl (by decide) ?_
          refine Z_istore_n (L' := [_, _, _]) (n := 29) dX4_isEmpty_28 rfl (by decide) rfl rfl ?_
          refine Z_iinc (L' := [_, _, _]) (n := 32) dX4_isEmpty_29 rfl rfl (by decide) rfl rfl (by omega) rfl ?_
          refine Z_goto (t := 4) dX4_isEmpty_32 (by decide) ?_
          refine Z_loc (L' := [some _, some _, some _]) (lsub_same (lsub_same (lsub_same lsub_nil))) ?_
          exact ih4 _ _  (by omega) (by first | assumption | omega | decide) (by first | assumption | omega | decide) (by first | exact Or.inl ⟨rfl, fun h h0 h1 => by omega⟩ | exact nx)
        · refine Z_aload_n (n := 15) dX4_isEmpty_14 rfl rfl ?_
          refine Z_getA (n := 18) dX4_isEmpty_15 rfl ffX4_44 rfl rfl ?_
          refine Z_iload_n (n := 19) dX4_isEmpty_18 rfl rfl ?_
          refine Z_zald (n := 20) dX4_isEmpty_19 rfl rfl rfl (by first | decide | assumption) (by omega) (by omega) (fun r19 s19 => ?_)
          refine Z_if_ne (n := 23) (t := 27) dX4_isEmpty_20 rfl (by decide) (fun c20 => ?_) (fun c20 => ?_)
          · have nx : ((0 : Int) = 1 ∧ ∀ h : Int, 0 ≤ h → h < i + 1 → M 43 h = 0) ∨ ((0 : Int) = 0 ∧ exHr M) := by
              refine Or.inr ⟨rfl, ?_⟩
              rcases i4_2 with ⟨q, q2⟩ | ⟨q, q2⟩
              · first | (exfalso; omega) | exact ⟨i, by omega, by omega, by assumption⟩
              · exact q2
            refine Z_iconst (n := 28) dX4_isEmpty_27 rfl (by decide) ?_
            refine Z_istore_n (L' := [_, _, _]) (n := 29) dX4_isEmpty_28 rfl (by decide) rfl rfl ?_
            refine Z_iinc (L' := [_, _, _]) (n := 32) dX4_isEmpty_29 rfl rfl (by decide) rfl rfl (by omega) rfl ?_
            refine Z_goto (t := 4) dX4_isEmpty_32 (by decide) ?_
            refine Z_loc (L' := [some _, some _, some _]) (lsub_same (lsub_same (lsub_same lsub_nil))) ?_
            exact ih4 _ _  (by omega) (by first | assumption | omega | decide) (by first | assumption | omega | decide) (by first | exact Or.inl ⟨rfl, fun h h0 h1 => by omega⟩ | exact nx)
          · have nx : ((1 : Int) = 1 ∧ ∀ h : Int, 0 ≤ h → h < i + 1 → M 43 h = 0) ∨ ((1 : Int) = 0 ∧ exHr M) := by
              rcases i4_2 with ⟨q, q2⟩ | ⟨q, q2⟩
              · exact Or.inl ⟨rfl, pre_up q2 (by assumption)⟩
              · exfalso; omega
            refine Z_iconst (n := 24) dX4_isEmpty_23 rfl (by decide) ?_
            refine Z_goto (t := 28) dX4_isEmpty_24 (by decide) ?_
            refine Z_istore_n (L' := [_, _, _]) (n := 29) dX4_isEmpty_28 rfl (by decide) rfl rfl ?_
            refine Z_iinc (L' := [_, _, _]) (n := 32) dX4_isEmpty_29 rfl rfl (by decide) rfl rfl (by omega) rfl ?_
            refine Z_goto (t := 4) dX4_isEmpty_32 (by decide) ?_
            refine Z_loc (L' := [some _, some _, some _]) (lsub_same (lsub_same (lsub_same lsub_nil))) ?_
            exact ih4 _ _  (by omega) (by first | assumption | omega | decide) (by first | assumption | omega | decide) (by first | exact Or.inl ⟨rfl, fun h h0 h1 => by omega⟩ | exact nx)
  refine Z_loc (L' := [some _, some _, some _]) (lsub_same (lsub_same (lsub_same lsub_nil))) ?_
  exact lp4 _ _ _  (Nat.lt_succ_self _) (by first | assumption | omega | decide) (by first | assumption | omega | decide) (by first | exact Or.inl ⟨rfl, fun h h0 h1 => by omega⟩ | exact nx)
set_option maxRecDepth 20000 in
theorem zX4_gate {G : tl_G} {M : zM} {J : zJ} {net k u v w : Int}  : ZN G yX4_gate mX4_gate 2 kF [vR 31, vI net, vI k, vI u, vI v, vI w] F1 M J (qI (fun x M' J' => J' = J ∧ (((net < 0 ∨ 3 ≤ net) ∧ x = -1 ∧ M' = M) ∨ (0 ≤ net ∧ net < 3 ∧ (k < 0 ∨ 10 < k) ∧ x = -2 ∧ M' = M) ∨ (0 ≤ net ∧ net < 3 ∧ 0 ≤ k ∧ k ≤ 10 ∧ ¬ ((opF k < 1 ∨ (0 ≤ u ∧ u < M 32 net)) ∧ (opF k < 2 ∨ (0 ≤ v ∧ v < M 32 net)) ∧ (opF k < 3 ∨ (0 ≤ w ∧ w < M 32 net))) ∧ x = -1 ∧ M' = M) ∨ (0 ≤ net ∧ net < 3 ∧ 0 ≤ k ∧ k ≤ 10 ∧ ((opF k < 1 ∨ (0 ≤ u ∧ u < M 32 net)) ∧ (opF k < 2 ∨ (0 ≤ v ∧ v < M 32 net)) ∧ (opF k < 3 ∨ (0 ≤ w ∧ w < M 32 net))) ∧ ((k = 0 ∧ (u < 0 ∨ 8 ≤ u) ∧ x = -2 ∧ M' = M) ∨ ((¬ k = 0 ∨ (0 ≤ u ∧ u < 8)) ∧ ((x = -4 ∧ M' = M ∧ 40 ≤ M 32 net) ∨ (x = M 32 net ∧ M 32 net < 40 ∧ M' = uz (uz (uz (uz (uz M 34 (40 * net + M 32 net) k) 35 (3 * (40 * net + M 32 net)) u) 35 (3 * (40 * net + M 32 net) + 1) v) 35 (3 * (40 * net + M 32 net) + 2) w) 32 net (M 32 net + 1))))))))) := by
  refine ZN_of (L := [_, _, _, _, _, _, _, _]) (by decide) rfl rfl (Nat.le_of_ble_eq_true rfl) rfl (fun hav => ?_)
  refine Z_iload_n (n := 1) dX4_gate_0 rfl rfl ?_
  refine Z_callSi (n := 4) [_] _ dX4_gate_1 rfl cwX4_116 rfl rfl (Nat.le_of_ble_eq_true rfl) (by refine ⟨?_, ?_, ?_, ?_⟩ <;> exact Nat.le_of_ble_eq_true rfl) (fun _ _ => trivial) (zX4_isNet  ) ?_
  intro x1 M1 J1 z1 f1 q1
  obtain ⟨e1_1, e1_2, h1⟩ := q1
  replace e1_1 := e1_1.symm; subst e1_1
  replace e1_2 := e1_2.symm; subst e1_2
  refine Z_if_ne (n := 7) (t := 9) dX4_gate_4 rfl (by decide) (fun c4 => ?_) (fun c4 => ?_)
  · have ct29 : ∀ (q : Int) , (0 ≤ net) → (net < 3) → ((0 ≤ k ∧ k ≤ 10 ∧ q = opF k) ∨ ((k < 0 ∨ 10 < k) ∧ q = 0)) → TZ G mX4_gate (tl_rm 2 0 0) 0 0 kF M J 29 [some (vR 31), some (vI net), some (vI k), some (vI u), some (vI v), some (vI w), some (vI q), none] [] F1 M J (ZM G (zPost G kF F1 M J (qI (fun x M' J' => J' = J ∧ (((net < 0 ∨ 3 ≤ net) ∧ x = -1 ∧ M' = M) ∨ (0 ≤ net ∧ net < 3 ∧ (k < 0 ∨ 10 < k) ∧ x = -2 ∧ M' = M) ∨ (0 ≤ net ∧ net < 3 ∧ 0 ≤ k ∧ k ≤ 10 ∧ ¬ ((opF k < 1 ∨ (0 ≤ u ∧ u < M 32 net)) ∧ (opF k < 2 ∨ (0 ≤ v ∧ v < M 32 net)) ∧ (opF k < 3 ∨ (0 ≤ w ∧ w < M 32 net))) ∧ x = -1 ∧ M' = M) ∨ (0 ≤ net ∧ net < 3 ∧ 0 ≤ k ∧ k ≤ 10 ∧ ((opF k < 1 ∨ (0 ≤ u ∧ u < M 32 net)) ∧ (opF k < 2 ∨ (0 ≤ v ∧ v < M 32 net)) ∧ (opF k < 3 ∨ (0 ≤ w ∧ w < M 32 net))) ∧ ((k = 0 ∧ (u < 0 ∨ 8 ≤ u) ∧ x = -2 ∧ M' = M) ∨ ((¬ k = 0 ∨ (0 ≤ u ∧ u < 8)) ∧ ((x = -4 ∧ M' = M ∧ 40 ≤ M 32 net) ∨ (x = M 32 net ∧ M 32 net < 40 ∧ M' = uz (uz (uz (uz (uz M 34 (40 * net + M 32 net) k) 35 (3 * (40 * net + M 32 net)) u) 35 (3 * (40 * net + M 32 net) + 1) v) 35 (3 * (40 * net + M 32 net) + 2) w) 32 net (M 32 net + 1)))))))))) 0 0) := by
      intro q  i29_0 i29_1 i29_2
      refine Z_iload (n := 31) dX4_gate_29 rfl rfl ?_
      refine Z_if_le (n := 34) (t := 43) dX4_gate_31 rfl (by decide) (fun c31 => ?_) (fun c31 => ?_)
      · refine Z_iload (n := 45) dX4_gate_43 rfl rfl ?_
        refine Z_iconst (n := 46) dX4_gate_45 rfl (by decide) ?_
        refine Z_icmp_le (n := 49) (t := 59) dX4_gate_46 rfl (by decide) (fun c46 => ?_) (fun c46 => ?_)
        · refine Z_iload (n := 61) dX4_gate_59 rfl rfl ?_
          refine Z_iconst (n := 62) dX4_gate_61 rfl (by decide) ?_
          refine Z_icmp_le (n := 65) (t := 77) dX4_gate_62 rfl (by decide) (fun c62 => ?_) (fun c62 => ?_)
          · refine Z_iload_n (n := 78) dX4_gate_77 rfl rfl ?_
            refine Z_iconst (n := 79) dX4_gate_78 rfl (by decide) ?_
            refine Z_bipush (n := 81) dX4_gate_79 rfl (by decide) (by decide) ?_
            refine Z_callSi (n := 84) [_, _, _] _ dX4_gate_81 rfl cwX4_112 rfl rfl (Nat.le_of_ble_eq_true rfl) (by refine ⟨?_, ?_, ?_, ?_⟩ <;> exact Nat.le_of_ble_eq_true rfl) (fun _ _ => trivial) (zX4_in  ) ?_
            intro x81 M81 J81 z81 f81 q81
            obtain ⟨e81_1, e81_2, h81⟩ := q81
            replace e81_1 := e81_1.symm; subst e81_1
            replace e81_2 := e81_2.symm; subst e81_2
            refine Z_if_eq (n := 87) (t := 101) dX4_gate_84 rfl (by decide) (fun c84 => ?_) (fun c84 => ?_)
            · refine Z_bipush (n := 103) dX4_gate_101 rfl (by decide) (by decide) ?_
              refine Z_iret dX4_gate_103 rfl ?_
              first | exact ⟨rfl, Or.inr (Or.inl ⟨by omega, by omega, by omega, rfl, rfl⟩)⟩ | exact ⟨rfl, Or.inr (Or.inr (Or.inr ⟨by omega, by omega, by omega, by omega, by omega, Or.inl ⟨by omega, by omega, rfl, rfl⟩⟩))⟩
            · refine Z_iload_n (n := 88) dX4_gate_87 rfl rfl ?_
              refine Z_if_ne (n := 91) (t := 104) dX4_gate_88 rfl (by decide) (fun c88 => ?_) (fun c88 => ?_)
              · refine Z_aload_n (n := 105) dX4_gate_104 rfl rfl ?_
                refine Z_getA (n := 108) dX4_gate_105 rfl ffX4_7 rfl rfl ?_
                refine Z_iload_n (n := 109) dX4_gate_108 rfl rfl ?_
                refine Z_iald (n := 110) dX4_gate_109 rfl rfl rfl (by first | decide | assumption) (by omega) (by omega) (fun r109 s109 => ?_)
                try simp only [uz_oo (show (32 : Nat) ≠ 34 by decide), uz_oo (show (32 : Nat) ≠ 35 by decide), uz_s] at r109 s109 ⊢
                refine Z_bipush (n := 112) dX4_gate_110 rfl (by decide) (by decide) ?_
                refine Z_icmp_ne (n := 115) (t := 118) dX4_gate_112 rfl (by decide) (fun c112 => ?_) (fun c112 => ?_)
                · refine Z_bipush (n := 120) dX4_gate_118 rfl (by decide) (by decide) ?_
                  refine Z_iload_n (n := 121) dX4_gate_120 rfl rfl ?_
                  refine Z_imul (n := 122) dX4_gate_121 rfl (by omega) ?_
                  refine Z_aload_n (n := 123) dX4_gate_122 rfl rfl ?_
                  refine Z_getA (n := 126) dX4_gate_123 rfl ffX4_7 rfl rfl ?_
                  refine Z_iload_n (n := 127) dX4_gate_126 rfl rfl ?_
                  refine Z_iald (n := 128) dX4_gate_127 rfl rfl rfl (by first | decide | assumption) (by omega) (by omega) (fun r127 s127 => ?_)
                  try simp only [uz_oo (show (32 : Nat) ≠ 34 by decide), uz_oo (show (32 : Nat) ≠ 35 by decide), uz_s] at r127 s127 ⊢
                  refine Z_iadd (n := 129) dX4_gate_128 rfl (by omega) ?_
                  refine Z_istore (L' := [_, _, _, _, _, _, _, _]) (n := 131) dX4_gate_129 rfl (by decide) rfl rfl ?_
                  refine Z_aload_n (n := 132) dX4_gate_131 rfl rfl ?_
                  refine Z_getA (n := 135) dX4_gate_132 rfl ffX4_16 rfl rfl ?_
                  refine Z_iload (n := 137) dX4_gate_135 rfl rfl ?_
                  refine Z_iload_n (n := 138) dX4_gate_137 rfl rfl ?_
                  refine Z_iast (n := 139) dX4_gate_138 rfl rfl rfl (by first | decide | assumption) (by omega) (by omega) (by first | assumption | omega | decide) (by first | assumption | omega | decide) (by exact fun h => h) ?_
                  refine Z_aload_n (n := 140) dX4_gate_139 rfl rfl ?_
                  refine Z_getA (n := 143) dX4_gate_140 rfl ffX4_19 rfl rfl ?_
                  refine Z_iconst (n := 144) dX4_gate_143 rfl (by decide) ?_
                  refine Z_iload (n := 146) dX4_gate_144 rfl rfl ?_
                  refine Z_imul (n := 147) dX4_gate_146 rfl (by omega) ?_
                  refine Z_iload_n (n := 148) dX4_gate_147 rfl rfl ?_
                  refine Z_iast (n := 149) dX4_gate_148 rfl rfl rfl (by first | decide | assumption) (by omega) (by omega) (by first | exact (show zI u from hav (vI u) (by simp)).1 | exact (show zI u from hav (vI u) (by simp)).2) (by first | exact (show zI u from hav (vI u) (by simp)).1 | exact (show zI u from hav (vI u) (by simp)).2) (by exact fun h => h) ?_
                  refine Z_aload_n (n := 150) dX4_gate_149 rfl rfl ?_
                  refine Z_getA (n := 153) dX4_gate_150 rfl ffX4_19 rfl rfl ?_
                  refine Z_iconst (n := 154) dX4_gate_153 rfl (by decide) ?_
                  refine Z_iload (n := 156) dX4_gate_154 rfl rfl ?_
                  refine Z_imul (n := 157) dX4_gate_156 rfl (by omega) ?_
                  refine Z_iconst (n := 158) dX4_gate_157 rfl (by decide) ?_
                  refine Z_iadd (n := 159) dX4_gate_158 rfl (by omega) ?_
                  refine Z_iload (n := 161) dX4_gate_159 rfl rfl ?_
                  refine Z_iast (n := 162) dX4_gate_161 rfl rfl rfl (by first | decide | assumption) (by omega) (by omega) (by first | exact (show zI v from hav (vI v) (by simp)).1 | exact (show zI v from hav (vI v) (by simp)).2) (by first | exact (show zI v from hav (vI v) (by simp)).1 | exact (show zI v from hav (vI v) (by simp)).2) (by exact fun h => h) ?_
                  refine Z_aload_n (n := 163) dX4_gate_162 rfl rfl ?_
                  refine Z_getA (n := 166) dX4_gate_163 rfl ffX4_19 rfl rfl ?_
                  refine Z_iconst (n := 167) dX4_gate_166 rfl (by decide) ?_
                  refine Z_iload (n := 169) dX4_gate_167 rfl rfl ?_
                  refine Z_imul (n := 170) dX4_gate_169 rfl (by omega) ?_
                  refine Z_iconst (n := 171) dX4_gate_170 rfl (by decide) ?_
                  refine Z_iadd (n := 172) dX4_gate_171 rfl (by omega) ?_
                  refine Z_iload (n := 174) dX4_gate_172 rfl rfl ?_
                  refine Z_iast (n := 175) dX4_gate_174 rfl rfl rfl (by first | decide | assumption) (by omega) (by omega) (by first | exact (show zI w from hav (vI w) (by simp)).1 | exact (show zI w from hav (vI w) (by simp)).2) (by first | exact (show zI w from hav (vI w) (by simp)).1 | exact (show zI w from hav (vI w) (by simp)).2) (by exact fun h => h) ?_
                  refine Z_aload_n (n := 176) dX4_gate_175 rfl rfl ?_
                  refine Z_getA (n := 179) dX4_gate_176 rfl ffX4_7 rfl rfl ?_
                  refine Z_iload_n (n := 180) dX4_gate_179 rfl rfl ?_
                  refine Z_dup2 (n := 181) dX4_gate_180 rfl rfl rfl ?_
                  refine Z_iald (n := 182) dX4_gate_181 rfl rfl rfl (by first | decide | assumption) (by omega) (by omega) (fun r181 s181 => ?_)
                  try simp only [uz_oo (show (32 : Nat) ≠ 34 by decide), uz_oo (show (32 : Nat) ≠ 35 by decide), uz_s] at r181 s181 ⊢
                  refine Z_iconst (n := 183) dX4_gate_182 rfl (by decide) ?_
                  refine Z_iadd (n := 184) dX4_gate_183 rfl (by omega) ?_
                  refine Z_iast (n := 185) dX4_gate_184 rfl rfl rfl (by first | decide | assumption) (by omega) (by omega) (by first | assumption | omega | decide) (by first | assumption | omega | decide) (by exact fun h => h) ?_
                  refine Z_aload_n (n := 186) dX4_gate_185 rfl rfl ?_
                  refine Z_getA (n := 189) dX4_gate_186 rfl ffX4_7 rfl rfl ?_
                  refine Z_iload_n (n := 190) dX4_gate_189 rfl rfl ?_
                  refine Z_iald (n := 191) dX4_gate_190 rfl rfl rfl (by first | decide | assumption) (by omega) (by omega) (fun r190 s190 => ?_)
                  try simp only [uz_oo (show (32 : Nat) ≠ 34 by decide), uz_oo (show (32 : Nat) ≠ 35 by decide), uz_s] at r190 s190 ⊢
                  refine Z_iconst (n := 192) dX4_gate_191 rfl (by decide) ?_
                  refine Z_isub (n := 193) dX4_gate_192 rfl (by omega) ?_
                  refine Z_iret dX4_gate_193 rfl ?_
                  exact ⟨rfl, Or.inr (Or.inr (Or.inr ⟨by omega, by omega, by omega, by omega, by omega, Or.inr ⟨by omega, Or.inr ⟨by omega, by omega, rfl⟩⟩⟩))⟩
                · refine Z_bipush (n := 117) dX4_gate_115 rfl (by decide) (by decide) ?_
                  refine Z_iret dX4_gate_117 rfl ?_
                  exact ⟨rfl, Or.inr (Or.inr (Or.inr ⟨by omega, by omega, by omega, by omega, by omega, Or.inr ⟨by omega, Or.inl ⟨rfl, rfl, by omega⟩⟩⟩))⟩
              · refine Z_iload_n (n := 92) dX4_gate_91 rfl rfl ?_
                refine Z_iconst (n := 93) dX4_gate_92 rfl (by decide) ?_
                refine Z_bipush (n := 95) dX4_gate_93 rfl (by decide) (by decide) ?_
                refine Z_callSi (n := 98) [_, _, _] _ dX4_gate_95 rfl cwX4_112 rfl rfl (Nat.le_of_ble_eq_true rfl) (by refine ⟨?_, ?_, ?_, ?_⟩ <;> exact Nat.le_of_ble_eq_true rfl) (fun _ _ => trivial) (zX4_in  ) ?_
                intro x95 M95 J95 z95 f95 q95
                obtain ⟨e95_1, e95_2, h95⟩ := q95
                replace e95_1 := e95_1.symm; subst e95_1
                replace e95_2 := e95_2.symm; subst e95_2
                refine Z_if_ne (n := 101) (t := 104) dX4_gate_98 rfl (by decide) (fun c98 => ?_) (fun c98 => ?_)
                · refine Z_aload_n (n := 105) dX4_gate_104 rfl rfl ?_
                  refine Z_getA (n := 108) dX4_gate_105 rfl ffX4_7 rfl rfl ?_
                  refine Z_iload_n (n := 109) dX4_gate_108 rfl rfl ?_
                  refine Z_iald (n := 110) dX4_gate_109 rfl rfl rfl (by first | decide | assumption) (by omega) (by omega) (fun r109 s109 => ?_)
                  try simp only [uz_oo (show (32 : Nat) ≠ 34 by decide), uz_oo (show (32 : Nat) ≠ 35 by decide), uz_s] at r109 s109 ⊢
                  refine Z_bipush (n := 112) dX4_gate_110 rfl (by decide) (by decide) ?_
                  refine Z_icmp_ne (n := 115) (t := 118) dX4_gate_112 rfl (by decide) (fun c112 => ?_) (fun c112 => ?_)
                  · refine Z_bipush (n := 120) dX4_gate_118 rfl (by decide) (by decide) ?_
                    refine Z_iload_n (n := 121) dX4_gate_120 rfl rfl ?_
                    refine Z_imul (n := 122) dX4_gate_121 rfl (by omega) ?_
                    refine Z_aload_n (n := 123) dX4_gate_122 rfl rfl ?_
                    refine Z_getA (n := 126) dX4_gate_123 rfl ffX4_7 rfl rfl ?_
                    refine Z_iload_n (n := 127) dX4_gate_126 rfl rfl ?_
                    refine Z_iald (n := 128) dX4_gate_127 rfl rfl rfl (by first | decide | assumption) (by omega) (by omega) (fun r127 s127 => ?_)
                    try simp only [uz_oo (show (32 : Nat) ≠ 34 by decide), uz_oo (show (32 : Nat) ≠ 35 by decide), uz_s] at r127 s127 ⊢
                    refine Z_iadd (n := 129) dX4_gate_128 rfl (by omega) ?_
                    refine Z_istore (L' := [_, _, _, _, _, _, _, _]) (n := 131) dX4_gate_129 rfl (by decide) rfl rfl ?_
                    refine Z_aload_n (n := 132) dX4_gate_131 rfl rfl ?_
                    refine Z_getA (n := 135) dX4_gate_132 rfl ffX4_16 rfl rfl ?_
                    refine Z_iload (n := 137) dX4_gate_135 rfl rfl ?_
                    refine Z_iload_n (n := 138) dX4_gate_137 rfl rfl ?_
                    refine Z_iast (n := 139) dX4_gate_138 rfl rfl rfl (by first | decide | assumption) (by omega) (by omega) (by first | assumption | omega | decide) (by first | assumption | omega | decide) (by exact fun h => h) ?_
                    refine Z_aload_n (n := 140) dX4_gate_139 rfl rfl ?_
                    refine Z_getA (n := 143) dX4_gate_140 rfl ffX4_19 rfl rfl ?_
                    refine Z_iconst (n := 144) dX4_gate_143 rfl (by decide) ?_
                    refine Z_iload (n := 146) dX4_gate_144 rfl rfl ?_
                    refine Z_imul (n := 147) dX4_gate_146 rfl (by omega) ?_
                    refine Z_iload_n (n := 148) dX4_gate_147 rfl rfl ?_
                    refine Z_iast (n := 149) dX4_gate_148 rfl rfl rfl (by first | decide | assumption) (by omega) (by omega) (by first | exact (show zI u from hav (vI u) (by simp)).1 | exact (show zI u from hav (vI u) (by simp)).2) (by first | exact (show zI u from hav (vI u) (by simp)).1 | exact (show zI u from hav (vI u) (by simp)).2) (by exact fun h => h) ?_
                    refine Z_aload_n (n := 150) dX4_gate_149 rfl rfl ?_
                    refine Z_getA (n := 153) dX4_gate_150 rfl ffX4_19 rfl rfl ?_
                    refine Z_iconst (n := 154) dX4_gate_153 rfl (by decide) ?_
                    refine Z_iload (n := 156) dX4_gate_154 rfl rfl ?_
                    refine Z_imul (n := 157) dX4_gate_156 rfl (by omega) ?_
                    refine Z_iconst (n := 158) dX4_gate_157 rfl (by decide) ?_
                    refine Z_iadd (n := 159) dX4_gate_158 rfl (by omega) ?_
                    refine Z_iload (n := 161) dX4_gate_159 rfl rfl ?_
                    refine Z_iast (n := 162) dX4_gate_161 rfl rfl rfl (by first | decide | assumption) (by omega) (by omega) (by first | exact (show zI v from hav (vI v) (by simp)).1 | exact (show zI v from hav (vI v) (by simp)).2) (by first | exact (show zI v from hav (vI v) (by simp)).1 | exact (show zI v from hav (vI v) (by simp)).2) (by exact fun h => h) ?_
                    refine Z_aload_n (n := 163) dX4_gate_162 rfl rfl ?_
                    refine Z_getA (n := 166) dX4_gate_163 rfl ffX4_19 rfl rfl ?_
                    refine Z_iconst (n := 167) dX4_gate_166 rfl (by decide) ?_
                    refine Z_iload (n := 169) dX4_gate_167 rfl rfl ?_
                    refine Z_imul (n := 170) dX4_gate_169 rfl (by omega) ?_
                    refine Z_iconst (n := 171) dX4_gate_170 rfl (by decide) ?_
                    refine Z_iadd (n := 172) dX4_gate_171 rfl (by omega) ?_
                    refine Z_iload (n := 174) dX4_gate_172 rfl rfl ?_
                    refine Z_iast (n := 175) dX4_gate_174 rfl rfl rfl (by first | decide | assumption) (by omega) (by omega) (by first | exact (show zI w from hav (vI w) (by simp)).1 | exact (show zI w from hav (vI w) (by simp)).2) (by first | exact (show zI w from hav (vI w) (by simp)).1 | exact (show zI w from hav (vI w) (by simp)).2) (by exact fun h => h) ?_
                    refine Z_aload_n (n := 176) dX4_gate_175 rfl rfl ?_
                    refine Z_getA (n := 179) dX4_gate_176 rfl ffX4_7 rfl rfl ?_
                    refine Z_iload_n (n := 180) dX4_gate_179 rfl rfl ?_
                    refine Z_dup2 (n := 181) dX4_gate_180 rfl rfl rfl ?_
                    refine Z_iald (n := 182) dX4_gate_181 rfl rfl rfl (by first | decide | assumption) (by omega) (by omega) (fun r181 s181 => ?_)
                    try simp only [uz_oo (show (32 : Nat) ≠ 34 by decide), uz_oo (show (32 : Nat) ≠ 35 by decide), uz_s] at r181 s181 ⊢
                    refine Z_iconst (n := 183) dX4_gate_182 rfl (by decide) ?_
                    refine Z_iadd (n := 184) dX4_gate_183 rfl (by omega) ?_
                    refine Z_iast (n := 185) dX4_gate_184 rfl rfl rfl (by first | decide | assumption) (by omega) (by omega) (by first | assumption | omega | decide) (by first | assumption | omega | decide) (by exact fun h => h) ?_
                    refine Z_aload_n (n := 186) dX4_gate_185 rfl rfl ?_
                    refine Z_getA (n := 189) dX4_gate_186 rfl ffX4_7 rfl rfl ?_
                    refine Z_iload_n (n := 190) dX4_gate_189 rfl rfl ?_
                    refine Z_iald (n := 191) dX4_gate_190 rfl rfl rfl (by first | decide | assumption) (by omega) (by omega) (fun r190 s190 => ?_)
                    try simp only [uz_oo (show (32 : Nat) ≠ 34 by decide), uz_oo (show (32 : Nat) ≠ 35 by decide), uz_s] at r190 s190 ⊢
                    refine Z_iconst (n := 192) dX4_gate_191 rfl (by decide) ?_
                    refine Z_isub (n := 193) dX4_gate_192 rfl (by omega) ?_
                    refine Z_iret dX4_gate_193 rfl ?_
                    exact ⟨rfl, Or.inr (Or.inr (Or.inr ⟨by omega, by omega, by omega, by omega, by omega, Or.inr ⟨by omega, Or.inr ⟨by omega, by omega, rfl⟩⟩⟩))⟩
                  · refine Z_bipush (n := 117) dX4_gate_115 rfl (by decide) (by decide) ?_
                    refine Z_iret dX4_gate_117 rfl ?_
                    exact ⟨rfl, Or.inr (Or.inr (Or.inr ⟨by omega, by omega, by omega, by omega, by omega, Or.inr ⟨by omega, Or.inl ⟨rfl, rfl, by omega⟩⟩⟩))⟩
                · refine Z_bipush (n := 103) dX4_gate_101 rfl (by decide) (by decide) ?_
                  refine Z_iret dX4_gate_103 rfl ?_
                  first | exact ⟨rfl, Or.inr (Or.inl ⟨by omega, by omega, by omega, rfl, rfl⟩)⟩ | exact ⟨rfl, Or.inr (Or.inr (Or.inr ⟨by omega, by omega, by omega, by omega, by omega, Or.inl ⟨by omega, by omega, rfl, rfl⟩⟩))⟩
          · refine Z_aload_n (n := 66) dX4_gate_65 rfl rfl ?_
            refine Z_iload_n (n := 67) dX4_gate_66 rfl rfl ?_
            refine Z_iload (n := 69) dX4_gate_67 rfl rfl ?_
            refine Z_callVi (n := 72) [_, _] _ dX4_gate_69 rfl cwX4_124 rfl rfl rfl (Nat.le_of_ble_eq_true rfl) (by refine ⟨?_, ?_, ?_, ?_⟩ <;> exact Nat.le_of_ble_eq_true rfl) (fun _ _ => trivial) (zX4_isGate  (by first | assumption | omega | decide) (by first | assumption | omega | decide)) ?_
            intro x69 M69 J69 z69 f69 q69
            obtain ⟨e69_1, e69_2, h69⟩ := q69
            replace e69_1 := e69_1.symm; subst e69_1
            replace e69_2 := e69_2.symm; subst e69_2
            refine Z_if_ne (n := 75) (t := 77) dX4_gate_72 rfl (by decide) (fun c72 => ?_) (fun c72 => ?_)
            · refine Z_iload_n (n := 78) dX4_gate_77 rfl rfl ?_
              refine Z_iconst (n := 79) dX4_gate_78 rfl (by decide) ?_
              refine Z_bipush (n := 81) dX4_gate_79 rfl (by decide) (by decide) ?_
              refine Z_callSi (n := 84) [_, _, _] _ dX4_gate_81 rfl cwX4_112 rfl rfl (Nat.le_of_ble_eq_true rfl) (by refine ⟨?_, ?_, ?_, ?_⟩ <;> exact Nat.le_of_ble_eq_true rfl) (fun _ _ => trivial) (zX4_in  ) ?_
              intro x81 M81 J81 z81 f81 q81
              obtain ⟨e81_1, e81_2, h81⟩ := q81
              replace e81_1 := e81_1.symm; subst e81_1
              replace e81_2 := e81_2.symm; subst e81_2
              refine Z_if_eq (n := 87) (t := 101) dX4_gate_84 rfl (by decide) (fun c84 => ?_) (fun c84 => ?_)
              · refine Z_bipush (n := 103) dX4_gate_101 rfl (by decide) (by decide) ?_
                refine Z_iret dX4_gate_103 rfl ?_
                first | exact ⟨rfl, Or.inr (Or.inl ⟨by omega, by omega, by omega, rfl, rfl⟩)⟩ | exact ⟨rfl, Or.inr (Or.inr (Or.inr ⟨by omega, by omega, by omega, by omega, by omega, Or.inl ⟨by omega, by omega, rfl, rfl⟩⟩))⟩
              · refine Z_iload_n (n := 88) dX4_gate_87 rfl rfl ?_
                refine Z_if_ne (n := 91) (t := 104) dX4_gate_88 rfl (by decide) (fun c88 => ?_) (fun c88 => ?_)
                · refine Z_aload_n (n := 105) dX4_gate_104 rfl rfl ?_
                  refine Z_getA (n := 108) dX4_gate_105 rfl ffX4_7 rfl rfl ?_
                  refine Z_iload_n (n := 109) dX4_gate_108 rfl rfl ?_
                  refine Z_iald (n := 110) dX4_gate_109 rfl rfl rfl (by first | decide | assumption) (by omega) (by omega) (fun r109 s109 => ?_)
                  try simp only [uz_oo (show (32 : Nat) ≠ 34 by decide), uz_oo (show (32 : Nat) ≠ 35 by decide), uz_s] at r109 s109 ⊢
                  refine Z_bipush (n := 112) dX4_gate_110 rfl (by decide) (by decide) ?_
                  refine Z_icmp_ne (n := 115) (t := 118) dX4_gate_112 rfl (by decide) (fun c112 => ?_) (fun c112 => ?_)
                  · refine Z_bipush (n := 120) dX4_gate_118 rfl (by decide) (by decide) ?_
                    refine Z_iload_n (n := 121) dX4_gate_120 rfl rfl ?_
                    refine Z_imul (n := 122) dX4_gate_121 rfl (by omega) ?_
                    refine Z_aload_n (n := 123) dX4_gate_122 rfl rfl ?_
                    refine Z_getA (n := 126) dX4_gate_123 rfl ffX4_7 rfl rfl ?_
                    refine Z_iload_n (n := 127) dX4_gate_126 rfl rfl ?_
                    refine Z_iald (n := 128) dX4_gate_127 rfl rfl rfl (by first | decide | assumption) (by omega) (by omega) (fun r127 s127 => ?_)
                    try simp only [uz_oo (show (32 : Nat) ≠ 34 by decide), uz_oo (show (32 : Nat) ≠ 35 by decide), uz_s] at r127 s127 ⊢
                    refine Z_iadd (n := 129) dX4_gate_128 rfl (by omega) ?_
                    refine Z_istore (L' := [_, _, _, _, _, _, _, _]) (n := 131) dX4_gate_129 rfl (by decide) rfl rfl ?_
                    refine Z_aload_n (n := 132) dX4_gate_131 rfl rfl ?_
                    refine Z_getA (n := 135) dX4_gate_132 rfl ffX4_16 rfl rfl ?_
                    refine Z_iload (n := 137) dX4_gate_135 rfl rfl ?_
                    refine Z_iload_n (n := 138) dX4_gate_137 rfl rfl ?_
                    refine Z_iast (n := 139) dX4_gate_138 rfl rfl rfl (by first | decide | assumption) (by omega) (by omega) (by first | assumption | omega | decide) (by first | assumption | omega | decide) (by exact fun h => h) ?_
                    refine Z_aload_n (n := 140) dX4_gate_139 rfl rfl ?_
                    refine Z_getA (n := 143) dX4_gate_140 rfl ffX4_19 rfl rfl ?_
                    refine Z_iconst (n := 144) dX4_gate_143 rfl (by decide) ?_
                    refine Z_iload (n := 146) dX4_gate_144 rfl rfl ?_
                    refine Z_imul (n := 147) dX4_gate_146 rfl (by omega) ?_
                    refine Z_iload_n (n := 148) dX4_gate_147 rfl rfl ?_
                    refine Z_iast (n := 149) dX4_gate_148 rfl rfl rfl (by first | decide | assumption) (by omega) (by omega) (by first | exact (show zI u from hav (vI u) (by simp)).1 | exact (show zI u from hav (vI u) (by simp)).2) (by first | exact (show zI u from hav (vI u) (by simp)).1 | exact (show zI u from hav (vI u) (by simp)).2) (by exact fun h => h) ?_
                    refine Z_aload_n (n := 150) dX4_gate_149 rfl rfl ?_
                    refine Z_getA (n := 153) dX4_gate_150 rfl ffX4_19 rfl rfl ?_
                    refine Z_iconst (n := 154) dX4_gate_153 rfl (by decide) ?_
                    refine Z_iload (n := 156) dX4_gate_154 rfl rfl ?_
                    refine Z_imul (n := 157) dX4_gate_156 rfl (by omega) ?_
                    refine Z_iconst (n := 158) dX4_gate_157 rfl (by decide) ?_
                    refine Z_iadd (n := 159) dX4_gate_158 rfl (by omega) ?_
                    refine Z_iload (n := 161) dX4_gate_159 rfl rfl ?_
                    refine Z_iast (n := 162) dX4_gate_161 rfl rfl rfl (by first | decide | assumption) (by omega) (by omega) (by first | exact (show zI v from hav (vI v) (by simp)).1 | exact (show zI v from hav (vI v) (by simp)).2) (by first | exact (show zI v from hav (vI v) (by simp)).1 | exact (show zI v from hav (vI v) (by simp)).2) (by exact fun h => h) ?_
                    refine Z_aload_n (n := 163) dX4_gate_162 rfl rfl ?_
                    refine Z_getA (n := 166) dX4_gate_163 rfl ffX4_19 rfl rfl ?_
                    refine Z_iconst (n := 167) dX4_gate_166 rfl (by decide) ?_
                    refine Z_iload (n := 169) dX4_gate_167 rfl rfl ?_
                    refine Z_imul (n := 170) dX4_gate_169 rfl (by omega) ?_
                    refine Z_iconst (n := 171) dX4_gate_170 rfl (by decide) ?_
                    refine Z_iadd (n := 172) dX4_gate_171 rfl (by omega) ?_
                    refine Z_iload (n := 174) dX4_gate_172 rfl rfl ?_
                    refine Z_iast (n := 175) dX4_gate_174 rfl rfl rfl (by first | decide | assumption) (by omega) (by omega) (by first | exact (show zI w from hav (vI w) (by simp)).1 | exact (show zI w from hav (vI w) (by simp)).2) (by first | exact (show zI w from hav (vI w) (by simp)).1 | exact (show zI w from hav (vI w) (by simp)).2) (by exact fun h => h) ?_
                    refine Z_aload_n (n := 176) dX4_gate_175 rfl rfl ?_
                    refine Z_getA (n := 179) dX4_gate_176 rfl ffX4_7 rfl rfl ?_
                    refine Z_iload_n (n := 180) dX4_gate_179 rfl rfl ?_
                    refine Z_dup2 (n := 181) dX4_gate_180 rfl rfl rfl ?_
                    refine Z_iald (n := 182) dX4_gate_181 rfl rfl rfl (by first | decide | assumption) (by omega) (by omega) (fun r181 s181 => ?_)
                    try simp only [uz_oo (show (32 : Nat) ≠ 34 by decide), uz_oo (show (32 : Nat) ≠ 35 by decide), uz_s] at r181 s181 ⊢
                    refine Z_iconst (n := 183) dX4_gate_182 rfl (by decide) ?_
                    refine Z_iadd (n := 184) dX4_gate_183 rfl (by omega) ?_
                    refine Z_iast (n := 185) dX4_gate_184 rfl rfl rfl (by first | decide | assumption) (by omega) (by omega) (by first | assumption | omega | decide) (by first | assumption | omega | decide) (by exact fun h => h) ?_
                    refine Z_aload_n (n := 186) dX4_gate_185 rfl rfl ?_
                    refine Z_getA (n := 189) dX4_gate_186 rfl ffX4_7 rfl rfl ?_
                    refine Z_iload_n (n := 190) dX4_gate_189 rfl rfl ?_
                    refine Z_iald (n := 191) dX4_gate_190 rfl rfl rfl (by first | decide | assumption) (by omega) (by omega) (fun r190 s190 => ?_)
                    try simp only [uz_oo (show (32 : Nat) ≠ 34 by decide), uz_oo (show (32 : Nat) ≠ 35 by decide), uz_s] at r190 s190 ⊢
                    refine Z_iconst (n := 192) dX4_gate_191 rfl (by decide) ?_
                    refine Z_isub (n := 193) dX4_gate_192 rfl (by omega) ?_
                    refine Z_iret dX4_gate_193 rfl ?_
                    exact ⟨rfl, Or.inr (Or.inr (Or.inr ⟨by omega, by omega, by omega, by omega, by omega, Or.inr ⟨by omega, Or.inr ⟨by omega, by omega, rfl⟩⟩⟩))⟩
                  · refine Z_bipush (n := 117) dX4_gate_115 rfl (by decide) (by decide) ?_
                    refine Z_iret dX4_gate_117 rfl ?_
                    exact ⟨rfl, Or.inr (Or.inr (Or.inr ⟨by omega, by omega, by omega, by omega, by omega, Or.inr ⟨by omega, Or.inl ⟨rfl, rfl, by omega⟩⟩⟩))⟩
                · refine Z_iload_n (n := 92) dX4_gate_91 rfl rfl ?_
                  refine Z_iconst (n := 93) dX4_gate_92 rfl (by decide) ?_
                  refine Z_bipush (n := 95) dX4_gate_93 rfl (by decide) (by decide) ?_
                  refine Z_callSi (n := 98) [_, _, _] _ dX4_gate_95 rfl cwX4_112 rfl rfl (Nat.le_of_ble_eq_true rfl) (by refine ⟨?_, ?_, ?_, ?_⟩ <;> exact Nat.le_of_ble_eq_true rfl) (fun _ _ => trivial) (zX4_in  ) ?_
                  intro x95 M95 J95 z95 f95 q95
                  obtain ⟨e95_1, e95_2, h95⟩ := q95
                  replace e95_1 := e95_1.symm; subst e95_1
                  replace e95_2 := e95_2.symm; subst e95_2
                  refine Z_if_ne (n := 101) (t := 104) dX4_gate_98 rfl (by decide) (fun c98 => ?_) (fun c98 => ?_)
                  · refine Z_aload_n (n := 105) dX4_gate_104 rfl rfl ?_
                    refine Z_getA (n := 108) dX4_gate_105 rfl ffX4_7 rfl rfl ?_
                    refine Z_iload_n (n := 109) dX4_gate_108 rfl rfl ?_
                    refine Z_iald (n := 110) dX4_gate_109 rfl rfl rfl (by first | decide | assumption) (by omega) (by omega) (fun r109 s109 => ?_)
                    try simp only [uz_oo (show (32 : Nat) ≠ 34 by decide), uz_oo (show (32 : Nat) ≠ 35 by decide), uz_s] at r109 s109 ⊢
                    refine Z_bipush (n := 112) dX4_gate_110 rfl (by decide) (by decide) ?_
                    refine Z_icmp_ne (n := 115) (t := 118) dX4_gate_112 rfl (by decide) (fun c112 => ?_) (fun c112 => ?_)
                    · refine Z_bipush (n := 120) dX4_gate_118 rfl (by decide) (by decide) ?_
                      refine Z_iload_n (n := 121) dX4_gate_120 rfl rfl ?_
                      refine Z_imul (n := 122) dX4_gate_121 rfl (by omega) ?_
                      refine Z_aload_n (n := 123) dX4_gate_122 rfl rfl ?_
                      refine Z_getA (n := 126) dX4_gate_123 rfl ffX4_7 rfl rfl ?_
                      refine Z_iload_n (n := 127) dX4_gate_126 rfl rfl ?_
                      refine Z_iald (n := 128) dX4_gate_127 rfl rfl rfl (by first | decide | assumption) (by omega) (by omega) (fun r127 s127 => ?_)
                      try simp only [uz_oo (show (32 : Nat) ≠ 34 by decide), uz_oo (show (32 : Nat) ≠ 35 by decide), uz_s] at r127 s127 ⊢
                      refine Z_iadd (n := 129) dX4_gate_128 rfl (by omega) ?_
                      refine Z_istore (L' := [_, _, _, _, _, _, _, _]) (n := 131) dX4_gate_129 rfl (by decide) rfl rfl ?_
                      refine Z_aload_n (n := 132) dX4_gate_131 rfl rfl ?_
                      refine Z_getA (n := 135) dX4_gate_132 rfl ffX4_16 rfl rfl ?_
                      refine Z_iload (n := 137) dX4_gate_135 rfl rfl ?_
                      refine Z_iload_n (n := 138) dX4_gate_137 rfl rfl ?_
                      refine Z_iast (n := 139) dX4_gate_138 rfl rfl rfl (by first | decide | assumption) (by omega) (by omega) (by first | assumption | omega | decide) (by first | assumption | omega | decide) (by exact fun h => h) ?_
                      refine Z_aload_n (n := 140) dX4_gate_139 rfl rfl ?_
                      refine Z_getA (n := 143) dX4_gate_140 rfl ffX4_19 rfl rfl ?_
                      refine Z_iconst (n := 144) dX4_gate_143 rfl (by decide) ?_
                      refine Z_iload (n := 146) dX4_gate_144 rfl rfl ?_
                      refine Z_imul (n := 147) dX4_gate_146 rfl (by omega) ?_
                      refine Z_iload_n (n := 148) dX4_gate_147 rfl rfl ?_
                      refine Z_iast (n := 149) dX4_gate_148 rfl rfl rfl (by first | decide | assumption) (by omega) (by omega) (by first | exact (show zI u from hav (vI u) (by simp)).1 | exact (show zI u from hav (vI u) (by simp)).2) (by first | exact (show zI u from hav (vI u) (by simp)).1 | exact (show zI u from hav (vI u) (by simp)).2) (by exact fun h => h) ?_
                      refine Z_aload_n (n := 150) dX4_gate_149 rfl rfl ?_
                      refine Z_getA (n := 153) dX4_gate_150 rfl ffX4_19 rfl rfl ?_
                      refine Z_iconst (n := 154) dX4_gate_153 rfl (by decide) ?_
                      refine Z_iload (n := 156) dX4_gate_154 rfl rfl ?_
                      refine Z_imul (n := 157) dX4_gate_156 rfl (by omega) ?_
                      refine Z_iconst (n := 158) dX4_gate_157 rfl (by decide) ?_
                      refine Z_iadd (n := 159) dX4_gate_158 rfl (by omega) ?_
                      refine Z_iload (n := 161) dX4_gate_159 rfl rfl ?_
                      refine Z_iast (n := 162) dX4_gate_161 rfl rfl rfl (by first | decide | assumption) (by omega) (by omega) (by first | exact (show zI v from hav (vI v) (by simp)).1 | exact (show zI v from hav (vI v) (by simp)).2) (by first | exact (show zI v from hav (vI v) (by simp)).1 | exact (show zI v from hav (vI v) (by simp)).2) (by exact fun h => h) ?_
                      refine Z_aload_n (n := 163) dX4_gate_162 rfl rfl ?_
                      refine Z_getA (n := 166) dX4_gate_163 rfl ffX4_19 rfl rfl ?_
                      refine Z_iconst (n := 167) dX4_gate_166 rfl (by decide) ?_
                      refine Z_iload (n := 169) dX4_gate_167 rfl rfl ?_
                      refine Z_imul (n := 170) dX4_gate_169 rfl (by omega) ?_
                      refine Z_iconst (n := 171) dX4_gate_170 rfl (by decide) ?_
                      refine Z_iadd (n := 172) dX4_gate_171 rfl (by omega) ?_
                      refine Z_iload (n := 174) dX4_gate_172 rfl rfl ?_
                      refine Z_iast (n := 175) dX4_gate_174 rfl rfl rfl (by first | decide | assumption) (by omega) (by omega) (by first | exact (show zI w from hav (vI w) (by simp)).1 | exact (show zI w from hav (vI w) (by simp)).2) (by first | exact (show zI w from hav (vI w) (by simp)).1 | exact (show zI w from hav (vI w) (by simp)).2) (by exact fun h => h) ?_
                      refine Z_aload_n (n := 176) dX4_gate_175 rfl rfl ?_
                      refine Z_getA (n := 179) dX4_gate_176 rfl ffX4_7 rfl rfl ?_
                      refine Z_iload_n (n := 180) dX4_gate_179 rfl rfl ?_
                      refine Z_dup2 (n := 181) dX4_gate_180 rfl rfl rfl ?_
                      refine Z_iald (n := 182) dX4_gate_181 rfl rfl rfl (by first | decide | assumption) (by omega) (by omega) (fun r181 s181 => ?_)
                      try simp only [uz_oo (show (32 : Nat) ≠ 34 by decide), uz_oo (show (32 : Nat) ≠ 35 by decide), uz_s] at r181 s181 ⊢
                      refine Z_iconst (n := 183) dX4_gate_182 rfl (by decide) ?_
                      refine Z_iadd (n := 184) dX4_gate_183 rfl (by omega) ?_
                      refine Z_iast (n := 185) dX4_gate_184 rfl rfl rfl (by first | decide | assumption) (by omega) (by omega) (by first | assumption | omega | decide) (by first | assumption | omega | decide) (by exact fun h => h) ?_
                      refine Z_aload_n (n := 186) dX4_gate_185 rfl rfl ?_
                      refine Z_getA (n := 189) dX4_gate_186 rfl ffX4_7 rfl rfl ?_
                      refine Z_iload_n (n := 190) dX4_gate_189 rfl rfl ?_
                      refine Z_iald (n := 191) dX4_gate_190 rfl rfl rfl (by first | decide | assumption) (by omega) (by omega) (fun r190 s190 => ?_)
                      try simp only [uz_oo (show (32 : Nat) ≠ 34 by decide), uz_oo (show (32 : Nat) ≠ 35 by decide), uz_s] at r190 s190 ⊢
                      refine Z_iconst (n := 192) dX4_gate_191 rfl (by decide) ?_
                      refine Z_isub (n := 193) dX4_gate_192 rfl (by omega) ?_
                      refine Z_iret dX4_gate_193 rfl ?_
                      exact ⟨rfl, Or.inr (Or.inr (Or.inr ⟨by omega, by omega, by omega, by omega, by omega, Or.inr ⟨by omega, Or.inr ⟨by omega, by omega, rfl⟩⟩⟩))⟩
                    · refine Z_bipush (n := 117) dX4_gate_115 rfl (by decide) (by decide) ?_
                      refine Z_iret dX4_gate_117 rfl ?_
                      exact ⟨rfl, Or.inr (Or.inr (Or.inr ⟨by omega, by omega, by omega, by omega, by omega, Or.inr ⟨by omega, Or.inl ⟨rfl, rfl, by omega⟩⟩⟩))⟩
                  · refine Z_bipush (n := 103) dX4_gate_101 rfl (by decide) (by decide) ?_
                    refine Z_iret dX4_gate_103 rfl ?_
                    first | exact ⟨rfl, Or.inr (Or.inl ⟨by omega, by omega, by omega, rfl, rfl⟩)⟩ | exact ⟨rfl, Or.inr (Or.inr (Or.inr ⟨by omega, by omega, by omega, by omega, by omega, Or.inl ⟨by omega, by omega, rfl, rfl⟩⟩))⟩
            · refine Z_iconst (n := 76) dX4_gate_75 rfl (by decide) ?_
              refine Z_iret dX4_gate_76 rfl ?_
              exact ⟨rfl, Or.inr (Or.inr (Or.inl ⟨by omega, by omega, by omega, by omega, by omega, rfl, rfl⟩))⟩
        · refine Z_aload_n (n := 50) dX4_gate_49 rfl rfl ?_
          refine Z_iload_n (n := 51) dX4_gate_50 rfl rfl ?_
          refine Z_iload (n := 53) dX4_gate_51 rfl rfl ?_
          refine Z_callVi (n := 56) [_, _] _ dX4_gate_53 rfl cwX4_124 rfl rfl rfl (Nat.le_of_ble_eq_true rfl) (by refine ⟨?_, ?_, ?_, ?_⟩ <;> exact Nat.le_of_ble_eq_true rfl) (fun _ _ => trivial) (zX4_isGate  (by first | assumption | omega | decide) (by first | assumption | omega | decide)) ?_
          intro x53 M53 J53 z53 f53 q53
          obtain ⟨e53_1, e53_2, h53⟩ := q53
          replace e53_1 := e53_1.symm; subst e53_1
          replace e53_2 := e53_2.symm; subst e53_2
          refine Z_if_eq (n := 59) (t := 75) dX4_gate_56 rfl (by decide) (fun c56 => ?_) (fun c56 => ?_)
          · refine Z_iconst (n := 76) dX4_gate_75 rfl (by decide) ?_
            refine Z_iret dX4_gate_76 rfl ?_
            exact ⟨rfl, Or.inr (Or.inr (Or.inl ⟨by omega, by omega, by omega, by omega, by omega, rfl, rfl⟩))⟩
          · refine Z_iload (n := 61) dX4_gate_59 rfl rfl ?_
            refine Z_iconst (n := 62) dX4_gate_61 rfl (by decide) ?_
            refine Z_icmp_le (n := 65) (t := 77) dX4_gate_62 rfl (by decide) (fun c62 => ?_) (fun c62 => ?_)
            · refine Z_iload_n (n := 78) dX4_gate_77 rfl rfl ?_
              refine Z_iconst (n := 79) dX4_gate_78 rfl (by decide) ?_
              refine Z_bipush (n := 81) dX4_gate_79 rfl (by decide) (by decide) ?_
              refine Z_callSi (n := 84) [_, _, _] _ dX4_gate_81 rfl cwX4_112 rfl rfl (Nat.le_of_ble_eq_true rfl) (by refine ⟨?_, ?_, ?_, ?_⟩ <;> exact Nat.le_of_ble_eq_true rfl) (fun _ _ => trivial) (zX4_in  ) ?_
              intro x81 M81 J81 z81 f81 q81
              obtain ⟨e81_1, e81_2, h81⟩ := q81
              replace e81_1 := e81_1.symm; subst e81_1
              replace e81_2 := e81_2.symm; subst e81_2
              refine Z_if_eq (n := 87) (t := 101) dX4_gate_84 rfl (by decide) (fun c84 => ?_) (fun c84 => ?_)
              · refine Z_bipush (n := 103) dX4_gate_101 rfl (by decide) (by decide) ?_
                refine Z_iret dX4_gate_103 rfl ?_
                first | exact ⟨rfl, Or.inr (Or.inl ⟨by omega, by omega, by omega, rfl, rfl⟩)⟩ | exact ⟨rfl, Or.inr (Or.inr (Or.inr ⟨by omega, by omega, by omega, by omega, by omega, Or.inl ⟨by omega, by omega, rfl, rfl⟩⟩))⟩
              · refine Z_iload_n (n := 88) dX4_gate_87 rfl rfl ?_
                refine Z_if_ne (n := 91) (t := 104) dX4_gate_88 rfl (by decide) (fun c88 => ?_) (fun c88 => ?_)
                · refine Z_aload_n (n := 105) dX4_gate_104 rfl rfl ?_
                  refine Z_getA (n := 108) dX4_gate_105 rfl ffX4_7 rfl rfl ?_
                  refine Z_iload_n (n := 109) dX4_gate_108 rfl rfl ?_
                  refine Z_iald (n := 110) dX4_gate_109 rfl rfl rfl (by first | decide | assumption) (by omega) (by omega) (fun r109 s109 => ?_)
                  try simp only [uz_oo (show (32 : Nat) ≠ 34 by decide), uz_oo (show (32 : Nat) ≠ 35 by decide), uz_s] at r109 s109 ⊢
                  refine Z_bipush (n := 112) dX4_gate_110 rfl (by decide) (by decide) ?_
                  refine Z_icmp_ne (n := 115) (t := 118) dX4_gate_112 rfl (by decide) (fun c112 => ?_) (fun c112 => ?_)
                  · refine Z_bipush (n := 120) dX4_gate_118 rfl (by decide) (by decide) ?_
                    refine Z_iload_n (n := 121) dX4_gate_120 rfl rfl ?_
                    refine Z_imul (n := 122) dX4_gate_121 rfl (by omega) ?_
                    refine Z_aload_n (n := 123) dX4_gate_122 rfl rfl ?_
                    refine Z_getA (n := 126) dX4_gate_123 rfl ffX4_7 rfl rfl ?_
                    refine Z_iload_n (n := 127) dX4_gate_126 rfl rfl ?_
                    refine Z_iald (n := 128) dX4_gate_127 rfl rfl rfl (by first | decide | assumption) (by omega) (by omega) (fun r127 s127 => ?_)
                    try simp only [uz_oo (show (32 : Nat) ≠ 34 by decide), uz_oo (show (32 : Nat) ≠ 35 by decide), uz_s] at r127 s127 ⊢
                    refine Z_iadd (n := 129) dX4_gate_128 rfl (by omega) ?_
                    refine Z_istore (L' := [_, _, _, _, _, _, _, _]) (n := 131) dX4_gate_129 rfl (by decide) rfl rfl ?_
                    refine Z_aload_n (n := 132) dX4_gate_131 rfl rfl ?_
                    refine Z_getA (n := 135) dX4_gate_132 rfl ffX4_16 rfl rfl ?_
                    refine Z_iload (n := 137) dX4_gate_135 rfl rfl ?_
                    refine Z_iload_n (n := 138) dX4_gate_137 rfl rfl ?_
                    refine Z_iast (n := 139) dX4_gate_138 rfl rfl rfl (by first | decide | assumption) (by omega) (by omega) (by first | assumption | omega | decide) (by first | assumption | omega | decide) (by exact fun h => h) ?_
                    refine Z_aload_n (n := 140) dX4_gate_139 rfl rfl ?_
                    refine Z_getA (n := 143) dX4_gate_140 rfl ffX4_19 rfl rfl ?_
                    refine Z_iconst (n := 144) dX4_gate_143 rfl (by decide) ?_
                    refine Z_iload (n := 146) dX4_gate_144 rfl rfl ?_
                    refine Z_imul (n := 147) dX4_gate_146 rfl (by omega) ?_
                    refine Z_iload_n (n := 148) dX4_gate_147 rfl rfl ?_
                    refine Z_iast (n := 149) dX4_gate_148 rfl rfl rfl (by first | decide | assumption) (by omega) (by omega) (by first | exact (show zI u from hav (vI u) (by simp)).1 | exact (show zI u from hav (vI u) (by simp)).2) (by first | exact (show zI u from hav (vI u) (by simp)).1 | exact (show zI u from hav (vI u) (by simp)).2) (by exact fun h => h) ?_
                    refine Z_aload_n (n := 150) dX4_gate_149 rfl rfl ?_
                    refine Z_getA (n := 153) dX4_gate_150 rfl ffX4_19 rfl rfl ?_
                    refine Z_iconst (n := 154) dX4_gate_153 rfl (by decide) ?_
                    refine Z_iload (n := 156) dX4_gate_154 rfl rfl ?_
                    refine Z_imul (n := 157) dX4_gate_156 rfl (by omega) ?_
                    refine Z_iconst (n := 158) dX4_gate_157 rfl (by decide) ?_
                    refine Z_iadd (n := 159) dX4_gate_158 rfl (by omega) ?_
                    refine Z_iload (n := 161) dX4_gate_159 rfl rfl ?_
                    refine Z_iast (n := 162) dX4_gate_161 rfl rfl rfl (by first | decide | assumption) (by omega) (by omega) (by first | exact (show zI v from hav (vI v) (by simp)).1 | exact (show zI v from hav (vI v) (by simp)).2) (by first | exact (show zI v from hav (vI v) (by simp)).1 | exact (show zI v from hav (vI v) (by simp)).2) (by exact fun h => h) ?_
                    refine Z_aload_n (n := 163) dX4_gate_162 rfl rfl ?_
                    refine Z_getA (n := 166) dX4_gate_163 rfl ffX4_19 rfl rfl ?_
                    refine Z_iconst (n := 167) dX4_gate_166 rfl (by decide) ?_
                    refine Z_iload (n := 169) dX4_gate_167 rfl rfl ?_
                    refine Z_imul (n := 170) dX4_gate_169 rfl (by omega) ?_
                    refine Z_iconst (n := 171) dX4_gate_170 rfl (by decide) ?_
                    refine Z_iadd (n := 172) dX4_gate_171 rfl (by omega) ?_
                    refine Z_iload (n := 174) dX4_gate_172 rfl rfl ?_
                    refine Z_iast (n := 175) dX4_gate_174 rfl rfl rfl (by first | decide | assumption) (by omega) (by omega) (by first | exact (show zI w from hav (vI w) (by simp)).1 | exact (show zI w from hav (vI w) (by simp)).2) (by first | exact (show zI w from hav (vI w) (by simp)).1 | exact (show zI w from hav (vI w) (by simp)).2) (by exact fun h => h) ?_
                    refine Z_aload_n (n := 176) dX4_gate_175 rfl rfl ?_
                    refine Z_getA (n := 179) dX4_gate_176 rfl ffX4_7 rfl rfl ?_
                    refine Z_iload_n (n := 180) dX4_gate_179 rfl rfl ?_
                    refine Z_dup2 (n := 181) dX4_gate_180 rfl rfl rfl ?_
                    refine Z_iald (n := 182) dX4_gate_181 rfl rfl rfl (by first | decide | assumption) (by omega) (by omega) (fun r181 s181 => ?_)
                    try simp only [uz_oo (show (32 : Nat) ≠ 34 by decide), uz_oo (show (32 : Nat) ≠ 35 by decide), uz_s] at r181 s181 ⊢
                    refine Z_iconst (n := 183) dX4_gate_182 rfl (by decide) ?_
                    refine Z_iadd (n := 184) dX4_gate_183 rfl (by omega) ?_
                    refine Z_iast (n := 185) dX4_gate_184 rfl rfl rfl (by first | decide | assumption) (by omega) (by omega) (by first | assumption | omega | decide) (by first | assumption | omega | decide) (by exact fun h => h) ?_
                    refine Z_aload_n (n := 186) dX4_gate_185 rfl rfl ?_
                    refine Z_getA (n := 189) dX4_gate_186 rfl ffX4_7 rfl rfl ?_
                    refine Z_iload_n (n := 190) dX4_gate_189 rfl rfl ?_
                    refine Z_iald (n := 191) dX4_gate_190 rfl rfl rfl (by first | decide | assumption) (by omega) (by omega) (fun r190 s190 => ?_)
                    try simp only [uz_oo (show (32 : Nat) ≠ 34 by decide), uz_oo (show (32 : Nat) ≠ 35 by decide), uz_s] at r190 s190 ⊢
                    refine Z_iconst (n := 192) dX4_gate_191 rfl (by decide) ?_
                    refine Z_isub (n := 193) dX4_gate_192 rfl (by omega) ?_
                    refine Z_iret dX4_gate_193 rfl ?_
                    exact ⟨rfl, Or.inr (Or.inr (Or.inr ⟨by omega, by omega, by omega, by omega, by omega, Or.inr ⟨by omega, Or.inr ⟨by omega, by omega, rfl⟩⟩⟩))⟩
                  · refine Z_bipush (n := 117) dX4_gate_115 rfl (by decide) (by decide) ?_
                    refine Z_iret dX4_gate_117 rfl ?_
                    exact ⟨rfl, Or.inr (Or.inr (Or.inr ⟨by omega, by omega, by omega, by omega, by omega, Or.inr ⟨by omega, Or.inl ⟨rfl, rfl, by omega⟩⟩⟩))⟩
                · refine Z_iload_n (n := 92) dX4_gate_91 rfl rfl ?_
                  refine Z_iconst (n := 93) dX4_gate_92 rfl (by decide) ?_
                  refine Z_bipush (n := 95) dX4_gate_93 rfl (by decide) (by decide) ?_
                  refine Z_callSi (n := 98) [_, _, _] _ dX4_gate_95 rfl cwX4_112 rfl rfl (Nat.le_of_ble_eq_true rfl) (by refine ⟨?_, ?_, ?_, ?_⟩ <;> exact Nat.le_of_ble_eq_true rfl) (fun _ _ => trivial) (zX4_in  ) ?_
                  intro x95 M95 J95 z95 f95 q95
                  obtain ⟨e95_1, e95_2, h95⟩ := q95
                  replace e95_1 := e95_1.symm; subst e95_1
                  replace e95_2 := e95_2.symm; subst e95_2
                  refine Z_if_ne (n := 101) (t := 104) dX4_gate_98 rfl (by decide) (fun c98 => ?_) (fun c98 => ?_)
                  · refine Z_aload_n (n := 105) dX4_gate_104 rfl rfl ?_
                    refine Z_getA (n := 108) dX4_gate_105 rfl ffX4_7 rfl rfl ?_
                    refine Z_iload_n (n := 109) dX4_gate_108 rfl rfl ?_
                    refine Z_iald (n := 110) dX4_gate_109 rfl rfl rfl (by first | decide | assumption) (by omega) (by omega) (fun r109 s109 => ?_)
                    try simp only [uz_oo (show (32 : Nat) ≠ 34 by decide), uz_oo (show (32 : Nat) ≠ 35 by decide), uz_s] at r109 s109 ⊢
                    refine Z_bipush (n := 112) dX4_gate_110 rfl (by decide) (by decide) ?_
                    refine Z_icmp_ne (n := 115) (t := 118) dX4_gate_112 rfl (by decide) (fun c112 => ?_) (fun c112 => ?_)
                    · refine Z_bipush (n := 120) dX4_gate_118 rfl (by decide) (by decide) ?_
                      refine Z_iload_n (n := 121) dX4_gate_120 rfl rfl ?_
                      refine Z_imul (n := 122) dX4_gate_121 rfl (by omega) ?_
                      refine Z_aload_n (n := 123) dX4_gate_122 rfl rfl ?_
                      refine Z_getA (n := 126) dX4_gate_123 rfl ffX4_7 rfl rfl ?_
                      refine Z_iload_n (n := 127) dX4_gate_126 rfl rfl ?_
                      refine Z_iald (n := 128) dX4_gate_127 rfl rfl rfl (by first | decide | assumption) (by omega) (by omega) (fun r127 s127 => ?_)
                      try simp only [uz_oo (show (32 : Nat) ≠ 34 by decide), uz_oo (show (32 : Nat) ≠ 35 by decide), uz_s] at r127 s127 ⊢
                      refine Z_iadd (n := 129) dX4_gate_128 rfl (by omega) ?_
                      refine Z_istore (L' := [_, _, _, _, _, _, _, _]) (n := 131) dX4_gate_129 rfl (by decide) rfl rfl ?_
                      refine Z_aload_n (n := 132) dX4_gate_131 rfl rfl ?_
                      refine Z_getA (n := 135) dX4_gate_132 rfl ffX4_16 rfl rfl ?_
                      refine Z_iload (n := 137) dX4_gate_135 rfl rfl ?_
                      refine Z_iload_n (n := 138) dX4_gate_137 rfl rfl ?_
                      refine Z_iast (n := 139) dX4_gate_138 rfl rfl rfl (by first | decide | assumption) (by omega) (by omega) (by first | assumption | omega | decide) (by first | assumption | omega | decide) (by exact fun h => h) ?_
                      refine Z_aload_n (n := 140) dX4_gate_139 rfl rfl ?_
                      refine Z_getA (n := 143) dX4_gate_140 rfl ffX4_19 rfl rfl ?_
                      refine Z_iconst (n := 144) dX4_gate_143 rfl (by decide) ?_
                      refine Z_iload (n := 146) dX4_gate_144 rfl rfl ?_
                      refine Z_imul (n := 147) dX4_gate_146 rfl (by omega) ?_
                      refine Z_iload_n (n := 148) dX4_gate_147 rfl rfl ?_
                      refine Z_iast (n := 149) dX4_gate_148 rfl rfl rfl (by first | decide | assumption) (by omega) (by omega) (by first | exact (show zI u from hav (vI u) (by simp)).1 | exact (show zI u from hav (vI u) (by simp)).2) (by first | exact (show zI u from hav (vI u) (by simp)).1 | exact (show zI u from hav (vI u) (by simp)).2) (by exact fun h => h) ?_
                      refine Z_aload_n (n := 150) dX4_gate_149 rfl rfl ?_
                      refine Z_getA (n := 153) dX4_gate_150 rfl ffX4_19 rfl rfl ?_
                      refine Z_iconst (n := 154) dX4_gate_153 rfl (by decide) ?_
                      refine Z_iload (n := 156) dX4_gate_154 rfl rfl ?_
                      refine Z_imul (n := 157) dX4_gate_156 rfl (by omega) ?_
                      refine Z_iconst (n := 158) dX4_gate_157 rfl (by decide) ?_
                      refine Z_iadd (n := 159) dX4_gate_158 rfl (by omega) ?_
                      refine Z_iload (n := 161) dX4_gate_159 rfl rfl ?_
                      refine Z_iast (n := 162) dX4_gate_161 rfl rfl rfl (by first | decide | assumption) (by omega) (by omega) (by first | exact (show zI v from hav (vI v) (by simp)).1 | exact (show zI v from hav (vI v) (by simp)).2) (by first | exact (show zI v from hav (vI v) (by simp)).1 | exact (show zI v from hav (vI v) (by simp)).2) (by exact fun h => h) ?_
                      refine Z_aload_n (n := 163) dX4_gate_162 rfl rfl ?_
                      refine Z_getA (n := 166) dX4_gate_163 rfl ffX4_19 rfl rfl ?_
                      refine Z_iconst (n := 167) dX4_gate_166 rfl (by decide) ?_
                      refine Z_iload (n := 169) dX4_gate_167 rfl rfl ?_
                      refine Z_imul (n := 170) dX4_gate_169 rfl (by omega) ?_
                      refine Z_iconst (n := 171) dX4_gate_170 rfl (by decide) ?_
                      refine Z_iadd (n := 172) dX4_gate_171 rfl (by omega) ?_
                      refine Z_iload (n := 174) dX4_gate_172 rfl rfl ?_
                      refine Z_iast (n := 175) dX4_gate_174 rfl rfl rfl (by first | decide | assumption) (by omega) (by omega) (by first | exact (show zI w from hav (vI w) (by simp)).1 | exact (show zI w from hav (vI w) (by simp)).2) (by first | exact (show zI w from hav (vI w) (by simp)).1 | exact (show zI w from hav (vI w) (by simp)).2) (by exact fun h => h) ?_
                      refine Z_aload_n (n := 176) dX4_gate_175 rfl rfl ?_
                      refine Z_getA (n := 179) dX4_gate_176 rfl ffX4_7 rfl rfl ?_
                      refine Z_iload_n (n := 180) dX4_gate_179 rfl rfl ?_
                      refine Z_dup2 (n := 181) dX4_gate_180 rfl rfl rfl ?_
                      refine Z_iald (n := 182) dX4_gate_181 rfl rfl rfl (by first | decide | assumption) (by omega) (by omega) (fun r181 s181 => ?_)
                      try simp only [uz_oo (show (32 : Nat) ≠ 34 by decide), uz_oo (show (32 : Nat) ≠ 35 by decide), uz_s] at r181 s181 ⊢
                      refine Z_iconst (n := 183) dX4_gate_182 rfl (by decide) ?_
                      refine Z_iadd (n := 184) dX4_gate_183 rfl (by omega) ?_
                      refine Z_iast (n := 185) dX4_gate_184 rfl rfl rfl (by first | decide | assumption) (by omega) (by omega) (by first | assumption | omega | decide) (by first | assumption | omega | decide) (by exact fun h => h) ?_
                      refine Z_aload_n (n := 186) dX4_gate_185 rfl rfl ?_
                      refine Z_getA (n := 189) dX4_gate_186 rfl ffX4_7 rfl rfl ?_
                      refine Z_iload_n (n := 190) dX4_gate_189 rfl rfl ?_
                      refine Z_iald (n := 191) dX4_gate_190 rfl rfl rfl (by first | decide | assumption) (by omega) (by omega) (fun r190 s190 => ?_)
                      try simp only [uz_oo (show (32 : Nat) ≠ 34 by decide), uz_oo (show (32 : Nat) ≠ 35 by decide), uz_s] at r190 s190 ⊢
                      refine Z_iconst (n := 192) dX4_gate_191 rfl (by decide) ?_
                      refine Z_isub (n := 193) dX4_gate_192 rfl (by omega) ?_
                      refine Z_iret dX4_gate_193 rfl ?_
                      exact ⟨rfl, Or.inr (Or.inr (Or.inr ⟨by omega, by omega, by omega, by omega, by omega, Or.inr ⟨by omega, Or.inr ⟨by omega, by omega, rfl⟩⟩⟩))⟩
                    · refine Z_bipush (n := 117) dX4_gate_115 rfl (by decide) (by decide) ?_
                      refine Z_iret dX4_gate_117 rfl ?_
                      exact ⟨rfl, Or.inr (Or.inr (Or.inr ⟨by omega, by omega, by omega, by omega, by omega, Or.inr ⟨by omega, Or.inl ⟨rfl, rfl, by omega⟩⟩⟩))⟩
                  · refine Z_bipush (n := 103) dX4_gate_101 rfl (by decide) (by decide) ?_
                    refine Z_iret dX4_gate_103 rfl ?_
                    first | exact ⟨rfl, Or.inr (Or.inl ⟨by omega, by omega, by omega, rfl, rfl⟩)⟩ | exact ⟨rfl, Or.inr (Or.inr (Or.inr ⟨by omega, by omega, by omega, by omega, by omega, Or.inl ⟨by omega, by omega, rfl, rfl⟩⟩))⟩
            · refine Z_aload_n (n := 66) dX4_gate_65 rfl rfl ?_
              refine Z_iload_n (n := 67) dX4_gate_66 rfl rfl ?_
              refine Z_iload (n := 69) dX4_gate_67 rfl rfl ?_
              refine Z_callVi (n := 72) [_, _] _ dX4_gate_69 rfl cwX4_124 rfl rfl rfl (Nat.le_of_ble_eq_true rfl) (by refine ⟨?_, ?_, ?_, ?_⟩ <;> exact Nat.le_of_ble_eq_true rfl) (fun _ _ => trivial) (zX4_isGate  (by first | assumption | omega | decide) (by first | assumption | omega | decide)) ?_
              intro x69 M69 J69 z69 f69 q69
              obtain ⟨e69_1, e69_2, h69⟩ := q69
              replace e69_1 := e69_1.symm; subst e69_1
              replace e69_2 := e69_2.symm; subst e69_2
              refine Z_if_ne (n := 75) (t := 77) dX4_gate_72 rfl (by decide) (fun c72 => ?_) (fun c72 => ?_)
              · refine Z_iload_n (n := 78) dX4_gate_77 rfl rfl ?_
                refine Z_iconst (n := 79) dX4_gate_78 rfl (by decide) ?_
                refine Z_bipush (n := 81) dX4_gate_79 rfl (by decide) (by decide) ?_
                refine Z_callSi (n := 84) [_, _, _] _ dX4_gate_81 rfl cwX4_112 rfl rfl (Nat.le_of_ble_eq_true rfl) (by refine ⟨?_, ?_, ?_, ?_⟩ <;> exact Nat.le_of_ble_eq_true rfl) (fun _ _ => trivial) (zX4_in  ) ?_
                intro x81 M81 J81 z81 f81 q81
                obtain ⟨e81_1, e81_2, h81⟩ := q81
                replace e81_1 := e81_1.symm; subst e81_1
                replace e81_2 := e81_2.symm; subst e81_2
                refine Z_if_eq (n := 87) (t := 101) dX4_gate_84 rfl (by decide) (fun c84 => ?_) (fun c84 => ?_)
                · refine Z_bipush (n := 103) dX4_gate_101 rfl (by decide) (by decide) ?_
                  refine Z_iret dX4_gate_103 rfl ?_
                  first | exact ⟨rfl, Or.inr (Or.inl ⟨by omega, by omega, by omega, rfl, rfl⟩)⟩ | exact ⟨rfl, Or.inr (Or.inr (Or.inr ⟨by omega, by omega, by omega, by omega, by omega, Or.inl ⟨by omega, by omega, rfl, rfl⟩⟩))⟩
                · refine Z_iload_n (n := 88) dX4_gate_87 rfl rfl ?_
                  refine Z_if_ne (n := 91) (t := 104) dX4_gate_88 rfl (by decide) (fun c88 => ?_) (fun c88 => ?_)
                  · refine Z_aload_n (n := 105) dX4_gate_104 rfl rfl ?_
                    refine Z_getA (n := 108) dX4_gate_105 rfl ffX4_7 rfl rfl ?_
                    refine Z_iload_n (n := 109) dX4_gate_108 rfl rfl ?_
                    refine Z_iald (n := 110) dX4_gate_109 rfl rfl rfl (by first | decide | assumption) (by omega) (by omega) (fun r109 s109 => ?_)
                    try simp only [uz_oo (show (32 : Nat) ≠ 34 by decide), uz_oo (show (32 : Nat) ≠ 35 by decide), uz_s] at r109 s109 ⊢
                    refine Z_bipush (n := 112) dX4_gate_110 rfl (by decide) (by decide) ?_
                    refine Z_icmp_ne (n := 115) (t := 118) dX4_gate_112 rfl (by decide) (fun c112 => ?_) (fun c112 => ?_)
                    · refine Z_bipush (n := 120) dX4_gate_118 rfl (by decide) (by decide) ?_
                      refine Z_iload_n (n := 121) dX4_gate_120 rfl rfl ?_
                      refine Z_imul (n := 122) dX4_gate_121 rfl (by omega) ?_
                      refine Z_aload_n (n := 123) dX4_gate_122 rfl rfl ?_
                      refine Z_getA (n := 126) dX4_gate_123 rfl ffX4_7 rfl rfl ?_
                      refine Z_iload_n (n := 127) dX4_gate_126 rfl rfl ?_
                      refine Z_iald (n := 128) dX4_gate_127 rfl rfl rfl (by first | decide | assumption) (by omega) (by omega) (fun r127 s127 => ?_)
                      try simp only [uz_oo (show (32 : Nat) ≠ 34 by decide), uz_oo (show (32 : Nat) ≠ 35 by decide), uz_s] at r127 s127 ⊢
                      refine Z_iadd (n := 129) dX4_gate_128 rfl (by omega) ?_
                      refine Z_istore (L' := [_, _, _, _, _, _, _, _]) (n := 131) dX4_gate_129 rfl (by decide) rfl rfl ?_
                      refine Z_aload_n (n := 132) dX4_gate_131 rfl rfl ?_
                      refine Z_getA (n := 135) dX4_gate_132 rfl ffX4_16 rfl rfl ?_
                      refine Z_iload (n := 137) dX4_gate_135 rfl rfl ?_
                      refine Z_iload_n (n := 138) dX4_gate_137 rfl rfl ?_
                      refine Z_iast (n := 139) dX4_gate_138 rfl rfl rfl (by first | decide | assumption) (by omega) (by omega) (by first | assumption | omega | decide) (by first | assumption | omega | decide) (by exact fun h => h) ?_
                      refine Z_aload_n (n := 140) dX4_gate_139 rfl rfl ?_
                      refine Z_getA (n := 143) dX4_gate_140 rfl ffX4_19 rfl rfl ?_
                      refine Z_iconst (n := 144) dX4_gate_143 rfl (by decide) ?_
                      refine Z_iload (n := 146) dX4_gate_144 rfl rfl ?_
                      refine Z_imul (n := 147) dX4_gate_146 rfl (by omega) ?_
                      refine Z_iload_n (n := 148) dX4_gate_147 rfl rfl ?_
                      refine Z_iast (n := 149) dX4_gate_148 rfl rfl rfl (by first | decide | assumption) (by omega) (by omega) (by first | exact (show zI u from hav (vI u) (by simp)).1 | exact (show zI u from hav (vI u) (by simp)).2) (by first | exact (show zI u from hav (vI u) (by simp)).1 | exact (show zI u from hav (vI u) (by simp)).2) (by exact fun h => h) ?_
                      refine Z_aload_n (n := 150) dX4_gate_149 rfl rfl ?_
                      refine Z_getA (n := 153) dX4_gate_150 rfl ffX4_19 rfl rfl ?_
                      refine Z_iconst (n := 154) dX4_gate_153 rfl (by decide) ?_
                      refine Z_iload (n := 156) dX4_gate_154 rfl rfl ?_
                      refine Z_imul (n := 157) dX4_gate_156 rfl (by omega) ?_
                      refine Z_iconst (n := 158) dX4_gate_157 rfl (by decide) ?_
                      refine Z_iadd (n := 159) dX4_gate_158 rfl (by omega) ?_
                      refine Z_iload (n := 161) dX4_gate_159 rfl rfl ?_
                      refine Z_iast (n := 162) dX4_gate_161 rfl rfl rfl (by first | decide | assumption) (by omega) (by omega) (by first | exact (show zI v from hav (vI v) (by simp)).1 | exact (show zI v from hav (vI v) (by simp)).2) (by first | exact (show zI v from hav (vI v) (by simp)).1 | exact (show zI v from hav (vI v) (by simp)).2) (by exact fun h => h) ?_
                      refine Z_aload_n (n := 163) dX4_gate_162 rfl rfl ?_
                      refine Z_getA (n := 166) dX4_gate_163 rfl ffX4_19 rfl rfl ?_
                      refine Z_iconst (n := 167) dX4_gate_166 rfl (by decide) ?_
                      refine Z_iload (n := 169) dX4_gate_167 rfl rfl ?_
                      refine Z_imul (n := 170) dX4_gate_169 rfl (by omega) ?_
                      refine Z_iconst (n := 171) dX4_gate_170 rfl (by decide) ?_
                      refine Z_iadd (n := 172) dX4_gate_171 rfl (by omega) ?_
                      refine Z_iload (n := 174) dX4_gate_172 rfl rfl ?_
                      refine Z_iast (n := 175) dX4_gate_174 rfl rfl rfl (by first | decide | assumption) (by omega) (by omega) (by first | exact (show zI w from hav (vI w) (by simp)).1 | exact (show zI w from hav (vI w) (by simp)).2) (by first | exact (show zI w from hav (vI w) (by simp)).1 | exact (show zI w from hav (vI w) (by simp)).2) (by exact fun h => h) ?_
                      refine Z_aload_n (n := 176) dX4_gate_175 rfl rfl ?_
                      refine Z_getA (n := 179) dX4_gate_176 rfl ffX4_7 rfl rfl ?_
                      refine Z_iload_n (n := 180) dX4_gate_179 rfl rfl ?_
                      refine Z_dup2 (n := 181) dX4_gate_180 rfl rfl rfl ?_
                      refine Z_iald (n := 182) dX4_gate_181 rfl rfl rfl (by first | decide | assumption) (by omega) (by omega) (fun r181 s181 => ?_)
                      try simp only [uz_oo (show (32 : Nat) ≠ 34 by decide), uz_oo (show (32 : Nat) ≠ 35 by decide), uz_s] at r181 s181 ⊢
                      refine Z_iconst (n := 183) dX4_gate_182 rfl (by decide) ?_
                      refine Z_iadd (n := 184) dX4_gate_183 rfl (by omega) ?_
                      refine Z_iast (n := 185) dX4_gate_184 rfl rfl rfl (by first | decide | assumption) (by omega) (by omega) (by first | assumption | omega | decide) (by first | assumption | omega | decide) (by exact fun h => h) ?_
                      refine Z_aload_n (n := 186) dX4_gate_185 rfl rfl ?_
                      refine Z_getA (n := 189) dX4_gate_186 rfl ffX4_7 rfl rfl ?_
                      refine Z_iload_n (n := 190) dX4_gate_189 rfl rfl ?_
                      refine Z_iald (n := 191) dX4_gate_190 rfl rfl rfl (by first | decide | assumption) (by omega) (by omega) (fun r190 s190 => ?_)
                      try simp only [uz_oo (show (32 : Nat) ≠ 34 by decide), uz_oo (show (32 : Nat) ≠ 35 by decide), uz_s] at r190 s190 ⊢
                      refine Z_iconst (n := 192) dX4_gate_191 rfl (by decide) ?_
                      refine Z_isub (n := 193) dX4_gate_192 rfl (by omega) ?_
                      refine Z_iret dX4_gate_193 rfl ?_
                      exact ⟨rfl, Or.inr (Or.inr (Or.inr ⟨by omega, by omega, by omega, by omega, by omega, Or.inr ⟨by omega, Or.inr ⟨by omega, by omega, rfl⟩⟩⟩))⟩
                    · refine Z_bipush (n := 117) dX4_gate_115 rfl (by decide) (by decide) ?_
                      refine Z_iret dX4_gate_117 rfl ?_
                      exact ⟨rfl, Or.inr (Or.inr (Or.inr ⟨by omega, by omega, by omega, by omega, by omega, Or.inr ⟨by omega, Or.inl ⟨rfl, rfl, by omega⟩⟩⟩))⟩
                  · refine Z_iload_n (n := 92) dX4_gate_91 rfl rfl ?_
                    refine Z_iconst (n := 93) dX4_gate_92 rfl (by decide) ?_
                    refine Z_bipush (n := 95) dX4_gate_93 rfl (by decide) (by decide) ?_
                    refine Z_callSi (n := 98) [_, _, _] _ dX4_gate_95 rfl cwX4_112 rfl rfl (Nat.le_of_ble_eq_true rfl) (by refine ⟨?_, ?_, ?_, ?_⟩ <;> exact Nat.le_of_ble_eq_true rfl) (fun _ _ => trivial) (zX4_in  ) ?_
                    intro x95 M95 J95 z95 f95 q95
                    obtain ⟨e95_1, e95_2, h95⟩ := q95
                    replace e95_1 := e95_1.symm; subst e95_1
                    replace e95_2 := e95_2.symm; subst e95_2
                    refine Z_if_ne (n := 101) (t := 104) dX4_gate_98 rfl (by decide) (fun c98 => ?_) (fun c98 => ?_)
                    · refine Z_aload_n (n := 105) dX4_gate_104 rfl rfl ?_
                      refine Z_getA (n := 108) dX4_gate_105 rfl ffX4_7 rfl rfl ?_
                      refine Z_iload_n (n := 109) dX4_gate_108 rfl rfl ?_
                      refine Z_iald (n := 110) dX4_gate_109 rfl rfl rfl (by first | decide | assumption) (by omega) (by omega) (fun r109 s109 => ?_)
                      try simp only [uz_oo (show (32 : Nat) ≠ 34 by decide), uz_oo (show (32 : Nat) ≠ 35 by decide), uz_s] at r109 s109 ⊢
                      refine Z_bipush (n := 112) dX4_gate_110 rfl (by decide) (by decide) ?_
                      refine Z_icmp_ne (n := 115) (t := 118) dX4_gate_112 rfl (by decide) (fun c112 => ?_) (fun c112 => ?_)
                      · refine Z_bipush (n := 120) dX4_gate_118 rfl (by decide) (by decide) ?_
                        refine Z_iload_n (n := 121) dX4_gate_120 rfl rfl ?_
                        refine Z_imul (n := 122) dX4_gate_121 rfl (by omega) ?_
                        refine Z_aload_n (n := 123) dX4_gate_122 rfl rfl ?_
                        refine Z_getA (n := 126) dX4_gate_123 rfl ffX4_7 rfl rfl ?_
                        refine Z_iload_n (n := 127) dX4_gate_126 rfl rfl ?_
                        refine Z_iald (n := 128) dX4_gate_127 rfl rfl rfl (by first | decide | assumption) (by omega) (by omega) (fun r127 s127 => ?_)
                        try simp only [uz_oo (show (32 : Nat) ≠ 34 by decide), uz_oo (show (32 : Nat) ≠ 35 by decide), uz_s] at r127 s127 ⊢
                        refine Z_iadd (n := 129) dX4_gate_128 rfl (by omega) ?_
                        refine Z_istore (L' := [_, _, _, _, _, _, _, _]) (n := 131) dX4_gate_129 rfl (by decide) rfl rfl ?_
                        refine Z_aload_n (n := 132) dX4_gate_131 rfl rfl ?_
                        refine Z_getA (n := 135) dX4_gate_132 rfl ffX4_16 rfl rfl ?_
                        refine Z_iload (n := 137) dX4_gate_135 rfl rfl ?_
                        refine Z_iload_n (n := 138) dX4_gate_137 rfl rfl ?_
                        refine Z_iast (n := 139) dX4_gate_138 rfl rfl rfl (by first | decide | assumption) (by omega) (by omega) (by first | assumption | omega | decide) (by first | assumption | omega | decide) (by exact fun h => h) ?_
                        refine Z_aload_n (n := 140) dX4_gate_139 rfl rfl ?_
                        refine Z_getA (n := 143) dX4_gate_140 rfl ffX4_19 rfl rfl ?_
                        refine Z_iconst (n := 144) dX4_gate_143 rfl (by decide) ?_
                        refine Z_iload (n := 146) dX4_gate_144 rfl rfl ?_
                        refine Z_imul (n := 147) dX4_gate_146 rfl (by omega) ?_
                        refine Z_iload_n (n := 148) dX4_gate_147 rfl rfl ?_
                        refine Z_iast (n := 149) dX4_gate_148 rfl rfl rfl (by first | decide | assumption) (by omega) (by omega) (by first | exact (show zI u from hav (vI u) (by simp)).1 | exact (show zI u from hav (vI u) (by simp)).2) (by first | exact (show zI u from hav (vI u) (by simp)).1 | exact (show zI u from hav (vI u) (by simp)).2) (by exact fun h => h) ?_
                        refine Z_aload_n (n := 150) dX4_gate_149 rfl rfl ?_
                        refine Z_getA (n := 153) dX4_gate_150 rfl ffX4_19 rfl rfl ?_
                        refine Z_iconst (n := 154) dX4_gate_153 rfl (by decide) ?_
                        refine Z_iload (n := 156) dX4_gate_154 rfl rfl ?_
                        refine Z_imul (n := 157) dX4_gate_156 rfl (by omega) ?_
                        refine Z_iconst (n := 158) dX4_gate_157 rfl (by decide) ?_
                        refine Z_iadd (n := 159) dX4_gate_158 rfl (by omega) ?_
                        refine Z_iload (n := 161) dX4_gate_159 rfl rfl ?_
                        refine Z_iast (n := 162) dX4_gate_161 rfl rfl rfl (by first | decide | assumption) (by omega) (by omega) (by first | exact (show zI v from hav (vI v) (by simp)).1 | exact (show zI v from hav (vI v) (by simp)).2) (by first | exact (show zI v from hav (vI v) (by simp)).1 | exact (show zI v from hav (vI v) (by simp)).2) (by exact fun h => h) ?_
                        refine Z_aload_n (n := 163) dX4_gate_162 rfl rfl ?_
                        refine Z_getA (n := 166) dX4_gate_163 rfl ffX4_19 rfl rfl ?_
                        refine Z_iconst (n := 167) dX4_gate_166 rfl (by decide) ?_
                        refine Z_iload (n := 169) dX4_gate_167 rfl rfl ?_
                        refine Z_imul (n := 170) dX4_gate_169 rfl (by omega) ?_
                        refine Z_iconst (n := 171) dX4_gate_170 rfl (by decide) ?_
                        refine Z_iadd (n := 172) dX4_gate_171 rfl (by omega) ?_
                        refine Z_iload (n := 174) dX4_gate_172 rfl rfl ?_
                        refine Z_iast (n := 175) dX4_gate_174 rfl rfl rfl (by first | decide | assumption) (by omega) (by omega) (by first | exact (show zI w from hav (vI w) (by simp)).1 | exact (show zI w from hav (vI w) (by simp)).2) (by first | exact (show zI w from hav (vI w) (by simp)).1 | exact (show zI w from hav (vI w) (by simp)).2) (by exact fun h => h) ?_
                        refine Z_aload_n (n := 176) dX4_gate_175 rfl rfl ?_
                        refine Z_getA (n := 179) dX4_gate_176 rfl ffX4_7 rfl rfl ?_
                        refine Z_iload_n (n := 180) dX4_gate_179 rfl rfl ?_
                        refine Z_dup2 (n := 181) dX4_gate_180 rfl rfl rfl ?_
                        refine Z_iald (n := 182) dX4_gate_181 rfl rfl rfl (by first | decide | assumption) (by omega) (by omega) (fun r181 s181 => ?_)
                        try simp only [uz_oo (show (32 : Nat) ≠ 34 by decide), uz_oo (show (32 : Nat) ≠ 35 by decide), uz_s] at r181 s181 ⊢
                        refine Z_iconst (n := 183) dX4_gate_182 rfl (by decide) ?_
                        refine Z_iadd (n := 184) dX4_gate_183 rfl (by omega) ?_
                        refine Z_iast (n := 185) dX4_gate_184 rfl rfl rfl (by first | decide | assumption) (by omega) (by omega) (by first | assumption | omega | decide) (by first | assumption | omega | decide) (by exact fun h => h) ?_
                        refine Z_aload_n (n := 186) dX4_gate_185 rfl rfl ?_
                        refine Z_getA (n := 189) dX4_gate_186 rfl ffX4_7 rfl rfl ?_
                        refine Z_iload_n (n := 190) dX4_gate_189 rfl rfl ?_
                        refine Z_iald (n := 191) dX4_gate_190 rfl rfl rfl (by first | decide | assumption) (by omega) (by omega) (fun r190 s190 => ?_)
                        try simp only [uz_oo (show (32 : Nat) ≠ 34 by decide), uz_oo (show (32 : Nat) ≠ 35 by decide), uz_s] at r190 s190 ⊢
                        refine Z_iconst (n := 192) dX4_gate_191 rfl (by decide) ?_
                        refine Z_isub (n := 193) dX4_gate_192 rfl (by omega) ?_
                        refine Z_iret dX4_gate_193 rfl ?_
                        exact ⟨rfl, Or.inr (Or.inr (Or.inr ⟨by omega, by omega, by omega, by omega, by omega, Or.inr ⟨by omega, Or.inr ⟨by omega, by omega, rfl⟩⟩⟩))⟩
                      · refine Z_bipush (n := 117) dX4_gate_115 rfl (by decide) (by decide) ?_
                        refine Z_iret dX4_gate_117 rfl ?_
                        exact ⟨rfl, Or.inr (Or.inr (Or.inr ⟨by omega, by omega, by omega, by omega, by omega, Or.inr ⟨by omega, Or.inl ⟨rfl, rfl, by omega⟩⟩⟩))⟩
                    · refine Z_bipush (n := 103) dX4_gate_101 rfl (by decide) (by decide) ?_
                      refine Z_iret dX4_gate_103 rfl ?_
                      first | exact ⟨rfl, Or.inr (Or.inl ⟨by omega, by omega, by omega, rfl, rfl⟩)⟩ | exact ⟨rfl, Or.inr (Or.inr (Or.inr ⟨by omega, by omega, by omega, by omega, by omega, Or.inl ⟨by omega, by omega, rfl, rfl⟩⟩))⟩
              · refine Z_iconst (n := 76) dX4_gate_75 rfl (by decide) ?_
                refine Z_iret dX4_gate_76 rfl ?_
                exact ⟨rfl, Or.inr (Or.inr (Or.inl ⟨by omega, by omega, by omega, by omega, by omega, rfl, rfl⟩))⟩
      · refine Z_aload_n (n := 35) dX4_gate_34 rfl rfl ?_
        refine Z_iload_n (n := 36) dX4_gate_35 rfl rfl ?_
        refine Z_iload_n (n := 37) dX4_gate_36 rfl rfl ?_
        refine Z_callVi (n := 40) [_, _] _ dX4_gate_37 rfl cwX4_124 rfl rfl rfl (Nat.le_of_ble_eq_true rfl) (by refine ⟨?_, ?_, ?_, ?_⟩ <;> exact Nat.le_of_ble_eq_true rfl) (fun _ _ => trivial) (zX4_isGate  (by first | assumption | omega | decide) (by first | assumption | omega | decide)) ?_
        intro x37 M37 J37 z37 f37 q37
        obtain ⟨e37_1, e37_2, h37⟩ := q37
        replace e37_1 := e37_1.symm; subst e37_1
        replace e37_2 := e37_2.symm; subst e37_2
        refine Z_if_eq (n := 43) (t := 75) dX4_gate_40 rfl (by decide) (fun c40 => ?_) (fun c40 => ?_)
        · refine Z_iconst (n := 76) dX4_gate_75 rfl (by decide) ?_
          refine Z_iret dX4_gate_76 rfl ?_
          exact ⟨rfl, Or.inr (Or.inr (Or.inl ⟨by omega, by omega, by omega, by omega, by omega, rfl, rfl⟩))⟩
        · refine Z_iload (n := 45) dX4_gate_43 rfl rfl ?_
          refine Z_iconst (n := 46) dX4_gate_45 rfl (by decide) ?_
          refine Z_icmp_le (n := 49) (t := 59) dX4_gate_46 rfl (by decide) (fun c46 => ?_) (fun c46 => ?_)
          · refine Z_iload (n := 61) dX4_gate_59 rfl rfl ?_
            refine Z_iconst (n := 62) dX4_gate_61 rfl (by decide) ?_
            refine Z_icmp_le (n := 65) (t := 77) dX4_gate_62 rfl (by decide) (fun c62 => ?_) (fun c62 => ?_)
            · refine Z_iload_n (n := 78) dX4_gate_77 rfl rfl ?_
              refine Z_iconst (n := 79) dX4_gate_78 rfl (by decide) ?_
              refine Z_bipush (n := 81) dX4_gate_79 rfl (by decide) (by decide) ?_
              refine Z_callSi (n := 84) [_, _, _] _ dX4_gate_81 rfl cwX4_112 rfl rfl (Nat.le_of_ble_eq_true rfl) (by refine ⟨?_, ?_, ?_, ?_⟩ <;> exact Nat.le_of_ble_eq_true rfl) (fun _ _ => trivial) (zX4_in  ) ?_
              intro x81 M81 J81 z81 f81 q81
              obtain ⟨e81_1, e81_2, h81⟩ := q81
              replace e81_1 := e81_1.symm; subst e81_1
              replace e81_2 := e81_2.symm; subst e81_2
              refine Z_if_eq (n := 87) (t := 101) dX4_gate_84 rfl (by decide) (fun c84 => ?_) (fun c84 => ?_)
              · refine Z_bipush (n := 103) dX4_gate_101 rfl (by decide) (by decide) ?_
                refine Z_iret dX4_gate_103 rfl ?_
                first | exact ⟨rfl, Or.inr (Or.inl ⟨by omega, by omega, by omega, rfl, rfl⟩)⟩ | exact ⟨rfl, Or.inr (Or.inr (Or.inr ⟨by omega, by omega, by omega, by omega, by omega, Or.inl ⟨by omega, by omega, rfl, rfl⟩⟩))⟩
              · refine Z_iload_n (n := 88) dX4_gate_87 rfl rfl ?_
                refine Z_if_ne (n := 91) (t := 104) dX4_gate_88 rfl (by decide) (fun c88 => ?_) (fun c88 => ?_)
                · refine Z_aload_n (n := 105) dX4_gate_104 rfl rfl ?_
                  refine Z_getA (n := 108) dX4_gate_105 rfl ffX4_7 rfl rfl ?_
                  refine Z_iload_n (n := 109) dX4_gate_108 rfl rfl ?_
                  refine Z_iald (n := 110) dX4_gate_109 rfl rfl rfl (by first | decide | assumption) (by omega) (by omega) (fun r109 s109 => ?_)
                  try simp only [uz_oo (show (32 : Nat) ≠ 34 by decide), uz_oo (show (32 : Nat) ≠ 35 by decide), uz_s] at r109 s109 ⊢
                  refine Z_bipush (n := 112) dX4_gate_110 rfl (by decide) (by decide) ?_
                  refine Z_icmp_ne (n := 115) (t := 118) dX4_gate_112 rfl (by decide) (fun c112 => ?_) (fun c112 => ?_)
                  · refine Z_bipush (n := 120) dX4_gate_118 rfl (by decide) (by decide) ?_
                    refine Z_iload_n (n := 121) dX4_gate_120 rfl rfl ?_
                    refine Z_imul (n := 122) dX4_gate_121 rfl (by omega) ?_
                    refine Z_aload_n (n := 123) dX4_gate_122 rfl rfl ?_
                    refine Z_getA (n := 126) dX4_gate_123 rfl ffX4_7 rfl rfl ?_
                    refine Z_iload_n (n := 127) dX4_gate_126 rfl rfl ?_
                    refine Z_iald (n := 128) dX4_gate_127 rfl rfl rfl (by first | decide | assumption) (by omega) (by omega) (fun r127 s127 => ?_)
                    try simp only [uz_oo (show (32 : Nat) ≠ 34 by decide), uz_oo (show (32 : Nat) ≠ 35 by decide), uz_s] at r127 s127 ⊢
                    refine Z_iadd (n := 129) dX4_gate_128 rfl (by omega) ?_
                    refine Z_istore (L' := [_, _, _, _, _, _, _, _]) (n := 131) dX4_gate_129 rfl (by decide) rfl rfl ?_
                    refine Z_aload_n (n := 132) dX4_gate_131 rfl rfl ?_
                    refine Z_getA (n := 135) dX4_gate_132 rfl ffX4_16 rfl rfl ?_
                    refine Z_iload (n := 137) dX4_gate_135 rfl rfl ?_
                    refine Z_iload_n (n := 138) dX4_gate_137 rfl rfl ?_
                    refine Z_iast (n := 139) dX4_gate_138 rfl rfl rfl (by first | decide | assumption) (by omega) (by omega) (by first | assumption | omega | decide) (by first | assumption | omega | decide) (by exact fun h => h) ?_
                    refine Z_aload_n (n := 140) dX4_gate_139 rfl rfl ?_
                    refine Z_getA (n := 143) dX4_gate_140 rfl ffX4_19 rfl rfl ?_
                    refine Z_iconst (n := 144) dX4_gate_143 rfl (by decide) ?_
                    refine Z_iload (n := 146) dX4_gate_144 rfl rfl ?_
                    refine Z_imul (n := 147) dX4_gate_146 rfl (by omega) ?_
                    refine Z_iload_n (n := 148) dX4_gate_147 rfl rfl ?_
                    refine Z_iast (n := 149) dX4_gate_148 rfl rfl rfl (by first | decide | assumption) (by omega) (by omega) (by first | exact (show zI u from hav (vI u) (by simp)).1 | exact (show zI u from hav (vI u) (by simp)).2) (by first | exact (show zI u from hav (vI u) (by simp)).1 | exact (show zI u from hav (vI u) (by simp)).2) (by exact fun h => h) ?_
                    refine Z_aload_n (n := 150) dX4_gate_149 rfl rfl ?_
                    refine Z_getA (n := 153) dX4_gate_150 rfl ffX4_19 rfl rfl ?_
                    refine Z_iconst (n := 154) dX4_gate_153 rfl (by decide) ?_
                    refine Z_iload (n := 156) dX4_gate_154 rfl rfl ?_
                    refine Z_imul (n := 157) dX4_gate_156 rfl (by omega) ?_
                    refine Z_iconst (n := 158) dX4_gate_157 rfl (by decide) ?_
                    refine Z_iadd (n := 159) dX4_gate_158 rfl (by omega) ?_
                    refine Z_iload (n := 161) dX4_gate_159 rfl rfl ?_
                    refine Z_iast (n := 162) dX4_gate_161 rfl rfl rfl (by first | decide | assumption) (by omega) (by omega) (by first | exact (show zI v from hav (vI v) (by simp)).1 | exact (show zI v from hav (vI v) (by simp)).2) (by first | exact (show zI v from hav (vI v) (by simp)).1 | exact (show zI v from hav (vI v) (by simp)).2) (by exact fun h => h) ?_
                    refine Z_aload_n (n := 163) dX4_gate_162 rfl rfl ?_
                    refine Z_getA (n := 166) dX4_gate_163 rfl ffX4_19 rfl rfl ?_
                    refine Z_iconst (n := 167) dX4_gate_166 rfl (by decide) ?_
                    refine Z_iload (n := 169) dX4_gate_167 rfl rfl ?_
                    refine Z_imul (n := 170) dX4_gate_169 rfl (by omega) ?_
                    refine Z_iconst (n := 171) dX4_gate_170 rfl (by decide) ?_
                    refine Z_iadd (n := 172) dX4_gate_171 rfl (by omega) ?_
                    refine Z_iload (n := 174) dX4_gate_172 rfl rfl ?_
                    refine Z_iast (n := 175) dX4_gate_174 rfl rfl rfl (by first | decide | assumption) (by omega) (by omega) (by first | exact (show zI w from hav (vI w) (by simp)).1 | exact (show zI w from hav (vI w) (by simp)).2) (by first | exact (show zI w from hav (vI w) (by simp)).1 | exact (show zI w from hav (vI w) (by simp)).2) (by exact fun h => h) ?_
                    refine Z_aload_n (n := 176) dX4_gate_175 rfl rfl ?_
                    refine Z_getA (n := 179) dX4_gate_176 rfl ffX4_7 rfl rfl ?_
                    refine Z_iload_n (n := 180) dX4_gate_179 rfl rfl ?_
                    refine Z_dup2 (n := 181) dX4_gate_180 rfl rfl rfl ?_
                    refine Z_iald (n := 182) dX4_gate_181 rfl rfl rfl (by first | decide | assumption) (by omega) (by omega) (fun r181 s181 => ?_)
                    try simp only [uz_oo (show (32 : Nat) ≠ 34 by decide), uz_oo (show (32 : Nat) ≠ 35 by decide), uz_s] at r181 s181 ⊢
                    refine Z_iconst (n := 183) dX4_gate_182 rfl (by decide) ?_
                    refine Z_iadd (n := 184) dX4_gate_183 rfl (by omega) ?_
                    refine Z_iast (n := 185) dX4_gate_184 rfl rfl rfl (by first | decide | assumption) (by omega) (by omega) (by first | assumption | omega | decide) (by first | assumption | omega | decide) (by exact fun h => h) ?_
                    refine Z_aload_n (n := 186) dX4_gate_185 rfl rfl ?_
                    refine Z_getA (n := 189) dX4_gate_186 rfl ffX4_7 rfl rfl ?_
                    refine Z_iload_n (n := 190) dX4_gate_189 rfl rfl ?_
                    refine Z_iald (n := 191) dX4_gate_190 rfl rfl rfl (by first | decide | assumption) (by omega) (by omega) (fun r190 s190 => ?_)
                    try simp only [uz_oo (show (32 : Nat) ≠ 34 by decide), uz_oo (show (32 : Nat) ≠ 35 by decide), uz_s] at r190 s190 ⊢
                    refine Z_iconst (n := 192) dX4_gate_191 rfl (by decide) ?_
                    refine Z_isub (n := 193) dX4_gate_192 rfl (by omega) ?_
                    refine Z_iret dX4_gate_193 rfl ?_
                    exact ⟨rfl, Or.inr (Or.inr (Or.inr ⟨by omega, by omega, by omega, by omega, by omega, Or.inr ⟨by omega, Or.inr ⟨by omega, by omega, rfl⟩⟩⟩))⟩
                  · refine Z_bipush (n := 117) dX4_gate_115 rfl (by decide) (by decide) ?_
                    refine Z_iret dX4_gate_117 rfl ?_
                    exact ⟨rfl, Or.inr (Or.inr (Or.inr ⟨by omega, by omega, by omega, by omega, by omega, Or.inr ⟨by omega, Or.inl ⟨rfl, rfl, by omega⟩⟩⟩))⟩
                · refine Z_iload_n (n := 92) dX4_gate_91 rfl rfl ?_
                  refine Z_iconst (n := 93) dX4_gate_92 rfl (by decide) ?_
                  refine Z_bipush (n := 95) dX4_gate_93 rfl (by decide) (by decide) ?_
                  refine Z_callSi (n := 98) [_, _, _] _ dX4_gate_95 rfl cwX4_112 rfl rfl (Nat.le_of_ble_eq_true rfl) (by refine ⟨?_, ?_, ?_, ?_⟩ <;> exact Nat.le_of_ble_eq_true rfl) (fun _ _ => trivial) (zX4_in  ) ?_
                  intro x95 M95 J95 z95 f95 q95
                  obtain ⟨e95_1, e95_2, h95⟩ := q95
                  replace e95_1 := e95_1.symm; subst e95_1
                  replace e95_2 := e95_2.symm; subst e95_2
                  refine Z_if_ne (n := 101) (t := 104) dX4_gate_98 rfl (by decide) (fun c98 => ?_) (fun c98 => ?_)
                  · refine Z_aload_n (n := 105) dX4_gate_104 rfl rfl ?_
                    refine Z_getA (n := 108) dX4_gate_105 rfl ffX4_7 rfl rfl ?_
                    refine Z_iload_n (n := 109) dX4_gate_108 rfl rfl ?_
                    refine Z_iald (n := 110) dX4_gate_109 rfl rfl rfl (by first | decide | assumption) (by omega) (by omega) (fun r109 s109 => ?_)
                    try simp only [uz_oo (show (32 : Nat) ≠ 34 by decide), uz_oo (show (32 : Nat) ≠ 35 by decide), uz_s] at r109 s109 ⊢
                    refine Z_bipush (n := 112) dX4_gate_110 rfl (by decide) (by decide) ?_
                    refine Z_icmp_ne (n := 115) (t := 118) dX4_gate_112 rfl (by decide) (fun c112 => ?_) (fun c112 => ?_)
                    · refine Z_bipush (n := 120) dX4_gate_118 rfl (by decide) (by decide) ?_
                      refine Z_iload_n (n := 121) dX4_gate_120 rfl rfl ?_
                      refine Z_imul (n := 122) dX4_gate_121 rfl (by omega) ?_
                      refine Z_aload_n (n := 123) dX4_gate_122 rfl rfl ?_
                      refine Z_getA (n := 126) dX4_gate_123 rfl ffX4_7 rfl rfl ?_
                      refine Z_iload_n (n := 127) dX4_gate_126 rfl rfl ?_
                      refine Z_iald (n := 128) dX4_gate_127 rfl rfl rfl (by first | decide | assumption) (by omega) (by omega) (fun r127 s127 => ?_)
                      try simp only [uz_oo (show (32 : Nat) ≠ 34 by decide), uz_oo (show (32 : Nat) ≠ 35 by decide), uz_s] at r127 s127 ⊢
                      refine Z_iadd (n := 129) dX4_gate_128 rfl (by omega) ?_
                      refine Z_istore (L' := [_, _, _, _, _, _, _, _]) (n := 131) dX4_gate_129 rfl (by decide) rfl rfl ?_
                      refine Z_aload_n (n := 132) dX4_gate_131 rfl rfl ?_
                      refine Z_getA (n := 135) dX4_gate_132 rfl ffX4_16 rfl rfl ?_
                      refine Z_iload (n := 137) dX4_gate_135 rfl rfl ?_
                      refine Z_iload_n (n := 138) dX4_gate_137 rfl rfl ?_
                      refine Z_iast (n := 139) dX4_gate_138 rfl rfl rfl (by first | decide | assumption) (by omega) (by omega) (by first | assumption | omega | decide) (by first | assumption | omega | decide) (by exact fun h => h) ?_
                      refine Z_aload_n (n := 140) dX4_gate_139 rfl rfl ?_
                      refine Z_getA (n := 143) dX4_gate_140 rfl ffX4_19 rfl rfl ?_
                      refine Z_iconst (n := 144) dX4_gate_143 rfl (by decide) ?_
                      refine Z_iload (n := 146) dX4_gate_144 rfl rfl ?_
                      refine Z_imul (n := 147) dX4_gate_146 rfl (by omega) ?_
                      refine Z_iload_n (n := 148) dX4_gate_147 rfl rfl ?_
                      refine Z_iast (n := 149) dX4_gate_148 rfl rfl rfl (by first | decide | assumption) (by omega) (by omega) (by first | exact (show zI u from hav (vI u) (by simp)).1 | exact (show zI u from hav (vI u) (by simp)).2) (by first | exact (show zI u from hav (vI u) (by simp)).1 | exact (show zI u from hav (vI u) (by simp)).2) (by exact fun h => h) ?_
                      refine Z_aload_n (n := 150) dX4_gate_149 rfl rfl ?_
                      refine Z_getA (n := 153) dX4_gate_150 rfl ffX4_19 rfl rfl ?_
                      refine Z_iconst (n := 154) dX4_gate_153 rfl (by decide) ?_
                      refine Z_iload (n := 156) dX4_gate_154 rfl rfl ?_
                      refine Z_imul (n := 157) dX4_gate_156 rfl (by omega) ?_
                      refine Z_iconst (n := 158) dX4_gate_157 rfl (by decide) ?_
                      refine Z_iadd (n := 159) dX4_gate_158 rfl (by omega) ?_
                      refine Z_iload (n := 161) dX4_gate_159 rfl rfl ?_
                      refine Z_iast (n := 162) dX4_gate_161 rfl rfl rfl (by first | decide | assumption) (by omega) (by omega) (by first | exact (show zI v from hav (vI v) (by simp)).1 | exact (show zI v from hav (vI v) (by simp)).2) (by first | exact (show zI v from hav (vI v) (by simp)).1 | exact (show zI v from hav (vI v) (by simp)).2) (by exact fun h => h) ?_
                      refine Z_aload_n (n := 163) dX4_gate_162 rfl rfl ?_
                      refine Z_getA (n := 166) dX4_gate_163 rfl ffX4_19 rfl rfl ?_
                      refine Z_iconst (n := 167) dX4_gate_166 rfl (by decide) ?_
                      refine Z_iload (n := 169) dX4_gate_167 rfl rfl ?_
                      refine Z_imul (n := 170) dX4_gate_169 rfl (by omega) ?_
                      refine Z_iconst (n := 171) dX4_gate_170 rfl (by decide) ?_
                      refine Z_iadd (n := 172) dX4_gate_171 rfl (by omega) ?_
                      refine Z_iload (n := 174) dX4_gate_172 rfl rfl ?_
                      refine Z_iast (n := 175) dX4_gate_174 rfl rfl rfl (by first | decide | assumption) (by omega) (by omega) (by first | exact (show zI w from hav (vI w) (by simp)).1 | exact (show zI w from hav (vI w) (by simp)).2) (by first | exact (show zI w from hav (vI w) (by simp)).1 | exact (show zI w from hav (vI w) (by simp)).2) (by exact fun h => h) ?_
                      refine Z_aload_n (n := 176) dX4_gate_175 rfl rfl ?_
                      refine Z_getA (n := 179) dX4_gate_176 rfl ffX4_7 rfl rfl ?_
                      refine Z_iload_n (n := 180) dX4_gate_179 rfl rfl ?_
                      refine Z_dup2 (n := 181) dX4_gate_180 rfl rfl rfl ?_
                      refine Z_iald (n := 182) dX4_gate_181 rfl rfl rfl (by first | decide | assumption) (by omega) (by omega) (fun r181 s181 => ?_)
                      try simp only [uz_oo (show (32 : Nat) ≠ 34 by decide), uz_oo (show (32 : Nat) ≠ 35 by decide), uz_s] at r181 s181 ⊢
                      refine Z_iconst (n := 183) dX4_gate_182 rfl (by decide) ?_
                      refine Z_iadd (n := 184) dX4_gate_183 rfl (by omega) ?_
                      refine Z_iast (n := 185) dX4_gate_184 rfl rfl rfl (by first | decide | assumption) (by omega) (by omega) (by first | assumption | omega | decide) (by first | assumption | omega | decide) (by exact fun h => h) ?_
                      refine Z_aload_n (n := 186) dX4_gate_185 rfl rfl ?_
                      refine Z_getA (n := 189) dX4_gate_186 rfl ffX4_7 rfl rfl ?_
                      refine Z_iload_n (n := 190) dX4_gate_189 rfl rfl ?_
                      refine Z_iald (n := 191) dX4_gate_190 rfl rfl rfl (by first | decide | assumption) (by omega) (by omega) (fun r190 s190 => ?_)
                      try simp only [uz_oo (show (32 : Nat) ≠ 34 by decide), uz_oo (show (32 : Nat) ≠ 35 by decide), uz_s] at r190 s190 ⊢
                      refine Z_iconst (n := 192) dX4_gate_191 rfl (by decide) ?_
                      refine Z_isub (n := 193) dX4_gate_192 rfl (by omega) ?_
                      refine Z_iret dX4_gate_193 rfl ?_
                      exact ⟨rfl, Or.inr (Or.inr (Or.inr ⟨by omega, by omega, by omega, by omega, by omega, Or.inr ⟨by omega, Or.inr ⟨by omega, by omega, rfl⟩⟩⟩))⟩
                    · refine Z_bipush (n := 117) dX4_gate_115 rfl (by decide) (by decide) ?_
                      refine Z_iret dX4_gate_117 rfl ?_
                      exact ⟨rfl, Or.inr (Or.inr (Or.inr ⟨by omega, by omega, by omega, by omega, by omega, Or.inr ⟨by omega, Or.inl ⟨rfl, rfl, by omega⟩⟩⟩))⟩
                  · refine Z_bipush (n := 103) dX4_gate_101 rfl (by decide) (by decide) ?_
                    refine Z_iret dX4_gate_103 rfl ?_
                    first | exact ⟨rfl, Or.inr (Or.inl ⟨by omega, by omega, by omega, rfl, rfl⟩)⟩ | exact ⟨rfl, Or.inr (Or.inr (Or.inr ⟨by omega, by omega, by omega, by omega, by omega, Or.inl ⟨by omega, by omega, rfl, rfl⟩⟩))⟩
            · refine Z_aload_n (n := 66) dX4_gate_65 rfl rfl ?_
              refine Z_iload_n (n := 67) dX4_gate_66 rfl rfl ?_
              refine Z_iload (n := 69) dX4_gate_67 rfl rfl ?_
              refine Z_callVi (n := 72) [_, _] _ dX4_gate_69 rfl cwX4_124 rfl rfl rfl (Nat.le_of_ble_eq_true rfl) (by refine ⟨?_, ?_, ?_, ?_⟩ <;> exact Nat.le_of_ble_eq_true rfl) (fun _ _ => trivial) (zX4_isGate  (by first | assumption | omega | decide) (by first | assumption | omega | decide)) ?_
              intro x69 M69 J69 z69 f69 q69
              obtain ⟨e69_1, e69_2, h69⟩ := q69
              replace e69_1 := e69_1.symm; subst e69_1
              replace e69_2 := e69_2.symm; subst e69_2
              refine Z_if_ne (n := 75) (t := 77) dX4_gate_72 rfl (by decide) (fun c72 => ?_) (fun c72 => ?_)
              · refine Z_iload_n (n := 78) dX4_gate_77 rfl rfl ?_
                refine Z_iconst (n := 79) dX4_gate_78 rfl (by decide) ?_
                refine Z_bipush (n := 81) dX4_gate_79 rfl (by decide) (by decide) ?_
                refine Z_callSi (n := 84) [_, _, _] _ dX4_gate_81 rfl cwX4_112 rfl rfl (Nat.le_of_ble_eq_true rfl) (by refine ⟨?_, ?_, ?_, ?_⟩ <;> exact Nat.le_of_ble_eq_true rfl) (fun _ _ => trivial) (zX4_in  ) ?_
                intro x81 M81 J81 z81 f81 q81
                obtain ⟨e81_1, e81_2, h81⟩ := q81
                replace e81_1 := e81_1.symm; subst e81_1
                replace e81_2 := e81_2.symm; subst e81_2
                refine Z_if_eq (n := 87) (t := 101) dX4_gate_84 rfl (by decide) (fun c84 => ?_) (fun c84 => ?_)
                · refine Z_bipush (n := 103) dX4_gate_101 rfl (by decide) (by decide) ?_
                  refine Z_iret dX4_gate_103 rfl ?_
                  first | exact ⟨rfl, Or.inr (Or.inl ⟨by omega, by omega, by omega, rfl, rfl⟩)⟩ | exact ⟨rfl, Or.inr (Or.inr (Or.inr ⟨by omega, by omega, by omega, by omega, by omega, Or.inl ⟨by omega, by omega, rfl, rfl⟩⟩))⟩
                · refine Z_iload_n (n := 88) dX4_gate_87 rfl rfl ?_
                  refine Z_if_ne (n := 91) (t := 104) dX4_gate_88 rfl (by decide) (fun c88 => ?_) (fun c88 => ?_)
                  · refine Z_aload_n (n := 105) dX4_gate_104 rfl rfl ?_
                    refine Z_getA (n := 108) dX4_gate_105 rfl ffX4_7 rfl rfl ?_
                    refine Z_iload_n (n := 109) dX4_gate_108 rfl rfl ?_
                    refine Z_iald (n := 110) dX4_gate_109 rfl rfl rfl (by first | decide | assumption) (by omega) (by omega) (fun r109 s109 => ?_)
                    try simp only [uz_oo (show (32 : Nat) ≠ 34 by decide), uz_oo (show (32 : Nat) ≠ 35 by decide), uz_s] at r109 s109 ⊢
                    refine Z_bipush (n := 112) dX4_gate_110 rfl (by decide) (by decide) ?_
                    refine Z_icmp_ne (n := 115) (t := 118) dX4_gate_112 rfl (by decide) (fun c112 => ?_) (fun c112 => ?_)
                    · refine Z_bipush (n := 120) dX4_gate_118 rfl (by decide) (by decide) ?_
                      refine Z_iload_n (n := 121) dX4_gate_120 rfl rfl ?_
                      refine Z_imul (n := 122) dX4_gate_121 rfl (by omega) ?_
                      refine Z_aload_n (n := 123) dX4_gate_122 rfl rfl ?_
                      refine Z_getA (n := 126) dX4_gate_123 rfl ffX4_7 rfl rfl ?_
                      refine Z_iload_n (n := 127) dX4_gate_126 rfl rfl ?_
                      refine Z_iald (n := 128) dX4_gate_127 rfl rfl rfl (by first | decide | assumption) (by omega) (by omega) (fun r127 s127 => ?_)
                      try simp only [uz_oo (show (32 : Nat) ≠ 34 by decide), uz_oo (show (32 : Nat) ≠ 35 by decide), uz_s] at r127 s127 ⊢
                      refine Z_iadd (n := 129) dX4_gate_128 rfl (by omega) ?_
                      refine Z_istore (L' := [_, _, _, _, _, _, _, _]) (n := 131) dX4_gate_129 rfl (by decide) rfl rfl ?_
                      refine Z_aload_n (n := 132) dX4_gate_131 rfl rfl ?_
                      refine Z_getA (n := 135) dX4_gate_132 rfl ffX4_16 rfl rfl ?_
                      refine Z_iload (n := 137) dX4_gate_135 rfl rfl ?_
                      refine Z_iload_n (n := 138) dX4_gate_137 rfl rfl ?_
                      refine Z_iast (n := 139) dX4_gate_138 rfl rfl rfl (by first | decide | assumption) (by omega) (by omega) (by first | assumption | omega | decide) (by first | assumption | omega | decide) (by exact fun h => h) ?_
                      refine Z_aload_n (n := 140) dX4_gate_139 rfl rfl ?_
                      refine Z_getA (n := 143) dX4_gate_140 rfl ffX4_19 rfl rfl ?_
                      refine Z_iconst (n := 144) dX4_gate_143 rfl (by decide) ?_
                      refine Z_iload (n := 146) dX4_gate_144 rfl rfl ?_
                      refine Z_imul (n := 147) dX4_gate_146 rfl (by omega) ?_
                      refine Z_iload_n (n := 148) dX4_gate_147 rfl rfl ?_
                      refine Z_iast (n := 149) dX4_gate_148 rfl rfl rfl (by first | decide | assumption) (by omega) (by omega) (by first | exact (show zI u from hav (vI u) (by simp)).1 | exact (show zI u from hav (vI u) (by simp)).2) (by first | exact (show zI u from hav (vI u) (by simp)).1 | exact (show zI u from hav (vI u) (by simp)).2) (by exact fun h => h) ?_
                      refine Z_aload_n (n := 150) dX4_gate_149 rfl rfl ?_
                      refine Z_getA (n := 153) dX4_gate_150 rfl ffX4_19 rfl rfl ?_
                      refine Z_iconst (n := 154) dX4_gate_153 rfl (by decide) ?_
                      refine Z_iload (n := 156) dX4_gate_154 rfl rfl ?_
                      refine Z_imul (n := 157) dX4_gate_156 rfl (by omega) ?_
                      refine Z_iconst (n := 158) dX4_gate_157 rfl (by decide) ?_
                      refine Z_iadd (n := 159) dX4_gate_158 rfl (by omega) ?_
                      refine Z_iload (n := 161) dX4_gate_159 rfl rfl ?_
                      refine Z_iast (n := 162) dX4_gate_161 rfl rfl rfl (by first | decide | assumption) (by omega) (by omega) (by first | exact (show zI v from hav (vI v) (by simp)).1 | exact (show zI v from hav (vI v) (by simp)).2) (by first | exact (show zI v from hav (vI v) (by simp)).1 | exact (show zI v from hav (vI v) (by simp)).2) (by exact fun h => h) ?_
                      refine Z_aload_n (n := 163) dX4_gate_162 rfl rfl ?_
                      refine Z_getA (n := 166) dX4_gate_163 rfl ffX4_19 rfl rfl ?_
                      refine Z_iconst (n := 167) dX4_gate_166 rfl (by decide) ?_
                      refine Z_iload (n := 169) dX4_gate_167 rfl rfl ?_
                      refine Z_imul (n := 170) dX4_gate_169 rfl (by omega) ?_
                      refine Z_iconst (n := 171) dX4_gate_170 rfl (by decide) ?_
                      refine Z_iadd (n := 172) dX4_gate_171 rfl (by omega) ?_
                      refine Z_iload (n := 174) dX4_gate_172 rfl rfl ?_
                      refine Z_iast (n := 175) dX4_gate_174 rfl rfl rfl (by first | decide | assumption) (by omega) (by omega) (by first | exact (show zI w from hav (vI w) (by simp)).1 | exact (show zI w from hav (vI w) (by simp)).2) (by first | exact (show zI w from hav (vI w) (by simp)).1 | exact (show zI w from hav (vI w) (by simp)).2) (by exact fun h => h) ?_
                      refine Z_aload_n (n := 176) dX4_gate_175 rfl rfl ?_
                      refine Z_getA (n := 179) dX4_gate_176 rfl ffX4_7 rfl rfl ?_
                      refine Z_iload_n (n := 180) dX4_gate_179 rfl rfl ?_
                      refine Z_dup2 (n := 181) dX4_gate_180 rfl rfl rfl ?_
                      refine Z_iald (n := 182) dX4_gate_181 rfl rfl rfl (by first | decide | assumption) (by omega) (by omega) (fun r181 s181 => ?_)
                      try simp only [uz_oo (show (32 : Nat) ≠ 34 by decide), uz_oo (show (32 : Nat) ≠ 35 by decide), uz_s] at r181 s181 ⊢
                      refine Z_iconst (n := 183) dX4_gate_182 rfl (by decide) ?_
                      refine Z_iadd (n := 184) dX4_gate_183 rfl (by omega) ?_
                      refine Z_iast (n := 185) dX4_gate_184 rfl rfl rfl (by first | decide | assumption) (by omega) (by omega) (by first | assumption | omega | decide) (by first | assumption | omega | decide) (by exact fun h => h) ?_
                      refine Z_aload_n (n := 186) dX4_gate_185 rfl rfl ?_
                      refine Z_getA (n := 189) dX4_gate_186 rfl ffX4_7 rfl rfl ?_
                      refine Z_iload_n (n := 190) dX4_gate_189 rfl rfl ?_
                      refine Z_iald (n := 191) dX4_gate_190 rfl rfl rfl (by first | decide | assumption) (by omega) (by omega) (fun r190 s190 => ?_)
                      try simp only [uz_oo (show (32 : Nat) ≠ 34 by decide), uz_oo (show (32 : Nat) ≠ 35 by decide), uz_s] at r190 s190 ⊢
                      refine Z_iconst (n := 192) dX4_gate_191 rfl (by decide) ?_
                      refine Z_isub (n := 193) dX4_gate_192 rfl (by omega) ?_
                      refine Z_iret dX4_gate_193 rfl ?_
                      exact ⟨rfl, Or.inr (Or.inr (Or.inr ⟨by omega, by omega, by omega, by omega, by omega, Or.inr ⟨by omega, Or.inr ⟨by omega, by omega, rfl⟩⟩⟩))⟩
                    · refine Z_bipush (n := 117) dX4_gate_115 rfl (by decide) (by decide) ?_
                      refine Z_iret dX4_gate_117 rfl ?_
                      exact ⟨rfl, Or.inr (Or.inr (Or.inr ⟨by omega, by omega, by omega, by omega, by omega, Or.inr ⟨by omega, Or.inl ⟨rfl, rfl, by omega⟩⟩⟩))⟩
                  · refine Z_iload_n (n := 92) dX4_gate_91 rfl rfl ?_
                    refine Z_iconst (n := 93) dX4_gate_92 rfl (by decide) ?_
                    refine Z_bipush (n := 95) dX4_gate_93 rfl (by decide) (by decide) ?_
                    refine Z_callSi (n := 98) [_, _, _] _ dX4_gate_95 rfl cwX4_112 rfl rfl (Nat.le_of_ble_eq_true rfl) (by refine ⟨?_, ?_, ?_, ?_⟩ <;> exact Nat.le_of_ble_eq_true rfl) (fun _ _ => trivial) (zX4_in  ) ?_
                    intro x95 M95 J95 z95 f95 q95
                    obtain ⟨e95_1, e95_2, h95⟩ := q95
                    replace e95_1 := e95_1.symm; subst e95_1
                    replace e95_2 := e95_2.symm; subst e95_2
                    refine Z_if_ne (n := 101) (t := 104) dX4_gate_98 rfl (by decide) (fun c98 => ?_) (fun c98 => ?_)
                    · refine Z_aload_n (n := 105) dX4_gate_104 rfl rfl ?_
                      refine Z_getA (n := 108) dX4_gate_105 rfl ffX4_7 rfl rfl ?_
                      refine Z_iload_n (n := 109) dX4_gate_108 rfl rfl ?_
                      refine Z_iald (n := 110) dX4_gate_109 rfl rfl rfl (by first | decide | assumption) (by omega) (by omega) (fun r109 s109 => ?_)
                      try simp only [uz_oo (show (32 : Nat) ≠ 34 by decide), uz_oo (show (32 : Nat) ≠ 35 by decide), uz_s] at r109 s109 ⊢
                      refine Z_bipush (n := 112) dX4_gate_110 rfl (by decide) (by decide) ?_
                      refine Z_icmp_ne (n := 115) (t := 118) dX4_gate_112 rfl (by decide) (fun c112 => ?_) (fun c112 => ?_)
                      · refine Z_bipush (n := 120) dX4_gate_118 rfl (by decide) (by decide) ?_
                        refine Z_iload_n (n := 121) dX4_gate_120 rfl rfl ?_
                        refine Z_imul (n := 122) dX4_gate_121 rfl (by omega) ?_
                        refine Z_aload_n (n := 123) dX4_gate_122 rfl rfl ?_
                        refine Z_getA (n := 126) dX4_gate_123 rfl ffX4_7 rfl rfl ?_
                        refine Z_iload_n (n := 127) dX4_gate_126 rfl rfl ?_
                        refine Z_iald (n := 128) dX4_gate_127 rfl rfl rfl (by first | decide | assumption) (by omega) (by omega) (fun r127 s127 => ?_)
                        try simp only [uz_oo (show (32 : Nat) ≠ 34 by decide), uz_oo (show (32 : Nat) ≠ 35 by decide), uz_s] at r127 s127 ⊢
                        refine Z_iadd (n := 129) dX4_gate_128 rfl (by omega) ?_
                        refine Z_istore (L' := [_, _, _, _, _, _, _, _]) (n := 131) dX4_gate_129 rfl (by decide) rfl rfl ?_
                        refine Z_aload_n (n := 132) dX4_gate_131 rfl rfl ?_
                        refine Z_getA (n := 135) dX4_gate_132 rfl ffX4_16 rfl rfl ?_
                        refine Z_iload (n := 137) dX4_gate_135 rfl rfl ?_
                        refine Z_iload_n (n := 138) dX4_gate_137 rfl rfl ?_
                        refine Z_iast (n := 139) dX4_gate_138 rfl rfl rfl (by first | decide | assumption) (by omega) (by omega) (by first | assumption | omega | decide) (by first | assumption | omega | decide) (by exact fun h => h) ?_
                        refine Z_aload_n (n := 140) dX4_gate_139 rfl rfl ?_
                        refine Z_getA (n := 143) dX4_gate_140 rfl ffX4_19 rfl rfl ?_
                        refine Z_iconst (n := 144) dX4_gate_143 rfl (by decide) ?_
                        refine Z_iload (n := 146) dX4_gate_144 rfl rfl ?_
                        refine Z_imul (n := 147) dX4_gate_146 rfl (by omega) ?_
                        refine Z_iload_n (n := 148) dX4_gate_147 rfl rfl ?_
                        refine Z_iast (n := 149) dX4_gate_148 rfl rfl rfl (by first | decide | assumption) (by omega) (by omega) (by first | exact (show zI u from hav (vI u) (by simp)).1 | exact (show zI u from hav (vI u) (by simp)).2) (by first | exact (show zI u from hav (vI u) (by simp)).1 | exact (show zI u from hav (vI u) (by simp)).2) (by exact fun h => h) ?_
                        refine Z_aload_n (n := 150) dX4_gate_149 rfl rfl ?_
                        refine Z_getA (n := 153) dX4_gate_150 rfl ffX4_19 rfl rfl ?_
                        refine Z_iconst (n := 154) dX4_gate_153 rfl (by decide) ?_
                        refine Z_iload (n := 156) dX4_gate_154 rfl rfl ?_
                        refine Z_imul (n := 157) dX4_gate_156 rfl (by omega) ?_
                        refine Z_iconst (n := 158) dX4_gate_157 rfl (by decide) ?_
                        refine Z_iadd (n := 159) dX4_gate_158 rfl (by omega) ?_
                        refine Z_iload (n := 161) dX4_gate_159 rfl rfl ?_
                        refine Z_iast (n := 162) dX4_gate_161 rfl rfl rfl (by first | decide | assumption) (by omega) (by omega) (by first | exact (show zI v from hav (vI v) (by simp)).1 | exact (show zI v from hav (vI v) (by simp)).2) (by first | exact (show zI v from hav (vI v) (by simp)).1 | exact (show zI v from hav (vI v) (by simp)).2) (by exact fun h => h) ?_
                        refine Z_aload_n (n := 163) dX4_gate_162 rfl rfl ?_
                        refine Z_getA (n := 166) dX4_gate_163 rfl ffX4_19 rfl rfl ?_
                        refine Z_iconst (n := 167) dX4_gate_166 rfl (by decide) ?_
                        refine Z_iload (n := 169) dX4_gate_167 rfl rfl ?_
                        refine Z_imul (n := 170) dX4_gate_169 rfl (by omega) ?_
                        refine Z_iconst (n := 171) dX4_gate_170 rfl (by decide) ?_
                        refine Z_iadd (n := 172) dX4_gate_171 rfl (by omega) ?_
                        refine Z_iload (n := 174) dX4_gate_172 rfl rfl ?_
                        refine Z_iast (n := 175) dX4_gate_174 rfl rfl rfl (by first | decide | assumption) (by omega) (by omega) (by first | exact (show zI w from hav (vI w) (by simp)).1 | exact (show zI w from hav (vI w) (by simp)).2) (by first | exact (show zI w from hav (vI w) (by simp)).1 | exact (show zI w from hav (vI w) (by simp)).2) (by exact fun h => h) ?_
                        refine Z_aload_n (n := 176) dX4_gate_175 rfl rfl ?_
                        refine Z_getA (n := 179) dX4_gate_176 rfl ffX4_7 rfl rfl ?_
                        refine Z_iload_n (n := 180) dX4_gate_179 rfl rfl ?_
                        refine Z_dup2 (n := 181) dX4_gate_180 rfl rfl rfl ?_
                        refine Z_iald (n := 182) dX4_gate_181 rfl rfl rfl (by first | decide | assumption) (by omega) (by omega) (fun r181 s181 => ?_)
                        try simp only [uz_oo (show (32 : Nat) ≠ 34 by decide), uz_oo (show (32 : Nat) ≠ 35 by decide), uz_s] at r181 s181 ⊢
                        refine Z_iconst (n := 183) dX4_gate_182 rfl (by decide) ?_
                        refine Z_iadd (n := 184) dX4_gate_183 rfl (by omega) ?_
                        refine Z_iast (n := 185) dX4_gate_184 rfl rfl rfl (by first | decide | assumption) (by omega) (by omega) (by first | assumption | omega | decide) (by first | assumption | omega | decide) (by exact fun h => h) ?_
                        refine Z_aload_n (n := 186) dX4_gate_185 rfl rfl ?_
                        refine Z_getA (n := 189) dX4_gate_186 rfl ffX4_7 rfl rfl ?_
                        refine Z_iload_n (n := 190) dX4_gate_189 rfl rfl ?_
                        refine Z_iald (n := 191) dX4_gate_190 rfl rfl rfl (by first | decide | assumption) (by omega) (by omega) (fun r190 s190 => ?_)
                        try simp only [uz_oo (show (32 : Nat) ≠ 34 by decide), uz_oo (show (32 : Nat) ≠ 35 by decide), uz_s] at r190 s190 ⊢
                        refine Z_iconst (n := 192) dX4_gate_191 rfl (by decide) ?_
                        refine Z_isub (n := 193) dX4_gate_192 rfl (by omega) ?_
                        refine Z_iret dX4_gate_193 rfl ?_
                        exact ⟨rfl, Or.inr (Or.inr (Or.inr ⟨by omega, by omega, by omega, by omega, by omega, Or.inr ⟨by omega, Or.inr ⟨by omega, by omega, rfl⟩⟩⟩))⟩
                      · refine Z_bipush (n := 117) dX4_gate_115 rfl (by decide) (by decide) ?_
                        refine Z_iret dX4_gate_117 rfl ?_
                        exact ⟨rfl, Or.inr (Or.inr (Or.inr ⟨by omega, by omega, by omega, by omega, by omega, Or.inr ⟨by omega, Or.inl ⟨rfl, rfl, by omega⟩⟩⟩))⟩
                    · refine Z_bipush (n := 103) dX4_gate_101 rfl (by decide) (by decide) ?_
                      refine Z_iret dX4_gate_103 rfl ?_
                      first | exact ⟨rfl, Or.inr (Or.inl ⟨by omega, by omega, by omega, rfl, rfl⟩)⟩ | exact ⟨rfl, Or.inr (Or.inr (Or.inr ⟨by omega, by omega, by omega, by omega, by omega, Or.inl ⟨by omega, by omega, rfl, rfl⟩⟩))⟩
              · refine Z_iconst (n := 76) dX4_gate_75 rfl (by decide) ?_
                refine Z_iret dX4_gate_76 rfl ?_
                exact ⟨rfl, Or.inr (Or.inr (Or.inl ⟨by omega, by omega, by omega, by omega, by omega, rfl, rfl⟩))⟩
          · refine Z_aload_n (n := 50) dX4_gate_49 rfl rfl ?_
            refine Z_iload_n (n := 51) dX4_gate_50 rfl rfl ?_
            refine Z_iload (n := 53) dX4_gate_51 rfl rfl ?_
            refine Z_callVi (n := 56) [_, _] _ dX4_gate_53 rfl cwX4_124 rfl rfl rfl (Nat.le_of_ble_eq_true rfl) (by refine ⟨?_, ?_, ?_, ?_⟩ <;> exact Nat.le_of_ble_eq_true rfl) (fun _ _ => trivial) (zX4_isGate  (by first | assumption | omega | decide) (by first | assumption | omega | decide)) ?_
            intro x53 M53 J53 z53 f53 q53
            obtain ⟨e53_1, e53_2, h53⟩ := q53
            replace e53_1 := e53_1.symm; subst e53_1
            replace e53_2 := e53_2.symm; subst e53_2
            refine Z_if_eq (n := 59) (t := 75) dX4_gate_56 rfl (by decide) (fun c56 => ?_) (fun c56 => ?_)
            · refine Z_iconst (n := 76) dX4_gate_75 rfl (by decide) ?_
              refine Z_iret dX4_gate_76 rfl ?_
              exact ⟨rfl, Or.inr (Or.inr (Or.inl ⟨by omega, by omega, by omega, by omega, by omega, rfl, rfl⟩))⟩
            · refine Z_iload (n := 61) dX4_gate_59 rfl rfl ?_
              refine Z_iconst (n := 62) dX4_gate_61 rfl (by decide) ?_
              refine Z_icmp_le (n := 65) (t := 77) dX4_gate_62 rfl (by decide) (fun c62 => ?_) (fun c62 => ?_)
              · refine Z_iload_n (n := 78) dX4_gate_77 rfl rfl ?_
                refine Z_iconst (n := 79) dX4_gate_78 rfl (by decide) ?_
                refine Z_bipush (n := 81) dX4_gate_79 rfl (by decide) (by decide) ?_
                refine Z_callSi (n := 84) [_, _, _] _ dX4_gate_81 rfl cwX4_112 rfl rfl (Nat.le_of_ble_eq_true rfl) (by refine ⟨?_, ?_, ?_, ?_⟩ <;> exact Nat.le_of_ble_eq_true rfl) (fun _ _ => trivial) (zX4_in  ) ?_
                intro x81 M81 J81 z81 f81 q81
                obtain ⟨e81_1, e81_2, h81⟩ := q81
                replace e81_1 := e81_1.symm; subst e81_1
                replace e81_2 := e81_2.symm; subst e81_2
                refine Z_if_eq (n := 87) (t := 101) dX4_gate_84 rfl (by decide) (fun c84 => ?_) (fun c84 => ?_)
                · refine Z_bipush (n := 103) dX4_gate_101 rfl (by decide) (by decide) ?_
                  refine Z_iret dX4_gate_103 rfl ?_
                  first | exact ⟨rfl, Or.inr (Or.inl ⟨by omega, by omega, by omega, rfl, rfl⟩)⟩ | exact ⟨rfl, Or.inr (Or.inr (Or.inr ⟨by omega, by omega, by omega, by omega, by omega, Or.inl ⟨by omega, by omega, rfl, rfl⟩⟩))⟩
                · refine Z_iload_n (n := 88) dX4_gate_87 rfl rfl ?_
                  refine Z_if_ne (n := 91) (t := 104) dX4_gate_88 rfl (by decide) (fun c88 => ?_) (fun c88 => ?_)
                  · refine Z_aload_n (n := 105) dX4_gate_104 rfl rfl ?_
                    refine Z_getA (n := 108) dX4_gate_105 rfl ffX4_7 rfl rfl ?_
                    refine Z_iload_n (n := 109) dX4_gate_108 rfl rfl ?_
                    refine Z_iald (n := 110) dX4_gate_109 rfl rfl rfl (by first | decide | assumption) (by omega) (by omega) (fun r109 s109 => ?_)
                    try simp only [uz_oo (show (32 : Nat) ≠ 34 by decide), uz_oo (show (32 : Nat) ≠ 35 by decide), uz_s] at r109 s109 ⊢
                    refine Z_bipush (n := 112) dX4_gate_110 rfl (by decide) (by decide) ?_
                    refine Z_icmp_ne (n := 115) (t := 118) dX4_gate_112 rfl (by decide) (fun c112 => ?_) (fun c112 => ?_)
                    · refine Z_bipush (n := 120) dX4_gate_118 rfl (by decide) (by decide) ?_
                      refine Z_iload_n (n := 121) dX4_gate_120 rfl rfl ?_
                      refine Z_imul (n := 122) dX4_gate_121 rfl (by omega) ?_
                      refine Z_aload_n (n := 123) dX4_gate_122 rfl rfl ?_
                      refine Z_getA (n := 126) dX4_gate_123 rfl ffX4_7 rfl rfl ?_
                      refine Z_iload_n (n := 127) dX4_gate_126 rfl rfl ?_
                      refine Z_iald (n := 128) dX4_gate_127 rfl rfl rfl (by first | decide | assumption) (by omega) (by omega) (fun r127 s127 => ?_)
                      try simp only [uz_oo (show (32 : Nat) ≠ 34 by decide), uz_oo (show (32 : Nat) ≠ 35 by decide), uz_s] at r127 s127 ⊢
                      refine Z_iadd (n := 129) dX4_gate_128 rfl (by omega) ?_
                      refine Z_istore (L' := [_, _, _, _, _, _, _, _]) (n := 131) dX4_gate_129 rfl (by decide) rfl rfl ?_
                      refine Z_aload_n (n := 132) dX4_gate_131 rfl rfl ?_
                      refine Z_getA (n := 135) dX4_gate_132 rfl ffX4_16 rfl rfl ?_
                      refine Z_iload (n := 137) dX4_gate_135 rfl rfl ?_
                      refine Z_iload_n (n := 138) dX4_gate_137 rfl rfl ?_
                      refine Z_iast (n := 139) dX4_gate_138 rfl rfl rfl (by first | decide | assumption) (by omega) (by omega) (by first | assumption | omega | decide) (by first | assumption | omega | decide) (by exact fun h => h) ?_
                      refine Z_aload_n (n := 140) dX4_gate_139 rfl rfl ?_
                      refine Z_getA (n := 143) dX4_gate_140 rfl ffX4_19 rfl rfl ?_
                      refine Z_iconst (n := 144) dX4_gate_143 rfl (by decide) ?_
                      refine Z_iload (n := 146) dX4_gate_144 rfl rfl ?_
                      refine Z_imul (n := 147) dX4_gate_146 rfl (by omega) ?_
                      refine Z_iload_n (n := 148) dX4_gate_147 rfl rfl ?_
                      refine Z_iast (n := 149) dX4_gate_148 rfl rfl rfl (by first | decide | assumption) (by omega) (by omega) (by first | exact (show zI u from hav (vI u) (by simp)).1 | exact (show zI u from hav (vI u) (by simp)).2) (by first | exact (show zI u from hav (vI u) (by simp)).1 | exact (show zI u from hav (vI u) (by simp)).2) (by exact fun h => h) ?_
                      refine Z_aload_n (n := 150) dX4_gate_149 rfl rfl ?_
                      refine Z_getA (n := 153) dX4_gate_150 rfl ffX4_19 rfl rfl ?_
                      refine Z_iconst (n := 154) dX4_gate_153 rfl (by decide) ?_
                      refine Z_iload (n := 156) dX4_gate_154 rfl rfl ?_
                      refine Z_imul (n := 157) dX4_gate_156 rfl (by omega) ?_
                      refine Z_iconst (n := 158) dX4_gate_157 rfl (by decide) ?_
                      refine Z_iadd (n := 159) dX4_gate_158 rfl (by omega) ?_
                      refine Z_iload (n := 161) dX4_gate_159 rfl rfl ?_
                      refine Z_iast (n := 162) dX4_gate_161 rfl rfl rfl (by first | decide | assumption) (by omega) (by omega) (by first | exact (show zI v from hav (vI v) (by simp)).1 | exact (show zI v from hav (vI v) (by simp)).2) (by first | exact (show zI v from hav (vI v) (by simp)).1 | exact (show zI v from hav (vI v) (by simp)).2) (by exact fun h => h) ?_
                      refine Z_aload_n (n := 163) dX4_gate_162 rfl rfl ?_
                      refine Z_getA (n := 166) dX4_gate_163 rfl ffX4_19 rfl rfl ?_
                      refine Z_iconst (n := 167) dX4_gate_166 rfl (by decide) ?_
                      refine Z_iload (n := 169) dX4_gate_167 rfl rfl ?_
                      refine Z_imul (n := 170) dX4_gate_169 rfl (by omega) ?_
                      refine Z_iconst (n := 171) dX4_gate_170 rfl (by decide) ?_
                      refine Z_iadd (n := 172) dX4_gate_171 rfl (by omega) ?_
                      refine Z_iload (n := 174) dX4_gate_172 rfl rfl ?_
                      refine Z_iast (n := 175) dX4_gate_174 rfl rfl rfl (by first | decide | assumption) (by omega) (by omega) (by first | exact (show zI w from hav (vI w) (by simp)).1 | exact (show zI w from hav (vI w) (by simp)).2) (by first | exact (show zI w from hav (vI w) (by simp)).1 | exact (show zI w from hav (vI w) (by simp)).2) (by exact fun h => h) ?_
                      refine Z_aload_n (n := 176) dX4_gate_175 rfl rfl ?_
                      refine Z_getA (n := 179) dX4_gate_176 rfl ffX4_7 rfl rfl ?_
                      refine Z_iload_n (n := 180) dX4_gate_179 rfl rfl ?_
                      refine Z_dup2 (n := 181) dX4_gate_180 rfl rfl rfl ?_
                      refine Z_iald (n := 182) dX4_gate_181 rfl rfl rfl (by first | decide | assumption) (by omega) (by omega) (fun r181 s181 => ?_)
                      try simp only [uz_oo (show (32 : Nat) ≠ 34 by decide), uz_oo (show (32 : Nat) ≠ 35 by decide), uz_s] at r181 s181 ⊢
                      refine Z_iconst (n := 183) dX4_gate_182 rfl (by decide) ?_
                      refine Z_iadd (n := 184) dX4_gate_183 rfl (by omega) ?_
                      refine Z_iast (n := 185) dX4_gate_184 rfl rfl rfl (by first | decide | assumption) (by omega) (by omega) (by first | assumption | omega | decide) (by first | assumption | omega | decide) (by exact fun h => h) ?_
                      refine Z_aload_n (n := 186) dX4_gate_185 rfl rfl ?_
                      refine Z_getA (n := 189) dX4_gate_186 rfl ffX4_7 rfl rfl ?_
                      refine Z_iload_n (n := 190) dX4_gate_189 rfl rfl ?_
                      refine Z_iald (n := 191) dX4_gate_190 rfl rfl rfl (by first | decide | assumption) (by omega) (by omega) (fun r190 s190 => ?_)
                      try simp only [uz_oo (show (32 : Nat) ≠ 34 by decide), uz_oo (show (32 : Nat) ≠ 35 by decide), uz_s] at r190 s190 ⊢
                      refine Z_iconst (n := 192) dX4_gate_191 rfl (by decide) ?_
                      refine Z_isub (n := 193) dX4_gate_192 rfl (by omega) ?_
                      refine Z_iret dX4_gate_193 rfl ?_
                      exact ⟨rfl, Or.inr (Or.inr (Or.inr ⟨by omega, by omega, by omega, by omega, by omega, Or.inr ⟨by omega, Or.inr ⟨by omega, by omega, rfl⟩⟩⟩))⟩
                    · refine Z_bipush (n := 117) dX4_gate_115 rfl (by decide) (by decide) ?_
                      refine Z_iret dX4_gate_117 rfl ?_
                      exact ⟨rfl, Or.inr (Or.inr (Or.inr ⟨by omega, by omega, by omega, by omega, by omega, Or.inr ⟨by omega, Or.inl ⟨rfl, rfl, by omega⟩⟩⟩))⟩
                  · refine Z_iload_n (n := 92) dX4_gate_91 rfl rfl ?_
                    refine Z_iconst (n := 93) dX4_gate_92 rfl (by decide) ?_
                    refine Z_bipush (n := 95) dX4_gate_93 rfl (by decide) (by decide) ?_
                    refine Z_callSi (n := 98) [_, _, _] _ dX4_gate_95 rfl cwX4_112 rfl rfl (Nat.le_of_ble_eq_true rfl) (by refine ⟨?_, ?_, ?_, ?_⟩ <;> exact Nat.le_of_ble_eq_true rfl) (fun _ _ => trivial) (zX4_in  ) ?_
                    intro x95 M95 J95 z95 f95 q95
                    obtain ⟨e95_1, e95_2, h95⟩ := q95
                    replace e95_1 := e95_1.symm; subst e95_1
                    replace e95_2 := e95_2.symm; subst e95_2
                    refine Z_if_ne (n := 101) (t := 104) dX4_gate_98 rfl (by decide) (fun c98 => ?_) (fun c98 => ?_)
                    · refine Z_aload_n (n := 105) dX4_gate_104 rfl rfl ?_
                      refine Z_getA (n := 108) dX4_gate_105 rfl ffX4_7 rfl rfl ?_
                      refine Z_iload_n (n := 109) dX4_gate_108 rfl rfl ?_
                      refine Z_iald (n := 110) dX4_gate_109 rfl rfl rfl (by first | decide | assumption) (by omega) (by omega) (fun r109 s109 => ?_)
                      try simp only [uz_oo (show (32 : Nat) ≠ 34 by decide), uz_oo (show (32 : Nat) ≠ 35 by decide), uz_s] at r109 s109 ⊢
                      refine Z_bipush (n := 112) dX4_gate_110 rfl (by decide) (by decide) ?_
                      refine Z_icmp_ne (n := 115) (t := 118) dX4_gate_112 rfl (by decide) (fun c112 => ?_) (fun c112 => ?_)
                      · refine Z_bipush (n := 120) dX4_gate_118 rfl (by decide) (by decide) ?_
                        refine Z_iload_n (n := 121) dX4_gate_120 rfl rfl ?_
                        refine Z_imul (n := 122) dX4_gate_121 rfl (by omega) ?_
                        refine Z_aload_n (n := 123) dX4_gate_122 rfl rfl ?_
                        refine Z_getA (n := 126) dX4_gate_123 rfl ffX4_7 rfl rfl ?_
                        refine Z_iload_n (n := 127) dX4_gate_126 rfl rfl ?_
                        refine Z_iald (n := 128) dX4_gate_127 rfl rfl rfl (by first | decide | assumption) (by omega) (by omega) (fun r127 s127 => ?_)
                        try simp only [uz_oo (show (32 : Nat) ≠ 34 by decide), uz_oo (show (32 : Nat) ≠ 35 by decide), uz_s] at r127 s127 ⊢
                        refine Z_iadd (n := 129) dX4_gate_128 rfl (by omega) ?_
                        refine Z_istore (L' := [_, _, _, _, _, _, _, _]) (n := 131) dX4_gate_129 rfl (by decide) rfl rfl ?_
                        refine Z_aload_n (n := 132) dX4_gate_131 rfl rfl ?_
                        refine Z_getA (n := 135) dX4_gate_132 rfl ffX4_16 rfl rfl ?_
                        refine Z_iload (n := 137) dX4_gate_135 rfl rfl ?_
                        refine Z_iload_n (n := 138) dX4_gate_137 rfl rfl ?_
                        refine Z_iast (n := 139) dX4_gate_138 rfl rfl rfl (by first | decide | assumption) (by omega) (by omega) (by first | assumption | omega | decide) (by first | assumption | omega | decide) (by exact fun h => h) ?_
                        refine Z_aload_n (n := 140) dX4_gate_139 rfl rfl ?_
                        refine Z_getA (n := 143) dX4_gate_140 rfl ffX4_19 rfl rfl ?_
                        refine Z_iconst (n := 144) dX4_gate_143 rfl (by decide) ?_
                        refine Z_iload (n := 146) dX4_gate_144 rfl rfl ?_
                        refine Z_imul (n := 147) dX4_gate_146 rfl (by omega) ?_
                        refine Z_iload_n (n := 148) dX4_gate_147 rfl rfl ?_
                        refine Z_iast (n := 149) dX4_gate_148 rfl rfl rfl (by first | decide | assumption) (by omega) (by omega) (by first | exact (show zI u from hav (vI u) (by simp)).1 | exact (show zI u from hav (vI u) (by simp)).2) (by first | exact (show zI u from hav (vI u) (by simp)).1 | exact (show zI u from hav (vI u) (by simp)).2) (by exact fun h => h) ?_
                        refine Z_aload_n (n := 150) dX4_gate_149 rfl rfl ?_
                        refine Z_getA (n := 153) dX4_gate_150 rfl ffX4_19 rfl rfl ?_
                        refine Z_iconst (n := 154) dX4_gate_153 rfl (by decide) ?_
                        refine Z_iload (n := 156) dX4_gate_154 rfl rfl ?_
                        refine Z_imul (n := 157) dX4_gate_156 rfl (by omega) ?_
                        refine Z_iconst (n := 158) dX4_gate_157 rfl (by decide) ?_
                        refine Z_iadd (n := 159) dX4_gate_158 rfl (by omega) ?_
                        refine Z_iload (n := 161) dX4_gate_159 rfl rfl ?_
                        refine Z_iast (n := 162) dX4_gate_161 rfl rfl rfl (by first | decide | assumption) (by omega) (by omega) (by first | exact (show zI v from hav (vI v) (by simp)).1 | exact (show zI v from hav (vI v) (by simp)).2) (by first | exact (show zI v from hav (vI v) (by simp)).1 | exact (show zI v from hav (vI v) (by simp)).2) (by exact fun h => h) ?_
                        refine Z_aload_n (n := 163) dX4_gate_162 rfl rfl ?_
                        refine Z_getA (n := 166) dX4_gate_163 rfl ffX4_19 rfl rfl ?_
                        refine Z_iconst (n := 167) dX4_gate_166 rfl (by decide) ?_
                        refine Z_iload (n := 169) dX4_gate_167 rfl rfl ?_
                        refine Z_imul (n := 170) dX4_gate_169 rfl (by omega) ?_
                        refine Z_iconst (n := 171) dX4_gate_170 rfl (by decide) ?_
                        refine Z_iadd (n := 172) dX4_gate_171 rfl (by omega) ?_
                        refine Z_iload (n := 174) dX4_gate_172 rfl rfl ?_
                        refine Z_iast (n := 175) dX4_gate_174 rfl rfl rfl (by first | decide | assumption) (by omega) (by omega) (by first | exact (show zI w from hav (vI w) (by simp)).1 | exact (show zI w from hav (vI w) (by simp)).2) (by first | exact (show zI w from hav (vI w) (by simp)).1 | exact (show zI w from hav (vI w) (by simp)).2) (by exact fun h => h) ?_
                        refine Z_aload_n (n := 176) dX4_gate_175 rfl rfl ?_
                        refine Z_getA (n := 179) dX4_gate_176 rfl ffX4_7 rfl rfl ?_
                        refine Z_iload_n (n := 180) dX4_gate_179 rfl rfl ?_
                        refine Z_dup2 (n := 181) dX4_gate_180 rfl rfl rfl ?_
                        refine Z_iald (n := 182) dX4_gate_181 rfl rfl rfl (by first | decide | assumption) (by omega) (by omega) (fun r181 s181 => ?_)
                        try simp only [uz_oo (show (32 : Nat) ≠ 34 by decide), uz_oo (show (32 : Nat) ≠ 35 by decide), uz_s] at r181 s181 ⊢
                        refine Z_iconst (n := 183) dX4_gate_182 rfl (by decide) ?_
                        refine Z_iadd (n := 184) dX4_gate_183 rfl (by omega) ?_
                        refine Z_iast (n := 185) dX4_gate_184 rfl rfl rfl (by first | decide | assumption) (by omega) (by omega) (by first | assumption | omega | decide) (by first | assumption | omega | decide) (by exact fun h => h) ?_
                        refine Z_aload_n (n := 186) dX4_gate_185 rfl rfl ?_
                        refine Z_getA (n := 189) dX4_gate_186 rfl ffX4_7 rfl rfl ?_
                        refine Z_iload_n (n := 190) dX4_gate_189 rfl rfl ?_
                        refine Z_iald (n := 191) dX4_gate_190 rfl rfl rfl (by first | decide | assumption) (by omega) (by omega) (fun r190 s190 => ?_)
                        try simp only [uz_oo (show (32 : Nat) ≠ 34 by decide), uz_oo (show (32 : Nat) ≠ 35 by decide), uz_s] at r190 s190 ⊢
                        refine Z_iconst (n := 192) dX4_gate_191 rfl (by decide) ?_
                        refine Z_isub (n := 193) dX4_gate_192 rfl (by omega) ?_
                        refine Z_iret dX4_gate_193 rfl ?_
                        exact ⟨rfl, Or.inr (Or.inr (Or.inr ⟨by omega, by omega, by omega, by omega, by omega, Or.inr ⟨by omega, Or.inr ⟨by omega, by omega, rfl⟩⟩⟩))⟩
                      · refine Z_bipush (n := 117) dX4_gate_115 rfl (by decide) (by decide) ?_
                        refine Z_iret dX4_gate_117 rfl ?_
                        exact ⟨rfl, Or.inr (Or.inr (Or.inr ⟨by omega, by omega, by omega, by omega, by omega, Or.inr ⟨by omega, Or.inl ⟨rfl, rfl, by omega⟩⟩⟩))⟩
                    · refine Z_bipush (n := 103) dX4_gate_101 rfl (by decide) (by decide) ?_
                      refine Z_iret dX4_gate_103 rfl ?_
                      first | exact ⟨rfl, Or.inr (Or.inl ⟨by omega, by omega, by omega, rfl, rfl⟩)⟩ | exact ⟨rfl, Or.inr (Or.inr (Or.inr ⟨by omega, by omega, by omega, by omega, by omega, Or.inl ⟨by omega, by omega, rfl, rfl⟩⟩))⟩
              · refine Z_aload_n (n := 66) dX4_gate_65 rfl rfl ?_
                refine Z_iload_n (n := 67) dX4_gate_66 rfl rfl ?_
                refine Z_iload (n := 69) dX4_gate_67 rfl rfl ?_
                refine Z_callVi (n := 72) [_, _] _ dX4_gate_69 rfl cwX4_124 rfl rfl rfl (Nat.le_of_ble_eq_true rfl) (by refine ⟨?_, ?_, ?_, ?_⟩ <;> exact Nat.le_of_ble_eq_true rfl) (fun _ _ => trivial) (zX4_isGate  (by first | assumption | omega | decide) (by first | assumption | omega | decide)) ?_
                intro x69 M69 J69 z69 f69 q69
                obtain ⟨e69_1, e69_2, h69⟩ := q69
                replace e69_1 := e69_1.symm; subst e69_1
                replace e69_2 := e69_2.symm; subst e69_2
                refine Z_if_ne (n := 75) (t := 77) dX4_gate_72 rfl (by decide) (fun c72 => ?_) (fun c72 => ?_)
                · refine Z_iload_n (n := 78) dX4_gate_77 rfl rfl ?_
                  refine Z_iconst (n := 79) dX4_gate_78 rfl (by decide) ?_
                  refine Z_bipush (n := 81) dX4_gate_79 rfl (by decide) (by decide) ?_
                  refine Z_callSi (n := 84) [_, _, _] _ dX4_gate_81 rfl cwX4_112 rfl rfl (Nat.le_of_ble_eq_true rfl) (by refine ⟨?_, ?_, ?_, ?_⟩ <;> exact Nat.le_of_ble_eq_true rfl) (fun _ _ => trivial) (zX4_in  ) ?_
                  intro x81 M81 J81 z81 f81 q81
                  obtain ⟨e81_1, e81_2, h81⟩ := q81
                  replace e81_1 := e81_1.symm; subst e81_1
                  replace e81_2 := e81_2.symm; subst e81_2
                  refine Z_if_eq (n := 87) (t := 101) dX4_gate_84 rfl (by decide) (fun c84 => ?_) (fun c84 => ?_)
                  · refine Z_bipush (n := 103) dX4_gate_101 rfl (by decide) (by decide) ?_
                    refine Z_iret dX4_gate_103 rfl ?_
                    first | exact ⟨rfl, Or.inr (Or.inl ⟨by omega, by omega, by omega, rfl, rfl⟩)⟩ | exact ⟨rfl, Or.inr (Or.inr (Or.inr ⟨by omega, by omega, by omega, by omega, by omega, Or.inl ⟨by omega, by omega, rfl, rfl⟩⟩))⟩
                  · refine Z_iload_n (n := 88) dX4_gate_87 rfl rfl ?_
                    refine Z_if_ne (n := 91) (t := 104) dX4_gate_88 rfl (by decide) (fun c88 => ?_) (fun c88 => ?_)
                    · refine Z_aload_n (n := 105) dX4_gate_104 rfl rfl ?_
                      refine Z_getA (n := 108) dX4_gate_105 rfl ffX4_7 rfl rfl ?_
                      refine Z_iload_n (n := 109) dX4_gate_108 rfl rfl ?_
                      refine Z_iald (n := 110) dX4_gate_109 rfl rfl rfl (by first | decide | assumption) (by omega) (by omega) (fun r109 s109 => ?_)
                      try simp only [uz_oo (show (32 : Nat) ≠ 34 by decide), uz_oo (show (32 : Nat) ≠ 35 by decide), uz_s] at r109 s109 ⊢
                      refine Z_bipush (n := 112) dX4_gate_110 rfl (by decide) (by decide) ?_
                      refine Z_icmp_ne (n := 115) (t := 118) dX4_gate_112 rfl (by decide) (fun c112 => ?_) (fun c112 => ?_)
                      · refine Z_bipush (n := 120) dX4_gate_118 rfl (by decide) (by decide) ?_
                        refine Z_iload_n (n := 121) dX4_gate_120 rfl rfl ?_
                        refine Z_imul (n := 122) dX4_gate_121 rfl (by omega) ?_
                        refine Z_aload_n (n := 123) dX4_gate_122 rfl rfl ?_
                        refine Z_getA (n := 126) dX4_gate_123 rfl ffX4_7 rfl rfl ?_
                        refine Z_iload_n (n := 127) dX4_gate_126 rfl rfl ?_
                        refine Z_iald (n := 128) dX4_gate_127 rfl rfl rfl (by first | decide | assumption) (by omega) (by omega) (fun r127 s127 => ?_)
                        try simp only [uz_oo (show (32 : Nat) ≠ 34 by decide), uz_oo (show (32 : Nat) ≠ 35 by decide), uz_s] at r127 s127 ⊢
                        refine Z_iadd (n := 129) dX4_gate_128 rfl (by omega) ?_
                        refine Z_istore (L' := [_, _, _, _, _, _, _, _]) (n := 131) dX4_gate_129 rfl (by decide) rfl rfl ?_
                        refine Z_aload_n (n := 132) dX4_gate_131 rfl rfl ?_
                        refine Z_getA (n := 135) dX4_gate_132 rfl ffX4_16 rfl rfl ?_
                        refine Z_iload (n := 137) dX4_gate_135 rfl rfl ?_
                        refine Z_iload_n (n := 138) dX4_gate_137 rfl rfl ?_
                        refine Z_iast (n := 139) dX4_gate_138 rfl rfl rfl (by first | decide | assumption) (by omega) (by omega) (by first | assumption | omega | decide) (by first | assumption | omega | decide) (by exact fun h => h) ?_
                        refine Z_aload_n (n := 140) dX4_gate_139 rfl rfl ?_
                        refine Z_getA (n := 143) dX4_gate_140 rfl ffX4_19 rfl rfl ?_
                        refine Z_iconst (n := 144) dX4_gate_143 rfl (by decide) ?_
                        refine Z_iload (n := 146) dX4_gate_144 rfl rfl ?_
                        refine Z_imul (n := 147) dX4_gate_146 rfl (by omega) ?_
                        refine Z_iload_n (n := 148) dX4_gate_147 rfl rfl ?_
                        refine Z_iast (n := 149) dX4_gate_148 rfl rfl rfl (by first | decide | assumption) (by omega) (by omega) (by first | exact (show zI u from hav (vI u) (by simp)).1 | exact (show zI u from hav (vI u) (by simp)).2) (by first | exact (show zI u from hav (vI u) (by simp)).1 | exact (show zI u from hav (vI u) (by simp)).2) (by exact fun h => h) ?_
                        refine Z_aload_n (n := 150) dX4_gate_149 rfl rfl ?_
                        refine Z_getA (n := 153) dX4_gate_150 rfl ffX4_19 rfl rfl ?_
                        refine Z_iconst (n := 154) dX4_gate_153 rfl (by decide) ?_
                        refine Z_iload (n := 156) dX4_gate_154 rfl rfl ?_
                        refine Z_imul (n := 157) dX4_gate_156 rfl (by omega) ?_
                        refine Z_iconst (n := 158) dX4_gate_157 rfl (by decide) ?_
                        refine Z_iadd (n := 159) dX4_gate_158 rfl (by omega) ?_
                        refine Z_iload (n := 161) dX4_gate_159 rfl rfl ?_
                        refine Z_iast (n := 162) dX4_gate_161 rfl rfl rfl (by first | decide | assumption) (by omega) (by omega) (by first | exact (show zI v from hav (vI v) (by simp)).1 | exact (show zI v from hav (vI v) (by simp)).2) (by first | exact (show zI v from hav (vI v) (by simp)).1 | exact (show zI v from hav (vI v) (by simp)).2) (by exact fun h => h) ?_
                        refine Z_aload_n (n := 163) dX4_gate_162 rfl rfl ?_
                        refine Z_getA (n := 166) dX4_gate_163 rfl ffX4_19 rfl rfl ?_
                        refine Z_iconst (n := 167) dX4_gate_166 rfl (by decide) ?_
                        refine Z_iload (n := 169) dX4_gate_167 rfl rfl ?_
                        refine Z_imul (n := 170) dX4_gate_169 rfl (by omega) ?_
                        refine Z_iconst (n := 171) dX4_gate_170 rfl (by decide) ?_
                        refine Z_iadd (n := 172) dX4_gate_171 rfl (by omega) ?_
                        refine Z_iload (n := 174) dX4_gate_172 rfl rfl ?_
                        refine Z_iast (n := 175) dX4_gate_174 rfl rfl rfl (by first | decide | assumption) (by omega) (by omega) (by first | exact (show zI w from hav (vI w) (by simp)).1 | exact (show zI w from hav (vI w) (by simp)).2) (by first | exact (show zI w from hav (vI w) (by simp)).1 | exact (show zI w from hav (vI w) (by simp)).2) (by exact fun h => h) ?_
                        refine Z_aload_n (n := 176) dX4_gate_175 rfl rfl ?_
                        refine Z_getA (n := 179) dX4_gate_176 rfl ffX4_7 rfl rfl ?_
                        refine Z_iload_n (n := 180) dX4_gate_179 rfl rfl ?_
                        refine Z_dup2 (n := 181) dX4_gate_180 rfl rfl rfl ?_
                        refine Z_iald (n := 182) dX4_gate_181 rfl rfl rfl (by first | decide | assumption) (by omega) (by omega) (fun r181 s181 => ?_)
                        try simp only [uz_oo (show (32 : Nat) ≠ 34 by decide), uz_oo (show (32 : Nat) ≠ 35 by decide), uz_s] at r181 s181 ⊢
                        refine Z_iconst (n := 183) dX4_gate_182 rfl (by decide) ?_
                        refine Z_iadd (n := 184) dX4_gate_183 rfl (by omega) ?_
                        refine Z_iast (n := 185) dX4_gate_184 rfl rfl rfl (by first | decide | assumption) (by omega) (by omega) (by first | assumption | omega | decide) (by first | assumption | omega | decide) (by exact fun h => h) ?_
                        refine Z_aload_n (n := 186) dX4_gate_185 rfl rfl ?_
                        refine Z_getA (n := 189) dX4_gate_186 rfl ffX4_7 rfl rfl ?_
                        refine Z_iload_n (n := 190) dX4_gate_189 rfl rfl ?_
                        refine Z_iald (n := 191) dX4_gate_190 rfl rfl rfl (by first | decide | assumption) (by omega) (by omega) (fun r190 s190 => ?_)
                        try simp only [uz_oo (show (32 : Nat) ≠ 34 by decide), uz_oo (show (32 : Nat) ≠ 35 by decide), uz_s] at r190 s190 ⊢
                        refine Z_iconst (n := 192) dX4_gate_191 rfl (by decide) ?_
                        refine Z_isub (n := 193) dX4_gate_192 rfl (by omega) ?_
                        refine Z_iret dX4_gate_193 rfl ?_
                        exact ⟨rfl, Or.inr (Or.inr (Or.inr ⟨by omega, by omega, by omega, by omega, by omega, Or.inr ⟨by omega, Or.inr ⟨by omega, by omega, rfl⟩⟩⟩))⟩
                      · refine Z_bipush (n := 117) dX4_gate_115 rfl (by decide) (by decide) ?_
                        refine Z_iret dX4_gate_117 rfl ?_
                        exact ⟨rfl, Or.inr (Or.inr (Or.inr ⟨by omega, by omega, by omega, by omega, by omega, Or.inr ⟨by omega, Or.inl ⟨rfl, rfl, by omega⟩⟩⟩))⟩
                    · refine Z_iload_n (n := 92) dX4_gate_91 rfl rfl ?_
                      refine Z_iconst (n := 93) dX4_gate_92 rfl (by decide) ?_
                      refine Z_bipush (n := 95) dX4_gate_93 rfl (by decide) (by decide) ?_
                      refine Z_callSi (n := 98) [_, _, _] _ dX4_gate_95 rfl cwX4_112 rfl rfl (Nat.le_of_ble_eq_true rfl) (by refine ⟨?_, ?_, ?_, ?_⟩ <;> exact Nat.le_of_ble_eq_true rfl) (fun _ _ => trivial) (zX4_in  ) ?_
                      intro x95 M95 J95 z95 f95 q95
                      obtain ⟨e95_1, e95_2, h95⟩ := q95
                      replace e95_1 := e95_1.symm; subst e95_1
                      replace e95_2 := e95_2.symm; subst e95_2
                      refine Z_if_ne (n := 101) (t := 104) dX4_gate_98 rfl (by decide) (fun c98 => ?_) (fun c98 => ?_)
                      · refine Z_aload_n (n := 105) dX4_gate_104 rfl rfl ?_
                        refine Z_getA (n := 108) dX4_gate_105 rfl ffX4_7 rfl rfl ?_
                        refine Z_iload_n (n := 109) dX4_gate_108 rfl rfl ?_
                        refine Z_iald (n := 110) dX4_gate_109 rfl rfl rfl (by first | decide | assumption) (by omega) (by omega) (fun r109 s109 => ?_)
                        try simp only [uz_oo (show (32 : Nat) ≠ 34 by decide), uz_oo (show (32 : Nat) ≠ 35 by decide), uz_s] at r109 s109 ⊢
                        refine Z_bipush (n := 112) dX4_gate_110 rfl (by decide) (by decide) ?_
                        refine Z_icmp_ne (n := 115) (t := 118) dX4_gate_112 rfl (by decide) (fun c112 => ?_) (fun c112 => ?_)
                        · refine Z_bipush (n := 120) dX4_gate_118 rfl (by decide) (by decide) ?_
                          refine Z_iload_n (n := 121) dX4_gate_120 rfl rfl ?_
                          refine Z_imul (n := 122) dX4_gate_121 rfl (by omega) ?_
                          refine Z_aload_n (n := 123) dX4_gate_122 rfl rfl ?_
                          refine Z_getA (n := 126) dX4_gate_123 rfl ffX4_7 rfl rfl ?_
                          refine Z_iload_n (n := 127) dX4_gate_126 rfl rfl ?_
                          refine Z_iald (n := 128) dX4_gate_127 rfl rfl rfl (by first | decide | assumption) (by omega) (by omega) (fun r127 s127 => ?_)
                          try simp only [uz_oo (show (32 : Nat) ≠ 34 by decide), uz_oo (show (32 : Nat) ≠ 35 by decide), uz_s] at r127 s127 ⊢
                          refine Z_iadd (n := 129) dX4_gate_128 rfl (by omega) ?_
                          refine Z_istore (L' := [_, _, _, _, _, _, _, _]) (n := 131) dX4_gate_129 rfl (by decide) rfl rfl ?_
                          refine Z_aload_n (n := 132) dX4_gate_131 rfl rfl ?_
                          refine Z_getA (n := 135) dX4_gate_132 rfl ffX4_16 rfl rfl ?_
                          refine Z_iload (n := 137) dX4_gate_135 rfl rfl ?_
                          refine Z_iload_n (n := 138) dX4_gate_137 rfl rfl ?_
                          refine Z_iast (n := 139) dX4_gate_138 rfl rfl rfl (by first | decide | assumption) (by omega) (by omega) (by first | assumption | omega | decide) (by first | assumption | omega | decide) (by exact fun h => h) ?_
                          refine Z_aload_n (n := 140) dX4_gate_139 rfl rfl ?_
                          refine Z_getA (n := 143) dX4_gate_140 rfl ffX4_19 rfl rfl ?_
                          refine Z_iconst (n := 144) dX4_gate_143 rfl (by decide) ?_
                          refine Z_iload (n := 146) dX4_gate_144 rfl rfl ?_
                          refine Z_imul (n := 147) dX4_gate_146 rfl (by omega) ?_
                          refine Z_iload_n (n := 148) dX4_gate_147 rfl rfl ?_
                          refine Z_iast (n := 149) dX4_gate_148 rfl rfl rfl (by first | decide | assumption) (by omega) (by omega) (by first | exact (show zI u from hav (vI u) (by simp)).1 | exact (show zI u from hav (vI u) (by simp)).2) (by first | exact (show zI u from hav (vI u) (by simp)).1 | exact (show zI u from hav (vI u) (by simp)).2) (by exact fun h => h) ?_
                          refine Z_aload_n (n := 150) dX4_gate_149 rfl rfl ?_
                          refine Z_getA (n := 153) dX4_gate_150 rfl ffX4_19 rfl rfl ?_
                          refine Z_iconst (n := 154) dX4_gate_153 rfl (by decide) ?_
                          refine Z_iload (n := 156) dX4_gate_154 rfl rfl ?_
                          refine Z_imul (n := 157) dX4_gate_156 rfl (by omega) ?_
                          refine Z_iconst (n := 158) dX4_gate_157 rfl (by decide) ?_
                          refine Z_iadd (n := 159) dX4_gate_158 rfl (by omega) ?_
                          refine Z_iload (n := 161) dX4_gate_159 rfl rfl ?_
                          refine Z_iast (n := 162) dX4_gate_161 rfl rfl rfl (by first | decide | assumption) (by omega) (by omega) (by first | exact (show zI v from hav (vI v) (by simp)).1 | exact (show zI v from hav (vI v) (by simp)).2) (by first | exact (show zI v from hav (vI v) (by simp)).1 | exact (show zI v from hav (vI v) (by simp)).2) (by exact fun h => h) ?_
                          refine Z_aload_n (n := 163) dX4_gate_162 rfl rfl ?_
                          refine Z_getA (n := 166) dX4_gate_163 rfl ffX4_19 rfl rfl ?_
                          refine Z_iconst (n := 167) dX4_gate_166 rfl (by decide) ?_
                          refine Z_iload (n := 169) dX4_gate_167 rfl rfl ?_
                          refine Z_imul (n := 170) dX4_gate_169 rfl (by omega) ?_
                          refine Z_iconst (n := 171) dX4_gate_170 rfl (by decide) ?_
                          refine Z_iadd (n := 172) dX4_gate_171 rfl (by omega) ?_
                          refine Z_iload (n := 174) dX4_gate_172 rfl rfl ?_
                          refine Z_iast (n := 175) dX4_gate_174 rfl rfl rfl (by first | decide | assumption) (by omega) (by omega) (by first | exact (show zI w from hav (vI w) (by simp)).1 | exact (show zI w from hav (vI w) (by simp)).2) (by first | exact (show zI w from hav (vI w) (by simp)).1 | exact (show zI w from hav (vI w) (by simp)).2) (by exact fun h => h) ?_
                          refine Z_aload_n (n := 176) dX4_gate_175 rfl rfl ?_
                          refine Z_getA (n := 179) dX4_gate_176 rfl ffX4_7 rfl rfl ?_
                          refine Z_iload_n (n := 180) dX4_gate_179 rfl rfl ?_
                          refine Z_dup2 (n := 181) dX4_gate_180 rfl rfl rfl ?_
                          refine Z_iald (n := 182) dX4_gate_181 rfl rfl rfl (by first | decide | assumption) (by omega) (by omega) (fun r181 s181 => ?_)
                          try simp only [uz_oo (show (32 : Nat) ≠ 34 by decide), uz_oo (show (32 : Nat) ≠ 35 by decide), uz_s] at r181 s181 ⊢
                          refine Z_iconst (n := 183) dX4_gate_182 rfl (by decide) ?_
                          refine Z_iadd (n := 184) dX4_gate_183 rfl (by omega) ?_
                          refine Z_iast (n := 185) dX4_gate_184 rfl rfl rfl (by first | decide | assumption) (by omega) (by omega) (by first | assumption | omega | decide) (by first | assumption | omega | decide) (by exact fun h => h) ?_
                          refine Z_aload_n (n := 186) dX4_gate_185 rfl rfl ?_
                          refine Z_getA (n := 189) dX4_gate_186 rfl ffX4_7 rfl rfl ?_
                          refine Z_iload_n (n := 190) dX4_gate_189 rfl rfl ?_
                          refine Z_iald (n := 191) dX4_gate_190 rfl rfl rfl (by first | decide | assumption) (by omega) (by omega) (fun r190 s190 => ?_)
                          try simp only [uz_oo (show (32 : Nat) ≠ 34 by decide), uz_oo (show (32 : Nat) ≠ 35 by decide), uz_s] at r190 s190 ⊢
                          refine Z_iconst (n := 192) dX4_gate_191 rfl (by decide) ?_
                          refine Z_isub (n := 193) dX4_gate_192 rfl (by omega) ?_
                          refine Z_iret dX4_gate_193 rfl ?_
                          exact ⟨rfl, Or.inr (Or.inr (Or.inr ⟨by omega, by omega, by omega, by omega, by omega, Or.inr ⟨by omega, Or.inr ⟨by omega, by omega, rfl⟩⟩⟩))⟩
                        · refine Z_bipush (n := 117) dX4_gate_115 rfl (by decide) (by decide) ?_
                          refine Z_iret dX4_gate_117 rfl ?_
                          exact ⟨rfl, Or.inr (Or.inr (Or.inr ⟨by omega, by omega, by omega, by omega, by omega, Or.inr ⟨by omega, Or.inl ⟨rfl, rfl, by omega⟩⟩⟩))⟩
                      · refine Z_bipush (n := 103) dX4_gate_101 rfl (by decide) (by decide) ?_
                        refine Z_iret dX4_gate_103 rfl ?_
                        first | exact ⟨rfl, Or.inr (Or.inl ⟨by omega, by omega, by omega, rfl, rfl⟩)⟩ | exact ⟨rfl, Or.inr (Or.inr (Or.inr ⟨by omega, by omega, by omega, by omega, by omega, Or.inl ⟨by omega, by omega, rfl, rfl⟩⟩))⟩
                · refine Z_iconst (n := 76) dX4_gate_75 rfl (by decide) ?_
                  refine Z_iret dX4_gate_76 rfl ?_
                  exact ⟨rfl, Or.inr (Or.inr (Or.inl ⟨by omega, by omega, by omega, by omega, by omega, rfl, rfl⟩))⟩
    refine Z_iload_n (n := 10) dX4_gate_9 rfl rfl ?_
    refine Z_iconst (n := 11) dX4_gate_10 rfl (by decide) ?_
    refine Z_bipush (n := 13) dX4_gate_11 rfl (by decide) (by decide) ?_
    refine Z_callSi (n := 16) [_, _, _] _ dX4_gate_13 rfl cwX4_112 rfl rfl (Nat.le_of_ble_eq_true rfl) (by refine ⟨?_, ?_, ?_, ?_⟩ <;> exact Nat.le_of_ble_eq_true rfl) (fun _ _ => trivial) (zX4_in  ) ?_
    intro x13 M13 J13 z13 f13 q13
    obtain ⟨e13_1, e13_2, h13⟩ := q13
    replace e13_1 := e13_1.symm; subst e13_1
    replace e13_2 := e13_2.symm; subst e13_2
    refine Z_if_eq (n := 19) (t := 26) dX4_gate_16 rfl (by decide) (fun c16 => ?_) (fun c16 => ?_)
    · refine Z_iconst (n := 27) dX4_gate_26 rfl (by decide) ?_
      refine Z_istore (L' := [_, _, _, _, _, _, _, _]) (n := 29) dX4_gate_27 rfl (by decide) rfl rfl ?_
      refine Z_loc (L' := [some _, some _, some _, some _, some _, some _, some _, none]) (lsub_same (lsub_same (lsub_same (lsub_same (lsub_same (lsub_same (lsub_same (lsub_none lsub_nil)))))))) ?_
      exact ct29 _  (by first | assumption | omega | decide) (by first | assumption | omega | decide) (by first | exact Or.inl ⟨by omega, by omega, h20⟩ | exact Or.inr ⟨by omega, rfl⟩)
    · refine Z_iload_n (n := 20) dX4_gate_19 rfl rfl ?_
      refine Z_callSi (n := 23) [_] _ dX4_gate_20 rfl cwX4_120 rfl rfl (Nat.le_of_ble_eq_true rfl) (by refine ⟨?_, ?_, ?_, ?_⟩ <;> exact Nat.le_of_ble_eq_true rfl) (fun _ _ => trivial) (zX4_wants  ) ?_
      intro x20 M20 J20 z20 f20 q20
      obtain ⟨e20_1, e20_2, h20⟩ := q20
      replace e20_1 := e20_1.symm; subst e20_1
      replace e20_2 := e20_2.symm; subst e20_2
      refine Z_goto (t := 27) dX4_gate_23 (by decide) ?_
      refine Z_istore (L' := [_, _, _, _, _, _, _, _]) (n := 29) dX4_gate_27 rfl (by decide) rfl rfl ?_
      refine Z_loc (L' := [some _, some _, some _, some _, some _, some _, some _, none]) (lsub_same (lsub_same (lsub_same (lsub_same (lsub_same (lsub_same (lsub_same (lsub_none lsub_nil)))))))) ?_
      exact ct29 _  (by first | assumption | omega | decide) (by first | assumption | omega | decide) (by first | exact Or.inl ⟨by omega, by omega, h20⟩ | exact Or.inr ⟨by omega, rfl⟩)
  · refine Z_iconst (n := 8) dX4_gate_7 rfl (by decide) ?_
    refine Z_iret dX4_gate_8 rfl ?_
    exact ⟨rfl, Or.inl ⟨by omega, rfl, rfl⟩⟩
set_option maxRecDepth 20000 in
theorem zX4_output {G : tl_G} {M : zM} {J : zJ} {net g : Int}  : ZN G yX4_output mX4_output 2 kF [vR 31, vI net, vI g] F1 M J (qI (fun x M' J' => J' = J ∧ (((net < 0 ∨ 3 ≤ net) ∧ x = -1 ∧ M' = M) ∨ (0 ≤ net ∧ net < 3 ∧ (g < 0 ∨ M 32 net ≤ g) ∧ x = -1 ∧ M' = M) ∨ (0 ≤ net ∧ net < 3 ∧ 0 ≤ g ∧ g < M 32 net ∧ ((x = -4 ∧ M' = M ∧ 4 ≤ M 33 net) ∨ (x = M 33 net ∧ M 33 net < 4 ∧ M' = uz (uz M 36 (4 * net + M 33 net) g) 33 net (M 33 net + 1))))))) := by
  refine ZN_of (L := [_, _, _]) (by decide) rfl rfl (Nat.le_of_ble_eq_true rfl) rfl (fun hav => ?_)
  refine Z_iload_n (n := 1) dX4_output_0 rfl rfl ?_
  refine Z_callSi (n := 4) [_] _ dX4_output_1 rfl cwX4_116 rfl rfl (Nat.le_of_ble_eq_true rfl) (by refine ⟨?_, ?_, ?_, ?_⟩ <;> exact Nat.le_of_ble_eq_true rfl) (fun _ _ => trivial) (zX4_isNet  ) ?_
  intro x1 M1 J1 z1 f1 q1
  obtain ⟨e1_1, e1_2, h1⟩ := q1
  replace e1_1 := e1_1.symm; subst e1_1
  replace e1_2 := e1_2.symm; subst e1_2
  refine Z_if_eq (n := 7) (t := 16) dX4_output_4 rfl (by decide) (fun c4 => ?_) (fun c4 => ?_)
  · refine Z_iconst (n := 17) dX4_output_16 rfl (by decide) ?_
    refine Z_iret dX4_output_17 rfl ?_
    first | exact ⟨rfl, Or.inl ⟨by omega, rfl, rfl⟩⟩ | exact ⟨rfl, Or.inr (Or.inl ⟨by omega, by omega, by omega, rfl, rfl⟩)⟩
  · refine Z_aload_n (n := 8) dX4_output_7 rfl rfl ?_
    refine Z_iload_n (n := 9) dX4_output_8 rfl rfl ?_
    refine Z_iload_n (n := 10) dX4_output_9 rfl rfl ?_
    refine Z_callVi (n := 13) [_, _] _ dX4_output_10 rfl cwX4_124 rfl rfl rfl (Nat.le_of_ble_eq_true rfl) (by refine ⟨?_, ?_, ?_, ?_⟩ <;> exact Nat.le_of_ble_eq_true rfl) (fun _ _ => trivial) (zX4_isGate  (by first | assumption | omega | decide) (by first | assumption | omega | decide)) ?_
    intro x10 M10 J10 z10 f10 q10
    obtain ⟨e10_1, e10_2, h10⟩ := q10
    replace e10_1 := e10_1.symm; subst e10_1
    replace e10_2 := e10_2.symm; subst e10_2
    refine Z_if_ne (n := 16) (t := 18) dX4_output_13 rfl (by decide) (fun c13 => ?_) (fun c13 => ?_)
    · refine Z_aload_n (n := 19) dX4_output_18 rfl rfl ?_
      refine Z_getA (n := 22) dX4_output_19 rfl ffX4_13 rfl rfl ?_
      refine Z_iload_n (n := 23) dX4_output_22 rfl rfl ?_
      refine Z_iald (n := 24) dX4_output_23 rfl rfl rfl (by first | decide | assumption) (by omega) (by omega) (fun r23 s23 => ?_)
      try simp only [uz_oo (show (33 : Nat) ≠ 36 by decide), uz_s] at r23 s23 ⊢
      refine Z_iconst (n := 25) dX4_output_24 rfl (by decide) ?_
      refine Z_icmp_ne (n := 28) (t := 31) dX4_output_25 rfl (by decide) (fun c25 => ?_) (fun c25 => ?_)
      · refine Z_aload_n (n := 32) dX4_output_31 rfl rfl ?_
        refine Z_getA (n := 35) dX4_output_32 rfl ffX4_22 rfl rfl ?_
        refine Z_iconst (n := 36) dX4_output_35 rfl (by decide) ?_
        refine Z_iload_n (n := 37) dX4_output_36 rfl rfl ?_
        refine Z_imul (n := 38) dX4_output_37 rfl (by omega) ?_
        refine Z_aload_n (n := 39) dX4_output_38 rfl rfl ?_
        refine Z_getA (n := 42) dX4_output_39 rfl ffX4_13 rfl rfl ?_
        refine Z_iload_n (n := 43) dX4_output_42 rfl rfl ?_
        refine Z_iald (n := 44) dX4_output_43 rfl rfl rfl (by first | decide | assumption) (by omega) (by omega) (fun r43 s43 => ?_)
        try simp only [uz_oo (show (33 : Nat) ≠ 36 by decide), uz_s] at r43 s43 ⊢
        refine Z_iadd (n := 45) dX4_output_44 rfl (by omega) ?_
        refine Z_iload_n (n := 46) dX4_output_45 rfl rfl ?_
        refine Z_rg 32 net rfl (fun g4 g4b => ?_)
        refine Z_iast (n := 47) dX4_output_46 rfl rfl rfl (by first | decide | assumption) (by omega) (by omega) (by first | assumption | omega | decide) (by first | assumption | omega | decide) (by exact fun h => h) ?_
        refine Z_aload_n (n := 48) dX4_output_47 rfl rfl ?_
        refine Z_getA (n := 51) dX4_output_48 rfl ffX4_13 rfl rfl ?_
        refine Z_iload_n (n := 52) dX4_output_51 rfl rfl ?_
        refine Z_dup2 (n := 53) dX4_output_52 rfl rfl rfl ?_
        refine Z_iald (n := 54) dX4_output_53 rfl rfl rfl (by first | decide | assumption) (by omega) (by omega) (fun r53 s53 => ?_)
        try simp only [uz_oo (show (33 : Nat) ≠ 36 by decide), uz_s] at r53 s53 ⊢
        refine Z_iconst (n := 55) dX4_output_54 rfl (by decide) ?_
        refine Z_iadd (n := 56) dX4_output_55 rfl (by omega) ?_
        refine Z_iast (n := 57) dX4_output_56 rfl rfl rfl (by first | decide | assumption) (by omega) (by omega) (by first | assumption | omega | decide) (by first | assumption | omega | decide) (by exact fun h => h) ?_
        refine Z_aload_n (n := 58) dX4_output_57 rfl rfl ?_
        refine Z_getA (n := 61) dX4_output_58 rfl ffX4_13 rfl rfl ?_
        refine Z_iload_n (n := 62) dX4_output_61 rfl rfl ?_
        refine Z_iald (n := 63) dX4_output_62 rfl rfl rfl (by first | decide | assumption) (by omega) (by omega) (fun r62 s62 => ?_)
        try simp only [uz_oo (show (33 : Nat) ≠ 36 by decide), uz_s] at r62 s62 ⊢
        refine Z_iconst (n := 64) dX4_output_63 rfl (by decide) ?_
        refine Z_isub (n := 65) dX4_output_64 rfl (by omega) ?_
        refine Z_iret dX4_output_65 rfl ?_
        exact ⟨rfl, Or.inr (Or.inr ⟨by omega, by omega, by omega, by omega, Or.inr ⟨by omega, by omega, rfl⟩⟩)⟩
      · refine Z_bipush (n := 30) dX4_output_28 rfl (by decide) (by decide) ?_
        refine Z_iret dX4_output_30 rfl ?_
        exact ⟨rfl, Or.inr (Or.inr ⟨by omega, by omega, by omega, by omega, Or.inl ⟨rfl, rfl, by omega⟩⟩)⟩
    · refine Z_iconst (n := 17) dX4_output_16 rfl (by decide) ?_
      refine Z_iret dX4_output_17 rfl ?_
      first | exact ⟨rfl, Or.inl ⟨by omega, rfl, rfl⟩⟩ | exact ⟨rfl, Or.inr (Or.inl ⟨by omega, by omega, by omega, rfl, rfl⟩)⟩
set_option maxRecDepth 20000 in
theorem zX4_clear {G : tl_G} {M : zM} {J : zJ} {net : Int}  : ZN G yX4_clear mX4_clear 2 kF [vR 31, vI net] F1 M J (qI (fun x M' J' => J' = J ∧ (((net < 0 ∨ 3 ≤ net) ∧ x = -1 ∧ M' = M) ∨ (0 ≤ net ∧ net < 3 ∧ x = M 32 net ∧ M' = uz (uz M 32 net 0) 33 net 0)))) := by
  refine ZN_of (L := [_, _, _]) (by decide) rfl rfl (Nat.le_of_ble_eq_true rfl) rfl (fun hav => ?_)
  refine Z_iload_n (n := 1) dX4_clear_0 rfl rfl ?_
  refine Z_callSi (n := 4) [_] _ dX4_clear_1 rfl cwX4_116 rfl rfl (Nat.le_of_ble_eq_true rfl) (by refine ⟨?_, ?_, ?_, ?_⟩ <;> exact Nat.le_of_ble_eq_true rfl) (fun _ _ => trivial) (zX4_isNet  ) ?_
  intro x1 M1 J1 z1 f1 q1
  obtain ⟨e1_1, e1_2, h1⟩ := q1
  replace e1_1 := e1_1.symm; subst e1_1
  replace e1_2 := e1_2.symm; subst e1_2
  refine Z_if_ne (n := 7) (t := 9) dX4_clear_4 rfl (by decide) (fun c4 => ?_) (fun c4 => ?_)
  · refine Z_aload_n (n := 10) dX4_clear_9 rfl rfl ?_
    refine Z_getA (n := 13) dX4_clear_10 rfl ffX4_7 rfl rfl ?_
    refine Z_iload_n (n := 14) dX4_clear_13 rfl rfl ?_
    refine Z_iald (n := 15) dX4_clear_14 rfl rfl rfl (by first | decide | assumption) (by omega) (by omega) (fun r14 s14 => ?_)
    refine Z_istore_n (L' := [_, _, _]) (n := 16) dX4_clear_15 rfl (by decide) rfl rfl ?_
    refine Z_aload_n (n := 17) dX4_clear_16 rfl rfl ?_
    refine Z_getA (n := 20) dX4_clear_17 rfl ffX4_7 rfl rfl ?_
    refine Z_iload_n (n := 21) dX4_clear_20 rfl rfl ?_
    refine Z_iconst (n := 22) dX4_clear_21 rfl (by decide) ?_
    refine Z_iast (n := 23) dX4_clear_22 rfl rfl rfl (by first | decide | assumption) (by omega) (by omega) (by first | assumption | omega | decide) (by first | assumption | omega | decide) (by exact fun h => h) ?_
    refine Z_aload_n (n := 24) dX4_clear_23 rfl rfl ?_
    refine Z_getA (n := 27) dX4_clear_24 rfl ffX4_13 rfl rfl ?_
    refine Z_iload_n (n := 28) dX4_clear_27 rfl rfl ?_
    refine Z_iconst (n := 29) dX4_clear_28 rfl (by decide) ?_
    refine Z_iast (n := 30) dX4_clear_29 rfl rfl rfl (by first | decide | assumption) (by omega) (by omega) (by first | assumption | omega | decide) (by first | assumption | omega | decide) (by exact fun h => h) ?_
    refine Z_iload_n (n := 31) dX4_clear_30 rfl rfl ?_
    refine Z_iret dX4_clear_31 rfl ?_
    exact ⟨rfl, Or.inr ⟨by omega, by omega, rfl, rfl⟩⟩
  · refine Z_iconst (n := 8) dX4_clear_7 rfl (by decide) ?_
    refine Z_iret dX4_clear_8 rfl ?_
    exact ⟨rfl, Or.inl ⟨by omega, rfl, rfl⟩⟩
set_option maxRecDepth 20000 in
theorem zX4_at {G : tl_G} {M : zM} {J : zJ} {p : Int}  : ZN G yX4_at mX4_at 1 kAll [vR 31, vI p] F1 M J (qI (fun x M' J' => M' = M ∧ J' = J ∧ (((p < 0 ∨ 8 ≤ p) ∧ x = -2) ∨ (0 ≤ p ∧ p < 8 ∧ x = M 38 p)))) := by
  refine ZN_of (L := [_, _]) (by decide) rfl rfl (Nat.le_of_ble_eq_true rfl) rfl (fun hav => ?_)
  refine Z_iload_n (n := 1) dX4_at_0 rfl rfl ?_
  refine Z_iconst (n := 2) dX4_at_1 rfl (by decide) ?_
  refine Z_bipush (n := 4) dX4_at_2 rfl (by decide) (by decide) ?_
  refine Z_callSi (n := 7) [_, _, _] _ dX4_at_4 rfl cwX4_112 rfl rfl (Nat.le_of_ble_eq_true rfl) (by refine ⟨?_, ?_, ?_, ?_⟩ <;> exact Nat.le_of_ble_eq_true rfl) (fun _ h => h) (zX4_in  ) ?_
  intro x4 M4 J4 z4 f4 q4
  obtain ⟨e4_1, e4_2, h4⟩ := q4
  replace e4_1 := e4_1.symm; subst e4_1
  replace e4_2 := e4_2.symm; subst e4_2
  refine Z_if_eq (n := 10) (t := 19) dX4_at_7 rfl (by decide) (fun c7 => ?_) (fun c7 => ?_)
  · refine Z_bipush (n := 21) dX4_at_19 rfl (by decide) (by decide) ?_
    refine Z_iret dX4_at_21 rfl ?_
    refine ⟨rfl, rfl, ?_⟩; omega
  · refine Z_aload_n (n := 11) dX4_at_10 rfl rfl ?_
    refine Z_getA (n := 14) dX4_at_11 rfl ffX4_29 rfl rfl ?_
    refine Z_iload_n (n := 15) dX4_at_14 rfl rfl ?_
    refine Z_iald (n := 16) dX4_at_15 rfl rfl rfl (by first | decide | assumption) (by omega) (by omega) (fun r15 s15 => ?_)
    refine Z_goto (t := 21) dX4_at_16 (by decide) ?_
    refine Z_iret dX4_at_21 rfl ?_
    refine ⟨rfl, rfl, ?_⟩; omega
set_option maxRecDepth 20000 in
theorem zX4_room {G : tl_G} {M : zM} {J : zJ} {n : Int}  : ZN G yX4_room mX4_room 1 kF [vR 31, vI n] F1 M J (qI (fun x M' J' => J' = J ∧ (((n < 0 ∨ 250 < n) ∧ x = -2 ∧ M' = M) ∨ (0 ≤ n ∧ n ≤ 250 ∧ n < M 31 24 ∧ x = -3 ∧ M' = M) ∨ (0 ≤ n ∧ n ≤ 250 ∧ M 31 24 ≤ n ∧ x = M 31 8 ∧ M' = uz M 31 8 n)))) := by
  refine ZN_of (L := [_, _, _]) (by decide) rfl rfl (Nat.le_of_ble_eq_true rfl) rfl (fun hav => ?_)
  refine Z_iload_n (n := 1) dX4_room_0 rfl rfl ?_
  refine Z_iconst (n := 2) dX4_room_1 rfl (by decide) ?_
  refine Z_sipush (n := 5) dX4_room_2 rfl (by decide) (by decide) ?_
  refine Z_callSi (n := 8) [_, _, _] _ dX4_room_5 rfl cwX4_112 rfl rfl (Nat.le_of_ble_eq_true rfl) (by refine ⟨?_, ?_, ?_, ?_⟩ <;> exact Nat.le_of_ble_eq_true rfl) (fun _ _ => trivial) (zX4_in  ) ?_
  intro x5 M5 J5 z5 f5 q5
  obtain ⟨e5_1, e5_2, h5⟩ := q5
  replace e5_1 := e5_1.symm; subst e5_1
  replace e5_2 := e5_2.symm; subst e5_2
  refine Z_if_ne (n := 11) (t := 14) dX4_room_8 rfl (by decide) (fun c8 => ?_) (fun c8 => ?_)
  · refine Z_aload_n (n := 15) dX4_room_14 rfl rfl ?_
    refine Z_getI (n := 18) (ki := 24) dX4_room_15 rfl ffX4_149 rfl rfl rfl (fun r15 s15 => ?_)
    refine Z_iload_n (n := 19) dX4_room_18 rfl rfl ?_
    refine Z_icmp_le (n := 22) (t := 25) dX4_room_19 rfl (by decide) (fun c19 => ?_) (fun c19 => ?_)
    · refine Z_aload_n (n := 26) dX4_room_25 rfl rfl ?_
      refine Z_getI (n := 29) (ki := 8) dX4_room_26 rfl ffX4_102 rfl rfl rfl (fun r26 s26 => ?_)
      refine Z_istore_n (L' := [_, _, _]) (n := 30) dX4_room_29 rfl (by decide) rfl rfl ?_
      refine Z_aload_n (n := 31) dX4_room_30 rfl rfl ?_
      refine Z_iload_n (n := 32) dX4_room_31 rfl rfl ?_
      refine Z_putI (n := 35) (ki := 8) dX4_room_32 rfl ffX4_102 rfl (by decide) rfl rfl (by first | assumption | omega | decide) (by first | assumption | omega | decide) (by exact fun h => h) ?_
      refine Z_iload_n (n := 36) dX4_room_35 rfl rfl ?_
      refine Z_iret dX4_room_36 rfl ?_
      exact ⟨rfl, Or.inr (Or.inr ⟨by omega, by omega, by omega, rfl, rfl⟩)⟩
    · refine Z_bipush (n := 24) dX4_room_22 rfl (by decide) (by decide) ?_
      refine Z_iret dX4_room_24 rfl ?_
      exact ⟨rfl, Or.inr (Or.inl ⟨by omega, by omega, by omega, rfl, rfl⟩)⟩
  · refine Z_bipush (n := 13) dX4_room_11 rfl (by decide) (by decide) ?_
    refine Z_iret dX4_room_13 rfl ?_
    exact ⟨rfl, Or.inl ⟨by omega, rfl, rfl⟩⟩
set_option maxRecDepth 20000 in
theorem zX4_noHalf {G : tl_G} {M : zM} {J : zJ} {h f v : Int}  : ZN G yX4_noHalf mX4_noHalf 3 kAll [vR 31, vI h, vI f, vI v] F1 M J (qI (fun x M' J' => M' = M ∧ J' = J ∧ (((h < 0 ∨ 12 ≤ h ∨ f < 0 ∨ 12 ≤ f ∨ M 43 f = 0) ∧ x = -1) ∨ (0 ≤ h ∧ h < 12 ∧ 0 ≤ f ∧ f < 12 ∧ ¬ M 43 f = 0 ∧ ((0 ≤ v ∧ v < 8 ∧ x = 0) ∨ ((v < 0 ∨ 8 ≤ v) ∧ x = -2)))))) := by
  refine ZN_of (L := [_, _, _, _]) (by decide) rfl rfl (Nat.le_of_ble_eq_true rfl) rfl (fun hav => ?_)
  refine Z_iload_n (n := 1) dX4_noHalf_0 rfl rfl ?_
  refine Z_callSi (n := 4) [_] _ dX4_noHalf_1 rfl cwX4_210 rfl rfl (Nat.le_of_ble_eq_true rfl) (by refine ⟨?_, ?_, ?_, ?_⟩ <;> exact Nat.le_of_ble_eq_true rfl) (fun _ h => h) (zX4_isHandle  ) ?_
  intro x1 M1 J1 z1 f1 q1
  obtain ⟨e1_1, e1_2, h1⟩ := q1
  replace e1_1 := e1_1.symm; subst e1_1
  replace e1_2 := e1_2.symm; subst e1_2
  refine Z_if_eq (n := 7) (t := 15) dX4_noHalf_4 rfl (by decide) (fun c4 => ?_) (fun c4 => ?_)
  · refine Z_iconst (n := 16) dX4_noHalf_15 rfl (by decide) ?_
    refine Z_goto (t := 35) dX4_noHalf_16 (by decide) ?_
    refine Z_iret dX4_noHalf_35 rfl ?_
    refine ⟨rfl, rfl, ?_⟩; omega
  · refine Z_aload_n (n := 8) dX4_noHalf_7 rfl rfl ?_
    refine Z_iload_n (n := 9) dX4_noHalf_8 rfl rfl ?_
    refine Z_callVi (n := 12) [_] _ dX4_noHalf_9 rfl cwX4_223 rfl rfl rfl (Nat.le_of_ble_eq_true rfl) (by refine ⟨?_, ?_, ?_, ?_⟩ <;> exact Nat.le_of_ble_eq_true rfl) (fun _ h => h) (zX4_isFunction  ) ?_
    intro x9 M9 J9 z9 f9 q9
    obtain ⟨e9_1, e9_2, h9⟩ := q9
    replace e9_1 := e9_1.symm; subst e9_1
    replace e9_2 := e9_2.symm; subst e9_2
    refine Z_if_ne (n := 15) (t := 19) dX4_noHalf_12 rfl (by decide) (fun c12 => ?_) (fun c12 => ?_)
    · refine Z_iload_n (n := 20) dX4_noHalf_19 rfl rfl ?_
      refine Z_iconst (n := 21) dX4_noHalf_20 rfl (by decide) ?_
      refine Z_bipush (n := 23) dX4_noHalf_21 rfl (by decide) (by decide) ?_
      refine Z_callSi (n := 26) [_, _, _] _ dX4_noHalf_23 rfl cwX4_112 rfl rfl (Nat.le_of_ble_eq_true rfl) (by refine ⟨?_, ?_, ?_, ?_⟩ <;> exact Nat.le_of_ble_eq_true rfl) (fun _ h => h) (zX4_in  ) ?_
      intro x23 M23 J23 z23 f23 q23
      obtain ⟨e23_1, e23_2, h23⟩ := q23
      replace e23_1 := e23_1.symm; subst e23_1
      replace e23_2 := e23_2.symm; subst e23_2
      refine Z_if_eq (n := 29) (t := 33) dX4_noHalf_26 rfl (by decide) (fun c26 => ?_) (fun c26 => ?_)
      · refine Z_bipush (n := 35) dX4_noHalf_33 rfl (by decide) (by decide) ?_
        refine Z_iret dX4_noHalf_35 rfl ?_
        refine ⟨rfl, rfl, ?_⟩; omega
      · refine Z_iconst (n := 30) dX4_noHalf_29 rfl (by decide) ?_
        refine Z_goto (t := 35) dX4_noHalf_30 (by decide) ?_
        refine Z_iret dX4_noHalf_35 rfl ?_
        refine ⟨rfl, rfl, ?_⟩; omega
    · refine Z_iconst (n := 16) dX4_noHalf_15 rfl (by decide) ?_
      refine Z_goto (t := 35) dX4_noHalf_16 (by decide) ?_
      refine Z_iret dX4_noHalf_35 rfl ?_
      refine ⟨rfl, rfl, ?_⟩; omega
set_option maxRecDepth 20000 in
theorem zX4_parting {G : tl_G} {M : zM} {J : zJ} {w : Int}  : ZN G yX4_parting mX4_parting 0 kAll [vR 31, vI w] F1 M J (qI (fun x M' J' => M' = M ∧ J' = J ∧ ((w = 0 ∧ x = M 31 33) ∨ (w = 1 ∧ x = M 31 34) ∨ ((w < 0 ∨ 1 < w) ∧ x = -2)))) := by
  refine ZN_of (L := [_, _]) (by decide) rfl rfl (Nat.le_of_ble_eq_true rfl) rfl (fun hav => ?_)
  refine Z_iload_n (n := 1) dX4_parting_0 rfl rfl ?_
  refine Z_if_ne (n := 4) (t := 11) dX4_parting_1 rfl (by decide) (fun c1 => ?_) (fun c1 => ?_)
  · refine Z_iload_n (n := 12) dX4_parting_11 rfl rfl ?_
    refine Z_iconst (n := 13) dX4_parting_12 rfl (by decide) ?_
    refine Z_icmp_ne (n := 16) (t := 23) dX4_parting_13 rfl (by decide) (fun c13 => ?_) (fun c13 => ?_)
    · refine Z_bipush (n := 25) dX4_parting_23 rfl (by decide) (by decide) ?_
      refine Z_iret dX4_parting_25 rfl ?_
      refine ⟨rfl, rfl, ?_⟩; omega
    · refine Z_aload_n (n := 17) dX4_parting_16 rfl rfl ?_
      refine Z_getI (n := 20) (ki := 34) dX4_parting_17 rfl ffX4_109 rfl rfl rfl (fun r17 s17 => ?_)
      refine Z_goto (t := 25) dX4_parting_20 (by decide) ?_
      refine Z_iret dX4_parting_25 rfl ?_
      refine ⟨rfl, rfl, ?_⟩; omega
  · refine Z_aload_n (n := 5) dX4_parting_4 rfl rfl ?_
    refine Z_getI (n := 8) (ki := 33) dX4_parting_5 rfl ffX4_106 rfl rfl rfl (fun r5 s5 => ?_)
    refine Z_goto (t := 25) dX4_parting_8 (by decide) ?_
    refine Z_iret dX4_parting_25 rfl ?_
    refine ⟨rfl, rfl, ?_⟩; omega
def hr (f : Int → Int) : Nat → Int
  | 0 => 0
  | n + 1 => hr f n + (if f (n : Int) = 0 then 0 else 1)
theorem hr_up (f : Int → Int) {i : Int} (h : 0 ≤ i) : hr f (i + 1).toNat = hr f i.toNat + (if f i = 0 then 0 else 1) := by
  rw [show (i + 1).toNat = i.toNat + 1 by omega]
  show hr f i.toNat + (if f (i.toNat : Int) = 0 then 0 else 1) = _
  rw [Int.toNat_of_nonneg h]
theorem hr_in (f : Int → Int) : ∀ n : Nat, 0 ≤ hr f n ∧ hr f n ≤ n
  | 0 => by simp [hr]
  | n + 1 => by
    have h := hr_in f n
    unfold hr
    split <;> omega
theorem hr_zero {f : Int → Int} : ∀ {n : Nat}, (∀ h : Int, 0 ≤ h → h < n → f h = 0) → hr f n = 0
  | 0, _ => rfl
  | n + 1, h => by
    unfold hr
    rw [hr_zero (n := n) (fun k h0 h1 => h k h0 (by omega)), if_pos (h n (by omega) (by omega))]
    rfl
set_option maxRecDepth 20000 in
theorem zX4_told {G : tl_G} {M : zM} {J : zJ} {w : Int}  : ZN G yX4_told mX4_told 1 kAll [vR 31, vI w] F1 M J (qI (fun x M' J' => M' = M ∧ J' = J ∧ (((w < 0 ∨ 7 < w) ∧ x = -2) ∨ (0 ≤ w ∧ w < 3 ∧ x = M 32 w) ∨ (3 ≤ w ∧ w < 6 ∧ x = M 33 (w - 3)) ∨ (w = 6 ∧ x = hr (M 43) 12) ∨ (w = 7 ∧ x = M 31 8)))) := by
  refine ZN_of (L := [_, _, _, _]) (by decide) rfl rfl (Nat.le_of_ble_eq_true rfl) rfl (fun hav => ?_)
  refine Z_iload_n (n := 1) dX4_told_0 rfl rfl ?_
  refine Z_iconst (n := 2) dX4_told_1 rfl (by decide) ?_
  refine Z_bipush (n := 4) dX4_told_2 rfl (by decide) (by decide) ?_
  refine Z_callSi (n := 7) [_, _, _] _ dX4_told_4 rfl cwX4_112 rfl rfl (Nat.le_of_ble_eq_true rfl) (by refine ⟨?_, ?_, ?_, ?_⟩ <;> exact Nat.le_of_ble_eq_true rfl) (fun _ h => h) (zX4_in  ) ?_
  intro x4 M4 J4 z4 f4 q4
  obtain ⟨e4_1, e4_2, h4⟩ := q4
  replace e4_1 := e4_1.symm; subst e4_1
  replace e4_2 := e4_2.symm; subst e4_2
  refine Z_if_ne (n := 10) (t := 13) dX4_told_7 rfl (by decide) (fun c7 => ?_) (fun c7 => ?_)
  · refine Z_iload_n (n := 14) dX4_told_13 rfl rfl ?_
    refine Z_bipush (n := 16) dX4_told_14 rfl (by decide) (by decide) ?_
    refine Z_icmp_ge (n := 19) (t := 42) dX4_told_16 rfl (by decide) (fun c16 => ?_) (fun c16 => ?_)
    · refine Z_iconst (n := 43) dX4_told_42 rfl (by decide) ?_
      refine Z_istore_n (L' := [_, _, _, _]) (n := 44) dX4_told_43 rfl (by decide) rfl rfl ?_
      refine Z_iconst (n := 45) dX4_told_44 rfl (by decide) ?_
      refine Z_istore_n (L' := [_, _, _, _]) (n := 46) dX4_told_45 rfl (by decide) rfl rfl ?_
      have lp46 : ∀ (N46 : Nat) (n i : Int) , ((12 - i).toNat) < N46 → (0 ≤ i) → (i ≤ 12) → (n = hr (M 43) i.toNat) → TZ G mX4_told (tl_rm 1 0 0) 0 0 kAll M J 46 [some (vR 31), some (vI w), some (vI n), some (vI i)] [] F1 M J (ZM G (zPost G kAll F1 M J (qI (fun x M' J' => M' = M ∧ J' = J ∧ (((w < 0 ∨ 7 < w) ∧ x = -2) ∨ (0 ≤ w ∧ w < 3 ∧ x = M 32 w) ∨ (3 ≤ w ∧ w < 6 ∧ x = M 33 (w - 3)) ∨ (w = 6 ∧ x = hr (M 43) 12) ∨ (w = 7 ∧ x = M 31 8))))) 0 0) := by
        intro N46
        induction N46 with
        | zero => intro n i  hN; omega
        | succ N46 ih46 =>
          intro n i  hN46 i46_0 i46_1 i46_2
          refine Z_iload_n (n := 47) dX4_told_46 rfl rfl ?_
          refine Z_bipush (n := 49) dX4_told_47 rfl (by decide) (by decide) ?_
          refine Z_icmp_ge (n := 52) (t := 75) dX4_told_49 rfl (by decide) (fun c49 => ?_) (fun c49 => ?_)
          · refine Z_iload_n (n := 76) dX4_told_75 rfl rfl ?_
            refine Z_bipush (n := 78) dX4_told_76 rfl (by decide) (by decide) ?_
            refine Z_icmp_ne (n := 81) (t := 85) dX4_told_78 rfl (by decide) (fun c78 => ?_) (fun c78 => ?_)
            · refine Z_aload_n (n := 86) dX4_told_85 rfl rfl ?_
              refine Z_getI (n := 89) (ki := 8) dX4_told_86 rfl ffX4_102 rfl rfl rfl (fun r86 s86 => ?_)
              refine Z_iret dX4_told_89 rfl ?_
              first | exact ⟨rfl, rfl, Or.inr (Or.inr (Or.inr (Or.inr ⟨by omega, rfl⟩)))⟩ | (refine ⟨rfl, rfl, Or.inr (Or.inr (Or.inr (Or.inl ⟨by omega, ?_⟩)))⟩; rw [i46_2, show i = 12 by omega]; rfl)
            · refine Z_iload_n (n := 82) dX4_told_81 rfl rfl ?_
              refine Z_goto (t := 89) dX4_told_82 (by decide) ?_
              refine Z_iret dX4_told_89 rfl ?_
              first | exact ⟨rfl, rfl, Or.inr (Or.inr (Or.inr (Or.inr ⟨by omega, rfl⟩)))⟩ | (refine ⟨rfl, rfl, Or.inr (Or.inr (Or.inr (Or.inl ⟨by omega, ?_⟩)))⟩; rw [i46_2, show i = 12 by omega]; rfl)
          · refine Z_iload_n (n := 53) dX4_told_52 rfl rfl ?_
            refine Z_aload_n (n := 54) dX4_told_53 rfl rfl ?_
            refine Z_getA (n := 57) dX4_told_54 rfl ffX4_44 rfl rfl ?_
            refine Z_iload_n (n := 58) dX4_told_57 rfl rfl ?_
            refine Z_zald (n := 59) dX4_told_58 rfl rfl rfl (by first | decide | assumption) (by omega) (by omega) (fun r58 s58 => ?_)
            refine Z_if_eq (n := 62) (t := 66) dX4_told_59 rfl (by decide) (fun c59 => ?_) (fun c59 => ?_)
            · refine Z_iconst (n := 67) dX4_told_66 rfl (by decide) ?_
              have hrin := hr_in (M 43) i.toNat
              refine Z_iadd (n := 68) dX4_told_67 rfl (by omega) ?_
              refine Z_istore_n (L' := [_, _, _, _]) (n := 69) dX4_told_68 rfl (by decide) rfl rfl ?_
              refine Z_iinc (L' := [_, _, _, _]) (n := 72) dX4_told_69 rfl rfl (by decide) rfl rfl (by omega) rfl ?_
              refine Z_goto (t := 46) dX4_told_72 (by decide) ?_
              refine Z_loc (L' := [some _, some _, some _, some _]) (lsub_same (lsub_same (lsub_same (lsub_same lsub_nil)))) ?_
              exact ih46 _ _  (by omega) (by first | assumption | omega | decide) (by first | assumption | omega | decide) (by first | rfl | (rw [hr_up _ (by assumption)]; subst i46_2; first | rw [if_pos (by assumption)] | rw [if_neg (by assumption)]))
            · refine Z_iconst (n := 63) dX4_told_62 rfl (by decide) ?_
              refine Z_goto (t := 67) dX4_told_63 (by decide) ?_
              have hrin := hr_in (M 43) i.toNat
              refine Z_iadd (n := 68) dX4_told_67 rfl (by omega) ?_
              refine Z_istore_n (L' := [_, _, _, _]) (n := 69) dX4_told_68 rfl (by decide) rfl rfl ?_
              refine Z_iinc (L' := [_, _, _, _]) (n := 72) dX4_told_69 rfl rfl (by decide) rfl rfl (by omega) rfl ?_
              refine Z_goto (t := 46) dX4_told_72 (by decide) ?_
              refine Z_loc (L' := [some _, some _, some _, some _]) (lsub_same (lsub_same (lsub_same (lsub_same lsub_nil)))) ?_
              exact ih46 _ _  (by omega) (by first | assumption | omega | decide) (by first | assumption | omega | decide) (by first | rfl | (rw [hr_up _ (by assumption)]; subst i46_2; first | rw [if_pos (by assumption)] | rw [if_neg (by assumption)]))
      refine Z_loc (L' := [some _, some _, some _, some _]) (lsub_same (lsub_same (lsub_same (lsub_same lsub_nil)))) ?_
      exact lp46 _ _ _  (Nat.lt_succ_self _) (by first | assumption | omega | decide) (by first | assumption | omega | decide) (by first | rfl | (rw [hr_up _ (by assumption)]; subst i46_2; first | rw [if_pos (by assumption)] | rw [if_neg (by assumption)]))
    · refine Z_iload_n (n := 20) dX4_told_19 rfl rfl ?_
      refine Z_iconst (n := 21) dX4_told_20 rfl (by decide) ?_
      refine Z_icmp_ge (n := 24) (t := 33) dX4_told_21 rfl (by decide) (fun c21 => ?_) (fun c21 => ?_)
      · refine Z_aload_n (n := 34) dX4_told_33 rfl rfl ?_
        refine Z_getA (n := 37) dX4_told_34 rfl ffX4_13 rfl rfl ?_
        refine Z_iload_n (n := 38) dX4_told_37 rfl rfl ?_
        refine Z_iconst (n := 39) dX4_told_38 rfl (by decide) ?_
        refine Z_isub (n := 40) dX4_told_39 rfl (by omega) ?_
        refine Z_iald (n := 41) dX4_told_40 rfl rfl rfl (by first | decide | assumption) (by omega) (by omega) (fun r40 s40 => ?_)
        refine Z_iret dX4_told_41 rfl ?_
        refine ⟨rfl, rfl, ?_⟩; omega
      · refine Z_aload_n (n := 25) dX4_told_24 rfl rfl ?_
        refine Z_getA (n := 28) dX4_told_25 rfl ffX4_7 rfl rfl ?_
        refine Z_iload_n (n := 29) dX4_told_28 rfl rfl ?_
        refine Z_iald (n := 30) dX4_told_29 rfl rfl rfl (by first | decide | assumption) (by omega) (by omega) (fun r29 s29 => ?_)
        refine Z_goto (t := 41) dX4_told_30 (by decide) ?_
        refine Z_iret dX4_told_41 rfl ?_
        refine ⟨rfl, rfl, ?_⟩; omega
  · refine Z_bipush (n := 12) dX4_told_10 rfl (by decide) (by decide) ?_
    refine Z_iret dX4_told_12 rfl ?_
    refine ⟨rfl, rfl, ?_⟩; omega
set_option maxRecDepth 20000 in
theorem zX4_begin {G : tl_G} {M : zM} {J : zJ} {K : Nat → Prop} (hK : ¬ K 31) : ZN G yX4_begin mX4_begin 0 K [vR 31] F1 M J (qV (fun M' J' => J' = J ∧ M' = uz M 31 25 0)) := by
  refine ZN_of (L := [_]) (by decide) rfl rfl (Nat.le_of_ble_eq_true rfl) rfl (fun hav => ?_)
  refine Z_aload_n (n := 1) dX4_begin_0 rfl rfl ?_
  refine Z_iconst (n := 2) dX4_begin_1 rfl (by decide) ?_
  refine Z_putI (n := 5) (ki := 25) dX4_begin_2 rfl ffX4_176 rfl (by decide) rfl rfl (by first | assumption | omega | decide) (by first | assumption | omega | decide) (by assumption) ?_
  refine Z_vret dX4_begin_5 rfl ?_
  exact ⟨rfl, rfl⟩
set_option maxRecDepth 20000 in
theorem zX4_inUse {G : tl_G} {M : zM} {J : zJ}   : ZN G yX4_inUse mX4_inUse 0 kAll [vR 31] F1 M J (qI (fun x M' J' => M' = M ∧ J' = J ∧ x = M 31 24)) := by
  refine ZN_of (L := [_]) (by decide) rfl rfl (Nat.le_of_ble_eq_true rfl) rfl (fun hav => ?_)
  refine Z_aload_n (n := 1) dX4_inUse_0 rfl rfl ?_
  refine Z_getI (n := 4) (ki := 24) dX4_inUse_1 rfl ffX4_149 rfl rfl rfl (fun r1 s1 => ?_)
  refine Z_iret dX4_inUse_4 rfl ?_
  exact ⟨rfl, rfl, rfl⟩
set_option maxRecDepth 20000 in
theorem zX4_peak {G : tl_G} {M : zM} {J : zJ}   : ZN G yX4_peak mX4_peak 0 kAll [vR 31] F1 M J (qI (fun x M' J' => M' = M ∧ J' = J ∧ x = M 31 25)) := by
  refine ZN_of (L := [_]) (by decide) rfl rfl (Nat.le_of_ble_eq_true rfl) rfl (fun hav => ?_)
  refine Z_aload_n (n := 1) dX4_peak_0 rfl rfl ?_
  refine Z_getI (n := 4) (ki := 25) dX4_peak_1 rfl ffX4_176 rfl rfl rfl (fun r1 s1 => ?_)
  refine Z_iret dX4_peak_4 rfl ?_
  exact ⟨rfl, rfl, rfl⟩
end
