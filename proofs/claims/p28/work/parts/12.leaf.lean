/-! ===== leaves of the class ===== -/
set_option maxRecDepth 20000 in
theorem zX3_isNet {G : tl_G} {M : zM} {J : zJ} {v : Int}  : ZN G yX3_isNet mX3_isNet 0 kAll [vI v] F1 M J (qI (fun x M' J' => M' = M ∧ J' = J ∧ ((x = 1 ∧ 0 ≤ v ∧ v < 3) ∨ (x = 0 ∧ (v < 0 ∨ 3 ≤ v))))) := by
  refine ZN_of (L := [_]) (by decide) rfl rfl (Nat.le_of_ble_eq_true rfl) rfl (fun hav => ?_)
  refine Z_iload_n (n := 1) dX3_isNet_0 rfl rfl ?_
  refine Z_if_lt (n := 4) (t := 13) dX3_isNet_1 rfl (by decide) (fun c1 => ?_) (fun c1 => ?_)
  · refine Z_iconst (n := 14) dX3_isNet_13 rfl (by decide) ?_
    refine Z_zret dX3_isNet_14 rfl (by first | assumption | omega | decide) (by first | assumption | omega | decide) ?_
    refine ⟨rfl, rfl, ?_⟩; omega
  · refine Z_iload_n (n := 5) dX3_isNet_4 rfl rfl ?_
    refine Z_iconst (n := 6) dX3_isNet_5 rfl (by decide) ?_
    refine Z_icmp_ge (n := 9) (t := 13) dX3_isNet_6 rfl (by decide) (fun c6 => ?_) (fun c6 => ?_)
    · refine Z_iconst (n := 14) dX3_isNet_13 rfl (by decide) ?_
      refine Z_zret dX3_isNet_14 rfl (by first | assumption | omega | decide) (by first | assumption | omega | decide) ?_
      refine ⟨rfl, rfl, ?_⟩; omega
    · refine Z_iconst (n := 10) dX3_isNet_9 rfl (by decide) ?_
      refine Z_goto (t := 14) dX3_isNet_10 (by decide) ?_
      refine Z_zret dX3_isNet_14 rfl (by first | assumption | omega | decide) (by first | assumption | omega | decide) ?_
      refine ⟨rfl, rfl, ?_⟩; omega
set_option maxRecDepth 20000 in
theorem zX3_isVariable {G : tl_G} {M : zM} {J : zJ} {v : Int}  : ZN G yX3_isVariable mX3_isVariable 0 kAll [vI v] F1 M J (qI (fun x M' J' => M' = M ∧ J' = J ∧ ((x = 1 ∧ 0 ≤ v ∧ v < 8) ∨ (x = 0 ∧ (v < 0 ∨ 8 ≤ v))))) := by
  refine ZN_of (L := [_]) (by decide) rfl rfl (Nat.le_of_ble_eq_true rfl) rfl (fun hav => ?_)
  refine Z_iload_n (n := 1) dX3_isVariable_0 rfl rfl ?_
  refine Z_if_lt (n := 4) (t := 14) dX3_isVariable_1 rfl (by decide) (fun c1 => ?_) (fun c1 => ?_)
  · refine Z_iconst (n := 15) dX3_isVariable_14 rfl (by decide) ?_
    refine Z_zret dX3_isVariable_15 rfl (by first | assumption | omega | decide) (by first | assumption | omega | decide) ?_
    refine ⟨rfl, rfl, ?_⟩; omega
  · refine Z_iload_n (n := 5) dX3_isVariable_4 rfl rfl ?_
    refine Z_bipush (n := 7) dX3_isVariable_5 rfl (by decide) (by decide) ?_
    refine Z_icmp_ge (n := 10) (t := 14) dX3_isVariable_7 rfl (by decide) (fun c7 => ?_) (fun c7 => ?_)
    · refine Z_iconst (n := 15) dX3_isVariable_14 rfl (by decide) ?_
      refine Z_zret dX3_isVariable_15 rfl (by first | assumption | omega | decide) (by first | assumption | omega | decide) ?_
      refine ⟨rfl, rfl, ?_⟩; omega
    · refine Z_iconst (n := 11) dX3_isVariable_10 rfl (by decide) ?_
      refine Z_goto (t := 15) dX3_isVariable_11 (by decide) ?_
      refine Z_zret dX3_isVariable_15 rfl (by first | assumption | omega | decide) (by first | assumption | omega | decide) ?_
      refine ⟨rfl, rfl, ?_⟩; omega
set_option maxRecDepth 20000 in
theorem zX3_isAssignment {G : tl_G} {M : zM} {J : zJ} {v : Int}  : ZN G yX3_isAssignment mX3_isAssignment 0 kAll [vI v] F1 M J (qI (fun x M' J' => M' = M ∧ J' = J ∧ ((x = 1 ∧ 0 ≤ v ∧ v < 256) ∨ (x = 0 ∧ (v < 0 ∨ 256 ≤ v))))) := by
  refine ZN_of (L := [_]) (by decide) rfl rfl (Nat.le_of_ble_eq_true rfl) rfl (fun hav => ?_)
  refine Z_iload_n (n := 1) dX3_isAssignment_0 rfl rfl ?_
  refine Z_if_lt (n := 4) (t := 15) dX3_isAssignment_1 rfl (by decide) (fun c1 => ?_) (fun c1 => ?_)
  · refine Z_iconst (n := 16) dX3_isAssignment_15 rfl (by decide) ?_
    refine Z_zret dX3_isAssignment_16 rfl (by first | assumption | omega | decide) (by first | assumption | omega | decide) ?_
    refine ⟨rfl, rfl, ?_⟩; omega
  · refine Z_iload_n (n := 5) dX3_isAssignment_4 rfl rfl ?_
    refine Z_sipush (n := 8) dX3_isAssignment_5 rfl (by decide) (by decide) ?_
    refine Z_icmp_ge (n := 11) (t := 15) dX3_isAssignment_8 rfl (by decide) (fun c8 => ?_) (fun c8 => ?_)
    · refine Z_iconst (n := 16) dX3_isAssignment_15 rfl (by decide) ?_
      refine Z_zret dX3_isAssignment_16 rfl (by first | assumption | omega | decide) (by first | assumption | omega | decide) ?_
      refine ⟨rfl, rfl, ?_⟩; omega
    · refine Z_iconst (n := 12) dX3_isAssignment_11 rfl (by decide) ?_
      refine Z_goto (t := 16) dX3_isAssignment_12 (by decide) ?_
      refine Z_zret dX3_isAssignment_16 rfl (by first | assumption | omega | decide) (by first | assumption | omega | decide) ?_
      refine ⟨rfl, rfl, ?_⟩; omega
set_option maxRecDepth 20000 in
theorem zX3_isHandle {G : tl_G} {M : zM} {J : zJ} {v : Int}  : ZN G yX3_isHandle mX3_isHandle 0 kAll [vI v] F1 M J (qI (fun x M' J' => M' = M ∧ J' = J ∧ ((x = 1 ∧ 0 ≤ v ∧ v < 12) ∨ (x = 0 ∧ (v < 0 ∨ 12 ≤ v))))) := by
  refine ZN_of (L := [_]) (by decide) rfl rfl (Nat.le_of_ble_eq_true rfl) rfl (fun hav => ?_)
  refine Z_iload_n (n := 1) dX3_isHandle_0 rfl rfl ?_
  refine Z_if_lt (n := 4) (t := 14) dX3_isHandle_1 rfl (by decide) (fun c1 => ?_) (fun c1 => ?_)
  · refine Z_iconst (n := 15) dX3_isHandle_14 rfl (by decide) ?_
    refine Z_zret dX3_isHandle_15 rfl (by first | assumption | omega | decide) (by first | assumption | omega | decide) ?_
    refine ⟨rfl, rfl, ?_⟩; omega
  · refine Z_iload_n (n := 5) dX3_isHandle_4 rfl rfl ?_
    refine Z_bipush (n := 7) dX3_isHandle_5 rfl (by decide) (by decide) ?_
    refine Z_icmp_ge (n := 10) (t := 14) dX3_isHandle_7 rfl (by decide) (fun c7 => ?_) (fun c7 => ?_)
    · refine Z_iconst (n := 15) dX3_isHandle_14 rfl (by decide) ?_
      refine Z_zret dX3_isHandle_15 rfl (by first | assumption | omega | decide) (by first | assumption | omega | decide) ?_
      refine ⟨rfl, rfl, ?_⟩; omega
    · refine Z_iconst (n := 11) dX3_isHandle_10 rfl (by decide) ?_
      refine Z_goto (t := 15) dX3_isHandle_11 (by decide) ?_
      refine Z_zret dX3_isHandle_15 rfl (by first | assumption | omega | decide) (by first | assumption | omega | decide) ?_
      refine ⟨rfl, rfl, ?_⟩; omega
set_option maxRecDepth 20000 in
theorem zX3_hasFunction {G : tl_G} {M : zM} {J : zJ} {f : Int}  : ZN G yX3_hasFunction mX3_hasFunction 1 kAll [vR 0, vI f] F1 M J (qI (fun x M' J' => M' = M ∧ J' = J ∧ ((x = 1 ∧ 0 ≤ f ∧ f < 12 ∧ ¬ M 12 f = -1) ∨ (x = 0 ∧ (f < 0 ∨ 12 ≤ f ∨ M 12 f = -1))))) := by
  refine ZN_of (L := [_, _]) (by decide) rfl rfl (Nat.le_of_ble_eq_true rfl) rfl (fun hav => ?_)
  refine Z_iload_n (n := 1) dX3_hasFunction_0 rfl rfl ?_
  refine Z_callSi (n := 4) [_] _ dX3_hasFunction_1 rfl cwX3_123 rfl rfl (Nat.le_of_ble_eq_true rfl) (by refine ⟨?_, ?_, ?_, ?_⟩ <;> exact Nat.le_of_ble_eq_true rfl) (fun _ h => h) (zX3_isHandle  ) ?_
  intro x1 M1 J1 z1 f1 q1
  obtain ⟨e1_1, e1_2, h1⟩ := q1
  replace e1_1 := e1_1.symm; subst e1_1
  replace e1_2 := e1_2.symm; subst e1_2
  refine Z_if_eq (n := 7) (t := 21) dX3_hasFunction_4 rfl (by decide) (fun c4 => ?_) (fun c4 => ?_)
  · refine Z_iconst (n := 22) dX3_hasFunction_21 rfl (by decide) ?_
    refine Z_zret dX3_hasFunction_22 rfl (by first | assumption | omega | decide) (by first | assumption | omega | decide) ?_
    refine ⟨rfl, rfl, ?_⟩; omega
  · refine Z_aload_n (n := 8) dX3_hasFunction_7 rfl rfl ?_
    refine Z_getA (n := 11) dX3_hasFunction_8 rfl ffX3_29 rfl rfl ?_
    refine Z_iload_n (n := 12) dX3_hasFunction_11 rfl rfl ?_
    refine Z_iald (n := 13) dX3_hasFunction_12 rfl rfl rfl (by first | decide | assumption) (by omega) (by omega) (fun r12 s12 => ?_)
    refine Z_iconst (n := 14) dX3_hasFunction_13 rfl (by decide) ?_
    refine Z_icmp_eq (n := 17) (t := 21) dX3_hasFunction_14 rfl (by decide) (fun c14 => ?_) (fun c14 => ?_)
    · refine Z_iconst (n := 22) dX3_hasFunction_21 rfl (by decide) ?_
      refine Z_zret dX3_hasFunction_22 rfl (by first | assumption | omega | decide) (by first | assumption | omega | decide) ?_
      refine ⟨rfl, rfl, ?_⟩; omega
    · refine Z_iconst (n := 18) dX3_hasFunction_17 rfl (by decide) ?_
      refine Z_goto (t := 22) dX3_hasFunction_18 (by decide) ?_
      refine Z_zret dX3_hasFunction_22 rfl (by first | assumption | omega | decide) (by first | assumption | omega | decide) ?_
      refine ⟨rfl, rfl, ?_⟩; omega
def hc (f : Int → Int) : Nat → Int
  | 0 => 0
  | n + 1 => hc f n + (if f (n : Int) = -1 then 0 else 1)
theorem hc_in (f : Int → Int) : ∀ n : Nat, 0 ≤ hc f n ∧ hc f n ≤ n
  | 0 => by simp [hc]
  | n + 1 => by
    have h := hc_in f n
    unfold hc
    split <;> omega
theorem hc_up (f : Int → Int) {i : Int} (h : 0 ≤ i) : hc f (i + 1).toNat = hc f i.toNat + (if f i = -1 then 0 else 1) := by
  rw [show (i + 1).toNat = i.toNat + 1 by omega]
  show hc f i.toNat + (if f (i.toNat : Int) = -1 then 0 else 1) = _
  rw [Int.toNat_of_nonneg h]
theorem hc_zero {f : Int → Int} : ∀ {n : Nat}, (∀ h : Int, 0 ≤ h → h < n → f h = -1) → hc f n = 0
  | 0, _ => rfl
  | n + 1, h => by
    unfold hc
    rw [hc_zero (n := n) (fun k h0 h1 => h k h0 (by omega)), if_pos (h n (by omega) (by omega))]
    rfl
set_option maxRecDepth 20000 in
theorem zX3_heldCount {G : tl_G} {M : zM} {J : zJ}   : ZN G yX3_heldCount mX3_heldCount 0 kAll [vR 0] F1 M J (qI (fun x M' J' => M' = M ∧ J' = J ∧ x = hc (M 12) 12)) := by
  refine ZN_of (L := [_, _, _]) (by decide) rfl rfl (Nat.le_of_ble_eq_true rfl) rfl (fun hav => ?_)
  refine Z_iconst (n := 1) dX3_heldCount_0 rfl (by decide) ?_
  refine Z_istore_n (L' := [_, _, _]) (n := 2) dX3_heldCount_1 rfl (by decide) rfl rfl ?_
  refine Z_iconst (n := 3) dX3_heldCount_2 rfl (by decide) ?_
  refine Z_istore_n (L' := [_, _, _]) (n := 4) dX3_heldCount_3 rfl (by decide) rfl rfl ?_
  have lp4 : ∀ (N4 : Nat) (n i : Int) , ((12 - i).toNat) < N4 → (0 ≤ i) → (i ≤ 12) → (n = hc (M 12) i.toNat) → TZ G mX3_heldCount (tl_rm 0 0 0) 0 0 kAll M J 4 [some (vR 0), some (vI n), some (vI i)] [] F1 M J (ZM G (zPost G kAll F1 M J (qI (fun x M' J' => M' = M ∧ J' = J ∧ x = hc (M 12) 12))) 0 0) := by
    intro N4
    induction N4 with
    | zero => intro n i  hN; omega
    | succ N4 ih4 =>
      intro n i  hN4 i4_0 i4_1 i4_2
      refine Z_iload_n (n := 5) dX3_heldCount_4 rfl rfl ?_
      refine Z_bipush (n := 7) dX3_heldCount_5 rfl (by decide) (by decide) ?_
      refine Z_icmp_ge (n := 10) (t := 29) dX3_heldCount_7 rfl (by decide) (fun c7 => ?_) (fun c7 => ?_)
      · refine Z_iload_n (n := 30) dX3_heldCount_29 rfl rfl ?_
        refine Z_iret dX3_heldCount_30 rfl ?_
        refine ⟨rfl, rfl, ?_⟩; rw [i4_2, show i = 12 by omega]; rfl
      · refine Z_aload_n (n := 11) dX3_heldCount_10 rfl rfl ?_
        refine Z_getA (n := 14) dX3_heldCount_11 rfl ffX3_29 rfl rfl ?_
        refine Z_iload_n (n := 15) dX3_heldCount_14 rfl rfl ?_
        refine Z_iald (n := 16) dX3_heldCount_15 rfl rfl rfl (by first | decide | assumption) (by omega) (by omega) (fun r15 s15 => ?_)
        refine Z_iconst (n := 17) dX3_heldCount_16 rfl (by decide) ?_
        refine Z_icmp_eq (n := 20) (t := 23) dX3_heldCount_17 rfl (by decide) (fun c17 => ?_) (fun c17 => ?_)
        · refine Z_iinc (L' := [_, _, _]) (n := 26) dX3_heldCount_23 rfl rfl (by decide) rfl rfl (by omega) rfl ?_
          refine Z_goto (t := 4) dX3_heldCount_26 (by decide) ?_
          refine Z_loc (L' := [some _, some _, some _]) (lsub_same (lsub_same (lsub_same lsub_nil))) ?_
          exact ih4 _ _  (by omega) (by first | assumption | omega | decide) (by first | assumption | omega | decide) (by first | rfl | (rw [hc_up _ (by assumption)]; subst i4_2; first | rw [if_pos (by assumption)]; omega | rw [if_neg (by assumption)]))
        · have hcin := hc_in (M 12) i.toNat
          refine Z_iinc (L' := [_, _, _]) (n := 23) dX3_heldCount_20 rfl rfl (by decide) rfl rfl (by omega) rfl ?_
          refine Z_iinc (L' := [_, _, _]) (n := 26) dX3_heldCount_23 rfl rfl (by decide) rfl rfl (by omega) rfl ?_
          refine Z_goto (t := 4) dX3_heldCount_26 (by decide) ?_
          refine Z_loc (L' := [some _, some _, some _]) (lsub_same (lsub_same (lsub_same lsub_nil))) ?_
          exact ih4 _ _  (by omega) (by first | assumption | omega | decide) (by first | assumption | omega | decide) (by first | rfl | (rw [hc_up _ (by assumption)]; subst i4_2; first | rw [if_pos (by assumption)]; omega | rw [if_neg (by assumption)]))
  refine Z_loc (L' := [some _, some _, some _]) (lsub_same (lsub_same (lsub_same lsub_nil))) ?_
  exact lp4 _ _ _  (Nat.lt_succ_self _) (by first | assumption | omega | decide) (by first | assumption | omega | decide) (by first | rfl | (rw [hc_up _ (by assumption)]; subst i4_2; first | rw [if_pos (by assumption)]; omega | rw [if_neg (by assumption)]))
theorem uz_oo {α : Type} {M : Nat → Int → α} {a a' : Nat} {j j' : Int} {v : α} (h : a' ≠ a) : uz M a j v a' j' = M a' j' := by simp [uz, h]
def fillz (M : zM) (a : Nat) (n v : Int) : zM := fun a' j => if a' = a ∧ 0 ≤ j ∧ j < n then v else M a' j
theorem fillz_z {M : zM} {a : Nat} {v : Int} : fillz M a 0 v = M := by
  funext a' j
  unfold fillz
  rw [if_neg (by omega)]
theorem fillz_s {M : zM} {a : Nat} {n v : Int} (h : 0 ≤ n) : uz (fillz M a n v) a n v = fillz M a (n + 1) v := by
  funext a' j
  simp only [uz, fillz]
  (repeat' split) <;> first | rfl | omega
theorem fillz_o {M : zM} {a a' : Nat} {n v : Int} (h : a' ≠ a) : fillz M a n v a' = M a' := by
  funext j
  unfold fillz
  rw [if_neg (fun e => h e.1)]
theorem fillz_a {M : zM} {a : Nat} {n v j : Int} (h0 : 0 ≤ j) (h1 : j < n) : fillz M a n v a j = v := by
  unfold fillz
  rw [if_pos ⟨rfl, h0, h1⟩]
set_option maxRecDepth 20000 in
theorem zJ7_fill_53178 {G : tl_G} {M : zM} {J : zJ} {F : zF} {K : Nat → Prop} {a N : Nat} {v lo hi : Int} (hS : F.1 a = (2, N)) (hN : N < 2147483648) (hT : ∀ j, zT a j = (lo, hi)) (h0 : lo ≤ v) (h1 : v ≤ hi) (hK : ¬ K a) : ZN G yJ7_fill_53178 mJ7_fill_53178 0 K [vR a, vI v] F M J (qV (fun M' J' => J' = J ∧ M' = fillz M a (N : Int) v)) := by
  refine ZN_of (L := [_, _, _, _]) (by decide) rfl rfl (Nat.le_of_ble_eq_true rfl) rfl (fun hav => ?_)
  refine Z_iconst (n := 1) dJ7_fill_53178_0 rfl (by decide) ?_
  refine Z_istore_n (L' := [_, _, _, _]) (n := 2) dJ7_fill_53178_1 rfl (by decide) rfl rfl ?_
  refine Z_aload_n (n := 3) dJ7_fill_53178_2 rfl rfl ?_
  refine Z_alen (n := 4) dJ7_fill_53178_3 rfl (by first | exact hS | exact hT _) (by first | decide | assumption) ?_
  refine Z_istore_n (L' := [_, _, _, _]) (n := 5) dJ7_fill_53178_4 rfl (by decide) rfl rfl ?_
  have lp5 : ∀ (N5 : Nat) (i : Int) (M5 : zM) (J5 : zJ), (((N : Int) - i).toNat) < N5 → (J5 = J) → (M5 = fillz M a i v) → (0 ≤ i) → (i ≤ (N : Int)) → TZ G mJ7_fill_53178 (tl_rm 0 0 0) 0 0 K M J 5 [some (vR a), some (vI v), some (vI i), some (vI (N : Int))] [] F M5 J5 (ZM G (zPost G K F M J (qV (fun M' J' => J' = J ∧ M' = fillz M a (N : Int) v))) 0 0) := by
    intro N5
    induction N5 with
    | zero => intro i M5 J5 hN; omega
    | succ N5 ih5 =>
      intro i M5 J5 hN5 i5_0 i5_1 i5_2 i5_3
      refine Z_iload_n (n := 6) dJ7_fill_53178_5 rfl rfl ?_
      refine Z_iload_n (n := 7) dJ7_fill_53178_6 rfl rfl ?_
      refine Z_icmp_ge (n := 10) (t := 20) dJ7_fill_53178_7 rfl (by decide) (fun c7 => ?_) (fun c7 => ?_)
      · refine Z_vret dJ7_fill_53178_20 rfl ?_
        refine ⟨i5_0, ?_⟩; rw [i5_1, show i = (N : Int) by omega]
      · refine Z_aload_n (n := 11) dJ7_fill_53178_10 rfl rfl ?_
        refine Z_iload_n (n := 12) dJ7_fill_53178_11 rfl rfl ?_
        refine Z_iload_n (n := 13) dJ7_fill_53178_12 rfl rfl ?_
        refine Z_iast (n := 14) dJ7_fill_53178_13 rfl (by first | exact hS | exact hT _) (by first | exact hS | exact hT _) (by first | decide | assumption) (by omega) (by omega) (by first | assumption | omega | decide) (by first | assumption | omega | decide) (by assumption) ?_
        refine Z_iinc (L' := [_, _, _, _]) (n := 17) dJ7_fill_53178_14 rfl rfl (by decide) rfl rfl (by omega) rfl ?_
        refine Z_goto (t := 5) dJ7_fill_53178_17 (by decide) ?_
        refine Z_loc (L' := [some _, some _, some _, some _]) (lsub_same (lsub_same (lsub_same (lsub_same lsub_nil)))) ?_
        exact ih5 _ _ _ (by omega) (by first | rfl | assumption) (by first | exact fillz_z.symm | (rw [i5_1]; exact fillz_s (by assumption))) (by first | assumption | omega | decide) (by first | assumption | omega | decide)
  refine Z_loc (L' := [some _, some _, some _, some _]) (lsub_same (lsub_same (lsub_same (lsub_same lsub_nil)))) ?_
  exact lp5 _ _ _ _ (Nat.lt_succ_self _) (by first | rfl | assumption) (by first | exact fillz_z.symm | (rw [i5_1]; exact fillz_s (by assumption))) (by first | assumption | omega | decide) (by first | assumption | omega | decide)
set_option maxRecDepth 20000 in
theorem zX0_gateCount {G : tl_G} {M : zM} {J : zJ} {b : Nat}  (hb : NetAt b) : ZN G yX0_gateCount mX0_gateCount 0 kAll [vR b] F1 M J (qI (fun x M' J' => M' = M ∧ J' = J ∧ x = M b 4)) := by
  refine ZN_of (L := [_]) (by decide) rfl rfl (Nat.le_of_ble_eq_true rfl) rfl (fun hav => ?_)
  refine Z_aload_n (n := 1) dX0_gateCount_0 rfl rfl ?_
  refine Z_getI (n := 4) (ki := 4) dX0_gateCount_1 rfl ffX0_24 rfl (by first | exact nS0 hb | exact nS1 hb | exact nS2 hb | exact nS3 hb | exact nS4 hb | exact nP0 hb | exact nP1 hb | exact nP2 hb | exact nP3 hb | rfl) (by first | exact nTg hb | exact nTo hb | exact nT1 hb | exact nT2 hb | exact nT3 hb | exact nT4 hb | rfl) (fun r1 s1 => ?_)
  refine Z_iret dX0_gateCount_4 rfl ?_
  exact ⟨rfl, rfl, rfl⟩
set_option maxRecDepth 20000 in
theorem zX0_outputCount {G : tl_G} {M : zM} {J : zJ} {b : Nat}  (hb : NetAt b) : ZN G yX0_outputCount mX0_outputCount 0 kAll [vR b] F1 M J (qI (fun x M' J' => M' = M ∧ J' = J ∧ x = M b 5)) := by
  refine ZN_of (L := [_]) (by decide) rfl rfl (Nat.le_of_ble_eq_true rfl) rfl (fun hav => ?_)
  refine Z_aload_n (n := 1) dX0_outputCount_0 rfl rfl ?_
  refine Z_getI (n := 4) (ki := 5) dX0_outputCount_1 rfl ffX0_28 rfl (by first | exact nS0 hb | exact nS1 hb | exact nS2 hb | exact nS3 hb | exact nS4 hb | exact nP0 hb | exact nP1 hb | exact nP2 hb | exact nP3 hb | rfl) (by first | exact nTg hb | exact nTo hb | exact nT1 hb | exact nT2 hb | exact nT3 hb | exact nT4 hb | rfl) (fun r1 s1 => ?_)
  refine Z_iret dX0_outputCount_4 rfl ?_
  exact ⟨rfl, rfl, rfl⟩
set_option maxRecDepth 20000 in
theorem zX0_hasGate {G : tl_G} {M : zM} {J : zJ} {b : Nat} {g : Int} (hb : NetAt b) : ZN G yX0_hasGate mX0_hasGate 0 kAll [vR b, vI g] F1 M J (qI (fun x M' J' => M' = M ∧ J' = J ∧ ((x = 1 ∧ 0 ≤ g ∧ g < M b 4) ∨ (x = 0 ∧ (g < 0 ∨ M b 4 ≤ g))))) := by
  refine ZN_of (L := [_, _]) (by decide) rfl rfl (Nat.le_of_ble_eq_true rfl) rfl (fun hav => ?_)
  refine Z_iload_n (n := 1) dX0_hasGate_0 rfl rfl ?_
  refine Z_if_lt (n := 4) (t := 16) dX0_hasGate_1 rfl (by decide) (fun c1 => ?_) (fun c1 => ?_)
  · refine Z_iconst (n := 17) dX0_hasGate_16 rfl (by decide) ?_
    refine Z_zret dX0_hasGate_17 rfl (by first | assumption | omega | decide) (by first | assumption | omega | decide) ?_
    refine ⟨rfl, rfl, ?_⟩; omega
  · refine Z_iload_n (n := 5) dX0_hasGate_4 rfl rfl ?_
    refine Z_aload_n (n := 6) dX0_hasGate_5 rfl rfl ?_
    refine Z_getI (n := 9) (ki := 4) dX0_hasGate_6 rfl ffX0_24 rfl (by first | exact nS0 hb | exact nS1 hb | exact nS2 hb | exact nS3 hb | exact nS4 hb | exact nP0 hb | exact nP1 hb | exact nP2 hb | exact nP3 hb | rfl) (by first | exact nTg hb | exact nTo hb | exact nT1 hb | exact nT2 hb | exact nT3 hb | exact nT4 hb | rfl) (fun r6 s6 => ?_)
    refine Z_icmp_ge (n := 12) (t := 16) dX0_hasGate_9 rfl (by decide) (fun c9 => ?_) (fun c9 => ?_)
    · refine Z_iconst (n := 17) dX0_hasGate_16 rfl (by decide) ?_
      refine Z_zret dX0_hasGate_17 rfl (by first | assumption | omega | decide) (by first | assumption | omega | decide) ?_
      refine ⟨rfl, rfl, ?_⟩; omega
    · refine Z_iconst (n := 13) dX0_hasGate_12 rfl (by decide) ?_
      refine Z_goto (t := 17) dX0_hasGate_13 (by decide) ?_
      refine Z_zret dX0_hasGate_17 rfl (by first | assumption | omega | decide) (by first | assumption | omega | decide) ?_
      refine ⟨rfl, rfl, ?_⟩; omega
set_option maxRecDepth 20000 in
theorem zX0_hasOutput {G : tl_G} {M : zM} {J : zJ} {b : Nat} {g : Int} (hb : NetAt b) : ZN G yX0_hasOutput mX0_hasOutput 0 kAll [vR b, vI g] F1 M J (qI (fun x M' J' => M' = M ∧ J' = J ∧ ((x = 1 ∧ 0 ≤ g ∧ g < M b 5) ∨ (x = 0 ∧ (g < 0 ∨ M b 5 ≤ g))))) := by
  refine ZN_of (L := [_, _]) (by decide) rfl rfl (Nat.le_of_ble_eq_true rfl) rfl (fun hav => ?_)
  refine Z_iload_n (n := 1) dX0_hasOutput_0 rfl rfl ?_
  refine Z_if_lt (n := 4) (t := 16) dX0_hasOutput_1 rfl (by decide) (fun c1 => ?_) (fun c1 => ?_)
  · refine Z_iconst (n := 17) dX0_hasOutput_16 rfl (by decide) ?_
    refine Z_zret dX0_hasOutput_17 rfl (by first | assumption | omega | decide) (by first | assumption | omega | decide) ?_
    refine ⟨rfl, rfl, ?_⟩; omega
  · refine Z_iload_n (n := 5) dX0_hasOutput_4 rfl rfl ?_
    refine Z_aload_n (n := 6) dX0_hasOutput_5 rfl rfl ?_
    refine Z_getI (n := 9) (ki := 5) dX0_hasOutput_6 rfl ffX0_28 rfl (by first | exact nS0 hb | exact nS1 hb | exact nS2 hb | exact nS3 hb | exact nS4 hb | exact nP0 hb | exact nP1 hb | exact nP2 hb | exact nP3 hb | rfl) (by first | exact nTg hb | exact nTo hb | exact nT1 hb | exact nT2 hb | exact nT3 hb | exact nT4 hb | rfl) (fun r6 s6 => ?_)
    refine Z_icmp_ge (n := 12) (t := 16) dX0_hasOutput_9 rfl (by decide) (fun c9 => ?_) (fun c9 => ?_)
    · refine Z_iconst (n := 17) dX0_hasOutput_16 rfl (by decide) ?_
      refine Z_zret dX0_hasOutput_17 rfl (by first | assumption | omega | decide) (by first | assumption | omega | decide) ?_
      refine ⟨rfl, rfl, ?_⟩; omega
    · refine Z_iconst (n := 13) dX0_hasOutput_12 rfl (by decide) ?_
      refine Z_goto (t := 17) dX0_hasOutput_13 (by decide) ?_
      refine Z_zret dX0_hasOutput_17 rfl (by first | assumption | omega | decide) (by first | assumption | omega | decide) ?_
      refine ⟨rfl, rfl, ?_⟩; omega
set_option maxRecDepth 20000 in
theorem zX0_kindOf {G : tl_G} {M : zM} {J : zJ} {b : Nat} {g : Int} (hb : NetAt b) (h0 : 0 ≤ g) (h1 : g < 40) : ZN G yX0_kindOf mX0_kindOf 0 kAll [vR b, vI g] F1 M J (qI (fun x M' J' => M' = M ∧ J' = J ∧ x = M (b + 1) g)) := by
  refine ZN_of (L := [_, _]) (by decide) rfl rfl (Nat.le_of_ble_eq_true rfl) rfl (fun hav => ?_)
  refine Z_aload_n (n := 1) dX0_kindOf_0 rfl rfl ?_
  refine Z_getA (n := 4) dX0_kindOf_1 rfl ffX0_9 (by first | exact nS0 hb | exact nS1 hb | exact nS2 hb | exact nS3 hb | exact nS4 hb | exact nP0 hb | exact nP1 hb | exact nP2 hb | exact nP3 hb | rfl) (by first | exact nS0 hb | exact nS1 hb | exact nS2 hb | exact nS3 hb | exact nS4 hb | exact nP0 hb | exact nP1 hb | exact nP2 hb | exact nP3 hb | rfl) ?_
  refine Z_iload_n (n := 5) dX0_kindOf_4 rfl rfl ?_
  refine Z_iald (n := 6) dX0_kindOf_5 rfl (by first | exact nS0 hb | exact nS1 hb | exact nS2 hb | exact nS3 hb | exact nS4 hb | exact nP0 hb | exact nP1 hb | exact nP2 hb | exact nP3 hb | rfl) (by first | exact nTg hb | exact nTo hb | exact nT1 hb | exact nT2 hb | exact nT3 hb | exact nT4 hb | rfl) (by first | decide | assumption) (by omega) (by omega) (fun r5 s5 => ?_)
  refine Z_iret dX0_kindOf_6 rfl ?_
  exact ⟨rfl, rfl, rfl⟩
set_option maxRecDepth 20000 in
theorem zX0_operand {G : tl_G} {M : zM} {J : zJ} {b : Nat} {g i : Int} (hb : NetAt b) (h0 : 0 ≤ g) (h1 : g < 40) (h2 : 0 ≤ i) (h3 : i < 3) : ZN G yX0_operand mX0_operand 0 kAll [vR b, vI g, vI i] F1 M J (qI (fun x M' J' => M' = M ∧ J' = J ∧ x = M (b + 2) (3 * g + i))) := by
  refine ZN_of (L := [_, _, _]) (by decide) rfl rfl (Nat.le_of_ble_eq_true rfl) rfl (fun hav => ?_)
  refine Z_aload_n (n := 1) dX0_operand_0 rfl rfl ?_
  refine Z_getA (n := 4) dX0_operand_1 rfl ffX0_15 (by first | exact nS0 hb | exact nS1 hb | exact nS2 hb | exact nS3 hb | exact nS4 hb | exact nP0 hb | exact nP1 hb | exact nP2 hb | exact nP3 hb | rfl) (by first | exact nS0 hb | exact nS1 hb | exact nS2 hb | exact nS3 hb | exact nS4 hb | exact nP0 hb | exact nP1 hb | exact nP2 hb | exact nP3 hb | rfl) ?_
  refine Z_iconst (n := 5) dX0_operand_4 rfl (by decide) ?_
  refine Z_iload_n (n := 6) dX0_operand_5 rfl rfl ?_
  refine Z_imul (n := 7) dX0_operand_6 rfl (by omega) ?_
  refine Z_iload_n (n := 8) dX0_operand_7 rfl rfl ?_
  refine Z_iadd (n := 9) dX0_operand_8 rfl (by omega) ?_
  refine Z_iald (n := 10) dX0_operand_9 rfl (by first | exact nS0 hb | exact nS1 hb | exact nS2 hb | exact nS3 hb | exact nS4 hb | exact nP0 hb | exact nP1 hb | exact nP2 hb | exact nP3 hb | rfl) (by first | exact nTg hb | exact nTo hb | exact nT1 hb | exact nT2 hb | exact nT3 hb | exact nT4 hb | rfl) (by first | decide | assumption) (by omega) (by omega) (fun r9 s9 => ?_)
  refine Z_iret dX0_operand_10 rfl ?_
  exact ⟨rfl, rfl, rfl⟩
set_option maxRecDepth 20000 in
theorem zX0_hasOperands {G : tl_G} {M : zM} {J : zJ} {b : Nat} {k u v w : Int} (hb : NetAt b) (h0 : 0 ≤ k) (h1 : k ≤ 10) : ZN G yX0_hasOperands mX0_hasOperands 1 kAll [vR b, vI k, vI u, vI v, vI w] F1 M J (qI (fun x M' J' => M' = M ∧ J' = J ∧ ((x = 1 ∧ ((opF k < 1 ∨ (0 ≤ u ∧ u < M b 4)) ∧ (opF k < 2 ∨ (0 ≤ v ∧ v < M b 4)) ∧ (opF k < 3 ∨ (0 ≤ w ∧ w < M b 4)))) ∨ (x = 0 ∧ (¬ ((opF k < 1 ∨ (0 ≤ u ∧ u < M b 4)) ∧ (opF k < 2 ∨ (0 ≤ v ∧ v < M b 4)) ∧ (opF k < 3 ∨ (0 ≤ w ∧ w < M b 4)))))))) := by
  refine ZN_of (L := [_, _, _, _, _, _]) (by decide) rfl rfl (Nat.le_of_ble_eq_true rfl) rfl (fun hav => ?_)
  refine Z_getsN (i := 1) (n := 3) dX0_hasOperands_0 rfl (by decide) (by decide) rfl rfl ?_
  refine Z_iload_n (n := 4) dX0_hasOperands_3 rfl rfl ?_
  refine Z_ialdS1 (n := 5) dX0_hasOperands_4 rfl (by omega) (by omega) (fun r4 s4 => ?_)
  refine Z_istore (L' := [_, _, _, _, _, _]) (n := 7) dX0_hasOperands_5 rfl (by decide) rfl rfl ?_
  refine Z_iload (n := 9) dX0_hasOperands_7 rfl rfl ?_
  refine Z_iconst (n := 10) dX0_hasOperands_9 rfl (by decide) ?_
  refine Z_icmp_lt (n := 13) (t := 21) dX0_hasOperands_10 rfl (by decide) (fun c10 => ?_) (fun c10 => ?_)
  · refine Z_iload (n := 23) dX0_hasOperands_21 rfl rfl ?_
    refine Z_iconst (n := 24) dX0_hasOperands_23 rfl (by decide) ?_
    refine Z_icmp_lt (n := 27) (t := 35) dX0_hasOperands_24 rfl (by decide) (fun c24 => ?_) (fun c24 => ?_)
    · refine Z_iload (n := 37) dX0_hasOperands_35 rfl rfl ?_
      refine Z_iconst (n := 38) dX0_hasOperands_37 rfl (by decide) ?_
      refine Z_icmp_lt (n := 41) (t := 50) dX0_hasOperands_38 rfl (by decide) (fun c38 => ?_) (fun c38 => ?_)
      · refine Z_iconst (n := 51) dX0_hasOperands_50 rfl (by decide) ?_
        refine Z_goto (t := 55) dX0_hasOperands_51 (by decide) ?_
        refine Z_zret dX0_hasOperands_55 rfl (by first | assumption | omega | decide) (by first | assumption | omega | decide) ?_
        refine ⟨rfl, rfl, ?_⟩; omega
      · refine Z_aload_n (n := 42) dX0_hasOperands_41 rfl rfl ?_
        refine Z_iload (n := 44) dX0_hasOperands_42 rfl rfl ?_
        refine Z_callVi (n := 47) [_] _ dX0_hasOperands_44 rfl cwX0_34 rfl rfl (by first | exact nS0 hb | exact nS1 hb | exact nS2 hb | exact nS3 hb | exact nS4 hb | exact nP0 hb | exact nP1 hb | exact nP2 hb | exact nP3 hb | rfl) (Nat.le_of_ble_eq_true rfl) (by refine ⟨?_, ?_, ?_, ?_⟩ <;> exact Nat.le_of_ble_eq_true rfl) (fun _ h => h) (zX0_hasGate  (by first | assumption | omega | decide)) ?_
        intro x44 M44 J44 z44 f44 q44
        obtain ⟨e44_1, e44_2, h44⟩ := q44
        replace e44_1 := e44_1.symm; subst e44_1
        replace e44_2 := e44_2.symm; subst e44_2
        refine Z_if_eq (n := 50) (t := 54) dX0_hasOperands_47 rfl (by decide) (fun c47 => ?_) (fun c47 => ?_)
        · refine Z_iconst (n := 55) dX0_hasOperands_54 rfl (by decide) ?_
          refine Z_zret dX0_hasOperands_55 rfl (by first | assumption | omega | decide) (by first | assumption | omega | decide) ?_
          refine ⟨rfl, rfl, ?_⟩; omega
        · refine Z_iconst (n := 51) dX0_hasOperands_50 rfl (by decide) ?_
          refine Z_goto (t := 55) dX0_hasOperands_51 (by decide) ?_
          refine Z_zret dX0_hasOperands_55 rfl (by first | assumption | omega | decide) (by first | assumption | omega | decide) ?_
          refine ⟨rfl, rfl, ?_⟩; omega
    · refine Z_aload_n (n := 28) dX0_hasOperands_27 rfl rfl ?_
      refine Z_iload_n (n := 29) dX0_hasOperands_28 rfl rfl ?_
      refine Z_callVi (n := 32) [_] _ dX0_hasOperands_29 rfl cwX0_34 rfl rfl (by first | exact nS0 hb | exact nS1 hb | exact nS2 hb | exact nS3 hb | exact nS4 hb | exact nP0 hb | exact nP1 hb | exact nP2 hb | exact nP3 hb | rfl) (Nat.le_of_ble_eq_true rfl) (by refine ⟨?_, ?_, ?_, ?_⟩ <;> exact Nat.le_of_ble_eq_true rfl) (fun _ h => h) (zX0_hasGate  (by first | assumption | omega | decide)) ?_
      intro x29 M29 J29 z29 f29 q29
      obtain ⟨e29_1, e29_2, h29⟩ := q29
      replace e29_1 := e29_1.symm; subst e29_1
      replace e29_2 := e29_2.symm; subst e29_2
      refine Z_if_eq (n := 35) (t := 54) dX0_hasOperands_32 rfl (by decide) (fun c32 => ?_) (fun c32 => ?_)
      · refine Z_iconst (n := 55) dX0_hasOperands_54 rfl (by decide) ?_
        refine Z_zret dX0_hasOperands_55 rfl (by first | assumption | omega | decide) (by first | assumption | omega | decide) ?_
        refine ⟨rfl, rfl, ?_⟩; omega
      · refine Z_iload (n := 37) dX0_hasOperands_35 rfl rfl ?_
        refine Z_iconst (n := 38) dX0_hasOperands_37 rfl (by decide) ?_
        refine Z_icmp_lt (n := 41) (t := 50) dX0_hasOperands_38 rfl (by decide) (fun c38 => ?_) (fun c38 => ?_)
        · refine Z_iconst (n := 51) dX0_hasOperands_50 rfl (by decide) ?_
          refine Z_goto (t := 55) dX0_hasOperands_51 (by decide) ?_
          refine Z_zret dX0_hasOperands_55 rfl (by first | assumption | omega | decide) (by first | assumption | omega | decide) ?_
          refine ⟨rfl, rfl, ?_⟩; omega
        · refine Z_aload_n (n := 42) dX0_hasOperands_41 rfl rfl ?_
          refine Z_iload (n := 44) dX0_hasOperands_42 rfl rfl ?_
          refine Z_callVi (n := 47) [_] _ dX0_hasOperands_44 rfl cwX0_34 rfl rfl (by first | exact nS0 hb | exact nS1 hb | exact nS2 hb | exact nS3 hb | exact nS4 hb | exact nP0 hb | exact nP1 hb | exact nP2 hb | exact nP3 hb | rfl) (Nat.le_of_ble_eq_true rfl) (by refine ⟨?_, ?_, ?_, ?_⟩ <;> exact Nat.le_of_ble_eq_true rfl) (fun _ h => h) (zX0_hasGate  (by first | assumption | omega | decide)) ?_
          intro x44 M44 J44 z44 f44 q44
          obtain ⟨e44_1, e44_2, h44⟩ := q44
          replace e44_1 := e44_1.symm; subst e44_1
          replace e44_2 := e44_2.symm; subst e44_2
          refine Z_if_eq (n := 50) (t := 54) dX0_hasOperands_47 rfl (by decide) (fun c47 => ?_) (fun c47 => ?_)
          · refine Z_iconst (n := 55) dX0_hasOperands_54 rfl (by decide) ?_
            refine Z_zret dX0_hasOperands_55 rfl (by first | assumption | omega | decide) (by first | assumption | omega | decide) ?_
            refine ⟨rfl, rfl, ?_⟩; omega
          · refine Z_iconst (n := 51) dX0_hasOperands_50 rfl (by decide) ?_
            refine Z_goto (t := 55) dX0_hasOperands_51 (by decide) ?_
            refine Z_zret dX0_hasOperands_55 rfl (by first | assumption | omega | decide) (by first | assumption | omega | decide) ?_
            refine ⟨rfl, rfl, ?_⟩; omega
  · refine Z_aload_n (n := 14) dX0_hasOperands_13 rfl rfl ?_
    refine Z_iload_n (n := 15) dX0_hasOperands_14 rfl rfl ?_
    refine Z_callVi (n := 18) [_] _ dX0_hasOperands_15 rfl cwX0_34 rfl rfl (by first | exact nS0 hb | exact nS1 hb | exact nS2 hb | exact nS3 hb | exact nS4 hb | exact nP0 hb | exact nP1 hb | exact nP2 hb | exact nP3 hb | rfl) (Nat.le_of_ble_eq_true rfl) (by refine ⟨?_, ?_, ?_, ?_⟩ <;> exact Nat.le_of_ble_eq_true rfl) (fun _ h => h) (zX0_hasGate  (by first | assumption | omega | decide)) ?_
    intro x15 M15 J15 z15 f15 q15
    obtain ⟨e15_1, e15_2, h15⟩ := q15
    replace e15_1 := e15_1.symm; subst e15_1
    replace e15_2 := e15_2.symm; subst e15_2
    refine Z_if_eq (n := 21) (t := 54) dX0_hasOperands_18 rfl (by decide) (fun c18 => ?_) (fun c18 => ?_)
    · refine Z_iconst (n := 55) dX0_hasOperands_54 rfl (by decide) ?_
      refine Z_zret dX0_hasOperands_55 rfl (by first | assumption | omega | decide) (by first | assumption | omega | decide) ?_
      refine ⟨rfl, rfl, ?_⟩; omega
    · refine Z_iload (n := 23) dX0_hasOperands_21 rfl rfl ?_
      refine Z_iconst (n := 24) dX0_hasOperands_23 rfl (by decide) ?_
      refine Z_icmp_lt (n := 27) (t := 35) dX0_hasOperands_24 rfl (by decide) (fun c24 => ?_) (fun c24 => ?_)
      · refine Z_iload (n := 37) dX0_hasOperands_35 rfl rfl ?_
        refine Z_iconst (n := 38) dX0_hasOperands_37 rfl (by decide) ?_
        refine Z_icmp_lt (n := 41) (t := 50) dX0_hasOperands_38 rfl (by decide) (fun c38 => ?_) (fun c38 => ?_)
        · refine Z_iconst (n := 51) dX0_hasOperands_50 rfl (by decide) ?_
          refine Z_goto (t := 55) dX0_hasOperands_51 (by decide) ?_
          refine Z_zret dX0_hasOperands_55 rfl (by first | assumption | omega | decide) (by first | assumption | omega | decide) ?_
          refine ⟨rfl, rfl, ?_⟩; omega
        · refine Z_aload_n (n := 42) dX0_hasOperands_41 rfl rfl ?_
          refine Z_iload (n := 44) dX0_hasOperands_42 rfl rfl ?_
          refine Z_callVi (n := 47) [_] _ dX0_hasOperands_44 rfl cwX0_34 rfl rfl (by first | exact nS0 hb | exact nS1 hb | exact nS2 hb | exact nS3 hb | exact nS4 hb | exact nP0 hb | exact nP1 hb | exact nP2 hb | exact nP3 hb | rfl) (Nat.le_of_ble_eq_true rfl) (by refine ⟨?_, ?_, ?_, ?_⟩ <;> exact Nat.le_of_ble_eq_true rfl) (fun _ h => h) (zX0_hasGate  (by first | assumption | omega | decide)) ?_
          intro x44 M44 J44 z44 f44 q44
          obtain ⟨e44_1, e44_2, h44⟩ := q44
          replace e44_1 := e44_1.symm; subst e44_1
          replace e44_2 := e44_2.symm; subst e44_2
          refine Z_if_eq (n := 50) (t := 54) dX0_hasOperands_47 rfl (by decide) (fun c47 => ?_) (fun c47 => ?_)
          · refine Z_iconst (n := 55) dX0_hasOperands_54 rfl (by decide) ?_
            refine Z_zret dX0_hasOperands_55 rfl (by first | assumption | omega | decide) (by first | assumption | omega | decide) ?_
            refine ⟨rfl, rfl, ?_⟩; omega
          · refine Z_iconst (n := 51) dX0_hasOperands_50 rfl (by decide) ?_
            refine Z_goto (t := 55) dX0_hasOperands_51 (by decide) ?_
            refine Z_zret dX0_hasOperands_55 rfl (by first | assumption | omega | decide) (by first | assumption | omega | decide) ?_
            refine ⟨rfl, rfl, ?_⟩; omega
      · refine Z_aload_n (n := 28) dX0_hasOperands_27 rfl rfl ?_
        refine Z_iload_n (n := 29) dX0_hasOperands_28 rfl rfl ?_
        refine Z_callVi (n := 32) [_] _ dX0_hasOperands_29 rfl cwX0_34 rfl rfl (by first | exact nS0 hb | exact nS1 hb | exact nS2 hb | exact nS3 hb | exact nS4 hb | exact nP0 hb | exact nP1 hb | exact nP2 hb | exact nP3 hb | rfl) (Nat.le_of_ble_eq_true rfl) (by refine ⟨?_, ?_, ?_, ?_⟩ <;> exact Nat.le_of_ble_eq_true rfl) (fun _ h => h) (zX0_hasGate  (by first | assumption | omega | decide)) ?_
        intro x29 M29 J29 z29 f29 q29
        obtain ⟨e29_1, e29_2, h29⟩ := q29
        replace e29_1 := e29_1.symm; subst e29_1
        replace e29_2 := e29_2.symm; subst e29_2
        refine Z_if_eq (n := 35) (t := 54) dX0_hasOperands_32 rfl (by decide) (fun c32 => ?_) (fun c32 => ?_)
        · refine Z_iconst (n := 55) dX0_hasOperands_54 rfl (by decide) ?_
          refine Z_zret dX0_hasOperands_55 rfl (by first | assumption | omega | decide) (by first | assumption | omega | decide) ?_
          refine ⟨rfl, rfl, ?_⟩; omega
        · refine Z_iload (n := 37) dX0_hasOperands_35 rfl rfl ?_
          refine Z_iconst (n := 38) dX0_hasOperands_37 rfl (by decide) ?_
          refine Z_icmp_lt (n := 41) (t := 50) dX0_hasOperands_38 rfl (by decide) (fun c38 => ?_) (fun c38 => ?_)
          · refine Z_iconst (n := 51) dX0_hasOperands_50 rfl (by decide) ?_
            refine Z_goto (t := 55) dX0_hasOperands_51 (by decide) ?_
            refine Z_zret dX0_hasOperands_55 rfl (by first | assumption | omega | decide) (by first | assumption | omega | decide) ?_
            refine ⟨rfl, rfl, ?_⟩; omega
          · refine Z_aload_n (n := 42) dX0_hasOperands_41 rfl rfl ?_
            refine Z_iload (n := 44) dX0_hasOperands_42 rfl rfl ?_
            refine Z_callVi (n := 47) [_] _ dX0_hasOperands_44 rfl cwX0_34 rfl rfl (by first | exact nS0 hb | exact nS1 hb | exact nS2 hb | exact nS3 hb | exact nS4 hb | exact nP0 hb | exact nP1 hb | exact nP2 hb | exact nP3 hb | rfl) (Nat.le_of_ble_eq_true rfl) (by refine ⟨?_, ?_, ?_, ?_⟩ <;> exact Nat.le_of_ble_eq_true rfl) (fun _ h => h) (zX0_hasGate  (by first | assumption | omega | decide)) ?_
            intro x44 M44 J44 z44 f44 q44
            obtain ⟨e44_1, e44_2, h44⟩ := q44
            replace e44_1 := e44_1.symm; subst e44_1
            replace e44_2 := e44_2.symm; subst e44_2
            refine Z_if_eq (n := 50) (t := 54) dX0_hasOperands_47 rfl (by decide) (fun c47 => ?_) (fun c47 => ?_)
            · refine Z_iconst (n := 55) dX0_hasOperands_54 rfl (by decide) ?_
              refine Z_zret dX0_hasOperands_55 rfl (by first | assumption | omega | decide) (by first | assumption | omega | decide) ?_
              refine ⟨rfl, rfl, ?_⟩; omega
            · refine Z_iconst (n := 51) dX0_hasOperands_50 rfl (by decide) ?_
              refine Z_goto (t := 55) dX0_hasOperands_51 (by decide) ?_
              refine Z_zret dX0_hasOperands_55 rfl (by first | assumption | omega | decide) (by first | assumption | omega | decide) ?_
              refine ⟨rfl, rfl, ?_⟩; omega
set_option maxRecDepth 20000 in
theorem zX0_addGate {G : tl_G} {M : zM} {J : zJ} {b : Nat} {K : Nat → Prop} {k u v w : Int} (hb : NetAt b) (h0 : 0 ≤ k) (h1 : k ≤ 10) (hK0 : ¬ K b) (hK1 : ¬ K (b + 1)) (hK2 : ¬ K (b + 2)) : ZN G yX0_addGate mX0_addGate 0 K [vR b, vI k, vI u, vI v, vI w] F1 M J (qI (fun x M' J' => J' = J ∧ ((x = -4 ∧ M' = M ∧ 40 ≤ M b 4) ∨ (x = M b 4 ∧ M b 4 < 40 ∧ M' = uz (uz (uz (uz (uz M (b + 1) (M b 4) k) (b + 2) (3 * M b 4) u) (b + 2) (3 * M b 4 + 1) v) (b + 2) (3 * M b 4 + 2) w) b 4 (M b 4 + 1))))) := by
  refine ZN_of (L := [_, _, _, _, _]) (by decide) rfl rfl (Nat.le_of_ble_eq_true rfl) rfl (fun hav => ?_)
  refine Z_aload_n (n := 1) dX0_addGate_0 rfl rfl ?_
  refine Z_getI (n := 4) (ki := 4) dX0_addGate_1 rfl ffX0_24 rfl (by first | exact nS0 hb | exact nS1 hb | exact nS2 hb | exact nS3 hb | exact nS4 hb | exact nP0 hb | exact nP1 hb | exact nP2 hb | exact nP3 hb | rfl) (by first | exact nTg hb | exact nTo hb | exact nT1 hb | exact nT2 hb | exact nT3 hb | exact nT4 hb | rfl) (fun r1 s1 => ?_)
  try simp only [uz_oo (show b ≠ b + 1 by omega), uz_oo (show b ≠ b + 2 by omega), uz_s] at r1 s1 ⊢
  refine Z_bipush (n := 6) dX0_addGate_4 rfl (by decide) (by decide) ?_
  refine Z_icmp_lt (n := 9) (t := 12) dX0_addGate_6 rfl (by decide) (fun c6 => ?_) (fun c6 => ?_)
  · refine Z_aload_n (n := 13) dX0_addGate_12 rfl rfl ?_
    refine Z_getA (n := 16) dX0_addGate_13 rfl ffX0_9 (by first | exact nS0 hb | exact nS1 hb | exact nS2 hb | exact nS3 hb | exact nS4 hb | exact nP0 hb | exact nP1 hb | exact nP2 hb | exact nP3 hb | rfl) (by first | exact nS0 hb | exact nS1 hb | exact nS2 hb | exact nS3 hb | exact nS4 hb | exact nP0 hb | exact nP1 hb | exact nP2 hb | exact nP3 hb | rfl) ?_
    refine Z_aload_n (n := 17) dX0_addGate_16 rfl rfl ?_
    refine Z_getI (n := 20) (ki := 4) dX0_addGate_17 rfl ffX0_24 rfl (by first | exact nS0 hb | exact nS1 hb | exact nS2 hb | exact nS3 hb | exact nS4 hb | exact nP0 hb | exact nP1 hb | exact nP2 hb | exact nP3 hb | rfl) (by first | exact nTg hb | exact nTo hb | exact nT1 hb | exact nT2 hb | exact nT3 hb | exact nT4 hb | rfl) (fun r17 s17 => ?_)
    try simp only [uz_oo (show b ≠ b + 1 by omega), uz_oo (show b ≠ b + 2 by omega), uz_s] at r17 s17 ⊢
    refine Z_iload_n (n := 21) dX0_addGate_20 rfl rfl ?_
    refine Z_iast (n := 22) dX0_addGate_21 rfl (by first | exact nS0 hb | exact nS1 hb | exact nS2 hb | exact nS3 hb | exact nS4 hb | exact nP0 hb | exact nP1 hb | exact nP2 hb | exact nP3 hb | rfl) (by first | exact nTg hb | exact nTo hb | exact nT1 hb | exact nT2 hb | exact nT3 hb | exact nT4 hb | rfl) (by first | decide | assumption) (by omega) (by omega) (by omega) (by omega) (by assumption) ?_
    refine Z_aload_n (n := 23) dX0_addGate_22 rfl rfl ?_
    refine Z_getA (n := 26) dX0_addGate_23 rfl ffX0_15 (by first | exact nS0 hb | exact nS1 hb | exact nS2 hb | exact nS3 hb | exact nS4 hb | exact nP0 hb | exact nP1 hb | exact nP2 hb | exact nP3 hb | rfl) (by first | exact nS0 hb | exact nS1 hb | exact nS2 hb | exact nS3 hb | exact nS4 hb | exact nP0 hb | exact nP1 hb | exact nP2 hb | exact nP3 hb | rfl) ?_
    refine Z_iconst (n := 27) dX0_addGate_26 rfl (by decide) ?_
    refine Z_aload_n (n := 28) dX0_addGate_27 rfl rfl ?_
    refine Z_getI (n := 31) (ki := 4) dX0_addGate_28 rfl ffX0_24 rfl (by first | exact nS0 hb | exact nS1 hb | exact nS2 hb | exact nS3 hb | exact nS4 hb | exact nP0 hb | exact nP1 hb | exact nP2 hb | exact nP3 hb | rfl) (by first | exact nTg hb | exact nTo hb | exact nT1 hb | exact nT2 hb | exact nT3 hb | exact nT4 hb | rfl) (fun r28 s28 => ?_)
    try simp only [uz_oo (show b ≠ b + 1 by omega), uz_oo (show b ≠ b + 2 by omega), uz_s] at r28 s28 ⊢
    refine Z_imul (n := 32) dX0_addGate_31 rfl (by omega) ?_
    refine Z_iload_n (n := 33) dX0_addGate_32 rfl rfl ?_
    refine Z_iast (n := 34) dX0_addGate_33 rfl (by first | exact nS0 hb | exact nS1 hb | exact nS2 hb | exact nS3 hb | exact nS4 hb | exact nP0 hb | exact nP1 hb | exact nP2 hb | exact nP3 hb | rfl) (by first | exact nTg hb | exact nTo hb | exact nT1 hb | exact nT2 hb | exact nT3 hb | exact nT4 hb | rfl) (by first | decide | assumption) (by omega) (by omega) (by first | exact (show zI u from hav (vI u) (by simp)).1 | exact (show zI u from hav (vI u) (by simp)).2) (by first | exact (show zI u from hav (vI u) (by simp)).1 | exact (show zI u from hav (vI u) (by simp)).2) (by assumption) ?_
    refine Z_aload_n (n := 35) dX0_addGate_34 rfl rfl ?_
    refine Z_getA (n := 38) dX0_addGate_35 rfl ffX0_15 (by first | exact nS0 hb | exact nS1 hb | exact nS2 hb | exact nS3 hb | exact nS4 hb | exact nP0 hb | exact nP1 hb | exact nP2 hb | exact nP3 hb | rfl) (by first | exact nS0 hb | exact nS1 hb | exact nS2 hb | exact nS3 hb | exact nS4 hb | exact nP0 hb | exact nP1 hb | exact nP2 hb | exact nP3 hb | rfl) ?_
    refine Z_iconst (n := 39) dX0_addGate_38 rfl (by decide) ?_
    refine Z_aload_n (n := 40) dX0_addGate_39 rfl rfl ?_
    refine Z_getI (n := 43) (ki := 4) dX0_addGate_40 rfl ffX0_24 rfl (by first | exact nS0 hb | exact nS1 hb | exact nS2 hb | exact nS3 hb | exact nS4 hb | exact nP0 hb | exact nP1 hb | exact nP2 hb | exact nP3 hb | rfl) (by first | exact nTg hb | exact nTo hb | exact nT1 hb | exact nT2 hb | exact nT3 hb | exact nT4 hb | rfl) (fun r40 s40 => ?_)
    try simp only [uz_oo (show b ≠ b + 1 by omega), uz_oo (show b ≠ b + 2 by omega), uz_s] at r40 s40 ⊢
    refine Z_imul (n := 44) dX0_addGate_43 rfl (by omega) ?_
    refine Z_iconst (n := 45) dX0_addGate_44 rfl (by decide) ?_
    refine Z_iadd (n := 46) dX0_addGate_45 rfl (by omega) ?_
    refine Z_iload_n (n := 47) dX0_addGate_46 rfl rfl ?_
    refine Z_iast (n := 48) dX0_addGate_47 rfl (by first | exact nS0 hb | exact nS1 hb | exact nS2 hb | exact nS3 hb | exact nS4 hb | exact nP0 hb | exact nP1 hb | exact nP2 hb | exact nP3 hb | rfl) (by first | exact nTg hb | exact nTo hb | exact nT1 hb | exact nT2 hb | exact nT3 hb | exact nT4 hb | rfl) (by first | decide | assumption) (by omega) (by omega) (by first | exact (show zI v from hav (vI v) (by simp)).1 | exact (show zI v from hav (vI v) (by simp)).2) (by first | exact (show zI v from hav (vI v) (by simp)).1 | exact (show zI v from hav (vI v) (by simp)).2) (by assumption) ?_
    refine Z_aload_n (n := 49) dX0_addGate_48 rfl rfl ?_
    refine Z_getA (n := 52) dX0_addGate_49 rfl ffX0_15 (by first | exact nS0 hb | exact nS1 hb | exact nS2 hb | exact nS3 hb | exact nS4 hb | exact nP0 hb | exact nP1 hb | exact nP2 hb | exact nP3 hb | rfl) (by first | exact nS0 hb | exact nS1 hb | exact nS2 hb | exact nS3 hb | exact nS4 hb | exact nP0 hb | exact nP1 hb | exact nP2 hb | exact nP3 hb | rfl) ?_
    refine Z_iconst (n := 53) dX0_addGate_52 rfl (by decide) ?_
    refine Z_aload_n (n := 54) dX0_addGate_53 rfl rfl ?_
    refine Z_getI (n := 57) (ki := 4) dX0_addGate_54 rfl ffX0_24 rfl (by first | exact nS0 hb | exact nS1 hb | exact nS2 hb | exact nS3 hb | exact nS4 hb | exact nP0 hb | exact nP1 hb | exact nP2 hb | exact nP3 hb | rfl) (by first | exact nTg hb | exact nTo hb | exact nT1 hb | exact nT2 hb | exact nT3 hb | exact nT4 hb | rfl) (fun r54 s54 => ?_)
    try simp only [uz_oo (show b ≠ b + 1 by omega), uz_oo (show b ≠ b + 2 by omega), uz_s] at r54 s54 ⊢
    refine Z_imul (n := 58) dX0_addGate_57 rfl (by omega) ?_
    refine Z_iconst (n := 59) dX0_addGate_58 rfl (by decide) ?_
    refine Z_iadd (n := 60) dX0_addGate_59 rfl (by omega) ?_
    refine Z_iload (n := 62) dX0_addGate_60 rfl rfl ?_
    refine Z_iast (n := 63) dX0_addGate_62 rfl (by first | exact nS0 hb | exact nS1 hb | exact nS2 hb | exact nS3 hb | exact nS4 hb | exact nP0 hb | exact nP1 hb | exact nP2 hb | exact nP3 hb | rfl) (by first | exact nTg hb | exact nTo hb | exact nT1 hb | exact nT2 hb | exact nT3 hb | exact nT4 hb | rfl) (by first | decide | assumption) (by omega) (by omega) (by first | exact (show zI w from hav (vI w) (by simp)).1 | exact (show zI w from hav (vI w) (by simp)).2) (by first | exact (show zI w from hav (vI w) (by simp)).1 | exact (show zI w from hav (vI w) (by simp)).2) (by assumption) ?_
    refine Z_aload_n (n := 64) dX0_addGate_63 rfl rfl ?_
    refine Z_dup (n := 65) dX0_addGate_64 rfl rfl ?_
    refine Z_getI (n := 68) (ki := 4) dX0_addGate_65 rfl ffX0_24 rfl (by first | exact nS0 hb | exact nS1 hb | exact nS2 hb | exact nS3 hb | exact nS4 hb | exact nP0 hb | exact nP1 hb | exact nP2 hb | exact nP3 hb | rfl) (by first | exact nTg hb | exact nTo hb | exact nT1 hb | exact nT2 hb | exact nT3 hb | exact nT4 hb | rfl) (fun r65 s65 => ?_)
    try simp only [uz_oo (show b ≠ b + 1 by omega), uz_oo (show b ≠ b + 2 by omega), uz_s] at r65 s65 ⊢
    refine Z_iconst (n := 69) dX0_addGate_68 rfl (by decide) ?_
    refine Z_iadd (n := 70) dX0_addGate_69 rfl (by omega) ?_
    refine Z_putI (n := 73) (ki := 4) dX0_addGate_70 rfl ffX0_24 rfl (by decide) (by first | exact nS0 hb | exact nS1 hb | exact nS2 hb | exact nS3 hb | exact nS4 hb | exact nP0 hb | exact nP1 hb | exact nP2 hb | exact nP3 hb | rfl) (by first | exact nTg hb | exact nTo hb | exact nT1 hb | exact nT2 hb | exact nT3 hb | exact nT4 hb | rfl) (by first | assumption | omega | decide) (by first | assumption | omega | decide) (by assumption) ?_
    refine Z_aload_n (n := 74) dX0_addGate_73 rfl rfl ?_
    refine Z_getI (n := 77) (ki := 4) dX0_addGate_74 rfl ffX0_24 rfl (by first | exact nS0 hb | exact nS1 hb | exact nS2 hb | exact nS3 hb | exact nS4 hb | exact nP0 hb | exact nP1 hb | exact nP2 hb | exact nP3 hb | rfl) (by first | exact nTg hb | exact nTo hb | exact nT1 hb | exact nT2 hb | exact nT3 hb | exact nT4 hb | rfl) (fun r74 s74 => ?_)
    try simp only [uz_oo (show b ≠ b + 1 by omega), uz_oo (show b ≠ b + 2 by omega), uz_s] at r74 s74 ⊢
    refine Z_iconst (n := 78) dX0_addGate_77 rfl (by decide) ?_
    refine Z_isub (n := 79) dX0_addGate_78 rfl (by omega) ?_
    refine Z_iret dX0_addGate_79 rfl ?_
    exact ⟨rfl, Or.inr ⟨by omega, by omega, rfl⟩⟩
  · refine Z_bipush (n := 11) dX0_addGate_9 rfl (by decide) (by decide) ?_
    refine Z_iret dX0_addGate_11 rfl ?_
    exact ⟨rfl, Or.inl ⟨rfl, rfl, by omega⟩⟩
set_option maxRecDepth 20000 in
theorem zX0_addOutput {G : tl_G} {M : zM} {J : zJ} {b : Nat} {K : Nat → Prop} {g : Int} (hb : NetAt b) (h0 : 0 ≤ g) (h1 : g ≤ 39) (hK0 : ¬ K b) (hK1 : ¬ K (b + 3)) : ZN G yX0_addOutput mX0_addOutput 0 K [vR b, vI g] F1 M J (qI (fun x M' J' => J' = J ∧ ((x = -4 ∧ M' = M ∧ 4 ≤ M b 5) ∨ (x = M b 5 ∧ M b 5 < 4 ∧ M' = uz (uz M (b + 3) (M b 5) g) b 5 (M b 5 + 1))))) := by
  refine ZN_of (L := [_, _]) (by decide) rfl rfl (Nat.le_of_ble_eq_true rfl) rfl (fun hav => ?_)
  refine Z_aload_n (n := 1) dX0_addOutput_0 rfl rfl ?_
  refine Z_getI (n := 4) (ki := 5) dX0_addOutput_1 rfl ffX0_28 rfl (by first | exact nS0 hb | exact nS1 hb | exact nS2 hb | exact nS3 hb | exact nS4 hb | exact nP0 hb | exact nP1 hb | exact nP2 hb | exact nP3 hb | rfl) (by first | exact nTg hb | exact nTo hb | exact nT1 hb | exact nT2 hb | exact nT3 hb | exact nT4 hb | rfl) (fun r1 s1 => ?_)
  try simp only [uz_oo (show b ≠ b + 3 by omega), uz_s] at r1 s1 ⊢
  refine Z_iconst (n := 5) dX0_addOutput_4 rfl (by decide) ?_
  refine Z_icmp_lt (n := 8) (t := 11) dX0_addOutput_5 rfl (by decide) (fun c5 => ?_) (fun c5 => ?_)
  · refine Z_aload_n (n := 12) dX0_addOutput_11 rfl rfl ?_
    refine Z_getA (n := 15) dX0_addOutput_12 rfl ffX0_18 (by first | exact nS0 hb | exact nS1 hb | exact nS2 hb | exact nS3 hb | exact nS4 hb | exact nP0 hb | exact nP1 hb | exact nP2 hb | exact nP3 hb | rfl) (by first | exact nS0 hb | exact nS1 hb | exact nS2 hb | exact nS3 hb | exact nS4 hb | exact nP0 hb | exact nP1 hb | exact nP2 hb | exact nP3 hb | rfl) ?_
    refine Z_aload_n (n := 16) dX0_addOutput_15 rfl rfl ?_
    refine Z_getI (n := 19) (ki := 5) dX0_addOutput_16 rfl ffX0_28 rfl (by first | exact nS0 hb | exact nS1 hb | exact nS2 hb | exact nS3 hb | exact nS4 hb | exact nP0 hb | exact nP1 hb | exact nP2 hb | exact nP3 hb | rfl) (by first | exact nTg hb | exact nTo hb | exact nT1 hb | exact nT2 hb | exact nT3 hb | exact nT4 hb | rfl) (fun r16 s16 => ?_)
    try simp only [uz_oo (show b ≠ b + 3 by omega), uz_s] at r16 s16 ⊢
    refine Z_iload_n (n := 20) dX0_addOutput_19 rfl rfl ?_
    refine Z_iast (n := 21) dX0_addOutput_20 rfl (by first | exact nS0 hb | exact nS1 hb | exact nS2 hb | exact nS3 hb | exact nS4 hb | exact nP0 hb | exact nP1 hb | exact nP2 hb | exact nP3 hb | rfl) (by first | exact nTg hb | exact nTo hb | exact nT1 hb | exact nT2 hb | exact nT3 hb | exact nT4 hb | rfl) (by first | decide | assumption) (by omega) (by omega) (by first | assumption | omega | decide) (by first | assumption | omega | decide) (by assumption) ?_
    refine Z_aload_n (n := 22) dX0_addOutput_21 rfl rfl ?_
    refine Z_dup (n := 23) dX0_addOutput_22 rfl rfl ?_
    refine Z_getI (n := 26) (ki := 5) dX0_addOutput_23 rfl ffX0_28 rfl (by first | exact nS0 hb | exact nS1 hb | exact nS2 hb | exact nS3 hb | exact nS4 hb | exact nP0 hb | exact nP1 hb | exact nP2 hb | exact nP3 hb | rfl) (by first | exact nTg hb | exact nTo hb | exact nT1 hb | exact nT2 hb | exact nT3 hb | exact nT4 hb | rfl) (fun r23 s23 => ?_)
    try simp only [uz_oo (show b ≠ b + 3 by omega), uz_s] at r23 s23 ⊢
    refine Z_iconst (n := 27) dX0_addOutput_26 rfl (by decide) ?_
    refine Z_iadd (n := 28) dX0_addOutput_27 rfl (by omega) ?_
    refine Z_putI (n := 31) (ki := 5) dX0_addOutput_28 rfl ffX0_28 rfl (by decide) (by first | exact nS0 hb | exact nS1 hb | exact nS2 hb | exact nS3 hb | exact nS4 hb | exact nP0 hb | exact nP1 hb | exact nP2 hb | exact nP3 hb | rfl) (by first | exact nTg hb | exact nTo hb | exact nT1 hb | exact nT2 hb | exact nT3 hb | exact nT4 hb | rfl) (by first | assumption | omega | decide) (by first | assumption | omega | decide) (by assumption) ?_
    refine Z_aload_n (n := 32) dX0_addOutput_31 rfl rfl ?_
    refine Z_getI (n := 35) (ki := 5) dX0_addOutput_32 rfl ffX0_28 rfl (by first | exact nS0 hb | exact nS1 hb | exact nS2 hb | exact nS3 hb | exact nS4 hb | exact nP0 hb | exact nP1 hb | exact nP2 hb | exact nP3 hb | rfl) (by first | exact nTg hb | exact nTo hb | exact nT1 hb | exact nT2 hb | exact nT3 hb | exact nT4 hb | rfl) (fun r32 s32 => ?_)
    try simp only [uz_oo (show b ≠ b + 3 by omega), uz_s] at r32 s32 ⊢
    refine Z_iconst (n := 36) dX0_addOutput_35 rfl (by decide) ?_
    refine Z_isub (n := 37) dX0_addOutput_36 rfl (by omega) ?_
    refine Z_iret dX0_addOutput_37 rfl ?_
    exact ⟨rfl, Or.inr ⟨by omega, by omega, rfl⟩⟩
  · refine Z_bipush (n := 10) dX0_addOutput_8 rfl (by decide) (by decide) ?_
    refine Z_iret dX0_addOutput_10 rfl ?_
    exact ⟨rfl, Or.inl ⟨rfl, rfl, by omega⟩⟩
set_option maxRecDepth 20000 in
theorem zX0_empty {G : tl_G} {M : zM} {J : zJ} {b : Nat} {K : Nat → Prop} (hb : NetAt b) (hK0 : ¬ K b) : ZN G yX0_empty mX0_empty 0 K [vR b] F1 M J (qI (fun x M' J' => J' = J ∧ x = M b 4 ∧ M' = uz (uz M b 4 0) b 5 0)) := by
  refine ZN_of (L := [_, _]) (by decide) rfl rfl (Nat.le_of_ble_eq_true rfl) rfl (fun hav => ?_)
  refine Z_aload_n (n := 1) dX0_empty_0 rfl rfl ?_
  refine Z_getI (n := 4) (ki := 4) dX0_empty_1 rfl ffX0_24 rfl (by first | exact nS0 hb | exact nS1 hb | exact nS2 hb | exact nS3 hb | exact nS4 hb | exact nP0 hb | exact nP1 hb | exact nP2 hb | exact nP3 hb | rfl) (by first | exact nTg hb | exact nTo hb | exact nT1 hb | exact nT2 hb | exact nT3 hb | exact nT4 hb | rfl) (fun r1 s1 => ?_)
  refine Z_istore_n (L' := [_, _]) (n := 5) dX0_empty_4 rfl (by decide) rfl rfl ?_
  refine Z_aload_n (n := 6) dX0_empty_5 rfl rfl ?_
  refine Z_iconst (n := 7) dX0_empty_6 rfl (by decide) ?_
  refine Z_putI (n := 10) (ki := 4) dX0_empty_7 rfl ffX0_24 rfl (by decide) (by first | exact nS0 hb | exact nS1 hb | exact nS2 hb | exact nS3 hb | exact nS4 hb | exact nP0 hb | exact nP1 hb | exact nP2 hb | exact nP3 hb | rfl) (by first | exact nTg hb | exact nTo hb | exact nT1 hb | exact nT2 hb | exact nT3 hb | exact nT4 hb | rfl) (by first | assumption | omega | decide) (by first | assumption | omega | decide) (by assumption) ?_
  refine Z_aload_n (n := 11) dX0_empty_10 rfl rfl ?_
  refine Z_iconst (n := 12) dX0_empty_11 rfl (by decide) ?_
  refine Z_putI (n := 15) (ki := 5) dX0_empty_12 rfl ffX0_28 rfl (by decide) (by first | exact nS0 hb | exact nS1 hb | exact nS2 hb | exact nS3 hb | exact nS4 hb | exact nP0 hb | exact nP1 hb | exact nP2 hb | exact nP3 hb | rfl) (by first | exact nTg hb | exact nTo hb | exact nT1 hb | exact nT2 hb | exact nT3 hb | exact nT4 hb | rfl) (by first | assumption | omega | decide) (by first | assumption | omega | decide) (by assumption) ?_
  refine Z_iload_n (n := 16) dX0_empty_15 rfl rfl ?_
  refine Z_iret dX0_empty_16 rfl ?_
  exact ⟨rfl, rfl, rfl⟩
