/-! ===== Pool ===== -/
abbrev kMarks (a : Nat) : Prop := ¬ a = 9
abbrev kSweep (a : Nat) : Prop := ¬ a = 5 ∧ ¬ a = 10 ∧ ¬ a = 11
def ctE (f : Int → Int) (s : Int) : Nat → Int
  | 0 => 0
  | n + 1 => ctE f s n + (if f (n : Int) = s then 1 else 0)
theorem ctE_in (f : Int → Int) (s : Int) : ∀ n : Nat, 0 ≤ ctE f s n ∧ ctE f s n ≤ n
  | 0 => by simp [ctE]
  | n + 1 => by
    have h := ctE_in f s n
    unfold ctE
    split <;> omega
theorem ctE_up (f : Int → Int) (s : Int) {i : Int} (h : 0 ≤ i) : ctE f s (i + 1).toNat = ctE f s i.toNat + (if f i = s then 1 else 0) := by
  rw [show (i + 1).toNat = i.toNat + 1 by omega]
  show ctE f s i.toNat + (if f (i.toNat : Int) = s then 1 else 0) = _
  rw [Int.toNat_of_nonneg h]
def PoolF (F : zF) : Prop := F.1 5 = (1, 2) ∧ (F.2.1 5 1 = some 7 ∧ F.2.1 5 2 = some 8 ∧ F.2.1 5 3 = some 9 ∧ F.2.1 5 4 = some 10 ∧ F.2.1 5 5 = some 11) ∧ F.1 7 = (2, 252) ∧ F.1 8 = (2, 252) ∧ F.1 9 = (2, 252) ∧ F.1 10 = (2, 252) ∧ F.1 11 = (2, 256)
theorem PoolF1 : PoolF F1 := ⟨rfl, ⟨rfl, rfl, rfl, rfl, rfl⟩, rfl, rfl, rfl, rfl, rfl⟩
/-- the pool's links are nodes, its two ends stand below all variables -/
def pI (M : zM) : Prop := M 6 0 = 8 ∧ M 6 1 = 8 ∧ (M 5 6 = -1 ∨ 2 ≤ M 5 6) ∧ (∀ n : Int, 2 ≤ n → n < 252 → (M 10 n = -1 ∨ 2 ≤ M 10 n)) ∧ ∀ r : Int, 0 ≤ r → r < 256 → (M 11 r = -1 ∨ 2 ≤ M 11 r)
theorem pI_ge {M : zM} {n : Int} (h : pI M) (h0 : 0 ≤ n) (h1 : M 6 n ≤ 7) : 2 ≤ n := by
  rcases (show n = 0 ∨ n = 1 ∨ 2 ≤ n by omega) with rfl | rfl | h2
  · have := h.1; omega
  · have := h.2.1; omega
  · exact h2
theorem pI_fr {M M' : zM} (h : pI M) (h5 : M' 5 = M 5) (h6 : M' 6 = M 6) (h10 : M' 10 = M 10) (h11 : M' 11 = M 11) : pI M' := by
  unfold pI
  rw [h5, h6, h10, h11]
  exact h
def entz (M : zM) (n : Int) : zM := uz (uz (uz M 10 n (M 11 (zxor (M 7 n) (M 8 n)))) 11 (zxor (M 7 n) (M 8 n)) n) 5 7 (M 5 7 + 1)
theorem pI_ent {M : zM} {n : Int} (h : pI M) (hn : 2 ≤ n) (hr : 0 ≤ zxor (M 7 n) (M 8 n) ∧ zxor (M 7 n) (M 8 n) < 256) : pI (entz M n) := by
  obtain ⟨h1, h2, h3, h4, h5⟩ := h
  unfold pI entz
  refine ⟨?_, ?_, ?_, fun k k0 k1 => ?_, fun r r0 r1 => ?_⟩
  · simp only [uz_oo (show (6 : Nat) ≠ 5 by decide), uz_oo (show (6 : Nat) ≠ 11 by decide), uz_oo (show (6 : Nat) ≠ 10 by decide)]; exact h1
  · simp only [uz_oo (show (6 : Nat) ≠ 5 by decide), uz_oo (show (6 : Nat) ≠ 11 by decide), uz_oo (show (6 : Nat) ≠ 10 by decide)]; exact h2
  · rw [uz_n (show (6 : Int) ≠ 7 by decide)]
    simp only [uz_oo (show (5 : Nat) ≠ 11 by decide), uz_oo (show (5 : Nat) ≠ 10 by decide)]; exact h3
  · simp only [uz_oo (show (10 : Nat) ≠ 5 by decide), uz_oo (show (10 : Nat) ≠ 11 by decide), uz_a]
    split
    · exact h5 _ hr.1 hr.2
    · exact h4 k k0 k1
  · simp only [uz_oo (show (11 : Nat) ≠ 5 by decide), uz_oo (show (11 : Nat) ≠ 10 by decide), uz_a]
    split
    · exact Or.inr hn
    · exact h5 r r0 r1
set_option maxRecDepth 20000 in
theorem zX2_limit {G : tl_G} {M : zM} {J : zJ}   : ZN G yX2_limit mX2_limit 0 kAll [vR 5] F1 M J (qI (fun x M' J' => M' = M ∧ J' = J ∧ x = M 5 8)) := by
  refine ZN_of (L := [_]) (by decide) rfl rfl (Nat.le_of_ble_eq_true rfl) rfl (fun hav => ?_)
  refine Z_aload_n (n := 1) dX2_limit_0 rfl rfl ?_
  refine Z_getI (n := 4) (ki := 8) dX2_limit_1 rfl ffX2_37 rfl rfl rfl (fun r1 s1 => ?_)
  refine Z_iret dX2_limit_4 rfl ?_
  exact ⟨rfl, rfl, rfl⟩
set_option maxRecDepth 20000 in
theorem zX2_usedCount {G : tl_G} {M : zM} {J : zJ}   : ZN G yX2_usedCount mX2_usedCount 0 kAll [vR 5] F1 M J (qI (fun x M' J' => M' = M ∧ J' = J ∧ x = M 5 7)) := by
  refine ZN_of (L := [_]) (by decide) rfl rfl (Nat.le_of_ble_eq_true rfl) rfl (fun hav => ?_)
  refine Z_aload_n (n := 1) dX2_usedCount_0 rfl rfl ?_
  refine Z_getI (n := 4) (ki := 7) dX2_usedCount_1 rfl ffX2_34 rfl rfl rfl (fun r1 s1 => ?_)
  refine Z_iret dX2_usedCount_4 rfl ?_
  exact ⟨rfl, rfl, rfl⟩
set_option maxRecDepth 20000 in
theorem zX2_placeOf {G : tl_G} {M : zM} {J : zJ} {n : Int} (h0 : 0 ≤ n) (h1 : n < 252) : ZN G yX2_placeOf mX2_placeOf 0 kAll [vR 5, vI n] F1 M J (qI (fun x M' J' => M' = M ∧ J' = J ∧ x = M 6 n)) := by
  refine ZN_of (L := [_, _]) (by decide) rfl rfl (Nat.le_of_ble_eq_true rfl) rfl (fun hav => ?_)
  refine Z_aload_n (n := 1) dX2_placeOf_0 rfl rfl ?_
  refine Z_getA (n := 4) dX2_placeOf_1 rfl ffX2_11 rfl rfl ?_
  refine Z_iload_n (n := 5) dX2_placeOf_4 rfl rfl ?_
  refine Z_iald (n := 6) dX2_placeOf_5 rfl rfl rfl (by first | decide | assumption) (by omega) (by omega) (fun r5 s5 => ?_)
  refine Z_iret dX2_placeOf_6 rfl ?_
  exact ⟨rfl, rfl, rfl⟩
set_option maxRecDepth 20000 in
theorem zX2_changeLimit {G : tl_G} {M : zM} {J : zJ} {K : Nat → Prop} {n : Int} (h0 : 0 ≤ n) (h1 : n ≤ 250) (hK5 : ¬ K 5) : ZN G yX2_changeLimit mX2_changeLimit 0 K [vR 5, vI n] F1 M J (qI (fun x M' J' => J' = J ∧ x = M 5 8 ∧ M' = uz M 5 8 n)) := by
  refine ZN_of (L := [_, _, _]) (by decide) rfl rfl (Nat.le_of_ble_eq_true rfl) rfl (fun hav => ?_)
  refine Z_aload_n (n := 1) dX2_changeLimit_0 rfl rfl ?_
  refine Z_getI (n := 4) (ki := 8) dX2_changeLimit_1 rfl ffX2_37 rfl rfl rfl (fun r1 s1 => ?_)
  refine Z_istore_n (L' := [_, _, _]) (n := 5) dX2_changeLimit_4 rfl (by decide) rfl rfl ?_
  refine Z_aload_n (n := 6) dX2_changeLimit_5 rfl rfl ?_
  refine Z_iload_n (n := 7) dX2_changeLimit_6 rfl rfl ?_
  refine Z_putI (n := 10) (ki := 8) dX2_changeLimit_7 rfl ffX2_37 rfl (by decide) rfl rfl (by first | assumption | omega | decide) (by first | assumption | omega | decide) (by assumption) ?_
  refine Z_iload_n (n := 11) dX2_changeLimit_10 rfl rfl ?_
  refine Z_iret dX2_changeLimit_11 rfl ?_
  exact ⟨rfl, rfl, rfl⟩
set_option maxRecDepth 20000 in
theorem zX2_unmark {G : tl_G} {M : zM} {J : zJ} {K : Nat → Prop} (hK9 : ¬ K 9) : ZN G yX2_unmark mX2_unmark 1 K [vR 5] F1 M J (qV (fun M' J' => J' = J ∧ M' = fillz M 9 252 0)) := by
  refine ZN_of (L := [_]) (by decide) rfl rfl (Nat.le_of_ble_eq_true rfl) rfl (fun hav => ?_)
  refine Z_aload_n (n := 1) dX2_unmark_0 rfl rfl ?_
  refine Z_getA (n := 4) dX2_unmark_1 rfl ffX2_21 rfl rfl ?_
  refine Z_iconst (n := 5) dX2_unmark_4 rfl (by decide) ?_
  refine Z_callSv (n := 8) [_, _] _ dX2_unmark_5 rfl cwX2_43 rfl rfl (Nat.le_of_ble_eq_true rfl) (by refine ⟨?_, ?_, ?_, ?_⟩ <;> exact Nat.le_of_ble_eq_true rfl) (fun _ h => h) (zJ7_fill_53178  (by rfl) (by decide) (by exact fun _ => rfl) (by decide) (by decide) (by assumption)) ?_
  intro M5 J5 f5 q5
  obtain ⟨e5_1, e5_2⟩ := q5
  replace e5_1 := e5_1.symm; subst e5_1
  replace e5_2 := e5_2.symm; subst e5_2
  refine Z_vret dX2_unmark_8 rfl ?_
  exact ⟨rfl, rfl⟩
set_option maxRecDepth 20000 in
theorem zX2_markWith {G : tl_G} {M : zM} {J : zJ} (k : Nat) {s n e : Int} (h0 : 0 ≤ s) (h1 : s ≤ 3) (h2 : -1 ≤ n) (h3 : n ≤ 251) (h4 : 0 ≤ e) (h5 : e + k = 8) : ZN G yX2_markWith mX2_markWith (k) kMarks [vR 5, vI s, vI n, vI e] F1 M J (qV (fun M' J' => J' = J ∧ (n < 2 → M' = M))) := by
  induction k generalizing M J s n e with
  | zero =>
    refine ZN_of (L := [_, _, _, _]) (by decide) rfl rfl (Nat.le_of_ble_eq_true rfl) rfl (fun hav => ?_)
    refine Z_iload_n (n := 1) dX2_markWith_0 rfl rfl ?_
    refine Z_iconst (n := 2) dX2_markWith_1 rfl (by decide) ?_
    refine Z_icmp_lt (n := 5) (t := 22) dX2_markWith_2 rfl (by decide) (fun c2 => ?_) (fun c2 => ?_)
    · refine Z_vret dX2_markWith_22 rfl ?_
      exact ⟨rfl, fun _ => rfl⟩
    · refine Z_iload_n (n := 6) dX2_markWith_5 rfl rfl ?_
      refine Z_bipush (n := 8) dX2_markWith_6 rfl (by decide) (by decide) ?_
      refine Z_icmp_ge (n := 11) (t := 22) dX2_markWith_8 rfl (by decide) (fun c8 => ?_) (fun c8 => ?_)
      · refine Z_vret dX2_markWith_22 rfl ?_
        exact ⟨rfl, fun _ => rfl⟩
      · omega
  | succ k ih =>
    refine ZN_of (L := [_, _, _, _]) (by decide) rfl rfl (Nat.le_of_ble_eq_true rfl) rfl (fun hav => ?_)
    refine Z_iload_n (n := 1) dX2_markWith_0 rfl rfl ?_
    refine Z_iconst (n := 2) dX2_markWith_1 rfl (by decide) ?_
    refine Z_icmp_lt (n := 5) (t := 22) dX2_markWith_2 rfl (by decide) (fun c2 => ?_) (fun c2 => ?_)
    · refine Z_vret dX2_markWith_22 rfl ?_
      exact ⟨rfl, fun _ => rfl⟩
    · refine Z_iload_n (n := 6) dX2_markWith_5 rfl rfl ?_
      refine Z_bipush (n := 8) dX2_markWith_6 rfl (by decide) (by decide) ?_
      refine Z_icmp_ge (n := 11) (t := 22) dX2_markWith_8 rfl (by decide) (fun c8 => ?_) (fun c8 => ?_)
      · refine Z_vret dX2_markWith_22 rfl ?_
        exact ⟨rfl, fun _ => rfl⟩
      · refine Z_aload_n (n := 12) dX2_markWith_11 rfl rfl ?_
        refine Z_getA (n := 15) dX2_markWith_12 rfl ffX2_21 rfl rfl ?_
        refine Z_iload_n (n := 16) dX2_markWith_15 rfl rfl ?_
        refine Z_iald (n := 17) dX2_markWith_16 rfl rfl rfl (by first | decide | assumption) (by omega) (by omega) (fun r16 s16 => ?_)
        refine Z_iload_n (n := 18) dX2_markWith_17 rfl rfl ?_
        refine Z_iand (n := 19) dX2_markWith_18 rfl ?_
        refine Z_if_eq (n := 22) (t := 23) dX2_markWith_19 rfl (by decide) (fun c19 => ?_) (fun c19 => ?_)
        · refine Z_aload_n (n := 24) dX2_markWith_23 rfl rfl ?_
          refine Z_getA (n := 27) dX2_markWith_24 rfl ffX2_21 rfl rfl ?_
          refine Z_iload_n (n := 28) dX2_markWith_27 rfl rfl ?_
          refine Z_dup2 (n := 29) dX2_markWith_28 rfl rfl rfl ?_
          refine Z_iald (n := 30) dX2_markWith_29 rfl rfl rfl (by first | decide | assumption) (by omega) (by omega) (fun r29 s29 => ?_)
          refine Z_iload_n (n := 31) dX2_markWith_30 rfl rfl ?_
          refine Z_ior (n := 32) dX2_markWith_31 rfl ?_
          have hz := zor_in3 (x := M 9 n) (y := s) (by omega) (by omega) (by omega) (by omega)
          refine Z_iast (n := 33) dX2_markWith_32 rfl rfl rfl (by first | decide | assumption) (by omega) (by omega) (by first | assumption | omega | decide) (by first | assumption | omega | decide) (by decide) ?_
          refine Z_any (fun M32 => ?_)
          refine Z_aload_n (n := 34) dX2_markWith_33 rfl rfl ?_
          refine Z_iload_n (n := 35) dX2_markWith_34 rfl rfl ?_
          refine Z_aload_n (n := 36) dX2_markWith_35 rfl rfl ?_
          refine Z_getA (n := 39) dX2_markWith_36 rfl ffX2_15 rfl rfl ?_
          refine Z_iload_n (n := 40) dX2_markWith_39 rfl rfl ?_
          refine Z_iald (n := 41) dX2_markWith_40 rfl rfl rfl (by first | decide | assumption) (by omega) (by omega) (fun r40 s40 => ?_)
          refine Z_iload_n (n := 42) dX2_markWith_41 rfl rfl ?_
          refine Z_iconst (n := 43) dX2_markWith_42 rfl (by decide) ?_
          refine Z_iadd (n := 44) dX2_markWith_43 rfl (by omega) ?_
          refine Z_callVv (n := 47) [_, _, _] _ dX2_markWith_44 rfl cwX2_49 rfl rfl rfl (Nat.le_of_ble_eq_true rfl) ⟨by show (k) + 1 ≤ ((k + 1)); omega, by show 8 + (4 + 11) + 40 * (k) ≤ 40 * ((k + 1)); omega, Nat.le_refl _, Nat.le_refl _⟩ (fun _ h => h) (@ih _ _ _ _ _  (by first | assumption | omega | decide) (by first | assumption | omega | decide) (by first | assumption | omega | decide) (by first | assumption | omega | decide) (by first | assumption | omega | decide) (by first | assumption | omega | decide)) ?_
          intro M44 J44 f44 q44
          obtain ⟨e44_1, h44⟩ := q44
          replace e44_1 := e44_1.symm; subst e44_1
          refine Z_aload_n (n := 48) dX2_markWith_47 rfl rfl ?_
          refine Z_iload_n (n := 49) dX2_markWith_48 rfl rfl ?_
          refine Z_aload_n (n := 50) dX2_markWith_49 rfl rfl ?_
          refine Z_getA (n := 53) dX2_markWith_50 rfl ffX2_18 rfl rfl ?_
          refine Z_iload_n (n := 54) dX2_markWith_53 rfl rfl ?_
          refine Z_iald (n := 55) dX2_markWith_54 rfl rfl rfl (by first | decide | assumption) (by omega) (by omega) (fun r54 s54 => ?_)
          refine Z_iload_n (n := 56) dX2_markWith_55 rfl rfl ?_
          refine Z_iconst (n := 57) dX2_markWith_56 rfl (by decide) ?_
          refine Z_iadd (n := 58) dX2_markWith_57 rfl (by omega) ?_
          refine Z_callVv (n := 61) [_, _, _] _ dX2_markWith_58 rfl cwX2_49 rfl rfl rfl (Nat.le_of_ble_eq_true rfl) ⟨by show (k) + 1 ≤ ((k + 1)); omega, by show 8 + (4 + 11) + 40 * (k) ≤ 40 * ((k + 1)); omega, Nat.le_refl _, Nat.le_refl _⟩ (fun _ h => h) (@ih _ _ _ _ _  (by first | assumption | omega | decide) (by first | assumption | omega | decide) (by first | assumption | omega | decide) (by first | assumption | omega | decide) (by first | assumption | omega | decide) (by first | assumption | omega | decide)) ?_
          intro M58 J58 f58 q58
          obtain ⟨e58_1, h58⟩ := q58
          replace e58_1 := e58_1.symm; subst e58_1
          refine Z_vret dX2_markWith_61 rfl ?_
          exact ⟨rfl, fun _ => by omega⟩
        · refine Z_vret dX2_markWith_22 rfl ?_
          exact ⟨rfl, fun _ => rfl⟩
set_option maxRecDepth 20000 in
theorem zX2_mark {G : tl_G} {M : zM} {J : zJ} {n : Int} (h2 : -1 ≤ n) (h3 : n ≤ 251) : ZN G yX2_mark mX2_mark 9 kMarks [vR 5, vI n] F1 M J (qV (fun M' J' => J' = J ∧ (n < 2 → M' = M))) := by
  refine ZN_of (L := [_, _]) (by decide) rfl rfl (Nat.le_of_ble_eq_true rfl) rfl (fun hav => ?_)
  refine Z_aload_n (n := 1) dX2_mark_0 rfl rfl ?_
  refine Z_iconst (n := 2) dX2_mark_1 rfl (by decide) ?_
  refine Z_iload_n (n := 3) dX2_mark_2 rfl rfl ?_
  refine Z_iconst (n := 4) dX2_mark_3 rfl (by decide) ?_
  refine Z_callVv (n := 7) [_, _, _] _ dX2_mark_4 rfl cwX2_49 rfl rfl rfl (Nat.le_of_ble_eq_true rfl) (by refine ⟨?_, ?_, ?_, ?_⟩ <;> exact Nat.le_of_ble_eq_true rfl) (fun _ h => h) (zX2_markWith 8  (by first | assumption | omega | decide) (by first | assumption | omega | decide) (by first | assumption | omega | decide) (by first | assumption | omega | decide) (by first | assumption | omega | decide) (by first | assumption | omega | decide)) ?_
  intro M4 J4 f4 q4
  obtain ⟨e4_1, h4⟩ := q4
  replace e4_1 := e4_1.symm; subst e4_1
  refine Z_vret dX2_mark_7 rfl ?_
  exact ⟨rfl, h4⟩
set_option maxRecDepth 20000 in
theorem zX2_markedWith {G : tl_G} {M : zM} {J : zJ} {s : Int}  : ZN G yX2_markedWith mX2_markedWith 0 kAll [vR 5, vI s] F1 M J (qI (fun x M' J' => M' = M ∧ J' = J ∧ x = ctE (fun k => M 9 (k + 2)) s 250)) := by
  refine ZN_of (L := [_, _, _, _]) (by decide) rfl rfl (Nat.le_of_ble_eq_true rfl) rfl (fun hav => ?_)
  refine Z_iconst (n := 1) dX2_markedWith_0 rfl (by decide) ?_
  refine Z_istore_n (L' := [_, _, _, _]) (n := 2) dX2_markedWith_1 rfl (by decide) rfl rfl ?_
  refine Z_iconst (n := 3) dX2_markedWith_2 rfl (by decide) ?_
  refine Z_istore_n (L' := [_, _, _, _]) (n := 4) dX2_markedWith_3 rfl (by decide) rfl rfl ?_
  have lp4 : ∀ (N4 : Nat) (n i : Int) , ((252 - i).toNat) < N4 → (2 ≤ i) → (i ≤ 252) → (n = ctE (fun k => M 9 (k + 2)) s (i - 2).toNat) → TZ G mX2_markedWith (tl_rm 0 0 0) 0 0 kAll M J 4 [some (vR 5), some (vI s), some (vI n), some (vI i)] [] F1 M J (ZM G (zPost G kAll F1 M J (qI (fun x M' J' => M' = M ∧ J' = J ∧ x = ctE (fun k => M 9 (k + 2)) s 250))) 0 0) := by
    intro N4
    induction N4 with
    | zero => intro n i  hN; omega
    | succ N4 ih4 =>
      intro n i  hN4 i4_0 i4_1 i4_2
      refine Z_iload_n (n := 5) dX2_markedWith_4 rfl rfl ?_
      refine Z_sipush (n := 8) dX2_markedWith_5 rfl (by decide) (by decide) ?_
      refine Z_icmp_ge (n := 11) (t := 30) dX2_markedWith_8 rfl (by decide) (fun c8 => ?_) (fun c8 => ?_)
      · refine Z_iload_n (n := 31) dX2_markedWith_30 rfl rfl ?_
        refine Z_iret dX2_markedWith_31 rfl ?_
        refine ⟨rfl, rfl, ?_⟩; rw [i4_2, show i = 252 by omega]; rfl
      · refine Z_aload_n (n := 12) dX2_markedWith_11 rfl rfl ?_
        refine Z_getA (n := 15) dX2_markedWith_12 rfl ffX2_21 rfl rfl ?_
        refine Z_iload_n (n := 16) dX2_markedWith_15 rfl rfl ?_
        refine Z_iald (n := 17) dX2_markedWith_16 rfl rfl rfl (by first | decide | assumption) (by omega) (by omega) (fun r16 s16 => ?_)
        refine Z_iload_n (n := 18) dX2_markedWith_17 rfl rfl ?_
        refine Z_icmp_ne (n := 21) (t := 24) dX2_markedWith_18 rfl (by decide) (fun c18 => ?_) (fun c18 => ?_)
        · refine Z_iinc (L' := [_, _, _, _]) (n := 27) dX2_markedWith_24 rfl rfl (by decide) rfl rfl (by omega) rfl ?_
          refine Z_goto (t := 4) dX2_markedWith_27 (by decide) ?_
          refine Z_loc (L' := [some _, some _, some _, some _]) (lsub_same (lsub_same (lsub_same (lsub_same lsub_nil)))) ?_
          exact ih4 _ _  (by omega) (by first | assumption | omega | decide) (by first | assumption | omega | decide) (by first | rfl | (rw [show i + 1 - 2 = (i - 2) + 1 by omega, ctE_up _ _ (by omega)]; subst i4_2; simp only [show i - 2 + 2 = i by omega]; first | rw [if_pos (by assumption)] | (rw [if_neg (by assumption)]; omega)))
        · have hcin := ctE_in (fun k => M 9 (k + 2)) s (i - 2).toNat
          refine Z_iinc (L' := [_, _, _, _]) (n := 24) dX2_markedWith_21 rfl rfl (by decide) rfl rfl (by omega) rfl ?_
          refine Z_iinc (L' := [_, _, _, _]) (n := 27) dX2_markedWith_24 rfl rfl (by decide) rfl rfl (by omega) rfl ?_
          refine Z_goto (t := 4) dX2_markedWith_27 (by decide) ?_
          refine Z_loc (L' := [some _, some _, some _, some _]) (lsub_same (lsub_same (lsub_same (lsub_same lsub_nil)))) ?_
          exact ih4 _ _  (by omega) (by first | assumption | omega | decide) (by first | assumption | omega | decide) (by first | rfl | (rw [show i + 1 - 2 = (i - 2) + 1 by omega, ctE_up _ _ (by omega)]; subst i4_2; simp only [show i - 2 + 2 = i by omega]; first | rw [if_pos (by assumption)] | (rw [if_neg (by assumption)]; omega)))
  refine Z_loc (L' := [some _, some _, some _, some _]) (lsub_same (lsub_same (lsub_same (lsub_same lsub_nil)))) ?_
  exact lp4 _ _ _  (Nat.lt_succ_self _) (by first | assumption | omega | decide) (by first | assumption | omega | decide) (by first | rfl | (rw [show i + 1 - 2 = (i - 2) + 1 by omega, ctE_up _ _ (by omega)]; subst i4_2; simp only [show i - 2 + 2 = i by omega]; first | rw [if_pos (by assumption)] | (rw [if_neg (by assumption)]; omega)))
theorem ctE_none {f : Int → Int} {s : Int} (hs : s ≠ 0) : ∀ {n : Nat}, (∀ k : Int, 0 ≤ k → k < n → f k = 0) → ctE f s n = 0
  | 0, _ => rfl
  | n + 1, h => by
    unfold ctE
    rw [ctE_none hs (n := n) (fun k h0 h1 => h k h0 (by omega)), h n (by omega) (by omega), if_neg (fun e => hs e.symm)]
    rfl
set_option maxRecDepth 20000 in
theorem zX2_nodeCount {G : tl_G} {M : zM} {J : zJ} {n : Int} (h2 : -1 ≤ n) (h3 : n ≤ 251) : ZN G yX2_nodeCount mX2_nodeCount 10 kMarks [vR 5, vI n] F1 M J (qI (fun x M' J' => J' = J ∧ 0 ≤ x ∧ x ≤ 250 ∧ (n < 2 → x = 0))) := by
  refine ZN_of (L := [_, _]) (by decide) rfl rfl (Nat.le_of_ble_eq_true rfl) rfl (fun hav => ?_)
  refine Z_aload_n (n := 1) dX2_nodeCount_0 rfl rfl ?_
  refine Z_callVv (n := 4) [] _ dX2_nodeCount_1 rfl cwX2_53 rfl rfl rfl (Nat.le_of_ble_eq_true rfl) (by refine ⟨?_, ?_, ?_, ?_⟩ <;> exact Nat.le_of_ble_eq_true rfl) (fun _ h => h) (zX2_unmark  (by first | assumption | omega | decide)) ?_
  intro M1 J1 f1 q1
  obtain ⟨e1_1, e1_2⟩ := q1
  replace e1_1 := e1_1.symm; subst e1_1
  replace e1_2 := e1_2.symm; subst e1_2
  refine Z_aload_n (n := 5) dX2_nodeCount_4 rfl rfl ?_
  refine Z_iload_n (n := 6) dX2_nodeCount_5 rfl rfl ?_
  refine Z_callVv (n := 9) [_] _ dX2_nodeCount_6 rfl cwX2_56 rfl rfl rfl (Nat.le_of_ble_eq_true rfl) (by refine ⟨?_, ?_, ?_, ?_⟩ <;> exact Nat.le_of_ble_eq_true rfl) (fun _ h => h) (zX2_mark  (by first | assumption | omega | decide) (by first | assumption | omega | decide)) ?_
  intro M6 J6 f6 q6
  obtain ⟨e6_1, h6⟩ := q6
  replace e6_1 := e6_1.symm; subst e6_1
  refine Z_aload_n (n := 10) dX2_nodeCount_9 rfl rfl ?_
  refine Z_iconst (n := 11) dX2_nodeCount_10 rfl (by decide) ?_
  refine Z_callVi (n := 14) [_] _ dX2_nodeCount_11 rfl cwX2_60 rfl rfl rfl (Nat.le_of_ble_eq_true rfl) (by refine ⟨?_, ?_, ?_, ?_⟩ <;> exact Nat.le_of_ble_eq_true rfl) (fun _ _ => trivial) (zX2_markedWith  ) ?_
  intro x11 M11 J11 z11 f11 q11
  obtain ⟨e11_1, e11_2, h11⟩ := q11
  replace e11_1 := e11_1.symm; subst e11_1
  replace e11_2 := e11_2.symm; subst e11_2
  refine Z_iret dX2_nodeCount_14 rfl ?_
  have hcin := ctE_in (fun k => M6 9 (k + 2)) 1 250
  refine ⟨rfl, by omega, by omega, fun q => ?_⟩
  rw [h11, h6 q]
  exact ctE_none (by decide) (fun k k0 k1 => fillz_a (by omega) (by omega))
set_option maxRecDepth 20000 in
theorem zX2_nodeCountAt {G : tl_G} {M : zM} {J : zJ} {n p : Int} (h2 : -1 ≤ n) (h3 : n ≤ 251) : ZN G yX2_nodeCountAt mX2_nodeCountAt 10 kMarks [vR 5, vI n, vI p] F1 M J (qI (fun x M' J' => J' = J ∧ 0 ≤ x ∧ x ≤ 250)) := by
  refine ZN_of (L := [_, _, _, _, _]) (by decide) rfl rfl (Nat.le_of_ble_eq_true rfl) rfl (fun hav => ?_)
  refine Z_aload_n (n := 1) dX2_nodeCountAt_0 rfl rfl ?_
  refine Z_callVv (n := 4) [] _ dX2_nodeCountAt_1 rfl cwX2_53 rfl rfl rfl (Nat.le_of_ble_eq_true rfl) (by refine ⟨?_, ?_, ?_, ?_⟩ <;> exact Nat.le_of_ble_eq_true rfl) (fun _ h => h) (zX2_unmark  (by first | assumption | omega | decide)) ?_
  intro M1 J1 f1 q1
  obtain ⟨e1_1, e1_2⟩ := q1
  replace e1_1 := e1_1.symm; subst e1_1
  replace e1_2 := e1_2.symm; subst e1_2
  refine Z_aload_n (n := 5) dX2_nodeCountAt_4 rfl rfl ?_
  refine Z_iload_n (n := 6) dX2_nodeCountAt_5 rfl rfl ?_
  refine Z_callVv (n := 9) [_] _ dX2_nodeCountAt_6 rfl cwX2_56 rfl rfl rfl (Nat.le_of_ble_eq_true rfl) (by refine ⟨?_, ?_, ?_, ?_⟩ <;> exact Nat.le_of_ble_eq_true rfl) (fun _ h => h) (zX2_mark  (by first | assumption | omega | decide) (by first | assumption | omega | decide)) ?_
  intro M6 J6 f6 q6
  obtain ⟨e6_1, h6⟩ := q6
  replace e6_1 := e6_1.symm; subst e6_1
  refine Z_iconst (n := 10) dX2_nodeCountAt_9 rfl (by decide) ?_
  refine Z_istore_n (L' := [_, _, _, _, _]) (n := 11) dX2_nodeCountAt_10 rfl (by decide) rfl rfl ?_
  refine Z_iconst (n := 12) dX2_nodeCountAt_11 rfl (by decide) ?_
  refine Z_istore (L' := [_, _, _, _, _]) (n := 14) dX2_nodeCountAt_12 rfl (by decide) rfl rfl ?_
  have lp14 : ∀ (N14 : Nat) (c i : Int) (M14 : zM) (J14 : zJ), ((252 - i).toNat) < N14 → (J14 = J) → (2 ≤ i) → (i ≤ 252) → (0 ≤ c) → (c ≤ i - 2) → TZ G mX2_nodeCountAt (tl_rm 10 0 0) 0 0 kMarks M J 14 [some (vR 5), some (vI n), some (vI p), some (vI c), some (vI i)] [] F1 M14 J14 (ZM G (zPost G kMarks F1 M J (qI (fun x M' J' => J' = J ∧ 0 ≤ x ∧ x ≤ 250))) 0 0) := by
    intro N14
    induction N14 with
    | zero => intro c i M14 J14 hN; omega
    | succ N14 ih14 =>
      intro c i M14 J14 hN14 i14_0 i14_1 i14_2 i14_3 i14_4
      refine Z_iload (n := 16) dX2_nodeCountAt_14 rfl rfl ?_
      refine Z_sipush (n := 19) dX2_nodeCountAt_16 rfl (by decide) (by decide) ?_
      refine Z_icmp_ge (n := 22) (t := 52) dX2_nodeCountAt_19 rfl (by decide) (fun c19 => ?_) (fun c19 => ?_)
      · refine Z_iload_n (n := 53) dX2_nodeCountAt_52 rfl rfl ?_
        refine Z_iret dX2_nodeCountAt_53 rfl ?_
        refine ⟨i14_0, ?_⟩; omega
      · refine Z_aload_n (n := 23) dX2_nodeCountAt_22 rfl rfl ?_
        refine Z_getA (n := 26) dX2_nodeCountAt_23 rfl ffX2_21 rfl rfl ?_
        refine Z_iload (n := 28) dX2_nodeCountAt_26 rfl rfl ?_
        refine Z_iald (n := 29) dX2_nodeCountAt_28 rfl rfl rfl (by first | decide | assumption) (by omega) (by omega) (fun r28 s28 => ?_)
        refine Z_if_eq (n := 32) (t := 46) dX2_nodeCountAt_29 rfl (by decide) (fun c29 => ?_) (fun c29 => ?_)
        · refine Z_iinc (L' := [_, _, _, _, _]) (n := 49) dX2_nodeCountAt_46 rfl rfl (by decide) rfl rfl (by omega) rfl ?_
          refine Z_goto (t := 14) dX2_nodeCountAt_49 (by decide) ?_
          refine Z_loc (L' := [some _, some _, some _, some _, some _]) (lsub_same (lsub_same (lsub_same (lsub_same (lsub_same lsub_nil))))) ?_
          exact ih14 _ _ _ _ (by omega) (by first | rfl | assumption) (by first | assumption | omega | decide) (by first | assumption | omega | decide) (by first | assumption | omega | decide) (by first | assumption | omega | decide)
        · refine Z_aload_n (n := 33) dX2_nodeCountAt_32 rfl rfl ?_
          refine Z_getA (n := 36) dX2_nodeCountAt_33 rfl ffX2_11 rfl rfl ?_
          refine Z_iload (n := 38) dX2_nodeCountAt_36 rfl rfl ?_
          refine Z_iald (n := 39) dX2_nodeCountAt_38 rfl rfl rfl (by first | decide | assumption) (by omega) (by omega) (fun r38 s38 => ?_)
          refine Z_iload_n (n := 40) dX2_nodeCountAt_39 rfl rfl ?_
          refine Z_icmp_ne (n := 43) (t := 46) dX2_nodeCountAt_40 rfl (by decide) (fun c40 => ?_) (fun c40 => ?_)
          · refine Z_iinc (L' := [_, _, _, _, _]) (n := 49) dX2_nodeCountAt_46 rfl rfl (by decide) rfl rfl (by omega) rfl ?_
            refine Z_goto (t := 14) dX2_nodeCountAt_49 (by decide) ?_
            refine Z_loc (L' := [some _, some _, some _, some _, some _]) (lsub_same (lsub_same (lsub_same (lsub_same (lsub_same lsub_nil))))) ?_
            exact ih14 _ _ _ _ (by omega) (by first | rfl | assumption) (by first | assumption | omega | decide) (by first | assumption | omega | decide) (by first | assumption | omega | decide) (by first | assumption | omega | decide)
          · refine Z_iinc (L' := [_, _, _, _, _]) (n := 46) dX2_nodeCountAt_43 rfl rfl (by decide) rfl rfl (by omega) rfl ?_
            refine Z_iinc (L' := [_, _, _, _, _]) (n := 49) dX2_nodeCountAt_46 rfl rfl (by decide) rfl rfl (by omega) rfl ?_
            refine Z_goto (t := 14) dX2_nodeCountAt_49 (by decide) ?_
            refine Z_loc (L' := [some _, some _, some _, some _, some _]) (lsub_same (lsub_same (lsub_same (lsub_same (lsub_same lsub_nil))))) ?_
            exact ih14 _ _ _ _ (by omega) (by first | rfl | assumption) (by first | assumption | omega | decide) (by first | assumption | omega | decide) (by first | assumption | omega | decide) (by first | assumption | omega | decide)
  refine Z_loc (L' := [some _, some _, some _, some _, some _]) (lsub_same (lsub_same (lsub_same (lsub_same (lsub_same lsub_nil))))) ?_
  exact lp14 _ _ _ _ _ (Nat.lt_succ_self _) (by first | rfl | assumption) (by first | assumption | omega | decide) (by first | assumption | omega | decide) (by first | assumption | omega | decide) (by first | assumption | omega | decide)
set_option maxRecDepth 20000 in
theorem zX2_commonCount {G : tl_G} {M : zM} {J : zJ} {n o : Int} (h2 : -1 ≤ n) (h3 : n ≤ 251) (h4 : -1 ≤ o) (h5 : o ≤ 251) : ZN G yX2_commonCount mX2_commonCount 10 kMarks [vR 5, vI n, vI o] F1 M J (qI (fun x M' J' => J' = J ∧ 0 ≤ x ∧ x ≤ 250)) := by
  refine ZN_of (L := [_, _, _]) (by decide) rfl rfl (Nat.le_of_ble_eq_true rfl) rfl (fun hav => ?_)
  refine Z_aload_n (n := 1) dX2_commonCount_0 rfl rfl ?_
  refine Z_callVv (n := 4) [] _ dX2_commonCount_1 rfl cwX2_53 rfl rfl rfl (Nat.le_of_ble_eq_true rfl) (by refine ⟨?_, ?_, ?_, ?_⟩ <;> exact Nat.le_of_ble_eq_true rfl) (fun _ h => h) (zX2_unmark  (by first | assumption | omega | decide)) ?_
  intro M1 J1 f1 q1
  obtain ⟨e1_1, e1_2⟩ := q1
  replace e1_1 := e1_1.symm; subst e1_1
  replace e1_2 := e1_2.symm; subst e1_2
  refine Z_aload_n (n := 5) dX2_commonCount_4 rfl rfl ?_
  refine Z_iconst (n := 6) dX2_commonCount_5 rfl (by decide) ?_
  refine Z_iload_n (n := 7) dX2_commonCount_6 rfl rfl ?_
  refine Z_iconst (n := 8) dX2_commonCount_7 rfl (by decide) ?_
  refine Z_callVv (n := 11) [_, _, _] _ dX2_commonCount_8 rfl cwX2_49 rfl rfl rfl (Nat.le_of_ble_eq_true rfl) (by refine ⟨?_, ?_, ?_, ?_⟩ <;> exact Nat.le_of_ble_eq_true rfl) (fun _ h => h) (zX2_markWith 8  (by first | assumption | omega | decide) (by first | assumption | omega | decide) (by first | assumption | omega | decide) (by first | assumption | omega | decide) (by first | assumption | omega | decide) (by first | assumption | omega | decide)) ?_
  intro M8 J8 f8 q8
  obtain ⟨e8_1, h8⟩ := q8
  replace e8_1 := e8_1.symm; subst e8_1
  refine Z_aload_n (n := 12) dX2_commonCount_11 rfl rfl ?_
  refine Z_iconst (n := 13) dX2_commonCount_12 rfl (by decide) ?_
  refine Z_iload_n (n := 14) dX2_commonCount_13 rfl rfl ?_
  refine Z_iconst (n := 15) dX2_commonCount_14 rfl (by decide) ?_
  refine Z_callVv (n := 18) [_, _, _] _ dX2_commonCount_15 rfl cwX2_49 rfl rfl rfl (Nat.le_of_ble_eq_true rfl) (by refine ⟨?_, ?_, ?_, ?_⟩ <;> exact Nat.le_of_ble_eq_true rfl) (fun _ h => h) (zX2_markWith 8  (by first | assumption | omega | decide) (by first | assumption | omega | decide) (by first | assumption | omega | decide) (by first | assumption | omega | decide) (by first | assumption | omega | decide) (by first | assumption | omega | decide)) ?_
  intro M15 J15 f15 q15
  obtain ⟨e15_1, h15⟩ := q15
  replace e15_1 := e15_1.symm; subst e15_1
  refine Z_aload_n (n := 19) dX2_commonCount_18 rfl rfl ?_
  refine Z_iconst (n := 20) dX2_commonCount_19 rfl (by decide) ?_
  refine Z_callVi (n := 23) [_] _ dX2_commonCount_20 rfl cwX2_60 rfl rfl rfl (Nat.le_of_ble_eq_true rfl) (by refine ⟨?_, ?_, ?_, ?_⟩ <;> exact Nat.le_of_ble_eq_true rfl) (fun _ _ => trivial) (zX2_markedWith  ) ?_
  intro x20 M20 J20 z20 f20 q20
  obtain ⟨e20_1, e20_2, h20⟩ := q20
  replace e20_1 := e20_1.symm; subst e20_1
  replace e20_2 := e20_2.symm; subst e20_2
  refine Z_iret dX2_commonCount_23 rfl ?_
  have hcin := ctE_in (fun k => M15 9 (k + 2)) 3 250
  refine ⟨rfl, by omega, by omega⟩
set_option maxRecDepth 20000 in
theorem zX2_enter {G : tl_G} {M : zM} {J : zJ} {F : zF} {K : Nat → Prop} {n : Int} (hF : PoolF F) (h0 : 0 ≤ n) (h1 : n < 252) (hu : M 5 7 < 252) (hK5 : ¬ K 5) (hK10 : ¬ K 10) (hK11 : ¬ K 11) : ZN G yX2_enter mX2_enter 0 K [vR 5, vI n] F M J (qV (fun M' J' => J' = J ∧ M' = entz M n)) := by
  refine ZN_of (L := [_, _, _]) (by decide) rfl rfl (Nat.le_of_ble_eq_true rfl) rfl (fun hav => ?_)
  refine Z_aload_n (n := 1) dX2_enter_0 rfl rfl ?_
  refine Z_getA (n := 4) dX2_enter_1 rfl ffX2_15 (by first | exact hF.1 | exact hF.2.1.1 | exact hF.2.1.2.1 | exact hF.2.1.2.2.1 | exact hF.2.1.2.2.2.1 | exact hF.2.1.2.2.2.2 | exact hF.2.2.1 | exact hF.2.2.2.1 | exact hF.2.2.2.2.1 | exact hF.2.2.2.2.2.1 | exact hF.2.2.2.2.2.2 | rfl) (by first | exact hF.1 | exact hF.2.1.1 | exact hF.2.1.2.1 | exact hF.2.1.2.2.1 | exact hF.2.1.2.2.2.1 | exact hF.2.1.2.2.2.2 | exact hF.2.2.1 | exact hF.2.2.2.1 | exact hF.2.2.2.2.1 | exact hF.2.2.2.2.2.1 | exact hF.2.2.2.2.2.2 | rfl) ?_
  refine Z_iload_n (n := 5) dX2_enter_4 rfl rfl ?_
  refine Z_iald (n := 6) dX2_enter_5 rfl (by first | exact hF.1 | exact hF.2.1.1 | exact hF.2.1.2.1 | exact hF.2.1.2.2.1 | exact hF.2.1.2.2.2.1 | exact hF.2.1.2.2.2.2 | exact hF.2.2.1 | exact hF.2.2.2.1 | exact hF.2.2.2.2.1 | exact hF.2.2.2.2.2.1 | exact hF.2.2.2.2.2.2 | rfl) (by first | exact hF.1 | exact hF.2.1.1 | exact hF.2.1.2.1 | exact hF.2.1.2.2.1 | exact hF.2.1.2.2.2.1 | exact hF.2.1.2.2.2.2 | exact hF.2.2.1 | exact hF.2.2.2.1 | exact hF.2.2.2.2.1 | exact hF.2.2.2.2.2.1 | exact hF.2.2.2.2.2.2 | rfl) (by first | decide | assumption) (by omega) (by omega) (fun r5 s5 => ?_)
  try simp only [uz_oo (show (5 : Nat) ≠ 10 by decide), uz_oo (show (5 : Nat) ≠ 11 by decide), uz_oo (show (11 : Nat) ≠ 10 by decide)] at r5 s5 ⊢
  refine Z_aload_n (n := 7) dX2_enter_6 rfl rfl ?_
  refine Z_getA (n := 10) dX2_enter_7 rfl ffX2_18 (by first | exact hF.1 | exact hF.2.1.1 | exact hF.2.1.2.1 | exact hF.2.1.2.2.1 | exact hF.2.1.2.2.2.1 | exact hF.2.1.2.2.2.2 | exact hF.2.2.1 | exact hF.2.2.2.1 | exact hF.2.2.2.2.1 | exact hF.2.2.2.2.2.1 | exact hF.2.2.2.2.2.2 | rfl) (by first | exact hF.1 | exact hF.2.1.1 | exact hF.2.1.2.1 | exact hF.2.1.2.2.1 | exact hF.2.1.2.2.2.1 | exact hF.2.1.2.2.2.2 | exact hF.2.2.1 | exact hF.2.2.2.1 | exact hF.2.2.2.2.1 | exact hF.2.2.2.2.2.1 | exact hF.2.2.2.2.2.2 | rfl) ?_
  refine Z_iload_n (n := 11) dX2_enter_10 rfl rfl ?_
  refine Z_iald (n := 12) dX2_enter_11 rfl (by first | exact hF.1 | exact hF.2.1.1 | exact hF.2.1.2.1 | exact hF.2.1.2.2.1 | exact hF.2.1.2.2.2.1 | exact hF.2.1.2.2.2.2 | exact hF.2.2.1 | exact hF.2.2.2.1 | exact hF.2.2.2.2.1 | exact hF.2.2.2.2.2.1 | exact hF.2.2.2.2.2.2 | rfl) (by first | exact hF.1 | exact hF.2.1.1 | exact hF.2.1.2.1 | exact hF.2.1.2.2.1 | exact hF.2.1.2.2.2.1 | exact hF.2.1.2.2.2.2 | exact hF.2.2.1 | exact hF.2.2.2.1 | exact hF.2.2.2.2.1 | exact hF.2.2.2.2.2.1 | exact hF.2.2.2.2.2.2 | rfl) (by first | decide | assumption) (by omega) (by omega) (fun r11 s11 => ?_)
  try simp only [uz_oo (show (5 : Nat) ≠ 10 by decide), uz_oo (show (5 : Nat) ≠ 11 by decide), uz_oo (show (11 : Nat) ≠ 10 by decide)] at r11 s11 ⊢
  refine Z_ixor (n := 13) dX2_enter_12 rfl ?_
  have hx := zxor_in (x := M 7 n) (y := M 8 n) (by omega) (by omega) (by omega) (by omega)
  refine Z_istore_n (L' := [_, _, _]) (n := 14) dX2_enter_13 rfl (by decide) rfl rfl ?_
  refine Z_aload_n (n := 15) dX2_enter_14 rfl rfl ?_
  refine Z_getA (n := 18) dX2_enter_15 rfl ffX2_24 (by first | exact hF.1 | exact hF.2.1.1 | exact hF.2.1.2.1 | exact hF.2.1.2.2.1 | exact hF.2.1.2.2.2.1 | exact hF.2.1.2.2.2.2 | exact hF.2.2.1 | exact hF.2.2.2.1 | exact hF.2.2.2.2.1 | exact hF.2.2.2.2.2.1 | exact hF.2.2.2.2.2.2 | rfl) (by first | exact hF.1 | exact hF.2.1.1 | exact hF.2.1.2.1 | exact hF.2.1.2.2.1 | exact hF.2.1.2.2.2.1 | exact hF.2.1.2.2.2.2 | exact hF.2.2.1 | exact hF.2.2.2.1 | exact hF.2.2.2.2.1 | exact hF.2.2.2.2.2.1 | exact hF.2.2.2.2.2.2 | rfl) ?_
  refine Z_iload_n (n := 19) dX2_enter_18 rfl rfl ?_
  refine Z_aload_n (n := 20) dX2_enter_19 rfl rfl ?_
  refine Z_getA (n := 23) dX2_enter_20 rfl ffX2_27 (by first | exact hF.1 | exact hF.2.1.1 | exact hF.2.1.2.1 | exact hF.2.1.2.2.1 | exact hF.2.1.2.2.2.1 | exact hF.2.1.2.2.2.2 | exact hF.2.2.1 | exact hF.2.2.2.1 | exact hF.2.2.2.2.1 | exact hF.2.2.2.2.2.1 | exact hF.2.2.2.2.2.2 | rfl) (by first | exact hF.1 | exact hF.2.1.1 | exact hF.2.1.2.1 | exact hF.2.1.2.2.1 | exact hF.2.1.2.2.2.1 | exact hF.2.1.2.2.2.2 | exact hF.2.2.1 | exact hF.2.2.2.1 | exact hF.2.2.2.2.1 | exact hF.2.2.2.2.2.1 | exact hF.2.2.2.2.2.2 | rfl) ?_
  refine Z_iload_n (n := 24) dX2_enter_23 rfl rfl ?_
  refine Z_iald (n := 25) dX2_enter_24 rfl (by first | exact hF.1 | exact hF.2.1.1 | exact hF.2.1.2.1 | exact hF.2.1.2.2.1 | exact hF.2.1.2.2.2.1 | exact hF.2.1.2.2.2.2 | exact hF.2.2.1 | exact hF.2.2.2.1 | exact hF.2.2.2.2.1 | exact hF.2.2.2.2.2.1 | exact hF.2.2.2.2.2.2 | rfl) (by first | exact hF.1 | exact hF.2.1.1 | exact hF.2.1.2.1 | exact hF.2.1.2.2.1 | exact hF.2.1.2.2.2.1 | exact hF.2.1.2.2.2.2 | exact hF.2.2.1 | exact hF.2.2.2.1 | exact hF.2.2.2.2.1 | exact hF.2.2.2.2.2.1 | exact hF.2.2.2.2.2.2 | rfl) (by first | decide | assumption) (by omega) (by omega) (fun r24 s24 => ?_)
  try simp only [uz_oo (show (5 : Nat) ≠ 10 by decide), uz_oo (show (5 : Nat) ≠ 11 by decide), uz_oo (show (11 : Nat) ≠ 10 by decide)] at r24 s24 ⊢
  refine Z_iast (n := 26) dX2_enter_25 rfl (by first | exact hF.1 | exact hF.2.1.1 | exact hF.2.1.2.1 | exact hF.2.1.2.2.1 | exact hF.2.1.2.2.2.1 | exact hF.2.1.2.2.2.2 | exact hF.2.2.1 | exact hF.2.2.2.1 | exact hF.2.2.2.2.1 | exact hF.2.2.2.2.2.1 | exact hF.2.2.2.2.2.2 | rfl) (by first | exact hF.1 | exact hF.2.1.1 | exact hF.2.1.2.1 | exact hF.2.1.2.2.1 | exact hF.2.1.2.2.2.1 | exact hF.2.1.2.2.2.2 | exact hF.2.2.1 | exact hF.2.2.2.1 | exact hF.2.2.2.2.1 | exact hF.2.2.2.2.2.1 | exact hF.2.2.2.2.2.2 | rfl) (by first | decide | assumption) (by omega) (by omega) (by first | assumption | omega | decide) (by first | assumption | omega | decide) (by assumption) ?_
  refine Z_aload_n (n := 27) dX2_enter_26 rfl rfl ?_
  refine Z_getA (n := 30) dX2_enter_27 rfl ffX2_27 (by first | exact hF.1 | exact hF.2.1.1 | exact hF.2.1.2.1 | exact hF.2.1.2.2.1 | exact hF.2.1.2.2.2.1 | exact hF.2.1.2.2.2.2 | exact hF.2.2.1 | exact hF.2.2.2.1 | exact hF.2.2.2.2.1 | exact hF.2.2.2.2.2.1 | exact hF.2.2.2.2.2.2 | rfl) (by first | exact hF.1 | exact hF.2.1.1 | exact hF.2.1.2.1 | exact hF.2.1.2.2.1 | exact hF.2.1.2.2.2.1 | exact hF.2.1.2.2.2.2 | exact hF.2.2.1 | exact hF.2.2.2.1 | exact hF.2.2.2.2.1 | exact hF.2.2.2.2.2.1 | exact hF.2.2.2.2.2.2 | rfl) ?_
  refine Z_iload_n (n := 31) dX2_enter_30 rfl rfl ?_
  refine Z_iload_n (n := 32) dX2_enter_31 rfl rfl ?_
  refine Z_iast (n := 33) dX2_enter_32 rfl (by first | exact hF.1 | exact hF.2.1.1 | exact hF.2.1.2.1 | exact hF.2.1.2.2.1 | exact hF.2.1.2.2.2.1 | exact hF.2.1.2.2.2.2 | exact hF.2.2.1 | exact hF.2.2.2.1 | exact hF.2.2.2.2.1 | exact hF.2.2.2.2.2.1 | exact hF.2.2.2.2.2.2 | rfl) (by first | exact hF.1 | exact hF.2.1.1 | exact hF.2.1.2.1 | exact hF.2.1.2.2.1 | exact hF.2.1.2.2.2.1 | exact hF.2.1.2.2.2.2 | exact hF.2.2.1 | exact hF.2.2.2.1 | exact hF.2.2.2.2.1 | exact hF.2.2.2.2.2.1 | exact hF.2.2.2.2.2.2 | rfl) (by first | decide | assumption) (by omega) (by omega) (by first | assumption | omega | decide) (by first | assumption | omega | decide) (by assumption) ?_
  refine Z_aload_n (n := 34) dX2_enter_33 rfl rfl ?_
  refine Z_dup (n := 35) dX2_enter_34 rfl rfl ?_
  refine Z_getI (n := 38) (ki := 7) dX2_enter_35 rfl ffX2_34 rfl (by first | exact hF.1 | exact hF.2.1.1 | exact hF.2.1.2.1 | exact hF.2.1.2.2.1 | exact hF.2.1.2.2.2.1 | exact hF.2.1.2.2.2.2 | exact hF.2.2.1 | exact hF.2.2.2.1 | exact hF.2.2.2.2.1 | exact hF.2.2.2.2.2.1 | exact hF.2.2.2.2.2.2 | rfl) (by first | exact hF.1 | exact hF.2.1.1 | exact hF.2.1.2.1 | exact hF.2.1.2.2.1 | exact hF.2.1.2.2.2.1 | exact hF.2.1.2.2.2.2 | exact hF.2.2.1 | exact hF.2.2.2.1 | exact hF.2.2.2.2.1 | exact hF.2.2.2.2.2.1 | exact hF.2.2.2.2.2.2 | rfl) (fun r35 s35 => ?_)
  try simp only [uz_oo (show (5 : Nat) ≠ 10 by decide), uz_oo (show (5 : Nat) ≠ 11 by decide), uz_oo (show (11 : Nat) ≠ 10 by decide)] at r35 s35 ⊢
  refine Z_iconst (n := 39) dX2_enter_38 rfl (by decide) ?_
  refine Z_iadd (n := 40) dX2_enter_39 rfl (by omega) ?_
  refine Z_putI (n := 43) (ki := 7) dX2_enter_40 rfl ffX2_34 rfl (by decide) (by first | exact hF.1 | exact hF.2.1.1 | exact hF.2.1.2.1 | exact hF.2.1.2.2.1 | exact hF.2.1.2.2.2.1 | exact hF.2.1.2.2.2.2 | exact hF.2.2.1 | exact hF.2.2.2.1 | exact hF.2.2.2.2.1 | exact hF.2.2.2.2.2.1 | exact hF.2.2.2.2.2.2 | rfl) (by first | exact hF.1 | exact hF.2.1.1 | exact hF.2.1.2.1 | exact hF.2.1.2.2.1 | exact hF.2.1.2.2.2.1 | exact hF.2.1.2.2.2.2 | exact hF.2.2.1 | exact hF.2.2.2.1 | exact hF.2.2.2.2.1 | exact hF.2.2.2.2.2.1 | exact hF.2.2.2.2.2.2 | rfl) (by first | assumption | omega | decide) (by first | assumption | omega | decide) (by assumption) ?_
  refine Z_vret dX2_enter_43 rfl ?_
  exact ⟨rfl, rfl⟩
def frez (M : zM) (n : Int) : zM := uz (uz M 10 n (M 5 6)) 5 6 n
def sw0 (M : zM) : zM := uz (uz (fillz M 11 256 (-1)) 5 6 (-1)) 5 7 0
theorem entz_57 {M : zM} {n : Int} : entz M n 5 7 = M 5 7 + 1 := uz_s
theorem entz_58 {M : zM} {n : Int} : entz M n 5 8 = M 5 8 := by
  unfold entz
  rw [uz_n (by decide), uz_oo (by decide), uz_oo (by decide)]
theorem frez_57 {M : zM} {n : Int} : frez M n 5 7 = M 5 7 := by
  unfold frez
  rw [uz_n (by decide), uz_oo (by decide)]
theorem frez_58 {M : zM} {n : Int} : frez M n 5 8 = M 5 8 := by
  unfold frez
  rw [uz_n (by decide), uz_oo (by decide)]
theorem sw0_58 {M : zM} : sw0 M 5 8 = M 5 8 := by
  unfold sw0
  rw [uz_n (by decide), uz_n (by decide), fillz_o (by decide)]
theorem sw0_57 {M : zM} : sw0 M 5 7 = 0 := uz_s
def pIn (M : zM) (n : Int) : Prop := M 6 0 = 8 ∧ M 6 1 = 8 ∧ (M 5 6 = -1 ∨ 2 ≤ M 5 6) ∧ (∀ k : Int, n < k → k < 252 → (M 10 k = -1 ∨ 2 ≤ M 10 k)) ∧ ∀ r : Int, 0 ≤ r → r < 256 → (M 11 r = -1 ∨ 2 ≤ M 11 r)
def frI (M : zM) (n : Int) : Prop := M 5 6 = (if n = 251 then -1 else n + 1) ∧ M 5 7 = 0 ∧ ∀ r : Int, 0 ≤ r → r < 256 → M 11 r = -1
theorem sw0_11 {M : zM} {r : Int} (r0 : 0 ≤ r) (r1 : r < 256) : sw0 M 11 r = -1 := by
  unfold sw0
  rw [uz_oo (by decide), uz_oo (by decide), fillz_a r0 r1]
theorem sw0_56 {M : zM} : sw0 M 5 6 = -1 := by
  unfold sw0
  rw [uz_n (by decide), uz_s]
theorem sw0_6 {M : zM} {j : Int} : sw0 M 6 j = M 6 j := by
  unfold sw0
  rw [uz_oo (by decide), uz_oo (by decide), fillz_o (by decide)]
theorem pIn_sw0 {M : zM} (h0 : M 6 0 = 8) (h1 : M 6 1 = 8) : pIn (sw0 M) 251 := ⟨by rw [sw0_6]; exact h0, by rw [sw0_6]; exact h1, Or.inl sw0_56, fun k k0 k1 => by omega, fun r r0 r1 => Or.inl (sw0_11 r0 r1)⟩
theorem frI_sw0 {M : zM} : frI (sw0 M) 251 := ⟨by rw [sw0_56]; rfl, sw0_57, fun r r0 r1 => sw0_11 r0 r1⟩
theorem pIn_ent {M : zM} {n : Int} (h : pIn M n) (hn : 2 ≤ n) (hr : 0 ≤ zxor (M 7 n) (M 8 n) ∧ zxor (M 7 n) (M 8 n) < 256) : pIn (entz M n) (n + -1) := by
  obtain ⟨h1, h2, h3, h4, h5⟩ := h
  unfold pIn entz
  refine ⟨?_, ?_, ?_, fun k k0 k1 => ?_, fun r r0 r1 => ?_⟩
  · simp only [uz_oo (show (6 : Nat) ≠ 5 by decide), uz_oo (show (6 : Nat) ≠ 11 by decide), uz_oo (show (6 : Nat) ≠ 10 by decide)]; exact h1
  · simp only [uz_oo (show (6 : Nat) ≠ 5 by decide), uz_oo (show (6 : Nat) ≠ 11 by decide), uz_oo (show (6 : Nat) ≠ 10 by decide)]; exact h2
  · rw [uz_n (show (6 : Int) ≠ 7 by decide)]
    simp only [uz_oo (show (5 : Nat) ≠ 11 by decide), uz_oo (show (5 : Nat) ≠ 10 by decide)]; exact h3
  · simp only [uz_oo (show (10 : Nat) ≠ 5 by decide), uz_oo (show (10 : Nat) ≠ 11 by decide), uz_a]
    split
    · exact h5 _ hr.1 hr.2
    · exact h4 k (by omega) k1
  · simp only [uz_oo (show (11 : Nat) ≠ 5 by decide), uz_oo (show (11 : Nat) ≠ 10 by decide), uz_a]
    split
    · exact Or.inr hn
    · exact h5 r r0 r1
theorem pIn_fre {M : zM} {n : Int} (h : pIn M n) (hn : 2 ≤ n) : pIn (frez M n) (n + -1) := by
  obtain ⟨h1, h2, h3, h4, h5⟩ := h
  unfold pIn frez
  refine ⟨?_, ?_, ?_, fun k k0 k1 => ?_, fun r r0 r1 => ?_⟩
  · rw [uz_oo (by decide), uz_oo (by decide)]; exact h1
  · rw [uz_oo (by decide), uz_oo (by decide)]; exact h2
  · rw [uz_s]; exact Or.inr hn
  · rw [uz_oo (by decide), uz_a]
    split
    · exact h3
    · exact h4 k (by omega) k1
  · rw [uz_oo (by decide), uz_oo (by decide)]; exact h5 r r0 r1
theorem frI_fre {M : zM} {n : Int} (h : frI M n) (hn : n ≤ 251) : frI (frez M n) (n + -1) := by
  obtain ⟨h1, h2, h3⟩ := h
  refine ⟨?_, by rw [frez_57]; exact h2, fun r r0 r1 => ?_⟩
  · unfold frez
    rw [uz_s, if_neg (by omega)]
    omega
  · unfold frez
    rw [uz_oo (by decide), uz_oo (by decide)]; exact h3 r r0 r1
theorem pI_of {M : zM} {n : Int} (h : pIn M n) (hn : n < 2) : pI M := ⟨h.1, h.2.1, h.2.2.1, fun k k0 k1 => h.2.2.2.1 k (by omega) k1, h.2.2.2.2⟩
set_option maxRecDepth 20000 in
theorem zX2_sweep {G : tl_G} {M : zM} {J : zJ} {F : zF} (hF : PoolF F) : ZN G yX2_sweep mX2_sweep 1 kSweep [vR 5] F M J (qV (fun M' J' => J' = J ∧ M' 5 8 = M 5 8 ∧ (M 6 0 = 8 → M 6 1 = 8 → pI M') ∧ ((∀ j : Int, 2 ≤ j → j < 252 → M 9 j = 0) → M' 5 6 = 2 ∧ M' 5 7 = 0 ∧ ∀ r : Int, 0 ≤ r → r < 256 → M' 11 r = -1))) := by
  refine ZN_of (L := [_, _]) (by decide) rfl rfl (Nat.le_of_ble_eq_true rfl) rfl (fun hav => ?_)
  refine Z_aload_n (n := 1) dX2_sweep_0 rfl rfl ?_
  refine Z_getA (n := 4) dX2_sweep_1 rfl ffX2_27 (by first | exact hF.1 | exact hF.2.1.1 | exact hF.2.1.2.1 | exact hF.2.1.2.2.1 | exact hF.2.1.2.2.2.1 | exact hF.2.1.2.2.2.2 | exact hF.2.2.1 | exact hF.2.2.2.1 | exact hF.2.2.2.2.1 | exact hF.2.2.2.2.2.1 | exact hF.2.2.2.2.2.2 | rfl) (by first | exact hF.1 | exact hF.2.1.1 | exact hF.2.1.2.1 | exact hF.2.1.2.2.1 | exact hF.2.1.2.2.2.1 | exact hF.2.1.2.2.2.2 | exact hF.2.2.1 | exact hF.2.2.2.1 | exact hF.2.2.2.2.1 | exact hF.2.2.2.2.2.1 | exact hF.2.2.2.2.2.2 | rfl) ?_
  refine Z_iconst (n := 5) dX2_sweep_4 rfl (by decide) ?_
  refine Z_callSv (n := 8) [_, _] _ dX2_sweep_5 rfl cwX2_43 rfl rfl (Nat.le_of_ble_eq_true rfl) (by refine ⟨?_, ?_, ?_, ?_⟩ <;> exact Nat.le_of_ble_eq_true rfl) (fun _ h => h) (zJ7_fill_53178  (by exact hF.2.2.2.2.2.2) (by decide) (by exact fun _ => rfl) (by decide) (by decide) (by decide)) ?_
  intro M5 J5 f5 q5
  obtain ⟨e5_1, e5_2⟩ := q5
  replace e5_1 := e5_1.symm; subst e5_1
  replace e5_2 := e5_2.symm; subst e5_2
  refine Z_aload_n (n := 9) dX2_sweep_8 rfl rfl ?_
  refine Z_iconst (n := 10) dX2_sweep_9 rfl (by decide) ?_
  refine Z_putI (n := 13) (ki := 6) dX2_sweep_10 rfl ffX2_30 rfl (by decide) (by first | exact hF.1 | exact hF.2.1.1 | exact hF.2.1.2.1 | exact hF.2.1.2.2.1 | exact hF.2.1.2.2.2.1 | exact hF.2.1.2.2.2.2 | exact hF.2.2.1 | exact hF.2.2.2.1 | exact hF.2.2.2.2.1 | exact hF.2.2.2.2.2.1 | exact hF.2.2.2.2.2.2 | rfl) (by first | exact hF.1 | exact hF.2.1.1 | exact hF.2.1.2.1 | exact hF.2.1.2.2.1 | exact hF.2.1.2.2.2.1 | exact hF.2.1.2.2.2.2 | exact hF.2.2.1 | exact hF.2.2.2.1 | exact hF.2.2.2.2.1 | exact hF.2.2.2.2.2.1 | exact hF.2.2.2.2.2.2 | rfl) (by first | assumption | omega | decide) (by first | assumption | omega | decide) (by decide) ?_
  refine Z_aload_n (n := 14) dX2_sweep_13 rfl rfl ?_
  refine Z_iconst (n := 15) dX2_sweep_14 rfl (by decide) ?_
  refine Z_putI (n := 18) (ki := 7) dX2_sweep_15 rfl ffX2_34 rfl (by decide) (by first | exact hF.1 | exact hF.2.1.1 | exact hF.2.1.2.1 | exact hF.2.1.2.2.1 | exact hF.2.1.2.2.2.1 | exact hF.2.1.2.2.2.2 | exact hF.2.2.1 | exact hF.2.2.2.1 | exact hF.2.2.2.2.1 | exact hF.2.2.2.2.2.1 | exact hF.2.2.2.2.2.2 | rfl) (by first | exact hF.1 | exact hF.2.1.1 | exact hF.2.1.2.1 | exact hF.2.1.2.2.1 | exact hF.2.1.2.2.2.1 | exact hF.2.1.2.2.2.2 | exact hF.2.2.1 | exact hF.2.2.2.1 | exact hF.2.2.2.2.1 | exact hF.2.2.2.2.2.1 | exact hF.2.2.2.2.2.2 | rfl) (by first | assumption | omega | decide) (by first | assumption | omega | decide) (by decide) ?_
  refine Z_sipush (n := 21) dX2_sweep_18 rfl (by decide) (by decide) ?_
  refine Z_istore_n (L' := [_, _]) (n := 22) dX2_sweep_21 rfl (by decide) rfl rfl ?_
  have lp22 : ∀ (N22 : Nat) (n : Int) (M22 : zM) (J22 : zJ), (n.toNat) < N22 → (J22 = J) → (1 ≤ n) → (n ≤ 251) → (M22 5 7 ≤ 251 - n) → (M22 5 8 = M 5 8) → (M 6 0 = 8 → M 6 1 = 8 → pIn M22 n) → ((∀ j : Int, 2 ≤ j → j < 252 → M 9 j = 0) → frI M22 n) → TZ G mX2_sweep (tl_rm 1 0 0) 0 0 kSweep M J 22 [some (vR 5), some (vI n)] [] F M22 J22 (ZM G (zPost G kSweep F M J (qV (fun M' J' => J' = J ∧ M' 5 8 = M 5 8 ∧ (M 6 0 = 8 → M 6 1 = 8 → pI M') ∧ ((∀ j : Int, 2 ≤ j → j < 252 → M 9 j = 0) → M' 5 6 = 2 ∧ M' 5 7 = 0 ∧ ∀ r : Int, 0 ≤ r → r < 256 → M' 11 r = -1)))) 0 0) := by
    intro N22
    induction N22 with
    | zero => intro n M22 J22 hN; omega
    | succ N22 ih22 =>
      intro n M22 J22 hN22 i22_0 i22_1 i22_2 i22_3 i22_4 i22_5 i22_6
      refine Z_iload_n (n := 23) dX2_sweep_22 rfl rfl ?_
      refine Z_iconst (n := 24) dX2_sweep_23 rfl (by decide) ?_
      refine Z_icmp_lt (n := 27) (t := 65) dX2_sweep_24 rfl (by decide) (fun c24 => ?_) (fun c24 => ?_)
      · refine Z_vret dX2_sweep_65 rfl ?_
        refine ⟨i22_0, i22_4, fun a b => pI_of (i22_5 a b) (by omega), fun a => ?_⟩
        have q := i22_6 a
        unfold frI at q
        rw [show n = 1 by omega] at q
        exact q
      · refine Z_aload_n (n := 28) dX2_sweep_27 rfl rfl ?_
        refine Z_fr (fun fr22 => ?_)
        refine Z_ok (fun ok22 => ?_)
        have g7 : 0 ≤ M22 7 n ∧ M22 7 n ≤ 251 := ok22 7 n
        have g8 : 0 ≤ M22 8 n ∧ M22 8 n ≤ 251 := ok22 8 n
        refine Z_rg 5 7 rfl (fun g57 g57b => ?_)
        refine Z_getA (n := 31) dX2_sweep_28 rfl ffX2_21 (by first | exact hF.1 | exact hF.2.1.1 | exact hF.2.1.2.1 | exact hF.2.1.2.2.1 | exact hF.2.1.2.2.2.1 | exact hF.2.1.2.2.2.2 | exact hF.2.2.1 | exact hF.2.2.2.1 | exact hF.2.2.2.2.1 | exact hF.2.2.2.2.2.1 | exact hF.2.2.2.2.2.2 | rfl) (by first | exact hF.1 | exact hF.2.1.1 | exact hF.2.1.2.1 | exact hF.2.1.2.2.1 | exact hF.2.1.2.2.2.1 | exact hF.2.1.2.2.2.2 | exact hF.2.2.1 | exact hF.2.2.2.1 | exact hF.2.2.2.2.1 | exact hF.2.2.2.2.2.1 | exact hF.2.2.2.2.2.2 | rfl) ?_
        refine Z_iload_n (n := 32) dX2_sweep_31 rfl rfl ?_
        refine Z_iald (n := 33) dX2_sweep_32 rfl (by first | exact hF.1 | exact hF.2.1.1 | exact hF.2.1.2.1 | exact hF.2.1.2.2.1 | exact hF.2.1.2.2.2.1 | exact hF.2.1.2.2.2.2 | exact hF.2.2.1 | exact hF.2.2.2.1 | exact hF.2.2.2.2.1 | exact hF.2.2.2.2.2.1 | exact hF.2.2.2.2.2.2 | rfl) (by first | exact hF.1 | exact hF.2.1.1 | exact hF.2.1.2.1 | exact hF.2.1.2.2.1 | exact hF.2.1.2.2.2.1 | exact hF.2.1.2.2.2.2 | exact hF.2.2.1 | exact hF.2.2.2.1 | exact hF.2.2.2.2.1 | exact hF.2.2.2.2.2.1 | exact hF.2.2.2.2.2.2 | rfl) (by first | decide | assumption) (by omega) (by omega) (fun r32 s32 => ?_)
        refine Z_if_eq (n := 36) (t := 44) dX2_sweep_33 rfl (by decide) (fun c33 => ?_) (fun c33 => ?_)
        · refine Z_aload_n (n := 45) dX2_sweep_44 rfl rfl ?_
          refine Z_getA (n := 48) dX2_sweep_45 rfl ffX2_24 (by first | exact hF.1 | exact hF.2.1.1 | exact hF.2.1.2.1 | exact hF.2.1.2.2.1 | exact hF.2.1.2.2.2.1 | exact hF.2.1.2.2.2.2 | exact hF.2.2.1 | exact hF.2.2.2.1 | exact hF.2.2.2.2.1 | exact hF.2.2.2.2.2.1 | exact hF.2.2.2.2.2.2 | rfl) (by first | exact hF.1 | exact hF.2.1.1 | exact hF.2.1.2.1 | exact hF.2.1.2.2.1 | exact hF.2.1.2.2.2.1 | exact hF.2.1.2.2.2.2 | exact hF.2.2.1 | exact hF.2.2.2.1 | exact hF.2.2.2.2.1 | exact hF.2.2.2.2.2.1 | exact hF.2.2.2.2.2.2 | rfl) ?_
          refine Z_iload_n (n := 49) dX2_sweep_48 rfl rfl ?_
          refine Z_aload_n (n := 50) dX2_sweep_49 rfl rfl ?_
          refine Z_getI (n := 53) (ki := 6) dX2_sweep_50 rfl ffX2_30 rfl (by first | exact hF.1 | exact hF.2.1.1 | exact hF.2.1.2.1 | exact hF.2.1.2.2.1 | exact hF.2.1.2.2.2.1 | exact hF.2.1.2.2.2.2 | exact hF.2.2.1 | exact hF.2.2.2.1 | exact hF.2.2.2.2.1 | exact hF.2.2.2.2.2.1 | exact hF.2.2.2.2.2.2 | rfl) (by first | exact hF.1 | exact hF.2.1.1 | exact hF.2.1.2.1 | exact hF.2.1.2.2.1 | exact hF.2.1.2.2.2.1 | exact hF.2.1.2.2.2.2 | exact hF.2.2.1 | exact hF.2.2.2.1 | exact hF.2.2.2.2.1 | exact hF.2.2.2.2.2.1 | exact hF.2.2.2.2.2.2 | rfl) (fun r50 s50 => ?_)
          refine Z_iast (n := 54) dX2_sweep_53 rfl (by first | exact hF.1 | exact hF.2.1.1 | exact hF.2.1.2.1 | exact hF.2.1.2.2.1 | exact hF.2.1.2.2.2.1 | exact hF.2.1.2.2.2.2 | exact hF.2.2.1 | exact hF.2.2.2.1 | exact hF.2.2.2.2.1 | exact hF.2.2.2.2.2.1 | exact hF.2.2.2.2.2.2 | rfl) (by first | exact hF.1 | exact hF.2.1.1 | exact hF.2.1.2.1 | exact hF.2.1.2.2.1 | exact hF.2.1.2.2.2.1 | exact hF.2.1.2.2.2.2 | exact hF.2.2.1 | exact hF.2.2.2.1 | exact hF.2.2.2.2.1 | exact hF.2.2.2.2.2.1 | exact hF.2.2.2.2.2.2 | rfl) (by first | decide | assumption) (by omega) (by omega) (by first | assumption | omega | decide) (by first | assumption | omega | decide) (by decide) ?_
          refine Z_aload_n (n := 55) dX2_sweep_54 rfl rfl ?_
          refine Z_iload_n (n := 56) dX2_sweep_55 rfl rfl ?_
          refine Z_putI (n := 59) (ki := 6) dX2_sweep_56 rfl ffX2_30 rfl (by decide) (by first | exact hF.1 | exact hF.2.1.1 | exact hF.2.1.2.1 | exact hF.2.1.2.2.1 | exact hF.2.1.2.2.2.1 | exact hF.2.1.2.2.2.2 | exact hF.2.2.1 | exact hF.2.2.2.1 | exact hF.2.2.2.2.1 | exact hF.2.2.2.2.2.1 | exact hF.2.2.2.2.2.2 | rfl) (by first | exact hF.1 | exact hF.2.1.1 | exact hF.2.1.2.1 | exact hF.2.1.2.2.1 | exact hF.2.1.2.2.2.1 | exact hF.2.1.2.2.2.2 | exact hF.2.2.1 | exact hF.2.2.2.1 | exact hF.2.2.2.2.1 | exact hF.2.2.2.2.2.1 | exact hF.2.2.2.2.2.2 | rfl) (by first | assumption | omega | decide) (by first | assumption | omega | decide) (by decide) ?_
          refine Z_iinc (L' := [_, _]) (n := 62) dX2_sweep_59 rfl rfl (by decide) rfl rfl (by omega) rfl ?_
          refine Z_goto (t := 22) dX2_sweep_62 (by decide) ?_
          refine Z_loc (L' := [some _, some _]) (lsub_same (lsub_same lsub_nil)) ?_
          exact ih22 _ _ _ (by omega) (by first | rfl | assumption) (by first | assumption | omega | decide) (by first | assumption | omega | decide) (by first | (rw [uz_s]; decide) | (rw [entz_57]; omega) | (rw [show uz (uz M22 10 n (M22 5 6)) 5 6 n 5 7 = _ from frez_57]; omega)) (by first | exact sw0_58 | exact entz_58.trans i22_4 | exact frez_58.trans i22_4) (by first | exact fun a b => pIn_sw0 a b | exact fun a b => pIn_ent (i22_5 a b) (by omega) (zxor_in g7.1 (by omega) g8.1 (by omega)) | exact fun a b => pIn_fre (i22_5 a b) (by omega)) (by first | exact fun _ => frI_sw0 | exact fun a => frI_fre (i22_6 a) (by omega) | exact fun a => absurd (((congrFun (fr22 9 (by decide)).1 n).trans (a n (by omega) (by omega)))) c33)
        · refine Z_aload_n (n := 37) dX2_sweep_36 rfl rfl ?_
          refine Z_iload_n (n := 38) dX2_sweep_37 rfl rfl ?_
          refine Z_callVv (n := 41) [_] _ dX2_sweep_38 rfl cwX2_64 rfl rfl (by first | exact hF.1 | exact hF.2.1.1 | exact hF.2.1.2.1 | exact hF.2.1.2.2.1 | exact hF.2.1.2.2.2.1 | exact hF.2.1.2.2.2.2 | exact hF.2.2.1 | exact hF.2.2.2.1 | exact hF.2.2.2.2.1 | exact hF.2.2.2.2.2.1 | exact hF.2.2.2.2.2.2 | rfl) (Nat.le_of_ble_eq_true rfl) (by refine ⟨?_, ?_, ?_, ?_⟩ <;> exact Nat.le_of_ble_eq_true rfl) (fun _ h => h) (zX2_enter  (by assumption) (by omega) (by omega) (by omega) (by decide) (by decide) (by decide)) ?_
          intro M38 J38 f38 q38
          obtain ⟨e38_1, e38_2⟩ := q38
          replace e38_1 := e38_1.symm; subst e38_1
          replace e38_2 := e38_2.symm; subst e38_2
          refine Z_goto (t := 59) dX2_sweep_41 (by decide) ?_
          refine Z_iinc (L' := [_, _]) (n := 62) dX2_sweep_59 rfl rfl (by decide) rfl rfl (by omega) rfl ?_
          refine Z_goto (t := 22) dX2_sweep_62 (by decide) ?_
          refine Z_loc (L' := [some _, some _]) (lsub_same (lsub_same lsub_nil)) ?_
          exact ih22 _ _ _ (by omega) (by first | rfl | assumption) (by first | assumption | omega | decide) (by first | assumption | omega | decide) (by first | (rw [uz_s]; decide) | (rw [entz_57]; omega) | (rw [show uz (uz M22 10 n (M22 5 6)) 5 6 n 5 7 = _ from frez_57]; omega)) (by first | exact sw0_58 | exact entz_58.trans i22_4 | exact frez_58.trans i22_4) (by first | exact fun a b => pIn_sw0 a b | exact fun a b => pIn_ent (i22_5 a b) (by omega) (zxor_in g7.1 (by omega) g8.1 (by omega)) | exact fun a b => pIn_fre (i22_5 a b) (by omega)) (by first | exact fun _ => frI_sw0 | exact fun a => frI_fre (i22_6 a) (by omega) | exact fun a => absurd (((congrFun (fr22 9 (by decide)).1 n).trans (a n (by omega) (by omega)))) c33)
  refine Z_loc (L' := [some _, some _]) (lsub_same (lsub_same lsub_nil)) ?_
  exact lp22 _ _ _ _ (Nat.lt_succ_self _) (by first | rfl | assumption) (by first | assumption | omega | decide) (by first | assumption | omega | decide) (by first | (rw [uz_s]; decide) | (rw [entz_57]; omega) | (rw [show uz (uz M22 10 n (M22 5 6)) 5 6 n 5 7 = _ from frez_57]; omega)) (by first | exact sw0_58 | exact entz_58.trans i22_4 | exact frez_58.trans i22_4) (by first | exact fun a b => pIn_sw0 a b | exact fun a b => pIn_ent (i22_5 a b) (by omega) (zxor_in g7.1 (by omega) g8.1 (by omega)) | exact fun a b => pIn_fre (i22_5 a b) (by omega)) (by first | exact fun _ => frI_sw0 | exact fun a => frI_fre (i22_6 a) (by omega) | exact fun a => absurd (((congrFun (fr22 9 (by decide)).1 n).trans (a n (by omega) (by omega)))) c33)
