/-! ===== the reference: remove, steps, clearHand ===== -/
abbrev kRv (a : Nat) : Prop := ¬ a = 31 ∧ ¬ a = 43 ∧ ¬ a = 45 ∧ ¬ a = 49 ∧ ¬ a = 50 ∧ ¬ a = 51 ∧ ¬ a = 52 ∧ ¬ a = 53
def TIr (M : zM) (J : zJ) (f k : Int) : Prop := (∃ (ch : Int → List Int) (fl : List Int), tabA M J ch fl) ∧ tabB M (updI lo0 f k) ∧ (∀ g : Int, 0 ≤ g → g < 56 → ¬ M 43 g = 0 → tabC M J g) ∧ (∀ n : Int, 0 ≤ n → n < 520 → M 52 n ≤ M 31 27) ∧ tabU M J
theorem updI_updI {f : Int → Int} {k v w : Int} : updI (updI f k v) k w = updI f k w := by
  funext j
  unfold updI
  split <;> rfl
theorem updI_id {f : Int → Int} {k : Int} : updI f k (f k) = f := by
  funext j
  unfold updI
  split
  · rename_i e; rw [e]
  · rfl
theorem held_lo {M : zM} {lo : Int → Int} {g n : Int} (h : tabB M lo) (g0 : 0 ≤ g) (g1 : g < 56) (n0 : 0 ≤ n) (n1 : n < 520) (hg : ¬ M 43 g = 0) (hn : inS M g (lo g) n) : ¬ M 49 n = 0 := by
  rw [h.1 n n0 n1]
  have key : ∀ N : Nat, g < N → 1 ≤ cfn M lo n N := by
    intro N
    induction N with
    | zero => intro q; omega
    | succ N ih =>
      intro q
      have c := cfn_in M lo n N
      have i := ind_in (¬ M 43 (N : Int) = 0 ∧ inS M N (lo N) n)
      unfold cfn
      by_cases e : g = N
      · subst e
        rw [ind_t ⟨hg, hn⟩]
        omega
      · have := ih (by omega)
        omega
  have := key 56 (by omega)
  omega
theorem tabC_mv {M M' : zM} {J J' : zJ} {g : Int} (h : tabC M J g) (e45 : M' 45 g = M 45 g) (e46 : M' 46 = M 46) (e47 : M' 47 = M 47) (e48 : J' 48 = J 48) (e44 : J' 44 = J 44) : tabC M' J' g := by
  have hm : ∀ (m d : Int) (P : Int → Int64), mtc M J m d P → mtc M' J' m d P := fun m d P z => by
    unfold mtc at *
    rw [e47, e48]
    exact z
  have hS : ∀ n : Int, inS M' g 0 n ↔ inS M g 0 n := fun n => by unfold inS; rw [e45, e46]
  unfold tabC
  rw [bitF_congr e44 g]
  refine ⟨fun d i a b c w q => ?_, fun n hn => ?_⟩
  · obtain ⟨n, h1, h2⟩ := h.1 d i a b c w q
    exact ⟨n, (hS n).mpr h1, hm _ _ _ h2⟩
  · obtain ⟨d, i, h1, h2, h3⟩ := h.2 n ((hS n).mp hn)
    exact ⟨d, i, h1, h2, hm _ _ _ h3⟩
theorem TIr_0 {M : zM} {J : zJ} {f : Int} (h : TI M J) : TIr M J f 0 := by
  obtain ⟨h1, h2, h3, h4⟩ := h
  exact ⟨h1, by rw [show (0 : Int) = lo0 f from rfl, updI_id]; exact h2, h3, h4⟩
/-- the node at k is held once less, and still held -/
theorem TIr_dec {M : zM} {J : zJ} {f k n : Int} (h : TIr M J f k) (hok : zOK M) (f0 : 0 ≤ f) (f1 : f < 56) (k1 : k < M 45 f) (hn : n = M 46 (255 * f + k)) (hf : ¬ M 43 f = 0) (hz : ¬ M 49 n - 1 = 0) : TIr (uz M 49 n (M 49 n - 1)) J f (k + 1) := by
  obtain ⟨⟨ch, fl, t1⟩, t2, t3, t4, tu⟩ := h
  have hM : ∀ g : Int, 0 ≤ M 45 g ∧ M 45 g ≤ 255 := fun g => hok 45 g
  have nr : 0 ≤ n ∧ n ≤ 519 := by rw [hn]; exact hok 46 _
  have hin : inS M f (updI lo0 f k f) n := ⟨k, by rw [updI_s]; omega, k1, hn.symm⟩
  have hl := held_lo t2 f0 f1 nr.1 (by omega) hf hin
  have o : ∀ a : Nat, a ≠ 49 → uz M 49 n (M 49 n - 1) a = M a := fun a ha => uz_o ha
  refine ⟨⟨ch, fl, tabA_rm t1 hl hz (o 50 (by decide)) (o 51 (by decide)) (o 47 (by decide)) (by rw [o 31 (by decide)]) (by rw [o 31 (by decide)]) uz_fn⟩, ?_, fun g g0 g1 hg => ?_, fun m m0 m1 => ?_, tabU_mv tu (fun m hm => ?_) (o 47 (by decide)) rfl⟩
  · have q := tabB_rm (M' := uz M 49 n (M 49 n - 1)) t2 hM f0 f1 updI_s k1 hn.symm hf (o 43 (by decide)) (o 45 (by decide)) (o 46 (by decide)) uz_fn
    rw [updI_updI] at q
    exact q
  · rw [o 43 (by decide)] at hg
    exact tabC_mv (t3 g g0 g1 hg) (by rw [o 45 (by decide)]) (o 46 (by decide)) (o 47 (by decide)) rfl rfl
  · rw [o 52 (by decide), o 31 (by decide)]; exact t4 m m0 m1
  · rw [uz_fn] at hm
    by_cases e : m = n
    · rw [e]; exact hl
    · rw [updI_n e] at hm; exact hm
/-- ahead of unlink -/
def rm1 (M : zM) (n : Int) : zM := uz (uz (uz M 49 n (M 49 n - 1)) 31 24 (M 31 24 - 1)) 52 n 0
theorem rm1_o {M : zM} {n : Int} {a : Nat} (h1 : a ≠ 31) (h2 : a ≠ 49) (h3 : a ≠ 52) : rm1 M n a = M a := by
  unfold rm1
  rw [uz_o h3, uz_o h1, uz_o h2]
theorem rm1_31 {M : zM} {n j : Int} (h : j ≠ 24) : rm1 M n 31 j = M 31 j := by
  unfold rm1
  rw [uz_oo (by decide), uz_n h, uz_oo (by decide)]
theorem rm1_24 {M : zM} {n : Int} : rm1 M n 31 24 = M 31 24 - 1 := by
  unfold rm1
  rw [uz_oo (by decide), uz_s]
theorem rm1_49 {M : zM} {n : Int} : rm1 M n 49 = updI (M 49) n (M 49 n - 1) := by
  unfold rm1
  rw [uz_o (by decide), uz_o (by decide), uz_fn]
theorem rm1_52 {M : zM} {n : Int} : rm1 M n 52 = updI (M 52) n 0 := by
  unfold rm1
  rw [uz_fn, uz_o (by decide), uz_o (by decide)]
/-- what unlink wants, and what it gives -/
theorem TIr_ul {M : zM} {J : zJ} {f k n : Int} (h : TIr M J f k) (hok : zOK M) (f0 : 0 ≤ f) (f1 : f < 56) (k1 : k < M 45 f) (hn : n = M 46 (255 * f + k)) (hf : ¬ M 43 f = 0) (hz : M 49 n - 1 = 0) : ∃ l : List Int, chn (rm1 M n 50) (rm1 M n 51 (bkt (rm1 M n 47 n) (kyf J n))) l ∧ l.Nodup ∧ n ∈ l ∧ ∀ (M' : zM) (J' : zJ), (∀ a, kUl a → M' a = rm1 M n a ∧ J' a = J a) → ulQ (rm1 M n) n (bkt (rm1 M n 47 n) (kyf J n)) l M' → TIr M' J' f (k + 1) ∧ M' 31 24 = M 31 24 - 1 ∧ (∀ j : Int, j ≠ 23 → j ≠ 24 → M' 31 j = M 31 j) := by
  obtain ⟨⟨ch, fl, t1⟩, t2, t3, t4, tu⟩ := h
  have hM : ∀ g : Int, 0 ≤ M 45 g ∧ M 45 g ≤ 255 := fun g => hok 45 g
  have nr : 0 ≤ n ∧ n ≤ 519 := by rw [hn]; exact hok 46 _
  have hin : inS M f (updI lo0 f k f) n := ⟨k, by rw [updI_s]; omega, k1, hn.symm⟩
  have hl := held_lo t2 f0 f1 nr.1 (by omega) hf hin
  have a50 : rm1 M n 50 = M 50 := rm1_o (by decide) (by decide) (by decide)
  have a51 : rm1 M n 51 = M 51 := rm1_o (by decide) (by decide) (by decide)
  have a47 : rm1 M n 47 = M 47 := rm1_o (by decide) (by decide) (by decide)
  have hb := bkt_in (M 47 n) (kyf J n)
  obtain ⟨q1, q2, q3⟩ := t1.1 _ hb.1 hb.2
  refine ⟨ch (bkt (M 47 n) (kyf J n)), by rw [a50, a51, a47]; exact q1, q2, (t1.2.2.1 n nr.1 (by omega)).2 hl, fun M' J' fr hu => ?_⟩
  rw [a47] at hu
  have e49 : M' 49 = updI (M 49) n (M 49 n - 1) := ((fr 49 (by decide)).1).trans rm1_49
  have e47 : M' 47 = M 47 := ((fr 47 (by decide)).1).trans a47
  have e43 : M' 43 = M 43 := ((fr 43 (by decide)).1).trans (rm1_o (by decide) (by decide) (by decide))
  have e45 : M' 45 = M 45 := ((fr 45 (by decide)).1).trans (rm1_o (by decide) (by decide) (by decide))
  have e46 : M' 46 = M 46 := ((fr 46 (by decide)).1).trans (rm1_o (by decide) (by decide) (by decide))
  have e48 : J' 48 = J 48 := (fr 48 (by decide)).2
  have e44 : J' 44 = J 44 := (fr 44 (by decide)).2
  have e52 : M' 52 = updI (M 52) n 0 := ((fr 52 (by decide)).1).trans rm1_52
  have e31 : ∀ j : Int, j ≠ 23 → j ≠ 24 → M' 31 j = M 31 j := fun j a b => (hu.2.1 j a).trans (rm1_31 b)
  refine ⟨⟨?_, ?_, fun g g0 g1 hg => ?_, fun m m0 m1 => ?_, tabU_mv tu (fun m hm => ?_) e47 e48⟩, (hu.2.1 24 (by decide)).trans rm1_24, e31⟩
  · obtain ⟨ch', fl', z⟩ := tabA_ul t1 nr.1 (by omega) hl a50 a51 (rm1_31 (by decide)) rm1_24 hu e47 (by rw [e49, hz])
    exact ⟨ch', fl', tabA_J e48 z⟩
  · have q := tabB_rm (M' := M') t2 hM f0 f1 updI_s k1 hn.symm hf e43 e45 e46 e49
    rw [updI_updI] at q
    exact q
  · rw [e43] at hg
    exact tabC_mv (t3 g g0 g1 hg) (by rw [e45]) e46 e47 e48 e44
  · rw [e52, e31 27 (by decide) (by decide)]
    have z : 0 ≤ M 31 27 ∧ M 31 27 ≤ 2147483647 := hok 31 27
    by_cases e : m = n
    · rw [e, updI_s]; exact z.1
    · rw [updI_n e]; exact t4 m m0 m1
  · rw [e49] at hm
    by_cases e : m = n
    · rw [e]; exact hl
    · rw [updI_n e] at hm; exact hm
/-- all its nodes are let go: f has nothing -/
theorem TI_rm {M : zM} {J : zJ} {f k : Int} (h : TIr M J f k) (hq : M 45 f ≤ k ∨ M 43 f = 0) : TI (uz (uz M 43 f 0) 45 f 0) J := by
  obtain ⟨⟨ch, fl, t1⟩, t2, t3, t4, tu⟩ := h
  have o : ∀ a : Nat, a ≠ 43 → a ≠ 45 → uz (uz M 43 f 0) 45 f 0 a = M a := fun a h1 h2 => by rw [uz_o h2, uz_o h1]
  have e43 : uz (uz M 43 f 0) 45 f 0 43 = updI (M 43) f 0 := by rw [uz_o (by decide), uz_fn]
  have e45 : uz (uz M 43 f 0) 45 f 0 45 = updI (M 45) f 0 := by rw [uz_fn, uz_o (by decide)]
  have hS : ∀ g m : Int, g ≠ f → (inS (uz (uz M 43 f 0) 45 f 0) g 0 m ↔ inS M g 0 m) := fun g m hg => by
    unfold inS
    rw [e45, updI_n hg, o 46 (by decide) (by decide)]
  refine ⟨⟨ch, fl, ?_⟩, ⟨fun m m0 m1 => ?_, fun g g0 g1 => ⟨fun i j hi hij hj => ?_, fun e => ?_⟩⟩, fun g g0 g1 hg => ?_, fun m m0 m1 => ?_, tabU_mv tu (fun m hm => by rw [o 49 (by decide) (by decide)] at hm; exact hm) (o 47 (by decide) (by decide)) rfl⟩
  · unfold tabA
    rw [o 50 (by decide) (by decide), o 51 (by decide) (by decide), o 47 (by decide) (by decide), o 49 (by decide) (by decide), o 31 (by decide) (by decide)]
    exact t1
  · rw [o 49 (by decide) (by decide), t2.1 m m0 m1]
    refine cfn_congr (fun g g0 g1 => ?_)
    by_cases e : g = f
    · subst e
      rw [e43, updI_s, updI_s]
      constructor
      · rintro ⟨z1, z2⟩
        rcases hq with q | q
        · exact absurd z2 (inS_none q)
        · exact absurd q z1
      · rintro ⟨z1, -⟩
        exact absurd rfl z1
    · rw [e43, updI_n e, updI_n e]
      exact and_congr Iff.rfl (hS g m e).symm
  · rw [e45] at hj
    rw [o 46 (by decide) (by decide)]
    by_cases e : g = f
    · rw [e, updI_s] at hj
      have : 0 ≤ i := hi
      omega
    · rw [updI_n e] at hj
      exact (t2.2 g g0 g1).1 i j (by rw [updI_n e]; exact hi) hij hj
  · rw [e45]
    by_cases z : g = f
    · rw [z, updI_s]
    · rw [e43, updI_n z] at e
      rw [updI_n z]
      exact (t2.2 g g0 g1).2 e
  · rw [e43] at hg
    by_cases z : g = f
    · rw [z, updI_s] at hg
      exact absurd rfl hg
    · rw [updI_n z] at hg
      exact tabC_mv (t3 g g0 g1 hg) (by rw [e45, updI_n z]) (o 46 (by decide) (by decide)) (o 47 (by decide) (by decide)) rfl rfl
  · rw [o 52 (by decide) (by decide), o 31 (by decide) (by decide)]; exact t4 m m0 m1
theorem hr_pos {f : Int → Int} {v : Int} : ∀ {n : Nat}, 0 ≤ v → v < n → ¬ f v = 0 → 1 ≤ hr f n
  | 0, h0, h1, _ => by omega
  | n + 1, h0, h1, h2 => by
    have h := hr_in f n
    unfold hr
    by_cases e : v = n
    · subst e
      rw [if_neg h2]
      omega
    · have := hr_pos (n := n) h0 (by omega) h2
      split <;> omega
theorem TIr_use {M : zM} {J : zJ} {f k n : Int} (h : TIr M J f k) (n0 : 0 ≤ n) (n1 : n < 520) (hn : ¬ M 49 n = 0) : 1 ≤ M 31 24 := by
  obtain ⟨⟨ch, fl, t1⟩, -⟩ := h
  rw [t1.2.2.2]
  exact hr_pos n0 (by omega) hn
set_option maxRecDepth 20000 in
theorem zX4_remove {G : tl_G} {M : zM} {J : zJ} {f : Int} (f0 : 0 ≤ f) (f1 : f < 56) (hT : TI M J) : ZN G yX4_remove mX4_remove 2 kRv [vR 31, vI f] F1 M J (qV (fun M' J' => TI M' J' ∧ M' 43 f = 0 ∧ M' 31 27 = M 31 27 ∧ M' 31 24 ≤ M 31 24 ∧ adf M M' f)) := by
  refine ZN_of (L := [_, _, _, _]) (by decide) rfl rfl (Nat.le_of_ble_eq_true rfl) rfl (fun hav => ?_)
  refine Z_iconst (n := 1) dX4_remove_0 rfl (by decide) ?_
  refine Z_istore_n (L' := [_, _, _, _]) (n := 2) dX4_remove_1 rfl (by decide) rfl rfl ?_
  have lp2 : ∀ (N2 : Nat) (k : Int) (M2 : zM) (J2 : zJ), ((255 - k).toNat) < N2 → (0 ≤ k) → (k ≤ 255) → (TIr M2 J2 f k) → (M2 43 = M 43 ∧ M2 45 = M 45 ∧ M2 46 = M 46) → (∀ j : Int, j ≠ 23 → j ≠ 24 → M2 31 j = M 31 j) → (M2 31 24 ≤ M 31 24) → TZ G mX4_remove (tl_rm 2 0 0) 0 0 kRv M J 2 [some (vR 31), some (vI f), some (vI k), none] [] F1 M2 J2 (ZM G (zPost G kRv F1 M J (qV (fun M' J' => TI M' J' ∧ M' 43 f = 0 ∧ M' 31 27 = M 31 27 ∧ M' 31 24 ≤ M 31 24 ∧ adf M M' f))) 0 0) := by
    intro N2
    induction N2 with
    | zero => intro k M2 J2 hN; omega
    | succ N2 ih2 =>
      intro k M2 J2 hN2 i2_0 i2_1 i2_2 i2_3 i2_4 i2_5
      refine Z_ok (fun ok2 => ?_)
      refine Z_fr (fun fr2 => ?_)
      refine Z_iload_n (n := 3) dX4_remove_2 rfl rfl ?_
      refine Z_aload_n (n := 4) dX4_remove_3 rfl rfl ?_
      refine Z_getA (n := 7) dX4_remove_4 rfl ffX4_51 rfl rfl ?_
      refine Z_iload_n (n := 8) dX4_remove_7 rfl rfl ?_
      refine Z_iald (n := 9) dX4_remove_8 rfl rfl rfl (by first | decide | assumption) (by omega) (by omega) (fun r8 s8 => ?_)
      refine Z_icmp_ge (n := 12) (t := 81) dX4_remove_9 rfl (by decide) (fun c9 => ?_) (fun c9 => ?_)
      · refine Z_aload_n (n := 82) dX4_remove_81 rfl rfl ?_
        refine Z_getA (n := 85) dX4_remove_82 rfl ffX4_44 rfl rfl ?_
        refine Z_iload_n (n := 86) dX4_remove_85 rfl rfl ?_
        refine Z_iconst (n := 87) dX4_remove_86 rfl (by decide) ?_
        refine Z_zast (n := 88) dX4_remove_87 rfl rfl rfl (by first | decide | assumption) (by omega) (by omega) (by first | assumption | omega | decide) (by first | assumption | omega | decide) (by decide) ?_
        refine Z_aload_n (n := 89) dX4_remove_88 rfl rfl ?_
        refine Z_getA (n := 92) dX4_remove_89 rfl ffX4_51 rfl rfl ?_
        refine Z_iload_n (n := 93) dX4_remove_92 rfl rfl ?_
        refine Z_iconst (n := 94) dX4_remove_93 rfl (by decide) ?_
        refine Z_iast (n := 95) dX4_remove_94 rfl rfl rfl (by first | decide | assumption) (by omega) (by omega) (by first | assumption | omega | decide) (by first | assumption | omega | decide) (by decide) ?_
        refine Z_vret dX4_remove_95 rfl ?_
        refine ⟨TI_rm i2_2 (by omega), by rw [uz_oo (by decide), uz_s], by rw [uz_oo (by decide), uz_oo (by decide)]; exact i2_4 27 (by decide) (by decide), by rw [uz_oo (by decide), uz_oo (by decide)]; exact i2_5, fun g hg => ⟨?_, ?_⟩, fun j _ => ?_, fun j a b _ _ => ?_⟩
        · rw [uz_n hg, uz_oo (by decide), i2_3.2.1]
        · rw [uz_oo (by decide), uz_n hg, i2_3.1]
        · rw [uz_oo (by decide), uz_oo (by decide), i2_3.2.2]
        · rw [uz_oo (by decide), uz_oo (by decide)]; exact i2_4 j a b
      · refine Z_aload_n (n := 13) dX4_remove_12 rfl rfl ?_
        refine Z_getA (n := 16) dX4_remove_13 rfl ffX4_44 rfl rfl ?_
        refine Z_iload_n (n := 17) dX4_remove_16 rfl rfl ?_
        refine Z_zald (n := 18) dX4_remove_17 rfl rfl rfl (by first | decide | assumption) (by omega) (by omega) (fun r17 s17 => ?_)
        refine Z_if_eq (n := 21) (t := 81) dX4_remove_18 rfl (by decide) (fun c18 => ?_) (fun c18 => ?_)
        · refine Z_aload_n (n := 82) dX4_remove_81 rfl rfl ?_
          refine Z_getA (n := 85) dX4_remove_82 rfl ffX4_44 rfl rfl ?_
          refine Z_iload_n (n := 86) dX4_remove_85 rfl rfl ?_
          refine Z_iconst (n := 87) dX4_remove_86 rfl (by decide) ?_
          refine Z_zast (n := 88) dX4_remove_87 rfl rfl rfl (by first | decide | assumption) (by omega) (by omega) (by first | assumption | omega | decide) (by first | assumption | omega | decide) (by decide) ?_
          refine Z_aload_n (n := 89) dX4_remove_88 rfl rfl ?_
          refine Z_getA (n := 92) dX4_remove_89 rfl ffX4_51 rfl rfl ?_
          refine Z_iload_n (n := 93) dX4_remove_92 rfl rfl ?_
          refine Z_iconst (n := 94) dX4_remove_93 rfl (by decide) ?_
          refine Z_iast (n := 95) dX4_remove_94 rfl rfl rfl (by first | decide | assumption) (by omega) (by omega) (by first | assumption | omega | decide) (by first | assumption | omega | decide) (by decide) ?_
          refine Z_vret dX4_remove_95 rfl ?_
          refine ⟨TI_rm i2_2 (by omega), by rw [uz_oo (by decide), uz_s], by rw [uz_oo (by decide), uz_oo (by decide)]; exact i2_4 27 (by decide) (by decide), by rw [uz_oo (by decide), uz_oo (by decide)]; exact i2_5, fun g hg => ⟨?_, ?_⟩, fun j _ => ?_, fun j a b _ _ => ?_⟩
          · rw [uz_n hg, uz_oo (by decide), i2_3.2.1]
          · rw [uz_oo (by decide), uz_n hg, i2_3.1]
          · rw [uz_oo (by decide), uz_oo (by decide), i2_3.2.2]
          · rw [uz_oo (by decide), uz_oo (by decide)]; exact i2_4 j a b
        · refine Z_aload_n (n := 22) dX4_remove_21 rfl rfl ?_
          refine Z_getA (n := 25) dX4_remove_22 rfl ffX4_54 rfl rfl ?_
          refine Z_sipush (n := 28) dX4_remove_25 rfl (by decide) (by decide) ?_
          refine Z_iload_n (n := 29) dX4_remove_28 rfl rfl ?_
          refine Z_imul (n := 30) dX4_remove_29 rfl (by omega) ?_
          refine Z_iload_n (n := 31) dX4_remove_30 rfl rfl ?_
          refine Z_iadd (n := 32) dX4_remove_31 rfl (by omega) ?_
          refine Z_iald (n := 33) dX4_remove_32 rfl rfl rfl (by first | decide | assumption) (by omega) (by omega) (fun r32 s32 => ?_)
          refine Z_istore_n (L' := [_, _, _, _]) (n := 34) dX4_remove_33 rfl (by decide) rfl rfl ?_
          obtain ⟨n, hn⟩ : ∃ n, n = M2 46 (255 * f + k) := ⟨_, rfl⟩
          rw [← hn] at r32 s32 ⊢
          refine Z_rg 49 n rfl (fun g49 g49b => ?_)
          have hl : ¬ M2 49 n = 0 := held_lo i2_2.2.1 f0 f1 (by omega) (by omega) c18 ⟨k, by rw [updI_s]; omega, by omega, hn.symm⟩
          refine Z_rg 31 24 rfl (fun g24 g24b => ?_)
          have u24 : 1 ≤ M2 31 24 := TIr_use i2_2 (by omega) (by omega) hl
          refine Z_aload_n (n := 35) dX4_remove_34 rfl rfl ?_
          refine Z_getA (n := 38) dX4_remove_35 rfl ffX4_63 rfl rfl ?_
          refine Z_iload_n (n := 39) dX4_remove_38 rfl rfl ?_
          refine Z_dup2 (n := 40) dX4_remove_39 rfl rfl rfl ?_
          refine Z_iald (n := 41) dX4_remove_40 rfl rfl rfl (by first | decide | assumption) (by omega) (by omega) (fun r40 s40 => ?_)
          refine Z_iconst (n := 42) dX4_remove_41 rfl (by decide) ?_
          refine Z_isub (n := 43) dX4_remove_42 rfl (by omega) ?_
          refine Z_iast (n := 44) dX4_remove_43 rfl rfl rfl (by first | decide | assumption) (by omega) (by omega) (by first | assumption | omega | decide) (by first | assumption | omega | decide) (by decide) ?_
          refine Z_aload_n (n := 45) dX4_remove_44 rfl rfl ?_
          refine Z_getA (n := 48) dX4_remove_45 rfl ffX4_63 rfl rfl ?_
          refine Z_iload_n (n := 49) dX4_remove_48 rfl rfl ?_
          refine Z_iald (n := 50) dX4_remove_49 rfl rfl rfl (by first | decide | assumption) (by omega) (by omega) (fun r49 s49 => ?_)
          try simp only [uz_s] at r49 s49 ⊢
          refine Z_if_ne (n := 53) (t := 75) dX4_remove_50 rfl (by decide) (fun c50 => ?_) (fun c50 => ?_)
          · have tr1 : TIr (uz M2 49 n (M2 49 n - 1)) J2 f (k + 1) := TIr_dec i2_2 ok2 f0 f1 (by omega) hn c18 c50
            have te1 : uz M2 49 n (M2 49 n - 1) 43 = M 43 ∧ uz M2 49 n (M2 49 n - 1) 45 = M 45 ∧ uz M2 49 n (M2 49 n - 1) 46 = M 46 := by
              rw [uz_o (by decide), uz_o (by decide), uz_o (by decide)]; exact i2_3
            have tf1 : ∀ j : Int, j ≠ 23 → j ≠ 24 → uz M2 49 n (M2 49 n - 1) 31 j = M 31 j := fun j a b => by rw [uz_oo (by decide)]; exact i2_4 j a b
            have tu1 : uz M2 49 n (M2 49 n - 1) 31 24 ≤ M 31 24 := by rw [uz_oo (by decide)]; exact i2_5
            refine Z_iinc (L' := [_, _, _, _]) (n := 78) dX4_remove_75 rfl rfl (by decide) rfl rfl (by omega) rfl ?_
            refine Z_goto (t := 2) dX4_remove_78 (by decide) ?_
            refine Z_loc (L' := [some _, some _, some _, none]) (lsub_same (lsub_same (lsub_same (lsub_none lsub_nil)))) ?_
            exact ih2 _ _ _ (by omega) (by first | assumption | omega | decide) (by first | assumption | omega | decide) (by exact tr1) (by exact te1) (by exact tf1) (by exact tu1)
          · refine Z_aload_n (n := 54) dX4_remove_53 rfl rfl ?_
            refine Z_dup (n := 55) dX4_remove_54 rfl rfl ?_
            refine Z_getI (n := 58) (ki := 24) dX4_remove_55 rfl ffX4_149 rfl rfl rfl (fun r55 s55 => ?_)
            try simp only [uz_oo (show (31 : Nat) ≠ 49 by decide)] at r55 s55 ⊢
            refine Z_iconst (n := 59) dX4_remove_58 rfl (by decide) ?_
            refine Z_isub (n := 60) dX4_remove_59 rfl (by omega) ?_
            refine Z_putI (n := 63) (ki := 24) dX4_remove_60 rfl ffX4_149 rfl (by decide) rfl rfl (by first | assumption | omega | decide) (by first | assumption | omega | decide) (by decide) ?_
            refine Z_aload_n (n := 64) dX4_remove_63 rfl rfl ?_
            refine Z_getA (n := 67) dX4_remove_64 rfl ffX4_72 rfl rfl ?_
            refine Z_iload_n (n := 68) dX4_remove_67 rfl rfl ?_
            refine Z_iconst (n := 69) dX4_remove_68 rfl (by decide) ?_
            refine Z_iast (n := 70) dX4_remove_69 rfl rfl rfl (by first | decide | assumption) (by omega) (by omega) (by first | assumption | omega | decide) (by first | assumption | omega | decide) (by decide) ?_
            obtain ⟨l, hl1, hl2, hl3, hl4⟩ := TIr_ul i2_2 ok2 f0 f1 (by omega) hn c18 c50
            refine Z_nm (fun M69 e69 => ?_)
            replace e69 : M69 = rm1 M2 n := e69
            subst e69
            refine Z_aload_n (n := 71) dX4_remove_70 rfl rfl ?_
            refine Z_iload_n (n := 72) dX4_remove_71 rfl rfl ?_
            refine Z_callVv (n := 75) [_] _ dX4_remove_72 rfl cwX4_169 rfl rfl rfl (Nat.le_of_ble_eq_true rfl) (by refine ⟨?_, ?_, ?_, ?_⟩ <;> exact Nat.le_of_ble_eq_true rfl) (fun a h => by unfold kRv at h; unfold kUl; omega) (zX4_unlink (l := l) (by omega) (by omega) (by exact hl1) (by exact hl2) (by exact hl3)) ?_
            intro M72 J72 f72 q72
            obtain ⟨tr1, u72, tf0⟩ := hl4 M72 J72 f72 q72
            have e72 : ∀ a : Nat, (a = 43 ∨ a = 45 ∨ a = 46) → M72 a = M2 a := fun a ha => ((f72 a (by unfold kUl; omega)).1).trans (rm1_o (by omega) (by omega) (by omega))
            have te1 : M72 43 = M 43 ∧ M72 45 = M 45 ∧ M72 46 = M 46 := by
              rw [e72 43 (by decide), e72 45 (by decide), e72 46 (by decide)]; exact i2_3
            have tf1 : ∀ j : Int, j ≠ 23 → j ≠ 24 → M72 31 j = M 31 j := fun j a b => (tf0 j a b).trans (i2_4 j a b)
            have tu1 : M72 31 24 ≤ M 31 24 := by omega
            refine Z_iinc (L' := [_, _, _, _]) (n := 78) dX4_remove_75 rfl rfl (by decide) rfl rfl (by omega) rfl ?_
            refine Z_goto (t := 2) dX4_remove_78 (by decide) ?_
            refine Z_loc (L' := [some _, some _, some _, none]) (lsub_same (lsub_same (lsub_same (lsub_none lsub_nil)))) ?_
            exact ih2 _ _ _ (by omega) (by first | assumption | omega | decide) (by first | assumption | omega | decide) (by exact tr1) (by exact te1) (by exact tf1) (by exact tu1)
  refine Z_loc (L' := [some _, some _, some _, none]) (lsub_same (lsub_same (lsub_same (lsub_none lsub_nil)))) ?_
  exact lp2 _ _ _ _ (Nat.lt_succ_self _) (by first | assumption | omega | decide) (by first | assumption | omega | decide) (by exact TIr_0 hT) (by exact ⟨rfl, rfl, rfl⟩) (by exact fun _ _ _ => rfl) (by exact Int.le_refl _)
theorem adf_t {M M1 M2 : zM} {f : Int} (h1 : adf M M1 f) (h2 : adf M1 M2 f) : adf M M2 f :=
  ⟨fun g hg => ⟨((h2.1 g hg).1).trans (h1.1 g hg).1, ((h2.1 g hg).2).trans (h1.1 g hg).2⟩, fun j hj => (h2.2.1 j hj).trans (h1.2.1 j hj), fun j a b c e => (h2.2.2 j a b c e).trans (h1.2.2 j a b c e)⟩
theorem TI_31 {M : zM} {J : zJ} {j v : Int} (h : TI M J) (h1 : j ≠ 23) (h2 : j ≠ 24) (h3 : j ≠ 27) : TI (uz M 31 j v) J := by
  have o : ∀ a : Nat, a ≠ 31 → uz M 31 j v a = M a := fun a ha => uz_o ha
  unfold TI tabA tabB tabC tabU at *
  have hc : ∀ n : Int, cfn (uz M 31 j v) lo0 n 56 = cfn M lo0 n 56 := fun n => cfn_congr (fun g _ _ => by unfold inS; rw [o 43 (by decide), o 45 (by decide), o 46 (by decide)])
  have hS : ∀ g m : Int, (inS (uz M 31 j v) g 0 m ↔ inS M g 0 m) := fun g m => by unfold inS; rw [o 45 (by decide), o 46 (by decide)]
  have hm : ∀ (n d : Int) (P : Int → Int64), mtc (uz M 31 j v) J n d P ↔ mtc M J n d P := fun n d P => by unfold mtc; rw [o 47 (by decide)]
  simp only [hc, hS, hm, o 43 (by decide), o 45 (by decide), o 46 (by decide), o 47 (by decide), o 49 (by decide), o 50 (by decide), o 51 (by decide), o 52 (by decide), uz_n (Ne.symm h1), uz_n (Ne.symm h2), uz_n (Ne.symm h3)]
  exact h
theorem adf_31 {M M1 : zM} {f v : Int} (h : adf M M1 f) : adf M (uz M1 31 25 v) f :=
  ⟨fun g hg => by rw [uz_oo (by decide), uz_oo (by decide)]; exact h.1 g hg, fun j hj => by rw [uz_oo (by decide)]; exact h.2.1 j hj, fun j a b c e => by rw [uz_n c]; exact h.2.2 j a b c e⟩
set_option maxRecDepth 20000 in
theorem zX4_steps {G : tl_G} {M : zM} {J : zJ} {f : Int} (f0 : 0 ≤ f) (f1 : f < 56) (hT : TI M J) (hf : M 43 f = 0) (hu : M 31 24 ≤ 250) (hk : M 31 27 < 2147483647) : ZN G yX4_steps mX4_steps 3 kAd [vR 31, vI f] F1 M J (qI (fun x M' J' => TI M' J' ∧ ¬ M' 43 f = 0 ∧ M' 31 27 = M 31 27 + 1 ∧ M' 31 24 ≤ M 31 24 + 255 ∧ adf M M' f ∧ ((x = 1 ∧ M' 31 24 ≤ M' 31 8) ∨ (x = 0 ∧ M' 31 8 < M' 31 24)))) := by
  refine ZN_of (L := [_, _]) (by decide) rfl rfl (Nat.le_of_ble_eq_true rfl) rfl (fun hav => ?_)
  refine Z_aload_n (n := 1) dX4_steps_0 rfl rfl ?_
  refine Z_iload_n (n := 2) dX4_steps_1 rfl rfl ?_
  refine Z_callVv (n := 5) [_] _ dX4_steps_2 rfl cwX4_173 rfl rfl rfl (Nat.le_of_ble_eq_true rfl) (by refine ⟨?_, ?_, ?_, ?_⟩ <;> exact Nat.le_of_ble_eq_true rfl) (fun _ h => h) (zX4_add  (by first | assumption | omega | decide) (by first | assumption | omega | decide) (by first | assumption | omega | decide) (by first | assumption | omega | decide) (by first | assumption | omega | decide) (by first | assumption | omega | decide)) ?_
  intro M2 J2 f2 q2
  obtain ⟨ti2, ah2, am2, au2, af2, ac2⟩ := q2
  refine Z_aload_n (n := 6) dX4_steps_5 rfl rfl ?_
  refine Z_aload_n (n := 7) dX4_steps_6 rfl rfl ?_
  refine Z_getI (n := 10) (ki := 24) dX4_steps_7 rfl ffX4_149 rfl rfl rfl (fun r7 s7 => ?_)
  refine Z_aload_n (n := 11) dX4_steps_10 rfl rfl ?_
  refine Z_getI (n := 14) (ki := 8) dX4_steps_11 rfl ffX4_102 rfl rfl rfl (fun r11 s11 => ?_)
  refine Z_icmp_le (n := 17) (t := 26) dX4_steps_14 rfl (by decide) (fun c14 => ?_) (fun c14 => ?_)
  · refine Z_aload_n (n := 27) dX4_steps_26 rfl rfl ?_
    refine Z_getI (n := 30) (ki := 24) dX4_steps_27 rfl ffX4_149 rfl rfl rfl (fun r27 s27 => ?_)
    refine Z_aload_n (n := 31) dX4_steps_30 rfl rfl ?_
    refine Z_getI (n := 34) (ki := 25) dX4_steps_31 rfl ffX4_176 rfl rfl rfl (fun r31 s31 => ?_)
    refine Z_icmp_le (n := 37) (t := 44) dX4_steps_34 rfl (by decide) (fun c34 => ?_) (fun c34 => ?_)
    · refine Z_aload_n (n := 45) dX4_steps_44 rfl rfl ?_
      refine Z_getI (n := 48) (ki := 25) dX4_steps_45 rfl ffX4_176 rfl rfl rfl (fun r45 s45 => ?_)
      refine Z_putI (n := 51) (ki := 25) dX4_steps_48 rfl ffX4_176 rfl (by decide) rfl rfl (by first | assumption | omega | decide) (by first | assumption | omega | decide) (by decide) ?_
      refine Z_aload_n (n := 52) dX4_steps_51 rfl rfl ?_
      refine Z_getI (n := 55) (ki := 24) dX4_steps_52 rfl ffX4_149 rfl rfl rfl (fun r52 s52 => ?_)
      try simp only [uz_n (show (24 : Int) ≠ 25 by decide)] at r52 s52 ⊢
      refine Z_aload_n (n := 56) dX4_steps_55 rfl rfl ?_
      refine Z_getI (n := 59) (ki := 8) dX4_steps_56 rfl ffX4_102 rfl rfl rfl (fun r56 s56 => ?_)
      try simp only [uz_n (show (8 : Int) ≠ 25 by decide)] at r56 s56 ⊢
      refine Z_icmp_gt (n := 62) (t := 66) dX4_steps_59 rfl (by decide) (fun c59 => ?_) (fun c59 => ?_)
      · refine Z_iconst (n := 67) dX4_steps_66 rfl (by decide) ?_
        refine Z_zret dX4_steps_67 rfl (by first | assumption | omega | decide) (by first | assumption | omega | decide) ?_
        refine ⟨TI_31 ti2 (by decide) (by decide) (by decide), by rw [uz_oo (by decide)]; exact ah2, by rw [uz_n (by decide)]; exact am2, by rw [uz_n (by decide)]; exact au2, adf_31 af2, ?_⟩
        rw [uz_n (by decide), uz_n (by decide)]
        omega
      · refine Z_iconst (n := 63) dX4_steps_62 rfl (by decide) ?_
        refine Z_goto (t := 67) dX4_steps_63 (by decide) ?_
        refine Z_zret dX4_steps_67 rfl (by first | assumption | omega | decide) (by first | assumption | omega | decide) ?_
        refine ⟨TI_31 ti2 (by decide) (by decide) (by decide), by rw [uz_oo (by decide)]; exact ah2, by rw [uz_n (by decide)]; exact am2, by rw [uz_n (by decide)]; exact au2, adf_31 af2, ?_⟩
        rw [uz_n (by decide), uz_n (by decide)]
        omega
    · refine Z_aload_n (n := 38) dX4_steps_37 rfl rfl ?_
      refine Z_getI (n := 41) (ki := 24) dX4_steps_38 rfl ffX4_149 rfl rfl rfl (fun r38 s38 => ?_)
      refine Z_goto (t := 48) dX4_steps_41 (by decide) ?_
      refine Z_putI (n := 51) (ki := 25) dX4_steps_48 rfl ffX4_176 rfl (by decide) rfl rfl (by first | assumption | omega | decide) (by first | assumption | omega | decide) (by decide) ?_
      refine Z_aload_n (n := 52) dX4_steps_51 rfl rfl ?_
      refine Z_getI (n := 55) (ki := 24) dX4_steps_52 rfl ffX4_149 rfl rfl rfl (fun r52 s52 => ?_)
      try simp only [uz_n (show (24 : Int) ≠ 25 by decide)] at r52 s52 ⊢
      refine Z_aload_n (n := 56) dX4_steps_55 rfl rfl ?_
      refine Z_getI (n := 59) (ki := 8) dX4_steps_56 rfl ffX4_102 rfl rfl rfl (fun r56 s56 => ?_)
      try simp only [uz_n (show (8 : Int) ≠ 25 by decide)] at r56 s56 ⊢
      refine Z_icmp_gt (n := 62) (t := 66) dX4_steps_59 rfl (by decide) (fun c59 => ?_) (fun c59 => ?_)
      · refine Z_iconst (n := 67) dX4_steps_66 rfl (by decide) ?_
        refine Z_zret dX4_steps_67 rfl (by first | assumption | omega | decide) (by first | assumption | omega | decide) ?_
        refine ⟨TI_31 ti2 (by decide) (by decide) (by decide), by rw [uz_oo (by decide)]; exact ah2, by rw [uz_n (by decide)]; exact am2, by rw [uz_n (by decide)]; exact au2, adf_31 af2, ?_⟩
        rw [uz_n (by decide), uz_n (by decide)]
        omega
      · refine Z_iconst (n := 63) dX4_steps_62 rfl (by decide) ?_
        refine Z_goto (t := 67) dX4_steps_63 (by decide) ?_
        refine Z_zret dX4_steps_67 rfl (by first | assumption | omega | decide) (by first | assumption | omega | decide) ?_
        refine ⟨TI_31 ti2 (by decide) (by decide) (by decide), by rw [uz_oo (by decide)]; exact ah2, by rw [uz_n (by decide)]; exact am2, by rw [uz_n (by decide)]; exact au2, adf_31 af2, ?_⟩
        rw [uz_n (by decide), uz_n (by decide)]
        omega
  · refine Z_aload_n (n := 18) dX4_steps_17 rfl rfl ?_
    refine Z_getI (n := 21) (ki := 8) dX4_steps_18 rfl ffX4_102 rfl rfl rfl (fun r18 s18 => ?_)
    refine Z_iconst (n := 22) dX4_steps_21 rfl (by decide) ?_
    refine Z_iadd (n := 23) dX4_steps_22 rfl (by omega) ?_
    refine Z_goto (t := 48) dX4_steps_23 (by decide) ?_
    refine Z_putI (n := 51) (ki := 25) dX4_steps_48 rfl ffX4_176 rfl (by decide) rfl rfl (by first | assumption | omega | decide) (by first | assumption | omega | decide) (by decide) ?_
    refine Z_aload_n (n := 52) dX4_steps_51 rfl rfl ?_
    refine Z_getI (n := 55) (ki := 24) dX4_steps_52 rfl ffX4_149 rfl rfl rfl (fun r52 s52 => ?_)
    try simp only [uz_n (show (24 : Int) ≠ 25 by decide)] at r52 s52 ⊢
    refine Z_aload_n (n := 56) dX4_steps_55 rfl rfl ?_
    refine Z_getI (n := 59) (ki := 8) dX4_steps_56 rfl ffX4_102 rfl rfl rfl (fun r56 s56 => ?_)
    try simp only [uz_n (show (8 : Int) ≠ 25 by decide)] at r56 s56 ⊢
    refine Z_icmp_gt (n := 62) (t := 66) dX4_steps_59 rfl (by decide) (fun c59 => ?_) (fun c59 => ?_)
    · refine Z_iconst (n := 67) dX4_steps_66 rfl (by decide) ?_
      refine Z_zret dX4_steps_67 rfl (by first | assumption | omega | decide) (by first | assumption | omega | decide) ?_
      refine ⟨TI_31 ti2 (by decide) (by decide) (by decide), by rw [uz_oo (by decide)]; exact ah2, by rw [uz_n (by decide)]; exact am2, by rw [uz_n (by decide)]; exact au2, adf_31 af2, ?_⟩
      rw [uz_n (by decide), uz_n (by decide)]
      omega
    · refine Z_iconst (n := 63) dX4_steps_62 rfl (by decide) ?_
      refine Z_goto (t := 67) dX4_steps_63 (by decide) ?_
      refine Z_zret dX4_steps_67 rfl (by first | assumption | omega | decide) (by first | assumption | omega | decide) ?_
      refine ⟨TI_31 ti2 (by decide) (by decide) (by decide), by rw [uz_oo (by decide)]; exact ah2, by rw [uz_n (by decide)]; exact am2, by rw [uz_n (by decide)]; exact au2, adf_31 af2, ?_⟩
      rw [uz_n (by decide), uz_n (by decide)]
      omega
/-- the handles' functions are as they were -/
def hdl (M M' : zM) : Prop := (∀ g : Int, g < 12 → M' 45 g = M 45 g ∧ M' 43 g = M 43 g) ∧ (∀ j : Int, j < 3060 → M' 46 j = M 46 j) ∧ ∀ j : Int, j ≠ 23 → j ≠ 24 → j ≠ 25 → j ≠ 27 → M' 31 j = M 31 j
theorem hdl_0 {M : zM} : hdl M M := ⟨fun _ _ => ⟨rfl, rfl⟩, fun _ _ => rfl, fun _ _ _ _ _ => rfl⟩
theorem hdl_t {M M1 M2 : zM} (h1 : hdl M M1) (h2 : hdl M1 M2) : hdl M M2 :=
  ⟨fun g hg => ⟨((h2.1 g hg).1).trans (h1.1 g hg).1, ((h2.1 g hg).2).trans (h1.1 g hg).2⟩, fun j hj => (h2.2.1 j hj).trans (h1.2.1 j hj), fun j a b c e => (h2.2.2 j a b c e).trans (h1.2.2 j a b c e)⟩
theorem hdl_a {M M1 : zM} {f : Int} (h : adf M M1 f) (hf : 12 ≤ f) : hdl M M1 :=
  ⟨fun g hg => h.1 g (by omega), fun j hj => h.2.1 j (by omega), h.2.2⟩
set_option maxRecDepth 20000 in
theorem zX4_clearHand {G : tl_G} {M : zM} {J : zJ}  (hT : TI M J) : ZN G yX4_clearHand mX4_clearHand 3 kRv [vR 31] F1 M J (qV (fun M' J' => TI M' J' ∧ (∀ g : Int, 12 ≤ g → g < 56 → M' 43 g = 0) ∧ M' 31 27 = M 31 27 ∧ M' 31 24 ≤ M 31 24 ∧ hdl M M')) := by
  refine ZN_of (L := [_, _]) (by decide) rfl rfl (Nat.le_of_ble_eq_true rfl) rfl (fun hav => ?_)
  refine Z_bipush (n := 2) dX4_clearHand_0 rfl (by decide) (by decide) ?_
  refine Z_istore_n (L' := [_, _]) (n := 3) dX4_clearHand_2 rfl (by decide) rfl rfl ?_
  have lp3 : ∀ (N3 : Nat) (k : Int) (M3 : zM) (J3 : zJ), ((56 - k).toNat) < N3 → (12 ≤ k) → (k ≤ 56) → (TI M3 J3) → (∀ g : Int, 12 ≤ g → g < k → M3 43 g = 0) → (M3 31 27 = M 31 27) → (M3 31 24 ≤ M 31 24) → (hdl M M3) → TZ G mX4_clearHand (tl_rm 3 0 0) 0 0 kRv M J 3 [some (vR 31), some (vI k)] [] F1 M3 J3 (ZM G (zPost G kRv F1 M J (qV (fun M' J' => TI M' J' ∧ (∀ g : Int, 12 ≤ g → g < 56 → M' 43 g = 0) ∧ M' 31 27 = M 31 27 ∧ M' 31 24 ≤ M 31 24 ∧ hdl M M'))) 0 0) := by
    intro N3
    induction N3 with
    | zero => intro k M3 J3 hN; omega
    | succ N3 ih3 =>
      intro k M3 J3 hN3 i3_0 i3_1 i3_2 i3_3 i3_4 i3_5 i3_6
      refine Z_iload_n (n := 4) dX4_clearHand_3 rfl rfl ?_
      refine Z_bipush (n := 6) dX4_clearHand_4 rfl (by decide) (by decide) ?_
      refine Z_icmp_ge (n := 9) (t := 20) dX4_clearHand_6 rfl (by decide) (fun c6 => ?_) (fun c6 => ?_)
      · refine Z_vret dX4_clearHand_20 rfl ?_
        exact ⟨i3_2, fun g a b => i3_3 g a (by omega), i3_4, i3_5, i3_6⟩
      · refine Z_aload_n (n := 10) dX4_clearHand_9 rfl rfl ?_
        refine Z_iload_n (n := 11) dX4_clearHand_10 rfl rfl ?_
        refine Z_callVv (n := 14) [_] _ dX4_clearHand_11 rfl cwX4_179 rfl rfl rfl (Nat.le_of_ble_eq_true rfl) (by refine ⟨?_, ?_, ?_, ?_⟩ <;> exact Nat.le_of_ble_eq_true rfl) (fun _ h => h) (zX4_remove  (by first | assumption | omega | decide) (by first | assumption | omega | decide) (by first | assumption | omega | decide)) ?_
        intro M11 J11 f11 q11
        obtain ⟨ti11, ah11, am11, au11, af11⟩ := q11
        have nx : ∀ g : Int, 12 ≤ g → g < k + 1 → M11 43 g = 0 := fun g a b => by
          by_cases e : g = k
          · rw [e]; exact ah11
          · rw [(af11.1 g e).2]; exact i3_3 g a (by omega)
        refine Z_iinc (L' := [_, _]) (n := 17) dX4_clearHand_14 rfl rfl (by decide) rfl rfl (by omega) rfl ?_
        refine Z_goto (t := 3) dX4_clearHand_17 (by decide) ?_
        refine Z_loc (L' := [some _, some _]) (lsub_same (lsub_same lsub_nil)) ?_
        exact ih3 _ _ _ (by omega) (by first | assumption | omega | decide) (by first | assumption | omega | decide) (by exact ti11) (by exact nx) (by exact am11.trans i3_4) (by omega) (by exact hdl_t i3_6 (hdl_a af11 (by omega)))
  refine Z_loc (L' := [some _, some _]) (lsub_same (lsub_same lsub_nil)) ?_
  exact lp3 _ _ _ _ (Nat.lt_succ_self _) (by first | assumption | omega | decide) (by first | assumption | omega | decide) (by exact hT) (by exact fun g a b => by omega) (by rfl) (by exact Int.le_refl _) (by exact hdl_0)
