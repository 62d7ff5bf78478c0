section
/-! ===== readers: what is read of a function ===== -/
theorem pos_ihd (r : Int → Int) : pos r = ihd r 8 := by
  have h := pd_mix (s := r) (d := 8) (k := 0) (r := r) rfl
  have e : mix ((8 : Nat) : Int) r r = r := by
    funext k
    unfold mix
    split <;> rfl
  rw [e] at h
  unfold pos
  rw [h]
  show ihd r 8 * 1 + 0 = ihd r 8
  omega
/-- the values that an assignment gives to the places -/
def aR (o : Int → Int) (a : Int) : Int → Int := fun k => if 0 ≤ k ∧ k < 8 then zand (zshr a (o k)) 1 else 0
theorem aR_in {o : Int → Int} {a k : Int} (h0 : 0 ≤ k) (h1 : k < 8) : aR o a k = zand (zshr a (o k)) 1 := if_pos ⟨h0, h1⟩
theorem aR_cg {o o' : Int → Int} {a : Int} (h : ∀ k : Int, 0 ≤ k → k < 8 → o' k = o k) : aR o' a = aR o a := by
  funext k
  unfold aR
  by_cases q : 0 ≤ k ∧ k < 8
  · rw [if_pos q, if_pos q, h k q.1 q.2]
  · rw [if_neg q, if_neg q]
theorem bz_and (x : Int) : bz (zand x 1) = zand x 1 := by
  rcases zand_1 x with h | h
  · rw [h]; rfl
  · rw [h]; rfl
theorem stF_ihd (o : Int → Int) (a : Int) : ∀ n : Nat, n ≤ 8 → stF o a n = ihd (aR o a) n
  | 0, _ => rfl
  | n + 1, h => by
    show 2 * stF o a n + zand (zshr a (o (n : Int))) 1 = 2 * ihd (aR o a) n + bz (aR o a (n : Int))
    rw [stF_ihd o a n (by omega), aR_in (show (0 : Int) ≤ (n : Int) by omega) (by omega), bz_and]
theorem stF_pos (o : Int → Int) (a : Int) : stF o a 8 = pos (aR o a) := by
  rw [pos_ihd]
  exact stF_ihd o a 8 (Nat.le_refl 8)
/-- a function's value at an assignment -/
def vF (F : FN) (o : Int → Int) (a : Int) : Int := F (aR o a)
/-! counts over places -/
/-! the reference's nodes of a function -/
end
section
/-! ===== readers: their answers ===== -/
set_option maxRecDepth 20000 in
theorem zX2_valueFor_f {G : tl_G} {M : zM} {J : zJ} {S : Int → Prop} {n a : Int} (hp : pst M S) (hn : okN S n) : ZN G yX2_valueFor mX2_valueFor 1 kAll [vR 5, vI n, vI a, vR 2] F1 M J (qI (fun x M' J' => M' = M ∧ J' = J ∧ x = vF (den M n) (M 3) a)) := by
  refine ZN_of (L := [_, _, _, _, _, _, _]) (by decide) rfl rfl (Nat.le_of_ble_eq_true rfl) rfl (fun hav => ?_)
  have hin := okN_in hp hn
  refine Z_iload_n (n := 1) dX2_valueFor_0 rfl rfl ?_
  refine Z_istore (L' := [_, _, _, _, _, _, _]) (n := 3) dX2_valueFor_1 rfl (by decide) rfl rfl ?_
  refine Z_iconst (n := 4) dX2_valueFor_3 rfl (by decide) ?_
  refine Z_istore (L' := [_, _, _, _, _, _, _]) (n := 6) dX2_valueFor_4 rfl (by decide) rfl rfl ?_
  have lp6 : ∀ (N6 : Nat) (c i : Int) , ((8 - i).toNat) < N6 → (0 ≤ c) → (c ≤ 251) → (0 ≤ i) → (i ≤ 8) → (okN S c) → (i ≤ M 6 c) → (den M c (aR (M 3) a) = den M n (aR (M 3) a)) → TZ G mX2_valueFor (tl_rm 1 0 0) 0 0 kAll M J 6 [some (vR 5), some (vI n), some (vI a), some (vR 2), some (vI c), some (vI i), none] [] F1 M J (ZM G (zPost G kAll F1 M J (qI (fun x M' J' => M' = M ∧ J' = J ∧ x = vF (den M n) (M 3) a))) 0 0) := by
    intro N6
    induction N6 with
    | zero => intro c i  hN; omega
    | succ N6 ih6 =>
      intro c i  hN6 i6_0 i6_1 i6_2 i6_3 i6_4 i6_5 i6_6
      refine Z_iload (n := 8) dX2_valueFor_6 rfl rfl ?_
      refine Z_bipush (n := 10) dX2_valueFor_8 rfl (by decide) (by decide) ?_
      refine Z_icmp_ge (n := 13) (t := 75) dX2_valueFor_10 rfl (by decide) (fun c10 => ?_) (fun c10 => ?_)
      · refine Z_iload (n := 77) dX2_valueFor_75 rfl rfl ?_
        refine Z_iconst (n := 78) dX2_valueFor_77 rfl (by decide) ?_
        refine Z_icmp_ne (n := 81) (t := 85) dX2_valueFor_78 rfl (by decide) (fun c78 => ?_) (fun c78 => ?_)
        · refine Z_iconst (n := 86) dX2_valueFor_85 rfl (by decide) ?_
          refine Z_iret dX2_valueFor_86 rfl ?_
          have tc : c = 0 ∨ c = 1 := by
            by_cases q : c < 2
            · omega
            · exact pst_t hp i6_4 (by omega)
          refine ⟨rfl, rfl, ?_⟩
          show _ = den M n (aR (M 3) a)
          rw [← i6_6]
          rcases tc with e | e
          · rw [e]
            first
              | exact den_0.symm
              | (exfalso; omega)
          · rw [e]
            first
              | exact den_1.symm
              | (exfalso; omega)
        · refine Z_iconst (n := 82) dX2_valueFor_81 rfl (by decide) ?_
          refine Z_goto (t := 86) dX2_valueFor_82 (by decide) ?_
          refine Z_iret dX2_valueFor_86 rfl ?_
          have tc : c = 0 ∨ c = 1 := by
            by_cases q : c < 2
            · omega
            · exact pst_t hp i6_4 (by omega)
          refine ⟨rfl, rfl, ?_⟩
          show _ = den M n (aR (M 3) a)
          rw [← i6_6]
          rcases tc with e | e
          · rw [e]
            first
              | exact den_0.symm
              | (exfalso; omega)
          · rw [e]
            first
              | exact den_1.symm
              | (exfalso; omega)
      · refine Z_iload (n := 15) dX2_valueFor_13 rfl rfl ?_
        refine Z_iconst (n := 16) dX2_valueFor_15 rfl (by decide) ?_
        refine Z_icmp_lt (n := 19) (t := 75) dX2_valueFor_16 rfl (by decide) (fun c16 => ?_) (fun c16 => ?_)
        · refine Z_iload (n := 77) dX2_valueFor_75 rfl rfl ?_
          refine Z_iconst (n := 78) dX2_valueFor_77 rfl (by decide) ?_
          refine Z_icmp_ne (n := 81) (t := 85) dX2_valueFor_78 rfl (by decide) (fun c78 => ?_) (fun c78 => ?_)
          · refine Z_iconst (n := 86) dX2_valueFor_85 rfl (by decide) ?_
            refine Z_iret dX2_valueFor_86 rfl ?_
            have tc : c = 0 ∨ c = 1 := by
              by_cases q : c < 2
              · omega
              · exact pst_t hp i6_4 (by omega)
            refine ⟨rfl, rfl, ?_⟩
            show _ = den M n (aR (M 3) a)
            rw [← i6_6]
            rcases tc with e | e
            · rw [e]
              first
                | exact den_0.symm
                | (exfalso; omega)
            · rw [e]
              first
                | exact den_1.symm
                | (exfalso; omega)
          · refine Z_iconst (n := 82) dX2_valueFor_81 rfl (by decide) ?_
            refine Z_goto (t := 86) dX2_valueFor_82 (by decide) ?_
            refine Z_iret dX2_valueFor_86 rfl ?_
            have tc : c = 0 ∨ c = 1 := by
              by_cases q : c < 2
              · omega
              · exact pst_t hp i6_4 (by omega)
            refine ⟨rfl, rfl, ?_⟩
            show _ = den M n (aR (M 3) a)
            rw [← i6_6]
            rcases tc with e | e
            · rw [e]
              first
                | exact den_0.symm
                | (exfalso; omega)
            · rw [e]
              first
                | exact den_1.symm
                | (exfalso; omega)
        · refine Z_iload_n (n := 20) dX2_valueFor_19 rfl rfl ?_
          refine Z_aload_n (n := 21) dX2_valueFor_20 rfl rfl ?_
          refine Z_aload_n (n := 22) dX2_valueFor_21 rfl rfl ?_
          refine Z_getA (n := 25) dX2_valueFor_22 rfl ffX2_11 rfl rfl ?_
          refine Z_iload (n := 27) dX2_valueFor_25 rfl rfl ?_
          refine Z_iald (n := 28) dX2_valueFor_27 rfl rfl rfl (by first | decide | assumption) (by omega) (by omega) (fun r27 s27 => ?_)
          rw [if_neg (by omega)] at s27
          have sc := okN_2 hp i6_4 (by omega)
          have pc := hp.2.1 c sc
          have pc1 := pc.2.1
          have pcl := pc.2.2.2.1.2
          have pch := pc.2.2.2.2.2
          have rv : aR (M 3) a (M 6 c) = zand (zshr a (M 3 (M 6 c))) 1 := aR_in pc1.1 pc1.2
          have dz := den_n hp sc (aR (M 3) a)
          refine Z_callVi (n := 31) [_] _ dX2_valueFor_28 rfl cwX2_95 rfl rfl rfl (Nat.le_of_ble_eq_true rfl) (by refine ⟨?_, ?_, ?_, ?_⟩ <;> exact Nat.le_of_ble_eq_true rfl) (fun _ h => h) (zX1_variableAt  (by first | assumption | omega | decide) (by first | assumption | omega | decide)) ?_
          intro x28 M28 J28 z28 f28 q28
          obtain ⟨e28_1, e28_2, h28⟩ := q28
          replace e28_1 := e28_1.symm; subst e28_1
          replace e28_2 := e28_2.symm; subst e28_2
          refine Z_ishr (n := 32) dX2_valueFor_31 rfl ?_
          refine Z_iconst (n := 33) dX2_valueFor_32 rfl (by decide) ?_
          refine Z_iand (n := 34) dX2_valueFor_33 rfl ?_
          refine Z_iconst (n := 35) dX2_valueFor_34 rfl (by decide) ?_
          refine Z_icmp_ne (n := 38) (t := 42) dX2_valueFor_35 rfl (by decide) (fun c35 => ?_) (fun c35 => ?_)
          · have yv : aR (M 3) a (M 6 c) = 0 := by
              have w := zand_1 (zshr a (M 3 (M 6 c)))
              rw [rv]
              rw [h28] at c35
              omega
            refine Z_iconst (n := 43) dX2_valueFor_42 rfl (by decide) ?_
            refine Z_istore (L' := [_, _, _, _, _, _, _]) (n := 45) dX2_valueFor_43 rfl (by decide) rfl rfl ?_
            refine Z_iload (n := 47) dX2_valueFor_45 rfl rfl ?_
            refine Z_if_eq (n := 50) (t := 60) dX2_valueFor_47 rfl (by decide) (fun c47 => ?_) (fun c47 => ?_)
            · refine Z_aload_n (n := 61) dX2_valueFor_60 rfl rfl ?_
              refine Z_getA (n := 64) dX2_valueFor_61 rfl ffX2_15 rfl rfl ?_
              refine Z_iload (n := 66) dX2_valueFor_64 rfl rfl ?_
              refine Z_iald (n := 67) dX2_valueFor_66 rfl rfl rfl (by first | decide | assumption) (by omega) (by omega) (fun r66 s66 => ?_)
              have nx4 : okN S (M 7 c) := pc.2.2.2.1.1
              have nx5 : i + 1 ≤ M 6 (M 7 c) := by omega
              have nx6 : den M (M 7 c) (aR (M 3) a) = den M n (aR (M 3) a) := by
                first
                  | (exfalso; omega)
                  | (rw [if_pos yv] at dz; exact dz.symm.trans i6_6)
              refine Z_istore (L' := [_, _, _, _, _, _, _]) (n := 69) dX2_valueFor_67 rfl (by decide) rfl rfl ?_
              refine Z_iinc (L' := [_, _, _, _, _, _, _]) (n := 72) dX2_valueFor_69 rfl rfl (by decide) rfl rfl (by omega) rfl ?_
              refine Z_goto (t := 6) dX2_valueFor_72 (by decide) ?_
              refine Z_loc (L' := [some _, some _, some _, some _, some _, some _, none]) (lsub_same (lsub_same (lsub_same (lsub_same (lsub_same (lsub_same (lsub_none lsub_nil))))))) ?_
              exact ih6 _ _  (by omega) (by first | assumption | omega | decide) (by first | assumption | omega | decide) (by first | assumption | omega | decide) (by first | assumption | omega | decide) (by exact nx4) (by exact nx5) (by exact nx6)
            · refine Z_aload_n (n := 51) dX2_valueFor_50 rfl rfl ?_
              refine Z_getA (n := 54) dX2_valueFor_51 rfl ffX2_18 rfl rfl ?_
              refine Z_iload (n := 56) dX2_valueFor_54 rfl rfl ?_
              refine Z_iald (n := 57) dX2_valueFor_56 rfl rfl rfl (by first | decide | assumption) (by omega) (by omega) (fun r56 s56 => ?_)
              have nx4 : okN S (M 8 c) := pc.2.2.2.2.1
              have nx5 : i + 1 ≤ M 6 (M 8 c) := by omega
              have nx6 : den M (M 8 c) (aR (M 3) a) = den M n (aR (M 3) a) := by
                first
                  | (exfalso; omega)
                  | (rw [if_neg yv] at dz; exact dz.symm.trans i6_6)
              refine Z_goto (t := 67) dX2_valueFor_57 (by decide) ?_
              refine Z_istore (L' := [_, _, _, _, _, _, _]) (n := 69) dX2_valueFor_67 rfl (by decide) rfl rfl ?_
              refine Z_iinc (L' := [_, _, _, _, _, _, _]) (n := 72) dX2_valueFor_69 rfl rfl (by decide) rfl rfl (by omega) rfl ?_
              refine Z_goto (t := 6) dX2_valueFor_72 (by decide) ?_
              refine Z_loc (L' := [some _, some _, some _, some _, some _, some _, none]) (lsub_same (lsub_same (lsub_same (lsub_same (lsub_same (lsub_same (lsub_none lsub_nil))))))) ?_
              exact ih6 _ _  (by omega) (by first | assumption | omega | decide) (by first | assumption | omega | decide) (by first | assumption | omega | decide) (by first | assumption | omega | decide) (by exact nx4) (by exact nx5) (by exact nx6)
          · have yv : ¬ aR (M 3) a (M 6 c) = 0 := by
              rw [rv, ← h28]
              omega
            refine Z_iconst (n := 39) dX2_valueFor_38 rfl (by decide) ?_
            refine Z_goto (t := 43) dX2_valueFor_39 (by decide) ?_
            refine Z_istore (L' := [_, _, _, _, _, _, _]) (n := 45) dX2_valueFor_43 rfl (by decide) rfl rfl ?_
            refine Z_iload (n := 47) dX2_valueFor_45 rfl rfl ?_
            refine Z_if_eq (n := 50) (t := 60) dX2_valueFor_47 rfl (by decide) (fun c47 => ?_) (fun c47 => ?_)
            · refine Z_aload_n (n := 61) dX2_valueFor_60 rfl rfl ?_
              refine Z_getA (n := 64) dX2_valueFor_61 rfl ffX2_15 rfl rfl ?_
              refine Z_iload (n := 66) dX2_valueFor_64 rfl rfl ?_
              refine Z_iald (n := 67) dX2_valueFor_66 rfl rfl rfl (by first | decide | assumption) (by omega) (by omega) (fun r66 s66 => ?_)
              have nx4 : okN S (M 7 c) := pc.2.2.2.1.1
              have nx5 : i + 1 ≤ M 6 (M 7 c) := by omega
              have nx6 : den M (M 7 c) (aR (M 3) a) = den M n (aR (M 3) a) := by
                first
                  | (exfalso; omega)
                  | (rw [if_pos yv] at dz; exact dz.symm.trans i6_6)
              refine Z_istore (L' := [_, _, _, _, _, _, _]) (n := 69) dX2_valueFor_67 rfl (by decide) rfl rfl ?_
              refine Z_iinc (L' := [_, _, _, _, _, _, _]) (n := 72) dX2_valueFor_69 rfl rfl (by decide) rfl rfl (by omega) rfl ?_
              refine Z_goto (t := 6) dX2_valueFor_72 (by decide) ?_
              refine Z_loc (L' := [some _, some _, some _, some _, some _, some _, none]) (lsub_same (lsub_same (lsub_same (lsub_same (lsub_same (lsub_same (lsub_none lsub_nil))))))) ?_
              exact ih6 _ _  (by omega) (by first | assumption | omega | decide) (by first | assumption | omega | decide) (by first | assumption | omega | decide) (by first | assumption | omega | decide) (by exact nx4) (by exact nx5) (by exact nx6)
            · refine Z_aload_n (n := 51) dX2_valueFor_50 rfl rfl ?_
              refine Z_getA (n := 54) dX2_valueFor_51 rfl ffX2_18 rfl rfl ?_
              refine Z_iload (n := 56) dX2_valueFor_54 rfl rfl ?_
              refine Z_iald (n := 57) dX2_valueFor_56 rfl rfl rfl (by first | decide | assumption) (by omega) (by omega) (fun r56 s56 => ?_)
              have nx4 : okN S (M 8 c) := pc.2.2.2.2.1
              have nx5 : i + 1 ≤ M 6 (M 8 c) := by omega
              have nx6 : den M (M 8 c) (aR (M 3) a) = den M n (aR (M 3) a) := by
                first
                  | (exfalso; omega)
                  | (rw [if_neg yv] at dz; exact dz.symm.trans i6_6)
              refine Z_goto (t := 67) dX2_valueFor_57 (by decide) ?_
              refine Z_istore (L' := [_, _, _, _, _, _, _]) (n := 69) dX2_valueFor_67 rfl (by decide) rfl rfl ?_
              refine Z_iinc (L' := [_, _, _, _, _, _, _]) (n := 72) dX2_valueFor_69 rfl rfl (by decide) rfl rfl (by omega) rfl ?_
              refine Z_goto (t := 6) dX2_valueFor_72 (by decide) ?_
              refine Z_loc (L' := [some _, some _, some _, some _, some _, some _, none]) (lsub_same (lsub_same (lsub_same (lsub_same (lsub_same (lsub_same (lsub_none lsub_nil))))))) ?_
              exact ih6 _ _  (by omega) (by first | assumption | omega | decide) (by first | assumption | omega | decide) (by first | assumption | omega | decide) (by first | assumption | omega | decide) (by exact nx4) (by exact nx5) (by exact nx6)
  refine Z_loc (L' := [some _, some _, some _, some _, some _, some _, none]) (lsub_same (lsub_same (lsub_same (lsub_same (lsub_same (lsub_same (lsub_none lsub_nil))))))) ?_
  exact lp6 _ _ _  (Nat.lt_succ_self _) (by first | assumption | omega | decide) (by first | assumption | omega | decide) (by first | assumption | omega | decide) (by first | assumption | omega | decide) (by exact hn) (by exact (pst_pl hp hn).1) (by rfl)
set_option maxRecDepth 20000 in
theorem zX3_value_f {G : tl_G} {M : zM} {J : zJ} {f a : Int} (hb : CB M) : ZN G yX3_value mX3_value 2 kAll [vR 0, vI f, vI a] F1 M J (qI (fun x M' J' => M' = M ∧ J' = J ∧ (((f < 0 ∨ 12 ≤ f ∨ M 12 f = -1) ∧ x = -1) ∨ (¬ (f < 0 ∨ 12 ≤ f ∨ M 12 f = -1) ∧ (a < 0 ∨ 256 ≤ a) ∧ x = -2) ∨ (¬ (f < 0 ∨ 12 ≤ f ∨ M 12 f = -1) ∧ 0 ≤ a ∧ a < 256 ∧ x = vF (den M (M 12 f)) (M 3) a)))) := by
  refine ZN_of (L := [_, _, _]) (by decide) rfl rfl (Nat.le_of_ble_eq_true rfl) rfl (fun hav => ?_)
  obtain ⟨⟨Sb, hSb, hRb⟩, -⟩ := hb
  refine Z_aload_n (n := 1) dX3_value_0 rfl rfl ?_
  refine Z_iload_n (n := 2) dX3_value_1 rfl rfl ?_
  refine Z_callVi (n := 5) [_] _ dX3_value_2 rfl cwX3_139 rfl rfl (by first | rfl | exact nS0 (nA_at (by omega) (by omega))) (Nat.le_of_ble_eq_true rfl) (by refine ⟨?_, ?_, ?_, ?_⟩ <;> exact Nat.le_of_ble_eq_true rfl) (fun _ h => h) (zX3_hasFunction  ) ?_
  intro x2 M2 J2 z2 f2 q2
  obtain ⟨e2_1, e2_2, h2⟩ := q2
  replace e2_1 := e2_1.symm; subst e2_1
  replace e2_2 := e2_2.symm; subst e2_2
  refine Z_if_ne (n := 8) (t := 10) dX3_value_5 rfl (by decide) (fun c5 => ?_) (fun c5 => ?_)
  · refine Z_iload_n (n := 11) dX3_value_10 rfl rfl ?_
    refine Z_callSi (n := 14) [_] _ dX3_value_11 rfl cwX3_91 rfl rfl (Nat.le_of_ble_eq_true rfl) (by refine ⟨?_, ?_, ?_, ?_⟩ <;> exact Nat.le_of_ble_eq_true rfl) (fun _ h => h) (zX3_isAssignment  ) ?_
    intro x11 M11 J11 z11 f11 q11
    obtain ⟨e11_1, e11_2, h11⟩ := q11
    replace e11_1 := e11_1.symm; subst e11_1
    replace e11_2 := e11_2.symm; subst e11_2
    refine Z_if_ne (n := 17) (t := 20) dX3_value_14 rfl (by decide) (fun c14 => ?_) (fun c14 => ?_)
    · have okf : okN Sb (M 12 f) := (hRb _ (Or.inl ⟨f, ⟨by omega, by omega⟩, rfl⟩)).resolve_left (by omega)
      refine Z_aload_n (n := 21) dX3_value_20 rfl rfl ?_
      refine Z_getO (n := 24) dX3_value_21 rfl ffX3_25 (by first | rfl | exact nS0 (nA_at (by omega) (by omega))) (by first | rfl | exact nS0 (nA_at (by omega) (by omega))) ?_
      refine Z_aload_n (n := 25) dX3_value_24 rfl rfl ?_
      refine Z_getA (n := 28) dX3_value_25 rfl ffX3_29 (by first | rfl | exact nS0 (nA_at (by omega) (by omega))) (by first | rfl | exact nS0 (nA_at (by omega) (by omega))) ?_
      refine Z_iload_n (n := 29) dX3_value_28 rfl rfl ?_
      refine Z_iald (n := 30) dX3_value_29 rfl (by first | rfl | exact nS0 (nA_at (by omega) (by omega))) rfl (by first | decide | assumption) (by omega) (by omega) (fun r29 s29 => ?_)
      refine Z_iload_n (n := 31) dX3_value_30 rfl rfl ?_
      refine Z_aload_n (n := 32) dX3_value_31 rfl rfl ?_
      refine Z_getO (n := 35) dX3_value_32 rfl ffX3_18 (by first | rfl | exact nS0 (nA_at (by omega) (by omega))) (by first | rfl | exact nS0 (nA_at (by omega) (by omega))) ?_
      refine Z_callVi (n := 38) [_, _, _] _ dX3_value_35 rfl cwX3_164 rfl rfl (by first | rfl | exact nS0 (nA_at (by omega) (by omega))) (Nat.le_of_ble_eq_true rfl) (by refine ⟨?_, ?_, ?_, ?_⟩ <;> exact Nat.le_of_ble_eq_true rfl) (fun _ h => h) (zX2_valueFor_f  (by exact hSb.1) (by exact okf)) ?_
      intro x35 M35 J35 z35 f35 q35
      obtain ⟨e35_1, e35_2, h35⟩ := q35
      replace e35_1 := e35_1.symm; subst e35_1
      replace e35_2 := e35_2.symm; subst e35_2
      refine Z_iret dX3_value_38 rfl ?_
      exact ⟨rfl, rfl, Or.inr (Or.inr ⟨by omega, by omega, by omega, h35⟩)⟩
    · refine Z_bipush (n := 19) dX3_value_17 rfl (by decide) (by decide) ?_
      refine Z_iret dX3_value_19 rfl ?_
      exact ⟨rfl, rfl, Or.inr (Or.inl ⟨by omega, by omega, rfl⟩)⟩
  · refine Z_iconst (n := 9) dX3_value_8 rfl (by decide) ?_
    refine Z_iret dX3_value_9 rfl ?_
    exact ⟨rfl, rfl, Or.inl ⟨by omega, rfl⟩⟩
set_option maxRecDepth 20000 in
theorem zX4_value_g {G : tl_G} {M : zM} {J : zJ} {f a : Int}  : ZN G yX4_value mX4_value 3 kAll [vR 31, vI f, vI a] F1 M J (qI (fun x M' J' => M' = M ∧ J' = J ∧ (((f < 0 ∨ 12 ≤ f ∨ M 43 f = 0) ∧ x = -1) ∨ (¬ (f < 0 ∨ 12 ≤ f ∨ M 43 f = 0) ∧ (a < 0 ∨ 256 ≤ a) ∧ x = -2) ∨ (¬ (f < 0 ∨ 12 ≤ f ∨ M 43 f = 0) ∧ 0 ≤ a ∧ a < 256 ∧ x = vF (phi J f) (M 38) a)))) := by
  refine ZN_of (L := [_, _, _]) (by decide) rfl rfl (Nat.le_of_ble_eq_true rfl) rfl (fun hav => ?_)
  refine Z_aload_n (n := 1) dX4_value_0 rfl rfl ?_
  refine Z_iload_n (n := 2) dX4_value_1 rfl rfl ?_
  refine Z_callVi (n := 5) [_] _ dX4_value_2 rfl cwX4_223 rfl rfl rfl (Nat.le_of_ble_eq_true rfl) (by refine ⟨?_, ?_, ?_, ?_⟩ <;> exact Nat.le_of_ble_eq_true rfl) (fun _ h => h) (zX4_isFunction  ) ?_
  intro x2 M2 J2 z2 f2 q2
  obtain ⟨e2_1, e2_2, h2⟩ := q2
  replace e2_1 := e2_1.symm; subst e2_1
  replace e2_2 := e2_2.symm; subst e2_2
  refine Z_if_ne (n := 8) (t := 10) dX4_value_5 rfl (by decide) (fun c5 => ?_) (fun c5 => ?_)
  · refine Z_iload_n (n := 11) dX4_value_10 rfl rfl ?_
    refine Z_iconst (n := 12) dX4_value_11 rfl (by decide) ?_
    refine Z_sipush (n := 15) dX4_value_12 rfl (by decide) (by decide) ?_
    refine Z_callSi (n := 18) [_, _, _] _ dX4_value_15 rfl cwX4_112 rfl rfl (Nat.le_of_ble_eq_true rfl) (by refine ⟨?_, ?_, ?_, ?_⟩ <;> exact Nat.le_of_ble_eq_true rfl) (fun _ h => h) (zX4_in  ) ?_
    intro x15 M15 J15 z15 f15 q15
    obtain ⟨e15_1, e15_2, h15⟩ := q15
    replace e15_1 := e15_1.symm; subst e15_1
    replace e15_2 := e15_2.symm; subst e15_2
    refine Z_if_ne (n := 21) (t := 24) dX4_value_18 rfl (by decide) (fun c18 => ?_) (fun c18 => ?_)
    · refine Z_aload_n (n := 25) dX4_value_24 rfl rfl ?_
      refine Z_iload_n (n := 26) dX4_value_25 rfl rfl ?_
      refine Z_aload_n (n := 27) dX4_value_26 rfl rfl ?_
      refine Z_iload_n (n := 28) dX4_value_27 rfl rfl ?_
      refine Z_callVi (n := 31) [_] _ dX4_value_28 rfl cwX4_237 rfl rfl rfl (Nat.le_of_ble_eq_true rfl) (by refine ⟨?_, ?_, ?_, ?_⟩ <;> exact Nat.le_of_ble_eq_true rfl) (fun _ h => h) (zX4_stands  ) ?_
      intro x28 M28 J28 z28 f28 q28
      obtain ⟨e28_1, e28_2, h28⟩ := q28
      replace e28_1 := e28_1.symm; subst e28_1
      replace e28_2 := e28_2.symm; subst e28_2
      have hst := stF_256 (M 38) a (n := 8) (by omega)
      rw [← h28] at hst
      refine Z_callVi (n := 34) [_, _] _ dX4_value_31 rfl cwX4_240 rfl rfl rfl (Nat.le_of_ble_eq_true rfl) (by refine ⟨?_, ?_, ?_, ?_⟩ <;> exact Nat.le_of_ble_eq_true rfl) (fun _ h => h) (zX4_bit  (by first | assumption | omega | decide) (by first | assumption | omega | decide) (by first | assumption | omega | decide) (by first | assumption | omega | decide)) ?_
      intro x31 M31 J31 z31 f31 q31
      obtain ⟨e31_1, e31_2, h31⟩ := q31
      replace e31_1 := e31_1.symm; subst e31_1
      replace e31_2 := e31_2.symm; subst e31_2
      refine Z_if_eq (n := 37) (t := 41) dX4_value_34 rfl (by decide) (fun c34 => ?_) (fun c34 => ?_)
      · refine Z_iconst (n := 42) dX4_value_41 rfl (by decide) ?_
        refine Z_iret dX4_value_42 rfl ?_
        have eb := btF_in (bitF J f) x28
        have ep : vF (phi J f) (M 38) a = x31 := by
          show btF (bitF J f) (pos (aR (M 38) a)) = x31
          rw [h31, h28, stF_pos]
        refine ⟨rfl, rfl, Or.inr (Or.inr ⟨by omega, by omega, by omega, ?_⟩)⟩
        rw [ep]
        omega
      · refine Z_iconst (n := 38) dX4_value_37 rfl (by decide) ?_
        refine Z_goto (t := 42) dX4_value_38 (by decide) ?_
        refine Z_iret dX4_value_42 rfl ?_
        have eb := btF_in (bitF J f) x28
        have ep : vF (phi J f) (M 38) a = x31 := by
          show btF (bitF J f) (pos (aR (M 38) a)) = x31
          rw [h31, h28, stF_pos]
        refine ⟨rfl, rfl, Or.inr (Or.inr ⟨by omega, by omega, by omega, ?_⟩)⟩
        rw [ep]
        omega
    · refine Z_bipush (n := 23) dX4_value_21 rfl (by decide) (by decide) ?_
      refine Z_iret dX4_value_23 rfl ?_
      exact ⟨rfl, rfl, Or.inr (Or.inl ⟨by omega, by omega, rfl⟩)⟩
  · refine Z_iconst (n := 9) dX4_value_8 rfl (by decide) ?_
    refine Z_iret dX4_value_9 rfl ?_
    exact ⟨rfl, rfl, Or.inl ⟨by omega, rfl⟩⟩
end
section
/-! ===== readers on both sides ===== -/
section RDS
variable {M M1 : zM} {J : zJ} {x y : Int}
theorem ls_k (h : LSy M J) (fr : ∀ a : Nat, 31 ≤ a → M1 a = M a) (f : Int) : f < 0 ∨ 12 ≤ f ∨ (M 12 f = -1 ∧ M1 43 f = 0) ∨ (¬ M 12 f = -1 ∧ ¬ M1 43 f = 0) := hs_k h.2.2.2.2.2 (fr 43 (by decide)) f
theorem ls_d (h : LSy M J) {f : Int} (f0 : 0 ≤ f) (f1 : f < 12) (q : ¬ M 12 f = -1) : den M (M 12 f) = phi J f := (h.2.2.2.2.2 f f0 f1).2.resolve_left q
theorem sim_value {f v : Int} (h : LSy M J) (fr : ∀ a : Nat, 31 ≤ a → M1 a = M a) (hc : ((f < 0 ∨ 12 ≤ f ∨ M 12 f = -1) ∧ x = -1) ∨ (¬ (f < 0 ∨ 12 ≤ f ∨ M 12 f = -1) ∧ (v < 0 ∨ 256 ≤ v) ∧ x = -2) ∨ (¬ (f < 0 ∨ 12 ≤ f ∨ M 12 f = -1) ∧ 0 ≤ v ∧ v < 256 ∧ x = vF (den M (M 12 f)) (M 3) v)) (hq : ((f < 0 ∨ 12 ≤ f ∨ M1 43 f = 0) ∧ y = -1) ∨ (¬ (f < 0 ∨ 12 ≤ f ∨ M1 43 f = 0) ∧ (v < 0 ∨ 256 ≤ v) ∧ y = -2) ∨ (¬ (f < 0 ∨ 12 ≤ f ∨ M1 43 f = 0) ∧ 0 ≤ v ∧ v < 256 ∧ y = vF (phi J f) (M1 38) v)) : x = y := by
  have kf := ls_k h fr f
  rcases hc with ⟨a, b⟩ | ⟨a, a2, b⟩ | ⟨a, a2, a3, b⟩
  · rcases hq with ⟨a', b'⟩ | ⟨a', -⟩ | ⟨a', -⟩
    · exact b.trans b'.symm
    all_goals (exfalso; omega)
  · rcases hq with ⟨a', -⟩ | ⟨a', a2', b'⟩ | ⟨a', a2', a3', -⟩
    · exfalso; omega
    · exact b.trans b'.symm
    · exfalso; omega
  · rcases hq with ⟨a', -⟩ | ⟨a', a2', -⟩ | ⟨a', a2', a3', b'⟩
    · exfalso; omega
    · exfalso; omega
    · have e43 : M1 43 = M 43 := fr 43 (by decide)
      have df := ls_d h (f := f) (by omega) (by omega) (by omega)
      have nf : ¬ M 43 f = 0 := by rw [← e43]; omega
      rw [b, b', df, fr 38 (by decide)]
      unfold vF
      rw [aR_cg (o := M 3) (o' := M 38) (fun k k0 k1 => (h.2.2.2.1.1 k k0 k1).1.symm)]
end RDS
end
