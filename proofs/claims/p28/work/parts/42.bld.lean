/-! ===== the reference: needs, builds ===== -/
abbrev kNd (a : Nat) : Prop := ¬ a = 55 ∧ ¬ a = 56
abbrev kRg (a : Nat) : Prop := a < 31 ∨ (31 < a ∧ a < 43) ∨ a = 54
/-- a net of the reference: gates are told of gates before them, outputs of gates -/
def rNt (M : zM) (net : Int) : Prop := (∀ g : Int, 0 ≤ g → g < M 32 net → (∀ c : Int, 0 ≤ c → c < opF (M 34 (40 * net + g)) → 0 ≤ M 35 (3 * (40 * net + g) + c) ∧ M 35 (3 * (40 * net + g) + c) < g) ∧ (M 34 (40 * net + g) = 0 → 0 ≤ M 35 (3 * (40 * net + g)) ∧ M 35 (3 * (40 * net + g)) < 8)) ∧ ∀ o : Int, 0 ≤ o → o < M 33 net → M 36 (4 * net + o) < M 32 net
theorem rNt_fr {M M' : zM} {net : Int} (h : rNt M net) (e32 : M' 32 = M 32) (e33 : M' 33 = M 33) (e34 : M' 34 = M 34) (e35 : M' 35 = M 35) (e36 : M' 36 = M 36) : rNt M' net := by
  unfold rNt
  rw [e32, e33, e34, e35, e36]
  exact h
/-- which gates are needed, and by which last -/
def ndQ (M : zM) (g : Int) : Prop := ¬ M 55 g = 0 ∧ ∀ x : Int, 0 ≤ x → x < 40 → (¬ M 55 x = 0 → x = g ∨ 0 ≤ M 56 x) ∧ (0 ≤ M 56 x → x < M 56 x ∧ M 56 x ≤ g ∧ ¬ M 55 (M 56 x) = 0)
theorem ndQ_fr {M M' : zM} {g : Int} (h : ndQ M g) (e55 : M' 55 = M 55) (e56 : M' 56 = M 56) : ndQ M' g := by
  unfold ndQ
  rw [e55, e56]
  exact h
theorem ndQ_st {M : zM} {g k x v : Int} (h : ndQ M g) (hxk : x < k) (hkg : k ≤ g) (hk : ¬ M 55 k = 0) (hx0 : 0 ≤ x) (hx : x < 40) (hv : (M 56 x < 0 ∧ v = k) ∨ (0 ≤ M 56 x ∧ v = M 56 x)) : ndQ (uz (uz M 55 x 1) 56 x v) g := by
  have e55 : ∀ y : Int, ¬ M 55 y = 0 → ¬ uz (uz M 55 x 1) 56 x v 55 y = 0 := fun y q => by
    rw [uz_oo (by decide), uz_a]
    split
    · decide
    · exact q
  refine ⟨e55 g h.1, fun y y0 y1 => ⟨fun q => ?_, fun q => ?_⟩⟩
  · rw [uz_a]
    by_cases e : y = x
    · rw [if_pos e]; right; omega
    · rw [if_neg e]
      rw [uz_oo (by decide), uz_n e] at q
      exact (h.2 y y0 y1).1 q
  · rw [uz_a] at q ⊢
    by_cases e : y = x
    · rw [if_pos e] at q ⊢
      rcases hv with ⟨-, rfl⟩ | ⟨q2, rfl⟩
      · exact ⟨by omega, hkg, e55 _ hk⟩
      · obtain ⟨z1, z2, z3⟩ := (h.2 x hx0 hx).2 q2
        exact ⟨by omega, z2, e55 _ z3⟩
    · rw [if_neg e] at q ⊢
      obtain ⟨z1, z2, z3⟩ := (h.2 y y0 y1).2 q
      exact ⟨z1, z2, e55 _ z3⟩
set_option maxRecDepth 20000 in
theorem zX4_needs {G : tl_G} {M : zM} {J : zJ} {net g : Int} (n0 : 0 ≤ net) (n1 : net < 3) (g0 : 0 ≤ g) (g1 : g < M 32 net) (hN : rNt M net) : ZN G yX4_needs mX4_needs 1 kNd [vR 31, vI net, vI g] F1 M J (qV (fun M' J' => J' = J ∧ ndQ M' g)) := by
  refine ZN_of (L := [_, _, _, _, _, _, _]) (by decide) rfl rfl (Nat.le_of_ble_eq_true rfl) rfl (fun hav => ?_)
  refine Z_rg 32 net rfl (fun g32 g32b => ?_)
  refine Z_iconst (n := 1) dX4_needs_0 rfl (by decide) ?_
  refine Z_istore_n (L' := [_, _, _, _, _, _, _]) (n := 2) dX4_needs_1 rfl (by decide) rfl rfl ?_
  have lp2 : ∀ (N2 : Nat) (k : Int) (M2 : zM) (J2 : zJ), ((40 - k).toNat) < N2 → (J2 = J) → (0 ≤ k) → (k ≤ 40) → (∀ x : Int, 0 ≤ x → x < k → ((x = g ∧ M2 55 x = 1) ∨ (x ≠ g ∧ M2 55 x = 0)) ∧ M2 56 x = -1) → TZ G mX4_needs (tl_rm 1 0 0) 0 0 kNd M J 2 [some (vR 31), some (vI net), some (vI g), some (vI k), none, none, none] [] F1 M2 J2 (ZM G (zPost G kNd F1 M J (qV (fun M' J' => J' = J ∧ ndQ M' g))) 0 0) := by
    intro N2
    induction N2 with
    | zero => intro k M2 J2 hN; omega
    | succ N2 ih2 =>
      intro k M2 J2 hN2 i2_0 i2_1 i2_2 i2_3
      refine Z_iload_n (n := 3) dX4_needs_2 rfl rfl ?_
      refine Z_bipush (n := 5) dX4_needs_3 rfl (by decide) (by decide) ?_
      refine Z_icmp_ge (n := 8) (t := 37) dX4_needs_5 rfl (by decide) (fun c5 => ?_) (fun c5 => ?_)
      · have st39 : ndQ M2 g := by
          refine ⟨by have := i2_3 g (by omega) (by omega); omega, fun x x0 x1 => ?_⟩
          have := i2_3 x x0 (by omega)
          exact ⟨fun q => by omega, fun q => by omega⟩
        refine Z_iload_n (n := 38) dX4_needs_37 rfl rfl ?_
        refine Z_istore_n (L' := [_, _, _, _, _, _, _]) (n := 39) dX4_needs_38 rfl (by decide) rfl rfl ?_
        have lp39 : ∀ (N39 : Nat) (k : Int) (M39 : zM) (J39 : zJ), ((k + 1).toNat) < N39 → (J39 = J) → (-1 ≤ k) → (k ≤ g) → (ndQ M39 g) → TZ G mX4_needs (tl_rm 1 0 0) 0 0 kNd M J 39 [some (vR 31), some (vI net), some (vI g), some (vI k), none, none, none] [] F1 M39 J39 (ZM G (zPost G kNd F1 M J (qV (fun M' J' => J' = J ∧ ndQ M' g))) 0 0) := by
          intro N39
          induction N39 with
          | zero => intro k M39 J39 hN; omega
          | succ N39 ih39 =>
            intro k M39 J39 hN39 i39_0 i39_1 i39_2 i39_3
            refine Z_iload_n (n := 40) dX4_needs_39 rfl rfl ?_
            refine Z_if_lt (n := 43) (t := 140) dX4_needs_40 rfl (by decide) (fun c40 => ?_) (fun c40 => ?_)
            · refine Z_vret dX4_needs_140 rfl ?_
              exact ⟨i39_0, i39_3⟩
            · refine Z_bipush (n := 45) dX4_needs_43 rfl (by decide) (by decide) ?_
              refine Z_iload_n (n := 46) dX4_needs_45 rfl rfl ?_
              refine Z_imul (n := 47) dX4_needs_46 rfl (by omega) ?_
              refine Z_iload_n (n := 48) dX4_needs_47 rfl rfl ?_
              refine Z_iadd (n := 49) dX4_needs_48 rfl (by omega) ?_
              refine Z_istore (L' := [_, _, _, _, _, _, _]) (n := 51) dX4_needs_49 rfl (by decide) rfl rfl ?_
              refine Z_iconst (n := 52) dX4_needs_51 rfl (by decide) ?_
              refine Z_istore (L' := [_, _, _, _, _, _, _]) (n := 54) dX4_needs_52 rfl (by decide) rfl rfl ?_
              have lp54 : ∀ (N54 : Nat) (c : Int) (M54 : zM) (J54 : zJ), ((3 - c).toNat) < N54 → (J54 = J) → (0 ≤ c) → (c ≤ 3) → (ndQ M54 g) → TZ G mX4_needs (tl_rm 1 0 0) 0 0 kNd M J 54 [some (vR 31), some (vI net), some (vI g), some (vI k), some (vI (40 * net + k)), some (vI c), none] [] F1 M54 J54 (ZM G (zPost G kNd F1 M J (qV (fun M' J' => J' = J ∧ ndQ M' g))) 0 0) := by
                intro N54
                induction N54 with
                | zero => intro c M54 J54 hN; omega
                | succ N54 ih54 =>
                  intro c M54 J54 hN54 i54_0 i54_1 i54_2 i54_3
                  refine Z_iload (n := 56) dX4_needs_54 rfl rfl ?_
                  refine Z_fr (fun fr54 => ?_)
                  refine Z_rg 34 (40 * net + k) rfl (fun g34 g34b => ?_)
                  have hop3 := opF_in (M54 34 (40 * net + k))
                  refine Z_aload_n (n := 57) dX4_needs_56 rfl rfl ?_
                  refine Z_getA (n := 60) dX4_needs_57 rfl ffX4_16 rfl rfl ?_
                  refine Z_iload (n := 62) dX4_needs_60 rfl rfl ?_
                  refine Z_iald (n := 63) dX4_needs_62 rfl rfl rfl (by first | decide | assumption) (by omega) (by omega) (fun r62 s62 => ?_)
                  refine Z_callSi (n := 66) [_] _ dX4_needs_63 rfl cwX4_120 rfl rfl (Nat.le_of_ble_eq_true rfl) (by refine ⟨?_, ?_, ?_, ?_⟩ <;> exact Nat.le_of_ble_eq_true rfl) (fun _ _ => trivial) (zX4_wants  ) ?_
                  intro x63 M63 J63 z63 f63 q63
                  obtain ⟨e63_1, e63_2, h63⟩ := q63
                  replace e63_1 := e63_1.symm; subst e63_1
                  replace e63_2 := e63_2.symm; subst e63_2
                  refine Z_icmp_ge (n := 69) (t := 134) dX4_needs_66 rfl (by decide) (fun c66 => ?_) (fun c66 => ?_)
                  · refine Z_iinc (L' := [_, _, _, _, _, _, _]) (n := 137) dX4_needs_134 rfl rfl (by decide) rfl rfl (by omega) rfl ?_
                    refine Z_goto (t := 39) dX4_needs_137 (by decide) ?_
                    refine Z_loc (L' := [some _, some _, some _, some _, none, none, none]) (lsub_same (lsub_same (lsub_same (lsub_same (lsub_none (lsub_none (lsub_none lsub_nil))))))) ?_
                    exact ih39 _ _ _ (by omega) (by first | rfl | assumption) (by first | assumption | omega | decide) (by first | assumption | omega | decide) (by first | exact st39 | assumption)
                  · refine Z_aload_n (n := 70) dX4_needs_69 rfl rfl ?_
                    refine Z_getA (n := 73) dX4_needs_70 rfl ffX4_93 rfl rfl ?_
                    refine Z_iload_n (n := 74) dX4_needs_73 rfl rfl ?_
                    refine Z_zald (n := 75) dX4_needs_74 rfl rfl rfl (by first | decide | assumption) (by omega) (by omega) (fun r74 s74 => ?_)
                    refine Z_if_eq (n := 78) (t := 134) dX4_needs_75 rfl (by decide) (fun c75 => ?_) (fun c75 => ?_)
                    · refine Z_iinc (L' := [_, _, _, _, _, _, _]) (n := 137) dX4_needs_134 rfl rfl (by decide) rfl rfl (by omega) rfl ?_
                      refine Z_goto (t := 39) dX4_needs_137 (by decide) ?_
                      refine Z_loc (L' := [some _, some _, some _, some _, none, none, none]) (lsub_same (lsub_same (lsub_same (lsub_same (lsub_none (lsub_none (lsub_none lsub_nil))))))) ?_
                      exact ih39 _ _ _ (by omega) (by first | rfl | assumption) (by first | assumption | omega | decide) (by first | assumption | omega | decide) (by first | exact st39 | assumption)
                    · refine Z_aload_n (n := 79) dX4_needs_78 rfl rfl ?_
                      refine Z_getA (n := 82) dX4_needs_79 rfl ffX4_19 rfl rfl ?_
                      refine Z_iconst (n := 83) dX4_needs_82 rfl (by decide) ?_
                      refine Z_iload (n := 85) dX4_needs_83 rfl rfl ?_
                      refine Z_imul (n := 86) dX4_needs_85 rfl (by omega) ?_
                      refine Z_iload (n := 88) dX4_needs_86 rfl rfl ?_
                      refine Z_iadd (n := 89) dX4_needs_88 rfl (by omega) ?_
                      refine Z_iald (n := 90) dX4_needs_89 rfl rfl rfl (by first | decide | assumption) (by omega) (by omega) (fun r89 s89 => ?_)
                      refine Z_istore (L' := [_, _, _, _, _, _, _]) (n := 92) dX4_needs_90 rfl (by decide) rfl rfl ?_
                      obtain ⟨x, hx⟩ : ∃ x, x = M54 35 (3 * (40 * net + k) + c) := ⟨_, rfl⟩
                      rw [← hx] at r89 s89 ⊢
                      have e35 : x = M 35 (3 * (40 * net + k) + c) := by rw [hx, congrFun (fr54 35 (by decide)).1 _]
                      have hop := (hN.1 k (by omega) (by omega)).1 c (by omega) (by rw [← congrFun (fr54 34 (by decide)).1 _, ← h63]; omega)
                      rw [← e35] at hop
                      refine Z_aload_n (n := 93) dX4_needs_92 rfl rfl ?_
                      refine Z_getA (n := 96) dX4_needs_93 rfl ffX4_93 rfl rfl ?_
                      refine Z_iload (n := 98) dX4_needs_96 rfl rfl ?_
                      refine Z_iconst (n := 99) dX4_needs_98 rfl (by decide) ?_
                      refine Z_zast (n := 100) dX4_needs_99 rfl rfl rfl (by first | decide | assumption) (by omega) (by omega) (by first | assumption | omega | decide) (by first | assumption | omega | decide) (by decide) ?_
                      refine Z_aload_n (n := 101) dX4_needs_100 rfl rfl ?_
                      refine Z_getA (n := 104) dX4_needs_101 rfl ffX4_96 rfl rfl ?_
                      refine Z_iload (n := 106) dX4_needs_104 rfl rfl ?_
                      refine Z_aload_n (n := 107) dX4_needs_106 rfl rfl ?_
                      refine Z_getA (n := 110) dX4_needs_107 rfl ffX4_96 rfl rfl ?_
                      refine Z_iload (n := 112) dX4_needs_110 rfl rfl ?_
                      refine Z_iald (n := 113) dX4_needs_112 rfl rfl rfl (by first | decide | assumption) (by omega) (by omega) (fun r112 s112 => ?_)
                      try simp only [uz_oo (show (56 : Nat) ≠ 55 by decide)] at r112 s112 ⊢
                      refine Z_if_ge (n := 116) (t := 120) dX4_needs_113 rfl (by decide) (fun c113 => ?_) (fun c113 => ?_)
                      · refine Z_aload_n (n := 121) dX4_needs_120 rfl rfl ?_
                        refine Z_getA (n := 124) dX4_needs_121 rfl ffX4_96 rfl rfl ?_
                        refine Z_iload (n := 126) dX4_needs_124 rfl rfl ?_
                        refine Z_iald (n := 127) dX4_needs_126 rfl rfl rfl (by first | decide | assumption) (by omega) (by omega) (fun r126 s126 => ?_)
                        try simp only [uz_oo (show (56 : Nat) ≠ 55 by decide)] at r126 s126 ⊢
                        refine Z_iast (n := 128) dX4_needs_127 rfl rfl rfl (by first | decide | assumption) (by omega) (by omega) (by first | assumption | omega | decide) (by first | assumption | omega | decide) (by decide) ?_
                        have nx54 : ndQ (uz (uz M54 55 x 1) 56 x _) g := ndQ_st i54_3 hop.2 i39_2 c75 hop.1 (by omega) (by first | exact Or.inl ⟨by omega, rfl⟩ | exact Or.inr ⟨by omega, rfl⟩)
                        refine Z_iinc (L' := [_, _, _, _, _, _, _]) (n := 131) dX4_needs_128 rfl rfl (by decide) rfl rfl (by omega) rfl ?_
                        refine Z_goto (t := 54) dX4_needs_131 (by decide) ?_
                        refine Z_loc (L' := [some _, some _, some _, some _, some _, some _, none]) (lsub_same (lsub_same (lsub_same (lsub_same (lsub_same (lsub_same (lsub_none lsub_nil))))))) ?_
                        exact ih54 _ _ _ (by omega) (by first | rfl | assumption) (by first | assumption | omega | decide) (by first | assumption | omega | decide) (by first | assumption | exact nx54)
                      · refine Z_iload_n (n := 117) dX4_needs_116 rfl rfl ?_
                        refine Z_goto (t := 127) dX4_needs_117 (by decide) ?_
                        refine Z_iast (n := 128) dX4_needs_127 rfl rfl rfl (by first | decide | assumption) (by omega) (by omega) (by first | assumption | omega | decide) (by first | assumption | omega | decide) (by decide) ?_
                        have nx54 : ndQ (uz (uz M54 55 x 1) 56 x _) g := ndQ_st i54_3 hop.2 i39_2 c75 hop.1 (by omega) (by first | exact Or.inl ⟨by omega, rfl⟩ | exact Or.inr ⟨by omega, rfl⟩)
                        refine Z_iinc (L' := [_, _, _, _, _, _, _]) (n := 131) dX4_needs_128 rfl rfl (by decide) rfl rfl (by omega) rfl ?_
                        refine Z_goto (t := 54) dX4_needs_131 (by decide) ?_
                        refine Z_loc (L' := [some _, some _, some _, some _, some _, some _, none]) (lsub_same (lsub_same (lsub_same (lsub_same (lsub_same (lsub_same (lsub_none lsub_nil))))))) ?_
                        exact ih54 _ _ _ (by omega) (by first | rfl | assumption) (by first | assumption | omega | decide) (by first | assumption | omega | decide) (by first | assumption | exact nx54)
              refine Z_loc (L' := [some _, some _, some _, some _, some _, some _, none]) (lsub_same (lsub_same (lsub_same (lsub_same (lsub_same (lsub_same (lsub_none lsub_nil))))))) ?_
              exact lp54 _ _ _ _ (Nat.lt_succ_self _) (by first | rfl | assumption) (by first | assumption | omega | decide) (by first | assumption | omega | decide) (by first | assumption | exact nx54)
        refine Z_loc (L' := [some _, some _, some _, some _, none, none, none]) (lsub_same (lsub_same (lsub_same (lsub_same (lsub_none (lsub_none (lsub_none lsub_nil))))))) ?_
        exact lp39 _ _ _ _ (Nat.lt_succ_self _) (by first | rfl | assumption) (by first | assumption | omega | decide) (by first | assumption | omega | decide) (by first | exact st39 | assumption)
      · refine Z_aload_n (n := 9) dX4_needs_8 rfl rfl ?_
        refine Z_getA (n := 12) dX4_needs_9 rfl ffX4_93 rfl rfl ?_
        refine Z_iload_n (n := 13) dX4_needs_12 rfl rfl ?_
        refine Z_iload_n (n := 14) dX4_needs_13 rfl rfl ?_
        refine Z_iload_n (n := 15) dX4_needs_14 rfl rfl ?_
        refine Z_icmp_ne (n := 18) (t := 22) dX4_needs_15 rfl (by decide) (fun c15 => ?_) (fun c15 => ?_)
        · have nx2b : ∀ x : Int, 0 ≤ x → x < k + 1 → ((x = g ∧ uz (uz M2 55 k 0) 56 k (-1) 55 x = 1) ∨ (x ≠ g ∧ uz (uz M2 55 k 0) 56 k (-1) 55 x = 0)) ∧ uz (uz M2 55 k 0) 56 k (-1) 56 x = -1 := fun x x0 x1 => by
            rw [uz_oo (show (55 : Nat) ≠ 56 by decide), uz_a, uz_a, uz_oo (show (56 : Nat) ≠ 55 by decide)]
            by_cases e : x = k
            · rw [if_pos e, if_pos e]; omega
            · rw [if_neg e, if_neg e]; exact i2_3 x x0 (by omega)
          refine Z_iconst (n := 23) dX4_needs_22 rfl (by decide) ?_
          refine Z_zast (n := 24) dX4_needs_23 rfl rfl rfl (by first | decide | assumption) (by omega) (by omega) (by first | assumption | omega | decide) (by first | assumption | omega | decide) (by decide) ?_
          refine Z_aload_n (n := 25) dX4_needs_24 rfl rfl ?_
          refine Z_getA (n := 28) dX4_needs_25 rfl ffX4_96 rfl rfl ?_
          refine Z_iload_n (n := 29) dX4_needs_28 rfl rfl ?_
          refine Z_iconst (n := 30) dX4_needs_29 rfl (by decide) ?_
          refine Z_iast (n := 31) dX4_needs_30 rfl rfl rfl (by first | decide | assumption) (by omega) (by omega) (by first | assumption | omega | decide) (by first | assumption | omega | decide) (by decide) ?_
          refine Z_iinc (L' := [_, _, _, _, _, _, _]) (n := 34) dX4_needs_31 rfl rfl (by decide) rfl rfl (by omega) rfl ?_
          refine Z_goto (t := 2) dX4_needs_34 (by decide) ?_
          refine Z_loc (L' := [some _, some _, some _, some _, none, none, none]) (lsub_same (lsub_same (lsub_same (lsub_same (lsub_none (lsub_none (lsub_none lsub_nil))))))) ?_
          exact ih2 _ _ _ (by omega) (by first | rfl | assumption) (by first | assumption | omega | decide) (by first | assumption | omega | decide) (by first | exact fun x x0 x1 => by omega | exact nx2a | exact nx2b)
        · refine Z_iconst (n := 19) dX4_needs_18 rfl (by decide) ?_
          have nx2a : ∀ x : Int, 0 ≤ x → x < k + 1 → ((x = g ∧ uz (uz M2 55 k 1) 56 k (-1) 55 x = 1) ∨ (x ≠ g ∧ uz (uz M2 55 k 1) 56 k (-1) 55 x = 0)) ∧ uz (uz M2 55 k 1) 56 k (-1) 56 x = -1 := fun x x0 x1 => by
            rw [uz_oo (show (55 : Nat) ≠ 56 by decide), uz_a, uz_a, uz_oo (show (56 : Nat) ≠ 55 by decide)]
            by_cases e : x = k
            · rw [if_pos e, if_pos e]; omega
            · rw [if_neg e, if_neg e]; exact i2_3 x x0 (by omega)
          refine Z_goto (t := 23) dX4_needs_19 (by decide) ?_
          refine Z_zast (n := 24) dX4_needs_23 rfl rfl rfl (by first | decide | assumption) (by omega) (by omega) (by first | assumption | omega | decide) (by first | assumption | omega | decide) (by decide) ?_
          refine Z_aload_n (n := 25) dX4_needs_24 rfl rfl ?_
          refine Z_getA (n := 28) dX4_needs_25 rfl ffX4_96 rfl rfl ?_
          refine Z_iload_n (n := 29) dX4_needs_28 rfl rfl ?_
          refine Z_iconst (n := 30) dX4_needs_29 rfl (by decide) ?_
          refine Z_iast (n := 31) dX4_needs_30 rfl rfl rfl (by first | decide | assumption) (by omega) (by omega) (by first | assumption | omega | decide) (by first | assumption | omega | decide) (by decide) ?_
          refine Z_iinc (L' := [_, _, _, _, _, _, _]) (n := 34) dX4_needs_31 rfl rfl (by decide) rfl rfl (by omega) rfl ?_
          refine Z_goto (t := 2) dX4_needs_34 (by decide) ?_
          refine Z_loc (L' := [some _, some _, some _, some _, none, none, none]) (lsub_same (lsub_same (lsub_same (lsub_same (lsub_none (lsub_none (lsub_none lsub_nil))))))) ?_
          exact ih2 _ _ _ (by omega) (by first | rfl | assumption) (by first | assumption | omega | decide) (by first | assumption | omega | decide) (by first | exact fun x x0 x1 => by omega | exact nx2a | exact nx2b)
  refine Z_loc (L' := [some _, some _, some _, some _, none, none, none]) (lsub_same (lsub_same (lsub_same (lsub_same (lsub_none (lsub_none (lsub_none lsub_nil))))))) ?_
  exact lp2 _ _ _ _ (Nat.lt_succ_self _) (by first | rfl | assumption) (by first | assumption | omega | decide) (by first | assumption | omega | decide) (by first | exact fun x x0 x1 => by omega | exact nx2a | exact nx2b)
def bdI (M : zM) (g k : Int) : Prop := ∀ x : Int, 0 ≤ x → x < 40 → ¬ M 43 (12 + x) = 0 → x < k ∧ ¬ M 55 x = 0 ∧ (x = g ∨ k ≤ M 56 x)
def bdJ (M : zM) (g k u : Int) : Prop := ∀ x : Int, 0 ≤ x → x < 40 → ¬ M 43 (12 + x) = 0 → x < k + 1 ∧ ¬ M 55 x = 0 ∧ (x = g ∨ k + 1 ≤ M 56 x ∨ (u ≤ x ∧ M 56 x = k))
theorem bdI_skip {M : zM} {g k : Int} (h : bdI M g k) (hn : ndQ M g) (hk : M 55 k = 0) : bdI M g (k + 1) := fun x x0 x1 q => by
  obtain ⟨h1, h2, h3⟩ := h x x0 x1 q
  refine ⟨by omega, h2, ?_⟩
  rcases h3 with e | e
  · exact Or.inl e
  · right
    by_cases z : M 56 x = k
    · exfalso
      have w := ((hn.2 x x0 x1).2 (by omega)).2.2
      rw [z] at w
      exact w hk
    · omega
theorem bdJ_0 {M M' : zM} {g k : Int} (h : bdI M g k) (hn : ndQ M g) (k0 : 0 ≤ k) (k1 : k < 40) (hkg : k ≤ g) (hk : ¬ M 55 k = 0) (e43 : ∀ f : Int, f ≠ 12 + k → M' 43 f = M 43 f) (e55 : M' 55 = M 55) (e56 : M' 56 = M 56) : bdJ M' g k 0 := fun x x0 x1 q => by
  rw [e55, e56]
  by_cases e : x = k
  · subst e
    refine ⟨by omega, hk, ?_⟩
    have w := hn.2 x x0 x1
    rcases w.1 hk with z | z
    · exact Or.inl z
    · have := (w.2 z).1
      right; left; omega
  · rw [e43 _ (by omega)] at q
    obtain ⟨h1, h2, h3⟩ := h x x0 x1 q
    refine ⟨by omega, h2, ?_⟩
    omega
theorem bdJ_skip {M : zM} {g k u : Int} (h : bdJ M g k u) (hq : M 55 u = 0 ∨ ¬ M 56 u = k) : bdJ M g k (u + 1) := fun x x0 x1 q => by
  obtain ⟨h1, h2, h3⟩ := h x x0 x1 q
  refine ⟨h1, h2, ?_⟩
  by_cases e : x = u
  · subst e
    rcases hq with z | z
    · exact absurd z h2
    · omega
  · omega
theorem bdJ_rm {M M' : zM} {g k u : Int} (h : bdJ M g k u) (e0 : M' 43 (12 + u) = 0) (e43 : ∀ f : Int, f ≠ 12 + u → M' 43 f = M 43 f) (e55 : M' 55 = M 55) (e56 : M' 56 = M 56) : bdJ M' g k (u + 1) := fun x x0 x1 q => by
  by_cases e : x = u
  · subst e
    exact absurd e0 q
  · rw [e43 _ (by omega)] at q
    rw [e55, e56]
    obtain ⟨h1, h2, h3⟩ := h x x0 x1 q
    refine ⟨h1, h2, ?_⟩
    omega
theorem bdI_of {M : zM} {g k : Int} (h : bdJ M g k k) (hn : ndQ M g) : bdI M g (k + 1) := fun x x0 x1 q => by
  obtain ⟨h1, h2, h3⟩ := h x x0 x1 q
  refine ⟨h1, h2, ?_⟩
  rcases h3 with e | e | ⟨e1, e2⟩
  · exact Or.inl e
  · exact Or.inr e
  · exfalso
    have w := ((hn.2 x x0 x1).2 (by omega)).1
    omega
theorem bd_end {M : zM} {g : Int} (h : bdI M g (g + 1)) (hn : ndQ M g) : ∀ y : Int, 0 ≤ y → y < 40 → y ≠ g → M 43 (12 + y) = 0 := fun y y0 y1 hy => by
  by_cases q : M 43 (12 + y) = 0
  · exact q
  · exfalso
    obtain ⟨h1, h2, h3⟩ := h y y0 y1 q
    rcases h3 with e | e
    · exact hy e
    · have w := (hn.2 y y0 y1).2 (by omega)
      omega
theorem TI_fr {M M' : zM} {J : zJ} (h : TI M J) (o : ∀ a : Nat, (a = 31 ∨ (43 ≤ a ∧ a ≤ 52)) → M' a = M a) : TI M' J := by
  have e31 := o 31 (by omega)
  have e43 := o 43 (by omega)
  have e45 := o 45 (by omega)
  have e46 := o 46 (by omega)
  have e47 := o 47 (by omega)
  have e49 := o 49 (by omega)
  have e50 := o 50 (by omega)
  have e51 := o 51 (by omega)
  have e52 := o 52 (by omega)
  unfold TI tabA tabB tabC tabU at *
  have hc : ∀ n : Int, cfn M' lo0 n 56 = cfn M lo0 n 56 := fun n => cfn_congr (fun g _ _ => by unfold inS; rw [e43, e45, e46])
  have hS : ∀ g m : Int, (inS M' g 0 m ↔ inS M g 0 m) := fun g m => by unfold inS; rw [e45, e46]
  have hm : ∀ (n d : Int) (P : Int → Int64), mtc M' J n d P ↔ mtc M J n d P := fun n d P => by unfold mtc; rw [e47]
  simp only [hc, hS, hm, e31, e43, e45, e46, e47, e49, e50, e51, e52]
  exact h
set_option maxRecDepth 20000 in
theorem zX4_builds {G : tl_G} {M : zM} {J : zJ} {net g : Int} (n0 : 0 ≤ net) (n1 : net < 3) (g0 : 0 ≤ g) (g1 : g < M 32 net) (hN : rNt M net) (hT : TI M J) (hh : ∀ y : Int, 0 ≤ y → y < 40 → M 43 (12 + y) = 0) (hu : M 31 24 ≤ M 31 8) (hk : M 31 27 + 40 ≤ 2147483647) : ZN G yX4_builds mX4_builds 4 kRg [vR 31, vI net, vI g] F1 M J (qI (fun x M' J' => TI M' J' ∧ hdl M M' ∧ M' 31 27 ≤ M 31 27 + 40 ∧ (∀ f : Int, 52 ≤ f → f < 56 → M' 43 f = M 43 f) ∧ (∀ j : Int, (j < 48 ∨ 208 ≤ j) → J' 44 j = J 44 j) ∧ ((x = 1 ∧ M' 31 24 ≤ M' 31 8 ∧ ¬ M' 43 (12 + g) = 0 ∧ ∀ y : Int, 0 ≤ y → y < 40 → y ≠ g → M' 43 (12 + y) = 0) ∨ x = 0))) := by
  refine ZN_of (L := [_, _, _, _, _, _, _]) (by decide) rfl rfl (Nat.le_of_ble_eq_true rfl) rfl (fun hav => ?_)
  refine Z_rg 32 net rfl (fun g32 g32b => ?_)
  refine Z_aload_n (n := 1) dX4_builds_0 rfl rfl ?_
  refine Z_iload_n (n := 2) dX4_builds_1 rfl rfl ?_
  refine Z_iload_n (n := 3) dX4_builds_2 rfl rfl ?_
  refine Z_callVv (n := 6) [_, _] _ dX4_builds_3 rfl cwX4_194 rfl rfl rfl (Nat.le_of_ble_eq_true rfl) (by refine ⟨?_, ?_, ?_, ?_⟩ <;> exact Nat.le_of_ble_eq_true rfl) (fun a h => by unfold kRg at h; unfold kNd; omega) (zX4_needs  (by omega) (by omega) (by omega) (by omega) (by exact hN)) ?_
  intro M3 J3 f3 q3
  obtain ⟨e3_1, nd3⟩ := q3
  replace e3_1 := e3_1.symm; subst e3_1
  have o3 : ∀ a : Nat, ¬ a = 55 → ¬ a = 56 → M3 a = M a := fun a h1 h2 => (f3 a ⟨h1, h2⟩).1
  have ti3 : TI M3 J := TI_fr hT (fun a ha => o3 a (by omega) (by omega))
  have hd3 : hdl M M3 := by unfold hdl; rw [o3 45 (by decide) (by decide), o3 43 (by decide) (by decide), o3 46 (by decide) (by decide), o3 31 (by decide) (by decide)]; exact hdl_0
  have us3 : M3 31 24 ≤ M3 31 8 := by rw [o3 31 (by decide) (by decide)]; exact hu
  have mk3 : M3 31 27 ≤ M 31 27 + 0 := by rw [o3 31 (by decide) (by decide)]; omega
  have hi3 : ∀ f : Int, 52 ≤ f → f < 56 → M3 43 f = M 43 f := fun f _ _ => by rw [o3 43 (by decide) (by decide)]
  have bi3 : ∀ j : Int, (j < 48 ∨ 208 ≤ j) → J 44 j = J 44 j := fun _ _ => rfl
  have bd3 : bdI M3 g 0 := fun x x0 x1 q => by rw [o3 43 (by decide) (by decide)] at q; exact absurd (hh x x0 x1) q
  refine Z_iconst (n := 7) dX4_builds_6 rfl (by decide) ?_
  refine Z_istore_n (L' := [_, _, _, _, _, _, _]) (n := 8) dX4_builds_7 rfl (by decide) rfl rfl ?_
  have lp8 : ∀ (N8 : Nat) (k : Int) (M8 : zM) (J8 : zJ), ((g + 1 - k).toNat) < N8 → (0 ≤ k) → (k ≤ g + 1) → (TI M8 J8) → (ndQ M8 g) → (hdl M M8) → (M8 31 24 ≤ M8 31 8) → (M8 31 27 ≤ M 31 27 + k) → (∀ f : Int, 52 ≤ f → f < 56 → M8 43 f = M 43 f) → (∀ j : Int, (j < 48 ∨ 208 ≤ j) → J8 44 j = J 44 j) → (bdI M8 g k) → (k = g + 1 → ¬ M8 43 (12 + g) = 0) → TZ G mX4_builds (tl_rm 4 0 0) 0 0 kRg M J 8 [some (vR 31), some (vI net), some (vI g), some (vI k), none, none, none] [] F1 M8 J8 (ZM G (zPost G kRg F1 M J (qI (fun x M' J' => TI M' J' ∧ hdl M M' ∧ M' 31 27 ≤ M 31 27 + 40 ∧ (∀ f : Int, 52 ≤ f → f < 56 → M' 43 f = M 43 f) ∧ (∀ j : Int, (j < 48 ∨ 208 ≤ j) → J' 44 j = J 44 j) ∧ ((x = 1 ∧ M' 31 24 ≤ M' 31 8 ∧ ¬ M' 43 (12 + g) = 0 ∧ ∀ y : Int, 0 ≤ y → y < 40 → y ≠ g → M' 43 (12 + y) = 0) ∨ x = 0)))) 0 0) := by
    intro N8
    induction N8 with
    | zero => intro k M8 J8 hN; omega
    | succ N8 ih8 =>
      intro k M8 J8 hN8 i8_0 i8_1 i8_2 i8_3 i8_4 i8_5 i8_6 i8_7 i8_8 i8_9 i8_10
      refine Z_iload_n (n := 9) dX4_builds_8 rfl rfl ?_
      refine Z_iload_n (n := 10) dX4_builds_9 rfl rfl ?_
      refine Z_icmp_gt (n := 13) (t := 259) dX4_builds_10 rfl (by decide) (fun c10 => ?_) (fun c10 => ?_)
      · refine Z_iconst (n := 260) dX4_builds_259 rfl (by decide) ?_
        refine Z_zret dX4_builds_260 rfl (by first | assumption | omega | decide) (by first | assumption | omega | decide) ?_
        have ek : k = g + 1 := by omega
        subst ek
        exact ⟨i8_2, i8_4, by omega, i8_7, i8_8, Or.inl ⟨rfl, i8_5, i8_10 rfl, bd_end i8_9 i8_3⟩⟩
      · refine Z_aload_n (n := 14) dX4_builds_13 rfl rfl ?_
        refine Z_getA (n := 17) dX4_builds_14 rfl ffX4_93 rfl rfl ?_
        refine Z_iload_n (n := 18) dX4_builds_17 rfl rfl ?_
        refine Z_zald (n := 19) dX4_builds_18 rfl rfl rfl (by first | decide | assumption) (by omega) (by omega) (fun r18 s18 => ?_)
        refine Z_if_ne (n := 22) (t := 25) dX4_builds_19 rfl (by decide) (fun c19 => ?_) (fun c19 => ?_)
        · refine Z_fr (fun fr8 => ?_)
          have hN8 : rNt M8 net := rNt_fr hN (fr8 32 (by decide)).1 (fr8 33 (by decide)).1 (fr8 34 (by decide)).1 (fr8 35 (by decide)).1 (fr8 36 (by decide)).1
          have e32 : M8 32 net = M 32 net := congrFun (fr8 32 (by decide)).1 net
          have hgt := hN8.1 k (by omega) (by omega)
          have hk43 : M8 43 (12 + k) = 0 := by
            by_cases q : M8 43 (12 + k) = 0
            · exact q
            · have := (i8_9 k (by omega) (by omega) q).1; omega
          refine Z_rg 34 (40 * net + k) rfl (fun g34 g34b => ?_)
          refine Z_rg 31 8 rfl (fun g318 g318b => ?_)
          have ho0 : opF (M8 34 (40 * net + k)) > 0 → 0 ≤ M8 35 (3 * (40 * net + k)) ∧ M8 35 (3 * (40 * net + k)) < k := fun q => by
            have z := hgt.1 0 (by omega) (by omega)
            rw [Int.add_zero] at z
            exact z
          have ho1 := hgt.1 1 (by omega)
          have ho2 := hgt.1 2 (by omega)
          refine Z_bipush (n := 27) dX4_builds_25 rfl (by decide) (by decide) ?_
          have ct197 : ∀  (M197 : zM) (J197 : zJ), (M197 = M8) → (J197 48 = J8 48) → (∀ j : Int, (j < 4 * (12 + k) ∨ 4 * (12 + k) + 4 ≤ j) → J197 44 j = J8 44 j) → TZ G mX4_builds (tl_rm 4 0 0) 0 0 kRg M J 197 [some (vR 31), some (vI net), some (vI g), some (vI k), some (vI (40 * net + k)), some (vI (12 + k)), none] [] F1 M197 J197 (ZM G (zPost G kRg F1 M J (qI (fun x M' J' => TI M' J' ∧ hdl M M' ∧ M' 31 27 ≤ M 31 27 + 40 ∧ (∀ f : Int, 52 ≤ f → f < 56 → M' 43 f = M 43 f) ∧ (∀ j : Int, (j < 48 ∨ 208 ≤ j) → J' 44 j = J 44 j) ∧ ((x = 1 ∧ M' 31 24 ≤ M' 31 8 ∧ ¬ M' 43 (12 + g) = 0 ∧ ∀ y : Int, 0 ≤ y → y < 40 → y ≠ g → M' 43 (12 + y) = 0) ∨ x = 0)))) 0 0) := by
            intro  M197 J197 i197_0 i197_1 i197_2
            replace i197_0 := i197_0.symm; subst i197_0
            have ti197 : TI M8 J197 := TI_bits i8_2 hk43 i197_1 i197_2
            refine Z_aload_n (n := 198) dX4_builds_197 rfl rfl ?_
            refine Z_iload (n := 200) dX4_builds_198 rfl rfl ?_
            refine Z_callVi (n := 203) [_] _ dX4_builds_200 rfl cwX4_207 rfl rfl rfl (Nat.le_of_ble_eq_true rfl) (by refine ⟨?_, ?_, ?_, ?_⟩ <;> exact Nat.le_of_ble_eq_true rfl) (fun a h => by unfold kRg at h; unfold kAd; omega) (zX4_steps  (by omega) (by omega) (by exact ti197) (by exact hk43) (by omega) (by omega)) ?_
            intro x200 M200 J200 z200 f200 q200
            obtain ⟨ti200, ah200, am200, au200, af200, xs200⟩ := q200
            have e200 : ∀ a : Nat, (a = 55 ∨ a = 56) → M200 a = M8 a := fun a ha => (f200 a (by unfold kAd; omega)).1
            have nd200 : ndQ M200 g := ndQ_fr i8_3 (e200 55 (by decide)) (e200 56 (by decide))
            have hd200 : hdl M M200 := hdl_t i8_4 (hdl_a af200 (by omega))
            have hi200 : ∀ f : Int, 52 ≤ f → f < 56 → M200 43 f = M 43 f := fun f a b => ((af200.1 f (by omega)).2).trans (i8_7 f a b)
            have bi200 : ∀ j : Int, (j < 48 ∨ 208 ≤ j) → J200 44 j = J 44 j := fun j hj => (congrFun (f200 44 (by decide)).2 j).trans ((i197_2 j (by omega)).trans (i8_8 j hj))
            have bj200 : bdJ M200 g k 0 := bdJ_0 i8_9 i8_3 (by omega) (by omega) (by omega) c19 (fun f hf => (af200.1 f hf).2) (e200 55 (by decide)) (e200 56 (by decide))
            refine Z_if_ne (n := 206) (t := 208) dX4_builds_203 rfl (by decide) (fun c203 => ?_) (fun c203 => ?_)
            · have us200 : M200 31 24 ≤ M200 31 8 := by omega
              refine Z_iconst (n := 209) dX4_builds_208 rfl (by decide) ?_
              refine Z_istore (L' := [_, _, _, _, _, _, _]) (n := 211) dX4_builds_209 rfl (by decide) rfl rfl ?_
              have lp211 : ∀ (N211 : Nat) (u : Int) (M211 : zM) (J211 : zJ), ((k - u).toNat) < N211 → (0 ≤ u) → (u ≤ k) → (TI M211 J211) → (ndQ M211 g) → (hdl M M211) → (M211 31 24 ≤ M211 31 8) → (M211 31 27 ≤ M 31 27 + (k + 1)) → (∀ f : Int, 52 ≤ f → f < 56 → M211 43 f = M 43 f) → (∀ j : Int, (j < 48 ∨ 208 ≤ j) → J211 44 j = J 44 j) → (bdJ M211 g k u) → (¬ M211 43 (12 + k) = 0) → TZ G mX4_builds (tl_rm 4 0 0) 0 0 kRg M J 211 [some (vR 31), some (vI net), some (vI g), some (vI k), some (vI (40 * net + k)), some (vI (12 + k)), some (vI u)] [] F1 M211 J211 (ZM G (zPost G kRg F1 M J (qI (fun x M' J' => TI M' J' ∧ hdl M M' ∧ M' 31 27 ≤ M 31 27 + 40 ∧ (∀ f : Int, 52 ≤ f → f < 56 → M' 43 f = M 43 f) ∧ (∀ j : Int, (j < 48 ∨ 208 ≤ j) → J' 44 j = J 44 j) ∧ ((x = 1 ∧ M' 31 24 ≤ M' 31 8 ∧ ¬ M' 43 (12 + g) = 0 ∧ ∀ y : Int, 0 ≤ y → y < 40 → y ≠ g → M' 43 (12 + y) = 0) ∨ x = 0)))) 0 0) := by
                intro N211
                induction N211 with
                | zero => intro u M211 J211 hN; omega
                | succ N211 ih211 =>
                  intro u M211 J211 hN211 i211_0 i211_1 i211_2 i211_3 i211_4 i211_5 i211_6 i211_7 i211_8 i211_9 i211_10
                  refine Z_iload (n := 213) dX4_builds_211 rfl rfl ?_
                  refine Z_iload_n (n := 214) dX4_builds_213 rfl rfl ?_
                  refine Z_icmp_ge (n := 217) (t := 253) dX4_builds_214 rfl (by decide) (fun c214 => ?_) (fun c214 => ?_)
                  · have eu : u = k := by omega
                    rw [eu] at i211_9
                    have b2 := i211_2
                    have b3 := i211_3
                    have b4 := i211_4
                    have b5 := i211_5
                    have b7 := i211_7
                    have b8 := i211_8
                    have b6 : M211 31 27 ≤ M 31 27 + (k + 1) := by omega
                    have b9 := bdI_of i211_9 i211_3
                    have b10 : k + 1 = g + 1 → ¬ M211 43 (12 + g) = 0 := fun q => by rw [show g = k by omega]; exact i211_10
                    refine Z_iinc (L' := [_, _, _, _, _, _, _]) (n := 256) dX4_builds_253 rfl rfl (by decide) rfl rfl (by omega) rfl ?_
                    refine Z_goto (t := 8) dX4_builds_256 (by decide) ?_
                    refine Z_loc (L' := [some _, some _, some _, some _, none, none, none]) (lsub_same (lsub_same (lsub_same (lsub_same (lsub_none (lsub_none (lsub_none lsub_nil))))))) ?_
                    exact ih8 _ _ _ (by omega) (by first | assumption | omega | decide) (by first | assumption | omega | decide) (by exact b2) (by exact b3) (by exact b4) (by exact b5) (by exact b6) (by exact b7) (by exact b8) (by exact b9) (by exact b10)
                  · refine Z_aload_n (n := 218) dX4_builds_217 rfl rfl ?_
                    refine Z_getA (n := 221) dX4_builds_218 rfl ffX4_93 rfl rfl ?_
                    refine Z_iload (n := 223) dX4_builds_221 rfl rfl ?_
                    refine Z_zald (n := 224) dX4_builds_223 rfl rfl rfl (by first | decide | assumption) (by omega) (by omega) (fun r223 s223 => ?_)
                    refine Z_if_eq (n := 227) (t := 247) dX4_builds_224 rfl (by decide) (fun c224 => ?_) (fun c224 => ?_)
                    · have p2 := i211_2
                      have p3 := i211_3
                      have p4 := i211_4
                      have p5 := i211_5
                      have p6 := i211_6
                      have p7 := i211_7
                      have p8 := i211_8
                      have p10 := i211_10
                      have p9 := bdJ_skip i211_9 (Or.inl c224)
                      refine Z_iinc (L' := [_, _, _, _, _, _, _]) (n := 250) dX4_builds_247 rfl rfl (by decide) rfl rfl (by omega) rfl ?_
                      refine Z_goto (t := 211) dX4_builds_250 (by decide) ?_
                      refine Z_loc (L' := [some _, some _, some _, some _, some _, some _, some _]) (lsub_same (lsub_same (lsub_same (lsub_same (lsub_same (lsub_same (lsub_same lsub_nil))))))) ?_
                      exact ih211 _ _ _ (by omega) (by first | assumption | omega | decide) (by first | assumption | omega | decide) (by exact p2) (by exact p3) (by exact p4) (by exact p5) (by exact p6) (by exact p7) (by exact p8) (by exact p9) (by exact p10)
                    · refine Z_aload_n (n := 228) dX4_builds_227 rfl rfl ?_
                      refine Z_getA (n := 231) dX4_builds_228 rfl ffX4_96 rfl rfl ?_
                      refine Z_iload (n := 233) dX4_builds_231 rfl rfl ?_
                      refine Z_iald (n := 234) dX4_builds_233 rfl rfl rfl (by first | decide | assumption) (by omega) (by omega) (fun r233 s233 => ?_)
                      refine Z_iload_n (n := 235) dX4_builds_234 rfl rfl ?_
                      refine Z_icmp_ne (n := 238) (t := 247) dX4_builds_235 rfl (by decide) (fun c235 => ?_) (fun c235 => ?_)
                      · have p2 := i211_2
                        have p3 := i211_3
                        have p4 := i211_4
                        have p5 := i211_5
                        have p6 := i211_6
                        have p7 := i211_7
                        have p8 := i211_8
                        have p10 := i211_10
                        have p9 := bdJ_skip i211_9 (Or.inr c235)
                        refine Z_iinc (L' := [_, _, _, _, _, _, _]) (n := 250) dX4_builds_247 rfl rfl (by decide) rfl rfl (by omega) rfl ?_
                        refine Z_goto (t := 211) dX4_builds_250 (by decide) ?_
                        refine Z_loc (L' := [some _, some _, some _, some _, some _, some _, some _]) (lsub_same (lsub_same (lsub_same (lsub_same (lsub_same (lsub_same (lsub_same lsub_nil))))))) ?_
                        exact ih211 _ _ _ (by omega) (by first | assumption | omega | decide) (by first | assumption | omega | decide) (by exact p2) (by exact p3) (by exact p4) (by exact p5) (by exact p6) (by exact p7) (by exact p8) (by exact p9) (by exact p10)
                      · refine Z_aload_n (n := 239) dX4_builds_238 rfl rfl ?_
                        refine Z_bipush (n := 241) dX4_builds_239 rfl (by decide) (by decide) ?_
                        refine Z_iload (n := 243) dX4_builds_241 rfl rfl ?_
                        refine Z_iadd (n := 244) dX4_builds_243 rfl (by omega) ?_
                        refine Z_callVv (n := 247) [_] _ dX4_builds_244 rfl cwX4_179 rfl rfl rfl (Nat.le_of_ble_eq_true rfl) (by refine ⟨?_, ?_, ?_, ?_⟩ <;> exact Nat.le_of_ble_eq_true rfl) (fun a h => by unfold kRg at h; unfold kRv; omega) (zX4_remove  (by omega) (by omega) (by exact i211_2)) ?_
                        intro M244 J244 f244 q244
                        obtain ⟨ti244, ah244, am244, au244, af244⟩ := q244
                        have e244 : ∀ a : Nat, (a = 55 ∨ a = 56) → M244 a = M211 a := fun a ha => (f244 a (by unfold kRv; omega)).1
                        have p2 := ti244
                        have p3 : ndQ M244 g := ndQ_fr i211_3 (e244 55 (by decide)) (e244 56 (by decide))
                        have p4 : hdl M M244 := hdl_t i211_4 (hdl_a af244 (by omega))
                        have p6 : M244 31 27 ≤ M 31 27 + (k + 1) := by omega
                        have p5 : M244 31 24 ≤ M244 31 8 := by rw [af244.2.2 8 (by decide) (by decide) (by decide) (by decide)]; omega
                        have p7 : ∀ f : Int, 52 ≤ f → f < 56 → M244 43 f = M 43 f := fun f a b => ((af244.1 f (by omega)).2).trans (i211_7 f a b)
                        have p8 : ∀ j : Int, (j < 48 ∨ 208 ≤ j) → J244 44 j = J 44 j := fun j hj => (congrFun (f244 44 (by decide)).2 j).trans (i211_8 j hj)
                        have p9 : bdJ M244 g k (u + 1) := bdJ_rm i211_9 ah244 (fun f hf => (af244.1 f hf).2) (e244 55 (by decide)) (e244 56 (by decide))
                        have p10 : ¬ M244 43 (12 + k) = 0 := by rw [(af244.1 (12 + k) (by omega)).2]; exact i211_10
                        refine Z_iinc (L' := [_, _, _, _, _, _, _]) (n := 250) dX4_builds_247 rfl rfl (by decide) rfl rfl (by omega) rfl ?_
                        refine Z_goto (t := 211) dX4_builds_250 (by decide) ?_
                        refine Z_loc (L' := [some _, some _, some _, some _, some _, some _, some _]) (lsub_same (lsub_same (lsub_same (lsub_same (lsub_same (lsub_same (lsub_same lsub_nil))))))) ?_
                        exact ih211 _ _ _ (by omega) (by first | assumption | omega | decide) (by first | assumption | omega | decide) (by exact p2) (by exact p3) (by exact p4) (by exact p5) (by exact p6) (by exact p7) (by exact p8) (by exact p9) (by exact p10)
              refine Z_loc (L' := [some _, some _, some _, some _, some _, some _, some _]) (lsub_same (lsub_same (lsub_same (lsub_same (lsub_same (lsub_same (lsub_same lsub_nil))))))) ?_
              exact lp211 _ _ _ _ (Nat.lt_succ_self _) (by first | assumption | omega | decide) (by first | assumption | omega | decide) (by exact ti200) (by exact nd200) (by exact hd200) (by exact us200) (by omega) (by exact hi200) (by exact bi200) (by exact bj200) (by exact ah200)
            · refine Z_iconst (n := 207) dX4_builds_206 rfl (by decide) ?_
              refine Z_zret dX4_builds_207 rfl (by first | assumption | omega | decide) (by first | assumption | omega | decide) ?_
              exact ⟨ti200, hd200, by omega, hi200, bi200, Or.inr rfl⟩
          refine Z_iload_n (n := 28) dX4_builds_27 rfl rfl ?_
          refine Z_imul (n := 29) dX4_builds_28 rfl (by omega) ?_
          refine Z_iload_n (n := 30) dX4_builds_29 rfl rfl ?_
          refine Z_iadd (n := 31) dX4_builds_30 rfl (by omega) ?_
          refine Z_istore (L' := [_, _, _, _, _, _, _]) (n := 33) dX4_builds_31 rfl (by decide) rfl rfl ?_
          refine Z_bipush (n := 35) dX4_builds_33 rfl (by decide) (by decide) ?_
          refine Z_iload_n (n := 36) dX4_builds_35 rfl rfl ?_
          refine Z_iadd (n := 37) dX4_builds_36 rfl (by omega) ?_
          refine Z_istore (L' := [_, _, _, _, _, _, _]) (n := 39) dX4_builds_37 rfl (by decide) rfl rfl ?_
          refine Z_aload_n (n := 40) dX4_builds_39 rfl rfl ?_
          refine Z_getA (n := 43) dX4_builds_40 rfl ffX4_16 rfl rfl ?_
          refine Z_iload (n := 45) dX4_builds_43 rfl rfl ?_
          refine Z_iald (n := 46) dX4_builds_45 rfl rfl rfl (by first | decide | assumption) (by omega) (by omega) (fun r45 s45 => ?_)
          refine Z_if_ne (n := 49) (t := 67) dX4_builds_46 rfl (by decide) (fun c46 => ?_) (fun c46 => ?_)
          · refine Z_aload_n (n := 68) dX4_builds_67 rfl rfl ?_
            refine Z_getA (n := 71) dX4_builds_68 rfl ffX4_16 rfl rfl ?_
            refine Z_iload (n := 73) dX4_builds_71 rfl rfl ?_
            refine Z_iald (n := 74) dX4_builds_73 rfl rfl rfl (by first | decide | assumption) (by omega) (by omega) (fun r73 s73 => ?_)
            refine Z_bipush (n := 76) dX4_builds_74 rfl (by decide) (by decide) ?_
            refine Z_icmp_ne (n := 79) (t := 128) dX4_builds_76 rfl (by decide) (fun c76 => ?_) (fun c76 => ?_)
            · refine Z_aload_n (n := 129) dX4_builds_128 rfl rfl ?_
              refine Z_iload (n := 131) dX4_builds_129 rfl rfl ?_
              refine Z_aload_n (n := 132) dX4_builds_131 rfl rfl ?_
              refine Z_getA (n := 135) dX4_builds_132 rfl ffX4_16 rfl rfl ?_
              refine Z_iload (n := 137) dX4_builds_135 rfl rfl ?_
              refine Z_iald (n := 138) dX4_builds_137 rfl rfl rfl (by first | decide | assumption) (by omega) (by omega) (fun r137 s137 => ?_)
              refine Z_bipush (n := 140) dX4_builds_138 rfl (by decide) (by decide) ?_
              refine Z_aload_n (n := 141) dX4_builds_140 rfl rfl ?_
              refine Z_getA (n := 144) dX4_builds_141 rfl ffX4_16 rfl rfl ?_
              refine Z_iload (n := 146) dX4_builds_144 rfl rfl ?_
              refine Z_iald (n := 147) dX4_builds_146 rfl rfl rfl (by first | decide | assumption) (by omega) (by omega) (fun r146 s146 => ?_)
              refine Z_iconst (n := 148) dX4_builds_147 rfl (by decide) ?_
              refine Z_icmp_le (n := 151) (t := 163) dX4_builds_148 rfl (by decide) (fun c148 => ?_) (fun c148 => ?_)
              · refine Z_iconst (n := 164) dX4_builds_163 rfl (by decide) ?_
                refine Z_iadd (n := 165) dX4_builds_164 rfl (by omega) ?_
                refine Z_bipush (n := 167) dX4_builds_165 rfl (by decide) (by decide) ?_
                refine Z_aload_n (n := 168) dX4_builds_167 rfl rfl ?_
                refine Z_getA (n := 171) dX4_builds_168 rfl ffX4_16 rfl rfl ?_
                refine Z_iload (n := 173) dX4_builds_171 rfl rfl ?_
                refine Z_iald (n := 174) dX4_builds_173 rfl rfl rfl (by first | decide | assumption) (by omega) (by omega) (fun r173 s173 => ?_)
                refine Z_iconst (n := 175) dX4_builds_174 rfl (by decide) ?_
                refine Z_icmp_le (n := 178) (t := 192) dX4_builds_175 rfl (by decide) (fun c175 => ?_) (fun c175 => ?_)
                · refine Z_iconst (n := 193) dX4_builds_192 rfl (by decide) ?_
                  refine Z_iadd (n := 194) dX4_builds_193 rfl (by omega) ?_
                  refine Z_callVv (n := 197) [_, _, _, _] _ dX4_builds_194 rfl cwX4_204 rfl rfl rfl (Nat.le_of_ble_eq_true rfl) (by refine ⟨?_, ?_, ?_, ?_⟩ <;> exact Nat.le_of_ble_eq_true rfl) (fun a h => by unfold kRg at h; unfold kBits; omega) (zX4_makeOf  (by omega) (by omega) (by omega) (by omega) (by omega) (by omega)) ?_
                  intro M194 J194 f194 q194
                  obtain ⟨e194_1, mo194, mb194, vo194⟩ := q194
                  replace e194_1 := e194_1.symm; subst e194_1
                  refine Z_loc (L' := [some _, some _, some _, some _, some _, some _, none]) (lsub_same (lsub_same (lsub_same (lsub_same (lsub_same (lsub_same (lsub_none lsub_nil))))))) ?_
                  exact ct197  _ _ (by first | rfl | assumption) (by first | exact (f61 48 (by decide)).2 | exact (f122 48 (by decide)).2 | exact (f194 48 (by decide)).2) (by first | exact vo61 | exact vo122 | exact vo194)
                · have hp1 := ho1 (by unfold opF; (repeat' split) <;> omega)
                  refine Z_aload_n (n := 179) dX4_builds_178 rfl rfl ?_
                  refine Z_getA (n := 182) dX4_builds_179 rfl ffX4_19 rfl rfl ?_
                  refine Z_iconst (n := 183) dX4_builds_182 rfl (by decide) ?_
                  refine Z_iload (n := 185) dX4_builds_183 rfl rfl ?_
                  refine Z_imul (n := 186) dX4_builds_185 rfl (by omega) ?_
                  refine Z_iconst (n := 187) dX4_builds_186 rfl (by decide) ?_
                  refine Z_iadd (n := 188) dX4_builds_187 rfl (by omega) ?_
                  refine Z_iald (n := 189) dX4_builds_188 rfl rfl rfl (by first | decide | assumption) (by omega) (by omega) (fun r188 s188 => ?_)
                  refine Z_goto (t := 193) dX4_builds_189 (by decide) ?_
                  refine Z_iadd (n := 194) dX4_builds_193 rfl (by omega) ?_
                  refine Z_callVv (n := 197) [_, _, _, _] _ dX4_builds_194 rfl cwX4_204 rfl rfl rfl (Nat.le_of_ble_eq_true rfl) (by refine ⟨?_, ?_, ?_, ?_⟩ <;> exact Nat.le_of_ble_eq_true rfl) (fun a h => by unfold kRg at h; unfold kBits; omega) (zX4_makeOf  (by omega) (by omega) (by omega) (by omega) (by omega) (by omega)) ?_
                  intro M194 J194 f194 q194
                  obtain ⟨e194_1, mo194, mb194, vo194⟩ := q194
                  replace e194_1 := e194_1.symm; subst e194_1
                  refine Z_loc (L' := [some _, some _, some _, some _, some _, some _, none]) (lsub_same (lsub_same (lsub_same (lsub_same (lsub_same (lsub_same (lsub_none lsub_nil))))))) ?_
                  exact ct197  _ _ (by first | rfl | assumption) (by first | exact (f61 48 (by decide)).2 | exact (f122 48 (by decide)).2 | exact (f194 48 (by decide)).2) (by first | exact vo61 | exact vo122 | exact vo194)
              · have hp0 := ho0 (by unfold opF; (repeat' split) <;> omega)
                refine Z_aload_n (n := 152) dX4_builds_151 rfl rfl ?_
                refine Z_getA (n := 155) dX4_builds_152 rfl ffX4_19 rfl rfl ?_
                refine Z_iconst (n := 156) dX4_builds_155 rfl (by decide) ?_
                refine Z_iload (n := 158) dX4_builds_156 rfl rfl ?_
                refine Z_imul (n := 159) dX4_builds_158 rfl (by omega) ?_
                refine Z_iald (n := 160) dX4_builds_159 rfl rfl rfl (by first | decide | assumption) (by omega) (by omega) (fun r159 s159 => ?_)
                refine Z_goto (t := 164) dX4_builds_160 (by decide) ?_
                refine Z_iadd (n := 165) dX4_builds_164 rfl (by omega) ?_
                refine Z_bipush (n := 167) dX4_builds_165 rfl (by decide) (by decide) ?_
                refine Z_aload_n (n := 168) dX4_builds_167 rfl rfl ?_
                refine Z_getA (n := 171) dX4_builds_168 rfl ffX4_16 rfl rfl ?_
                refine Z_iload (n := 173) dX4_builds_171 rfl rfl ?_
                refine Z_iald (n := 174) dX4_builds_173 rfl rfl rfl (by first | decide | assumption) (by omega) (by omega) (fun r173 s173 => ?_)
                refine Z_iconst (n := 175) dX4_builds_174 rfl (by decide) ?_
                refine Z_icmp_le (n := 178) (t := 192) dX4_builds_175 rfl (by decide) (fun c175 => ?_) (fun c175 => ?_)
                · refine Z_iconst (n := 193) dX4_builds_192 rfl (by decide) ?_
                  refine Z_iadd (n := 194) dX4_builds_193 rfl (by omega) ?_
                  refine Z_callVv (n := 197) [_, _, _, _] _ dX4_builds_194 rfl cwX4_204 rfl rfl rfl (Nat.le_of_ble_eq_true rfl) (by refine ⟨?_, ?_, ?_, ?_⟩ <;> exact Nat.le_of_ble_eq_true rfl) (fun a h => by unfold kRg at h; unfold kBits; omega) (zX4_makeOf  (by omega) (by omega) (by omega) (by omega) (by omega) (by omega)) ?_
                  intro M194 J194 f194 q194
                  obtain ⟨e194_1, mo194, mb194, vo194⟩ := q194
                  replace e194_1 := e194_1.symm; subst e194_1
                  refine Z_loc (L' := [some _, some _, some _, some _, some _, some _, none]) (lsub_same (lsub_same (lsub_same (lsub_same (lsub_same (lsub_same (lsub_none lsub_nil))))))) ?_
                  exact ct197  _ _ (by first | rfl | assumption) (by first | exact (f61 48 (by decide)).2 | exact (f122 48 (by decide)).2 | exact (f194 48 (by decide)).2) (by first | exact vo61 | exact vo122 | exact vo194)
                · have hp1 := ho1 (by unfold opF; (repeat' split) <;> omega)
                  refine Z_aload_n (n := 179) dX4_builds_178 rfl rfl ?_
                  refine Z_getA (n := 182) dX4_builds_179 rfl ffX4_19 rfl rfl ?_
                  refine Z_iconst (n := 183) dX4_builds_182 rfl (by decide) ?_
                  refine Z_iload (n := 185) dX4_builds_183 rfl rfl ?_
                  refine Z_imul (n := 186) dX4_builds_185 rfl (by omega) ?_
                  refine Z_iconst (n := 187) dX4_builds_186 rfl (by decide) ?_
                  refine Z_iadd (n := 188) dX4_builds_187 rfl (by omega) ?_
                  refine Z_iald (n := 189) dX4_builds_188 rfl rfl rfl (by first | decide | assumption) (by omega) (by omega) (fun r188 s188 => ?_)
                  refine Z_goto (t := 193) dX4_builds_189 (by decide) ?_
                  refine Z_iadd (n := 194) dX4_builds_193 rfl (by omega) ?_
                  refine Z_callVv (n := 197) [_, _, _, _] _ dX4_builds_194 rfl cwX4_204 rfl rfl rfl (Nat.le_of_ble_eq_true rfl) (by refine ⟨?_, ?_, ?_, ?_⟩ <;> exact Nat.le_of_ble_eq_true rfl) (fun a h => by unfold kRg at h; unfold kBits; omega) (zX4_makeOf  (by omega) (by omega) (by omega) (by omega) (by omega) (by omega)) ?_
                  intro M194 J194 f194 q194
                  obtain ⟨e194_1, mo194, mb194, vo194⟩ := q194
                  replace e194_1 := e194_1.symm; subst e194_1
                  refine Z_loc (L' := [some _, some _, some _, some _, some _, some _, none]) (lsub_same (lsub_same (lsub_same (lsub_same (lsub_same (lsub_same (lsub_none lsub_nil))))))) ?_
                  exact ct197  _ _ (by first | rfl | assumption) (by first | exact (f61 48 (by decide)).2 | exact (f122 48 (by decide)).2 | exact (f194 48 (by decide)).2) (by first | exact vo61 | exact vo122 | exact vo194)
            · have hq3 : opF (M8 34 (40 * net + k)) = 3 := by rw [c76]; rfl
              have hp0 := ho0 (by omega)
              have hp1 := ho1 (by omega)
              have hp2 := ho2 (by omega)
              refine Z_aload_n (n := 80) dX4_builds_79 rfl rfl ?_
              refine Z_iload (n := 82) dX4_builds_80 rfl rfl ?_
              refine Z_bipush (n := 84) dX4_builds_82 rfl (by decide) (by decide) ?_
              refine Z_aload_n (n := 85) dX4_builds_84 rfl rfl ?_
              refine Z_getA (n := 88) dX4_builds_85 rfl ffX4_19 rfl rfl ?_
              refine Z_iconst (n := 89) dX4_builds_88 rfl (by decide) ?_
              refine Z_iload (n := 91) dX4_builds_89 rfl rfl ?_
              refine Z_imul (n := 92) dX4_builds_91 rfl (by omega) ?_
              refine Z_iald (n := 93) dX4_builds_92 rfl rfl rfl (by first | decide | assumption) (by omega) (by omega) (fun r92 s92 => ?_)
              refine Z_iadd (n := 94) dX4_builds_93 rfl (by omega) ?_
              refine Z_bipush (n := 96) dX4_builds_94 rfl (by decide) (by decide) ?_
              refine Z_aload_n (n := 97) dX4_builds_96 rfl rfl ?_
              refine Z_getA (n := 100) dX4_builds_97 rfl ffX4_19 rfl rfl ?_
              refine Z_iconst (n := 101) dX4_builds_100 rfl (by decide) ?_
              refine Z_iload (n := 103) dX4_builds_101 rfl rfl ?_
              refine Z_imul (n := 104) dX4_builds_103 rfl (by omega) ?_
              refine Z_iconst (n := 105) dX4_builds_104 rfl (by decide) ?_
              refine Z_iadd (n := 106) dX4_builds_105 rfl (by omega) ?_
              refine Z_iald (n := 107) dX4_builds_106 rfl rfl rfl (by first | decide | assumption) (by omega) (by omega) (fun r106 s106 => ?_)
              refine Z_iadd (n := 108) dX4_builds_107 rfl (by omega) ?_
              refine Z_bipush (n := 110) dX4_builds_108 rfl (by decide) (by decide) ?_
              refine Z_aload_n (n := 111) dX4_builds_110 rfl rfl ?_
              refine Z_getA (n := 114) dX4_builds_111 rfl ffX4_19 rfl rfl ?_
              refine Z_iconst (n := 115) dX4_builds_114 rfl (by decide) ?_
              refine Z_iload (n := 117) dX4_builds_115 rfl rfl ?_
              refine Z_imul (n := 118) dX4_builds_117 rfl (by omega) ?_
              refine Z_iconst (n := 119) dX4_builds_118 rfl (by decide) ?_
              refine Z_iadd (n := 120) dX4_builds_119 rfl (by omega) ?_
              refine Z_iald (n := 121) dX4_builds_120 rfl rfl rfl (by first | decide | assumption) (by omega) (by omega) (fun r120 s120 => ?_)
              refine Z_iadd (n := 122) dX4_builds_121 rfl (by omega) ?_
              refine Z_callVv (n := 125) [_, _, _, _] _ dX4_builds_122 rfl cwX4_200 rfl rfl rfl (Nat.le_of_ble_eq_true rfl) (by refine ⟨?_, ?_, ?_, ?_⟩ <;> exact Nat.le_of_ble_eq_true rfl) (fun a h => by unfold kRg at h; unfold kBits; omega) (zX4_makeChoice  (by omega) (by omega) (by omega) (by omega) (by omega) (by omega) (by omega) (by omega)) ?_
              intro M122 J122 f122 q122
              obtain ⟨e122_1, vb122, vo122⟩ := q122
              replace e122_1 := e122_1.symm; subst e122_1
              refine Z_goto (t := 197) dX4_builds_125 (by decide) ?_
              refine Z_loc (L' := [some _, some _, some _, some _, some _, some _, none]) (lsub_same (lsub_same (lsub_same (lsub_same (lsub_same (lsub_same (lsub_none lsub_nil))))))) ?_
              exact ct197  _ _ (by first | rfl | assumption) (by first | exact (f61 48 (by decide)).2 | exact (f122 48 (by decide)).2 | exact (f194 48 (by decide)).2) (by first | exact vo61 | exact vo122 | exact vo194)
          · have hv := hgt.2 c46
            refine Z_aload_n (n := 50) dX4_builds_49 rfl rfl ?_
            refine Z_iload (n := 52) dX4_builds_50 rfl rfl ?_
            refine Z_aload_n (n := 53) dX4_builds_52 rfl rfl ?_
            refine Z_getA (n := 56) dX4_builds_53 rfl ffX4_19 rfl rfl ?_
            refine Z_iconst (n := 57) dX4_builds_56 rfl (by decide) ?_
            refine Z_iload (n := 59) dX4_builds_57 rfl rfl ?_
            refine Z_imul (n := 60) dX4_builds_59 rfl (by omega) ?_
            refine Z_iald (n := 61) dX4_builds_60 rfl rfl rfl (by first | decide | assumption) (by omega) (by omega) (fun r60 s60 => ?_)
            refine Z_callVv (n := 64) [_, _] _ dX4_builds_61 rfl cwX4_197 rfl rfl rfl (Nat.le_of_ble_eq_true rfl) (by refine ⟨?_, ?_, ?_, ?_⟩ <;> exact Nat.le_of_ble_eq_true rfl) (fun a h => by unfold kRg at h; unfold kBits; omega) (zX4_makeVariable  (by omega) (by omega) (by omega) (by omega)) ?_
            intro M61 J61 f61 q61
            obtain ⟨e61_1, vb61, vo61⟩ := q61
            replace e61_1 := e61_1.symm; subst e61_1
            refine Z_goto (t := 197) dX4_builds_64 (by decide) ?_
            refine Z_loc (L' := [some _, some _, some _, some _, some _, some _, none]) (lsub_same (lsub_same (lsub_same (lsub_same (lsub_same (lsub_same (lsub_none lsub_nil))))))) ?_
            exact ct197  _ _ (by first | rfl | assumption) (by first | exact (f61 48 (by decide)).2 | exact (f122 48 (by decide)).2 | exact (f194 48 (by decide)).2) (by first | exact vo61 | exact vo122 | exact vo194)
        · have b2 := i8_2
          have b3 := i8_3
          have b4 := i8_4
          have b5 := i8_5
          have b7 := i8_7
          have b8 := i8_8
          have b6 : M8 31 27 ≤ M 31 27 + (k + 1) := by omega
          have b9 := bdI_skip i8_9 i8_3 c19
          have b10 : k + 1 = g + 1 → ¬ M8 43 (12 + g) = 0 := fun q => by
            rw [show k = g by omega] at c19
            exact absurd c19 i8_3.1
          refine Z_goto (t := 253) dX4_builds_22 (by decide) ?_
          refine Z_iinc (L' := [_, _, _, _, _, _, _]) (n := 256) dX4_builds_253 rfl rfl (by decide) rfl rfl (by omega) rfl ?_
          refine Z_goto (t := 8) dX4_builds_256 (by decide) ?_
          refine Z_loc (L' := [some _, some _, some _, some _, none, none, none]) (lsub_same (lsub_same (lsub_same (lsub_same (lsub_none (lsub_none (lsub_none lsub_nil))))))) ?_
          exact ih8 _ _ _ (by omega) (by first | assumption | omega | decide) (by first | assumption | omega | decide) (by exact b2) (by exact b3) (by exact b4) (by exact b5) (by exact b6) (by exact b7) (by exact b8) (by exact b9) (by exact b10)
  refine Z_loc (L' := [some _, some _, some _, some _, none, none, none]) (lsub_same (lsub_same (lsub_same (lsub_same (lsub_none (lsub_none (lsub_none lsub_nil))))))) ?_
  exact lp8 _ _ _ _ (Nat.lt_succ_self _) (by first | assumption | omega | decide) (by first | assumption | omega | decide) (by exact ti3) (by exact nd3) (by exact hd3) (by exact us3) (by exact mk3) (by exact hi3) (by exact bi3) (by exact bd3) (by exact fun q => by omega)
