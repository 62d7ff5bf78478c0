/-! ===== the reference: equal, gives ===== -/
theorem TI_cg {M M' : zM} {J J' : zJ} (h : TI M J) (o : ∀ a : Nat, 43 ≤ a → a ≤ 52 → M' a = M a) (e23 : M' 31 23 = M 31 23) (e24 : M' 31 24 = M 31 24) (e27 : M' 31 27 = M 31 27) (j44 : J' 44 = J 44) (j48 : J' 48 = J 48) : TI M' J' := by
  have e43 := o 43 (by omega) (by omega)
  have e45 := o 45 (by omega) (by omega)
  have e46 := o 46 (by omega) (by omega)
  have e47 := o 47 (by omega) (by omega)
  have e49 := o 49 (by omega) (by omega)
  have e50 := o 50 (by omega) (by omega)
  have e51 := o 51 (by omega) (by omega)
  have e52 := o 52 (by omega) (by omega)
  obtain ⟨⟨ch, fl, t1⟩, t2, t3, t4, tu⟩ := h
  refine ⟨⟨ch, fl, ?_⟩, ⟨fun n n0 n1 => ?_, fun g g0 g1 => ?_⟩, fun g g0 g1 hg => ?_, fun n n0 n1 => ?_, tabU_mv tu (fun m hm => by rw [e49] at hm; exact hm) e47 j48⟩
  · refine tabA_J j48 ?_
    unfold tabA
    rw [e47, e49, e50, e51, e23, e24]
    exact t1
  · rw [e49, t2.1 n n0 n1]
    exact cfn_congr (fun g _ _ => by unfold inS; rw [e43, e45, e46])
  · rw [e43, e45, e46]; exact t2.2 g g0 g1
  · rw [e43] at hg
    exact tabC_mv (t3 g g0 g1 hg) (by rw [e45]) e46 e47 j48 j44
  · rw [e52, e27]; exact t4 n n0 n1
def cmF (k a b : Int) : Int := if k = 1 then 0 else if k = 2 then 1 else if k = 3 then 1 - a else if k = 4 then (if a = 0 then 0 else b) else if k = 5 then (if a = 0 then b else 1) else if k = 6 then (if a = b then 0 else 1) else if k = 7 then (if a = 0 then 1 else 1 - b) else if k = 8 then (if a = 0 then 1 - b else 0) else (if a = b then 1 else 0)
abbrev kOn (a : Nat) : Prop := ¬ a = 37
set_option maxRecDepth 20000 in
theorem zX4_combined {G : tl_G} {M : zM} {J : zJ} {k a b : Int} (a0 : 0 ≤ a) (a1 : a ≤ 1) (b0 : 0 ≤ b) (b1 : b ≤ 1) : ZN G yX4_combined mX4_combined 0 kAll [vI k, vI a, vI b] F1 M J (qI (fun x M' J' => M' = M ∧ J' = J ∧ x = cmF k a b ∧ 0 ≤ x ∧ x ≤ 1)) := by
  refine ZN_of (L := [_, _, _]) (by decide) rfl rfl (Nat.le_of_ble_eq_true rfl) rfl (fun hav => ?_)
  refine Z_iload_n (n := 1) dX4_combined_0 rfl rfl ?_
  refine Z_tsw (td := 129) dX4_combined_1 rfl (by decide) (by decide) ?_ (fun c1 => ?_)
  · refine zcases_cons (fun c1 t ht => ?_) ?_
    · obtain rfl : t = 48 := by omega
      refine Z_iconst (n := 49) dX4_combined_48 rfl (by decide) ?_
      refine Z_zret dX4_combined_49 rfl (by first | assumption | omega | decide) (by first | assumption | omega | decide) ?_
      refine ⟨rfl, rfl, ?_, by decide, by decide⟩
      unfold cmF
      (repeat first | rw [if_neg (by omega)] | rw [if_pos (by omega)]) <;> omega
    refine zcases_cons (fun c1 t ht => ?_) ?_
    · obtain rfl : t = 50 := by omega
      refine Z_iconst (n := 51) dX4_combined_50 rfl (by decide) ?_
      refine Z_zret dX4_combined_51 rfl (by first | assumption | omega | decide) (by first | assumption | omega | decide) ?_
      refine ⟨rfl, rfl, ?_, by decide, by decide⟩
      unfold cmF
      (repeat first | rw [if_neg (by omega)] | rw [if_pos (by omega)]) <;> omega
    refine zcases_cons (fun c1 t ht => ?_) ?_
    · obtain rfl : t = 52 := by omega
      refine Z_iload_n (n := 53) dX4_combined_52 rfl rfl ?_
      refine Z_if_ne (n := 56) (t := 60) dX4_combined_53 rfl (by decide) (fun c53 => ?_) (fun c53 => ?_)
      · refine Z_iconst (n := 61) dX4_combined_60 rfl (by decide) ?_
        refine Z_zret dX4_combined_61 rfl (by first | assumption | omega | decide) (by first | assumption | omega | decide) ?_
        refine ⟨rfl, rfl, ?_, by decide, by decide⟩
        unfold cmF
        (repeat first | rw [if_neg (by omega)] | rw [if_pos (by omega)]) <;> omega
      · refine Z_iconst (n := 57) dX4_combined_56 rfl (by decide) ?_
        refine Z_goto (t := 61) dX4_combined_57 (by decide) ?_
        refine Z_zret dX4_combined_61 rfl (by first | assumption | omega | decide) (by first | assumption | omega | decide) ?_
        refine ⟨rfl, rfl, ?_, by decide, by decide⟩
        unfold cmF
        (repeat first | rw [if_neg (by omega)] | rw [if_pos (by omega)]) <;> omega
    refine zcases_cons (fun c1 t ht => ?_) ?_
    · obtain rfl : t = 62 := by omega
      refine Z_iload_n (n := 63) dX4_combined_62 rfl rfl ?_
      refine Z_if_eq (n := 66) (t := 74) dX4_combined_63 rfl (by decide) (fun c63 => ?_) (fun c63 => ?_)
      · refine Z_iconst (n := 75) dX4_combined_74 rfl (by decide) ?_
        refine Z_zret dX4_combined_75 rfl (by first | assumption | omega | decide) (by first | assumption | omega | decide) ?_
        refine ⟨rfl, rfl, ?_, by decide, by decide⟩
        unfold cmF
        (repeat first | rw [if_neg (by omega)] | rw [if_pos (by omega)]) <;> omega
      · refine Z_iload_n (n := 67) dX4_combined_66 rfl rfl ?_
        refine Z_if_eq (n := 70) (t := 74) dX4_combined_67 rfl (by decide) (fun c67 => ?_) (fun c67 => ?_)
        · refine Z_iconst (n := 75) dX4_combined_74 rfl (by decide) ?_
          refine Z_zret dX4_combined_75 rfl (by first | assumption | omega | decide) (by first | assumption | omega | decide) ?_
          refine ⟨rfl, rfl, ?_, by decide, by decide⟩
          unfold cmF
          (repeat first | rw [if_neg (by omega)] | rw [if_pos (by omega)]) <;> omega
        · refine Z_iconst (n := 71) dX4_combined_70 rfl (by decide) ?_
          refine Z_goto (t := 75) dX4_combined_71 (by decide) ?_
          refine Z_zret dX4_combined_75 rfl (by first | assumption | omega | decide) (by first | assumption | omega | decide) ?_
          refine ⟨rfl, rfl, ?_, by decide, by decide⟩
          unfold cmF
          (repeat first | rw [if_neg (by omega)] | rw [if_pos (by omega)]) <;> omega
    refine zcases_cons (fun c1 t ht => ?_) ?_
    · obtain rfl : t = 76 := by omega
      refine Z_iload_n (n := 77) dX4_combined_76 rfl rfl ?_
      refine Z_if_ne (n := 80) (t := 84) dX4_combined_77 rfl (by decide) (fun c77 => ?_) (fun c77 => ?_)
      · refine Z_iconst (n := 85) dX4_combined_84 rfl (by decide) ?_
        refine Z_goto (t := 89) dX4_combined_85 (by decide) ?_
        refine Z_zret dX4_combined_89 rfl (by first | assumption | omega | decide) (by first | assumption | omega | decide) ?_
        refine ⟨rfl, rfl, ?_, by decide, by decide⟩
        unfold cmF
        (repeat first | rw [if_neg (by omega)] | rw [if_pos (by omega)]) <;> omega
      · refine Z_iload_n (n := 81) dX4_combined_80 rfl rfl ?_
        refine Z_if_eq (n := 84) (t := 88) dX4_combined_81 rfl (by decide) (fun c81 => ?_) (fun c81 => ?_)
        · refine Z_iconst (n := 89) dX4_combined_88 rfl (by decide) ?_
          refine Z_zret dX4_combined_89 rfl (by first | assumption | omega | decide) (by first | assumption | omega | decide) ?_
          refine ⟨rfl, rfl, ?_, by decide, by decide⟩
          unfold cmF
          (repeat first | rw [if_neg (by omega)] | rw [if_pos (by omega)]) <;> omega
        · refine Z_iconst (n := 85) dX4_combined_84 rfl (by decide) ?_
          refine Z_goto (t := 89) dX4_combined_85 (by decide) ?_
          refine Z_zret dX4_combined_89 rfl (by first | assumption | omega | decide) (by first | assumption | omega | decide) ?_
          refine ⟨rfl, rfl, ?_, by decide, by decide⟩
          unfold cmF
          (repeat first | rw [if_neg (by omega)] | rw [if_pos (by omega)]) <;> omega
    refine zcases_cons (fun c1 t ht => ?_) ?_
    · obtain rfl : t = 90 := by omega
      refine Z_iload_n (n := 91) dX4_combined_90 rfl rfl ?_
      refine Z_iload_n (n := 92) dX4_combined_91 rfl rfl ?_
      refine Z_icmp_eq (n := 95) (t := 99) dX4_combined_92 rfl (by decide) (fun c92 => ?_) (fun c92 => ?_)
      · refine Z_iconst (n := 100) dX4_combined_99 rfl (by decide) ?_
        refine Z_zret dX4_combined_100 rfl (by first | assumption | omega | decide) (by first | assumption | omega | decide) ?_
        refine ⟨rfl, rfl, ?_, by decide, by decide⟩
        unfold cmF
        (repeat first | rw [if_neg (by omega)] | rw [if_pos (by omega)]) <;> omega
      · refine Z_iconst (n := 96) dX4_combined_95 rfl (by decide) ?_
        refine Z_goto (t := 100) dX4_combined_96 (by decide) ?_
        refine Z_zret dX4_combined_100 rfl (by first | assumption | omega | decide) (by first | assumption | omega | decide) ?_
        refine ⟨rfl, rfl, ?_, by decide, by decide⟩
        unfold cmF
        (repeat first | rw [if_neg (by omega)] | rw [if_pos (by omega)]) <;> omega
    refine zcases_cons (fun c1 t ht => ?_) ?_
    · obtain rfl : t = 101 := by omega
      refine Z_iload_n (n := 102) dX4_combined_101 rfl rfl ?_
      refine Z_if_eq (n := 105) (t := 109) dX4_combined_102 rfl (by decide) (fun c102 => ?_) (fun c102 => ?_)
      · refine Z_iconst (n := 110) dX4_combined_109 rfl (by decide) ?_
        refine Z_goto (t := 114) dX4_combined_110 (by decide) ?_
        refine Z_zret dX4_combined_114 rfl (by first | assumption | omega | decide) (by first | assumption | omega | decide) ?_
        refine ⟨rfl, rfl, ?_, by decide, by decide⟩
        unfold cmF
        (repeat first | rw [if_neg (by omega)] | rw [if_pos (by omega)]) <;> omega
      · refine Z_iload_n (n := 106) dX4_combined_105 rfl rfl ?_
        refine Z_if_ne (n := 109) (t := 113) dX4_combined_106 rfl (by decide) (fun c106 => ?_) (fun c106 => ?_)
        · refine Z_iconst (n := 114) dX4_combined_113 rfl (by decide) ?_
          refine Z_zret dX4_combined_114 rfl (by first | assumption | omega | decide) (by first | assumption | omega | decide) ?_
          refine ⟨rfl, rfl, ?_, by decide, by decide⟩
          unfold cmF
          (repeat first | rw [if_neg (by omega)] | rw [if_pos (by omega)]) <;> omega
        · refine Z_iconst (n := 110) dX4_combined_109 rfl (by decide) ?_
          refine Z_goto (t := 114) dX4_combined_110 (by decide) ?_
          refine Z_zret dX4_combined_114 rfl (by first | assumption | omega | decide) (by first | assumption | omega | decide) ?_
          refine ⟨rfl, rfl, ?_, by decide, by decide⟩
          unfold cmF
          (repeat first | rw [if_neg (by omega)] | rw [if_pos (by omega)]) <;> omega
    refine zcases_cons (fun c1 t ht => ?_) ?_
    · obtain rfl : t = 115 := by omega
      refine Z_iload_n (n := 116) dX4_combined_115 rfl rfl ?_
      refine Z_if_ne (n := 119) (t := 127) dX4_combined_116 rfl (by decide) (fun c116 => ?_) (fun c116 => ?_)
      · refine Z_iconst (n := 128) dX4_combined_127 rfl (by decide) ?_
        refine Z_zret dX4_combined_128 rfl (by first | assumption | omega | decide) (by first | assumption | omega | decide) ?_
        refine ⟨rfl, rfl, ?_, by decide, by decide⟩
        unfold cmF
        (repeat first | rw [if_neg (by omega)] | rw [if_pos (by omega)]) <;> omega
      · refine Z_iload_n (n := 120) dX4_combined_119 rfl rfl ?_
        refine Z_if_ne (n := 123) (t := 127) dX4_combined_120 rfl (by decide) (fun c120 => ?_) (fun c120 => ?_)
        · refine Z_iconst (n := 128) dX4_combined_127 rfl (by decide) ?_
          refine Z_zret dX4_combined_128 rfl (by first | assumption | omega | decide) (by first | assumption | omega | decide) ?_
          refine ⟨rfl, rfl, ?_, by decide, by decide⟩
          unfold cmF
          (repeat first | rw [if_neg (by omega)] | rw [if_pos (by omega)]) <;> omega
        · refine Z_iconst (n := 124) dX4_combined_123 rfl (by decide) ?_
          refine Z_goto (t := 128) dX4_combined_124 (by decide) ?_
          refine Z_zret dX4_combined_128 rfl (by first | assumption | omega | decide) (by first | assumption | omega | decide) ?_
          refine ⟨rfl, rfl, ?_, by decide, by decide⟩
          unfold cmF
          (repeat first | rw [if_neg (by omega)] | rw [if_pos (by omega)]) <;> omega
    exact zcases_nil
  · refine Z_iload_n (n := 130) dX4_combined_129 rfl rfl ?_
    refine Z_iload_n (n := 131) dX4_combined_130 rfl rfl ?_
    refine Z_icmp_ne (n := 134) (t := 138) dX4_combined_131 rfl (by decide) (fun c131 => ?_) (fun c131 => ?_)
    · refine Z_iconst (n := 139) dX4_combined_138 rfl (by decide) ?_
      refine Z_zret dX4_combined_139 rfl (by first | assumption | omega | decide) (by first | assumption | omega | decide) ?_
      refine ⟨rfl, rfl, ?_, by decide, by decide⟩
      unfold cmF
      (repeat first | rw [if_neg (by omega)] | rw [if_pos (by omega)]) <;> omega
    · refine Z_iconst (n := 135) dX4_combined_134 rfl (by decide) ?_
      refine Z_goto (t := 139) dX4_combined_135 (by decide) ?_
      refine Z_zret dX4_combined_139 rfl (by first | assumption | omega | decide) (by first | assumption | omega | decide) ?_
      refine ⟨rfl, rfl, ?_, by decide, by decide⟩
      unfold cmF
      (repeat first | rw [if_neg (by omega)] | rw [if_pos (by omega)]) <;> omega
set_option maxRecDepth 20000 in
theorem zX4_gives_s {G : tl_G} {M : zM} {J : zJ} {net o a : Int} (hN : ∀ net : Int, 0 ≤ net → net < 3 → rNt M net) : ZN G yX4_gives mX4_gives 4 kOn [vR 31, vI net, vI o, vI a] F1 M J (qI (fun x M' J' => J' = J)) := by
  refine ZN_of (L := [_, _, _, _, _, _, _, _, _, _]) (by decide) rfl rfl (Nat.le_of_ble_eq_true rfl) rfl (fun hav => ?_)
  refine Z_aload_n (n := 1) dX4_gives_0 rfl rfl ?_
  refine Z_iload_n (n := 2) dX4_gives_1 rfl rfl ?_
  refine Z_iload_n (n := 3) dX4_gives_2 rfl rfl ?_
  refine Z_callVi (n := 6) [_, _] _ dX4_gives_3 rfl cwX4_128 rfl rfl rfl (Nat.le_of_ble_eq_true rfl) (by refine ⟨?_, ?_, ?_, ?_⟩ <;> exact Nat.le_of_ble_eq_true rfl) (fun _ _ => trivial) (zX4_isOutput  ) ?_
  intro x3 M3 J3 z3 f3 q3
  obtain ⟨e3_1, e3_2, h3⟩ := q3
  replace e3_1 := e3_1.symm; subst e3_1
  replace e3_2 := e3_2.symm; subst e3_2
  refine Z_if_ne (n := 9) (t := 11) dX4_gives_6 rfl (by decide) (fun c6 => ?_) (fun c6 => ?_)
  · refine Z_rg 33 net rfl (fun g33 g33b => ?_)
    refine Z_rg 32 net rfl (fun g32 g32b => ?_)
    have hNn := hN net (by omega) (by omega)
    refine Z_iload_n (n := 12) dX4_gives_11 rfl rfl ?_
    refine Z_iconst (n := 13) dX4_gives_12 rfl (by decide) ?_
    refine Z_sipush (n := 16) dX4_gives_13 rfl (by decide) (by decide) ?_
    refine Z_callSi (n := 19) [_, _, _] _ dX4_gives_16 rfl cwX4_112 rfl rfl (Nat.le_of_ble_eq_true rfl) (by refine ⟨?_, ?_, ?_, ?_⟩ <;> exact Nat.le_of_ble_eq_true rfl) (fun _ _ => trivial) (zX4_in  ) ?_
    intro x16 M16 J16 z16 f16 q16
    obtain ⟨e16_1, e16_2, h16⟩ := q16
    replace e16_1 := e16_1.symm; subst e16_1
    replace e16_2 := e16_2.symm; subst e16_2
    refine Z_if_ne (n := 22) (t := 25) dX4_gives_19 rfl (by decide) (fun c19 => ?_) (fun c19 => ?_)
    · refine Z_iconst (n := 26) dX4_gives_25 rfl (by decide) ?_
      refine Z_istore (L' := [_, _, _, _, _, _, _, _, _, _]) (n := 28) dX4_gives_26 rfl (by decide) rfl rfl ?_
      have lp28 : ∀ (N28 : Nat) (g : Int) (M28 : zM) (J28 : zJ), ((M 32 net - g).toNat) < N28 → (J28 = J) → (0 ≤ g) → (g ≤ M 32 net) → TZ G mX4_gives (tl_rm 4 0 0) 0 0 kOn M J 28 [some (vR 31), some (vI net), some (vI o), some (vI a), some (vI g), none, none, none, none, none] [] F1 M28 J28 (ZM G (zPost G kOn F1 M J (qI (fun x M' J' => J' = J))) 0 0) := by
        intro N28
        induction N28 with
        | zero => intro g M28 J28 hN; omega
        | succ N28 ih28 =>
          intro g M28 J28 hN28 i28_0 i28_1 i28_2
          refine Z_iload (n := 30) dX4_gives_28 rfl rfl ?_
          refine Z_aload_n (n := 31) dX4_gives_30 rfl rfl ?_
          refine Z_getA (n := 34) dX4_gives_31 rfl ffX4_7 rfl rfl ?_
          refine Z_fr (fun fr28 => ?_)
          have e32 : M28 32 net = M 32 net := congrFun (fr28 32 (by decide)).1 net
          refine Z_iload_n (n := 35) dX4_gives_34 rfl rfl ?_
          refine Z_iald (n := 36) dX4_gives_35 rfl rfl rfl (by first | decide | assumption) (by omega) (by omega) (fun r35 s35 => ?_)
          refine Z_icmp_ge (n := 39) (t := 213) dX4_gives_36 rfl (by decide) (fun c36 => ?_) (fun c36 => ?_)
          · refine Z_aload_n (n := 214) dX4_gives_213 rfl rfl ?_
            refine Z_getA (n := 217) dX4_gives_214 rfl ffX4_25 rfl rfl ?_
            refine Z_aload_n (n := 218) dX4_gives_217 rfl rfl ?_
            refine Z_getA (n := 221) dX4_gives_218 rfl ffX4_22 rfl rfl ?_
            refine Z_iconst (n := 222) dX4_gives_221 rfl (by decide) ?_
            refine Z_iload_n (n := 223) dX4_gives_222 rfl rfl ?_
            refine Z_imul (n := 224) dX4_gives_223 rfl (by omega) ?_
            refine Z_iload_n (n := 225) dX4_gives_224 rfl rfl ?_
            refine Z_iadd (n := 226) dX4_gives_225 rfl (by omega) ?_
            refine Z_iald (n := 227) dX4_gives_226 rfl rfl rfl (by first | decide | assumption) (by omega) (by omega) (fun r226 s226 => ?_)
            refine Z_zald (n := 228) dX4_gives_227 rfl rfl rfl (by first | decide | assumption) (by omega) (by omega) (fun r227 s227 => ?_)
            refine Z_if_eq (n := 231) (t := 235) dX4_gives_228 rfl (by decide) (fun c228 => ?_) (fun c228 => ?_)
            · refine Z_iconst (n := 236) dX4_gives_235 rfl (by decide) ?_
              refine Z_iret dX4_gives_236 rfl ?_
              assumption
            · refine Z_iconst (n := 232) dX4_gives_231 rfl (by decide) ?_
              refine Z_goto (t := 236) dX4_gives_232 (by decide) ?_
              refine Z_iret dX4_gives_236 rfl ?_
              assumption
          · have hNg : rNt M28 net := rNt_fr hNn (fr28 32 (by decide)).1 (fr28 33 (by decide)).1 (fr28 34 (by decide)).1 (fr28 35 (by decide)).1 (fr28 36 (by decide)).1
            have hgt := hNg.1 g (by omega) (by omega)
            have ho0 : opF (M28 34 (40 * net + g)) > 0 → 0 ≤ M28 35 (3 * (40 * net + g)) ∧ M28 35 (3 * (40 * net + g)) < g := fun q => by
              have z := hgt.1 0 (by omega) (by omega)
              rw [Int.add_zero] at z
              exact z
            have ho1 := hgt.1 1 (by omega)
            have ho2 := hgt.1 2 (by omega)
            refine Z_bipush (n := 41) dX4_gives_39 rfl (by decide) (by decide) ?_
            refine Z_iload_n (n := 42) dX4_gives_41 rfl rfl ?_
            refine Z_imul (n := 43) dX4_gives_42 rfl (by omega) ?_
            refine Z_iload (n := 45) dX4_gives_43 rfl rfl ?_
            refine Z_iadd (n := 46) dX4_gives_45 rfl (by omega) ?_
            refine Z_istore (L' := [_, _, _, _, _, _, _, _, _, _]) (n := 48) dX4_gives_46 rfl (by decide) rfl rfl ?_
            refine Z_aload_n (n := 49) dX4_gives_48 rfl rfl ?_
            refine Z_getA (n := 52) dX4_gives_49 rfl ffX4_16 rfl rfl ?_
            refine Z_iload (n := 54) dX4_gives_52 rfl rfl ?_
            refine Z_iald (n := 55) dX4_gives_54 rfl rfl rfl (by first | decide | assumption) (by omega) (by omega) (fun r54 s54 => ?_)
            refine Z_istore (L' := [_, _, _, _, _, _, _, _, _, _]) (n := 57) dX4_gives_55 rfl (by decide) rfl rfl ?_
            refine Z_iload (n := 59) dX4_gives_57 rfl rfl ?_
            refine Z_callSi (n := 62) [_] _ dX4_gives_59 rfl cwX4_120 rfl rfl (Nat.le_of_ble_eq_true rfl) (by refine ⟨?_, ?_, ?_, ?_⟩ <;> exact Nat.le_of_ble_eq_true rfl) (fun _ _ => trivial) (zX4_wants  ) ?_
            intro x59 M59 J59 z59 f59 q59
            obtain ⟨e59_1, e59_2, h59⟩ := q59
            replace e59_1 := e59_1.symm; subst e59_1
            replace e59_2 := e59_2.symm; subst e59_2
            have ct206 : ∀ (q p r : Int) , (0 ≤ q) → (q ≤ 1) → TZ G mX4_gives (tl_rm 4 0 0) 0 0 kOn M J 206 [some (vR 31), some (vI net), some (vI o), some (vI a), some (vI g), none, none, none, some (vI p), some (vI r)] [vI q, vI g, vR 37] F1 M28 J28 (ZM G (zPost G kOn F1 M J (qI (fun x M' J' => J' = J))) 0 0) := by
              intro q p r  i206_0 i206_1
              refine Z_zast (n := 207) dX4_gives_206 rfl rfl rfl (by first | decide | assumption) (by omega) (by omega) (by first | assumption | omega | decide) (by first | assumption | omega | decide) (by decide) ?_
              refine Z_iinc (L' := [_, _, _, _, _, _, _, _, _, _]) (n := 210) dX4_gives_207 rfl rfl (by decide) rfl rfl (by omega) rfl ?_
              refine Z_goto (t := 28) dX4_gives_210 (by decide) ?_
              refine Z_loc (L' := [some _, some _, some _, some _, some _, none, none, none, none, none]) (lsub_same (lsub_same (lsub_same (lsub_same (lsub_same (lsub_none (lsub_none (lsub_none (lsub_none (lsub_none lsub_nil)))))))))) ?_
              exact ih28 _ _ _ (by omega) (by first | rfl | assumption) (by first | assumption | omega | decide) (by first | assumption | omega | decide)
            have ct125 : ∀ (p r : Int) , (0 ≤ p) → (p ≤ 1) → (0 ≤ r) → (r ≤ 1) → TZ G mX4_gives (tl_rm 4 0 0) 0 0 kOn M J 125 [some (vR 31), some (vI net), some (vI o), some (vI a), some (vI g), some (vI (40 * net + g)), some (vI (M28 34 (40 * net + g))), some (vI x59), some (vI p), some (vI r)] [] F1 M28 J28 (ZM G (zPost G kOn F1 M J (qI (fun x M' J' => J' = J))) 0 0) := by
              intro p r  i125_0 i125_1 i125_2 i125_3
              refine Z_aload_n (n := 126) dX4_gives_125 rfl rfl ?_
              refine Z_getA (n := 129) dX4_gives_126 rfl ffX4_25 rfl rfl ?_
              refine Z_iload (n := 131) dX4_gives_129 rfl rfl ?_
              refine Z_iload (n := 133) dX4_gives_131 rfl rfl ?_
              refine Z_if_ne (n := 136) (t := 161) dX4_gives_133 rfl (by decide) (fun c133 => ?_) (fun c133 => ?_)
              · refine Z_iload (n := 163) dX4_gives_161 rfl rfl ?_
                refine Z_bipush (n := 165) dX4_gives_163 rfl (by decide) (by decide) ?_
                refine Z_icmp_ne (n := 168) (t := 197) dX4_gives_165 rfl (by decide) (fun c165 => ?_) (fun c165 => ?_)
                · refine Z_iload (n := 199) dX4_gives_197 rfl rfl ?_
                  refine Z_iload (n := 201) dX4_gives_199 rfl rfl ?_
                  refine Z_iload (n := 203) dX4_gives_201 rfl rfl ?_
                  refine Z_callSi (n := 206) [_, _, _] _ dX4_gives_203 rfl cwX4_131 rfl rfl (Nat.le_of_ble_eq_true rfl) (by refine ⟨?_, ?_, ?_, ?_⟩ <;> exact Nat.le_of_ble_eq_true rfl) (fun _ _ => trivial) (zX4_combined  (by first | assumption | omega | decide) (by first | assumption | omega | decide) (by first | assumption | omega | decide) (by first | assumption | omega | decide)) ?_
                  intro x203 M203 J203 z203 f203 q203
                  obtain ⟨e203_1, e203_2, h203, l203, u203⟩ := q203
                  replace e203_1 := e203_1.symm; subst e203_1
                  replace e203_2 := e203_2.symm; subst e203_2
                  refine Z_loc (L' := [some _, some _, some _, some _, some _, none, none, none, some _, some _]) (lsub_same (lsub_same (lsub_same (lsub_same (lsub_same (lsub_none (lsub_none (lsub_none (lsub_same (lsub_same lsub_nil)))))))))) ?_
                  exact ct206 _ _ _  (by first | assumption | omega | decide) (by first | assumption | omega | decide)
                · refine Z_iload (n := 170) dX4_gives_168 rfl rfl ?_
                  refine Z_if_eq (n := 173) (t := 178) dX4_gives_170 rfl (by decide) (fun c170 => ?_) (fun c170 => ?_)
                  · have hq3 : opF (M28 34 (40 * net + g)) = 3 := by rw [c165]; rfl
                    have hp2 := ho2 (by omega)
                    refine Z_aload_n (n := 179) dX4_gives_178 rfl rfl ?_
                    refine Z_getA (n := 182) dX4_gives_179 rfl ffX4_25 rfl rfl ?_
                    refine Z_aload_n (n := 183) dX4_gives_182 rfl rfl ?_
                    refine Z_getA (n := 186) dX4_gives_183 rfl ffX4_19 rfl rfl ?_
                    refine Z_iconst (n := 187) dX4_gives_186 rfl (by decide) ?_
                    refine Z_iload (n := 189) dX4_gives_187 rfl rfl ?_
                    refine Z_imul (n := 190) dX4_gives_189 rfl (by omega) ?_
                    refine Z_iconst (n := 191) dX4_gives_190 rfl (by decide) ?_
                    refine Z_iadd (n := 192) dX4_gives_191 rfl (by omega) ?_
                    refine Z_iald (n := 193) dX4_gives_192 rfl rfl rfl (by first | decide | assumption) (by omega) (by omega) (fun r192 s192 => ?_)
                    refine Z_zald (n := 194) dX4_gives_193 rfl rfl rfl (by first | decide | assumption) (by omega) (by omega) (fun r193 s193 => ?_)
                    refine Z_goto (t := 206) dX4_gives_194 (by decide) ?_
                    refine Z_loc (L' := [some _, some _, some _, some _, some _, none, none, none, some _, some _]) (lsub_same (lsub_same (lsub_same (lsub_same (lsub_same (lsub_none (lsub_none (lsub_none (lsub_same (lsub_same lsub_nil)))))))))) ?_
                    exact ct206 _ _ _  (by first | assumption | omega | decide) (by first | assumption | omega | decide)
                  · refine Z_iload (n := 175) dX4_gives_173 rfl rfl ?_
                    refine Z_goto (t := 206) dX4_gives_175 (by decide) ?_
                    refine Z_loc (L' := [some _, some _, some _, some _, some _, none, none, none, some _, some _]) (lsub_same (lsub_same (lsub_same (lsub_same (lsub_same (lsub_none (lsub_none (lsub_none (lsub_same (lsub_same lsub_nil)))))))))) ?_
                    exact ct206 _ _ _  (by first | assumption | omega | decide) (by first | assumption | omega | decide)
              · refine Z_iload_n (n := 137) dX4_gives_136 rfl rfl ?_
                refine Z_aload_n (n := 138) dX4_gives_137 rfl rfl ?_
                refine Z_getA (n := 141) dX4_gives_138 rfl ffX4_19 rfl rfl ?_
                refine Z_iconst (n := 142) dX4_gives_141 rfl (by decide) ?_
                refine Z_iload (n := 144) dX4_gives_142 rfl rfl ?_
                refine Z_imul (n := 145) dX4_gives_144 rfl (by omega) ?_
                refine Z_iald (n := 146) dX4_gives_145 rfl rfl rfl (by first | decide | assumption) (by omega) (by omega) (fun r145 s145 => ?_)
                refine Z_ishr (n := 147) dX4_gives_146 rfl ?_
                refine Z_iconst (n := 148) dX4_gives_147 rfl (by decide) ?_
                refine Z_iand (n := 149) dX4_gives_148 rfl ?_
                refine Z_iconst (n := 150) dX4_gives_149 rfl (by decide) ?_
                refine Z_icmp_ne (n := 153) (t := 157) dX4_gives_150 rfl (by decide) (fun c150 => ?_) (fun c150 => ?_)
                · refine Z_iconst (n := 158) dX4_gives_157 rfl (by decide) ?_
                  refine Z_goto (t := 206) dX4_gives_158 (by decide) ?_
                  refine Z_loc (L' := [some _, some _, some _, some _, some _, none, none, none, some _, some _]) (lsub_same (lsub_same (lsub_same (lsub_same (lsub_same (lsub_none (lsub_none (lsub_none (lsub_same (lsub_same lsub_nil)))))))))) ?_
                  exact ct206 _ _ _  (by first | assumption | omega | decide) (by first | assumption | omega | decide)
                · refine Z_iconst (n := 154) dX4_gives_153 rfl (by decide) ?_
                  refine Z_goto (t := 206) dX4_gives_154 (by decide) ?_
                  refine Z_loc (L' := [some _, some _, some _, some _, some _, none, none, none, some _, some _]) (lsub_same (lsub_same (lsub_same (lsub_same (lsub_same (lsub_none (lsub_none (lsub_none (lsub_same (lsub_same lsub_nil)))))))))) ?_
                  exact ct206 _ _ _  (by first | assumption | omega | decide) (by first | assumption | omega | decide)
            have ct93 : ∀ (p : Int) , (0 ≤ p) → (p ≤ 1) → TZ G mX4_gives (tl_rm 4 0 0) 0 0 kOn M J 93 [some (vR 31), some (vI net), some (vI o), some (vI a), some (vI g), some (vI (40 * net + g)), some (vI (M28 34 (40 * net + g))), some (vI x59), some (vI p), none] [] F1 M28 J28 (ZM G (zPost G kOn F1 M J (qI (fun x M' J' => J' = J))) 0 0) := by
              intro p  i93_0 i93_1
              refine Z_iload (n := 95) dX4_gives_93 rfl rfl ?_
              refine Z_iconst (n := 96) dX4_gives_95 rfl (by decide) ?_
              refine Z_icmp_le (n := 99) (t := 122) dX4_gives_96 rfl (by decide) (fun c96 => ?_) (fun c96 => ?_)
              · refine Z_iconst (n := 123) dX4_gives_122 rfl (by decide) ?_
                refine Z_istore (L' := [_, _, _, _, _, _, _, _, _, _]) (n := 125) dX4_gives_123 rfl (by decide) rfl rfl ?_
                refine Z_loc (L' := [some _, some _, some _, some _, some _, some _, some _, some _, some _, some _]) (lsub_same (lsub_same (lsub_same (lsub_same (lsub_same (lsub_same (lsub_same (lsub_same (lsub_same (lsub_same lsub_nil)))))))))) ?_
                exact ct125 _ _  (by first | assumption | omega | decide) (by first | assumption | omega | decide) (by first | assumption | omega | decide) (by first | assumption | omega | decide)
              · have hp1 := ho1 (by omega)
                refine Z_aload_n (n := 100) dX4_gives_99 rfl rfl ?_
                refine Z_getA (n := 103) dX4_gives_100 rfl ffX4_25 rfl rfl ?_
                refine Z_aload_n (n := 104) dX4_gives_103 rfl rfl ?_
                refine Z_getA (n := 107) dX4_gives_104 rfl ffX4_19 rfl rfl ?_
                refine Z_iconst (n := 108) dX4_gives_107 rfl (by decide) ?_
                refine Z_iload (n := 110) dX4_gives_108 rfl rfl ?_
                refine Z_imul (n := 111) dX4_gives_110 rfl (by omega) ?_
                refine Z_iconst (n := 112) dX4_gives_111 rfl (by decide) ?_
                refine Z_iadd (n := 113) dX4_gives_112 rfl (by omega) ?_
                refine Z_iald (n := 114) dX4_gives_113 rfl rfl rfl (by first | decide | assumption) (by omega) (by omega) (fun r113 s113 => ?_)
                refine Z_zald (n := 115) dX4_gives_114 rfl rfl rfl (by first | decide | assumption) (by omega) (by omega) (fun r114 s114 => ?_)
                refine Z_if_eq (n := 118) (t := 122) dX4_gives_115 rfl (by decide) (fun c115 => ?_) (fun c115 => ?_)
                · refine Z_iconst (n := 123) dX4_gives_122 rfl (by decide) ?_
                  refine Z_istore (L' := [_, _, _, _, _, _, _, _, _, _]) (n := 125) dX4_gives_123 rfl (by decide) rfl rfl ?_
                  refine Z_loc (L' := [some _, some _, some _, some _, some _, some _, some _, some _, some _, some _]) (lsub_same (lsub_same (lsub_same (lsub_same (lsub_same (lsub_same (lsub_same (lsub_same (lsub_same (lsub_same lsub_nil)))))))))) ?_
                  exact ct125 _ _  (by first | assumption | omega | decide) (by first | assumption | omega | decide) (by first | assumption | omega | decide) (by first | assumption | omega | decide)
                · refine Z_iconst (n := 119) dX4_gives_118 rfl (by decide) ?_
                  refine Z_goto (t := 123) dX4_gives_119 (by decide) ?_
                  refine Z_istore (L' := [_, _, _, _, _, _, _, _, _, _]) (n := 125) dX4_gives_123 rfl (by decide) rfl rfl ?_
                  refine Z_loc (L' := [some _, some _, some _, some _, some _, some _, some _, some _, some _, some _]) (lsub_same (lsub_same (lsub_same (lsub_same (lsub_same (lsub_same (lsub_same (lsub_same (lsub_same (lsub_same lsub_nil)))))))))) ?_
                  exact ct125 _ _  (by first | assumption | omega | decide) (by first | assumption | omega | decide) (by first | assumption | omega | decide) (by first | assumption | omega | decide)
            refine Z_istore (L' := [_, _, _, _, _, _, _, _, _, _]) (n := 64) dX4_gives_62 rfl (by decide) rfl rfl ?_
            refine Z_iload (n := 66) dX4_gives_64 rfl rfl ?_
            refine Z_if_le (n := 69) (t := 90) dX4_gives_66 rfl (by decide) (fun c66 => ?_) (fun c66 => ?_)
            · refine Z_iconst (n := 91) dX4_gives_90 rfl (by decide) ?_
              refine Z_istore (L' := [_, _, _, _, _, _, _, _, _, _]) (n := 93) dX4_gives_91 rfl (by decide) rfl rfl ?_
              refine Z_loc (L' := [some _, some _, some _, some _, some _, some _, some _, some _, some _, none]) (lsub_same (lsub_same (lsub_same (lsub_same (lsub_same (lsub_same (lsub_same (lsub_same (lsub_same (lsub_none lsub_nil)))))))))) ?_
              exact ct93 _  (by first | assumption | omega | decide) (by first | assumption | omega | decide)
            · have hp0 := ho0 (by omega)
              refine Z_aload_n (n := 70) dX4_gives_69 rfl rfl ?_
              refine Z_getA (n := 73) dX4_gives_70 rfl ffX4_25 rfl rfl ?_
              refine Z_aload_n (n := 74) dX4_gives_73 rfl rfl ?_
              refine Z_getA (n := 77) dX4_gives_74 rfl ffX4_19 rfl rfl ?_
              refine Z_iconst (n := 78) dX4_gives_77 rfl (by decide) ?_
              refine Z_iload (n := 80) dX4_gives_78 rfl rfl ?_
              refine Z_imul (n := 81) dX4_gives_80 rfl (by omega) ?_
              refine Z_iald (n := 82) dX4_gives_81 rfl rfl rfl (by first | decide | assumption) (by omega) (by omega) (fun r81 s81 => ?_)
              refine Z_zald (n := 83) dX4_gives_82 rfl rfl rfl (by first | decide | assumption) (by omega) (by omega) (fun r82 s82 => ?_)
              refine Z_if_eq (n := 86) (t := 90) dX4_gives_83 rfl (by decide) (fun c83 => ?_) (fun c83 => ?_)
              · refine Z_iconst (n := 91) dX4_gives_90 rfl (by decide) ?_
                refine Z_istore (L' := [_, _, _, _, _, _, _, _, _, _]) (n := 93) dX4_gives_91 rfl (by decide) rfl rfl ?_
                refine Z_loc (L' := [some _, some _, some _, some _, some _, some _, some _, some _, some _, none]) (lsub_same (lsub_same (lsub_same (lsub_same (lsub_same (lsub_same (lsub_same (lsub_same (lsub_same (lsub_none lsub_nil)))))))))) ?_
                exact ct93 _  (by first | assumption | omega | decide) (by first | assumption | omega | decide)
              · refine Z_iconst (n := 87) dX4_gives_86 rfl (by decide) ?_
                refine Z_goto (t := 91) dX4_gives_87 (by decide) ?_
                refine Z_istore (L' := [_, _, _, _, _, _, _, _, _, _]) (n := 93) dX4_gives_91 rfl (by decide) rfl rfl ?_
                refine Z_loc (L' := [some _, some _, some _, some _, some _, some _, some _, some _, some _, none]) (lsub_same (lsub_same (lsub_same (lsub_same (lsub_same (lsub_same (lsub_same (lsub_same (lsub_same (lsub_none lsub_nil)))))))))) ?_
                exact ct93 _  (by first | assumption | omega | decide) (by first | assumption | omega | decide)
      refine Z_loc (L' := [some _, some _, some _, some _, some _, none, none, none, none, none]) (lsub_same (lsub_same (lsub_same (lsub_same (lsub_same (lsub_none (lsub_none (lsub_none (lsub_none (lsub_none lsub_nil)))))))))) ?_
      exact lp28 _ _ _ _ (Nat.lt_succ_self _) (by first | rfl | assumption) (by first | assumption | omega | decide) (by first | assumption | omega | decide)
    · refine Z_bipush (n := 24) dX4_gives_22 rfl (by decide) (by decide) ?_
      refine Z_iret dX4_gives_24 rfl ?_
      rfl
  · refine Z_iconst (n := 10) dX4_gives_9 rfl (by decide) ?_
    refine Z_iret dX4_gives_10 rfl ?_
    rfl
