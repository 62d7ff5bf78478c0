/-! ===== the reference: needs, as the last need ===== -/
/-- the reference's last needs -/
def lrF (M : zM) (g : Int) : Int → Int := fun x => if x = g then g else M 56 x
def rlN (M : zM) (L : Int → Int) : Prop := ∀ x : Int, 0 ≤ x → x < 40 → (¬ M 55 x = 0 ↔ ¬ L x = -1)
def rlP (M : zM) (kd : Int → Int) (od : Int → Int → Int) (g k c : Int) : Prop := lnP kd od g (lrF M g) k c ∧ rlN M (lrF M g)
theorem rl_dn {M : zM} {kd : Int → Int} {od : Int → Int → Int} {g k c : Int} (h : rlP M kd od g k c) (k0 : 0 ≤ k) (k1 : k < 40) (hc : M 55 k = 0 ∨ opF (kd k) ≤ c) : rlP M kd od g (k - 1) 0 := by
  refine ⟨lnP_dn h.1 ?_, h.2⟩
  rcases hc with z | z
  · left
    by_cases q : lrF M g k = -1
    · exact q
    · exact absurd z ((h.2 k k0 k1).mpr q)
  · exact Or.inr z
theorem rl_st {M : zM} {kd : Int → Int} {od : Int → Int → Int} {g k c x v : Int} (h : rlP M kd od g k c) (hk : ¬ M 55 k = 0) (kg : k ≤ g) (c0 : 0 ≤ c) (c1 : c < opF (kd k)) (hx : od k c = x) (x0 : 0 ≤ x) (xk : x < k) (g1 : g < 40) (rg : -1 ≤ M 56 x) (hv : (M 56 x < 0 ∧ v = k) ∨ (0 ≤ M 56 x ∧ v = M 56 x)) : rlP (uz (uz M 55 x 1) 56 x v) kd od g k (c + 1) := by
  have hkL : ¬ lrF M g k = -1 := (h.2 k (by omega) (by omega)).mp hk
  have ex : lrF M g x = M 56 x := if_neg (by omega)
  have e55 : ∀ y : Int, uz (uz M 55 x 1) 56 x v 55 y = if y = x then 1 else M 55 y := fun y => by rw [uz_oo (by decide), uz_a]
  rcases hv with ⟨a, b⟩ | ⟨a, b⟩
  · have e : lrF (uz (uz M 55 x 1) 56 x v) g = updI (lrF M g) x k := by
      funext j
      unfold lrF updI
      rw [uz_a, uz_oo (by decide)]
      by_cases e1 : j = x
      · rw [if_neg (show ¬ j = g by omega), if_pos e1, if_pos e1, b]
      · rw [if_neg e1, if_neg e1]
    refine ⟨lnP_st h.1 hkL kg c0 c1 hx x0 xk g1 (Or.inl ⟨by omega, e⟩), fun y y0 y1 => ?_⟩
    rw [e55, e]
    by_cases e1 : y = x
    · rw [if_pos e1, e1, updI_s]
      exact ⟨fun _ => by omega, fun _ => by decide⟩
    · rw [if_neg e1, updI_n e1]
      exact h.2 y y0 y1
  · have e : lrF (uz (uz M 55 x 1) 56 x v) g = lrF M g := by
      funext j
      unfold lrF
      rw [uz_a, uz_oo (by decide)]
      by_cases e1 : j = x
      · rw [if_neg (show ¬ j = g by omega), if_pos e1, if_neg (show ¬ j = g by omega), b, e1]
      · rw [if_neg e1]
    refine ⟨lnP_st h.1 hkL kg c0 c1 hx x0 xk g1 (Or.inr ⟨by omega, e⟩), fun y y0 y1 => ?_⟩
    rw [e55, e]
    by_cases e1 : y = x
    · rw [if_pos e1, e1]
      exact ⟨fun _ => by omega, fun _ => by decide⟩
    · rw [if_neg e1]
      exact h.2 y y0 y1
/-- the reference lets go of those that gate k needed last -/
theorem hn_ref {kd : Int → Int} {od : Int → Int → Int} {g k : Int} {L : Int → Int} (h : lnS kd od g L) (g1 : g < 40) (k0 : 0 ≤ k) (k1 : k ≤ g) (hk : ¬ L k = -1) (z : Int) : hnd L g (k + 1) z ↔ ((hnd L g k z ∨ z = k) ∧ ¬ (z < k ∧ L z = k)) := by
  constructor
  · rintro ⟨a, b, c⟩
    by_cases e : z = k
    · exact ⟨Or.inr e, fun q => by omega⟩
    · exact ⟨Or.inl ⟨by omega, b, by omega⟩, fun q => by omega⟩
  · rintro ⟨a | a, b⟩
    · obtain ⟨a1, a2, a3⟩ := a
      exact ⟨by omega, a2, by omega⟩
    · have q := lnS_in h (x := z) (by omega) (by omega) (by rw [a]; exact hk)
      exact ⟨by omega, by rw [a]; exact hk, by omega⟩
set_option maxRecDepth 20000 in
theorem zX4_needs_g {G : tl_G} {M : zM} {J : zJ} {net g : Int} (n0 : 0 ≤ net) (n1 : net < 3) (g0 : 0 ≤ g) (g1 : g < M 32 net) (hN : rNt M net) : ZN G yX4_needs mX4_needs 1 kNd [vR 31, vI net, vI g] F1 M J (qV (fun M' J' => J' = J ∧ ndQ M' g ∧ lnS (fun k => M 34 (40 * net + k)) (fun k c => M 35 (3 * (40 * net + k) + c)) g (lrF M' g) ∧ rlN M' (lrF M' g))) := by
  refine ZN_of (L := [_, _, _, _, _, _, _]) (by decide) rfl rfl (Nat.le_of_ble_eq_true rfl) rfl (fun hav => ?_)
  refine Z_rg 32 net rfl (fun g32 g32b => ?_)
  refine Z_iconst (n := 1) dX4_needs_0 rfl (by decide) ?_
  refine Z_istore_n (L' := [_, _, _, _, _, _, _]) (n := 2) dX4_needs_1 rfl (by decide) rfl rfl ?_
  have lp2 : ∀ (N2 : Nat) (k : Int) (M2 : zM) (J2 : zJ), ((40 - k).toNat) < N2 → (J2 = J) → (0 ≤ k) → (k ≤ 40) → (∀ x : Int, 0 ≤ x → x < k → ((x = g ∧ M2 55 x = 1) ∨ (x ≠ g ∧ M2 55 x = 0)) ∧ M2 56 x = -1) → TZ G mX4_needs (tl_rm 1 0 0) 0 0 kNd M J 2 [some (vR 31), some (vI net), some (vI g), some (vI k), none, none, none] [] F1 M2 J2 (ZM G (zPost G kNd F1 M J (qV (fun M' J' => J' = J ∧ ndQ M' g ∧ lnS (fun k => M 34 (40 * net + k)) (fun k c => M 35 (3 * (40 * net + k) + c)) g (lrF M' g) ∧ rlN M' (lrF M' g)))) 0 0) := by
    intro N2
    induction N2 with
    | zero => intro k M2 J2 hN; omega
    | succ N2 ih2 =>
      intro k M2 J2 hN2 i2_0 i2_1 i2_2 i2_3
      refine Z_iload_n (n := 3) dX4_needs_2 rfl rfl ?_
      refine Z_bipush (n := 5) dX4_needs_3 rfl (by decide) (by decide) ?_
      refine Z_icmp_ge (n := 8) (t := 37) dX4_needs_5 rfl (by decide) (fun c5 => ?_) (fun c5 => ?_)
      · have st39 : ndQ M2 g := by
          refine ⟨by have := i2_3 g (by omega) (by omega); omega, fun x x0 x1 => ?_⟩
          have := i2_3 x x0 (by omega)
          exact ⟨fun q => by omega, fun q => by omega⟩
        have st39r : rlP M2 (fun k => M 34 (40 * net + k)) (fun k c => M 35 (3 * (40 * net + k) + c)) g g 0 := by
          refine ⟨lnP_0 (if_pos rfl) (fun x a b e => ?_), fun x a b => ?_⟩
          · unfold lrF
            rw [if_neg e]
            exact (i2_3 x a (by omega)).2
          · have z := i2_3 x a (by omega)
            unfold lrF
            by_cases e : x = g
            · rw [if_pos e]; exact ⟨fun _ => by omega, fun _ => by omega⟩
            · rw [if_neg e]; exact ⟨fun _ => by omega, fun _ => by omega⟩
        refine Z_iload_n (n := 38) dX4_needs_37 rfl rfl ?_
        refine Z_istore_n (L' := [_, _, _, _, _, _, _]) (n := 39) dX4_needs_38 rfl (by decide) rfl rfl ?_
        have lp39 : ∀ (N39 : Nat) (k : Int) (M39 : zM) (J39 : zJ), ((k + 1).toNat) < N39 → (J39 = J) → (-1 ≤ k) → (k ≤ g) → (ndQ M39 g) → (rlP M39 (fun k => M 34 (40 * net + k)) (fun k c => M 35 (3 * (40 * net + k) + c)) g k 0) → TZ G mX4_needs (tl_rm 1 0 0) 0 0 kNd M J 39 [some (vR 31), some (vI net), some (vI g), some (vI k), none, none, none] [] F1 M39 J39 (ZM G (zPost G kNd F1 M J (qV (fun M' J' => J' = J ∧ ndQ M' g ∧ lnS (fun k => M 34 (40 * net + k)) (fun k c => M 35 (3 * (40 * net + k) + c)) g (lrF M' g) ∧ rlN M' (lrF M' g)))) 0 0) := by
          intro N39
          induction N39 with
          | zero => intro k M39 J39 hN; omega
          | succ N39 ih39 =>
            intro k M39 J39 hN39 i39_0 i39_1 i39_2 i39_3 i39_4
            refine Z_iload_n (n := 40) dX4_needs_39 rfl rfl ?_
            refine Z_if_lt (n := 43) (t := 140) dX4_needs_40 rfl (by decide) (fun c40 => ?_) (fun c40 => ?_)
            · refine Z_vret dX4_needs_140 rfl ?_
              refine ⟨i39_0, i39_3, ?_⟩
              have q := i39_4
              rw [show k = -1 by omega] at q
              exact ⟨lnP_end q.1, q.2⟩
            · refine Z_bipush (n := 45) dX4_needs_43 rfl (by decide) (by decide) ?_
              refine Z_iload_n (n := 46) dX4_needs_45 rfl rfl ?_
              refine Z_imul (n := 47) dX4_needs_46 rfl (by omega) ?_
              refine Z_iload_n (n := 48) dX4_needs_47 rfl rfl ?_
              refine Z_iadd (n := 49) dX4_needs_48 rfl (by omega) ?_
              refine Z_istore (L' := [_, _, _, _, _, _, _]) (n := 51) dX4_needs_49 rfl (by decide) rfl rfl ?_
              refine Z_iconst (n := 52) dX4_needs_51 rfl (by decide) ?_
              refine Z_istore (L' := [_, _, _, _, _, _, _]) (n := 54) dX4_needs_52 rfl (by decide) rfl rfl ?_
              have lp54 : ∀ (N54 : Nat) (c : Int) (M54 : zM) (J54 : zJ), ((3 - c).toNat) < N54 → (J54 = J) → (0 ≤ c) → (c ≤ 3) → (ndQ M54 g) → (rlP M54 (fun k => M 34 (40 * net + k)) (fun k c => M 35 (3 * (40 * net + k) + c)) g k c) → TZ G mX4_needs (tl_rm 1 0 0) 0 0 kNd M J 54 [some (vR 31), some (vI net), some (vI g), some (vI k), some (vI (40 * net + k)), some (vI c), none] [] F1 M54 J54 (ZM G (zPost G kNd F1 M J (qV (fun M' J' => J' = J ∧ ndQ M' g ∧ lnS (fun k => M 34 (40 * net + k)) (fun k c => M 35 (3 * (40 * net + k) + c)) g (lrF M' g) ∧ rlN M' (lrF M' g)))) 0 0) := by
                intro N54
                induction N54 with
                | zero => intro c M54 J54 hN; omega
                | succ N54 ih54 =>
                  intro c M54 J54 hN54 i54_0 i54_1 i54_2 i54_3 i54_4
                  refine Z_iload (n := 56) dX4_needs_54 rfl rfl ?_
                  refine Z_fr (fun fr54 => ?_)
                  refine Z_rg 34 (40 * net + k) rfl (fun g34 g34b => ?_)
                  have hop3 := opF_in (M54 34 (40 * net + k))
                  have e34 : M54 34 (40 * net + k) = M 34 (40 * net + k) := congrFun (fr54 34 (by decide)).1 _
                  refine Z_aload_n (n := 57) dX4_needs_56 rfl rfl ?_
                  refine Z_getA (n := 60) dX4_needs_57 rfl ffX4_16 rfl rfl ?_
                  refine Z_iload (n := 62) dX4_needs_60 rfl rfl ?_
                  refine Z_iald (n := 63) dX4_needs_62 rfl rfl rfl (by first | decide | assumption) (by omega) (by omega) (fun r62 s62 => ?_)
                  refine Z_callSi (n := 66) [_] _ dX4_needs_63 rfl cwX4_120 rfl rfl (Nat.le_of_ble_eq_true rfl) (by refine ⟨?_, ?_, ?_, ?_⟩ <;> exact Nat.le_of_ble_eq_true rfl) (fun _ _ => trivial) (zX4_wants  ) ?_
                  intro x63 M63 J63 z63 f63 q63
                  obtain ⟨e63_1, e63_2, h63⟩ := q63
                  replace e63_1 := e63_1.symm; subst e63_1
                  replace e63_2 := e63_2.symm; subst e63_2
                  refine Z_icmp_ge (n := 69) (t := 134) dX4_needs_66 rfl (by decide) (fun c66 => ?_) (fun c66 => ?_)
                  · have nr : ∀ q : Int, q = k - 1 → rlP M54 (fun k => M 34 (40 * net + k)) (fun k c => M 35 (3 * (40 * net + k) + c)) g q 0 := fun q e => by
                      rw [e]
                      exact rl_dn i54_4 (by omega) (by omega) (Or.inr (by show opF (M 34 (40 * net + k)) ≤ c; rw [← e34]; omega))
                    refine Z_iinc (L' := [_, _, _, _, _, _, _]) (n := 137) dX4_needs_134 rfl rfl (by decide) rfl rfl (by omega) rfl ?_
                    refine Z_goto (t := 39) dX4_needs_137 (by decide) ?_
                    refine Z_loc (L' := [some _, some _, some _, some _, none, none, none]) (lsub_same (lsub_same (lsub_same (lsub_same (lsub_none (lsub_none (lsub_none lsub_nil))))))) ?_
                    exact ih39 _ _ _ (by omega) (by first | rfl | assumption) (by first | assumption | omega | decide) (by first | assumption | omega | decide) (by exact i54_3) (by exact nr _ (by omega))
                  · refine Z_aload_n (n := 70) dX4_needs_69 rfl rfl ?_
                    refine Z_getA (n := 73) dX4_needs_70 rfl ffX4_93 rfl rfl ?_
                    refine Z_iload_n (n := 74) dX4_needs_73 rfl rfl ?_
                    refine Z_zald (n := 75) dX4_needs_74 rfl rfl rfl (by first | decide | assumption) (by omega) (by omega) (fun r74 s74 => ?_)
                    refine Z_if_eq (n := 78) (t := 134) dX4_needs_75 rfl (by decide) (fun c75 => ?_) (fun c75 => ?_)
                    · have nr : ∀ q : Int, q = k - 1 → rlP M54 (fun k => M 34 (40 * net + k)) (fun k c => M 35 (3 * (40 * net + k) + c)) g q 0 := fun q e => by
                        rw [e]
                        exact rl_dn i54_4 (by omega) (by omega) (Or.inl c75)
                      refine Z_iinc (L' := [_, _, _, _, _, _, _]) (n := 137) dX4_needs_134 rfl rfl (by decide) rfl rfl (by omega) rfl ?_
                      refine Z_goto (t := 39) dX4_needs_137 (by decide) ?_
                      refine Z_loc (L' := [some _, some _, some _, some _, none, none, none]) (lsub_same (lsub_same (lsub_same (lsub_same (lsub_none (lsub_none (lsub_none lsub_nil))))))) ?_
                      exact ih39 _ _ _ (by omega) (by first | rfl | assumption) (by first | assumption | omega | decide) (by first | assumption | omega | decide) (by exact i54_3) (by exact nr _ (by omega))
                    · refine Z_aload_n (n := 79) dX4_needs_78 rfl rfl ?_
                      refine Z_getA (n := 82) dX4_needs_79 rfl ffX4_19 rfl rfl ?_
                      refine Z_iconst (n := 83) dX4_needs_82 rfl (by decide) ?_
                      refine Z_iload (n := 85) dX4_needs_83 rfl rfl ?_
                      refine Z_imul (n := 86) dX4_needs_85 rfl (by omega) ?_
                      refine Z_iload (n := 88) dX4_needs_86 rfl rfl ?_
                      refine Z_iadd (n := 89) dX4_needs_88 rfl (by omega) ?_
                      refine Z_iald (n := 90) dX4_needs_89 rfl rfl rfl (by first | decide | assumption) (by omega) (by omega) (fun r89 s89 => ?_)
                      refine Z_istore (L' := [_, _, _, _, _, _, _]) (n := 92) dX4_needs_90 rfl (by decide) rfl rfl ?_
                      obtain ⟨x, hx⟩ : ∃ x, x = M54 35 (3 * (40 * net + k) + c) := ⟨_, rfl⟩
                      rw [← hx] at r89 s89 ⊢
                      have e35 : x = M 35 (3 * (40 * net + k) + c) := by rw [hx, congrFun (fr54 35 (by decide)).1 _]
                      have hi : c < opF (M 34 (40 * net + k)) := by rw [← e34, ← h63]; omega
                      have hop := (hN.1 k (by omega) (by omega)).1 c (by omega) hi
                      rw [← e35] at hop
                      refine Z_rg 56 x rfl (fun g56 g56b => ?_)
                      refine Z_aload_n (n := 93) dX4_needs_92 rfl rfl ?_
                      refine Z_getA (n := 96) dX4_needs_93 rfl ffX4_93 rfl rfl ?_
                      refine Z_iload (n := 98) dX4_needs_96 rfl rfl ?_
                      refine Z_iconst (n := 99) dX4_needs_98 rfl (by decide) ?_
                      refine Z_zast (n := 100) dX4_needs_99 rfl rfl rfl (by first | decide | assumption) (by omega) (by omega) (by first | assumption | omega | decide) (by first | assumption | omega | decide) (by decide) ?_
                      refine Z_aload_n (n := 101) dX4_needs_100 rfl rfl ?_
                      refine Z_getA (n := 104) dX4_needs_101 rfl ffX4_96 rfl rfl ?_
                      refine Z_iload (n := 106) dX4_needs_104 rfl rfl ?_
                      refine Z_aload_n (n := 107) dX4_needs_106 rfl rfl ?_
                      refine Z_getA (n := 110) dX4_needs_107 rfl ffX4_96 rfl rfl ?_
                      refine Z_iload (n := 112) dX4_needs_110 rfl rfl ?_
                      refine Z_iald (n := 113) dX4_needs_112 rfl rfl rfl (by first | decide | assumption) (by omega) (by omega) (fun r112 s112 => ?_)
                      try simp only [uz_oo (show (56 : Nat) ≠ 55 by decide)] at r112 s112 ⊢
                      refine Z_if_ge (n := 116) (t := 120) dX4_needs_113 rfl (by decide) (fun c113 => ?_) (fun c113 => ?_)
                      · refine Z_aload_n (n := 121) dX4_needs_120 rfl rfl ?_
                        refine Z_getA (n := 124) dX4_needs_121 rfl ffX4_96 rfl rfl ?_
                        refine Z_iload (n := 126) dX4_needs_124 rfl rfl ?_
                        refine Z_iald (n := 127) dX4_needs_126 rfl rfl rfl (by first | decide | assumption) (by omega) (by omega) (fun r126 s126 => ?_)
                        try simp only [uz_oo (show (56 : Nat) ≠ 55 by decide)] at r126 s126 ⊢
                        refine Z_iast (n := 128) dX4_needs_127 rfl rfl rfl (by first | decide | assumption) (by omega) (by omega) (by first | assumption | omega | decide) (by first | assumption | omega | decide) (by decide) ?_
                        have nx54 : ndQ (uz (uz M54 55 x 1) 56 x _) g := ndQ_st i54_3 hop.2 i39_2 c75 hop.1 (by omega) (by first | exact Or.inl ⟨by omega, rfl⟩ | exact Or.inr ⟨by omega, rfl⟩)
                        have nxr : rlP (uz (uz M54 55 x 1) 56 x _) (fun k => M 34 (40 * net + k)) (fun k c => M 35 (3 * (40 * net + k) + c)) g k (c + 1) := rl_st i54_4 c75 i39_2 (by omega) hi e35.symm hop.1 hop.2 (by omega) (by omega) (by first | exact Or.inl ⟨by omega, rfl⟩ | exact Or.inr ⟨by omega, rfl⟩)
                        refine Z_iinc (L' := [_, _, _, _, _, _, _]) (n := 131) dX4_needs_128 rfl rfl (by decide) rfl rfl (by omega) rfl ?_
                        refine Z_goto (t := 54) dX4_needs_131 (by decide) ?_
                        refine Z_loc (L' := [some _, some _, some _, some _, some _, some _, none]) (lsub_same (lsub_same (lsub_same (lsub_same (lsub_same (lsub_same (lsub_none lsub_nil))))))) ?_
                        exact ih54 _ _ _ (by omega) (by first | rfl | assumption) (by first | assumption | omega | decide) (by first | assumption | omega | decide) (by exact nx54) (by exact nxr)
                      · refine Z_iload_n (n := 117) dX4_needs_116 rfl rfl ?_
                        refine Z_goto (t := 127) dX4_needs_117 (by decide) ?_
                        refine Z_iast (n := 128) dX4_needs_127 rfl rfl rfl (by first | decide | assumption) (by omega) (by omega) (by first | assumption | omega | decide) (by first | assumption | omega | decide) (by decide) ?_
                        have nx54 : ndQ (uz (uz M54 55 x 1) 56 x _) g := ndQ_st i54_3 hop.2 i39_2 c75 hop.1 (by omega) (by first | exact Or.inl ⟨by omega, rfl⟩ | exact Or.inr ⟨by omega, rfl⟩)
                        have nxr : rlP (uz (uz M54 55 x 1) 56 x _) (fun k => M 34 (40 * net + k)) (fun k c => M 35 (3 * (40 * net + k) + c)) g k (c + 1) := rl_st i54_4 c75 i39_2 (by omega) hi e35.symm hop.1 hop.2 (by omega) (by omega) (by first | exact Or.inl ⟨by omega, rfl⟩ | exact Or.inr ⟨by omega, rfl⟩)
                        refine Z_iinc (L' := [_, _, _, _, _, _, _]) (n := 131) dX4_needs_128 rfl rfl (by decide) rfl rfl (by omega) rfl ?_
                        refine Z_goto (t := 54) dX4_needs_131 (by decide) ?_
                        refine Z_loc (L' := [some _, some _, some _, some _, some _, some _, none]) (lsub_same (lsub_same (lsub_same (lsub_same (lsub_same (lsub_same (lsub_none lsub_nil))))))) ?_
                        exact ih54 _ _ _ (by omega) (by first | rfl | assumption) (by first | assumption | omega | decide) (by first | assumption | omega | decide) (by exact nx54) (by exact nxr)
              refine Z_loc (L' := [some _, some _, some _, some _, some _, some _, none]) (lsub_same (lsub_same (lsub_same (lsub_same (lsub_same (lsub_same (lsub_none lsub_nil))))))) ?_
              exact lp54 _ _ _ _ (Nat.lt_succ_self _) (by first | rfl | assumption) (by first | assumption | omega | decide) (by first | assumption | omega | decide) (by exact i39_3) (by exact i39_4)
        refine Z_loc (L' := [some _, some _, some _, some _, none, none, none]) (lsub_same (lsub_same (lsub_same (lsub_same (lsub_none (lsub_none (lsub_none lsub_nil))))))) ?_
        exact lp39 _ _ _ _ (Nat.lt_succ_self _) (by first | rfl | assumption) (by first | assumption | omega | decide) (by first | assumption | omega | decide) (by exact st39) (by exact st39r)
      · refine Z_aload_n (n := 9) dX4_needs_8 rfl rfl ?_
        refine Z_getA (n := 12) dX4_needs_9 rfl ffX4_93 rfl rfl ?_
        refine Z_iload_n (n := 13) dX4_needs_12 rfl rfl ?_
        refine Z_iload_n (n := 14) dX4_needs_13 rfl rfl ?_
        refine Z_iload_n (n := 15) dX4_needs_14 rfl rfl ?_
        refine Z_icmp_ne (n := 18) (t := 22) dX4_needs_15 rfl (by decide) (fun c15 => ?_) (fun c15 => ?_)
        · have nx2b : ∀ x : Int, 0 ≤ x → x < k + 1 → ((x = g ∧ uz (uz M2 55 k 0) 56 k (-1) 55 x = 1) ∨ (x ≠ g ∧ uz (uz M2 55 k 0) 56 k (-1) 55 x = 0)) ∧ uz (uz M2 55 k 0) 56 k (-1) 56 x = -1 := fun x x0 x1 => by
            rw [uz_oo (show (55 : Nat) ≠ 56 by decide), uz_a, uz_a, uz_oo (show (56 : Nat) ≠ 55 by decide)]
            by_cases e : x = k
            · rw [if_pos e, if_pos e]; omega
            · rw [if_neg e, if_neg e]; exact i2_3 x x0 (by omega)
          refine Z_iconst (n := 23) dX4_needs_22 rfl (by decide) ?_
          refine Z_zast (n := 24) dX4_needs_23 rfl rfl rfl (by first | decide | assumption) (by omega) (by omega) (by first | assumption | omega | decide) (by first | assumption | omega | decide) (by decide) ?_
          refine Z_aload_n (n := 25) dX4_needs_24 rfl rfl ?_
          refine Z_getA (n := 28) dX4_needs_25 rfl ffX4_96 rfl rfl ?_
          refine Z_iload_n (n := 29) dX4_needs_28 rfl rfl ?_
          refine Z_iconst (n := 30) dX4_needs_29 rfl (by decide) ?_
          refine Z_iast (n := 31) dX4_needs_30 rfl rfl rfl (by first | decide | assumption) (by omega) (by omega) (by first | assumption | omega | decide) (by first | assumption | omega | decide) (by decide) ?_
          refine Z_iinc (L' := [_, _, _, _, _, _, _]) (n := 34) dX4_needs_31 rfl rfl (by decide) rfl rfl (by omega) rfl ?_
          refine Z_goto (t := 2) dX4_needs_34 (by decide) ?_
          refine Z_loc (L' := [some _, some _, some _, some _, none, none, none]) (lsub_same (lsub_same (lsub_same (lsub_same (lsub_none (lsub_none (lsub_none lsub_nil))))))) ?_
          exact ih2 _ _ _ (by omega) (by first | rfl | assumption) (by first | assumption | omega | decide) (by first | assumption | omega | decide) (by first | exact fun x x0 x1 => by omega | exact nx2a | exact nx2b)
        · refine Z_iconst (n := 19) dX4_needs_18 rfl (by decide) ?_
          have nx2a : ∀ x : Int, 0 ≤ x → x < k + 1 → ((x = g ∧ uz (uz M2 55 k 1) 56 k (-1) 55 x = 1) ∨ (x ≠ g ∧ uz (uz M2 55 k 1) 56 k (-1) 55 x = 0)) ∧ uz (uz M2 55 k 1) 56 k (-1) 56 x = -1 := fun x x0 x1 => by
            rw [uz_oo (show (55 : Nat) ≠ 56 by decide), uz_a, uz_a, uz_oo (show (56 : Nat) ≠ 55 by decide)]
            by_cases e : x = k
            · rw [if_pos e, if_pos e]; omega
            · rw [if_neg e, if_neg e]; exact i2_3 x x0 (by omega)
          refine Z_goto (t := 23) dX4_needs_19 (by decide) ?_
          refine Z_zast (n := 24) dX4_needs_23 rfl rfl rfl (by first | decide | assumption) (by omega) (by omega) (by first | assumption | omega | decide) (by first | assumption | omega | decide) (by decide) ?_
          refine Z_aload_n (n := 25) dX4_needs_24 rfl rfl ?_
          refine Z_getA (n := 28) dX4_needs_25 rfl ffX4_96 rfl rfl ?_
          refine Z_iload_n (n := 29) dX4_needs_28 rfl rfl ?_
          refine Z_iconst (n := 30) dX4_needs_29 rfl (by decide) ?_
          refine Z_iast (n := 31) dX4_needs_30 rfl rfl rfl (by first | decide | assumption) (by omega) (by omega) (by first | assumption | omega | decide) (by first | assumption | omega | decide) (by decide) ?_
          refine Z_iinc (L' := [_, _, _, _, _, _, _]) (n := 34) dX4_needs_31 rfl rfl (by decide) rfl rfl (by omega) rfl ?_
          refine Z_goto (t := 2) dX4_needs_34 (by decide) ?_
          refine Z_loc (L' := [some _, some _, some _, some _, none, none, none]) (lsub_same (lsub_same (lsub_same (lsub_same (lsub_none (lsub_none (lsub_none lsub_nil))))))) ?_
          exact ih2 _ _ _ (by omega) (by first | rfl | assumption) (by first | assumption | omega | decide) (by first | assumption | omega | decide) (by first | exact fun x x0 x1 => by omega | exact nx2a | exact nx2b)
  refine Z_loc (L' := [some _, some _, some _, some _, none, none, none]) (lsub_same (lsub_same (lsub_same (lsub_same (lsub_none (lsub_none (lsub_none lsub_nil))))))) ?_
  exact lp2 _ _ _ _ (Nat.lt_succ_self _) (by first | rfl | assumption) (by first | assumption | omega | decide) (by first | assumption | omega | decide) (by first | exact fun x x0 x1 => by omega | exact nx2a | exact nx2b)
