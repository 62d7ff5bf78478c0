/-! ===== the reference: builds, as functions ===== -/
/-- gates H are at hand in the reference -/
def rgI (M0 : zM) (J0 : zJ) (M : zM) (J : zJ) (F : Int → FN) (H : Int → Prop) : Prop := (∀ x : Int, 0 ≤ x → x < 40 → (¬ M 43 (12 + x) = 0 ↔ H x)) ∧ (∀ x : Int, 0 ≤ x → x < 40 → H x → phi J (12 + x) = F x) ∧ (∀ f : Int, (f < 12 ∨ 52 ≤ f) → f < 56 → M 43 f = M0 43 f) ∧ (∀ j : Int, (j < 48 ∨ 208 ≤ j) → J 44 j = J0 44 j) ∧ M 31 8 = M0 31 8
theorem rg_H {M0 M : zM} {J0 J : zJ} {F : Int → FN} {H H' : Int → Prop} (h : rgI M0 J0 M J F H) (e : ∀ x, H' x ↔ H x) : rgI M0 J0 M J F H' := by
  rw [show H' = H from funext (fun x => propext (e x))]
  exact h
theorem rg_lb {M0 M : zM} {J0 J : zJ} {F : Int → FN} {H : Int → Prop} (hh : ∀ y : Int, 0 ≤ y → y < 40 → M0 43 (12 + y) = 0) (h : rgI M0 J0 M J F H) (hH : ∀ x, H x → 0 ≤ x ∧ x < 40) (y : Lb) : LBr M J y ↔ (LBr M0 J0 y ∨ EH E0 F H y) := by
  obtain ⟨h1, h2, h3, h4, -⟩ := h
  have hp : ∀ f : Int, (f < 12 ∨ 52 ≤ f) → phi J f = phi J0 f := fun f hf => phi_cg (fun k k0 k1 => h4 _ (by omega))
  constructor
  · rintro ⟨f, fb, a, b⟩
    by_cases q : f < 12 ∨ 52 ≤ f
    · left
      rw [hp f q] at b
      exact ⟨f, fb, by rw [← h3 f q fb.2]; exact a, b⟩
    · right; right
      have e : 12 + (f - 12) = f := by omega
      have z := (h1 (f - 12) (by omega) (by omega)).mp (by rw [e]; exact a)
      have w := h2 (f - 12) (by omega) (by omega) z
      rw [e] at w
      exact ⟨f - 12, z, by rw [← w]; exact b⟩
  · rintro (⟨f, fb, a, b⟩ | w | ⟨x, a, b⟩)
    · have q : f < 12 ∨ 52 ≤ f := by
        by_cases q : f < 12 ∨ 52 ≤ f
        · exact q
        · have z := hh (f - 12) (by omega) (by omega)
          rw [show 12 + (f - 12) = f by omega] at z
          exact absurd z a
      exact ⟨f, fb, by rw [h3 f q fb.2]; exact a, by rw [hp f q]; exact b⟩
    · exact w.elim
    · have xb := hH x a
      exact ⟨12 + x, by omega, (h1 x xb.1 xb.2).mpr a, by rw [h2 x xb.1 xb.2 a]; exact b⟩
/-- gate k is made -/
theorem rg_st {M0 M M1 : zM} {J0 J J1 J2 : zJ} {F : Int → FN} {H : Int → Prop} {k : Int} (h : rgI M0 J0 M J F H) (k0 : 0 ≤ k) (k1 : k < 40) (hk : ¬ H k) (ah : ¬ M1 43 (12 + k) = 0) (af : adf M M1 (12 + k)) (vo : ∀ j : Int, (j < 4 * (12 + k) ∨ 4 * (12 + k) + 4 ≤ j) → J1 44 j = J 44 j) (e2 : J2 44 = J1 44) (hF : phi J1 (12 + k) = F k) : rgI M0 J0 M1 J2 F (fun x => H x ∨ x = k) := by
  obtain ⟨h1, h2, h3, h4, h5⟩ := h
  refine ⟨fun x a b => ?_, fun x a b c => ?_, fun f a b => ((af.1 f (by omega)).2).trans (h3 f a b), fun j hj => by rw [e2]; exact (vo j (by omega)).trans (h4 j hj), (af.2.2 8 (by decide) (by decide) (by decide) (by decide)).trans h5⟩
  · by_cases e : x = k
    · rw [e]; exact ⟨fun _ => Or.inr rfl, fun _ => ah⟩
    · rw [(af.1 (12 + x) (by omega)).2]
      exact ⟨fun q => Or.inl ((h1 x a b).mp q), fun q => (h1 x a b).mpr (q.resolve_right e)⟩
  · by_cases e : x = k
    · rw [e]; exact (phi_cg (fun i _ _ => by rw [e2])).trans hF
    · exact (phi_cg (fun i i0 i1 => by rw [e2]; exact vo _ (by omega))).trans (h2 x a b (c.resolve_right e))
/-- gate u is let go -/
theorem rg_rm {M0 M M1 : zM} {J0 J J1 : zJ} {F : Int → FN} {H : Int → Prop} {u : Int} (h : rgI M0 J0 M J F H) (u0 : 0 ≤ u) (u1 : u < 40) (ah : M1 43 (12 + u) = 0) (af : adf M M1 (12 + u)) (e2 : J1 44 = J 44) : rgI M0 J0 M1 J1 F (fun x => H x ∧ ¬ x = u) := by
  obtain ⟨h1, h2, h3, h4, h5⟩ := h
  refine ⟨fun x a b => ?_, fun x a b c => (phi_cg (fun i _ _ => by rw [e2])).trans (h2 x a b c.1), fun f a b => ((af.1 f (by omega)).2).trans (h3 f a b), fun j hj => by rw [e2]; exact h4 j hj, (af.2.2 8 (by decide) (by decide) (by decide) (by decide)).trans h5⟩
  by_cases e : x = u
  · rw [e]; exact ⟨fun q => absurd ah q, fun q => absurd rfl q.2⟩
  · rw [(af.1 (12 + x) (by omega)).2]
    exact ⟨fun q => ⟨(h1 x a b).mp q, e⟩, fun q => (h1 x a b).mpr q.1⟩
theorem op_a {x : Int} (q : ¬ x < 3) : 0 < opF x := by unfold opF; (repeat' split) <;> omega
theorem op_b {x : Int} (q : ¬ x ≤ 3) : 1 < opF x := by unfold opF; (repeat' split) <;> omega
theorem of_gst {kd a b a' b' c' : Int} (k0 : 0 < kd) (k1 : kd ≤ 9) (ha : ¬ kd < 3 → a = a') (hb : ¬ kd ≤ 3 → b = b') : tbl (tabF kd) (if kd < 3 then 0 else a) (if kd ≤ 3 then 0 else b) 0 = tbl (tabF kd) (if 0 < opF kd then a' else 0) (if 1 < opF kd then b' else 0) (if 2 < opF kd then c' else 0) := by
  have p : (0 < opF kd ↔ ¬ kd < 3) ∧ (1 < opF kd ↔ ¬ kd ≤ 3) ∧ ¬ 2 < opF kd := by
    rcases (show kd = 1 ∨ kd = 2 ∨ kd = 3 ∨ kd = 4 ∨ kd = 5 ∨ kd = 6 ∨ kd = 7 ∨ kd = 8 ∨ kd = 9 by omega) with q | q | q | q | q | q | q | q | q <;> subst q <;> decide
  rw [if_neg p.2.2]
  by_cases q : kd < 3
  · rw [if_pos q, if_neg (fun t => p.1.mp t q), if_pos (show kd ≤ 3 by omega), if_neg (fun t => p.2.1.mp t (by omega))]
  · rw [if_neg q, if_pos (p.1.mpr q), ha q]
    by_cases w : kd ≤ 3
    · rw [if_pos w, if_neg (fun t => p.2.1.mp t w)]
    · rw [if_neg w, if_pos (p.2.1.mpr w), hb w]
def okBr (M : zM) (J : zJ) (F : Int → FN) (L : Int → Int) (g : Int) : Prop := ∀ k : Int, 0 ≤ k → k ≤ g → ¬ L k = -1 → okR M J (EH E0 F (hnd L g k)) (F k)
def rbX (M : zM) (J : zJ) (kd : Int → Int) (od : Int → Int → Int) (pl : Int → Int) (g x : Int) (J' : zJ) : Prop := ∃ L : Int → Int, lnS kd od g L ∧ ((x = 1 ∧ okBr M J (gF kd od pl) L g ∧ phi J' (12 + g) = gF kd od pl g) ∨ (x = 0 ∧ ¬ okBr M J (gF kd od pl) L g))
set_option maxRecDepth 20000 in
theorem zX4_builds_g {G : tl_G} {M : zM} {J : zJ} {net g : Int} (n0 : 0 ≤ net) (n1 : net < 3) (g0 : 0 ≤ g) (g1 : g < M 32 net) (hN : rNt M net) (hT : TI M J) (hh : ∀ y : Int, 0 ≤ y → y < 40 → M 43 (12 + y) = 0) (hu : M 31 24 ≤ M 31 8) (hk : M 31 27 + 40 ≤ 2147483647) (hW : whOK J) (hO : rOrd M) : ZN G yX4_builds mX4_builds 4 kRg [vR 31, vI net, vI g] F1 M J (qI (fun x M' J' => TI M' J' ∧ hdl M M' ∧ M' 31 27 ≤ M 31 27 + 40 ∧ (∀ f : Int, 52 ≤ f → f < 56 → M' 43 f = M 43 f) ∧ (∀ j : Int, (j < 48 ∨ 208 ≤ j) → J' 44 j = J 44 j) ∧ ((x = 1 ∧ M' 31 24 ≤ M' 31 8 ∧ ¬ M' 43 (12 + g) = 0 ∧ ∀ y : Int, 0 ≤ y → y < 40 → y ≠ g → M' 43 (12 + y) = 0) ∨ x = 0) ∧ rbX M J (fun k => M 34 (40 * net + k)) (fun k c => M 35 (3 * (40 * net + k) + c)) (M 39) g x J')) := by
  refine ZN_of (L := [_, _, _, _, _, _, _]) (by decide) rfl rfl (Nat.le_of_ble_eq_true rfl) rfl (fun hav => ?_)
  refine Z_rg 32 net rfl (fun g32 g32b => ?_)
  refine Z_aload_n (n := 1) dX4_builds_0 rfl rfl ?_
  refine Z_iload_n (n := 2) dX4_builds_1 rfl rfl ?_
  refine Z_iload_n (n := 3) dX4_builds_2 rfl rfl ?_
  refine Z_callVv (n := 6) [_, _] _ dX4_builds_3 rfl cwX4_194 rfl rfl rfl (Nat.le_of_ble_eq_true rfl) (by refine ⟨?_, ?_, ?_, ?_⟩ <;> exact Nat.le_of_ble_eq_true rfl) (fun a h => by unfold kRg at h; unfold kNd; omega) (zX4_needs_g  (by omega) (by omega) (by omega) (by omega) (by exact hN)) ?_
  intro M3 J3 f3 q3
  obtain ⟨e3_1, nd3, ls3, ln3⟩ := q3
  replace e3_1 := e3_1.symm; subst e3_1
  have o3 : ∀ a : Nat, ¬ a = 55 → ¬ a = 56 → M3 a = M a := fun a h1 h2 => (f3 a ⟨h1, h2⟩).1
  have ti3 : TI M3 J := TI_fr hT (fun a ha => o3 a (by omega) (by omega))
  have hd3 : hdl M M3 := by unfold hdl; rw [o3 45 (by decide) (by decide), o3 43 (by decide) (by decide), o3 46 (by decide) (by decide), o3 31 (by decide) (by decide)]; exact hdl_0
  have us3 : M3 31 24 ≤ M3 31 8 := by rw [o3 31 (by decide) (by decide)]; exact hu
  have mk3 : M3 31 27 ≤ M 31 27 + 0 := by rw [o3 31 (by decide) (by decide)]; omega
  have hi3 : ∀ f : Int, 52 ≤ f → f < 56 → M3 43 f = M 43 f := fun f _ _ => by rw [o3 43 (by decide) (by decide)]
  have bi3 : ∀ j : Int, (j < 48 ∨ 208 ≤ j) → J 44 j = J 44 j := fun _ _ => rfl
  have bd3 : bdI M3 g 0 := fun x x0 x1 q => by rw [o3 43 (by decide) (by decide)] at q; exact absurd (hh x x0 x1) q
  obtain ⟨L, hL⟩ : ∃ L : Int → Int, L = lrF M3 g := ⟨_, rfl⟩
  rw [← hL] at ls3 ln3
  have rg3 : rgI M J M3 J (gF (fun k => M 34 (40 * net + k)) (fun k c => M 35 (3 * (40 * net + k) + c)) (M 39)) (hnd L g 0) := ⟨fun x a b => by rw [o3 43 (by decide) (by decide), hn_0]; exact ⟨fun q => q (hh x a b), False.elim⟩, fun x a b c => ((hn_0 x).mp c).elim, fun f _ _ => by rw [o3 43 (by decide) (by decide)], fun _ _ => rfl, by rw [o3 31 (by decide) (by decide)]⟩
  refine Z_iconst (n := 7) dX4_builds_6 rfl (by decide) ?_
  refine Z_istore_n (L' := [_, _, _, _, _, _, _]) (n := 8) dX4_builds_7 rfl (by decide) rfl rfl ?_
  have lp8 : ∀ (N8 : Nat) (k : Int) (M8 : zM) (J8 : zJ), ((g + 1 - k).toNat) < N8 → (0 ≤ k) → (k ≤ g + 1) → (TI M8 J8) → (ndQ M8 g) → (hdl M M8) → (M8 31 24 ≤ M8 31 8) → (M8 31 27 ≤ M 31 27 + k) → (∀ f : Int, 52 ≤ f → f < 56 → M8 43 f = M 43 f) → (∀ j : Int, (j < 48 ∨ 208 ≤ j) → J8 44 j = J 44 j) → (bdI M8 g k) → (k = g + 1 → ¬ M8 43 (12 + g) = 0) → (M8 55 = M3 55 ∧ M8 56 = M3 56) → (rgI M J M8 J8 (gF (fun k => M 34 (40 * net + k)) (fun k c => M 35 (3 * (40 * net + k) + c)) (M 39)) (hnd L g k)) → (∀ j : Int, 0 ≤ j → j < k → ¬ L j = -1 → okR M J (EH E0 (gF (fun k => M 34 (40 * net + k)) (fun k c => M 35 (3 * (40 * net + k) + c)) (M 39)) (hnd L g j)) ((gF (fun k => M 34 (40 * net + k)) (fun k c => M 35 (3 * (40 * net + k) + c)) (M 39)) j)) → TZ G mX4_builds (tl_rm 4 0 0) 0 0 kRg M J 8 [some (vR 31), some (vI net), some (vI g), some (vI k), none, none, none] [] F1 M8 J8 (ZM G (zPost G kRg F1 M J (qI (fun x M' J' => TI M' J' ∧ hdl M M' ∧ M' 31 27 ≤ M 31 27 + 40 ∧ (∀ f : Int, 52 ≤ f → f < 56 → M' 43 f = M 43 f) ∧ (∀ j : Int, (j < 48 ∨ 208 ≤ j) → J' 44 j = J 44 j) ∧ ((x = 1 ∧ M' 31 24 ≤ M' 31 8 ∧ ¬ M' 43 (12 + g) = 0 ∧ ∀ y : Int, 0 ≤ y → y < 40 → y ≠ g → M' 43 (12 + y) = 0) ∨ x = 0) ∧ rbX M J (fun k => M 34 (40 * net + k)) (fun k c => M 35 (3 * (40 * net + k) + c)) (M 39) g x J'))) 0 0) := by
    intro N8
    induction N8 with
    | zero => intro k M8 J8 hN; omega
    | succ N8 ih8 =>
      intro k M8 J8 hN8 i8_0 i8_1 i8_2 i8_3 i8_4 i8_5 i8_6 i8_7 i8_8 i8_9 i8_10 i8_11 i8_12 i8_13
      refine Z_iload_n (n := 9) dX4_builds_8 rfl rfl ?_
      refine Z_iload_n (n := 10) dX4_builds_9 rfl rfl ?_
      refine Z_icmp_gt (n := 13) (t := 259) dX4_builds_10 rfl (by decide) (fun c10 => ?_) (fun c10 => ?_)
      · refine Z_iconst (n := 260) dX4_builds_259 rfl (by decide) ?_
        refine Z_zret dX4_builds_260 rfl (by first | assumption | omega | decide) (by first | assumption | omega | decide) ?_
        have ek : k = g + 1 := by omega
        subst ek
        exact ⟨i8_2, i8_4, by omega, i8_7, i8_8, Or.inl ⟨rfl, i8_5, i8_10 rfl, bd_end i8_9 i8_3⟩, L, ls3, Or.inl ⟨rfl, fun j a b c => i8_13 j a (by omega) c, i8_12.2.1 g (by omega) (by omega) ((hn_end ls3 (by omega) (by omega) g).mpr rfl)⟩⟩
      · refine Z_aload_n (n := 14) dX4_builds_13 rfl rfl ?_
        refine Z_getA (n := 17) dX4_builds_14 rfl ffX4_93 rfl rfl ?_
        refine Z_iload_n (n := 18) dX4_builds_17 rfl rfl ?_
        refine Z_zald (n := 19) dX4_builds_18 rfl rfl rfl (by first | decide | assumption) (by omega) (by omega) (fun r18 s18 => ?_)
        refine Z_if_ne (n := 22) (t := 25) dX4_builds_19 rfl (by decide) (fun c19 => ?_) (fun c19 => ?_)
        · refine Z_fr (fun fr8 => ?_)
          have hN8 : rNt M8 net := rNt_fr hN (fr8 32 (by decide)).1 (fr8 33 (by decide)).1 (fr8 34 (by decide)).1 (fr8 35 (by decide)).1 (fr8 36 (by decide)).1
          have e32 : M8 32 net = M 32 net := congrFun (fr8 32 (by decide)).1 net
          have hgt := hN8.1 k (by omega) (by omega)
          have hk43 : M8 43 (12 + k) = 0 := by
            by_cases q : M8 43 (12 + k) = 0
            · exact q
            · have := (i8_9 k (by omega) (by omega) q).1; omega
          refine Z_rg 34 (40 * net + k) rfl (fun g34 g34b => ?_)
          refine Z_rg 31 8 rfl (fun g318 g318b => ?_)
          have ho0 : opF (M8 34 (40 * net + k)) > 0 → 0 ≤ M8 35 (3 * (40 * net + k)) ∧ M8 35 (3 * (40 * net + k)) < k := fun q => by
            have z := hgt.1 0 (by omega) (by omega)
            rw [Int.add_zero] at z
            exact z
          have ho1 := hgt.1 1 (by omega)
          have ho2 := hgt.1 2 (by omega)
          have hkL : ¬ L k = -1 := (ln3 k (by omega) (by omega)).mp (by rw [← i8_11.1]; exact c19)
          have e34 : M8 34 (40 * net + k) = M 34 (40 * net + k) := congrFun (fr8 34 (by decide)).1 _
          have e35 : ∀ j, M8 35 j = M 35 j := fun j => congrFun (fr8 35 (by decide)).1 j
          have hW8 : ∀ q : Int, 2 ≤ q → q ≤ 7 → J8 54 q = whF q := fun q a b => by rw [(fr8 54 (by decide)).2]; exact hW q a b
          have hat : ∀ c : Int, 0 ≤ c → c < opF (M 34 (40 * net + k)) → phi J8 (12 + M 35 (3 * (40 * net + k) + c)) = (gF (fun k => M 34 (40 * net + k)) (fun k c => M 35 (3 * (40 * net + k) + c)) (M 39)) (M 35 (3 * (40 * net + k) + c)) := fun c c0 c1 => by
            have z := (hN.1 k (by omega) (by omega)).1 c c0 c1
            exact i8_12.2.1 _ z.1 (by omega) (lnS_op ls3 (by omega) (by omega) hkL z.1 z.2 ⟨c, ⟨c0, c1⟩, rfl⟩)
          refine Z_ok (fun ok8 => ?_)
          refine Z_bipush (n := 27) dX4_builds_25 rfl (by decide) (by decide) ?_
          have ct197 : ∀  (M197 : zM) (J197 : zJ), (M197 = M8) → (J197 48 = J8 48) → (∀ j : Int, (j < 4 * (12 + k) ∨ 4 * (12 + k) + 4 ≤ j) → J197 44 j = J8 44 j) → (phi J197 (12 + k) = (gF (fun k => M 34 (40 * net + k)) (fun k c => M 35 (3 * (40 * net + k) + c)) (M 39)) k) → TZ G mX4_builds (tl_rm 4 0 0) 0 0 kRg M J 197 [some (vR 31), some (vI net), some (vI g), some (vI k), some (vI (40 * net + k)), some (vI (12 + k)), none] [] F1 M197 J197 (ZM G (zPost G kRg F1 M J (qI (fun x M' J' => TI M' J' ∧ hdl M M' ∧ M' 31 27 ≤ M 31 27 + 40 ∧ (∀ f : Int, 52 ≤ f → f < 56 → M' 43 f = M 43 f) ∧ (∀ j : Int, (j < 48 ∨ 208 ≤ j) → J' 44 j = J 44 j) ∧ ((x = 1 ∧ M' 31 24 ≤ M' 31 8 ∧ ¬ M' 43 (12 + g) = 0 ∧ ∀ y : Int, 0 ≤ y → y < 40 → y ≠ g → M' 43 (12 + y) = 0) ∨ x = 0) ∧ rbX M J (fun k => M 34 (40 * net + k)) (fun k c => M 35 (3 * (40 * net + k) + c)) (M 39) g x J'))) 0 0) := by
            intro  M197 J197 i197_0 i197_1 i197_2 i197_3
            replace i197_0 := i197_0.symm; subst i197_0
            have ti197 : TI M8 J197 := TI_bits i8_2 hk43 i197_1 i197_2
            clear ho0 ho1 ho2 hat hgt
            refine Z_ok (fun okz => ?_)
            refine Z_aload_n (n := 198) dX4_builds_197 rfl rfl ?_
            refine Z_iload (n := 200) dX4_builds_198 rfl rfl ?_
            refine Z_callVi (n := 203) [_] _ dX4_builds_200 rfl cwX4_207 rfl rfl rfl (Nat.le_of_ble_eq_true rfl) (by refine ⟨?_, ?_, ?_, ?_⟩ <;> exact Nat.le_of_ble_eq_true rfl) (fun a h => by unfold kRg at h; unfold kAd; omega) (zX4_steps  (by omega) (by omega) (by exact ti197) (by exact hk43) (by omega) (by omega)) ?_
            intro x200 M200 J200 z200 f200 q200
            obtain ⟨ti200, ah200, am200, au200, af200, xs200⟩ := q200
            have e200 : ∀ a : Nat, (a = 55 ∨ a = 56) → M200 a = M8 a := fun a ha => (f200 a (by unfold kAd; omega)).1
            have nd200 : ndQ M200 g := ndQ_fr i8_3 (e200 55 (by decide)) (e200 56 (by decide))
            have hd200 : hdl M M200 := hdl_t i8_4 (hdl_a af200 (by omega))
            have hi200 : ∀ f : Int, 52 ≤ f → f < 56 → M200 43 f = M 43 f := fun f a b => ((af200.1 f (by omega)).2).trans (i8_7 f a b)
            have bi200 : ∀ j : Int, (j < 48 ∨ 208 ≤ j) → J200 44 j = J 44 j := fun j hj => (congrFun (f200 44 (by decide)).2 j).trans ((i197_2 j (by omega)).trans (i8_8 j hj))
            have bj200 : bdJ M200 g k 0 := bdJ_0 i8_9 i8_3 (by omega) (by omega) (by omega) c19 (fun f hf => (af200.1 f hf).2) (e200 55 (by decide)) (e200 56 (by decide))
            refine Z_ok (fun okS => ?_)
            have hH8 : ∀ x, hnd L g k x → 0 ≤ x ∧ x < 40 := fun x hx => by have := hx.1; omega
            have hnk : ¬ hnd L g k k := fun q => by have := q.1; omega
            obtain ⟨so, -⟩ := st_ok (M := M) (J := J) (E := EH E0 (gF (fun k => M 34 (40 * net + k)) (fun k c => M 35 (3 * (40 * net + k) + c)) (M 39)) (hnd L g k)) (by omega) (by omega) ti200 okS ah200 af200 (f200 44 (by decide)).2 i8_12.2.2.2.2 (fun y => or_congr ((lbr_b hk43 i197_2 y).trans (rg_lb hh i8_12 hH8 y)) Iff.rfl) xs200
            rw [i197_3] at so
            have rg200 := rg_st i8_12 (by omega) (by omega) hnk ah200 af200 i197_2 (f200 44 (by decide)).2 i197_3
            refine Z_if_ne (n := 206) (t := 208) dX4_builds_203 rfl (by decide) (fun c203 => ?_) (fun c203 => ?_)
            · have us200 : M200 31 24 ≤ M200 31 8 := by omega
              have ok200 := (so.resolve_right (fun q => by omega)).2
              have n55 : M200 55 = M3 55 ∧ M200 56 = M3 56 := ⟨(e200 55 (by decide)).trans i8_11.1, (e200 56 (by decide)).trans i8_11.2⟩
              have rg200' : rgI M J M200 J200 (gF (fun k => M 34 (40 * net + k)) (fun k c => M 35 (3 * (40 * net + k) + c)) (M 39)) (fun x => ((hnd L g k) x ∨ x = k) ∧ ¬ (x < 0 ∧ L x = k)) := rg_H rg200 (fun x => ⟨fun q => q.1, fun q => ⟨q, fun w => by
                rcases q with q | q
                · have := q.1; omega
                · omega⟩⟩)
              clear so xs200 c19
              refine Z_iconst (n := 209) dX4_builds_208 rfl (by decide) ?_
              refine Z_istore (L' := [_, _, _, _, _, _, _]) (n := 211) dX4_builds_209 rfl (by decide) rfl rfl ?_
              have lp211 : ∀ (N211 : Nat) (u : Int) (M211 : zM) (J211 : zJ), ((k - u).toNat) < N211 → (0 ≤ u) → (u ≤ k) → (TI M211 J211) → (ndQ M211 g) → (hdl M M211) → (M211 31 24 ≤ M211 31 8) → (M211 31 27 ≤ M 31 27 + (k + 1)) → (∀ f : Int, 52 ≤ f → f < 56 → M211 43 f = M 43 f) → (∀ j : Int, (j < 48 ∨ 208 ≤ j) → J211 44 j = J 44 j) → (bdJ M211 g k u) → (¬ M211 43 (12 + k) = 0) → (M211 55 = M3 55 ∧ M211 56 = M3 56) → (rgI M J M211 J211 (gF (fun k => M 34 (40 * net + k)) (fun k c => M 35 (3 * (40 * net + k) + c)) (M 39)) (fun x => ((hnd L g k) x ∨ x = k) ∧ ¬ (x < u ∧ L x = k))) → TZ G mX4_builds (tl_rm 4 0 0) 0 0 kRg M J 211 [some (vR 31), some (vI net), some (vI g), some (vI k), some (vI (40 * net + k)), some (vI (12 + k)), some (vI u)] [] F1 M211 J211 (ZM G (zPost G kRg F1 M J (qI (fun x M' J' => TI M' J' ∧ hdl M M' ∧ M' 31 27 ≤ M 31 27 + 40 ∧ (∀ f : Int, 52 ≤ f → f < 56 → M' 43 f = M 43 f) ∧ (∀ j : Int, (j < 48 ∨ 208 ≤ j) → J' 44 j = J 44 j) ∧ ((x = 1 ∧ M' 31 24 ≤ M' 31 8 ∧ ¬ M' 43 (12 + g) = 0 ∧ ∀ y : Int, 0 ≤ y → y < 40 → y ≠ g → M' 43 (12 + y) = 0) ∨ x = 0) ∧ rbX M J (fun k => M 34 (40 * net + k)) (fun k c => M 35 (3 * (40 * net + k) + c)) (M 39) g x J'))) 0 0) := by
                intro N211
                induction N211 with
                | zero => intro u M211 J211 hN; omega
                | succ N211 ih211 =>
                  intro u M211 J211 hN211 i211_0 i211_1 i211_2 i211_3 i211_4 i211_5 i211_6 i211_7 i211_8 i211_9 i211_10 i211_11 i211_12
                  refine Z_iload (n := 213) dX4_builds_211 rfl rfl ?_
                  refine Z_iload_n (n := 214) dX4_builds_213 rfl rfl ?_
                  refine Z_icmp_ge (n := 217) (t := 253) dX4_builds_214 rfl (by decide) (fun c214 => ?_) (fun c214 => ?_)
                  · have eu : u = k := by omega
                    rw [eu] at i211_9 i211_12
                    have b2 := i211_2
                    have b3 := i211_3
                    have b4 := i211_4
                    have b5 := i211_5
                    have b7 := i211_7
                    have b8 := i211_8
                    have b6 : M211 31 27 ≤ M 31 27 + (k + 1) := by omega
                    have b9 := bdI_of i211_9 i211_3
                    have b10 : k + 1 = g + 1 → ¬ M211 43 (12 + g) = 0 := fun q => by rw [show g = k by omega]; exact i211_10
                    have b11 := i211_11
                    have b12 := rg_H i211_12 (fun x => hn_ref ls3 (by omega) (by omega) (by omega) hkL x)
                    have b13 : ∀ j : Int, 0 ≤ j → j < k + 1 → ¬ L j = -1 → okR M J (EH E0 (gF (fun k => M 34 (40 * net + k)) (fun k c => M 35 (3 * (40 * net + k) + c)) (M 39)) (hnd L g j)) ((gF (fun k => M 34 (40 * net + k)) (fun k c => M 35 (3 * (40 * net + k) + c)) (M 39)) j) := fun j a b c => by
                      by_cases e : j = k
                      · rw [e]; exact ok200
                      · exact i8_13 j a (by omega) c
                    refine Z_iinc (L' := [_, _, _, _, _, _, _]) (n := 256) dX4_builds_253 rfl rfl (by decide) rfl rfl (by omega) rfl ?_
                    refine Z_goto (t := 8) dX4_builds_256 (by decide) ?_
                    refine Z_loc (L' := [some _, some _, some _, some _, none, none, none]) (lsub_same (lsub_same (lsub_same (lsub_same (lsub_none (lsub_none (lsub_none lsub_nil))))))) ?_
                    exact ih8 _ _ _ (by omega) (by first | assumption | omega | decide) (by first | assumption | omega | decide) (by exact b2) (by exact b3) (by exact b4) (by exact b5) (by exact b6) (by exact b7) (by exact b8) (by exact b9) (by exact b10) (by exact b11) (by exact b12) (by exact b13)
                  · refine Z_aload_n (n := 218) dX4_builds_217 rfl rfl ?_
                    refine Z_getA (n := 221) dX4_builds_218 rfl ffX4_93 rfl rfl ?_
                    refine Z_iload (n := 223) dX4_builds_221 rfl rfl ?_
                    refine Z_zald (n := 224) dX4_builds_223 rfl rfl rfl (by first | decide | assumption) (by omega) (by omega) (fun r223 s223 => ?_)
                    refine Z_if_eq (n := 227) (t := 247) dX4_builds_224 rfl (by decide) (fun c224 => ?_) (fun c224 => ?_)
                    · have p2 := i211_2
                      have p3 := i211_3
                      have p4 := i211_4
                      have p5 := i211_5
                      have p6 := i211_6
                      have p7 := i211_7
                      have p8 := i211_8
                      have p10 := i211_10
                      have p9 := bdJ_skip i211_9 (Or.inl c224)
                      have p11 := i211_11
                      have hnu : ¬ L u = k := fun q => (ln3 u (by omega) (by omega)).mpr (by omega) (by rw [← i211_11.1]; exact c224)
                      have p12 : rgI M J M211 J211 (gF (fun k => M 34 (40 * net + k)) (fun k c => M 35 (3 * (40 * net + k) + c)) (M 39)) (fun x => ((hnd L g k) x ∨ x = k) ∧ ¬ (x < u + 1 ∧ L x = k)) := rg_H i211_12 (fun x => ⟨fun q => ⟨q.1, fun w => q.2 ⟨by omega, w.2⟩⟩, fun q => ⟨q.1, fun w => by
                        by_cases e : x = u
                        · rw [e] at w; exact hnu w.2
                        · exact q.2 ⟨by omega, w.2⟩⟩⟩)
                      refine Z_iinc (L' := [_, _, _, _, _, _, _]) (n := 250) dX4_builds_247 rfl rfl (by decide) rfl rfl (by omega) rfl ?_
                      refine Z_goto (t := 211) dX4_builds_250 (by decide) ?_
                      refine Z_loc (L' := [some _, some _, some _, some _, some _, some _, some _]) (lsub_same (lsub_same (lsub_same (lsub_same (lsub_same (lsub_same (lsub_same lsub_nil))))))) ?_
                      exact ih211 _ _ _ (by omega) (by first | assumption | omega | decide) (by first | assumption | omega | decide) (by exact p2) (by exact p3) (by exact p4) (by exact p5) (by exact p6) (by exact p7) (by exact p8) (by exact p9) (by exact p10) (by exact p11) (by exact p12)
                    · refine Z_aload_n (n := 228) dX4_builds_227 rfl rfl ?_
                      refine Z_getA (n := 231) dX4_builds_228 rfl ffX4_96 rfl rfl ?_
                      refine Z_iload (n := 233) dX4_builds_231 rfl rfl ?_
                      refine Z_iald (n := 234) dX4_builds_233 rfl rfl rfl (by first | decide | assumption) (by omega) (by omega) (fun r233 s233 => ?_)
                      refine Z_iload_n (n := 235) dX4_builds_234 rfl rfl ?_
                      refine Z_icmp_ne (n := 238) (t := 247) dX4_builds_235 rfl (by decide) (fun c235 => ?_) (fun c235 => ?_)
                      · have p2 := i211_2
                        have p3 := i211_3
                        have p4 := i211_4
                        have p5 := i211_5
                        have p6 := i211_6
                        have p7 := i211_7
                        have p8 := i211_8
                        have p10 := i211_10
                        have p9 := bdJ_skip i211_9 (Or.inr c235)
                        have p11 := i211_11
                        have hnu : ¬ L u = k := fun q => c235 (by rw [i211_11.2]; rw [hL] at q; unfold lrF at q; rw [if_neg (show ¬ u = g by omega)] at q; exact q)
                        have p12 : rgI M J M211 J211 (gF (fun k => M 34 (40 * net + k)) (fun k c => M 35 (3 * (40 * net + k) + c)) (M 39)) (fun x => ((hnd L g k) x ∨ x = k) ∧ ¬ (x < u + 1 ∧ L x = k)) := rg_H i211_12 (fun x => ⟨fun q => ⟨q.1, fun w => q.2 ⟨by omega, w.2⟩⟩, fun q => ⟨q.1, fun w => by
                          by_cases e : x = u
                          · rw [e] at w; exact hnu w.2
                          · exact q.2 ⟨by omega, w.2⟩⟩⟩)
                        refine Z_iinc (L' := [_, _, _, _, _, _, _]) (n := 250) dX4_builds_247 rfl rfl (by decide) rfl rfl (by omega) rfl ?_
                        refine Z_goto (t := 211) dX4_builds_250 (by decide) ?_
                        refine Z_loc (L' := [some _, some _, some _, some _, some _, some _, some _]) (lsub_same (lsub_same (lsub_same (lsub_same (lsub_same (lsub_same (lsub_same lsub_nil))))))) ?_
                        exact ih211 _ _ _ (by omega) (by first | assumption | omega | decide) (by first | assumption | omega | decide) (by exact p2) (by exact p3) (by exact p4) (by exact p5) (by exact p6) (by exact p7) (by exact p8) (by exact p9) (by exact p10) (by exact p11) (by exact p12)
                      · refine Z_aload_n (n := 239) dX4_builds_238 rfl rfl ?_
                        refine Z_bipush (n := 241) dX4_builds_239 rfl (by decide) (by decide) ?_
                        refine Z_iload (n := 243) dX4_builds_241 rfl rfl ?_
                        refine Z_iadd (n := 244) dX4_builds_243 rfl (by omega) ?_
                        refine Z_callVv (n := 247) [_] _ dX4_builds_244 rfl cwX4_179 rfl rfl rfl (Nat.le_of_ble_eq_true rfl) (by refine ⟨?_, ?_, ?_, ?_⟩ <;> exact Nat.le_of_ble_eq_true rfl) (fun a h => by unfold kRg at h; unfold kRv; omega) (zX4_remove  (by omega) (by omega) (by exact i211_2)) ?_
                        intro M244 J244 f244 q244
                        obtain ⟨ti244, ah244, am244, au244, af244⟩ := q244
                        have e244 : ∀ a : Nat, (a = 55 ∨ a = 56) → M244 a = M211 a := fun a ha => (f244 a (by unfold kRv; omega)).1
                        have p2 := ti244
                        have p3 : ndQ M244 g := ndQ_fr i211_3 (e244 55 (by decide)) (e244 56 (by decide))
                        have p4 : hdl M M244 := hdl_t i211_4 (hdl_a af244 (by omega))
                        have p6 : M244 31 27 ≤ M 31 27 + (k + 1) := by omega
                        have p5 : M244 31 24 ≤ M244 31 8 := by rw [af244.2.2 8 (by decide) (by decide) (by decide) (by decide)]; omega
                        have p7 : ∀ f : Int, 52 ≤ f → f < 56 → M244 43 f = M 43 f := fun f a b => ((af244.1 f (by omega)).2).trans (i211_7 f a b)
                        have p8 : ∀ j : Int, (j < 48 ∨ 208 ≤ j) → J244 44 j = J 44 j := fun j hj => (congrFun (f244 44 (by decide)).2 j).trans (i211_8 j hj)
                        have p9 : bdJ M244 g k (u + 1) := bdJ_rm i211_9 ah244 (fun f hf => (af244.1 f hf).2) (e244 55 (by decide)) (e244 56 (by decide))
                        have p10 : ¬ M244 43 (12 + k) = 0 := by rw [(af244.1 (12 + k) (by omega)).2]; exact i211_10
                        have p11 : M244 55 = M3 55 ∧ M244 56 = M3 56 := ⟨(e244 55 (by decide)).trans i211_11.1, (e244 56 (by decide)).trans i211_11.2⟩
                        have hLu : L u = k := by
                          rw [hL]; unfold lrF
                          rw [if_neg (show ¬ u = g by omega), ← i211_11.2]
                          exact c235
                        have p12 : rgI M J M244 J244 (gF (fun k => M 34 (40 * net + k)) (fun k c => M 35 (3 * (40 * net + k) + c)) (M 39)) (fun x => ((hnd L g k) x ∨ x = k) ∧ ¬ (x < u + 1 ∧ L x = k)) := rg_H (rg_rm i211_12 (by omega) (by omega) ah244 af244 (f244 44 (by decide)).2) (fun x => ⟨fun q => ⟨⟨q.1, fun w => q.2 ⟨by omega, w.2⟩⟩, fun e => q.2 ⟨by omega, by rw [e]; exact hLu⟩⟩, fun q => ⟨q.1.1, fun w => by
                          by_cases e : x = u
                          · exact q.2 e
                          · exact q.1.2 ⟨by omega, w.2⟩⟩⟩)
                        refine Z_iinc (L' := [_, _, _, _, _, _, _]) (n := 250) dX4_builds_247 rfl rfl (by decide) rfl rfl (by omega) rfl ?_
                        refine Z_goto (t := 211) dX4_builds_250 (by decide) ?_
                        refine Z_loc (L' := [some _, some _, some _, some _, some _, some _, some _]) (lsub_same (lsub_same (lsub_same (lsub_same (lsub_same (lsub_same (lsub_same lsub_nil))))))) ?_
                        exact ih211 _ _ _ (by omega) (by first | assumption | omega | decide) (by first | assumption | omega | decide) (by exact p2) (by exact p3) (by exact p4) (by exact p5) (by exact p6) (by exact p7) (by exact p8) (by exact p9) (by exact p10) (by exact p11) (by exact p12)
              refine Z_loc (L' := [some _, some _, some _, some _, some _, some _, some _]) (lsub_same (lsub_same (lsub_same (lsub_same (lsub_same (lsub_same (lsub_same lsub_nil))))))) ?_
              exact lp211 _ _ _ _ (Nat.lt_succ_self _) (by first | assumption | omega | decide) (by first | assumption | omega | decide) (by exact ti200) (by exact nd200) (by exact hd200) (by exact us200) (by omega) (by exact hi200) (by exact bi200) (by exact bj200) (by exact ah200) (by exact n55) (by exact rg200')
            · refine Z_iconst (n := 207) dX4_builds_206 rfl (by decide) ?_
              refine Z_zret dX4_builds_207 rfl (by first | assumption | omega | decide) (by first | assumption | omega | decide) ?_
              exact ⟨ti200, hd200, by omega, hi200, bi200, Or.inr rfl, L, ls3, Or.inr ⟨rfl, fun t => (so.resolve_left (fun q => by omega)).2 (t k (by omega) (by omega) hkL)⟩⟩
          refine Z_iload_n (n := 28) dX4_builds_27 rfl rfl ?_
          refine Z_imul (n := 29) dX4_builds_28 rfl (by omega) ?_
          refine Z_iload_n (n := 30) dX4_builds_29 rfl rfl ?_
          refine Z_iadd (n := 31) dX4_builds_30 rfl (by omega) ?_
          refine Z_istore (L' := [_, _, _, _, _, _, _]) (n := 33) dX4_builds_31 rfl (by decide) rfl rfl ?_
          refine Z_bipush (n := 35) dX4_builds_33 rfl (by decide) (by decide) ?_
          refine Z_iload_n (n := 36) dX4_builds_35 rfl rfl ?_
          refine Z_iadd (n := 37) dX4_builds_36 rfl (by omega) ?_
          refine Z_istore (L' := [_, _, _, _, _, _, _]) (n := 39) dX4_builds_37 rfl (by decide) rfl rfl ?_
          refine Z_aload_n (n := 40) dX4_builds_39 rfl rfl ?_
          refine Z_getA (n := 43) dX4_builds_40 rfl ffX4_16 rfl rfl ?_
          refine Z_iload (n := 45) dX4_builds_43 rfl rfl ?_
          refine Z_iald (n := 46) dX4_builds_45 rfl rfl rfl (by first | decide | assumption) (by omega) (by omega) (fun r45 s45 => ?_)
          refine Z_if_ne (n := 49) (t := 67) dX4_builds_46 rfl (by decide) (fun c46 => ?_) (fun c46 => ?_)
          · refine Z_aload_n (n := 68) dX4_builds_67 rfl rfl ?_
            refine Z_getA (n := 71) dX4_builds_68 rfl ffX4_16 rfl rfl ?_
            refine Z_iload (n := 73) dX4_builds_71 rfl rfl ?_
            refine Z_iald (n := 74) dX4_builds_73 rfl rfl rfl (by first | decide | assumption) (by omega) (by omega) (fun r73 s73 => ?_)
            refine Z_bipush (n := 76) dX4_builds_74 rfl (by decide) (by decide) ?_
            refine Z_icmp_ne (n := 79) (t := 128) dX4_builds_76 rfl (by decide) (fun c76 => ?_) (fun c76 => ?_)
            · refine Z_aload_n (n := 129) dX4_builds_128 rfl rfl ?_
              refine Z_iload (n := 131) dX4_builds_129 rfl rfl ?_
              refine Z_aload_n (n := 132) dX4_builds_131 rfl rfl ?_
              refine Z_getA (n := 135) dX4_builds_132 rfl ffX4_16 rfl rfl ?_
              refine Z_iload (n := 137) dX4_builds_135 rfl rfl ?_
              refine Z_iald (n := 138) dX4_builds_137 rfl rfl rfl (by first | decide | assumption) (by omega) (by omega) (fun r137 s137 => ?_)
              refine Z_bipush (n := 140) dX4_builds_138 rfl (by decide) (by decide) ?_
              refine Z_aload_n (n := 141) dX4_builds_140 rfl rfl ?_
              refine Z_getA (n := 144) dX4_builds_141 rfl ffX4_16 rfl rfl ?_
              refine Z_iload (n := 146) dX4_builds_144 rfl rfl ?_
              refine Z_iald (n := 147) dX4_builds_146 rfl rfl rfl (by first | decide | assumption) (by omega) (by omega) (fun r146 s146 => ?_)
              refine Z_iconst (n := 148) dX4_builds_147 rfl (by decide) ?_
              refine Z_icmp_le (n := 151) (t := 163) dX4_builds_148 rfl (by decide) (fun c148 => ?_) (fun c148 => ?_)
              · refine Z_iconst (n := 164) dX4_builds_163 rfl (by decide) ?_
                refine Z_iadd (n := 165) dX4_builds_164 rfl (by omega) ?_
                refine Z_bipush (n := 167) dX4_builds_165 rfl (by decide) (by decide) ?_
                refine Z_aload_n (n := 168) dX4_builds_167 rfl rfl ?_
                refine Z_getA (n := 171) dX4_builds_168 rfl ffX4_16 rfl rfl ?_
                refine Z_iload (n := 173) dX4_builds_171 rfl rfl ?_
                refine Z_iald (n := 174) dX4_builds_173 rfl rfl rfl (by first | decide | assumption) (by omega) (by omega) (fun r173 s173 => ?_)
                refine Z_iconst (n := 175) dX4_builds_174 rfl (by decide) ?_
                refine Z_icmp_le (n := 178) (t := 192) dX4_builds_175 rfl (by decide) (fun c175 => ?_) (fun c175 => ?_)
                · refine Z_iconst (n := 193) dX4_builds_192 rfl (by decide) ?_
                  refine Z_iadd (n := 194) dX4_builds_193 rfl (by omega) ?_
                  refine Z_callVv (n := 197) [_, _, _, _] _ dX4_builds_194 rfl cwX4_204 rfl rfl rfl (Nat.le_of_ble_eq_true rfl) (by refine ⟨?_, ?_, ?_, ?_⟩ <;> exact Nat.le_of_ble_eq_true rfl) (fun a h => by unfold kRg at h; unfold kBits; omega) (zX4_makeOf_f  (by omega) (by omega) (by omega) (by omega) (by omega) (by omega)) ?_
                  intro M194 J194 f194 q194
                  obtain ⟨e194_1, vb194, vo194⟩ := q194
                  replace e194_1 := e194_1.symm; subst e194_1
                  have hF197 : phi J194 (12 + k) = (gF (fun k => M 34 (40 * net + k)) (fun k c => M 35 (3 * (40 * net + k) + c)) (M 39)) k := by
                    refine (phi_of (by omega) (by omega) vb194).trans ?_
                    rw [gF_eq (m := M 32 net) (fun q a b c c0 c1 => (hN.1 q a b).1 c c0 c1) (by omega) (by omega)]
                    unfold gst
                    dsimp only
                    rw [if_neg (show ¬ M 34 (40 * net + k) = 0 by rw [← e34]; exact c46)]
                    funext r
                    rw [e34]
                    refine of_gst (by omega) (by omega) (fun q => ?_) (fun q => ?_)
                    · first
                        | (have z := hat 0 (by decide) (op_a q); rw [Int.add_zero] at z; rw [e35, z, Int.add_zero]; done)
                        | (exfalso; omega)
                    · first
                        | (have z := hat 1 (by decide) (op_b q); rw [e35, z]; done)
                        | (exfalso; omega)
                  refine Z_loc (L' := [some _, some _, some _, some _, some _, some _, none]) (lsub_same (lsub_same (lsub_same (lsub_same (lsub_same (lsub_same (lsub_none lsub_nil))))))) ?_
                  exact ct197  _ _ (by first | rfl | assumption) (by first | exact (f61 48 (by decide)).2 | exact (f122 48 (by decide)).2 | exact (f194 48 (by decide)).2) (by first | exact vo61 | exact vo122 | exact vo194) (by exact hF197)
                · have hp1 := ho1 (op_b (by omega))
                  refine Z_aload_n (n := 179) dX4_builds_178 rfl rfl ?_
                  refine Z_getA (n := 182) dX4_builds_179 rfl ffX4_19 rfl rfl ?_
                  refine Z_iconst (n := 183) dX4_builds_182 rfl (by decide) ?_
                  refine Z_iload (n := 185) dX4_builds_183 rfl rfl ?_
                  refine Z_imul (n := 186) dX4_builds_185 rfl (by omega) ?_
                  refine Z_iconst (n := 187) dX4_builds_186 rfl (by decide) ?_
                  refine Z_iadd (n := 188) dX4_builds_187 rfl (by omega) ?_
                  refine Z_iald (n := 189) dX4_builds_188 rfl rfl rfl (by first | decide | assumption) (by omega) (by omega) (fun r188 s188 => ?_)
                  refine Z_goto (t := 193) dX4_builds_189 (by decide) ?_
                  refine Z_iadd (n := 194) dX4_builds_193 rfl (by omega) ?_
                  refine Z_callVv (n := 197) [_, _, _, _] _ dX4_builds_194 rfl cwX4_204 rfl rfl rfl (Nat.le_of_ble_eq_true rfl) (by refine ⟨?_, ?_, ?_, ?_⟩ <;> exact Nat.le_of_ble_eq_true rfl) (fun a h => by unfold kRg at h; unfold kBits; omega) (zX4_makeOf_f  (by omega) (by omega) (by omega) (by omega) (by omega) (by omega)) ?_
                  intro M194 J194 f194 q194
                  obtain ⟨e194_1, vb194, vo194⟩ := q194
                  replace e194_1 := e194_1.symm; subst e194_1
                  have hF197 : phi J194 (12 + k) = (gF (fun k => M 34 (40 * net + k)) (fun k c => M 35 (3 * (40 * net + k) + c)) (M 39)) k := by
                    refine (phi_of (by omega) (by omega) vb194).trans ?_
                    rw [gF_eq (m := M 32 net) (fun q a b c c0 c1 => (hN.1 q a b).1 c c0 c1) (by omega) (by omega)]
                    unfold gst
                    dsimp only
                    rw [if_neg (show ¬ M 34 (40 * net + k) = 0 by rw [← e34]; exact c46)]
                    funext r
                    rw [e34]
                    refine of_gst (by omega) (by omega) (fun q => ?_) (fun q => ?_)
                    · first
                        | (have z := hat 0 (by decide) (op_a q); rw [Int.add_zero] at z; rw [e35, z, Int.add_zero]; done)
                        | (exfalso; omega)
                    · first
                        | (have z := hat 1 (by decide) (op_b q); rw [e35, z]; done)
                        | (exfalso; omega)
                  refine Z_loc (L' := [some _, some _, some _, some _, some _, some _, none]) (lsub_same (lsub_same (lsub_same (lsub_same (lsub_same (lsub_same (lsub_none lsub_nil))))))) ?_
                  exact ct197  _ _ (by first | rfl | assumption) (by first | exact (f61 48 (by decide)).2 | exact (f122 48 (by decide)).2 | exact (f194 48 (by decide)).2) (by first | exact vo61 | exact vo122 | exact vo194) (by exact hF197)
              · have hp0 := ho0 (op_a (by omega))
                refine Z_aload_n (n := 152) dX4_builds_151 rfl rfl ?_
                refine Z_getA (n := 155) dX4_builds_152 rfl ffX4_19 rfl rfl ?_
                refine Z_iconst (n := 156) dX4_builds_155 rfl (by decide) ?_
                refine Z_iload (n := 158) dX4_builds_156 rfl rfl ?_
                refine Z_imul (n := 159) dX4_builds_158 rfl (by omega) ?_
                refine Z_iald (n := 160) dX4_builds_159 rfl rfl rfl (by first | decide | assumption) (by omega) (by omega) (fun r159 s159 => ?_)
                refine Z_goto (t := 164) dX4_builds_160 (by decide) ?_
                refine Z_iadd (n := 165) dX4_builds_164 rfl (by omega) ?_
                refine Z_bipush (n := 167) dX4_builds_165 rfl (by decide) (by decide) ?_
                refine Z_aload_n (n := 168) dX4_builds_167 rfl rfl ?_
                refine Z_getA (n := 171) dX4_builds_168 rfl ffX4_16 rfl rfl ?_
                refine Z_iload (n := 173) dX4_builds_171 rfl rfl ?_
                refine Z_iald (n := 174) dX4_builds_173 rfl rfl rfl (by first | decide | assumption) (by omega) (by omega) (fun r173 s173 => ?_)
                refine Z_iconst (n := 175) dX4_builds_174 rfl (by decide) ?_
                refine Z_icmp_le (n := 178) (t := 192) dX4_builds_175 rfl (by decide) (fun c175 => ?_) (fun c175 => ?_)
                · refine Z_iconst (n := 193) dX4_builds_192 rfl (by decide) ?_
                  refine Z_iadd (n := 194) dX4_builds_193 rfl (by omega) ?_
                  refine Z_callVv (n := 197) [_, _, _, _] _ dX4_builds_194 rfl cwX4_204 rfl rfl rfl (Nat.le_of_ble_eq_true rfl) (by refine ⟨?_, ?_, ?_, ?_⟩ <;> exact Nat.le_of_ble_eq_true rfl) (fun a h => by unfold kRg at h; unfold kBits; omega) (zX4_makeOf_f  (by omega) (by omega) (by omega) (by omega) (by omega) (by omega)) ?_
                  intro M194 J194 f194 q194
                  obtain ⟨e194_1, vb194, vo194⟩ := q194
                  replace e194_1 := e194_1.symm; subst e194_1
                  have hF197 : phi J194 (12 + k) = (gF (fun k => M 34 (40 * net + k)) (fun k c => M 35 (3 * (40 * net + k) + c)) (M 39)) k := by
                    refine (phi_of (by omega) (by omega) vb194).trans ?_
                    rw [gF_eq (m := M 32 net) (fun q a b c c0 c1 => (hN.1 q a b).1 c c0 c1) (by omega) (by omega)]
                    unfold gst
                    dsimp only
                    rw [if_neg (show ¬ M 34 (40 * net + k) = 0 by rw [← e34]; exact c46)]
                    funext r
                    rw [e34]
                    refine of_gst (by omega) (by omega) (fun q => ?_) (fun q => ?_)
                    · first
                        | (have z := hat 0 (by decide) (op_a q); rw [Int.add_zero] at z; rw [e35, z, Int.add_zero]; done)
                        | (exfalso; omega)
                    · first
                        | (have z := hat 1 (by decide) (op_b q); rw [e35, z]; done)
                        | (exfalso; omega)
                  refine Z_loc (L' := [some _, some _, some _, some _, some _, some _, none]) (lsub_same (lsub_same (lsub_same (lsub_same (lsub_same (lsub_same (lsub_none lsub_nil))))))) ?_
                  exact ct197  _ _ (by first | rfl | assumption) (by first | exact (f61 48 (by decide)).2 | exact (f122 48 (by decide)).2 | exact (f194 48 (by decide)).2) (by first | exact vo61 | exact vo122 | exact vo194) (by exact hF197)
                · have hp1 := ho1 (op_b (by omega))
                  refine Z_aload_n (n := 179) dX4_builds_178 rfl rfl ?_
                  refine Z_getA (n := 182) dX4_builds_179 rfl ffX4_19 rfl rfl ?_
                  refine Z_iconst (n := 183) dX4_builds_182 rfl (by decide) ?_
                  refine Z_iload (n := 185) dX4_builds_183 rfl rfl ?_
                  refine Z_imul (n := 186) dX4_builds_185 rfl (by omega) ?_
                  refine Z_iconst (n := 187) dX4_builds_186 rfl (by decide) ?_
                  refine Z_iadd (n := 188) dX4_builds_187 rfl (by omega) ?_
                  refine Z_iald (n := 189) dX4_builds_188 rfl rfl rfl (by first | decide | assumption) (by omega) (by omega) (fun r188 s188 => ?_)
                  refine Z_goto (t := 193) dX4_builds_189 (by decide) ?_
                  refine Z_iadd (n := 194) dX4_builds_193 rfl (by omega) ?_
                  refine Z_callVv (n := 197) [_, _, _, _] _ dX4_builds_194 rfl cwX4_204 rfl rfl rfl (Nat.le_of_ble_eq_true rfl) (by refine ⟨?_, ?_, ?_, ?_⟩ <;> exact Nat.le_of_ble_eq_true rfl) (fun a h => by unfold kRg at h; unfold kBits; omega) (zX4_makeOf_f  (by omega) (by omega) (by omega) (by omega) (by omega) (by omega)) ?_
                  intro M194 J194 f194 q194
                  obtain ⟨e194_1, vb194, vo194⟩ := q194
                  replace e194_1 := e194_1.symm; subst e194_1
                  have hF197 : phi J194 (12 + k) = (gF (fun k => M 34 (40 * net + k)) (fun k c => M 35 (3 * (40 * net + k) + c)) (M 39)) k := by
                    refine (phi_of (by omega) (by omega) vb194).trans ?_
                    rw [gF_eq (m := M 32 net) (fun q a b c c0 c1 => (hN.1 q a b).1 c c0 c1) (by omega) (by omega)]
                    unfold gst
                    dsimp only
                    rw [if_neg (show ¬ M 34 (40 * net + k) = 0 by rw [← e34]; exact c46)]
                    funext r
                    rw [e34]
                    refine of_gst (by omega) (by omega) (fun q => ?_) (fun q => ?_)
                    · first
                        | (have z := hat 0 (by decide) (op_a q); rw [Int.add_zero] at z; rw [e35, z, Int.add_zero]; done)
                        | (exfalso; omega)
                    · first
                        | (have z := hat 1 (by decide) (op_b q); rw [e35, z]; done)
                        | (exfalso; omega)
                  refine Z_loc (L' := [some _, some _, some _, some _, some _, some _, none]) (lsub_same (lsub_same (lsub_same (lsub_same (lsub_same (lsub_same (lsub_none lsub_nil))))))) ?_
                  exact ct197  _ _ (by first | rfl | assumption) (by first | exact (f61 48 (by decide)).2 | exact (f122 48 (by decide)).2 | exact (f194 48 (by decide)).2) (by first | exact vo61 | exact vo122 | exact vo194) (by exact hF197)
            · have hq3 : opF (M8 34 (40 * net + k)) = 3 := by rw [c76]; rfl
              have hp0 := ho0 (by omega)
              have hp1 := ho1 (by omega)
              have hp2 := ho2 (by omega)
              refine Z_aload_n (n := 80) dX4_builds_79 rfl rfl ?_
              refine Z_iload (n := 82) dX4_builds_80 rfl rfl ?_
              refine Z_bipush (n := 84) dX4_builds_82 rfl (by decide) (by decide) ?_
              refine Z_aload_n (n := 85) dX4_builds_84 rfl rfl ?_
              refine Z_getA (n := 88) dX4_builds_85 rfl ffX4_19 rfl rfl ?_
              refine Z_iconst (n := 89) dX4_builds_88 rfl (by decide) ?_
              refine Z_iload (n := 91) dX4_builds_89 rfl rfl ?_
              refine Z_imul (n := 92) dX4_builds_91 rfl (by omega) ?_
              refine Z_iald (n := 93) dX4_builds_92 rfl rfl rfl (by first | decide | assumption) (by omega) (by omega) (fun r92 s92 => ?_)
              refine Z_iadd (n := 94) dX4_builds_93 rfl (by omega) ?_
              refine Z_bipush (n := 96) dX4_builds_94 rfl (by decide) (by decide) ?_
              refine Z_aload_n (n := 97) dX4_builds_96 rfl rfl ?_
              refine Z_getA (n := 100) dX4_builds_97 rfl ffX4_19 rfl rfl ?_
              refine Z_iconst (n := 101) dX4_builds_100 rfl (by decide) ?_
              refine Z_iload (n := 103) dX4_builds_101 rfl rfl ?_
              refine Z_imul (n := 104) dX4_builds_103 rfl (by omega) ?_
              refine Z_iconst (n := 105) dX4_builds_104 rfl (by decide) ?_
              refine Z_iadd (n := 106) dX4_builds_105 rfl (by omega) ?_
              refine Z_iald (n := 107) dX4_builds_106 rfl rfl rfl (by first | decide | assumption) (by omega) (by omega) (fun r106 s106 => ?_)
              refine Z_iadd (n := 108) dX4_builds_107 rfl (by omega) ?_
              refine Z_bipush (n := 110) dX4_builds_108 rfl (by decide) (by decide) ?_
              refine Z_aload_n (n := 111) dX4_builds_110 rfl rfl ?_
              refine Z_getA (n := 114) dX4_builds_111 rfl ffX4_19 rfl rfl ?_
              refine Z_iconst (n := 115) dX4_builds_114 rfl (by decide) ?_
              refine Z_iload (n := 117) dX4_builds_115 rfl rfl ?_
              refine Z_imul (n := 118) dX4_builds_117 rfl (by omega) ?_
              refine Z_iconst (n := 119) dX4_builds_118 rfl (by decide) ?_
              refine Z_iadd (n := 120) dX4_builds_119 rfl (by omega) ?_
              refine Z_iald (n := 121) dX4_builds_120 rfl rfl rfl (by first | decide | assumption) (by omega) (by omega) (fun r120 s120 => ?_)
              refine Z_iadd (n := 122) dX4_builds_121 rfl (by omega) ?_
              refine Z_callVv (n := 125) [_, _, _, _] _ dX4_builds_122 rfl cwX4_200 rfl rfl rfl (Nat.le_of_ble_eq_true rfl) (by refine ⟨?_, ?_, ?_, ?_⟩ <;> exact Nat.le_of_ble_eq_true rfl) (fun a h => by unfold kRg at h; unfold kBits; omega) (zX4_makeChoice  (by omega) (by omega) (by omega) (by omega) (by omega) (by omega) (by omega) (by omega)) ?_
              intro M122 J122 f122 q122
              obtain ⟨e122_1, vb122, vo122⟩ := q122
              replace e122_1 := e122_1.symm; subst e122_1
              have hF197 : phi J122 (12 + k) = (gF (fun k => M 34 (40 * net + k)) (fun k c => M 35 (3 * (40 * net + k) + c)) (M 39)) k := by
                refine (phi_ch vb122).trans ?_
                have e10 : M 34 (40 * net + k) = 10 := by rw [← e34]; exact c76
                have q3 : opF (M 34 (40 * net + k)) = 3 := by rw [e10]; rfl
                have a0 := hat 0 (by decide) (by omega)
                have a1 := hat 1 (by decide) (by omega)
                have a2 := hat 2 (by decide) (by omega)
                rw [Int.add_zero] at a0
                rw [gF_eq (m := M 32 net) (fun q a b c c0 c1 => (hN.1 q a b).1 c c0 c1) (by omega) (by omega)]
                unfold gst
                dsimp only
                rw [if_neg (show ¬ M 34 (40 * net + k) = 0 by omega), q3]
                funext r
                rw [if_pos (show (0 : Int) < 3 by decide), if_pos (show (1 : Int) < 3 by decide), if_pos (show (2 : Int) < 3 by decide), e10, Int.add_zero, e35, e35, e35, a0, a1, a2]
              refine Z_goto (t := 197) dX4_builds_125 (by decide) ?_
              refine Z_loc (L' := [some _, some _, some _, some _, some _, some _, none]) (lsub_same (lsub_same (lsub_same (lsub_same (lsub_same (lsub_same (lsub_none lsub_nil))))))) ?_
              exact ct197  _ _ (by first | rfl | assumption) (by first | exact (f61 48 (by decide)).2 | exact (f122 48 (by decide)).2 | exact (f194 48 (by decide)).2) (by first | exact vo61 | exact vo122 | exact vo194) (by exact hF197)
          · have hv := hgt.2 c46
            refine Z_aload_n (n := 50) dX4_builds_49 rfl rfl ?_
            refine Z_iload (n := 52) dX4_builds_50 rfl rfl ?_
            refine Z_aload_n (n := 53) dX4_builds_52 rfl rfl ?_
            refine Z_getA (n := 56) dX4_builds_53 rfl ffX4_19 rfl rfl ?_
            refine Z_iconst (n := 57) dX4_builds_56 rfl (by decide) ?_
            refine Z_iload (n := 59) dX4_builds_57 rfl rfl ?_
            refine Z_imul (n := 60) dX4_builds_59 rfl (by omega) ?_
            refine Z_iald (n := 61) dX4_builds_60 rfl rfl rfl (by first | decide | assumption) (by omega) (by omega) (fun r60 s60 => ?_)
            refine Z_callVv (n := 64) [_, _] _ dX4_builds_61 rfl cwX4_197 rfl rfl rfl (Nat.le_of_ble_eq_true rfl) (by refine ⟨?_, ?_, ?_, ?_⟩ <;> exact Nat.le_of_ble_eq_true rfl) (fun a h => by unfold kRg at h; unfold kBits; omega) (zX4_makeVariable  (by omega) (by omega) (by omega) (by omega)) ?_
            intro M61 J61 f61 q61
            obtain ⟨e61_1, vb61, vo61⟩ := q61
            replace e61_1 := e61_1.symm; subst e61_1
            have hF197 : phi J61 (12 + k) = (gF (fun k => M 34 (40 * net + k)) (fun k c => M 35 (3 * (40 * net + k) + c)) (M 39)) k := by
              have w : -1 ≤ M8 39 (M8 35 (3 * (40 * net + k))) ∧ M8 39 (M8 35 (3 * (40 * net + k))) ≤ 7 := ok8 39 _
              have p0 : 0 ≤ M8 39 (M8 35 (3 * (40 * net + k))) := by rw [(fr8 39 (by decide)).1]; exact hO _ hv.1 hv.2
              refine (phi_var p0 w.2 hW8 vb61).trans ?_
              rw [gF_eq (m := M 32 net) (fun q a b c c0 c1 => (hN.1 q a b).1 c c0 c1) (by omega) (by omega)]
              unfold gst
              dsimp only
              rw [if_pos (show M 34 (40 * net + k) = 0 by rw [← e34]; exact c46), (fr8 39 (by decide)).1, e35, Int.add_zero]
            refine Z_goto (t := 197) dX4_builds_64 (by decide) ?_
            refine Z_loc (L' := [some _, some _, some _, some _, some _, some _, none]) (lsub_same (lsub_same (lsub_same (lsub_same (lsub_same (lsub_same (lsub_none lsub_nil))))))) ?_
            exact ct197  _ _ (by first | rfl | assumption) (by first | exact (f61 48 (by decide)).2 | exact (f122 48 (by decide)).2 | exact (f194 48 (by decide)).2) (by first | exact vo61 | exact vo122 | exact vo194) (by exact hF197)
        · have b2 := i8_2
          have b3 := i8_3
          have b4 := i8_4
          have b5 := i8_5
          have b7 := i8_7
          have b8 := i8_8
          have b6 : M8 31 27 ≤ M 31 27 + (k + 1) := by omega
          have b9 := bdI_skip i8_9 i8_3 c19
          have hkL : L k = -1 := by
            by_cases q : L k = -1
            · exact q
            · exact absurd (by rw [← i8_11.1]; exact c19) ((ln3 k (by omega) (by omega)).mpr q)
          have b11 := i8_11
          have b12 := rg_H i8_12 (fun x => hn_skip ls3 (by omega) (by omega) hkL x)
          have b13 : ∀ j : Int, 0 ≤ j → j < k + 1 → ¬ L j = -1 → okR M J (EH E0 (gF (fun k => M 34 (40 * net + k)) (fun k c => M 35 (3 * (40 * net + k) + c)) (M 39)) (hnd L g j)) ((gF (fun k => M 34 (40 * net + k)) (fun k c => M 35 (3 * (40 * net + k) + c)) (M 39)) j) := fun j a b c => by
            by_cases e : j = k
            · exact absurd (by rw [e]; exact hkL) c
            · exact i8_13 j a (by omega) c
          have b10 : k + 1 = g + 1 → ¬ M8 43 (12 + g) = 0 := fun q => by
            rw [show k = g by omega] at c19
            exact absurd c19 i8_3.1
          refine Z_goto (t := 253) dX4_builds_22 (by decide) ?_
          refine Z_iinc (L' := [_, _, _, _, _, _, _]) (n := 256) dX4_builds_253 rfl rfl (by decide) rfl rfl (by omega) rfl ?_
          refine Z_goto (t := 8) dX4_builds_256 (by decide) ?_
          refine Z_loc (L' := [some _, some _, some _, some _, none, none, none]) (lsub_same (lsub_same (lsub_same (lsub_same (lsub_none (lsub_none (lsub_none lsub_nil))))))) ?_
          exact ih8 _ _ _ (by omega) (by first | assumption | omega | decide) (by first | assumption | omega | decide) (by exact b2) (by exact b3) (by exact b4) (by exact b5) (by exact b6) (by exact b7) (by exact b8) (by exact b9) (by exact b10) (by exact b11) (by exact b12) (by exact b13)
  refine Z_loc (L' := [some _, some _, some _, some _, none, none, none]) (lsub_same (lsub_same (lsub_same (lsub_same (lsub_none (lsub_none (lsub_none lsub_nil))))))) ?_
  exact lp8 _ _ _ _ (Nat.lt_succ_self _) (by first | assumption | omega | decide) (by first | assumption | omega | decide) (by exact ti3) (by exact nd3) (by exact hd3) (by exact us3) (by exact mk3) (by exact hi3) (by exact bi3) (by exact bd3) (by exact fun q => by omega) (by exact ⟨rfl, rfl⟩) (by exact rg3) (by exact fun j a b => by omega)
