/-! ===== the class: collect, a step ===== -/
abbrev kSt1 (a : Nat) : Prop := (0 < a ∧ a < 5) ∨ 11 < a
/-- what is held: by handles, by gates, kept -/
def rt (M : zM) (x : Int) : Prop := (∃ h : Int, (0 ≤ h ∧ h < 12) ∧ x = M 12 h) ∨ (∃ g : Int, (0 ≤ g ∧ g < 40) ∧ x = M 13 g) ∨ ∃ k : Int, (0 ≤ k ∧ k < M 0 7) ∧ x = M 15 k
def rtO (M : zM) (S : Int → Prop) : Prop := ∀ x : Int, rt M x → x = -1 ∨ okN S x
/-- labels that are in use -/
def LBc (M : zM) (y : Lb) : Prop := ∃ x : Int, rt M x ∧ ¬ x = -1 ∧ laid (den M x) y
theorem rt_cg {M M1 : zM} (h12 : M1 12 = M 12) (h13 : M1 13 = M 13) (h15 : M1 15 = M 15) (h07 : M1 0 7 = M 0 7) : rt M1 = rt M := by
  funext x
  unfold rt
  rw [h12, h13, h15, h07]
theorem LBc_cg {M M1 : zM} (h6 : M1 6 = M 6) (h7 : M1 7 = M 7) (h8 : M1 8 = M 8) (hr : rt M1 = rt M) : LBc M1 = LBc M := by
  funext y
  unfold LBc
  rw [hr, den_cg h6 h7 h8]
theorem laid_const {F : FN} {c : Int} {y : Lb} (h : ∀ r, F r = c) : ¬ laid F y := by
  rintro ⟨-, ⟨s, e⟩, r, q⟩
  refine q ?_
  rw [e]
  dsimp only
  rw [h, h]
theorem laid_neg {M : zM} {n : Int} {y : Lb} (h : n < 2) : ¬ laid (den M n) y := laid_const (c := if n = 1 then 1 else 0) (fun r => den_lt h)
/-- marks on the way -/
def c3 (M : zM) (S : Int → Prop) (w : Int → Int) : Prop := (∀ m : Int, 2 ≤ m → m < 252 → w m = 0 ∨ (w m = 1 ∧ S m ∧ LBc M (lab M m))) ∧ Clw M S 1 0 w
theorem zo01 : zor 0 1 = 1 ∧ zor 1 1 = 1 ∧ zand 0 1 = 0 ∧ zand 1 1 = 1 := by decide +kernel
theorem c3_0 {M : zM} {S : Int → Prop} {w : Int → Int} (hp : pst M S) (h : ∀ m : Int, 0 ≤ m → m < 252 → w m = 0) : c3 M S w := by
  refine ⟨fun m m0 m1 => Or.inl (h m (by omega) m1), fun m hm _ hk => ?_⟩
  have := (hp.2.1 m hm).1
  unfold mkw at hk
  rw [h m (by omega) (by omega), zo01.2.2.1] at hk
  exact absurd rfl hk
theorem c3_st {M : zM} {S : Int → Prop} {w w' : Int → Int} {x : Int} (h : c3 M S w) (hx : rt M x) (hm : mkR M S 1 x 0 w w') (hw : ∀ m, 0 ≤ w m ∧ w m ≤ 3) : c3 M S w' ∧ okw w' 1 x ∧ ∀ c : Int, okw w 1 c → okw w' 1 c := by
  refine ⟨⟨fun m m0 m1 => ?_, hm.2.2⟩, ?_, fun c q => q.imp_right (fun z => mkR_mono hm hw (Or.inl rfl) z)⟩
  · rcases hm.1 m with e | ⟨e, e1, e2⟩
    · rw [e]; exact h.1 m m0 m1
    · right
      have hx1 : ¬ x = -1 := fun z => by
        rw [z] at e2
        exact laid_neg (by decide) e2
      refine ⟨?_, e1, x, hx, hx1, e2⟩
      rw [e]
      rcases h.1 m m0 m1 with z | ⟨z, -⟩
      · rw [z]; exact zo01.1
      · rw [z]; exact zo01.2.1
  · by_cases q : x < 2
    · exact Or.inl q
    · exact Or.inr (hm.2.1 (by omega))
/-- behind the marks: just the marked ones are in use -/
theorem c3_C {M : zM} {S : Int → Prop} {w : Int → Int} (hp : pst M S) (h : c3 M S w) : (∀ n : Int, mC w n → S n ∧ okN (mC w) (M 7 n) ∧ okN (mC w) (M 8 n)) ∧ (∀ n : Int, mC w n → LBc M (lab M n)) ∧ ∀ c : Int, okN S c → okw w 1 c → okN (mC w) c := by
  have hS : ∀ n : Int, mC w n → S n ∧ LBc M (lab M n) ∧ w n = 1 := fun n hn => by
    rcases h.1 n hn.1.1 hn.1.2 with e | ⟨e, a, b⟩
    · exact absurd e hn.2
    · exact ⟨a, b, e⟩
  have up : ∀ c : Int, okN S c → okw w 1 c → okN (mC w) c := fun c hc q => by
    have ci := okN_in hp hc
    rcases q with q | q
    · rcases (show c = 0 ∨ c = 1 by omega) with z | z
      · exact Or.inl z
      · exact Or.inr (Or.inl z)
    · by_cases z : c < 2
      · rcases (show c = 0 ∨ c = 1 by omega) with z | z
        · exact Or.inl z
        · exact Or.inr (Or.inl z)
      · refine Or.inr (Or.inr ⟨⟨by omega, ci.2⟩, fun t => q ?_⟩)
        rw [t]
        exact zo01.2.2.1
  refine ⟨fun n hn => ?_, fun n hn => (hS n hn).2.1, up⟩
  obtain ⟨a, b, c⟩ := hS n hn
  obtain ⟨-, p, -, q1, q2⟩ := hp.2.1 n a
  have z := h.2 n a p.1 (by unfold mkw; rw [c, zo01.2.2.2]; decide)
  exact ⟨a, up _ q1.1 z.1, up _ q2.1 z.2⟩
/-- behind collect -/
def clQ (M M' : zM) : Prop := ∃ S' : Int → Prop, plo M' S' ∧ rtO M' S' ∧ (∀ n : Int, S' n → LBc M' (lab M' n)) ∧ M' 5 8 = M 5 8
theorem cl_cnt {M : zM} {S : Int → Prop} (h : plo M S) (hr : rtO M S) (hl : ∀ n : Int, S n → LBc M (lab M n)) : cnt (LBc M) (M 5 7) := by
  obtain ⟨hp, ch, fl, -, -, -, h6⟩ := h
  rw [h6]
  refine cnt_hr (g := lab M) (fun a b a0 a1 b0 b1 ha hb e => lab_inj hp (ind_nz.mp ha) (ind_nz.mp hb) e) (fun a a0 a1 ha => hl a (ind_nz.mp ha)) (fun y hy => ?_)
  obtain ⟨x, hx, hx1, hly⟩ := hy
  obtain ⟨n, hn, e⟩ := laid_in hp (fun n hn => ⟨hn, (hp.2.1 n hn).2.2.2.1.1, (hp.2.1 n hn).2.2.2.2.1⟩) ((hr x hx).resolve_left hx1) hly
  have := (hp.2.1 n hn).1
  exact ⟨n, by omega, by omega, ind_nz.mpr hn, e⟩
set_option maxRecDepth 20000 in
theorem zX3_collect_f {G : tl_G} {M : zM} {J : zJ} {S : Int → Prop} (hS : plo M S) (hR : rtO M S) : ZN G yX3_collect mX3_collect 10 kColl [vR 0] F1 M J (qV (fun M' J' => J' = J ∧ clQ M M')) := by
  refine ZN_of (L := [_, _]) (by decide) rfl rfl (Nat.le_of_ble_eq_true rfl) rfl (fun hav => ?_)
  refine Z_aload_n (n := 1) dX3_collect_0 rfl rfl ?_
  refine Z_getO (n := 4) dX3_collect_1 rfl ffX3_25 rfl rfl ?_
  refine Z_callVv (n := 7) [] _ dX3_collect_4 rfl cwX3_217 rfl rfl rfl (Nat.le_of_ble_eq_true rfl) (by refine ⟨?_, ?_, ?_, ?_⟩ <;> exact Nat.le_of_ble_eq_true rfl) (fun _ h => h) (zX2_unmark  (by decide)) ?_
  intro M4 J4 f4 q4
  obtain ⟨e4_1, e4_2⟩ := q4
  replace e4_1 := e4_1.symm; subst e4_1
  replace e4_2 := e4_2.symm; subst e4_2
  refine Z_iconst (n := 8) dX3_collect_7 rfl (by decide) ?_
  refine Z_istore_n (L' := [_, _]) (n := 9) dX3_collect_8 rfl (by decide) rfl rfl ?_
  have lp9 : ∀ (N9 : Nat) (h : Int) (M9 : zM) (J9 : zJ), ((12 - h).toNat) < N9 → (J9 = J) → (0 ≤ h) → (h ≤ 12) → (∀ a : Nat, ¬ a = 9 → M9 a = M a) → (c3 M S (M9 9)) → (∀ j : Int, 0 ≤ j → j < h → okw (M9 9) 1 (M 12 j)) → TZ G mX3_collect (tl_rm 10 0 0) 0 0 kColl M J 9 [some (vR 0), some (vI h)] [] F1 M9 J9 (ZM G (zPost G kColl F1 M J (qV (fun M' J' => J' = J ∧ clQ M M'))) 0 0) := by
    intro N9
    induction N9 with
    | zero => intro h M9 J9 hN; omega
    | succ N9 ih9 =>
      intro h M9 J9 hN9 i9_0 i9_1 i9_2 i9_3 i9_4 i9_5
      refine Z_iload_n (n := 10) dX3_collect_9 rfl rfl ?_
      refine Z_bipush (n := 12) dX3_collect_10 rfl (by decide) (by decide) ?_
      refine Z_icmp_ge (n := 15) (t := 34) dX3_collect_12 rfl (by decide) (fun c12 => ?_) (fun c12 => ?_)
      · refine Z_iconst (n := 35) dX3_collect_34 rfl (by decide) ?_
        refine Z_istore_n (L' := [_, _]) (n := 36) dX3_collect_35 rfl (by decide) rfl rfl ?_
        have lp36 : ∀ (N36 : Nat) (g : Int) (M36 : zM) (J36 : zJ), ((40 - g).toNat) < N36 → (J36 = J) → (0 ≤ g) → (g ≤ 40) → (∀ a : Nat, ¬ a = 9 → M36 a = M a) → (c3 M S (M36 9)) → (∀ j : Int, 0 ≤ j → j < 12 → okw (M36 9) 1 (M 12 j)) → (∀ j : Int, 0 ≤ j → j < g → okw (M36 9) 1 (M 13 j)) → TZ G mX3_collect (tl_rm 10 0 0) 0 0 kColl M J 36 [some (vR 0), some (vI g)] [] F1 M36 J36 (ZM G (zPost G kColl F1 M J (qV (fun M' J' => J' = J ∧ clQ M M'))) 0 0) := by
          intro N36
          induction N36 with
          | zero => intro g M36 J36 hN; omega
          | succ N36 ih36 =>
            intro g M36 J36 hN36 i36_0 i36_1 i36_2 i36_3 i36_4 i36_5 i36_6
            refine Z_iload_n (n := 37) dX3_collect_36 rfl rfl ?_
            refine Z_bipush (n := 39) dX3_collect_37 rfl (by decide) (by decide) ?_
            refine Z_icmp_ge (n := 42) (t := 61) dX3_collect_39 rfl (by decide) (fun c39 => ?_) (fun c39 => ?_)
            · refine Z_iconst (n := 62) dX3_collect_61 rfl (by decide) ?_
              refine Z_istore_n (L' := [_, _]) (n := 63) dX3_collect_62 rfl (by decide) rfl rfl ?_
              have lp63 : ∀ (N63 : Nat) (q : Int) (M63 : zM) (J63 : zJ), ((8 - q).toNat) < N63 → (J63 = J) → (0 ≤ q) → (q ≤ 8) → (∀ a : Nat, ¬ a = 9 → M63 a = M a) → (c3 M S (M63 9)) → (∀ j : Int, 0 ≤ j → j < 12 → okw (M63 9) 1 (M 12 j)) → (∀ j : Int, 0 ≤ j → j < 40 → okw (M63 9) 1 (M 13 j)) → (∀ j : Int, 0 ≤ j → j < q → okw (M63 9) 1 (M 15 j)) → TZ G mX3_collect (tl_rm 10 0 0) 0 0 kColl M J 63 [some (vR 0), some (vI q)] [] F1 M63 J63 (ZM G (zPost G kColl F1 M J (qV (fun M' J' => J' = J ∧ clQ M M'))) 0 0) := by
                intro N63
                induction N63 with
                | zero => intro q M63 J63 hN; omega
                | succ N63 ih63 =>
                  intro q M63 J63 hN63 i63_0 i63_1 i63_2 i63_3 i63_4 i63_5 i63_6 i63_7
                  refine Z_iload_n (n := 64) dX3_collect_63 rfl rfl ?_
                  refine Z_aload_n (n := 65) dX3_collect_64 rfl rfl ?_
                  refine Z_getI (n := 68) (ki := 7) dX3_collect_65 rfl ffX3_42 rfl rfl rfl (fun r65 s65 => ?_)
                  refine Z_icmp_ge (n := 71) (t := 90) dX3_collect_68 rfl (by decide) (fun c68 => ?_) (fun c68 => ?_)
                  · have e07 : M63 0 7 = M 0 7 := by rw [i63_3 0 (by decide)]
                    obtain ⟨cC, cL, cU⟩ := c3_C hS.1 i63_4
                    have hC63 : ∀ n : Int, mC (M63 9) n → S n ∧ okN (mC (M63 9)) (M63 7 n) ∧ okN (mC (M63 9)) (M63 8 n) := by
                      rw [i63_3 7 (by decide), i63_3 8 (by decide)]
                      exact cC
                    refine Z_aload_n (n := 91) dX3_collect_90 rfl rfl ?_
                    refine Z_getO (n := 94) dX3_collect_91 rfl ffX3_25 rfl rfl ?_
                    refine Z_callVv (n := 97) [] _ dX3_collect_94 rfl cwX3_224 rfl rfl rfl (Nat.le_of_ble_eq_true rfl) (by refine ⟨?_, ?_, ?_, ?_⟩ <;> exact Nat.le_of_ble_eq_true rfl) (fun a h => by unfold kColl at h; unfold kSweep; omega) (zX2_sweep_f (S := S) (by exact pst_cg (i63_3 6 (by decide)) (i63_3 7 (by decide)) (i63_3 8 (by decide)) hS.1) (by exact hC63)) ?_
                    intro M94 J94 f94 q94
                    obtain ⟨e94_1, lm94, po94⟩ := q94
                    replace e94_1 := e94_1.symm; subst e94_1
                    refine Z_vret dX3_collect_97 rfl ?_
                    have o94 : ∀ a : Nat, kSweep a → ¬ a = 9 → M94 a = M a := fun a h1 h2 => ((f94 a h1).1).trans (i63_3 a h2)
                    have hrt : rt M94 = rt M := rt_cg (o94 12 (by decide) (by decide)) (o94 13 (by decide) (by decide)) (o94 15 (by decide) (by decide)) (by rw [o94 0 (by decide) (by decide)])
                    have hlb : LBc M94 = LBc M := LBc_cg (o94 6 (by decide) (by decide)) (o94 7 (by decide) (by decide)) (o94 8 (by decide) (by decide)) hrt
                    refine ⟨i63_0, mC (M63 9), po94, fun x hx => ?_, fun n hn => ?_, lm94.trans (by rw [i63_3 5 (by decide)])⟩
                    · rw [hrt] at hx
                      rcases hR x hx with e | e
                      · exact Or.inl e
                      · right
                        refine cU x e ?_
                        rcases hx with ⟨j, jb, e2⟩ | ⟨j, jb, e2⟩ | ⟨j, jb, e2⟩
                        · rw [e2]; exact i63_5 j jb.1 jb.2
                        · rw [e2]; exact i63_6 j jb.1 jb.2
                        · rw [e2]; exact i63_7 j jb.1 (by omega)
                    · rw [hlb, lab_cg (o94 6 (by decide) (by decide)) (o94 7 (by decide) (by decide)) (o94 8 (by decide) (by decide))]
                      exact cL n hn
                  · refine Z_ok (fun ok63 => ?_)
                    have e07 : M63 0 7 = M 0 7 := by rw [i63_3 0 (by decide)]
                    have cl63 : Clw M63 S 1 0 (M63 9) := by
                      have z := i63_4.2
                      unfold Clw at z ⊢
                      rw [i63_3 6 (by decide), i63_3 7 (by decide), i63_3 8 (by decide)]
                      exact z
                    refine Z_aload_n (n := 72) dX3_collect_71 rfl rfl ?_
                    refine Z_getO (n := 75) dX3_collect_72 rfl ffX3_25 rfl rfl ?_
                    refine Z_aload_n (n := 76) dX3_collect_75 rfl rfl ?_
                    refine Z_getA (n := 79) dX3_collect_76 rfl ffX3_39 rfl rfl ?_
                    refine Z_iload_n (n := 80) dX3_collect_79 rfl rfl ?_
                    refine Z_iald (n := 81) dX3_collect_80 rfl rfl rfl (by first | decide | assumption) (by omega) (by omega) (fun r80 s80 => ?_)
                    refine Z_callVv (n := 84) [_] _ dX3_collect_81 rfl cwX3_220 rfl rfl rfl (Nat.le_of_ble_eq_true rfl) (by refine ⟨?_, ?_, ?_, ?_⟩ <;> exact Nat.le_of_ble_eq_true rfl) (fun a h => by unfold kColl at h; unfold kMarks; omega) (zX2_mark_f  (by exact pst_cg (i63_3 6 (by decide)) (i63_3 7 (by decide)) (i63_3 8 (by decide)) hS.1) (by rw [i63_3 15 (by decide)]; exact hR _ (Or.inr (Or.inr ⟨q, ⟨by omega, by omega⟩, rfl⟩))) (by exact cl63)) ?_
                    intro M81 J81 f81 q81
                    obtain ⟨e81_1, mr81⟩ := q81
                    replace e81_1 := e81_1.symm; subst e81_1
                    have hx63 : rt M (M 15 q) := Or.inr (Or.inr ⟨q, ⟨by omega, by omega⟩, rfl⟩)
                    have mrM : mkR M S 1 (M 15 q) 0 (M63 9) (M81 9) := by
                      have z := mkR_cg (i63_3 6 (by decide)) (i63_3 7 (by decide)) (i63_3 8 (by decide)) mr81
                      rw [i63_3 15 (by decide)] at z
                      exact z
                    obtain ⟨n3, n4, n5⟩ := c3_st i63_4 hx63 mrM (fun m => ok63 9 m)
                    have n6 : ∀ a : Nat, ¬ a = 9 → M81 a = M a := fun a ha => ((f81 a ha).1).trans (i63_3 a ha)
                    have n7 : ∀ j : Int, 0 ≤ j → j < q + 1 → okw (M81 9) 1 (M 15 j) := fun j a b => by
                      by_cases e : j = q
                      · rw [e]; exact n4
                      · exact n5 _ (i63_7 j a (by omega))
                    refine Z_iinc (L' := [_, _]) (n := 87) dX3_collect_84 rfl rfl (by decide) rfl rfl (by omega) rfl ?_
                    refine Z_goto (t := 63) dX3_collect_87 (by decide) ?_
                    refine Z_loc (L' := [some _, some _]) (lsub_same (lsub_same lsub_nil)) ?_
                    exact ih63 _ _ _ (by omega) (by assumption) (by first | assumption | omega | decide) (by first | assumption | omega | decide) (by exact n6) (by exact n3) (by exact fun j a b => n5 _ (i63_5 j a b)) (by exact fun j a b => n5 _ (i63_6 j a b)) (by exact n7)
              refine Z_loc (L' := [some _, some _]) (lsub_same (lsub_same lsub_nil)) ?_
              exact lp63 _ _ _ _ (Nat.lt_succ_self _) (by assumption) (by first | assumption | omega | decide) (by first | assumption | omega | decide) (by exact i36_3) (by exact i36_4) (by exact i36_5) (by exact fun j a b => i36_6 j a (by omega)) (by exact fun j a b => by omega)
            · refine Z_ok (fun ok36 => ?_)
              have cl36 : Clw M36 S 1 0 (M36 9) := by
                have z := i36_4.2
                unfold Clw at z ⊢
                rw [i36_3 6 (by decide), i36_3 7 (by decide), i36_3 8 (by decide)]
                exact z
              refine Z_aload_n (n := 43) dX3_collect_42 rfl rfl ?_
              refine Z_getO (n := 46) dX3_collect_43 rfl ffX3_25 rfl rfl ?_
              refine Z_aload_n (n := 47) dX3_collect_46 rfl rfl ?_
              refine Z_getA (n := 50) dX3_collect_47 rfl ffX3_33 rfl rfl ?_
              refine Z_iload_n (n := 51) dX3_collect_50 rfl rfl ?_
              refine Z_iald (n := 52) dX3_collect_51 rfl rfl rfl (by first | decide | assumption) (by omega) (by omega) (fun r51 s51 => ?_)
              refine Z_callVv (n := 55) [_] _ dX3_collect_52 rfl cwX3_220 rfl rfl rfl (Nat.le_of_ble_eq_true rfl) (by refine ⟨?_, ?_, ?_, ?_⟩ <;> exact Nat.le_of_ble_eq_true rfl) (fun a h => by unfold kColl at h; unfold kMarks; omega) (zX2_mark_f  (by exact pst_cg (i36_3 6 (by decide)) (i36_3 7 (by decide)) (i36_3 8 (by decide)) hS.1) (by rw [i36_3 13 (by decide)]; exact hR _ (Or.inr (Or.inl ⟨g, ⟨by omega, by omega⟩, rfl⟩))) (by exact cl36)) ?_
              intro M52 J52 f52 q52
              obtain ⟨e52_1, mr52⟩ := q52
              replace e52_1 := e52_1.symm; subst e52_1
              have hx36 : rt M (M 13 g) := Or.inr (Or.inl ⟨g, ⟨by omega, by omega⟩, rfl⟩)
              have mrM : mkR M S 1 (M 13 g) 0 (M36 9) (M52 9) := by
                have z := mkR_cg (i36_3 6 (by decide)) (i36_3 7 (by decide)) (i36_3 8 (by decide)) mr52
                rw [i36_3 13 (by decide)] at z
                exact z
              obtain ⟨n3, n4, n5⟩ := c3_st i36_4 hx36 mrM (fun m => ok36 9 m)
              have n6 : ∀ a : Nat, ¬ a = 9 → M52 a = M a := fun a ha => ((f52 a ha).1).trans (i36_3 a ha)
              have n7 : ∀ j : Int, 0 ≤ j → j < g + 1 → okw (M52 9) 1 (M 13 j) := fun j a b => by
                by_cases e : j = g
                · rw [e]; exact n4
                · exact n5 _ (i36_6 j a (by omega))
              refine Z_iinc (L' := [_, _]) (n := 58) dX3_collect_55 rfl rfl (by decide) rfl rfl (by omega) rfl ?_
              refine Z_goto (t := 36) dX3_collect_58 (by decide) ?_
              refine Z_loc (L' := [some _, some _]) (lsub_same (lsub_same lsub_nil)) ?_
              exact ih36 _ _ _ (by omega) (by assumption) (by first | assumption | omega | decide) (by first | assumption | omega | decide) (by exact n6) (by exact n3) (by exact fun j a b => n5 _ (i36_5 j a b)) (by exact n7)
        refine Z_loc (L' := [some _, some _]) (lsub_same (lsub_same lsub_nil)) ?_
        exact lp36 _ _ _ _ (Nat.lt_succ_self _) (by assumption) (by first | assumption | omega | decide) (by first | assumption | omega | decide) (by exact i9_3) (by exact i9_4) (by exact fun j a b => i9_5 j a (by omega)) (by exact fun j a b => by omega)
      · refine Z_ok (fun ok9 => ?_)
        have cl9 : Clw M9 S 1 0 (M9 9) := by
          have z := i9_4.2
          unfold Clw at z ⊢
          rw [i9_3 6 (by decide), i9_3 7 (by decide), i9_3 8 (by decide)]
          exact z
        refine Z_aload_n (n := 16) dX3_collect_15 rfl rfl ?_
        refine Z_getO (n := 19) dX3_collect_16 rfl ffX3_25 rfl rfl ?_
        refine Z_aload_n (n := 20) dX3_collect_19 rfl rfl ?_
        refine Z_getA (n := 23) dX3_collect_20 rfl ffX3_29 rfl rfl ?_
        refine Z_iload_n (n := 24) dX3_collect_23 rfl rfl ?_
        refine Z_iald (n := 25) dX3_collect_24 rfl rfl rfl (by first | decide | assumption) (by omega) (by omega) (fun r24 s24 => ?_)
        refine Z_callVv (n := 28) [_] _ dX3_collect_25 rfl cwX3_220 rfl rfl rfl (Nat.le_of_ble_eq_true rfl) (by refine ⟨?_, ?_, ?_, ?_⟩ <;> exact Nat.le_of_ble_eq_true rfl) (fun a h => by unfold kColl at h; unfold kMarks; omega) (zX2_mark_f  (by exact pst_cg (i9_3 6 (by decide)) (i9_3 7 (by decide)) (i9_3 8 (by decide)) hS.1) (by rw [i9_3 12 (by decide)]; exact hR _ (Or.inl ⟨h, ⟨by omega, by omega⟩, rfl⟩)) (by exact cl9)) ?_
        intro M25 J25 f25 q25
        obtain ⟨e25_1, mr25⟩ := q25
        replace e25_1 := e25_1.symm; subst e25_1
        have hx9 : rt M (M 12 h) := Or.inl ⟨h, ⟨by omega, by omega⟩, rfl⟩
        have mrM : mkR M S 1 (M 12 h) 0 (M9 9) (M25 9) := by
          have z := mkR_cg (i9_3 6 (by decide)) (i9_3 7 (by decide)) (i9_3 8 (by decide)) mr25
          rw [i9_3 12 (by decide)] at z
          exact z
        obtain ⟨n3, n4, n5⟩ := c3_st i9_4 hx9 mrM (fun m => ok9 9 m)
        have n6 : ∀ a : Nat, ¬ a = 9 → M25 a = M a := fun a ha => ((f25 a ha).1).trans (i9_3 a ha)
        have n7 : ∀ j : Int, 0 ≤ j → j < h + 1 → okw (M25 9) 1 (M 12 j) := fun j a b => by
          by_cases e : j = h
          · rw [e]; exact n4
          · exact n5 _ (i9_5 j a (by omega))
        refine Z_iinc (L' := [_, _]) (n := 31) dX3_collect_28 rfl rfl (by decide) rfl rfl (by omega) rfl ?_
        refine Z_goto (t := 9) dX3_collect_31 (by decide) ?_
        refine Z_loc (L' := [some _, some _]) (lsub_same (lsub_same lsub_nil)) ?_
        exact ih9 _ _ _ (by omega) (by assumption) (by first | assumption | omega | decide) (by first | assumption | omega | decide) (by exact n6) (by exact n3) (by exact n7)
  refine Z_loc (L' := [some _, some _]) (lsub_same (lsub_same lsub_nil)) ?_
  exact lp9 _ _ _ _ (Nat.lt_succ_self _) (by rfl) (by first | assumption | omega | decide) (by first | assumption | omega | decide) (by exact fun a ha => fillz_o ha) (by exact c3_0 hS.1 (fun m a b => fillz_a a (by omega))) (by exact fun j a b => by omega)
set_option maxRecDepth 20000 in
theorem zX3_measured_f {G : tl_G} {M : zM} {J : zJ} {v : Int} (h0 : -1 ≤ v) (h1 : v ≤ 251) : ZN G yX3_measured mX3_measured 1 k0 [vR 0, vI v] F1 M J (qI (fun x M' J' => J' = J ∧ x = v ∧ ∀ j : Int, j ≠ 8 → M' 0 j = M 0 j)) := by
  refine ZN_of (L := [_, _, _]) (by decide) rfl rfl (Nat.le_of_ble_eq_true rfl) rfl (fun hav => ?_)
  refine Z_iload_n (n := 1) dX3_measured_0 rfl rfl ?_
  refine Z_iconst (n := 2) dX3_measured_1 rfl (by decide) ?_
  refine Z_icmp_ne (n := 5) (t := 17) dX3_measured_2 rfl (by decide) (fun c2 => ?_) (fun c2 => ?_)
  · refine Z_aload_n (n := 18) dX3_measured_17 rfl rfl ?_
    refine Z_getO (n := 21) dX3_measured_18 rfl ffX3_25 rfl rfl ?_
    refine Z_callVi (n := 24) [] _ dX3_measured_21 rfl cwX3_158 rfl rfl rfl (Nat.le_of_ble_eq_true rfl) (by refine ⟨?_, ?_, ?_, ?_⟩ <;> exact Nat.le_of_ble_eq_true rfl) (fun _ _ => trivial) (zX2_usedCount  ) ?_
    intro x21 M21 J21 z21 f21 q21
    obtain ⟨e21_1, e21_2, h21⟩ := q21
    replace e21_1 := e21_1.symm; subst e21_1
    replace e21_2 := e21_2.symm; subst e21_2
    refine Z_istore_n (L' := [_, _, _]) (n := 25) dX3_measured_24 rfl (by decide) rfl rfl ?_
    refine Z_aload_n (n := 26) dX3_measured_25 rfl rfl ?_
    refine Z_aload_n (n := 27) dX3_measured_26 rfl rfl ?_
    refine Z_getI (n := 30) (ki := 8) dX3_measured_27 rfl ffX3_46 rfl rfl rfl (fun r27 s27 => ?_)
    refine Z_iload_n (n := 31) dX3_measured_30 rfl rfl ?_
    refine Z_rg 5 7 rfl (fun g57 g57b => ?_)
    refine Z_rg 5 8 rfl (fun g58 g58b => ?_)
    refine Z_rg 0 8 rfl (fun g08 g08b => ?_)
    refine Z_mmax (n := 34) dX3_measured_31 rfl cwX3_212 (Nat.le_of_ble_eq_true rfl) (by refine ⟨?_, ?_, ?_, ?_⟩ <;> first | exact Nat.le_of_ble_eq_true rfl | (simp only [tl_rm]; omega)) (fun x31 h31 => ?_)
    refine Z_putI (n := 37) (ki := 8) dX3_measured_34 rfl ffX3_46 rfl (by decide) rfl rfl (by first | assumption | omega | decide) (by first | assumption | omega | decide) (by decide) ?_
    refine Z_iload_n (n := 38) dX3_measured_37 rfl rfl ?_
    refine Z_iret dX3_measured_38 rfl ?_
    exact ⟨rfl, rfl, fun j hj => uz_n hj⟩
  · refine Z_aload_n (n := 6) dX3_measured_5 rfl rfl ?_
    refine Z_getO (n := 9) dX3_measured_6 rfl ffX3_25 rfl rfl ?_
    refine Z_callVi (n := 12) [] _ dX3_measured_9 rfl cwX3_194 rfl rfl rfl (Nat.le_of_ble_eq_true rfl) (by refine ⟨?_, ?_, ?_, ?_⟩ <;> exact Nat.le_of_ble_eq_true rfl) (fun _ _ => trivial) (zX2_limit  ) ?_
    intro x9 M9 J9 z9 f9 q9
    obtain ⟨e9_1, e9_2, h9⟩ := q9
    replace e9_1 := e9_1.symm; subst e9_1
    replace e9_2 := e9_2.symm; subst e9_2
    refine Z_rg 5 8 rfl (fun g58 g58b => ?_)
    refine Z_iconst (n := 13) dX3_measured_12 rfl (by decide) ?_
    refine Z_iadd (n := 14) dX3_measured_13 rfl (by omega) ?_
    refine Z_goto (t := 24) dX3_measured_14 (by decide) ?_
    refine Z_istore_n (L' := [_, _, _]) (n := 25) dX3_measured_24 rfl (by decide) rfl rfl ?_
    refine Z_aload_n (n := 26) dX3_measured_25 rfl rfl ?_
    refine Z_aload_n (n := 27) dX3_measured_26 rfl rfl ?_
    refine Z_getI (n := 30) (ki := 8) dX3_measured_27 rfl ffX3_46 rfl rfl rfl (fun r27 s27 => ?_)
    refine Z_iload_n (n := 31) dX3_measured_30 rfl rfl ?_
    refine Z_rg 5 7 rfl (fun g57 g57b => ?_)
    refine Z_rg 5 8 rfl (fun g58 g58b => ?_)
    refine Z_rg 0 8 rfl (fun g08 g08b => ?_)
    refine Z_mmax (n := 34) dX3_measured_31 rfl cwX3_212 (Nat.le_of_ble_eq_true rfl) (by refine ⟨?_, ?_, ?_, ?_⟩ <;> first | exact Nat.le_of_ble_eq_true rfl | (simp only [tl_rm]; omega)) (fun x31 h31 => ?_)
    refine Z_putI (n := 37) (ki := 8) dX3_measured_34 rfl ffX3_46 rfl (by decide) rfl rfl (by first | assumption | omega | decide) (by first | assumption | omega | decide) (by decide) ?_
    refine Z_iload_n (n := 38) dX3_measured_37 rfl rfl ?_
    refine Z_iret dX3_measured_38 rfl ?_
    exact ⟨rfl, rfl, fun j hj => uz_n hj⟩
/-- what a step of F leaves -/
def stQ (M : zM) (F : FN) (x : Int) (M' : zM) : Prop := (∃ S' : Int → Prop, plo M' S' ∧ rtO M' S' ∧ (x = -1 ∨ okN S' x)) ∧ (∀ z : Int, rt M z → z = -1 ∨ den M' z = den M z) ∧ M' 5 8 = M 5 8 ∧ M' 0 7 = M 0 7 ∧ ((x = -1 ∧ over (fun y => LBc M y ∨ laid F y) (M 5 8)) ∨ (¬ x = -1 ∧ den M' x = F ∧ ¬ over (fun y => LBc M y ∨ laid F y) (M 5 8)))
theorem st_mk {M M1 M2 M3 : zM} {S1 : Int → Prop} {F : FN} {x : Int} (h6 : M1 6 = M 6) (h7 : M1 7 = M 7) (h8 : M1 8 = M 8) (hr1 : rt M1 = rt M) (hS1 : plo M1 S1) (hR1 : rtO M1 S1) (hl1 : ∀ n : Int, S1 n → LBc M1 (lab M1 n)) (h58 : M1 5 8 = M 5 8) (hno : ¬ over (LBc M) (M 5 8)) (hm : mkE M1 S1 F x M2) (hr2 : rt M2 = rt M1) (h3 : ∀ a : Nat, ¬ a = 0 → M3 a = M2 a) (h07 : M3 0 7 = M 0 7) (hr3 : rt M3 = rt M2) : stQ M F x M3 := by
  obtain ⟨S2, ag, sub, q2, l2, nw, res, us⟩ := hm
  have hdM : den M1 = den M := den_cg h6 h7 h8
  have hLB : LBc M1 = LBc M := LBc_cg h6 h7 h8 hr1
  have hd3 : den M3 = den M2 := den_cg (h3 6 (by decide)) (h3 7 (by decide)) (h3 8 (by decide))
  have hP : ∀ n : Int, S2 n → LBc M (lab M2 n) ∨ laid F (lab M2 n) := fun n hn => by
    rcases nw n hn with z | z
    · left
      rw [lab_agr hS1.1 ag z, ← hLB]
      exact hl1 n z
    · exact Or.inr z
  have c1 : cnt (LBc M) (M1 5 7) := by
    have z := cl_cnt hS1 hR1 hl1
    rw [hLB] at z
    exact z
  have le1 : M1 5 7 ≤ M1 5 8 := by
    by_cases z : M1 5 7 ≤ M1 5 8
    · exact z
    · exact absurd (cnt_gt c1 (by omega)) hno
  refine ⟨⟨S2, plo_cg (h3 5 (by decide)) (h3 6 (by decide)) (h3 7 (by decide)) (h3 8 (by decide)) (h3 10 (by decide)) (h3 11 (by decide)) q2, fun z hz => ?_, ?_⟩, fun z hz => ?_, ?_, h07, ?_⟩
  · rw [hr3, hr2] at hz
    exact (hR1 z hz).imp_right (fun t => okN_mono sub t)
  · exact res.imp (fun t => t.1) (fun t => t.1)
  · rw [← hr1] at hz
    refine (hR1 z hz).imp_right (fun t => ?_)
    rw [hd3, den_agr hS1.1 ag t, hdM]
  · rw [h3 5 (by decide), l2, h58]
  · have e57 : M2 5 7 = hr (fun n => ind (S2 n)) 252 := by
      obtain ⟨-, ch, fl, -, -, -, e⟩ := q2
      exact e
    rcases res with ⟨hx, ho, y, hy, hny⟩ | ⟨hx, hd⟩
    · left
      refine ⟨hx, over_hr (f := fun n => ind (S2 n)) (g := lab M2) (n := 252) (y := y) (fun a b a0 a1 b0 b1 ha hb e => lab_inj q2.1 (ind_nz.mp ha) (ind_nz.mp hb) e) (fun a a0 a1 ha => hP a (ind_nz.mp ha)) (Or.inr hy) (fun a a0 a1 ha => hny a (ind_nz.mp ha)) (by omega)⟩
    · right
      have hx1 : ¬ x = -1 := fun z => by have := okN_in q2.1 hx; omega
      refine ⟨hx1, by rw [hd3]; exact hd, fun ho => ?_⟩
      have c2 : cnt (fun y => LBc M y ∨ laid F y) (M2 5 7) := by
        rw [e57]
        refine cnt_hr (g := lab M2) (fun a b a0 a1 b0 b1 ha hb e => lab_inj q2.1 (ind_nz.mp ha) (ind_nz.mp hb) e) (fun a a0 a1 ha => hP a (ind_nz.mp ha)) (fun y hy => ?_)
        have cls : ∀ n : Int, S2 n → S2 n ∧ okN S2 (M2 7 n) ∧ okN S2 (M2 8 n) := fun n hn => ⟨hn, (q2.1.2.1 n hn).2.2.2.1.1, (q2.1.2.1 n hn).2.2.2.2.1⟩
        have fin : ∀ z : Int, okN S2 z → laid (den M2 z) y → ∃ a : Int, 0 ≤ a ∧ a < (252 : Nat) ∧ ¬ ind (S2 a) = 0 ∧ lab M2 a = y := fun z hz hl => by
          obtain ⟨n, hn, e⟩ := laid_in q2.1 cls hz hl
          have := (q2.1.2.1 n hn).1
          exact ⟨n, by omega, by omega, ind_nz.mpr hn, e⟩
        rcases hy with ⟨z, hz, hz1, hl⟩ | hl
        · rw [← hr1] at hz
          have t := (hR1 z hz).resolve_left hz1
          refine fin z (okN_mono sub t) ?_
          rw [den_agr hS1.1 ag t, hdM]
          exact hl
        · refine fin x hx ?_
          rw [hd]
          exact hl
      have := cnt_over (fun _ q => q) c2 ho
      have := us le1
      omega
theorem mkE_in {M M' : zM} {S : Int → Prop} {F : FN} {x : Int} (h : mkE M S F x M') : -1 ≤ x ∧ x ≤ 251 := by
  obtain ⟨S', -, -, q, -, -, r, -⟩ := h
  rcases r with ⟨e, -⟩ | ⟨e, -⟩
  · omega
  · have := okN_in q.1 e
    omega
def opr (M : zM) (u : Int) : Prop := u = 0 ∨ u = 1 ∨ (rt M u ∧ ¬ u = -1)
theorem opr_ok {M : zM} {S : Int → Prop} {u : Int} (hr : rtO M S) (h : opr M u) : okN S u := by
  rcases h with e | e | ⟨e, q⟩
  · exact Or.inl e
  · exact Or.inr (Or.inl e)
  · exact (hr u e).resolve_left q
set_option maxRecDepth 20000 in
theorem zX3_kindStep_f {G : tl_G} {M : zM} {J : zJ} {S : Int → Prop} {t u v w : Int} (ht0 : 0 ≤ t) (ht1 : t ≤ 10) (hu : u = -1 ∨ opr M u) (hv : v = -1 ∨ opr M v) (hw : w = -1 ∨ opr M w) (hS : plo M S) (hR : rtO M S) (hno : ¬ over (LBc M) (M 5 8)) : ZN G yX3_kindStep mX3_kindStep 12 kSt1 [vR 0, vI t, vI u, vI v, vI w] F1 M J (qI (fun x M' J' => J' = J ∧ (((u = -1 ∨ v = -1 ∨ w = -1) ∧ x = -1 ∧ M' = M) ∨ ((¬ u = -1 ∧ ¬ v = -1 ∧ ¬ w = -1) ∧ stQ M (fun r => tbl (tabF t) (den M u r) (den M v r) (den M w r)) x M')))) := by
  refine ZN_of (L := [_, _, _, _, _]) (by decide) rfl rfl (Nat.le_of_ble_eq_true rfl) rfl (fun hav => ?_)
  refine Z_iload_n (n := 1) dX3_kindStep_0 rfl rfl ?_
  refine Z_iconst (n := 2) dX3_kindStep_1 rfl (by decide) ?_
  refine Z_icmp_eq (n := 5) (t := 16) dX3_kindStep_2 rfl (by decide) (fun c2 => ?_) (fun c2 => ?_)
  · refine Z_iconst (n := 17) dX3_kindStep_16 rfl (by decide) ?_
    refine Z_iret dX3_kindStep_17 rfl ?_
    exact ⟨rfl, Or.inl ⟨by omega, rfl, rfl⟩⟩
  · refine Z_iload_n (n := 6) dX3_kindStep_5 rfl rfl ?_
    refine Z_iconst (n := 7) dX3_kindStep_6 rfl (by decide) ?_
    refine Z_icmp_eq (n := 10) (t := 16) dX3_kindStep_7 rfl (by decide) (fun c7 => ?_) (fun c7 => ?_)
    · refine Z_iconst (n := 17) dX3_kindStep_16 rfl (by decide) ?_
      refine Z_iret dX3_kindStep_17 rfl ?_
      exact ⟨rfl, Or.inl ⟨by omega, rfl, rfl⟩⟩
    · refine Z_iload (n := 12) dX3_kindStep_10 rfl rfl ?_
      refine Z_iconst (n := 13) dX3_kindStep_12 rfl (by decide) ?_
      refine Z_icmp_ne (n := 16) (t := 18) dX3_kindStep_13 rfl (by decide) (fun c13 => ?_) (fun c13 => ?_)
      · refine Z_aload_n (n := 19) dX3_kindStep_18 rfl rfl ?_
        refine Z_callVv (n := 22) [] _ dX3_kindStep_19 rfl cwX3_155 rfl rfl rfl (Nat.le_of_ble_eq_true rfl) (by refine ⟨?_, ?_, ?_, ?_⟩ <;> exact Nat.le_of_ble_eq_true rfl) (fun a h => by unfold kSt1 at h; unfold kColl; omega) (zX3_collect_f  (by exact hS) (by exact hR)) ?_
        intro M19 J19 f19 q19
        obtain ⟨e19_1, cq19⟩ := q19
        replace e19_1 := e19_1.symm; subst e19_1
        obtain ⟨S1, cS, cR, cL, c58⟩ := cq19
        have o1 : ∀ a : Nat, kColl a → M19 a = M a := fun a ha => (f19 a ha).1
        have hr1 : rt M19 = rt M := rt_cg (o1 12 (by decide)) (o1 13 (by decide)) (o1 15 (by decide)) (by rw [o1 0 (by decide)])
        have hd1 : den M19 = den M := den_cg (o1 6 (by decide)) (o1 7 (by decide)) (o1 8 (by decide))
        refine Z_aload_n (n := 23) dX3_kindStep_22 rfl rfl ?_
        refine Z_aload_n (n := 24) dX3_kindStep_23 rfl rfl ?_
        refine Z_getO (n := 27) dX3_kindStep_24 rfl ffX3_25 rfl rfl ?_
        refine Z_gets (i := 2) (n := 30) dX3_kindStep_27 rfl (by decide) (by decide) sfX3_197 ?_
        refine Z_iload_n (n := 31) dX3_kindStep_30 rfl rfl ?_
        refine Z_ialdS2 (n := 32) dX3_kindStep_31 rfl (by omega) (by omega) (fun r31 s31 => ?_)
        refine Z_iload_n (n := 33) dX3_kindStep_32 rfl rfl ?_
        refine Z_iload_n (n := 34) dX3_kindStep_33 rfl rfl ?_
        refine Z_iload (n := 36) dX3_kindStep_34 rfl rfl ?_
        have ru : opr M19 u := by unfold opr; rw [hr1]; exact hu.resolve_left (by omega)
        have rv : opr M19 v := by unfold opr; rw [hr1]; exact hv.resolve_left (by omega)
        have rw1 : opr M19 w := by unfold opr; rw [hr1]; exact hw.resolve_left (by omega)
        refine Z_callVi (n := 39) [_, _, _, _] _ dX3_kindStep_36 rfl cwX3_200 rfl rfl rfl (Nat.le_of_ble_eq_true rfl) (by refine ⟨?_, ?_, ?_, ?_⟩ <;> exact Nat.le_of_ble_eq_true rfl) (fun a h => by unfold kSt1 at h; unfold kPool; omega) (zX2_make_f  (by omega) (by omega) (by exact opr_ok cR ru) (by exact opr_ok cR rv) (by exact opr_ok cR rw1) (by exact cS)) ?_
        intro x36 M36 J36 z36 f36 q36
        obtain ⟨e36_1, mk36⟩ := q36
        replace e36_1 := e36_1.symm; subst e36_1
        have mkX := mk36
        rw [hd1] at mkX
        have rb36 : -1 ≤ x36 ∧ x36 ≤ 251 := mkE_in mkX
        refine Z_callVi (n := 42) [_] _ dX3_kindStep_39 rfl cwX3_203 rfl rfl rfl (Nat.le_of_ble_eq_true rfl) (by refine ⟨?_, ?_, ?_, ?_⟩ <;> exact Nat.le_of_ble_eq_true rfl) (fun a h => by unfold kSt1 at h; unfold k0; omega) (zX3_measured_f  (by omega) (by omega)) ?_
        intro x39 M39 J39 z39 f39 q39
        obtain ⟨e39_1, h39, mj39⟩ := q39
        replace e39_1 := e39_1.symm; subst e39_1
        refine Z_iret dX3_kindStep_42 rfl ?_
        refine ⟨rfl, Or.inr ⟨⟨by omega, by omega, by omega⟩, ?_⟩⟩
        rw [h39]
        exact st_mk (o1 6 (by decide)) (o1 7 (by decide)) (o1 8 (by decide)) hr1 cS cR cL c58 hno mkX (rt_cg (f36 12 (by decide)).1 (f36 13 (by decide)).1 (f36 15 (by decide)).1 (by rw [(f36 0 (by decide)).1])) (fun a ha => (f39 a ha).1) (by rw [mj39 7 (by decide), (f36 0 (by decide)).1, o1 0 (by decide)]) (rt_cg (f39 12 (by decide)).1 (f39 13 (by decide)).1 (f39 15 (by decide)).1 (mj39 7 (by decide)))
      · refine Z_iconst (n := 17) dX3_kindStep_16 rfl (by decide) ?_
        refine Z_iret dX3_kindStep_17 rfl ?_
        exact ⟨rfl, Or.inl ⟨by omega, rfl, rfl⟩⟩
set_option maxRecDepth 20000 in
theorem zX3_variableStep_f {G : tl_G} {M : zM} {J : zJ} {S : Int → Prop} {v : Int} (h0 : 0 ≤ v) (h1 : v < 8) (hO : ordOK M) (hS : plo M S) (hR : rtO M S) (hno : ¬ over (LBc M) (M 5 8)) : ZN G yX3_variableStep mX3_variableStep 11 kSt1 [vR 0, vI v] F1 M J (qI (fun x M' J' => J' = J ∧ stQ M (fun r => bz (r (M 4 v))) x M')) := by
  refine ZN_of (L := [_, _]) (by decide) rfl rfl (Nat.le_of_ble_eq_true rfl) rfl (fun hav => ?_)
  refine Z_aload_n (n := 1) dX3_variableStep_0 rfl rfl ?_
  refine Z_callVv (n := 4) [] _ dX3_variableStep_1 rfl cwX3_155 rfl rfl rfl (Nat.le_of_ble_eq_true rfl) (by refine ⟨?_, ?_, ?_, ?_⟩ <;> exact Nat.le_of_ble_eq_true rfl) (fun a h => by unfold kSt1 at h; unfold kColl; omega) (zX3_collect_f  (by exact hS) (by exact hR)) ?_
  intro M1 J1 f1 q1
  obtain ⟨e1_1, cq1⟩ := q1
  replace e1_1 := e1_1.symm; subst e1_1
  obtain ⟨S1, cS, cR, cL, c58⟩ := cq1
  have o1 : ∀ a : Nat, kColl a → M1 a = M a := fun a ha => (f1 a ha).1
  have hr1 : rt M1 = rt M := rt_cg (o1 12 (by decide)) (o1 13 (by decide)) (o1 15 (by decide)) (by rw [o1 0 (by decide)])
  have hd1 : den M1 = den M := den_cg (o1 6 (by decide)) (o1 7 (by decide)) (o1 8 (by decide))
  refine Z_aload_n (n := 5) dX3_variableStep_4 rfl rfl ?_
  refine Z_aload_n (n := 6) dX3_variableStep_5 rfl rfl ?_
  refine Z_getO (n := 9) dX3_variableStep_6 rfl ffX3_25 rfl rfl ?_
  refine Z_aload_n (n := 10) dX3_variableStep_9 rfl rfl ?_
  refine Z_getO (n := 13) dX3_variableStep_10 rfl ffX3_18 rfl rfl ?_
  refine Z_iload_n (n := 14) dX3_variableStep_13 rfl rfl ?_
  refine Z_callVi (n := 17) [_] _ dX3_variableStep_14 rfl cwX3_174 rfl rfl rfl (Nat.le_of_ble_eq_true rfl) (by refine ⟨?_, ?_, ?_, ?_⟩ <;> exact Nat.le_of_ble_eq_true rfl) (fun _ _ => trivial) (zX1_placeOf  (by first | assumption | omega | decide) (by first | assumption | omega | decide)) ?_
  intro x14 M14 J14 z14 f14 q14
  obtain ⟨e14_1, e14_2, h14⟩ := q14
  replace e14_1 := e14_1.symm; subst e14_1
  replace e14_2 := e14_2.symm; subst e14_2
  have hp : 0 ≤ x14 := by rw [h14, o1 4 (by decide)]; exact hO v h0 h1
  refine Z_rg 4 v rfl (fun g4 g4b => ?_)
  refine Z_callVi (n := 20) [_] _ dX3_variableStep_17 rfl cwX3_206 rfl rfl rfl (Nat.le_of_ble_eq_true rfl) (by refine ⟨?_, ?_, ?_, ?_⟩ <;> exact Nat.le_of_ble_eq_true rfl) (fun a h => by unfold kSt1 at h; unfold kPool; omega) (zX2_makeVariable_f  (by omega) (by omega) (by exact cS)) ?_
  intro x17 M17 J17 z17 f17 q17
  obtain ⟨e17_1, mk17⟩ := q17
  replace e17_1 := e17_1.symm; subst e17_1
  have mkX := mk17
  rw [h14, o1 4 (by decide)] at mkX
  have rb17 : -1 ≤ x17 ∧ x17 ≤ 251 := mkE_in mkX
  refine Z_callVi (n := 23) [_] _ dX3_variableStep_20 rfl cwX3_203 rfl rfl rfl (Nat.le_of_ble_eq_true rfl) (by refine ⟨?_, ?_, ?_, ?_⟩ <;> exact Nat.le_of_ble_eq_true rfl) (fun a h => by unfold kSt1 at h; unfold k0; omega) (zX3_measured_f  (by omega) (by omega)) ?_
  intro x20 M20 J20 z20 f20 q20
  obtain ⟨e20_1, h20, mj20⟩ := q20
  replace e20_1 := e20_1.symm; subst e20_1
  refine Z_iret dX3_variableStep_23 rfl ?_
  refine ⟨rfl, ?_⟩
  rw [h20]
  exact st_mk (o1 6 (by decide)) (o1 7 (by decide)) (o1 8 (by decide)) hr1 cS cR cL c58 hno mkX (rt_cg (f17 12 (by decide)).1 (f17 13 (by decide)).1 (f17 15 (by decide)).1 (by rw [(f17 0 (by decide)).1])) (fun a ha => (f20 a ha).1) (by rw [mj20 7 (by decide), (f17 0 (by decide)).1, o1 0 (by decide)]) (rt_cg (f20 12 (by decide)).1 (f20 13 (by decide)).1 (f20 15 (by decide)).1 (mj20 7 (by decide)))
set_option maxRecDepth 20000 in
theorem zX3_fixStep_f {G : tl_G} {M : zM} {J : zJ} {S : Int → Prop} {n v y : Int} (h0 : 0 ≤ v) (h1 : v < 8) (hn : opr M n) (hO : ordOK M) (hS : plo M S) (hR : rtO M S) (hno : ¬ over (LBc M) (M 5 8)) : ZN G yX3_fixStep mX3_fixStep 12 kSt1 [vR 0, vI n, vI v, vI y] F1 M J (qI (fun x M' J' => J' = J ∧ stQ M (fun r => den M n (updI r (M 4 v) (if y = 0 then 0 else 1))) x M')) := by
  refine ZN_of (L := [_, _, _, _]) (by decide) rfl rfl (Nat.le_of_ble_eq_true rfl) rfl (fun hav => ?_)
  have iN := okN_in hS.1 (opr_ok hR hn)
  refine Z_aload_n (n := 1) dX3_fixStep_0 rfl rfl ?_
  refine Z_callVv (n := 4) [] _ dX3_fixStep_1 rfl cwX3_155 rfl rfl rfl (Nat.le_of_ble_eq_true rfl) (by refine ⟨?_, ?_, ?_, ?_⟩ <;> exact Nat.le_of_ble_eq_true rfl) (fun a h => by unfold kSt1 at h; unfold kColl; omega) (zX3_collect_f  (by exact hS) (by exact hR)) ?_
  intro M1 J1 f1 q1
  obtain ⟨e1_1, cq1⟩ := q1
  replace e1_1 := e1_1.symm; subst e1_1
  obtain ⟨S1, cS, cR, cL, c58⟩ := cq1
  have o1 : ∀ a : Nat, kColl a → M1 a = M a := fun a ha => (f1 a ha).1
  have hr1 : rt M1 = rt M := rt_cg (o1 12 (by decide)) (o1 13 (by decide)) (o1 15 (by decide)) (by rw [o1 0 (by decide)])
  have hd1 : den M1 = den M := den_cg (o1 6 (by decide)) (o1 7 (by decide)) (o1 8 (by decide))
  refine Z_aload_n (n := 5) dX3_fixStep_4 rfl rfl ?_
  refine Z_aload_n (n := 6) dX3_fixStep_5 rfl rfl ?_
  refine Z_getO (n := 9) dX3_fixStep_6 rfl ffX3_25 rfl rfl ?_
  refine Z_iload_n (n := 10) dX3_fixStep_9 rfl rfl ?_
  refine Z_aload_n (n := 11) dX3_fixStep_10 rfl rfl ?_
  refine Z_getO (n := 14) dX3_fixStep_11 rfl ffX3_18 rfl rfl ?_
  refine Z_iload_n (n := 15) dX3_fixStep_14 rfl rfl ?_
  refine Z_callVi (n := 18) [_] _ dX3_fixStep_15 rfl cwX3_174 rfl rfl rfl (Nat.le_of_ble_eq_true rfl) (by refine ⟨?_, ?_, ?_, ?_⟩ <;> exact Nat.le_of_ble_eq_true rfl) (fun _ _ => trivial) (zX1_placeOf  (by first | assumption | omega | decide) (by first | assumption | omega | decide)) ?_
  intro x15 M15 J15 z15 f15 q15
  obtain ⟨e15_1, e15_2, h15⟩ := q15
  replace e15_1 := e15_1.symm; subst e15_1
  replace e15_2 := e15_2.symm; subst e15_2
  have hp : 0 ≤ x15 := by rw [h15, o1 4 (by decide)]; exact hO v h0 (by omega)
  refine Z_rg 4 v rfl (fun g4 g4b => ?_)
  have rn : opr M1 n := by unfold opr; rw [hr1]; exact hn
  refine Z_iload_n (n := 19) dX3_fixStep_18 rfl rfl ?_
  refine Z_callVi (n := 22) [_, _, _] _ dX3_fixStep_19 rfl cwX3_209 rfl rfl rfl (Nat.le_of_ble_eq_true rfl) (by refine ⟨?_, ?_, ?_, ?_⟩ <;> exact Nat.le_of_ble_eq_true rfl) (fun a h => by unfold kSt1 at h; unfold kPool; omega) (zX2_makeFixed_f  (by exact opr_ok cR rn) (by omega) (by omega) (by exact cS)) ?_
  intro x19 M19 J19 z19 f19 q19
  obtain ⟨e19_1, mk19⟩ := q19
  replace e19_1 := e19_1.symm; subst e19_1
  have mkX := mk19
  rw [hd1, h15, o1 4 (by decide)] at mkX
  have rb19 : -1 ≤ x19 ∧ x19 ≤ 251 := mkE_in mkX
  refine Z_callVi (n := 25) [_] _ dX3_fixStep_22 rfl cwX3_203 rfl rfl rfl (Nat.le_of_ble_eq_true rfl) (by refine ⟨?_, ?_, ?_, ?_⟩ <;> exact Nat.le_of_ble_eq_true rfl) (fun a h => by unfold kSt1 at h; unfold k0; omega) (zX3_measured_f  (by omega) (by omega)) ?_
  intro x22 M22 J22 z22 f22 q22
  obtain ⟨e22_1, h22, mj22⟩ := q22
  replace e22_1 := e22_1.symm; subst e22_1
  refine Z_iret dX3_fixStep_25 rfl ?_
  refine ⟨rfl, ?_⟩
  rw [h22]
  exact st_mk (o1 6 (by decide)) (o1 7 (by decide)) (o1 8 (by decide)) hr1 cS cR cL c58 hno mkX (rt_cg (f19 12 (by decide)).1 (f19 13 (by decide)).1 (f19 15 (by decide)).1 (by rw [(f19 0 (by decide)).1])) (fun a ha => (f22 a ha).1) (by rw [mj22 7 (by decide), (f19 0 (by decide)).1, o1 0 (by decide)]) (rt_cg (f22 12 (by decide)).1 (f22 13 (by decide)).1 (f22 15 (by decide)).1 (mj22 7 (by decide)))
