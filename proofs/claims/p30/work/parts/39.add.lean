section
/-! ===== the reference: add in every state ===== -/
theorem zshl_up {d : Int} (h0 : 0 ≤ d) (h1 : d ≤ 7) : zshl 1 (d + 1) = 2 * zshl 1 d := by
  rcases (show d = 0 ∨ d = 1 ∨ d = 2 ∨ d = 3 ∨ d = 4 ∨ d = 5 ∨ d = 6 ∨ d = 7 by omega) with rfl | rfl | rfl | rfl | rfl | rfl | rfl | rfl <;> decide +kernel
theorem tabA_J {M : zM} {J J' : zJ} {ch : Int → List Int} {fl : List Int} (e : J' 48 = J 48) (h : tabA M J ch fl) : tabA M J' ch fl := by
  have q : ∀ n, kyf J' n = kyf J n := fun n => by funext k; unfold kyf; rw [e]
  unfold tabA at *
  simp only [q]
  exact h
theorem tabC_J {M : zM} {J J' : zJ} {g : Int} (e : J' 48 = J 48) (e2 : J' 44 = J 44) (h : tabC M J g) : tabC M J' g := by
  have hm : ∀ (m d : Int) (P : Int → Int64), mtc M J m d P → mtc M J' m d P := fun m d P z => by
    unfold mtc at *
    rw [e]
    exact z
  unfold tabC
  rw [bitF_congr e2 g]
  refine ⟨fun d i a b c w q => ?_, fun n hn => ?_⟩
  · obtain ⟨n, h1, h2⟩ := h.1 d i a b c w q
    exact ⟨n, h1, hm _ _ _ h2⟩
  · obtain ⟨d, i, h1, h2, h3⟩ := h.2 n hn
    exact ⟨d, i, h1, h2, hm _ _ _ h3⟩
theorem TIm_J {M : zM} {J J' : zJ} {f k u0 : Int} (e : J' 48 = J 48) (e2 : J' 44 = J 44) (h : TIm M J f k u0) : TIm M J' f k u0 := by
  obtain ⟨⟨ch, fl, t1⟩, t2, t3, t4, t5, t6, t7, tu⟩ := h
  exact ⟨⟨ch, fl, tabA_J e t1⟩, t2, fun g a b c d => tabC_J e e2 (t3 g a b c d), t4, t5, t6, t7, tabU_mv tu (fun _ z => z) rfl e⟩
/-- what add leaves as it was -/
def adf (M M' : zM) (f : Int) : Prop := (∀ g : Int, g ≠ f → M' 45 g = M 45 g ∧ M' 43 g = M 43 g) ∧ (∀ j : Int, (j < 255 * f ∨ 255 * f + 255 ≤ j) → M' 46 j = M 46 j) ∧ ∀ j : Int, j ≠ 23 → j ≠ 24 → j ≠ 25 → j ≠ 27 → M' 31 j = M 31 j
theorem cvr_0 {M : zM} {J : zJ} {B : Int → Int64} {f : Int} (h : TI M J) (f0 : 0 ≤ f) (f1 : f < 56) (hf : M 43 f = 0) : cvr (ad0 M f) J B f := fun n hn => by
  have h45 : M 45 f = 0 := (h.2.1.2 f f0 f1).2 hf
  exact absurd hn (inS_none (by rw [ad0_45, updI_s]; exact Int.le_refl _))
theorem adf_0 {M : zM} {f : Int} : adf M (ad0 M f) f := by
  refine ⟨fun g hg => ⟨by rw [ad0_45, updI_n hg], by rw [ad0_43, updI_n hg]⟩, fun j _ => by rw [ad0_o (by decide) (by decide) (by decide)], fun j _ _ _ h => ad0_31 h⟩
theorem adf_nf {M M1 M' : zM} {J1 J' : zJ} {f d x : Int} {ch : List Int} (h : adf M M1 f) (hq : nfQ M1 J1 d ch x M' J') : adf M M' f := by
  rcases hq with ⟨n, -, -, -, rfl, -⟩ | ⟨-, -, rfl, -, -⟩
  · exact h
  · refine ⟨fun g hg => ?_, fun j hj => ?_, fun j a b c e => ?_⟩
    · rw [nfM_o (by decide), nfM_o (by decide)]; exact h.1 g hg
    · rw [nfM_o (by decide)]; exact h.2.1 j hj
    · rw [nfM_31 a]; exact h.2.2 j a b c e
theorem adf_pu {M M1 : zM} {f x : Int} (h : adf M M1 f) (h0 : 0 ≤ M1 45 f) (h1 : M1 45 f < 255) : adf M (puM M1 f x) f := by
  refine ⟨fun g hg => ?_, fun j hj => ?_, fun j a b c e => ?_⟩
  · rw [puM_45, updI_n hg, puM_o (by decide)]; exact h.1 g hg
  · rw [puM_46, updI_n (by omega)]; exact h.2.1 j hj
  · rw [puM_23 b]; exact h.2.2 j a b c e
theorem chn_uniq {nx : Int → Int} : ∀ {l l' : List Int} {s : Int}, chn nx s l → chn nx s l' → l = l'
  | [], [], _, _, _ => rfl
  | [], m :: r, s, h, h' => by
    have h1 : s < 0 := h
    have h2 := h'.1
    have h3 := h'.2.1
    omega
  | m :: r, [], s, h, h' => by
    have h1 : s < 0 := h'
    have h2 := h.1
    have h3 := h.2.1
    omega
  | m :: r, m' :: r', s, h, h' => by
    obtain ⟨e, -, -, h4⟩ := h
    obtain ⟨e', -, -, h4'⟩ := h'
    have q : m = m' := e.symm.trans e'
    subst q
    rw [chn_uniq h4 h4']
/-- a node in use has this part -/
def liv (M : zM) (J : zJ) (d : Int) (P : Int → Int64) : Prop := ∃ n : Int, (0 ≤ n ∧ n < 520) ∧ ¬ M 49 n = 0 ∧ mtc M J n d P
theorem nf_liv {M M' : zM} {J J' : zJ} {f k u0 d x : Int} {ch : List Int} (hT : TIm M J f k u0) (hch : chn (M 50) (M 51 (bkt d (J 53))) ch) (hq : nfQ M J d ch x M' J') (hl : liv M J d (J 53)) : M' = M ∧ J' = J ∧ ¬ M 49 x = 0 := by
  obtain ⟨⟨chs, fl, t1⟩, -⟩ := hT
  have hb := bkt_in d (J 53)
  obtain ⟨q1, q2, q3⟩ := t1.1 _ hb.1 hb.2
  have e := chn_uniq hch q1
  subst e
  rcases hq with ⟨n, hn, hm, rfl, rfl, rfl⟩ | ⟨hno, -⟩
  · exact ⟨rfl, rfl, (q3 x hn).2⟩
  · obtain ⟨n, ⟨n0, n1⟩, n2, n3⟩ := hl
    have z := (t1.2.2.1 n n0 n1).2 n2
    rw [mtc_bkt n3] at z
    exact absurd n3 (hno n z)
/-- all parts of B have their nodes in use -/
def cvd (M : zM) (J : zJ) (B : Int → Int64) : Prop := ∀ d i : Int, 0 ≤ d → d ≤ 7 → 0 ≤ i → i < zshl 1 d → lyR B d i = true → liv M J d (lyP B d i)
theorem liv_mv {M M' : zM} {J J' : zJ} {d : Int} {P : Int → Int64} (h : liv M J d P) (e47 : M' 47 = M 47) (e48 : J' 48 = J 48) (e49 : ∀ n : Int, ¬ M 49 n = 0 → ¬ M' 49 n = 0) : liv M' J' d P := by
  obtain ⟨n, h1, h2, h3⟩ := h
  refine ⟨n, h1, e49 n h2, ?_⟩
  unfold mtc at *
  rw [e47, e48]
  exact h3
theorem cvd_mv {M M' : zM} {J J' : zJ} {B : Int → Int64} (h : cvd M J B) (e47 : M' 47 = M 47) (e48 : J' 48 = J 48) (e49 : ∀ n : Int, ¬ M 49 n = 0 → ¬ M' 49 n = 0) : cvd M' J' B := fun d i a b c e q => liv_mv (h d i a b c e q) e47 e48 e49
theorem liv_P {M : zM} {J : zJ} {d : Int} {P P' : Int → Int64} (h : liv M J d P) (e : ∀ k : Int, 0 ≤ k → k < 4 → P k = P' k) : liv M J d P' := by
  obtain ⟨n, h1, h2, h3⟩ := h
  exact ⟨n, h1, h2, mtc_congr e h3⟩
/-- covered ahead: covered still, and no node more is in use -/
def cvk (M : zM) (J : zJ) (B : Int → Int64) (u : Int) (M1 : zM) (J1 : zJ) : Prop := cvd M J B → cvd M1 J1 B ∧ M1 31 24 = u
theorem cvk_0 {M : zM} {J : zJ} {B : Int → Int64} {f : Int} : cvk M J B (M 31 24) (ad0 M f) J := fun h => ⟨cvd_mv h (ad0_o (by decide) (by decide) (by decide)) rfl (fun n q => by rw [ad0_o (by decide) (by decide) (by decide)]; exact q), ad0_31 (by decide)⟩
theorem cvk_J {M M1 : zM} {J J1 J2 : zJ} {B : Int → Int64} {u : Int} (h : cvk M J B u M1 J1) (e : J2 48 = J1 48) : cvk M J B u M1 J2 := fun q => ⟨cvd_mv (h q).1 rfl e (fun _ z => z), (h q).2⟩
theorem cvk_nf {M M1 M2 : zM} {J J1 J2 : zJ} {B : Int → Int64} {u f k u0 d i x : Int} {ch : List Int} (h : cvk M J B u M1 J1) (hT : TIm M1 J1 f k u0) (hch : chn (M1 50) (M1 51 (bkt d (J1 53))) ch) (hq : nfQ M1 J1 d ch x M2 J2) (h0 : 0 ≤ d) (h1 : d ≤ 7) (i0 : 0 ≤ i) (i1 : i < zshl 1 d) (hl : lyR B d i = true) (hP : ∀ j : Int, 0 ≤ j → j < 4 → J1 53 j = lyP B d i j) : cvk M J B u M2 J2 ∧ (cvd M J B → ¬ M2 49 x = 0) := by
  have key : cvd M J B → M2 = M1 ∧ J2 = J1 ∧ ¬ M1 49 x = 0 := fun q => nf_liv hT hch hq (liv_P ((h q).1 d i h0 h1 i0 i1 hl) (fun j a b => (hP j a b).symm))
  refine ⟨fun q => ?_, fun q => ?_⟩
  · obtain ⟨e1, e2, -⟩ := key q
    rw [e1, e2]
    exact h q
  · obtain ⟨e1, -, e3⟩ := key q
    rw [e1]
    exact e3
theorem cvk_pu {M M1 : zM} {J J1 : zJ} {B : Int → Int64} {u f x : Int} (h : cvk M J B u M1 J1) (hx : cvd M J B → ¬ M1 49 x = 0) (h49 : 0 ≤ M1 49 x) : cvk M J B u (puM M1 f x) J1 := fun q => by
  refine ⟨cvd_mv (h q).1 (puM_o (by decide)) rfl (fun n z => ?_), ?_⟩
  · rw [puM_49]
    by_cases e : n = x
    · rw [e, updI_s]; omega
    · rw [updI_n e]; exact z
  · rw [puM_24, if_neg (hx q), (h q).2]
    omega
set_option maxRecDepth 20000 in
theorem zX4_add {G : tl_G} {M : zM} {J : zJ} {f : Int} (f0 : 0 ≤ f) (f1 : f < 56) (hT : TI M J) (hf : M 43 f = 0) (hu : M 31 24 ≤ 250) (hk : M 31 27 < 2147483647) : ZN G yX4_add mX4_add 2 kAd [vR 31, vI f] F1 M J (qV (fun M' J' => TI M' J' ∧ ¬ M' 43 f = 0 ∧ M' 31 27 = M 31 27 + 1 ∧ M' 31 24 ≤ M 31 24 + 255 ∧ adf M M' f ∧ (cvd M J (bitF J f) → M' 31 24 = M 31 24))) := by
  refine ZN_of (L := [_, _, _, _, _]) (by decide) rfl rfl (Nat.le_of_ble_eq_true rfl) rfl (fun hav => ?_)
  refine Z_aload_n (n := 1) dX4_add_0 rfl rfl ?_
  refine Z_getA (n := 4) dX4_add_1 rfl ffX4_44 rfl rfl ?_
  refine Z_iload_n (n := 5) dX4_add_4 rfl rfl ?_
  refine Z_iconst (n := 6) dX4_add_5 rfl (by decide) ?_
  refine Z_zast (n := 7) dX4_add_6 rfl rfl rfl (by first | decide | assumption) (by omega) (by omega) (by first | assumption | omega | decide) (by first | assumption | omega | decide) (by decide) ?_
  refine Z_aload_n (n := 8) dX4_add_7 rfl rfl ?_
  refine Z_getA (n := 11) dX4_add_8 rfl ffX4_51 rfl rfl ?_
  refine Z_iload_n (n := 12) dX4_add_11 rfl rfl ?_
  refine Z_iconst (n := 13) dX4_add_12 rfl (by decide) ?_
  refine Z_iast (n := 14) dX4_add_13 rfl rfl rfl (by first | decide | assumption) (by omega) (by omega) (by first | assumption | omega | decide) (by first | assumption | omega | decide) (by decide) ?_
  refine Z_aload_n (n := 15) dX4_add_14 rfl rfl ?_
  refine Z_dup (n := 16) dX4_add_15 rfl rfl ?_
  refine Z_getI (n := 19) (ki := 27) dX4_add_16 rfl ffX4_160 rfl rfl rfl (fun r16 s16 => ?_)
  try simp only [uz_oo (show (31 : Nat) ≠ 45 by decide), uz_oo (show (31 : Nat) ≠ 43 by decide)] at r16 s16 ⊢
  refine Z_iconst (n := 20) dX4_add_19 rfl (by decide) ?_
  refine Z_iadd (n := 21) dX4_add_20 rfl (by omega) ?_
  refine Z_putI (n := 24) (ki := 27) dX4_add_21 rfl ffX4_160 rfl (by decide) rfl rfl (by first | assumption | omega | decide) (by first | assumption | omega | decide) (by decide) ?_
  have st4 : ad0 M f 45 f ≤ zshl 1 0 - 1 := by rw [ad0_45, updI_s]; decide
  refine Z_iconst (n := 25) dX4_add_24 rfl (by decide) ?_
  refine Z_istore_n (L' := [_, _, _, _, _]) (n := 26) dX4_add_25 rfl (by decide) rfl rfl ?_
  have lp26 : ∀ (N26 : Nat) (d : Int) (M26 : zM) (J26 : zJ), ((8 - d).toNat) < N26 → (0 ≤ d) → (d ≤ 8) → (TIm M26 J26 f (M 31 27 + 1) (M 31 24)) → (cov M26 J26 (bitF J f) f d 0) → (M26 45 f ≤ zshl 1 d - 1) → (adf M M26 f) → (cvk M J (bitF J f) (M 31 24) M26 J26) → (cvr M26 J26 (bitF J f) f) → TZ G mX4_add (tl_rm 2 0 0) 0 0 kAd M J 26 [some (vR 31), some (vI f), some (vI d), none, none] [] F1 M26 J26 (ZM G (zPost G kAd F1 M J (qV (fun M' J' => TI M' J' ∧ ¬ M' 43 f = 0 ∧ M' 31 27 = M 31 27 + 1 ∧ M' 31 24 ≤ M 31 24 + 255 ∧ adf M M' f ∧ (cvd M J (bitF J f) → M' 31 24 = M 31 24)))) 0 0) := by
    intro N26
    induction N26 with
    | zero => intro d M26 J26 hN; omega
    | succ N26 ih26 =>
      intro d M26 J26 hN26 i26_0 i26_1 i26_2 i26_3 i26_4 i26_5 i26_6 i26_7
      refine Z_iload_n (n := 27) dX4_add_26 rfl rfl ?_
      refine Z_bipush (n := 29) dX4_add_27 rfl (by decide) (by decide) ?_
      refine Z_icmp_ge (n := 32) (t := 159) dX4_add_29 rfl (by decide) (fun c29 => ?_) (fun c29 => ?_)
      · refine Z_fr (fun fr26 => ?_)
        refine Z_vret dX4_add_159 rfl ?_
        obtain ⟨-, -, -, -, w5, w6, w7, -⟩ := id i26_2
        have hd8 : d = 8 := by omega
        subst hd8
        refine ⟨?_, w5, w6, ?_, i26_5, fun q => (i26_6 q).2⟩
        · refine TI_of i26_2 ?_ ?_
          · rw [bitF_congr (fr26 44 (by decide)).2 f]
            exact i26_3
          · rw [bitF_congr (fr26 44 (by decide)).2 f]
            exact i26_7
        · have := i26_4
          have z : zshl 1 8 = 256 := by decide +kernel
          omega
      · have hs := zshl1 (d := d) (by omega) (by omega)
        have hs2 := zshl_up (d := d) (by omega) (by omega)
        refine Z_iconst (n := 33) dX4_add_32 rfl (by decide) ?_
        refine Z_istore_n (L' := [_, _, _, _, _]) (n := 34) dX4_add_33 rfl (by decide) rfl rfl ?_
        have lp34 : ∀ (N34 : Nat) (i : Int) (M34 : zM) (J34 : zJ), ((zshl 1 d - i).toNat) < N34 → (0 ≤ i) → (i ≤ zshl 1 d) → (TIm M34 J34 f (M 31 27 + 1) (M 31 24)) → (cov M34 J34 (bitF J f) f d i) → (M34 45 f ≤ zshl 1 d - 1 + i) → (adf M M34 f) → (cvk M J (bitF J f) (M 31 24) M34 J34) → (cvr M34 J34 (bitF J f) f) → TZ G mX4_add (tl_rm 2 0 0) 0 0 kAd M J 34 [some (vR 31), some (vI f), some (vI d), some (vI i), none] [] F1 M34 J34 (ZM G (zPost G kAd F1 M J (qV (fun M' J' => TI M' J' ∧ ¬ M' 43 f = 0 ∧ M' 31 27 = M 31 27 + 1 ∧ M' 31 24 ≤ M 31 24 + 255 ∧ adf M M' f ∧ (cvd M J (bitF J f) → M' 31 24 = M 31 24)))) 0 0) := by
          intro N34
          induction N34 with
          | zero => intro i M34 J34 hN; omega
          | succ N34 ih34 =>
            intro i M34 J34 hN34 i34_0 i34_1 i34_2 i34_3 i34_4 i34_5 i34_6 i34_7
            refine Z_iload_n (n := 35) dX4_add_34 rfl rfl ?_
            refine Z_iconst (n := 36) dX4_add_35 rfl (by decide) ?_
            refine Z_iload_n (n := 37) dX4_add_36 rfl rfl ?_
            refine Z_ishl (n := 38) dX4_add_37 rfl ?_
            refine Z_icmp_ge (n := 41) (t := 153) dX4_add_38 rfl (by decide) (fun c38 => ?_) (fun c38 => ?_)
            · refine Z_iinc (L' := [_, _, _, _, _]) (n := 156) dX4_add_153 rfl rfl (by decide) rfl rfl (by omega) rfl ?_
              refine Z_goto (t := 26) dX4_add_156 (by decide) ?_
              refine Z_loc (L' := [some _, some _, some _, none, none]) (lsub_same (lsub_same (lsub_same (lsub_none (lsub_none lsub_nil))))) ?_
              exact ih26 _ _ _ (by omega) (by first | assumption | omega | decide) (by first | assumption | omega | decide) (by exact i34_2) (by exact cov_lv i34_3 (by omega)) (by omega) (by exact i34_5) (by exact i34_6) (by exact i34_7)
            · refine Z_fr (fun fr34 => ?_)
              refine Z_ok (fun ok34 => ?_)
              have hBe : bitF J34 f = bitF J f := bitF_congr (fr34 44 (by decide)).2 f
              have nm34 : 0 ≤ M34 45 f ∧ M34 45 f ≤ 255 := ok34 45 f
              refine Z_aload_n (n := 42) dX4_add_41 rfl rfl ?_
              refine Z_iload_n (n := 43) dX4_add_42 rfl rfl ?_
              refine Z_iload_n (n := 44) dX4_add_43 rfl rfl ?_
              refine Z_iload_n (n := 45) dX4_add_44 rfl rfl ?_
              refine Z_callVi (n := 48) [_, _, _] _ dX4_add_45 rfl cwX4_163 rfl rfl rfl (Nat.le_of_ble_eq_true rfl) (by refine ⟨?_, ?_, ?_, ?_⟩ <;> exact Nat.le_of_ble_eq_true rfl) (fun a h => by unfold kAd at h; unfold kPart; omega) (zX4_lays  (by first | assumption | omega | decide) (by first | assumption | omega | decide) (by first | assumption | omega | decide) (by first | assumption | omega | decide) (by first | assumption | omega | decide) (by first | assumption | omega | decide)) ?_
              intro x45 M45 J45 z45 f45 q45
              obtain ⟨e45_1, h45⟩ := q45
              replace e45_1 := e45_1.symm; subst e45_1
              have tm45 := TIm_J (f45 48 (by decide)).2 (f45 44 (by decide)).2 i34_2
              refine Z_if_eq (n := 51) (t := 147) dX4_add_48 rfl (by decide) (fun c48 => ?_) (fun c48 => ?_)
              · have tmX := tm45
                have cvX : cov M34 J45 (bitF J f) f d (i + 1) := cov_st (cov_J i34_3 (f45 48 (by decide)).2) (fun m d' P a b => ⟨a, b⟩) (fun q => by
                  rcases h45 with ⟨z, -⟩ | ⟨-, z⟩
                  · omega
                  · rw [hBe, q] at z; cases z)
                have nmX : M34 45 f ≤ zshl 1 d - 1 + (i + 1) := by omega
                have adX := i34_5
                have ckX := cvk_J i34_6 (f45 48 (by decide)).2
                have crX := cvr_J i34_7 (f45 48 (by decide)).2
                refine Z_iinc (L' := [_, _, _, _, _]) (n := 150) dX4_add_147 rfl rfl (by decide) rfl rfl (by omega) rfl ?_
                refine Z_goto (t := 34) dX4_add_150 (by decide) ?_
                refine Z_loc (L' := [some _, some _, some _, some _, none]) (lsub_same (lsub_same (lsub_same (lsub_same (lsub_none lsub_nil))))) ?_
                exact ih34 _ _ _ (by omega) (by first | assumption | omega | decide) (by first | assumption | omega | decide) (by exact tmX) (by exact cvX) (by exact nmX) (by exact adX) (by exact ckX) (by exact crX)
              · obtain ⟨hly, hP⟩ : lyR (bitF J f) d i = true ∧ ∀ j : Int, 0 ≤ j → j < 4 → J45 53 j = lyP (bitF J f) d i j := by
                  rcases h45 with ⟨-, a1, a2⟩ | ⟨a1, -⟩
                  · rw [hBe] at a1 a2; exact ⟨a1, a2⟩
                  · omega
                obtain ⟨ch, hch, hnf, hres⟩ := push (d := d) tm45 ok34 f0 f1 (by omega) (by omega)
                refine Z_aload_n (n := 52) dX4_add_51 rfl rfl ?_
                refine Z_iload_n (n := 53) dX4_add_52 rfl rfl ?_
                refine Z_callVi (n := 56) [_] _ dX4_add_53 rfl cwX4_166 rfl rfl rfl (Nat.le_of_ble_eq_true rfl) (by refine ⟨?_, ?_, ?_, ?_⟩ <;> exact Nat.le_of_ble_eq_true rfl) (fun a h => by unfold kAd at h; unfold kNF; omega) (zX4_nodeFor (ch := ch) (by omega) (by omega) (by exact hch) (by exact hnf)) ?_
                intro x53 M53 J53 z53 f53 q53
                obtain ⟨⟨x0, x1⟩, ⟨u53, e45, e27⟩, pE, pN, mt53, keep53⟩ := hres _ _ _ f53 q53
                have ad53 := adf_nf i34_5 q53
                obtain ⟨ck53, cx53⟩ := cvk_nf (cvk_J i34_6 (f45 48 (by decide)).2) tm45 hch q53 (by omega) (by omega) i34_0 (by omega) hly hP
                have e46 : M53 46 = M34 46 := (f53 46 (by decide)).1
                have nm53 : M53 45 f = M34 45 f := congrFun e45 f
                have mtL : mtc M53 J53 x53 d (lyP (bitF J f) d i) := mtc_congr hP mt53
                have kp : ∀ (m d' : Int) (P : Int → Int64), inS M34 f 0 m → mtc M34 J45 m d' P → inS M53 f 0 m ∧ mtc M53 J53 m d' P := fun m d' P a b => ⟨by unfold inS; rw [e45, e46]; exact a, keep53 m d' P a b⟩
                have cr53 : cvr M53 J53 (bitF J f) f := fun m hm => by
                  have hm' : inS M34 f 0 m := by unfold inS at hm ⊢; rw [e45, e46] at hm; exact hm
                  obtain ⟨d', i', a1, a2, a3⟩ := cvr_J i34_7 (f45 48 (by decide)).2 m hm'
                  exact ⟨d', i', a1, a2, (kp m d' _ hm' a3).2⟩
                refine Z_istore (L' := [_, _, _, _, _]) (n := 58) dX4_add_56 rfl (by decide) rfl rfl ?_
                refine Z_aload_n (n := 59) dX4_add_58 rfl rfl ?_
                refine Z_getA (n := 62) dX4_add_59 rfl ffX4_72 rfl rfl ?_
                refine Z_iload (n := 64) dX4_add_62 rfl rfl ?_
                refine Z_iald (n := 65) dX4_add_64 rfl rfl rfl (by first | decide | assumption) (by omega) (by omega) (fun r64 s64 => ?_)
                refine Z_aload_n (n := 66) dX4_add_65 rfl rfl ?_
                refine Z_getI (n := 69) (ki := 27) dX4_add_66 rfl ffX4_160 rfl rfl rfl (fun r66 s66 => ?_)
                refine Z_icmp_eq (n := 72) (t := 147) dX4_add_69 rfl (by decide) (fun c69 => ?_) (fun c69 => ?_)
                · obtain ⟨tmX, inE⟩ := pE (by omega)
                  have cvX : cov M53 J53 (bitF J f) f d (i + 1) := cov_st (cov_J i34_3 (f45 48 (by decide)).2) kp (fun _ => ⟨x53, inE, mtL⟩)
                  have nmX : M53 45 f ≤ zshl 1 d - 1 + (i + 1) := by omega
                  have adX := ad53
                  have ckX := ck53
                  have crX := cr53
                  refine Z_iinc (L' := [_, _, _, _, _]) (n := 150) dX4_add_147 rfl rfl (by decide) rfl rfl (by omega) rfl ?_
                  refine Z_goto (t := 34) dX4_add_150 (by decide) ?_
                  refine Z_loc (L' := [some _, some _, some _, some _, none]) (lsub_same (lsub_same (lsub_same (lsub_same (lsub_none lsub_nil))))) ?_
                  exact ih34 _ _ _ (by omega) (by first | assumption | omega | decide) (by first | assumption | omega | decide) (by exact tmX) (by exact cvX) (by exact nmX) (by exact adX) (by exact ckX) (by exact crX)
                · have pN2 := pN (by omega)
                  refine Z_rg 49 x53 rfl (fun g49 g49b => ?_)
                  refine Z_rg 31 24 rfl (fun g24 g24b => ?_)
                  refine Z_aload_n (n := 73) dX4_add_72 rfl rfl ?_
                  refine Z_getA (n := 76) dX4_add_73 rfl ffX4_72 rfl rfl ?_
                  refine Z_iload (n := 78) dX4_add_76 rfl rfl ?_
                  refine Z_aload_n (n := 79) dX4_add_78 rfl rfl ?_
                  refine Z_getI (n := 82) (ki := 27) dX4_add_79 rfl ffX4_160 rfl rfl rfl (fun r79 s79 => ?_)
                  refine Z_iast (n := 83) dX4_add_82 rfl rfl rfl (by first | decide | assumption) (by omega) (by omega) (by first | assumption | omega | decide) (by first | assumption | omega | decide) (by decide) ?_
                  refine Z_aload_n (n := 84) dX4_add_83 rfl rfl ?_
                  refine Z_dup (n := 85) dX4_add_84 rfl rfl ?_
                  refine Z_getI (n := 88) (ki := 24) dX4_add_85 rfl ffX4_149 rfl rfl rfl (fun r85 s85 => ?_)
                  try simp only [uz_oo (show (31 : Nat) ≠ 52 by decide), uz_oo (show (49 : Nat) ≠ 52 by decide), uz_oo (show (49 : Nat) ≠ 31 by decide), uz_oo (show (45 : Nat) ≠ 49 by decide), uz_oo (show (45 : Nat) ≠ 31 by decide), uz_oo (show (45 : Nat) ≠ 52 by decide), uz_oo (show (45 : Nat) ≠ 46 by decide), uz_oo (show (52 : Nat) ≠ 31 by decide)] at r85 s85 ⊢
                  refine Z_aload_n (n := 89) dX4_add_88 rfl rfl ?_
                  refine Z_getA (n := 92) dX4_add_89 rfl ffX4_63 rfl rfl ?_
                  refine Z_iload (n := 94) dX4_add_92 rfl rfl ?_
                  refine Z_iald (n := 95) dX4_add_94 rfl rfl rfl (by first | decide | assumption) (by omega) (by omega) (fun r94 s94 => ?_)
                  try simp only [uz_oo (show (31 : Nat) ≠ 52 by decide), uz_oo (show (49 : Nat) ≠ 52 by decide), uz_oo (show (49 : Nat) ≠ 31 by decide), uz_oo (show (45 : Nat) ≠ 49 by decide), uz_oo (show (45 : Nat) ≠ 31 by decide), uz_oo (show (45 : Nat) ≠ 52 by decide), uz_oo (show (45 : Nat) ≠ 46 by decide), uz_oo (show (52 : Nat) ≠ 31 by decide)] at r94 s94 ⊢
                  refine Z_if_ne (n := 98) (t := 102) dX4_add_95 rfl (by decide) (fun c95 => ?_) (fun c95 => ?_)
                  · refine Z_iconst (n := 103) dX4_add_102 rfl (by decide) ?_
                    refine Z_iadd (n := 104) dX4_add_103 rfl (by omega) ?_
                    refine Z_putI (n := 107) (ki := 24) dX4_add_104 rfl ffX4_149 rfl (by decide) rfl rfl (by first | assumption | omega | decide) (by first | assumption | omega | decide) (by decide) ?_
                    refine Z_aload_n (n := 108) dX4_add_107 rfl rfl ?_
                    refine Z_getA (n := 111) dX4_add_108 rfl ffX4_63 rfl rfl ?_
                    refine Z_iload (n := 113) dX4_add_111 rfl rfl ?_
                    refine Z_dup2 (n := 114) dX4_add_113 rfl rfl rfl ?_
                    refine Z_iald (n := 115) dX4_add_114 rfl rfl rfl (by first | decide | assumption) (by omega) (by omega) (fun r114 s114 => ?_)
                    try simp only [uz_oo (show (31 : Nat) ≠ 52 by decide), uz_oo (show (49 : Nat) ≠ 52 by decide), uz_oo (show (49 : Nat) ≠ 31 by decide), uz_oo (show (45 : Nat) ≠ 49 by decide), uz_oo (show (45 : Nat) ≠ 31 by decide), uz_oo (show (45 : Nat) ≠ 52 by decide), uz_oo (show (45 : Nat) ≠ 46 by decide), uz_oo (show (52 : Nat) ≠ 31 by decide)] at r114 s114 ⊢
                    refine Z_iconst (n := 116) dX4_add_115 rfl (by decide) ?_
                    refine Z_iadd (n := 117) dX4_add_116 rfl (by omega) ?_
                    refine Z_iast (n := 118) dX4_add_117 rfl rfl rfl (by first | decide | assumption) (by omega) (by omega) (by first | assumption | omega | decide) (by first | assumption | omega | decide) (by decide) ?_
                    refine Z_aload_n (n := 119) dX4_add_118 rfl rfl ?_
                    refine Z_getA (n := 122) dX4_add_119 rfl ffX4_54 rfl rfl ?_
                    refine Z_sipush (n := 125) dX4_add_122 rfl (by decide) (by decide) ?_
                    refine Z_iload_n (n := 126) dX4_add_125 rfl rfl ?_
                    refine Z_imul (n := 127) dX4_add_126 rfl (by omega) ?_
                    refine Z_aload_n (n := 128) dX4_add_127 rfl rfl ?_
                    refine Z_getA (n := 131) dX4_add_128 rfl ffX4_51 rfl rfl ?_
                    refine Z_iload_n (n := 132) dX4_add_131 rfl rfl ?_
                    refine Z_iald (n := 133) dX4_add_132 rfl rfl rfl (by first | decide | assumption) (by omega) (by omega) (fun r132 s132 => ?_)
                    try simp only [uz_oo (show (31 : Nat) ≠ 52 by decide), uz_oo (show (49 : Nat) ≠ 52 by decide), uz_oo (show (49 : Nat) ≠ 31 by decide), uz_oo (show (45 : Nat) ≠ 49 by decide), uz_oo (show (45 : Nat) ≠ 31 by decide), uz_oo (show (45 : Nat) ≠ 52 by decide), uz_oo (show (45 : Nat) ≠ 46 by decide), uz_oo (show (52 : Nat) ≠ 31 by decide)] at r132 s132 ⊢
                    refine Z_iadd (n := 134) dX4_add_133 rfl (by omega) ?_
                    refine Z_iload (n := 136) dX4_add_134 rfl rfl ?_
                    refine Z_iast (n := 137) dX4_add_136 rfl rfl rfl (by first | decide | assumption) (by omega) (by omega) (by first | assumption | omega | decide) (by first | assumption | omega | decide) (by decide) ?_
                    refine Z_aload_n (n := 138) dX4_add_137 rfl rfl ?_
                    refine Z_getA (n := 141) dX4_add_138 rfl ffX4_51 rfl rfl ?_
                    refine Z_iload_n (n := 142) dX4_add_141 rfl rfl ?_
                    refine Z_dup2 (n := 143) dX4_add_142 rfl rfl rfl ?_
                    refine Z_iald (n := 144) dX4_add_143 rfl rfl rfl (by first | decide | assumption) (by omega) (by omega) (fun r143 s143 => ?_)
                    try simp only [uz_oo (show (31 : Nat) ≠ 52 by decide), uz_oo (show (49 : Nat) ≠ 52 by decide), uz_oo (show (49 : Nat) ≠ 31 by decide), uz_oo (show (45 : Nat) ≠ 49 by decide), uz_oo (show (45 : Nat) ≠ 31 by decide), uz_oo (show (45 : Nat) ≠ 52 by decide), uz_oo (show (45 : Nat) ≠ 46 by decide), uz_oo (show (52 : Nat) ≠ 31 by decide)] at r143 s143 ⊢
                    refine Z_iconst (n := 145) dX4_add_144 rfl (by decide) ?_
                    refine Z_iadd (n := 146) dX4_add_145 rfl (by omega) ?_
                    refine Z_iast (n := 147) dX4_add_146 rfl rfl rfl (by first | decide | assumption) (by omega) (by omega) (by first | assumption | omega | decide) (by first | assumption | omega | decide) (by decide) ?_
                    refine Z_nm (fun M146 e146 => ?_)
                    have e2 : M146 = puM M53 f x53 := by
                      rw [e146]
                      unfold puM
                      first | rw [if_pos (by assumption)] | rw [if_neg (by assumption)]
                    have tmX : TIm M146 J53 f (M 31 27 + 1) (M 31 24) := by rw [e2]; exact pN2.1
                    have hM53 : ∀ g : Int, 0 ≤ M53 45 g ∧ M53 45 g ≤ 255 := fun g => by rw [e45]; exact ok34 45 g
                    have iN : ∀ m : Int, inS M146 f 0 m ↔ (inS M53 f 0 m ∨ (f = f ∧ m = x53)) := fun m => by rw [e2]; exact puM_inS f0 f0 hM53 (by omega) (by decide) (hM53 f).1
                    have mN : ∀ (m d' : Int) (P : Int → Int64), mtc M53 J53 m d' P → mtc M146 J53 m d' P := fun m d' P a => by
                      unfold mtc at *
                      rw [e2, puM_o (by decide)]
                      exact a
                    have cvX : cov M146 J53 (bitF J f) f d (i + 1) := cov_st (cov_J i34_3 (f45 48 (by decide)).2) (fun m d' P a b => ⟨(iN m).mpr (Or.inl (kp m d' P a b).1), mN m d' P (kp m d' P a b).2⟩) (fun _ => ⟨x53, (iN x53).mpr (Or.inr ⟨rfl, rfl⟩), mN _ _ _ mtL⟩)
                    have nmX : M146 45 f ≤ zshl 1 d - 1 + (i + 1) := by rw [e2, puM_45, updI_s]; omega
                    have adX : adf M M146 f := by rw [e2]; exact adf_pu ad53 (by omega) (by omega)
                    have ckX : cvk M J (bitF J f) (M 31 24) M146 J53 := by rw [e2]; exact cvk_pu ck53 cx53 g49
                    have crX : cvr M146 J53 (bitF J f) f := fun m hm => by
                      rcases (iN m).mp hm with z | ⟨-, z⟩
                      · obtain ⟨d', i', a1, a2, a3⟩ := cr53 m z
                        exact ⟨d', i', a1, a2, mN _ _ _ a3⟩
                      · exact ⟨d, i, by omega, hly, by rw [z]; exact mN _ _ _ mtL⟩
                    clear e146
                    refine Z_iinc (L' := [_, _, _, _, _]) (n := 150) dX4_add_147 rfl rfl (by decide) rfl rfl (by omega) rfl ?_
                    refine Z_goto (t := 34) dX4_add_150 (by decide) ?_
                    refine Z_loc (L' := [some _, some _, some _, some _, none]) (lsub_same (lsub_same (lsub_same (lsub_same (lsub_none lsub_nil))))) ?_
                    exact ih34 _ _ _ (by omega) (by first | assumption | omega | decide) (by first | assumption | omega | decide) (by exact tmX) (by exact cvX) (by exact nmX) (by exact adX) (by exact ckX) (by exact crX)
                  · refine Z_iconst (n := 99) dX4_add_98 rfl (by decide) ?_
                    refine Z_goto (t := 103) dX4_add_99 (by decide) ?_
                    refine Z_iadd (n := 104) dX4_add_103 rfl (by omega) ?_
                    refine Z_putI (n := 107) (ki := 24) dX4_add_104 rfl ffX4_149 rfl (by decide) rfl rfl (by first | assumption | omega | decide) (by first | assumption | omega | decide) (by decide) ?_
                    refine Z_aload_n (n := 108) dX4_add_107 rfl rfl ?_
                    refine Z_getA (n := 111) dX4_add_108 rfl ffX4_63 rfl rfl ?_
                    refine Z_iload (n := 113) dX4_add_111 rfl rfl ?_
                    refine Z_dup2 (n := 114) dX4_add_113 rfl rfl rfl ?_
                    refine Z_iald (n := 115) dX4_add_114 rfl rfl rfl (by first | decide | assumption) (by omega) (by omega) (fun r114 s114 => ?_)
                    try simp only [uz_oo (show (31 : Nat) ≠ 52 by decide), uz_oo (show (49 : Nat) ≠ 52 by decide), uz_oo (show (49 : Nat) ≠ 31 by decide), uz_oo (show (45 : Nat) ≠ 49 by decide), uz_oo (show (45 : Nat) ≠ 31 by decide), uz_oo (show (45 : Nat) ≠ 52 by decide), uz_oo (show (45 : Nat) ≠ 46 by decide), uz_oo (show (52 : Nat) ≠ 31 by decide)] at r114 s114 ⊢
                    refine Z_iconst (n := 116) dX4_add_115 rfl (by decide) ?_
                    refine Z_iadd (n := 117) dX4_add_116 rfl (by omega) ?_
                    refine Z_iast (n := 118) dX4_add_117 rfl rfl rfl (by first | decide | assumption) (by omega) (by omega) (by first | assumption | omega | decide) (by first | assumption | omega | decide) (by decide) ?_
                    refine Z_aload_n (n := 119) dX4_add_118 rfl rfl ?_
                    refine Z_getA (n := 122) dX4_add_119 rfl ffX4_54 rfl rfl ?_
                    refine Z_sipush (n := 125) dX4_add_122 rfl (by decide) (by decide) ?_
                    refine Z_iload_n (n := 126) dX4_add_125 rfl rfl ?_
                    refine Z_imul (n := 127) dX4_add_126 rfl (by omega) ?_
                    refine Z_aload_n (n := 128) dX4_add_127 rfl rfl ?_
                    refine Z_getA (n := 131) dX4_add_128 rfl ffX4_51 rfl rfl ?_
                    refine Z_iload_n (n := 132) dX4_add_131 rfl rfl ?_
                    refine Z_iald (n := 133) dX4_add_132 rfl rfl rfl (by first | decide | assumption) (by omega) (by omega) (fun r132 s132 => ?_)
                    try simp only [uz_oo (show (31 : Nat) ≠ 52 by decide), uz_oo (show (49 : Nat) ≠ 52 by decide), uz_oo (show (49 : Nat) ≠ 31 by decide), uz_oo (show (45 : Nat) ≠ 49 by decide), uz_oo (show (45 : Nat) ≠ 31 by decide), uz_oo (show (45 : Nat) ≠ 52 by decide), uz_oo (show (45 : Nat) ≠ 46 by decide), uz_oo (show (52 : Nat) ≠ 31 by decide)] at r132 s132 ⊢
                    refine Z_iadd (n := 134) dX4_add_133 rfl (by omega) ?_
                    refine Z_iload (n := 136) dX4_add_134 rfl rfl ?_
                    refine Z_iast (n := 137) dX4_add_136 rfl rfl rfl (by first | decide | assumption) (by omega) (by omega) (by first | assumption | omega | decide) (by first | assumption | omega | decide) (by decide) ?_
                    refine Z_aload_n (n := 138) dX4_add_137 rfl rfl ?_
                    refine Z_getA (n := 141) dX4_add_138 rfl ffX4_51 rfl rfl ?_
                    refine Z_iload_n (n := 142) dX4_add_141 rfl rfl ?_
                    refine Z_dup2 (n := 143) dX4_add_142 rfl rfl rfl ?_
                    refine Z_iald (n := 144) dX4_add_143 rfl rfl rfl (by first | decide | assumption) (by omega) (by omega) (fun r143 s143 => ?_)
                    try simp only [uz_oo (show (31 : Nat) ≠ 52 by decide), uz_oo (show (49 : Nat) ≠ 52 by decide), uz_oo (show (49 : Nat) ≠ 31 by decide), uz_oo (show (45 : Nat) ≠ 49 by decide), uz_oo (show (45 : Nat) ≠ 31 by decide), uz_oo (show (45 : Nat) ≠ 52 by decide), uz_oo (show (45 : Nat) ≠ 46 by decide), uz_oo (show (52 : Nat) ≠ 31 by decide)] at r143 s143 ⊢
                    refine Z_iconst (n := 145) dX4_add_144 rfl (by decide) ?_
                    refine Z_iadd (n := 146) dX4_add_145 rfl (by omega) ?_
                    refine Z_iast (n := 147) dX4_add_146 rfl rfl rfl (by first | decide | assumption) (by omega) (by omega) (by first | assumption | omega | decide) (by first | assumption | omega | decide) (by decide) ?_
                    refine Z_nm (fun M146 e146 => ?_)
                    have e2 : M146 = puM M53 f x53 := by
                      rw [e146]
                      unfold puM
                      first | rw [if_pos (by assumption)] | rw [if_neg (by assumption)]
                    have tmX : TIm M146 J53 f (M 31 27 + 1) (M 31 24) := by rw [e2]; exact pN2.1
                    have hM53 : ∀ g : Int, 0 ≤ M53 45 g ∧ M53 45 g ≤ 255 := fun g => by rw [e45]; exact ok34 45 g
                    have iN : ∀ m : Int, inS M146 f 0 m ↔ (inS M53 f 0 m ∨ (f = f ∧ m = x53)) := fun m => by rw [e2]; exact puM_inS f0 f0 hM53 (by omega) (by decide) (hM53 f).1
                    have mN : ∀ (m d' : Int) (P : Int → Int64), mtc M53 J53 m d' P → mtc M146 J53 m d' P := fun m d' P a => by
                      unfold mtc at *
                      rw [e2, puM_o (by decide)]
                      exact a
                    have cvX : cov M146 J53 (bitF J f) f d (i + 1) := cov_st (cov_J i34_3 (f45 48 (by decide)).2) (fun m d' P a b => ⟨(iN m).mpr (Or.inl (kp m d' P a b).1), mN m d' P (kp m d' P a b).2⟩) (fun _ => ⟨x53, (iN x53).mpr (Or.inr ⟨rfl, rfl⟩), mN _ _ _ mtL⟩)
                    have nmX : M146 45 f ≤ zshl 1 d - 1 + (i + 1) := by rw [e2, puM_45, updI_s]; omega
                    have adX : adf M M146 f := by rw [e2]; exact adf_pu ad53 (by omega) (by omega)
                    have ckX : cvk M J (bitF J f) (M 31 24) M146 J53 := by rw [e2]; exact cvk_pu ck53 cx53 g49
                    have crX : cvr M146 J53 (bitF J f) f := fun m hm => by
                      rcases (iN m).mp hm with z | ⟨-, z⟩
                      · obtain ⟨d', i', a1, a2, a3⟩ := cr53 m z
                        exact ⟨d', i', a1, a2, mN _ _ _ a3⟩
                      · exact ⟨d, i, by omega, hly, by rw [z]; exact mN _ _ _ mtL⟩
                    clear e146
                    refine Z_iinc (L' := [_, _, _, _, _]) (n := 150) dX4_add_147 rfl rfl (by decide) rfl rfl (by omega) rfl ?_
                    refine Z_goto (t := 34) dX4_add_150 (by decide) ?_
                    refine Z_loc (L' := [some _, some _, some _, some _, none]) (lsub_same (lsub_same (lsub_same (lsub_same (lsub_none lsub_nil))))) ?_
                    exact ih34 _ _ _ (by omega) (by first | assumption | omega | decide) (by first | assumption | omega | decide) (by exact tmX) (by exact cvX) (by exact nmX) (by exact adX) (by exact ckX) (by exact crX)
        refine Z_loc (L' := [some _, some _, some _, some _, none]) (lsub_same (lsub_same (lsub_same (lsub_same (lsub_none lsub_nil))))) ?_
        exact lp34 _ _ _ _ (Nat.lt_succ_self _) (by first | assumption | omega | decide) (by first | assumption | omega | decide) (by exact i26_2) (by exact i26_3) (by omega) (by exact i26_5) (by exact i26_6) (by exact i26_7)
  refine Z_loc (L' := [some _, some _, some _, none, none]) (lsub_same (lsub_same (lsub_same (lsub_none (lsub_none lsub_nil))))) ?_
  exact lp26 _ _ _ _ (Nat.lt_succ_self _) (by first | assumption | omega | decide) (by first | assumption | omega | decide) (by exact TIm_ad0 hT f0 f1 hf) (by exact cov_0) (by exact st4) (by exact adf_0) (by exact cvk_0) (by exact cvr_0 hT f0 f1 hf)
end
section
/-! ===== the reference: remove, steps, clearHand ===== -/
abbrev kRv (a : Nat) : Prop := ¬ a = 31 ∧ ¬ a = 43 ∧ ¬ a = 45 ∧ ¬ a = 49 ∧ ¬ a = 50 ∧ ¬ a = 51 ∧ ¬ a = 52 ∧ ¬ a = 53
def TIr (M : zM) (J : zJ) (f k : Int) : Prop := (∃ (ch : Int → List Int) (fl : List Int), tabA M J ch fl) ∧ tabB M (updI lo0 f k) ∧ (∀ g : Int, 0 ≤ g → g < 56 → ¬ M 43 g = 0 → tabC M J g) ∧ (∀ n : Int, 0 ≤ n → n < 520 → M 52 n ≤ M 31 27) ∧ tabU M J
theorem updI_updI {f : Int → Int} {k v w : Int} : updI (updI f k v) k w = updI f k w := by
  funext j
  unfold updI
  split <;> rfl
theorem updI_id {f : Int → Int} {k : Int} : updI f k (f k) = f := by
  funext j
  unfold updI
  split
  · rename_i e; rw [e]
  · rfl
theorem held_lo {M : zM} {lo : Int → Int} {g n : Int} (h : tabB M lo) (g0 : 0 ≤ g) (g1 : g < 56) (n0 : 0 ≤ n) (n1 : n < 520) (hg : ¬ M 43 g = 0) (hn : inS M g (lo g) n) : ¬ M 49 n = 0 := by
  rw [h.1 n n0 n1]
  have key : ∀ N : Nat, g < N → 1 ≤ cfn M lo n N := by
    intro N
    induction N with
    | zero => intro q; omega
    | succ N ih =>
      intro q
      have c := cfn_in M lo n N
      have i := ind_in (¬ M 43 (N : Int) = 0 ∧ inS M N (lo N) n)
      unfold cfn
      by_cases e : g = N
      · subst e
        rw [ind_t ⟨hg, hn⟩]
        omega
      · have := ih (by omega)
        omega
  have := key 56 (by omega)
  omega
theorem tabC_mv {M M' : zM} {J J' : zJ} {g : Int} (h : tabC M J g) (e45 : M' 45 g = M 45 g) (e46 : M' 46 = M 46) (e47 : M' 47 = M 47) (e48 : J' 48 = J 48) (e44 : J' 44 = J 44) : tabC M' J' g := by
  have hm : ∀ (m d : Int) (P : Int → Int64), mtc M J m d P → mtc M' J' m d P := fun m d P z => by
    unfold mtc at *
    rw [e47, e48]
    exact z
  have hS : ∀ n : Int, inS M' g 0 n ↔ inS M g 0 n := fun n => by unfold inS; rw [e45, e46]
  unfold tabC
  rw [bitF_congr e44 g]
  refine ⟨fun d i a b c w q => ?_, fun n hn => ?_⟩
  · obtain ⟨n, h1, h2⟩ := h.1 d i a b c w q
    exact ⟨n, (hS n).mpr h1, hm _ _ _ h2⟩
  · obtain ⟨d, i, h1, h2, h3⟩ := h.2 n ((hS n).mp hn)
    exact ⟨d, i, h1, h2, hm _ _ _ h3⟩
theorem TIr_0 {M : zM} {J : zJ} {f : Int} (h : TI M J) : TIr M J f 0 := by
  obtain ⟨h1, h2, h3, h4⟩ := h
  exact ⟨h1, by rw [show (0 : Int) = lo0 f from rfl, updI_id]; exact h2, h3, h4⟩
/-- the node at k is held once less, and still held -/
theorem TIr_dec {M : zM} {J : zJ} {f k n : Int} (h : TIr M J f k) (hok : zOK M) (f0 : 0 ≤ f) (f1 : f < 56) (k1 : k < M 45 f) (hn : n = M 46 (255 * f + k)) (hf : ¬ M 43 f = 0) (hz : ¬ M 49 n - 1 = 0) : TIr (uz M 49 n (M 49 n - 1)) J f (k + 1) := by
  obtain ⟨⟨ch, fl, t1⟩, t2, t3, t4, tu⟩ := h
  have hM : ∀ g : Int, 0 ≤ M 45 g ∧ M 45 g ≤ 255 := fun g => hok 45 g
  have nr : 0 ≤ n ∧ n ≤ 519 := by rw [hn]; exact hok 46 _
  have hin : inS M f (updI lo0 f k f) n := ⟨k, by rw [updI_s]; omega, k1, hn.symm⟩
  have hl := held_lo t2 f0 f1 nr.1 (by omega) hf hin
  have o : ∀ a : Nat, a ≠ 49 → uz M 49 n (M 49 n - 1) a = M a := fun a ha => uz_o ha
  refine ⟨⟨ch, fl, tabA_rm t1 hl hz (o 50 (by decide)) (o 51 (by decide)) (o 47 (by decide)) (by rw [o 31 (by decide)]) (by rw [o 31 (by decide)]) uz_fn⟩, ?_, fun g g0 g1 hg => ?_, fun m m0 m1 => ?_, tabU_mv tu (fun m hm => ?_) (o 47 (by decide)) rfl⟩
  · have q := tabB_rm (M' := uz M 49 n (M 49 n - 1)) t2 hM f0 f1 updI_s k1 hn.symm hf (o 43 (by decide)) (o 45 (by decide)) (o 46 (by decide)) uz_fn
    rw [updI_updI] at q
    exact q
  · rw [o 43 (by decide)] at hg
    exact tabC_mv (t3 g g0 g1 hg) (by rw [o 45 (by decide)]) (o 46 (by decide)) (o 47 (by decide)) rfl rfl
  · rw [o 52 (by decide), o 31 (by decide)]; exact t4 m m0 m1
  · rw [uz_fn] at hm
    by_cases e : m = n
    · rw [e]; exact hl
    · rw [updI_n e] at hm; exact hm
/-- ahead of unlink -/
def rm1 (M : zM) (n : Int) : zM := uz (uz (uz M 49 n (M 49 n - 1)) 31 24 (M 31 24 - 1)) 52 n 0
theorem rm1_o {M : zM} {n : Int} {a : Nat} (h1 : a ≠ 31) (h2 : a ≠ 49) (h3 : a ≠ 52) : rm1 M n a = M a := by
  unfold rm1
  rw [uz_o h3, uz_o h1, uz_o h2]
theorem rm1_31 {M : zM} {n j : Int} (h : j ≠ 24) : rm1 M n 31 j = M 31 j := by
  unfold rm1
  rw [uz_oo (by decide), uz_n h, uz_oo (by decide)]
theorem rm1_24 {M : zM} {n : Int} : rm1 M n 31 24 = M 31 24 - 1 := by
  unfold rm1
  rw [uz_oo (by decide), uz_s]
theorem rm1_49 {M : zM} {n : Int} : rm1 M n 49 = updI (M 49) n (M 49 n - 1) := by
  unfold rm1
  rw [uz_o (by decide), uz_o (by decide), uz_fn]
theorem rm1_52 {M : zM} {n : Int} : rm1 M n 52 = updI (M 52) n 0 := by
  unfold rm1
  rw [uz_fn, uz_o (by decide), uz_o (by decide)]
/-- what unlink wants, and what it gives -/
theorem TIr_ul {M : zM} {J : zJ} {f k n : Int} (h : TIr M J f k) (hok : zOK M) (f0 : 0 ≤ f) (f1 : f < 56) (k1 : k < M 45 f) (hn : n = M 46 (255 * f + k)) (hf : ¬ M 43 f = 0) (hz : M 49 n - 1 = 0) : ∃ l : List Int, chn (rm1 M n 50) (rm1 M n 51 (bkt (rm1 M n 47 n) (kyf J n))) l ∧ l.Nodup ∧ n ∈ l ∧ ∀ (M' : zM) (J' : zJ), (∀ a, kUl a → M' a = rm1 M n a ∧ J' a = J a) → ulQ (rm1 M n) n (bkt (rm1 M n 47 n) (kyf J n)) l M' → TIr M' J' f (k + 1) ∧ M' 31 24 = M 31 24 - 1 ∧ (∀ j : Int, j ≠ 23 → j ≠ 24 → M' 31 j = M 31 j) := by
  obtain ⟨⟨ch, fl, t1⟩, t2, t3, t4, tu⟩ := h
  have hM : ∀ g : Int, 0 ≤ M 45 g ∧ M 45 g ≤ 255 := fun g => hok 45 g
  have nr : 0 ≤ n ∧ n ≤ 519 := by rw [hn]; exact hok 46 _
  have hin : inS M f (updI lo0 f k f) n := ⟨k, by rw [updI_s]; omega, k1, hn.symm⟩
  have hl := held_lo t2 f0 f1 nr.1 (by omega) hf hin
  have a50 : rm1 M n 50 = M 50 := rm1_o (by decide) (by decide) (by decide)
  have a51 : rm1 M n 51 = M 51 := rm1_o (by decide) (by decide) (by decide)
  have a47 : rm1 M n 47 = M 47 := rm1_o (by decide) (by decide) (by decide)
  have hb := bkt_in (M 47 n) (kyf J n)
  obtain ⟨q1, q2, q3⟩ := t1.1 _ hb.1 hb.2
  refine ⟨ch (bkt (M 47 n) (kyf J n)), by rw [a50, a51, a47]; exact q1, q2, (t1.2.2.1 n nr.1 (by omega)).2 hl, fun M' J' fr hu => ?_⟩
  rw [a47] at hu
  have e49 : M' 49 = updI (M 49) n (M 49 n - 1) := ((fr 49 (by decide)).1).trans rm1_49
  have e47 : M' 47 = M 47 := ((fr 47 (by decide)).1).trans a47
  have e43 : M' 43 = M 43 := ((fr 43 (by decide)).1).trans (rm1_o (by decide) (by decide) (by decide))
  have e45 : M' 45 = M 45 := ((fr 45 (by decide)).1).trans (rm1_o (by decide) (by decide) (by decide))
  have e46 : M' 46 = M 46 := ((fr 46 (by decide)).1).trans (rm1_o (by decide) (by decide) (by decide))
  have e48 : J' 48 = J 48 := (fr 48 (by decide)).2
  have e44 : J' 44 = J 44 := (fr 44 (by decide)).2
  have e52 : M' 52 = updI (M 52) n 0 := ((fr 52 (by decide)).1).trans rm1_52
  have e31 : ∀ j : Int, j ≠ 23 → j ≠ 24 → M' 31 j = M 31 j := fun j a b => (hu.2.1 j a).trans (rm1_31 b)
  refine ⟨⟨?_, ?_, fun g g0 g1 hg => ?_, fun m m0 m1 => ?_, tabU_mv tu (fun m hm => ?_) e47 e48⟩, (hu.2.1 24 (by decide)).trans rm1_24, e31⟩
  · obtain ⟨ch', fl', z⟩ := tabA_ul t1 nr.1 (by omega) hl a50 a51 (rm1_31 (by decide)) rm1_24 hu e47 (by rw [e49, hz])
    exact ⟨ch', fl', tabA_J e48 z⟩
  · have q := tabB_rm (M' := M') t2 hM f0 f1 updI_s k1 hn.symm hf e43 e45 e46 e49
    rw [updI_updI] at q
    exact q
  · rw [e43] at hg
    exact tabC_mv (t3 g g0 g1 hg) (by rw [e45]) e46 e47 e48 e44
  · rw [e52, e31 27 (by decide) (by decide)]
    have z : 0 ≤ M 31 27 ∧ M 31 27 ≤ 2147483647 := hok 31 27
    by_cases e : m = n
    · rw [e, updI_s]; exact z.1
    · rw [updI_n e]; exact t4 m m0 m1
  · rw [e49] at hm
    by_cases e : m = n
    · rw [e]; exact hl
    · rw [updI_n e] at hm; exact hm
/-- all its nodes are let go: f has nothing -/
theorem TI_rm {M : zM} {J : zJ} {f k : Int} (h : TIr M J f k) (hq : M 45 f ≤ k ∨ M 43 f = 0) : TI (uz (uz M 43 f 0) 45 f 0) J := by
  obtain ⟨⟨ch, fl, t1⟩, t2, t3, t4, tu⟩ := h
  have o : ∀ a : Nat, a ≠ 43 → a ≠ 45 → uz (uz M 43 f 0) 45 f 0 a = M a := fun a h1 h2 => by rw [uz_o h2, uz_o h1]
  have e43 : uz (uz M 43 f 0) 45 f 0 43 = updI (M 43) f 0 := by rw [uz_o (by decide), uz_fn]
  have e45 : uz (uz M 43 f 0) 45 f 0 45 = updI (M 45) f 0 := by rw [uz_fn, uz_o (by decide)]
  have hS : ∀ g m : Int, g ≠ f → (inS (uz (uz M 43 f 0) 45 f 0) g 0 m ↔ inS M g 0 m) := fun g m hg => by
    unfold inS
    rw [e45, updI_n hg, o 46 (by decide) (by decide)]
  refine ⟨⟨ch, fl, ?_⟩, ⟨fun m m0 m1 => ?_, fun g g0 g1 => ⟨fun i j hi hij hj => ?_, fun e => ?_⟩⟩, fun g g0 g1 hg => ?_, fun m m0 m1 => ?_, tabU_mv tu (fun m hm => by rw [o 49 (by decide) (by decide)] at hm; exact hm) (o 47 (by decide) (by decide)) rfl⟩
  · unfold tabA
    rw [o 50 (by decide) (by decide), o 51 (by decide) (by decide), o 47 (by decide) (by decide), o 49 (by decide) (by decide), o 31 (by decide) (by decide)]
    exact t1
  · rw [o 49 (by decide) (by decide), t2.1 m m0 m1]
    refine cfn_congr (fun g g0 g1 => ?_)
    by_cases e : g = f
    · subst e
      rw [e43, updI_s, updI_s]
      constructor
      · rintro ⟨z1, z2⟩
        rcases hq with q | q
        · exact absurd z2 (inS_none q)
        · exact absurd q z1
      · rintro ⟨z1, -⟩
        exact absurd rfl z1
    · rw [e43, updI_n e, updI_n e]
      exact and_congr Iff.rfl (hS g m e).symm
  · rw [e45] at hj
    rw [o 46 (by decide) (by decide)]
    by_cases e : g = f
    · rw [e, updI_s] at hj
      have : 0 ≤ i := hi
      omega
    · rw [updI_n e] at hj
      exact (t2.2 g g0 g1).1 i j (by rw [updI_n e]; exact hi) hij hj
  · rw [e45]
    by_cases z : g = f
    · rw [z, updI_s]
    · rw [e43, updI_n z] at e
      rw [updI_n z]
      exact (t2.2 g g0 g1).2 e
  · rw [e43] at hg
    by_cases z : g = f
    · rw [z, updI_s] at hg
      exact absurd rfl hg
    · rw [updI_n z] at hg
      exact tabC_mv (t3 g g0 g1 hg) (by rw [e45, updI_n z]) (o 46 (by decide) (by decide)) (o 47 (by decide) (by decide)) rfl rfl
  · rw [o 52 (by decide) (by decide), o 31 (by decide) (by decide)]; exact t4 m m0 m1
theorem hr_pos {f : Int → Int} {v : Int} : ∀ {n : Nat}, 0 ≤ v → v < n → ¬ f v = 0 → 1 ≤ hr f n
  | 0, h0, h1, _ => by omega
  | n + 1, h0, h1, h2 => by
    have h := hr_in f n
    unfold hr
    by_cases e : v = n
    · subst e
      rw [if_neg h2]
      omega
    · have := hr_pos (n := n) h0 (by omega) h2
      split <;> omega
theorem TIr_use {M : zM} {J : zJ} {f k n : Int} (h : TIr M J f k) (n0 : 0 ≤ n) (n1 : n < 520) (hn : ¬ M 49 n = 0) : 1 ≤ M 31 24 := by
  obtain ⟨⟨ch, fl, t1⟩, -⟩ := h
  rw [t1.2.2.2]
  exact hr_pos n0 (by omega) hn
set_option maxRecDepth 20000 in
theorem zX4_remove {G : tl_G} {M : zM} {J : zJ} {f : Int} (f0 : 0 ≤ f) (f1 : f < 56) (hT : TI M J) : ZN G yX4_remove mX4_remove 2 kRv [vR 31, vI f] F1 M J (qV (fun M' J' => TI M' J' ∧ M' 43 f = 0 ∧ M' 31 27 = M 31 27 ∧ M' 31 24 ≤ M 31 24 ∧ adf M M' f)) := by
  refine ZN_of (L := [_, _, _, _]) (by decide) rfl rfl (Nat.le_of_ble_eq_true rfl) rfl (fun hav => ?_)
  refine Z_iconst (n := 1) dX4_remove_0 rfl (by decide) ?_
  refine Z_istore_n (L' := [_, _, _, _]) (n := 2) dX4_remove_1 rfl (by decide) rfl rfl ?_
  have lp2 : ∀ (N2 : Nat) (k : Int) (M2 : zM) (J2 : zJ), ((255 - k).toNat) < N2 → (0 ≤ k) → (k ≤ 255) → (TIr M2 J2 f k) → (M2 43 = M 43 ∧ M2 45 = M 45 ∧ M2 46 = M 46) → (∀ j : Int, j ≠ 23 → j ≠ 24 → M2 31 j = M 31 j) → (M2 31 24 ≤ M 31 24) → TZ G mX4_remove (tl_rm 2 0 0) 0 0 kRv M J 2 [some (vR 31), some (vI f), some (vI k), none] [] F1 M2 J2 (ZM G (zPost G kRv F1 M J (qV (fun M' J' => TI M' J' ∧ M' 43 f = 0 ∧ M' 31 27 = M 31 27 ∧ M' 31 24 ≤ M 31 24 ∧ adf M M' f))) 0 0) := by
    intro N2
    induction N2 with
    | zero => intro k M2 J2 hN; omega
    | succ N2 ih2 =>
      intro k M2 J2 hN2 i2_0 i2_1 i2_2 i2_3 i2_4 i2_5
      refine Z_ok (fun ok2 => ?_)
      refine Z_fr (fun fr2 => ?_)
      refine Z_iload_n (n := 3) dX4_remove_2 rfl rfl ?_
      refine Z_aload_n (n := 4) dX4_remove_3 rfl rfl ?_
      refine Z_getA (n := 7) dX4_remove_4 rfl ffX4_51 rfl rfl ?_
      refine Z_iload_n (n := 8) dX4_remove_7 rfl rfl ?_
      refine Z_iald (n := 9) dX4_remove_8 rfl rfl rfl (by first | decide | assumption) (by omega) (by omega) (fun r8 s8 => ?_)
      refine Z_icmp_ge (n := 12) (t := 81) dX4_remove_9 rfl (by decide) (fun c9 => ?_) (fun c9 => ?_)
      · refine Z_aload_n (n := 82) dX4_remove_81 rfl rfl ?_
        refine Z_getA (n := 85) dX4_remove_82 rfl ffX4_44 rfl rfl ?_
        refine Z_iload_n (n := 86) dX4_remove_85 rfl rfl ?_
        refine Z_iconst (n := 87) dX4_remove_86 rfl (by decide) ?_
        refine Z_zast (n := 88) dX4_remove_87 rfl rfl rfl (by first | decide | assumption) (by omega) (by omega) (by first | assumption | omega | decide) (by first | assumption | omega | decide) (by decide) ?_
        refine Z_aload_n (n := 89) dX4_remove_88 rfl rfl ?_
        refine Z_getA (n := 92) dX4_remove_89 rfl ffX4_51 rfl rfl ?_
        refine Z_iload_n (n := 93) dX4_remove_92 rfl rfl ?_
        refine Z_iconst (n := 94) dX4_remove_93 rfl (by decide) ?_
        refine Z_iast (n := 95) dX4_remove_94 rfl rfl rfl (by first | decide | assumption) (by omega) (by omega) (by first | assumption | omega | decide) (by first | assumption | omega | decide) (by decide) ?_
        refine Z_vret dX4_remove_95 rfl ?_
        refine ⟨TI_rm i2_2 (by omega), by rw [uz_oo (by decide), uz_s], by rw [uz_oo (by decide), uz_oo (by decide)]; exact i2_4 27 (by decide) (by decide), by rw [uz_oo (by decide), uz_oo (by decide)]; exact i2_5, fun g hg => ⟨?_, ?_⟩, fun j _ => ?_, fun j a b _ _ => ?_⟩
        · rw [uz_n hg, uz_oo (by decide), i2_3.2.1]
        · rw [uz_oo (by decide), uz_n hg, i2_3.1]
        · rw [uz_oo (by decide), uz_oo (by decide), i2_3.2.2]
        · rw [uz_oo (by decide), uz_oo (by decide)]; exact i2_4 j a b
      · refine Z_aload_n (n := 13) dX4_remove_12 rfl rfl ?_
        refine Z_getA (n := 16) dX4_remove_13 rfl ffX4_44 rfl rfl ?_
        refine Z_iload_n (n := 17) dX4_remove_16 rfl rfl ?_
        refine Z_zald (n := 18) dX4_remove_17 rfl rfl rfl (by first | decide | assumption) (by omega) (by omega) (fun r17 s17 => ?_)
        refine Z_if_eq (n := 21) (t := 81) dX4_remove_18 rfl (by decide) (fun c18 => ?_) (fun c18 => ?_)
        · refine Z_aload_n (n := 82) dX4_remove_81 rfl rfl ?_
          refine Z_getA (n := 85) dX4_remove_82 rfl ffX4_44 rfl rfl ?_
          refine Z_iload_n (n := 86) dX4_remove_85 rfl rfl ?_
          refine Z_iconst (n := 87) dX4_remove_86 rfl (by decide) ?_
          refine Z_zast (n := 88) dX4_remove_87 rfl rfl rfl (by first | decide | assumption) (by omega) (by omega) (by first | assumption | omega | decide) (by first | assumption | omega | decide) (by decide) ?_
          refine Z_aload_n (n := 89) dX4_remove_88 rfl rfl ?_
          refine Z_getA (n := 92) dX4_remove_89 rfl ffX4_51 rfl rfl ?_
          refine Z_iload_n (n := 93) dX4_remove_92 rfl rfl ?_
          refine Z_iconst (n := 94) dX4_remove_93 rfl (by decide) ?_
          refine Z_iast (n := 95) dX4_remove_94 rfl rfl rfl (by first | decide | assumption) (by omega) (by omega) (by first | assumption | omega | decide) (by first | assumption | omega | decide) (by decide) ?_
          refine Z_vret dX4_remove_95 rfl ?_
          refine ⟨TI_rm i2_2 (by omega), by rw [uz_oo (by decide), uz_s], by rw [uz_oo (by decide), uz_oo (by decide)]; exact i2_4 27 (by decide) (by decide), by rw [uz_oo (by decide), uz_oo (by decide)]; exact i2_5, fun g hg => ⟨?_, ?_⟩, fun j _ => ?_, fun j a b _ _ => ?_⟩
          · rw [uz_n hg, uz_oo (by decide), i2_3.2.1]
          · rw [uz_oo (by decide), uz_n hg, i2_3.1]
          · rw [uz_oo (by decide), uz_oo (by decide), i2_3.2.2]
          · rw [uz_oo (by decide), uz_oo (by decide)]; exact i2_4 j a b
        · refine Z_aload_n (n := 22) dX4_remove_21 rfl rfl ?_
          refine Z_getA (n := 25) dX4_remove_22 rfl ffX4_54 rfl rfl ?_
          refine Z_sipush (n := 28) dX4_remove_25 rfl (by decide) (by decide) ?_
          refine Z_iload_n (n := 29) dX4_remove_28 rfl rfl ?_
          refine Z_imul (n := 30) dX4_remove_29 rfl (by omega) ?_
          refine Z_iload_n (n := 31) dX4_remove_30 rfl rfl ?_
          refine Z_iadd (n := 32) dX4_remove_31 rfl (by omega) ?_
          refine Z_iald (n := 33) dX4_remove_32 rfl rfl rfl (by first | decide | assumption) (by omega) (by omega) (fun r32 s32 => ?_)
          refine Z_istore_n (L' := [_, _, _, _]) (n := 34) dX4_remove_33 rfl (by decide) rfl rfl ?_
          obtain ⟨n, hn⟩ : ∃ n, n = M2 46 (255 * f + k) := ⟨_, rfl⟩
          rw [← hn] at r32 s32 ⊢
          refine Z_rg 49 n rfl (fun g49 g49b => ?_)
          have hl : ¬ M2 49 n = 0 := held_lo i2_2.2.1 f0 f1 (by omega) (by omega) c18 ⟨k, by rw [updI_s]; omega, by omega, hn.symm⟩
          refine Z_rg 31 24 rfl (fun g24 g24b => ?_)
          have u24 : 1 ≤ M2 31 24 := TIr_use i2_2 (by omega) (by omega) hl
          refine Z_aload_n (n := 35) dX4_remove_34 rfl rfl ?_
          refine Z_getA (n := 38) dX4_remove_35 rfl ffX4_63 rfl rfl ?_
          refine Z_iload_n (n := 39) dX4_remove_38 rfl rfl ?_
          refine Z_dup2 (n := 40) dX4_remove_39 rfl rfl rfl ?_
          refine Z_iald (n := 41) dX4_remove_40 rfl rfl rfl (by first | decide | assumption) (by omega) (by omega) (fun r40 s40 => ?_)
          refine Z_iconst (n := 42) dX4_remove_41 rfl (by decide) ?_
          refine Z_isub (n := 43) dX4_remove_42 rfl (by omega) ?_
          refine Z_iast (n := 44) dX4_remove_43 rfl rfl rfl (by first | decide | assumption) (by omega) (by omega) (by first | assumption | omega | decide) (by first | assumption | omega | decide) (by decide) ?_
          refine Z_aload_n (n := 45) dX4_remove_44 rfl rfl ?_
          refine Z_getA (n := 48) dX4_remove_45 rfl ffX4_63 rfl rfl ?_
          refine Z_iload_n (n := 49) dX4_remove_48 rfl rfl ?_
          refine Z_iald (n := 50) dX4_remove_49 rfl rfl rfl (by first | decide | assumption) (by omega) (by omega) (fun r49 s49 => ?_)
          try simp only [uz_s] at r49 s49 ⊢
          refine Z_if_ne (n := 53) (t := 75) dX4_remove_50 rfl (by decide) (fun c50 => ?_) (fun c50 => ?_)
          · have tr1 : TIr (uz M2 49 n (M2 49 n - 1)) J2 f (k + 1) := TIr_dec i2_2 ok2 f0 f1 (by omega) hn c18 c50
            have te1 : uz M2 49 n (M2 49 n - 1) 43 = M 43 ∧ uz M2 49 n (M2 49 n - 1) 45 = M 45 ∧ uz M2 49 n (M2 49 n - 1) 46 = M 46 := by
              rw [uz_o (by decide), uz_o (by decide), uz_o (by decide)]; exact i2_3
            have tf1 : ∀ j : Int, j ≠ 23 → j ≠ 24 → uz M2 49 n (M2 49 n - 1) 31 j = M 31 j := fun j a b => by rw [uz_oo (by decide)]; exact i2_4 j a b
            have tu1 : uz M2 49 n (M2 49 n - 1) 31 24 ≤ M 31 24 := by rw [uz_oo (by decide)]; exact i2_5
            refine Z_iinc (L' := [_, _, _, _]) (n := 78) dX4_remove_75 rfl rfl (by decide) rfl rfl (by omega) rfl ?_
            refine Z_goto (t := 2) dX4_remove_78 (by decide) ?_
            refine Z_loc (L' := [some _, some _, some _, none]) (lsub_same (lsub_same (lsub_same (lsub_none lsub_nil)))) ?_
            exact ih2 _ _ _ (by omega) (by first | assumption | omega | decide) (by first | assumption | omega | decide) (by exact tr1) (by exact te1) (by exact tf1) (by exact tu1)
          · refine Z_aload_n (n := 54) dX4_remove_53 rfl rfl ?_
            refine Z_dup (n := 55) dX4_remove_54 rfl rfl ?_
            refine Z_getI (n := 58) (ki := 24) dX4_remove_55 rfl ffX4_149 rfl rfl rfl (fun r55 s55 => ?_)
            try simp only [uz_oo (show (31 : Nat) ≠ 49 by decide)] at r55 s55 ⊢
            refine Z_iconst (n := 59) dX4_remove_58 rfl (by decide) ?_
            refine Z_isub (n := 60) dX4_remove_59 rfl (by omega) ?_
            refine Z_putI (n := 63) (ki := 24) dX4_remove_60 rfl ffX4_149 rfl (by decide) rfl rfl (by first | assumption | omega | decide) (by first | assumption | omega | decide) (by decide) ?_
            refine Z_aload_n (n := 64) dX4_remove_63 rfl rfl ?_
            refine Z_getA (n := 67) dX4_remove_64 rfl ffX4_72 rfl rfl ?_
            refine Z_iload_n (n := 68) dX4_remove_67 rfl rfl ?_
            refine Z_iconst (n := 69) dX4_remove_68 rfl (by decide) ?_
            refine Z_iast (n := 70) dX4_remove_69 rfl rfl rfl (by first | decide | assumption) (by omega) (by omega) (by first | assumption | omega | decide) (by first | assumption | omega | decide) (by decide) ?_
            obtain ⟨l, hl1, hl2, hl3, hl4⟩ := TIr_ul i2_2 ok2 f0 f1 (by omega) hn c18 c50
            refine Z_nm (fun M69 e69 => ?_)
            replace e69 : M69 = rm1 M2 n := e69
            subst e69
            refine Z_aload_n (n := 71) dX4_remove_70 rfl rfl ?_
            refine Z_iload_n (n := 72) dX4_remove_71 rfl rfl ?_
            refine Z_callVv (n := 75) [_] _ dX4_remove_72 rfl cwX4_169 rfl rfl rfl (Nat.le_of_ble_eq_true rfl) (by refine ⟨?_, ?_, ?_, ?_⟩ <;> exact Nat.le_of_ble_eq_true rfl) (fun a h => by unfold kRv at h; unfold kUl; omega) (zX4_unlink (l := l) (by omega) (by omega) (by exact hl1) (by exact hl2) (by exact hl3)) ?_
            intro M72 J72 f72 q72
            obtain ⟨tr1, u72, tf0⟩ := hl4 M72 J72 f72 q72
            have e72 : ∀ a : Nat, (a = 43 ∨ a = 45 ∨ a = 46) → M72 a = M2 a := fun a ha => ((f72 a (by unfold kUl; omega)).1).trans (rm1_o (by omega) (by omega) (by omega))
            have te1 : M72 43 = M 43 ∧ M72 45 = M 45 ∧ M72 46 = M 46 := by
              rw [e72 43 (by decide), e72 45 (by decide), e72 46 (by decide)]; exact i2_3
            have tf1 : ∀ j : Int, j ≠ 23 → j ≠ 24 → M72 31 j = M 31 j := fun j a b => (tf0 j a b).trans (i2_4 j a b)
            have tu1 : M72 31 24 ≤ M 31 24 := by omega
            refine Z_iinc (L' := [_, _, _, _]) (n := 78) dX4_remove_75 rfl rfl (by decide) rfl rfl (by omega) rfl ?_
            refine Z_goto (t := 2) dX4_remove_78 (by decide) ?_
            refine Z_loc (L' := [some _, some _, some _, none]) (lsub_same (lsub_same (lsub_same (lsub_none lsub_nil)))) ?_
            exact ih2 _ _ _ (by omega) (by first | assumption | omega | decide) (by first | assumption | omega | decide) (by exact tr1) (by exact te1) (by exact tf1) (by exact tu1)
  refine Z_loc (L' := [some _, some _, some _, none]) (lsub_same (lsub_same (lsub_same (lsub_none lsub_nil)))) ?_
  exact lp2 _ _ _ _ (Nat.lt_succ_self _) (by first | assumption | omega | decide) (by first | assumption | omega | decide) (by exact TIr_0 hT) (by exact ⟨rfl, rfl, rfl⟩) (by exact fun _ _ _ => rfl) (by exact Int.le_refl _)
theorem adf_t {M M1 M2 : zM} {f : Int} (h1 : adf M M1 f) (h2 : adf M1 M2 f) : adf M M2 f :=
  ⟨fun g hg => ⟨((h2.1 g hg).1).trans (h1.1 g hg).1, ((h2.1 g hg).2).trans (h1.1 g hg).2⟩, fun j hj => (h2.2.1 j hj).trans (h1.2.1 j hj), fun j a b c e => (h2.2.2 j a b c e).trans (h1.2.2 j a b c e)⟩
theorem TI_31 {M : zM} {J : zJ} {j v : Int} (h : TI M J) (h1 : j ≠ 23) (h2 : j ≠ 24) (h3 : j ≠ 27) : TI (uz M 31 j v) J := by
  have o : ∀ a : Nat, a ≠ 31 → uz M 31 j v a = M a := fun a ha => uz_o ha
  unfold TI tabA tabB tabC tabU at *
  have hc : ∀ n : Int, cfn (uz M 31 j v) lo0 n 56 = cfn M lo0 n 56 := fun n => cfn_congr (fun g _ _ => by unfold inS; rw [o 43 (by decide), o 45 (by decide), o 46 (by decide)])
  have hS : ∀ g m : Int, (inS (uz M 31 j v) g 0 m ↔ inS M g 0 m) := fun g m => by unfold inS; rw [o 45 (by decide), o 46 (by decide)]
  have hm : ∀ (n d : Int) (P : Int → Int64), mtc (uz M 31 j v) J n d P ↔ mtc M J n d P := fun n d P => by unfold mtc; rw [o 47 (by decide)]
  simp only [hc, hS, hm, o 43 (by decide), o 45 (by decide), o 46 (by decide), o 47 (by decide), o 49 (by decide), o 50 (by decide), o 51 (by decide), o 52 (by decide), uz_n (Ne.symm h1), uz_n (Ne.symm h2), uz_n (Ne.symm h3)]
  exact h
theorem adf_31 {M M1 : zM} {f v : Int} (h : adf M M1 f) : adf M (uz M1 31 25 v) f :=
  ⟨fun g hg => by rw [uz_oo (by decide), uz_oo (by decide)]; exact h.1 g hg, fun j hj => by rw [uz_oo (by decide)]; exact h.2.1 j hj, fun j a b c e => by rw [uz_n c]; exact h.2.2 j a b c e⟩
set_option maxRecDepth 20000 in
theorem zX4_steps {G : tl_G} {M : zM} {J : zJ} {f : Int} (f0 : 0 ≤ f) (f1 : f < 56) (hT : TI M J) (hf : M 43 f = 0) (hu : M 31 24 ≤ 250) (hk : M 31 27 < 2147483647) : ZN G yX4_steps mX4_steps 3 kAd [vR 31, vI f] F1 M J (qI (fun x M' J' => TI M' J' ∧ ¬ M' 43 f = 0 ∧ M' 31 27 = M 31 27 + 1 ∧ M' 31 24 ≤ M 31 24 + 255 ∧ adf M M' f ∧ ((x = 1 ∧ M' 31 24 ≤ M' 31 8) ∨ (x = 0 ∧ M' 31 8 < M' 31 24)))) := by
  refine ZN_of (L := [_, _]) (by decide) rfl rfl (Nat.le_of_ble_eq_true rfl) rfl (fun hav => ?_)
  refine Z_aload_n (n := 1) dX4_steps_0 rfl rfl ?_
  refine Z_iload_n (n := 2) dX4_steps_1 rfl rfl ?_
  refine Z_callVv (n := 5) [_] _ dX4_steps_2 rfl cwX4_173 rfl rfl rfl (Nat.le_of_ble_eq_true rfl) (by refine ⟨?_, ?_, ?_, ?_⟩ <;> exact Nat.le_of_ble_eq_true rfl) (fun _ h => h) (zX4_add  (by first | assumption | omega | decide) (by first | assumption | omega | decide) (by first | assumption | omega | decide) (by first | assumption | omega | decide) (by first | assumption | omega | decide) (by first | assumption | omega | decide)) ?_
  intro M2 J2 f2 q2
  obtain ⟨ti2, ah2, am2, au2, af2, ac2⟩ := q2
  refine Z_aload_n (n := 6) dX4_steps_5 rfl rfl ?_
  refine Z_aload_n (n := 7) dX4_steps_6 rfl rfl ?_
  refine Z_getI (n := 10) (ki := 24) dX4_steps_7 rfl ffX4_149 rfl rfl rfl (fun r7 s7 => ?_)
  refine Z_aload_n (n := 11) dX4_steps_10 rfl rfl ?_
  refine Z_getI (n := 14) (ki := 8) dX4_steps_11 rfl ffX4_102 rfl rfl rfl (fun r11 s11 => ?_)
  refine Z_icmp_le (n := 17) (t := 26) dX4_steps_14 rfl (by decide) (fun c14 => ?_) (fun c14 => ?_)
  · refine Z_aload_n (n := 27) dX4_steps_26 rfl rfl ?_
    refine Z_getI (n := 30) (ki := 24) dX4_steps_27 rfl ffX4_149 rfl rfl rfl (fun r27 s27 => ?_)
    refine Z_aload_n (n := 31) dX4_steps_30 rfl rfl ?_
    refine Z_getI (n := 34) (ki := 25) dX4_steps_31 rfl ffX4_176 rfl rfl rfl (fun r31 s31 => ?_)
    refine Z_icmp_le (n := 37) (t := 44) dX4_steps_34 rfl (by decide) (fun c34 => ?_) (fun c34 => ?_)
    · refine Z_aload_n (n := 45) dX4_steps_44 rfl rfl ?_
      refine Z_getI (n := 48) (ki := 25) dX4_steps_45 rfl ffX4_176 rfl rfl rfl (fun r45 s45 => ?_)
      refine Z_putI (n := 51) (ki := 25) dX4_steps_48 rfl ffX4_176 rfl (by decide) rfl rfl (by first | assumption | omega | decide) (by first | assumption | omega | decide) (by decide) ?_
      refine Z_aload_n (n := 52) dX4_steps_51 rfl rfl ?_
      refine Z_getI (n := 55) (ki := 24) dX4_steps_52 rfl ffX4_149 rfl rfl rfl (fun r52 s52 => ?_)
      try simp only [uz_n (show (24 : Int) ≠ 25 by decide)] at r52 s52 ⊢
      refine Z_aload_n (n := 56) dX4_steps_55 rfl rfl ?_
      refine Z_getI (n := 59) (ki := 8) dX4_steps_56 rfl ffX4_102 rfl rfl rfl (fun r56 s56 => ?_)
      try simp only [uz_n (show (8 : Int) ≠ 25 by decide)] at r56 s56 ⊢
      refine Z_icmp_gt (n := 62) (t := 66) dX4_steps_59 rfl (by decide) (fun c59 => ?_) (fun c59 => ?_)
      · refine Z_iconst (n := 67) dX4_steps_66 rfl (by decide) ?_
        refine Z_zret dX4_steps_67 rfl (by first | assumption | omega | decide) (by first | assumption | omega | decide) ?_
        refine ⟨TI_31 ti2 (by decide) (by decide) (by decide), by rw [uz_oo (by decide)]; exact ah2, by rw [uz_n (by decide)]; exact am2, by rw [uz_n (by decide)]; exact au2, adf_31 af2, ?_⟩
        rw [uz_n (by decide), uz_n (by decide)]
        omega
      · refine Z_iconst (n := 63) dX4_steps_62 rfl (by decide) ?_
        refine Z_goto (t := 67) dX4_steps_63 (by decide) ?_
        refine Z_zret dX4_steps_67 rfl (by first | assumption | omega | decide) (by first | assumption | omega | decide) ?_
        refine ⟨TI_31 ti2 (by decide) (by decide) (by decide), by rw [uz_oo (by decide)]; exact ah2, by rw [uz_n (by decide)]; exact am2, by rw [uz_n (by decide)]; exact au2, adf_31 af2, ?_⟩
        rw [uz_n (by decide), uz_n (by decide)]
        omega
    · refine Z_aload_n (n := 38) dX4_steps_37 rfl rfl ?_
      refine Z_getI (n := 41) (ki := 24) dX4_steps_38 rfl ffX4_149 rfl rfl rfl (fun r38 s38 => ?_)
      refine Z_goto (t := 48) dX4_steps_41 (by decide) ?_
      refine Z_putI (n := 51) (ki := 25) dX4_steps_48 rfl ffX4_176 rfl (by decide) rfl rfl (by first | assumption | omega | decide) (by first | assumption | omega | decide) (by decide) ?_
      refine Z_aload_n (n := 52) dX4_steps_51 rfl rfl ?_
      refine Z_getI (n := 55) (ki := 24) dX4_steps_52 rfl ffX4_149 rfl rfl rfl (fun r52 s52 => ?_)
      try simp only [uz_n (show (24 : Int) ≠ 25 by decide)] at r52 s52 ⊢
      refine Z_aload_n (n := 56) dX4_steps_55 rfl rfl ?_
      refine Z_getI (n := 59) (ki := 8) dX4_steps_56 rfl ffX4_102 rfl rfl rfl (fun r56 s56 => ?_)
      try simp only [uz_n (show (8 : Int) ≠ 25 by decide)] at r56 s56 ⊢
      refine Z_icmp_gt (n := 62) (t := 66) dX4_steps_59 rfl (by decide) (fun c59 => ?_) (fun c59 => ?_)
      · refine Z_iconst (n := 67) dX4_steps_66 rfl (by decide) ?_
        refine Z_zret dX4_steps_67 rfl (by first | assumption | omega | decide) (by first | assumption | omega | decide) ?_
        refine ⟨TI_31 ti2 (by decide) (by decide) (by decide), by rw [uz_oo (by decide)]; exact ah2, by rw [uz_n (by decide)]; exact am2, by rw [uz_n (by decide)]; exact au2, adf_31 af2, ?_⟩
        rw [uz_n (by decide), uz_n (by decide)]
        omega
      · refine Z_iconst (n := 63) dX4_steps_62 rfl (by decide) ?_
        refine Z_goto (t := 67) dX4_steps_63 (by decide) ?_
        refine Z_zret dX4_steps_67 rfl (by first | assumption | omega | decide) (by first | assumption | omega | decide) ?_
        refine ⟨TI_31 ti2 (by decide) (by decide) (by decide), by rw [uz_oo (by decide)]; exact ah2, by rw [uz_n (by decide)]; exact am2, by rw [uz_n (by decide)]; exact au2, adf_31 af2, ?_⟩
        rw [uz_n (by decide), uz_n (by decide)]
        omega
  · refine Z_aload_n (n := 18) dX4_steps_17 rfl rfl ?_
    refine Z_getI (n := 21) (ki := 8) dX4_steps_18 rfl ffX4_102 rfl rfl rfl (fun r18 s18 => ?_)
    refine Z_iconst (n := 22) dX4_steps_21 rfl (by decide) ?_
    refine Z_iadd (n := 23) dX4_steps_22 rfl (by omega) ?_
    refine Z_goto (t := 48) dX4_steps_23 (by decide) ?_
    refine Z_putI (n := 51) (ki := 25) dX4_steps_48 rfl ffX4_176 rfl (by decide) rfl rfl (by first | assumption | omega | decide) (by first | assumption | omega | decide) (by decide) ?_
    refine Z_aload_n (n := 52) dX4_steps_51 rfl rfl ?_
    refine Z_getI (n := 55) (ki := 24) dX4_steps_52 rfl ffX4_149 rfl rfl rfl (fun r52 s52 => ?_)
    try simp only [uz_n (show (24 : Int) ≠ 25 by decide)] at r52 s52 ⊢
    refine Z_aload_n (n := 56) dX4_steps_55 rfl rfl ?_
    refine Z_getI (n := 59) (ki := 8) dX4_steps_56 rfl ffX4_102 rfl rfl rfl (fun r56 s56 => ?_)
    try simp only [uz_n (show (8 : Int) ≠ 25 by decide)] at r56 s56 ⊢
    refine Z_icmp_gt (n := 62) (t := 66) dX4_steps_59 rfl (by decide) (fun c59 => ?_) (fun c59 => ?_)
    · refine Z_iconst (n := 67) dX4_steps_66 rfl (by decide) ?_
      refine Z_zret dX4_steps_67 rfl (by first | assumption | omega | decide) (by first | assumption | omega | decide) ?_
      refine ⟨TI_31 ti2 (by decide) (by decide) (by decide), by rw [uz_oo (by decide)]; exact ah2, by rw [uz_n (by decide)]; exact am2, by rw [uz_n (by decide)]; exact au2, adf_31 af2, ?_⟩
      rw [uz_n (by decide), uz_n (by decide)]
      omega
    · refine Z_iconst (n := 63) dX4_steps_62 rfl (by decide) ?_
      refine Z_goto (t := 67) dX4_steps_63 (by decide) ?_
      refine Z_zret dX4_steps_67 rfl (by first | assumption | omega | decide) (by first | assumption | omega | decide) ?_
      refine ⟨TI_31 ti2 (by decide) (by decide) (by decide), by rw [uz_oo (by decide)]; exact ah2, by rw [uz_n (by decide)]; exact am2, by rw [uz_n (by decide)]; exact au2, adf_31 af2, ?_⟩
      rw [uz_n (by decide), uz_n (by decide)]
      omega
/-- the handles' functions are as they were -/
def hdl (M M' : zM) : Prop := (∀ g : Int, g < 12 → M' 45 g = M 45 g ∧ M' 43 g = M 43 g) ∧ (∀ j : Int, j < 3060 → M' 46 j = M 46 j) ∧ ∀ j : Int, j ≠ 23 → j ≠ 24 → j ≠ 25 → j ≠ 27 → M' 31 j = M 31 j
theorem hdl_0 {M : zM} : hdl M M := ⟨fun _ _ => ⟨rfl, rfl⟩, fun _ _ => rfl, fun _ _ _ _ _ => rfl⟩
theorem hdl_t {M M1 M2 : zM} (h1 : hdl M M1) (h2 : hdl M1 M2) : hdl M M2 :=
  ⟨fun g hg => ⟨((h2.1 g hg).1).trans (h1.1 g hg).1, ((h2.1 g hg).2).trans (h1.1 g hg).2⟩, fun j hj => (h2.2.1 j hj).trans (h1.2.1 j hj), fun j a b c e => (h2.2.2 j a b c e).trans (h1.2.2 j a b c e)⟩
theorem hdl_a {M M1 : zM} {f : Int} (h : adf M M1 f) (hf : 12 ≤ f) : hdl M M1 :=
  ⟨fun g hg => h.1 g (by omega), fun j hj => h.2.1 j (by omega), h.2.2⟩
set_option maxRecDepth 20000 in
theorem zX4_clearHand {G : tl_G} {M : zM} {J : zJ}  (hT : TI M J) : ZN G yX4_clearHand mX4_clearHand 3 kRv [vR 31] F1 M J (qV (fun M' J' => TI M' J' ∧ (∀ g : Int, 12 ≤ g → g < 56 → M' 43 g = 0) ∧ M' 31 27 = M 31 27 ∧ M' 31 24 ≤ M 31 24 ∧ hdl M M')) := by
  refine ZN_of (L := [_, _]) (by decide) rfl rfl (Nat.le_of_ble_eq_true rfl) rfl (fun hav => ?_)
  refine Z_bipush (n := 2) dX4_clearHand_0 rfl (by decide) (by decide) ?_
  refine Z_istore_n (L' := [_, _]) (n := 3) dX4_clearHand_2 rfl (by decide) rfl rfl ?_
  have lp3 : ∀ (N3 : Nat) (k : Int) (M3 : zM) (J3 : zJ), ((56 - k).toNat) < N3 → (12 ≤ k) → (k ≤ 56) → (TI M3 J3) → (∀ g : Int, 12 ≤ g → g < k → M3 43 g = 0) → (M3 31 27 = M 31 27) → (M3 31 24 ≤ M 31 24) → (hdl M M3) → TZ G mX4_clearHand (tl_rm 3 0 0) 0 0 kRv M J 3 [some (vR 31), some (vI k)] [] F1 M3 J3 (ZM G (zPost G kRv F1 M J (qV (fun M' J' => TI M' J' ∧ (∀ g : Int, 12 ≤ g → g < 56 → M' 43 g = 0) ∧ M' 31 27 = M 31 27 ∧ M' 31 24 ≤ M 31 24 ∧ hdl M M'))) 0 0) := by
    intro N3
    induction N3 with
    | zero => intro k M3 J3 hN; omega
    | succ N3 ih3 =>
      intro k M3 J3 hN3 i3_0 i3_1 i3_2 i3_3 i3_4 i3_5 i3_6
      refine Z_iload_n (n := 4) dX4_clearHand_3 rfl rfl ?_
      refine Z_bipush (n := 6) dX4_clearHand_4 rfl (by decide) (by decide) ?_
      refine Z_icmp_ge (n := 9) (t := 20) dX4_clearHand_6 rfl (by decide) (fun c6 => ?_) (fun c6 => ?_)
      · refine Z_vret dX4_clearHand_20 rfl ?_
        exact ⟨i3_2, fun g a b => i3_3 g a (by omega), i3_4, i3_5, i3_6⟩
      · refine Z_aload_n (n := 10) dX4_clearHand_9 rfl rfl ?_
        refine Z_iload_n (n := 11) dX4_clearHand_10 rfl rfl ?_
        refine Z_callVv (n := 14) [_] _ dX4_clearHand_11 rfl cwX4_179 rfl rfl rfl (Nat.le_of_ble_eq_true rfl) (by refine ⟨?_, ?_, ?_, ?_⟩ <;> exact Nat.le_of_ble_eq_true rfl) (fun _ h => h) (zX4_remove  (by first | assumption | omega | decide) (by first | assumption | omega | decide) (by first | assumption | omega | decide)) ?_
        intro M11 J11 f11 q11
        obtain ⟨ti11, ah11, am11, au11, af11⟩ := q11
        have nx : ∀ g : Int, 12 ≤ g → g < k + 1 → M11 43 g = 0 := fun g a b => by
          by_cases e : g = k
          · rw [e]; exact ah11
          · rw [(af11.1 g e).2]; exact i3_3 g a (by omega)
        refine Z_iinc (L' := [_, _]) (n := 17) dX4_clearHand_14 rfl rfl (by decide) rfl rfl (by omega) rfl ?_
        refine Z_goto (t := 3) dX4_clearHand_17 (by decide) ?_
        refine Z_loc (L' := [some _, some _]) (lsub_same (lsub_same lsub_nil)) ?_
        exact ih3 _ _ _ (by omega) (by first | assumption | omega | decide) (by first | assumption | omega | decide) (by exact ti11) (by exact nx) (by exact am11.trans i3_4) (by omega) (by exact hdl_t i3_6 (hdl_a af11 (by omega)))
  refine Z_loc (L' := [some _, some _]) (lsub_same (lsub_same lsub_nil)) ?_
  exact lp3 _ _ _ _ (Nat.lt_succ_self _) (by first | assumption | omega | decide) (by first | assumption | omega | decide) (by exact hT) (by exact fun g a b => by omega) (by rfl) (by exact Int.le_refl _) (by exact hdl_0)
end
section
/-! ===== the reference: take, gets, what makes bits ===== -/
abbrev kTk (a : Nat) : Prop := a < 31 ∨ (31 < a ∧ a < 43) ∨ 53 < a
theorem tabC_B {M : zM} {J J' : zJ} {g : Int} (h : tabC M J g) (e48 : J' 48 = J 48) (eb : ∀ k : Int, 0 ≤ k → k < 4 → bitF J' g k = bitF J g k) : tabC M J' g := by
  have hm : ∀ (m d : Int) (P : Int → Int64), mtc M J m d P → mtc M J' m d P := fun m d P z => by
    unfold mtc at *
    rw [e48]
    exact z
  refine ⟨fun d i a b c w q => ?_, fun n hn => ?_⟩
  · rw [lyR_congr eb a b c w] at q
    obtain ⟨n, h1, h2⟩ := h.1 d i a b c w q
    exact ⟨n, h1, mtc_congr (fun k k0 k1 => (lyP_congr eb a b c w k k0 k1).symm) (hm _ _ _ h2)⟩
  · obtain ⟨d, i, ⟨⟨a, b⟩, c, w⟩, q, h3⟩ := h.2 n hn
    refine ⟨d, i, ⟨⟨a, b⟩, c, w⟩, by rw [lyR_congr eb a b c w]; exact q, mtc_congr (fun k k0 k1 => (lyP_congr eb a b c w k k0 k1).symm) (hm _ _ _ h3)⟩
/-- the bits of one that is none are free -/
theorem TI_bits {M : zM} {J J' : zJ} {t : Int} (h : TI M J) (ht : M 43 t = 0) (e48 : J' 48 = J 48) (e44 : ∀ j : Int, (j < 4 * t ∨ 4 * t + 4 ≤ j) → J' 44 j = J 44 j) : TI M J' := by
  obtain ⟨⟨ch, fl, t1⟩, t2, t3, t4, tu⟩ := h
  refine ⟨⟨ch, fl, tabA_J e48 t1⟩, t2, fun g g0 g1 hg => ?_, t4, tabU_mv tu (fun _ z => z) rfl e48⟩
  have hgt : g ≠ t := fun e => hg (by rw [e]; exact ht)
  exact tabC_B (t3 g g0 g1 hg) e48 (fun k k0 k1 => e44 _ (by omega))
theorem cvd_of {M : zM} {J : zJ} {f : Int} {B : Int → Int64} (h : TI M J) (hok : zOK M) (f0 : 0 ≤ f) (f1 : f < 56) (hf : ¬ M 43 f = 0) (eB : ∀ k : Int, 0 ≤ k → k < 4 → B k = bitF J f k) : cvd M J B := fun d i a b c w q => by
  rw [lyR_congr eB a b c w] at q
  obtain ⟨n, h1, h2⟩ := (h.2.2.1 f f0 f1 hf).1 d i a b c w q
  have nr := inS_range hok h1
  exact ⟨n, nr, held_of h.2.1 f0 f1 nr.1 nr.2 hf h1, mtc_congr (fun k k0 k1 => (lyP_congr eB a b c w k k0 k1).symm) h2⟩
set_option maxRecDepth 20000 in
theorem zX4_take {G : tl_G} {M : zM} {J : zJ} {f t : Int} (f0 : 0 ≤ f) (f1 : f < 56) (t0 : 0 ≤ t) (t1 : t < 56) (hft : f ≠ t) (hT : TI M J) (hf : ¬ M 43 f = 0) (hu : M 31 24 ≤ 250) (hk : M 31 27 < 2147483647) : ZN G yX4_take mX4_take 3 kTk [vR 31, vI f, vI t] F1 M J (qV (fun M' J' => TI M' J' ∧ ¬ M' 43 t = 0 ∧ M' 31 27 = M 31 27 + 1 ∧ M' 31 24 ≤ M 31 24 ∧ adf M M' t ∧ (∀ k : Int, 0 ≤ k → k < 4 → J' 44 (4 * t + k) = J 44 (4 * f + k)) ∧ ∀ j : Int, (j < 4 * t ∨ 4 * t + 4 ≤ j) → J' 44 j = J 44 j)) := by
  refine ZN_of (L := [_, _, _, _]) (by decide) rfl rfl (Nat.le_of_ble_eq_true rfl) rfl (fun hav => ?_)
  refine Z_aload_n (n := 1) dX4_take_0 rfl rfl ?_
  refine Z_iload_n (n := 2) dX4_take_1 rfl rfl ?_
  refine Z_callVv (n := 5) [_] _ dX4_take_2 rfl cwX4_179 rfl rfl rfl (Nat.le_of_ble_eq_true rfl) (by refine ⟨?_, ?_, ?_, ?_⟩ <;> exact Nat.le_of_ble_eq_true rfl) (fun a h => by unfold kTk at h; unfold kRv; omega) (zX4_remove  (by first | assumption | omega | decide) (by first | assumption | omega | decide) (by first | assumption | omega | decide)) ?_
  intro M2 J2 f2 q2
  obtain ⟨ti2, ah2, am2, au2, af2⟩ := q2
  refine Z_iconst (n := 6) dX4_take_5 rfl (by decide) ?_
  refine Z_istore_n (L' := [_, _, _, _]) (n := 7) dX4_take_6 rfl (by decide) rfl rfl ?_
  have lp7 : ∀ (N7 : Nat) (k : Int) (M7 : zM) (J7 : zJ), ((4 - k).toNat) < N7 → (M7 = M2) → (J7 48 = J 48) → (0 ≤ k) → (k ≤ 4) → (∀ j : Int, 0 ≤ j → j < k → J7 44 (4 * t + j) = J 44 (4 * f + j)) → (∀ j : Int, (j < 4 * t ∨ 4 * t + 4 ≤ j) → J7 44 j = J 44 j) → TZ G mX4_take (tl_rm 3 0 0) 0 0 kTk M J 7 [some (vR 31), some (vI f), some (vI t), some (vI k)] [] F1 M7 J7 (ZM G (zPost G kTk F1 M J (qV (fun M' J' => TI M' J' ∧ ¬ M' 43 t = 0 ∧ M' 31 27 = M 31 27 + 1 ∧ M' 31 24 ≤ M 31 24 ∧ adf M M' t ∧ (∀ k : Int, 0 ≤ k → k < 4 → J' 44 (4 * t + k) = J 44 (4 * f + k)) ∧ ∀ j : Int, (j < 4 * t ∨ 4 * t + 4 ≤ j) → J' 44 j = J 44 j))) 0 0) := by
    intro N7
    induction N7 with
    | zero => intro k M7 J7 hN; omega
    | succ N7 ih7 =>
      intro k M7 J7 hN7 i7_0 i7_1 i7_2 i7_3 i7_4 i7_5
      refine Z_iload_n (n := 8) dX4_take_7 rfl rfl ?_
      refine Z_iconst (n := 9) dX4_take_8 rfl (by decide) ?_
      refine Z_icmp_ge (n := 12) (t := 38) dX4_take_9 rfl (by decide) (fun c9 => ?_) (fun c9 => ?_)
      · replace i7_0 := i7_0.symm; subst i7_0
        refine Z_ok (fun ok7 => ?_)
        have ti7 : TI M2 J7 := TI_bits ti2 ah2 (i7_1.trans (f2 48 (by decide)).2.symm) (fun j hj => by rw [i7_5 j hj, congrFun (f2 44 (by decide)).2 j])
        have hf2 : ¬ M2 43 f = 0 := by rw [(af2.1 f hft).2]; exact hf
        have hcv : cvd M2 J7 (bitF J7 t) := cvd_of (f := f) ti7 ok7 f0 f1 hf2 (fun k k0 k1 => by
          unfold bitF
          rw [i7_4 k k0 (by omega), i7_5 _ (by omega)])
        refine Z_aload_n (n := 39) dX4_take_38 rfl rfl ?_
        refine Z_iload_n (n := 40) dX4_take_39 rfl rfl ?_
        refine Z_callVv (n := 43) [_] _ dX4_take_40 rfl cwX4_173 rfl rfl rfl (Nat.le_of_ble_eq_true rfl) (by refine ⟨?_, ?_, ?_, ?_⟩ <;> exact Nat.le_of_ble_eq_true rfl) (fun a h => by unfold kTk at h; unfold kAd; omega) (zX4_add  (by omega) (by omega) (by exact ti7) (by exact ah2) (by omega) (by omega)) ?_
        intro M40 J40 f40 q40
        obtain ⟨ti40, ah40, am40, au40, af40, ac40⟩ := q40
        refine Z_vret dX4_take_43 rfl ?_
        have u40 := ac40 hcv
        refine ⟨ti40, ah40, by omega, by omega, adf_t af2 af40, fun k k0 k1 => ?_, fun j hj => ?_⟩
        · rw [congrFun (f40 44 (by decide)).2 _]; exact i7_4 k k0 (by omega)
        · rw [congrFun (f40 44 (by decide)).2 _]; exact i7_5 j hj
      · refine Z_aload_n (n := 13) dX4_take_12 rfl rfl ?_
        refine Z_getA (n := 16) dX4_take_13 rfl ffX4_47 rfl rfl ?_
        refine Z_iconst (n := 17) dX4_take_16 rfl (by decide) ?_
        refine Z_iload_n (n := 18) dX4_take_17 rfl rfl ?_
        refine Z_imul (n := 19) dX4_take_18 rfl (by omega) ?_
        refine Z_iload_n (n := 20) dX4_take_19 rfl rfl ?_
        refine Z_iadd (n := 21) dX4_take_20 rfl (by omega) ?_
        refine Z_aload_n (n := 22) dX4_take_21 rfl rfl ?_
        refine Z_getA (n := 25) dX4_take_22 rfl ffX4_47 rfl rfl ?_
        refine Z_iconst (n := 26) dX4_take_25 rfl (by decide) ?_
        refine Z_iload_n (n := 27) dX4_take_26 rfl rfl ?_
        refine Z_imul (n := 28) dX4_take_27 rfl (by omega) ?_
        refine Z_iload_n (n := 29) dX4_take_28 rfl rfl ?_
        refine Z_iadd (n := 30) dX4_take_29 rfl (by omega) ?_
        refine Z_lald (n := 31) dX4_take_30 rfl rfl (by decide) (by omega) (by omega) ?_
        refine Z_last (n := 32) dX4_take_31 rfl rfl (by decide) (by omega) (by omega) (by decide) ?_
        refine Z_iinc (L' := [_, _, _, _]) (n := 35) dX4_take_32 rfl rfl (by decide) rfl rfl (by omega) rfl ?_
        refine Z_goto (t := 7) dX4_take_35 (by decide) ?_
        refine Z_loc (L' := [some _, some _, some _, some _]) (lsub_same (lsub_same (lsub_same (lsub_same lsub_nil)))) ?_
        exact ih7 _ _ _ (by omega) (by first | rfl | assumption) (by first | exact (f2 48 (by decide)).2 | (rw [uz_o (by decide)]; exact i7_1)) (by first | assumption | omega | decide) (by first | assumption | omega | decide) (by first | exact fun j j0 j1 => by omega | exact st_step (i7_5 _ (by omega)) i7_4) (by first | exact fun j _ => congrFun (f2 44 (by decide)).2 j | exact fun j hj => by rw [uz_n (by omega)]; exact i7_5 j hj)
  refine Z_loc (L' := [some _, some _, some _, some _]) (lsub_same (lsub_same (lsub_same (lsub_same lsub_nil)))) ?_
  exact lp7 _ _ _ _ (Nat.lt_succ_self _) (by first | rfl | assumption) (by first | exact (f2 48 (by decide)).2 | (rw [uz_o (by decide)]; exact i7_1)) (by first | assumption | omega | decide) (by first | assumption | omega | decide) (by first | exact fun j j0 j1 => by omega | exact st_step (i7_5 _ (by omega)) i7_4) (by first | exact fun j _ => congrFun (f2 44 (by decide)).2 j | exact fun j hj => by rw [uz_n (by omega)]; exact i7_5 j hj)
/-- as hdl, but for h -/
def hdx (M M' : zM) (h : Int) : Prop := (∀ g : Int, g < 12 → g ≠ h → M' 45 g = M 45 g ∧ M' 43 g = M 43 g) ∧ ∀ j : Int, j ≠ 23 → j ≠ 24 → j ≠ 25 → j ≠ 27 → M' 31 j = M 31 j
def hnd0 (M : zM) : Prop := ∀ g : Int, 12 ≤ g → g < 56 → M 43 g = 0
set_option maxRecDepth 20000 in
theorem zX4_gets {G : tl_G} {M : zM} {J : zJ} {h f y : Int} (h0 : 0 ≤ h) (h1 : h < 12) (f0 : 12 ≤ f) (f1 : f < 56) (y0 : y = 0 ∨ y = 1) (hT : TI M J) (hg : y = 1 → ¬ M 43 f = 0 ∧ M 31 24 ≤ 250) (hk : M 31 27 < 2147483647) : ZN G yX4_gets mX4_gets 4 kTk [vR 31, vI h, vI f, vI y] F1 M J (qI (fun x M' J' => TI M' J' ∧ hnd0 M' ∧ M' 31 27 ≤ M 31 27 + 1 ∧ ((y = 0 ∧ x = -5 ∧ hdl M M' ∧ J' 44 = J 44) ∨ (y = 1 ∧ x = M' 45 h ∧ ¬ M' 43 h = 0 ∧ M' 31 24 ≤ M 31 24 ∧ hdx M M' h ∧ (∀ k : Int, 0 ≤ k → k < 4 → J' 44 (4 * h + k) = J 44 (4 * f + k)) ∧ ∀ j : Int, (j < 4 * h ∨ 4 * h + 4 ≤ j) → J' 44 j = J 44 j)))) := by
  refine ZN_of (L := [_, _, _, _]) (by decide) rfl rfl (Nat.le_of_ble_eq_true rfl) rfl (fun hav => ?_)
  refine Z_iload_n (n := 1) dX4_gets_0 rfl rfl ?_
  refine Z_if_eq (n := 4) (t := 10) dX4_gets_1 rfl (by decide) (fun c1 => ?_) (fun c1 => ?_)
  · refine Z_aload_n (n := 11) dX4_gets_10 rfl rfl ?_
    refine Z_callVv (n := 14) [] _ dX4_gets_11 rfl cwX4_185 rfl rfl rfl (Nat.le_of_ble_eq_true rfl) (by refine ⟨?_, ?_, ?_, ?_⟩ <;> exact Nat.le_of_ble_eq_true rfl) (fun a h => by unfold kTk at h; unfold kRv; omega) (zX4_clearHand  (by first | assumption | omega | decide)) ?_
    intro M11 J11 f11 q11
    obtain ⟨ti11, hn11, am11, au11, hd11⟩ := q11
    refine Z_iload_n (n := 15) dX4_gets_14 rfl rfl ?_
    refine Z_if_eq (n := 18) (t := 27) dX4_gets_15 rfl (by decide) (fun c15 => ?_) (fun c15 => ?_)
    · refine Z_bipush (n := 29) dX4_gets_27 rfl (by decide) (by decide) ?_
      refine Z_iret dX4_gets_29 rfl ?_
      first
        | (refine ⟨ti11, hn11, by omega, Or.inl ⟨by omega, rfl, hd11, (f11 44 (by decide)).2⟩⟩)
        | (refine ⟨ti11, hn11, by omega, Or.inr ⟨by omega, rfl, by rw [(hd11.1 h (by omega)).2]; exact ah7, by omega, ⟨fun g a b => ⟨((hd11.1 g a).1).trans (af7.1 g b).1, ((hd11.1 g a).2).trans (af7.1 g b).2⟩, fun j a b c e => (hd11.2.2 j a b c e).trans (af7.2.2 j a b c e)⟩, fun k k0 k1 => by rw [congrFun (f11 44 (by decide)).2 _]; exact b17 k k0 k1, fun j hj => by rw [congrFun (f11 44 (by decide)).2 _]; exact b27 j hj⟩⟩)
        | (exfalso; omega)
    · refine Z_aload_n (n := 19) dX4_gets_18 rfl rfl ?_
      refine Z_getA (n := 22) dX4_gets_19 rfl ffX4_51 rfl rfl ?_
      refine Z_iload_n (n := 23) dX4_gets_22 rfl rfl ?_
      refine Z_iald (n := 24) dX4_gets_23 rfl rfl rfl (by first | decide | assumption) (by omega) (by omega) (fun r23 s23 => ?_)
      refine Z_goto (t := 29) dX4_gets_24 (by decide) ?_
      refine Z_iret dX4_gets_29 rfl ?_
      first
        | (refine ⟨ti11, hn11, by omega, Or.inl ⟨by omega, rfl, hd11, (f11 44 (by decide)).2⟩⟩)
        | (refine ⟨ti11, hn11, by omega, Or.inr ⟨by omega, rfl, by rw [(hd11.1 h (by omega)).2]; exact ah7, by omega, ⟨fun g a b => ⟨((hd11.1 g a).1).trans (af7.1 g b).1, ((hd11.1 g a).2).trans (af7.1 g b).2⟩, fun j a b c e => (hd11.2.2 j a b c e).trans (af7.2.2 j a b c e)⟩, fun k k0 k1 => by rw [congrFun (f11 44 (by decide)).2 _]; exact b17 k k0 k1, fun j hj => by rw [congrFun (f11 44 (by decide)).2 _]; exact b27 j hj⟩⟩)
        | (exfalso; omega)
  · have hg1 := hg (by omega)
    refine Z_aload_n (n := 5) dX4_gets_4 rfl rfl ?_
    refine Z_iload_n (n := 6) dX4_gets_5 rfl rfl ?_
    refine Z_iload_n (n := 7) dX4_gets_6 rfl rfl ?_
    refine Z_callVv (n := 10) [_, _] _ dX4_gets_7 rfl cwX4_182 rfl rfl rfl (Nat.le_of_ble_eq_true rfl) (by refine ⟨?_, ?_, ?_, ?_⟩ <;> exact Nat.le_of_ble_eq_true rfl) (fun _ h => h) (zX4_take  (by omega) (by omega) (by omega) (by omega) (by omega) (by exact hT) (by exact hg1.1) (by exact hg1.2) (by omega)) ?_
    intro M7 J7 f7 q7
    obtain ⟨ti7, ah7, am7, au7, af7, b17, b27⟩ := q7
    refine Z_aload_n (n := 11) dX4_gets_10 rfl rfl ?_
    refine Z_callVv (n := 14) [] _ dX4_gets_11 rfl cwX4_185 rfl rfl rfl (Nat.le_of_ble_eq_true rfl) (by refine ⟨?_, ?_, ?_, ?_⟩ <;> exact Nat.le_of_ble_eq_true rfl) (fun a h => by unfold kTk at h; unfold kRv; omega) (zX4_clearHand  (by first | assumption | omega | decide)) ?_
    intro M11 J11 f11 q11
    obtain ⟨ti11, hn11, am11, au11, hd11⟩ := q11
    refine Z_iload_n (n := 15) dX4_gets_14 rfl rfl ?_
    refine Z_if_eq (n := 18) (t := 27) dX4_gets_15 rfl (by decide) (fun c15 => ?_) (fun c15 => ?_)
    · refine Z_bipush (n := 29) dX4_gets_27 rfl (by decide) (by decide) ?_
      refine Z_iret dX4_gets_29 rfl ?_
      first
        | (refine ⟨ti11, hn11, by omega, Or.inl ⟨by omega, rfl, hd11, (f11 44 (by decide)).2⟩⟩)
        | (refine ⟨ti11, hn11, by omega, Or.inr ⟨by omega, rfl, by rw [(hd11.1 h (by omega)).2]; exact ah7, by omega, ⟨fun g a b => ⟨((hd11.1 g a).1).trans (af7.1 g b).1, ((hd11.1 g a).2).trans (af7.1 g b).2⟩, fun j a b c e => (hd11.2.2 j a b c e).trans (af7.2.2 j a b c e)⟩, fun k k0 k1 => by rw [congrFun (f11 44 (by decide)).2 _]; exact b17 k k0 k1, fun j hj => by rw [congrFun (f11 44 (by decide)).2 _]; exact b27 j hj⟩⟩)
        | (exfalso; omega)
    · refine Z_aload_n (n := 19) dX4_gets_18 rfl rfl ?_
      refine Z_getA (n := 22) dX4_gets_19 rfl ffX4_51 rfl rfl ?_
      refine Z_iload_n (n := 23) dX4_gets_22 rfl rfl ?_
      refine Z_iald (n := 24) dX4_gets_23 rfl rfl rfl (by first | decide | assumption) (by omega) (by omega) (fun r23 s23 => ?_)
      refine Z_goto (t := 29) dX4_gets_24 (by decide) ?_
      refine Z_iret dX4_gets_29 rfl ?_
      first
        | (refine ⟨ti11, hn11, by omega, Or.inl ⟨by omega, rfl, hd11, (f11 44 (by decide)).2⟩⟩)
        | (refine ⟨ti11, hn11, by omega, Or.inr ⟨by omega, rfl, by rw [(hd11.1 h (by omega)).2]; exact ah7, by omega, ⟨fun g a b => ⟨((hd11.1 g a).1).trans (af7.1 g b).1, ((hd11.1 g a).2).trans (af7.1 g b).2⟩, fun j a b c e => (hd11.2.2 j a b c e).trans (af7.2.2 j a b c e)⟩, fun k k0 k1 => by rw [congrFun (f11 44 (by decide)).2 _]; exact b17 k k0 k1, fun j hj => by rw [congrFun (f11 44 (by decide)).2 _]; exact b27 j hj⟩⟩)
        | (exfalso; omega)
set_option maxRecDepth 20000 in
theorem zX4_makeChoice {G : tl_G} {M : zM} {J : zJ} {t f g k : Int} (t0 : 0 ≤ t) (t1 : t < 56) (f0 : 0 ≤ f) (f1 : f < 56) (g0 : 0 ≤ g) (g1 : g < 56) (k0 : 0 ≤ k) (k1 : k < 56) : ZN G yX4_makeChoice mX4_makeChoice 0 kBits [vR 31, vI t, vI f, vI g, vI k] F1 M J (qV (fun M' J' => M' = M ∧ (∀ w : Int, 0 ≤ w → w < 4 → J' 44 (4 * t + w) = (J 44 (4 * f + w) &&& J 44 (4 * g + w)) ||| ((J 44 (4 * f + w) ^^^ -1) &&& J 44 (4 * k + w))) ∧ ∀ j : Int, (j < 4 * t ∨ 4 * t + 4 ≤ j) → J' 44 j = J 44 j)) := by
  refine ZN_of (L := [_, _, _, _, _, _, _, _]) (by decide) rfl rfl (Nat.le_of_ble_eq_true rfl) rfl (fun hav => ?_)
  refine Z_iconst (n := 1) dX4_makeChoice_0 rfl (by decide) ?_
  refine Z_istore (L' := [_, _, _, _, _, _, _, _]) (n := 3) dX4_makeChoice_1 rfl (by decide) rfl rfl ?_
  have lp3 : ∀ (N3 : Nat) (q : Int) (M3 : zM) (J3 : zJ), ((4 - q).toNat) < N3 → (M3 = M) → (0 ≤ q) → (q ≤ 4) → (∀ j : Int, 0 ≤ j → j < q → J3 44 (4 * t + j) = (J 44 (4 * f + j) &&& J 44 (4 * g + j)) ||| ((J 44 (4 * f + j) ^^^ -1) &&& J 44 (4 * k + j))) → (∀ j : Int, (j < 4 * t ∨ 4 * t + q ≤ j) → J3 44 j = J 44 j) → TZ G mX4_makeChoice (tl_rm 0 0 0) 0 0 kBits M J 3 [some (vR 31), some (vI t), some (vI f), some (vI g), some (vI k), some (vI q), none, none] [] F1 M3 J3 (ZM G (zPost G kBits F1 M J (qV (fun M' J' => M' = M ∧ (∀ w : Int, 0 ≤ w → w < 4 → J' 44 (4 * t + w) = (J 44 (4 * f + w) &&& J 44 (4 * g + w)) ||| ((J 44 (4 * f + w) ^^^ -1) &&& J 44 (4 * k + w))) ∧ ∀ j : Int, (j < 4 * t ∨ 4 * t + 4 ≤ j) → J' 44 j = J 44 j))) 0 0) := by
    intro N3
    induction N3 with
    | zero => intro q M3 J3 hN; omega
    | succ N3 ih3 =>
      intro q M3 J3 hN3 i3_0 i3_1 i3_2 i3_3 i3_4
      refine Z_iload (n := 5) dX4_makeChoice_3 rfl rfl ?_
      refine Z_iconst (n := 6) dX4_makeChoice_5 rfl (by decide) ?_
      refine Z_icmp_ge (n := 9) (t := 73) dX4_makeChoice_6 rfl (by decide) (fun c6 => ?_) (fun c6 => ?_)
      · refine Z_vret dX4_makeChoice_73 rfl ?_
        exact ⟨i3_0, fun j j0 j1 => i3_3 j j0 (by omega), fun j hj => i3_4 j (by omega)⟩
      · refine Z_aload_n (n := 10) dX4_makeChoice_9 rfl rfl ?_
        refine Z_getA (n := 13) dX4_makeChoice_10 rfl ffX4_47 rfl rfl ?_
        refine Z_iconst (n := 14) dX4_makeChoice_13 rfl (by decide) ?_
        refine Z_iload_n (n := 15) dX4_makeChoice_14 rfl rfl ?_
        refine Z_imul (n := 16) dX4_makeChoice_15 rfl (by omega) ?_
        refine Z_iload (n := 18) dX4_makeChoice_16 rfl rfl ?_
        refine Z_iadd (n := 19) dX4_makeChoice_18 rfl (by omega) ?_
        refine Z_lald (n := 20) dX4_makeChoice_19 rfl rfl (by decide) (by omega) (by omega) ?_
        refine Z_lstore (L' := [_, _, _, _, _, _, _, _]) (n := 22) dX4_makeChoice_20 rfl (by decide) rfl rfl ?_
        refine Z_aload_n (n := 23) dX4_makeChoice_22 rfl rfl ?_
        refine Z_getA (n := 26) dX4_makeChoice_23 rfl ffX4_47 rfl rfl ?_
        refine Z_iconst (n := 27) dX4_makeChoice_26 rfl (by decide) ?_
        refine Z_iload_n (n := 28) dX4_makeChoice_27 rfl rfl ?_
        refine Z_imul (n := 29) dX4_makeChoice_28 rfl (by omega) ?_
        refine Z_iload (n := 31) dX4_makeChoice_29 rfl rfl ?_
        refine Z_iadd (n := 32) dX4_makeChoice_31 rfl (by omega) ?_
        refine Z_lload (n := 34) dX4_makeChoice_32 rfl rfl ?_
        refine Z_aload_n (n := 35) dX4_makeChoice_34 rfl rfl ?_
        refine Z_getA (n := 38) dX4_makeChoice_35 rfl ffX4_47 rfl rfl ?_
        refine Z_iconst (n := 39) dX4_makeChoice_38 rfl (by decide) ?_
        refine Z_iload_n (n := 40) dX4_makeChoice_39 rfl rfl ?_
        refine Z_imul (n := 41) dX4_makeChoice_40 rfl (by omega) ?_
        refine Z_iload (n := 43) dX4_makeChoice_41 rfl rfl ?_
        refine Z_iadd (n := 44) dX4_makeChoice_43 rfl (by omega) ?_
        refine Z_lald (n := 45) dX4_makeChoice_44 rfl rfl (by decide) (by omega) (by omega) ?_
        refine Z_land (n := 46) dX4_makeChoice_45 rfl ?_
        refine Z_lload (n := 48) dX4_makeChoice_46 rfl rfl ?_
        refine Z_ldc2 (n := 51) dX4_makeChoice_48 rfl clX4_188 ?_
        refine Z_lxor (n := 52) dX4_makeChoice_51 rfl ?_
        refine Z_aload_n (n := 53) dX4_makeChoice_52 rfl rfl ?_
        refine Z_getA (n := 56) dX4_makeChoice_53 rfl ffX4_47 rfl rfl ?_
        refine Z_iconst (n := 57) dX4_makeChoice_56 rfl (by decide) ?_
        refine Z_iload (n := 59) dX4_makeChoice_57 rfl rfl ?_
        refine Z_imul (n := 60) dX4_makeChoice_59 rfl (by omega) ?_
        refine Z_iload (n := 62) dX4_makeChoice_60 rfl rfl ?_
        refine Z_iadd (n := 63) dX4_makeChoice_62 rfl (by omega) ?_
        refine Z_lald (n := 64) dX4_makeChoice_63 rfl rfl (by decide) (by omega) (by omega) ?_
        refine Z_land (n := 65) dX4_makeChoice_64 rfl ?_
        refine Z_lor (n := 66) dX4_makeChoice_65 rfl ?_
        refine Z_last (n := 67) dX4_makeChoice_66 rfl rfl (by decide) (by omega) (by omega) (by decide) ?_
        refine Z_iinc (L' := [_, _, _, _, _, _, _, _]) (n := 70) dX4_makeChoice_67 rfl rfl (by decide) rfl rfl (by omega) rfl ?_
        refine Z_goto (t := 3) dX4_makeChoice_70 (by decide) ?_
        refine Z_loc (L' := [some _, some _, some _, some _, some _, some _, none, none]) (lsub_same (lsub_same (lsub_same (lsub_same (lsub_same (lsub_same (lsub_none (lsub_none lsub_nil)))))))) ?_
        exact ih3 _ _ _ (by omega) (by first | rfl | assumption) (by first | assumption | omega | decide) (by first | assumption | omega | decide) (by first | exact fun j j0 j1 => by omega | exact st_step (by rw [i3_4 _ (by omega), i3_4 _ (by omega), i3_4 _ (by omega)]) i3_3) (by first | exact fun j _ => rfl | exact fun j hj => by rw [uz_n (by omega)]; exact i3_4 j (by omega))
  refine Z_loc (L' := [some _, some _, some _, some _, some _, some _, none, none]) (lsub_same (lsub_same (lsub_same (lsub_same (lsub_same (lsub_same (lsub_none (lsub_none lsub_nil)))))))) ?_
  exact lp3 _ _ _ _ (Nat.lt_succ_self _) (by first | rfl | assumption) (by first | assumption | omega | decide) (by first | assumption | omega | decide) (by first | exact fun j j0 j1 => by omega | exact st_step (by rw [i3_4 _ (by omega), i3_4 _ (by omega), i3_4 _ (by omega)]) i3_3) (by first | exact fun j _ => rfl | exact fun j hj => by rw [uz_n (by omega)]; exact i3_4 j (by omega))
theorem zor_2 {w b : Int} (h0 : 0 ≤ w) (h1 : w < 4) (hb : b = 1 ∨ b = 2) : 0 ≤ zor w b ∧ zor w b < 4 := by
  rcases (show w = 0 ∨ w = 1 ∨ w = 2 ∨ w = 3 by omega) with rfl | rfl | rfl | rfl <;> rcases hb with rfl | rfl <;> decide +kernel
theorem zandn_2 {w b : Int} (h0 : 0 ≤ w) (h1 : w < 4) (hb : b = 1 ∨ b = 2) : 0 ≤ zand w (zxor b (-1)) ∧ zand w (zxor b (-1)) < 4 := by
  rcases (show w = 0 ∨ w = 1 ∨ w = 2 ∨ w = 3 by omega) with rfl | rfl | rfl | rfl <;> rcases hb with rfl | rfl <;> decide +kernel
end
section
/-! ===== the reference: needs, builds ===== -/
abbrev kNd (a : Nat) : Prop := ¬ a = 55 ∧ ¬ a = 56
abbrev kRg (a : Nat) : Prop := a < 31 ∨ (31 < a ∧ a < 43) ∨ a = 54
/-- a net of the reference: gates are told of gates before them, outputs of gates -/
def rNt (M : zM) (net : Int) : Prop := (∀ g : Int, 0 ≤ g → g < M 32 net → (∀ c : Int, 0 ≤ c → c < opF (M 34 (40 * net + g)) → 0 ≤ M 35 (3 * (40 * net + g) + c) ∧ M 35 (3 * (40 * net + g) + c) < g) ∧ (M 34 (40 * net + g) = 0 → 0 ≤ M 35 (3 * (40 * net + g)) ∧ M 35 (3 * (40 * net + g)) < 8)) ∧ ∀ o : Int, 0 ≤ o → o < M 33 net → M 36 (4 * net + o) < M 32 net
theorem rNt_fr {M M' : zM} {net : Int} (h : rNt M net) (e32 : M' 32 = M 32) (e33 : M' 33 = M 33) (e34 : M' 34 = M 34) (e35 : M' 35 = M 35) (e36 : M' 36 = M 36) : rNt M' net := by
  unfold rNt
  rw [e32, e33, e34, e35, e36]
  exact h
/-- which gates are needed, and by which last -/
def ndQ (M : zM) (g : Int) : Prop := ¬ M 55 g = 0 ∧ ∀ x : Int, 0 ≤ x → x < 40 → (¬ M 55 x = 0 → x = g ∨ 0 ≤ M 56 x) ∧ (0 ≤ M 56 x → x < M 56 x ∧ M 56 x ≤ g ∧ ¬ M 55 (M 56 x) = 0)
theorem ndQ_fr {M M' : zM} {g : Int} (h : ndQ M g) (e55 : M' 55 = M 55) (e56 : M' 56 = M 56) : ndQ M' g := by
  unfold ndQ
  rw [e55, e56]
  exact h
theorem ndQ_st {M : zM} {g k x v : Int} (h : ndQ M g) (hxk : x < k) (hkg : k ≤ g) (hk : ¬ M 55 k = 0) (hx0 : 0 ≤ x) (hx : x < 40) (hv : (M 56 x < 0 ∧ v = k) ∨ (0 ≤ M 56 x ∧ v = M 56 x)) : ndQ (uz (uz M 55 x 1) 56 x v) g := by
  have e55 : ∀ y : Int, ¬ M 55 y = 0 → ¬ uz (uz M 55 x 1) 56 x v 55 y = 0 := fun y q => by
    rw [uz_oo (by decide), uz_a]
    split
    · decide
    · exact q
  refine ⟨e55 g h.1, fun y y0 y1 => ⟨fun q => ?_, fun q => ?_⟩⟩
  · rw [uz_a]
    by_cases e : y = x
    · rw [if_pos e]; right; omega
    · rw [if_neg e]
      rw [uz_oo (by decide), uz_n e] at q
      exact (h.2 y y0 y1).1 q
  · rw [uz_a] at q ⊢
    by_cases e : y = x
    · rw [if_pos e] at q ⊢
      rcases hv with ⟨-, rfl⟩ | ⟨q2, rfl⟩
      · exact ⟨by omega, hkg, e55 _ hk⟩
      · obtain ⟨z1, z2, z3⟩ := (h.2 x hx0 hx).2 q2
        exact ⟨by omega, z2, e55 _ z3⟩
    · rw [if_neg e] at q ⊢
      obtain ⟨z1, z2, z3⟩ := (h.2 y y0 y1).2 q
      exact ⟨z1, z2, e55 _ z3⟩
def bdI (M : zM) (g k : Int) : Prop := ∀ x : Int, 0 ≤ x → x < 40 → ¬ M 43 (12 + x) = 0 → x < k ∧ ¬ M 55 x = 0 ∧ (x = g ∨ k ≤ M 56 x)
def bdJ (M : zM) (g k u : Int) : Prop := ∀ x : Int, 0 ≤ x → x < 40 → ¬ M 43 (12 + x) = 0 → x < k + 1 ∧ ¬ M 55 x = 0 ∧ (x = g ∨ k + 1 ≤ M 56 x ∨ (u ≤ x ∧ M 56 x = k))
theorem bdI_skip {M : zM} {g k : Int} (h : bdI M g k) (hn : ndQ M g) (hk : M 55 k = 0) : bdI M g (k + 1) := fun x x0 x1 q => by
  obtain ⟨h1, h2, h3⟩ := h x x0 x1 q
  refine ⟨by omega, h2, ?_⟩
  rcases h3 with e | e
  · exact Or.inl e
  · right
    by_cases z : M 56 x = k
    · exfalso
      have w := ((hn.2 x x0 x1).2 (by omega)).2.2
      rw [z] at w
      exact w hk
    · omega
theorem bdJ_0 {M M' : zM} {g k : Int} (h : bdI M g k) (hn : ndQ M g) (k0 : 0 ≤ k) (k1 : k < 40) (hkg : k ≤ g) (hk : ¬ M 55 k = 0) (e43 : ∀ f : Int, f ≠ 12 + k → M' 43 f = M 43 f) (e55 : M' 55 = M 55) (e56 : M' 56 = M 56) : bdJ M' g k 0 := fun x x0 x1 q => by
  rw [e55, e56]
  by_cases e : x = k
  · subst e
    refine ⟨by omega, hk, ?_⟩
    have w := hn.2 x x0 x1
    rcases w.1 hk with z | z
    · exact Or.inl z
    · have := (w.2 z).1
      right; left; omega
  · rw [e43 _ (by omega)] at q
    obtain ⟨h1, h2, h3⟩ := h x x0 x1 q
    refine ⟨by omega, h2, ?_⟩
    omega
theorem bdJ_skip {M : zM} {g k u : Int} (h : bdJ M g k u) (hq : M 55 u = 0 ∨ ¬ M 56 u = k) : bdJ M g k (u + 1) := fun x x0 x1 q => by
  obtain ⟨h1, h2, h3⟩ := h x x0 x1 q
  refine ⟨h1, h2, ?_⟩
  by_cases e : x = u
  · subst e
    rcases hq with z | z
    · exact absurd z h2
    · omega
  · omega
theorem bdJ_rm {M M' : zM} {g k u : Int} (h : bdJ M g k u) (e0 : M' 43 (12 + u) = 0) (e43 : ∀ f : Int, f ≠ 12 + u → M' 43 f = M 43 f) (e55 : M' 55 = M 55) (e56 : M' 56 = M 56) : bdJ M' g k (u + 1) := fun x x0 x1 q => by
  by_cases e : x = u
  · subst e
    exact absurd e0 q
  · rw [e43 _ (by omega)] at q
    rw [e55, e56]
    obtain ⟨h1, h2, h3⟩ := h x x0 x1 q
    refine ⟨h1, h2, ?_⟩
    omega
theorem bdI_of {M : zM} {g k : Int} (h : bdJ M g k k) (hn : ndQ M g) : bdI M g (k + 1) := fun x x0 x1 q => by
  obtain ⟨h1, h2, h3⟩ := h x x0 x1 q
  refine ⟨h1, h2, ?_⟩
  rcases h3 with e | e | ⟨e1, e2⟩
  · exact Or.inl e
  · exact Or.inr e
  · exfalso
    have w := ((hn.2 x x0 x1).2 (by omega)).1
    omega
theorem bd_end {M : zM} {g : Int} (h : bdI M g (g + 1)) (hn : ndQ M g) : ∀ y : Int, 0 ≤ y → y < 40 → y ≠ g → M 43 (12 + y) = 0 := fun y y0 y1 hy => by
  by_cases q : M 43 (12 + y) = 0
  · exact q
  · exfalso
    obtain ⟨h1, h2, h3⟩ := h y y0 y1 q
    rcases h3 with e | e
    · exact hy e
    · have w := (hn.2 y y0 y1).2 (by omega)
      omega
theorem TI_fr {M M' : zM} {J : zJ} (h : TI M J) (o : ∀ a : Nat, (a = 31 ∨ (43 ≤ a ∧ a ≤ 52)) → M' a = M a) : TI M' J := by
  have e31 := o 31 (by omega)
  have e43 := o 43 (by omega)
  have e45 := o 45 (by omega)
  have e46 := o 46 (by omega)
  have e47 := o 47 (by omega)
  have e49 := o 49 (by omega)
  have e50 := o 50 (by omega)
  have e51 := o 51 (by omega)
  have e52 := o 52 (by omega)
  unfold TI tabA tabB tabC tabU at *
  have hc : ∀ n : Int, cfn M' lo0 n 56 = cfn M lo0 n 56 := fun n => cfn_congr (fun g _ _ => by unfold inS; rw [e43, e45, e46])
  have hS : ∀ g m : Int, (inS M' g 0 m ↔ inS M g 0 m) := fun g m => by unfold inS; rw [e45, e46]
  have hm : ∀ (n d : Int) (P : Int → Int64), mtc M' J n d P ↔ mtc M J n d P := fun n d P => by unfold mtc; rw [e47]
  simp only [hc, hS, hm, e31, e43, e45, e46, e47, e49, e50, e51, e52]
  exact h
end
section
/-! ===== the reference: what reads ===== -/
def btF (B : Int → Int64) (p : Int) : Int := if zlshr (B (zshr p 6)) (zand p 63) &&& 1 = 1 then 1 else 0
def pw2 : Nat → Int
  | 0 => 1
  | n + 1 => 2 * pw2 n
def stF (o : Int → Int) (a : Int) : Nat → Int
  | 0 => 0
  | n + 1 => 2 * stF o a n + zand (zshr a (o (n : Int))) 1
theorem stF_in (o : Int → Int) (a : Int) : ∀ n : Nat, 0 ≤ stF o a n ∧ stF o a n < pw2 n
  | 0 => by simp [stF, pw2]
  | n + 1 => by
    have h := stF_in o a n
    have := zand_1 (zshr a (o (n : Int)))
    unfold stF pw2
    omega
theorem pw2_8 : ∀ n : Fin 9, pw2 n ≤ 256 := by decide
theorem stF_256 (o : Int → Int) (a : Int) {n : Nat} (h : n ≤ 8) : 0 ≤ stF o a n ∧ stF o a n < 256 := by
  have h1 := stF_in o a n
  have h2 : pw2 n ≤ 256 := pw2_8 ⟨n, by omega⟩
  omega
theorem stF_up (o : Int → Int) (a : Int) {i : Int} (h : 0 ≤ i) : stF o a (i + 1).toNat = 2 * stF o a i.toNat + zand (zshr a (o i)) 1 := by
  rw [show (i + 1).toNat = i.toNat + 1 by omega]
  show 2 * stF o a i.toNat + zand (zshr a (o (i.toNat : Int))) 1 = _
  rw [Int.toNat_of_nonneg h]
def asF (o : Int → Int) (p : Int) : Nat → Int
  | 0 => 0
  | n + 1 => zor (asF o p n) (zshl (zand (zshr p (7 - (n : Int))) 1) (o (n : Int)))
theorem asF_up (o : Int → Int) (p : Int) {i : Int} (h : 0 ≤ i) : asF o p (i + 1).toNat = zor (asF o p i.toNat) (zshl (zand (zshr p (7 - i)) 1) (o i)) := by
  rw [show (i + 1).toNat = i.toNat + 1 by omega]
  show zor (asF o p i.toNat) (zshl (zand (zshr p (7 - (i.toNat : Int))) 1) (o (i.toNat : Int))) = _
  rw [Int.toNat_of_nonneg h]
def lsQ (B : Int → Int64) (y x : Int) : Prop := (x = -1 ∧ ∀ p : Int, 0 ≤ p → p < 256 → ¬ btF B p = y) ∨ (0 ≤ x ∧ x < 256 ∧ btF B x = y ∧ ∀ p : Int, 0 ≤ p → p < x → ¬ btF B p = y)
set_option maxRecDepth 20000 in
theorem zX4_bit {G : tl_G} {M : zM} {J : zJ} {f p : Int} (f0 : 0 ≤ f) (f1 : f < 56) (p0 : 0 ≤ p) (p1 : p < 256) : ZN G yX4_bit mX4_bit 0 kAll [vR 31, vI f, vI p] F1 M J (qI (fun x M' J' => M' = M ∧ J' = J ∧ x = btF (bitF J f) p)) := by
  refine ZN_of (L := [_, _, _]) (by decide) rfl rfl (Nat.le_of_ble_eq_true rfl) rfl (fun hav => ?_)
  have z6 := zshr6' p0 p1
  refine Z_aload_n (n := 1) dX4_bit_0 rfl rfl ?_
  refine Z_getA (n := 4) dX4_bit_1 rfl ffX4_47 rfl rfl ?_
  refine Z_iconst (n := 5) dX4_bit_4 rfl (by decide) ?_
  refine Z_iload_n (n := 6) dX4_bit_5 rfl rfl ?_
  refine Z_imul (n := 7) dX4_bit_6 rfl (by omega) ?_
  refine Z_iload_n (n := 8) dX4_bit_7 rfl rfl ?_
  refine Z_bipush (n := 10) dX4_bit_8 rfl (by decide) (by decide) ?_
  refine Z_ishr (n := 11) dX4_bit_10 rfl ?_
  refine Z_iadd (n := 12) dX4_bit_11 rfl (by omega) ?_
  refine Z_lald (n := 13) dX4_bit_12 rfl rfl (by decide) (by omega) (by omega) ?_
  refine Z_iload_n (n := 14) dX4_bit_13 rfl rfl ?_
  refine Z_bipush (n := 16) dX4_bit_14 rfl (by decide) (by decide) ?_
  refine Z_iand (n := 17) dX4_bit_16 rfl ?_
  refine Z_lshr (n := 18) dX4_bit_17 rfl ?_
  refine Z_lconst (v := 1) (n := 19) dX4_bit_18 rfl (by decide) ?_
  refine Z_land (n := 20) dX4_bit_19 rfl ?_
  refine Z_lconst (v := 1) (n := 21) dX4_bit_20 rfl (by decide) ?_
  refine Z_lcmp (n := 22) dX4_bit_21 rfl ?_
  refine Z_if_ne (n := 25) (t := 29) dX4_bit_22 rfl (by decide) (fun c22 => ?_) (fun c22 => ?_)
  · refine Z_iconst (n := 30) dX4_bit_29 rfl (by decide) ?_
    refine Z_zret dX4_bit_30 rfl (by first | assumption | omega | decide) (by first | assumption | omega | decide) ?_
    refine ⟨rfl, rfl, ?_⟩
    unfold btF
    first
      | exact (if_pos ((zcmp_eq _ _).mp c22)).symm
      | exact (if_neg (fun e => c22 ((zcmp_eq _ _).mpr e))).symm
  · refine Z_iconst (n := 26) dX4_bit_25 rfl (by decide) ?_
    refine Z_goto (t := 30) dX4_bit_26 (by decide) ?_
    refine Z_zret dX4_bit_30 rfl (by first | assumption | omega | decide) (by first | assumption | omega | decide) ?_
    refine ⟨rfl, rfl, ?_⟩
    unfold btF
    first
      | exact (if_pos ((zcmp_eq _ _).mp c22)).symm
      | exact (if_neg (fun e => c22 ((zcmp_eq _ _).mpr e))).symm
set_option maxRecDepth 20000 in
theorem zX4_stands {G : tl_G} {M : zM} {J : zJ} {a : Int}  : ZN G yX4_stands mX4_stands 0 kAll [vR 31, vI a] F1 M J (qI (fun x M' J' => M' = M ∧ J' = J ∧ x = stF (M 38) a 8)) := by
  refine ZN_of (L := [_, _, _, _]) (by decide) rfl rfl (Nat.le_of_ble_eq_true rfl) rfl (fun hav => ?_)
  refine Z_iconst (n := 1) dX4_stands_0 rfl (by decide) ?_
  refine Z_istore_n (L' := [_, _, _, _]) (n := 2) dX4_stands_1 rfl (by decide) rfl rfl ?_
  refine Z_iconst (n := 3) dX4_stands_2 rfl (by decide) ?_
  refine Z_istore_n (L' := [_, _, _, _]) (n := 4) dX4_stands_3 rfl (by decide) rfl rfl ?_
  have lp4 : ∀ (N4 : Nat) (p k : Int) , ((8 - k).toNat) < N4 → (0 ≤ k) → (k ≤ 8) → (p = stF (M 38) a k.toNat) → TZ G mX4_stands (tl_rm 0 0 0) 0 0 kAll M J 4 [some (vR 31), some (vI a), some (vI p), some (vI k)] [] F1 M J (ZM G (zPost G kAll F1 M J (qI (fun x M' J' => M' = M ∧ J' = J ∧ x = stF (M 38) a 8))) 0 0) := by
    intro N4
    induction N4 with
    | zero => intro p k  hN; omega
    | succ N4 ih4 =>
      intro p k  hN4 i4_0 i4_1 i4_2
      refine Z_iload_n (n := 5) dX4_stands_4 rfl rfl ?_
      refine Z_bipush (n := 7) dX4_stands_5 rfl (by decide) (by decide) ?_
      refine Z_icmp_ge (n := 10) (t := 31) dX4_stands_7 rfl (by decide) (fun c7 => ?_) (fun c7 => ?_)
      · refine Z_iload_n (n := 32) dX4_stands_31 rfl rfl ?_
        refine Z_iret dX4_stands_32 rfl ?_
        refine ⟨rfl, rfl, ?_⟩; rw [i4_2, show k = 8 by omega]; rfl
      · have hst := stF_256 (M 38) a (n := k.toNat) (by omega)
        rw [← i4_2] at hst
        refine Z_iconst (n := 11) dX4_stands_10 rfl (by decide) ?_
        refine Z_iload_n (n := 12) dX4_stands_11 rfl rfl ?_
        refine Z_imul (n := 13) dX4_stands_12 rfl (by omega) ?_
        refine Z_iload_n (n := 14) dX4_stands_13 rfl rfl ?_
        refine Z_aload_n (n := 15) dX4_stands_14 rfl rfl ?_
        refine Z_getA (n := 18) dX4_stands_15 rfl ffX4_29 rfl rfl ?_
        refine Z_iload_n (n := 19) dX4_stands_18 rfl rfl ?_
        refine Z_iald (n := 20) dX4_stands_19 rfl rfl rfl (by first | decide | assumption) (by omega) (by omega) (fun r19 s19 => ?_)
        refine Z_ishr (n := 21) dX4_stands_20 rfl ?_
        refine Z_iconst (n := 22) dX4_stands_21 rfl (by decide) ?_
        refine Z_iand (n := 23) dX4_stands_22 rfl ?_
        have hz1 := zand_1 (zshr a (M 38 k))
        refine Z_iadd (n := 24) dX4_stands_23 rfl (by omega) ?_
        refine Z_istore_n (L' := [_, _, _, _]) (n := 25) dX4_stands_24 rfl (by decide) rfl rfl ?_
        refine Z_iinc (L' := [_, _, _, _]) (n := 28) dX4_stands_25 rfl rfl (by decide) rfl rfl (by omega) rfl ?_
        refine Z_goto (t := 4) dX4_stands_28 (by decide) ?_
        refine Z_loc (L' := [some _, some _, some _, some _]) (lsub_same (lsub_same (lsub_same (lsub_same lsub_nil)))) ?_
        exact ih4 _ _  (by omega) (by first | assumption | omega | decide) (by first | assumption | omega | decide) (by rw [stF_up _ _ i4_0, ← i4_2])
  refine Z_loc (L' := [some _, some _, some _, some _]) (lsub_same (lsub_same (lsub_same (lsub_same lsub_nil)))) ?_
  exact lp4 _ _ _  (Nat.lt_succ_self _) (by first | assumption | omega | decide) (by first | assumption | omega | decide) (by rfl)
set_option maxRecDepth 20000 in
theorem zX4_assignmentAt {G : tl_G} {M : zM} {J : zJ} {p : Int}  : ZN G yX4_assignmentAt mX4_assignmentAt 0 kAll [vR 31, vI p] F1 M J (qI (fun x M' J' => M' = M ∧ J' = J ∧ x = asF (M 38) p 8)) := by
  refine ZN_of (L := [_, _, _, _]) (by decide) rfl rfl (Nat.le_of_ble_eq_true rfl) rfl (fun hav => ?_)
  refine Z_iconst (n := 1) dX4_assignmentAt_0 rfl (by decide) ?_
  refine Z_istore_n (L' := [_, _, _, _]) (n := 2) dX4_assignmentAt_1 rfl (by decide) rfl rfl ?_
  refine Z_iconst (n := 3) dX4_assignmentAt_2 rfl (by decide) ?_
  refine Z_istore_n (L' := [_, _, _, _]) (n := 4) dX4_assignmentAt_3 rfl (by decide) rfl rfl ?_
  have lp4 : ∀ (N4 : Nat) (a k : Int) , ((8 - k).toNat) < N4 → (0 ≤ k) → (k ≤ 8) → (a = asF (M 38) p k.toNat) → TZ G mX4_assignmentAt (tl_rm 0 0 0) 0 0 kAll M J 4 [some (vR 31), some (vI p), some (vI a), some (vI k)] [] F1 M J (ZM G (zPost G kAll F1 M J (qI (fun x M' J' => M' = M ∧ J' = J ∧ x = asF (M 38) p 8))) 0 0) := by
    intro N4
    induction N4 with
    | zero => intro a k  hN; omega
    | succ N4 ih4 =>
      intro a k  hN4 i4_0 i4_1 i4_2
      refine Z_iload_n (n := 5) dX4_assignmentAt_4 rfl rfl ?_
      refine Z_bipush (n := 7) dX4_assignmentAt_5 rfl (by decide) (by decide) ?_
      refine Z_icmp_ge (n := 10) (t := 34) dX4_assignmentAt_7 rfl (by decide) (fun c7 => ?_) (fun c7 => ?_)
      · refine Z_iload_n (n := 35) dX4_assignmentAt_34 rfl rfl ?_
        refine Z_iret dX4_assignmentAt_35 rfl ?_
        refine ⟨rfl, rfl, ?_⟩; rw [i4_2, show k = 8 by omega]; rfl
      · refine Z_iload_n (n := 11) dX4_assignmentAt_10 rfl rfl ?_
        refine Z_iload_n (n := 12) dX4_assignmentAt_11 rfl rfl ?_
        refine Z_bipush (n := 14) dX4_assignmentAt_12 rfl (by decide) (by decide) ?_
        refine Z_iload_n (n := 15) dX4_assignmentAt_14 rfl rfl ?_
        refine Z_isub (n := 16) dX4_assignmentAt_15 rfl (by omega) ?_
        refine Z_ishr (n := 17) dX4_assignmentAt_16 rfl ?_
        refine Z_iconst (n := 18) dX4_assignmentAt_17 rfl (by decide) ?_
        refine Z_iand (n := 19) dX4_assignmentAt_18 rfl ?_
        refine Z_aload_n (n := 20) dX4_assignmentAt_19 rfl rfl ?_
        refine Z_getA (n := 23) dX4_assignmentAt_20 rfl ffX4_29 rfl rfl ?_
        refine Z_iload_n (n := 24) dX4_assignmentAt_23 rfl rfl ?_
        refine Z_iald (n := 25) dX4_assignmentAt_24 rfl rfl rfl (by first | decide | assumption) (by omega) (by omega) (fun r24 s24 => ?_)
        refine Z_ishl (n := 26) dX4_assignmentAt_25 rfl ?_
        refine Z_ior (n := 27) dX4_assignmentAt_26 rfl ?_
        refine Z_istore_n (L' := [_, _, _, _]) (n := 28) dX4_assignmentAt_27 rfl (by decide) rfl rfl ?_
        refine Z_iinc (L' := [_, _, _, _]) (n := 31) dX4_assignmentAt_28 rfl rfl (by decide) rfl rfl (by omega) rfl ?_
        refine Z_goto (t := 4) dX4_assignmentAt_31 (by decide) ?_
        refine Z_loc (L' := [some _, some _, some _, some _]) (lsub_same (lsub_same (lsub_same (lsub_same lsub_nil)))) ?_
        exact ih4 _ _  (by omega) (by first | assumption | omega | decide) (by first | assumption | omega | decide) (by rw [asF_up _ _ i4_0, ← i4_2])
  refine Z_loc (L' := [some _, some _, some _, some _]) (lsub_same (lsub_same (lsub_same (lsub_same lsub_nil)))) ?_
  exact lp4 _ _ _  (Nat.lt_succ_self _) (by first | assumption | omega | decide) (by first | assumption | omega | decide) (by rfl)
set_option maxRecDepth 20000 in
theorem zX4_leastOf {G : tl_G} {M : zM} {J : zJ} {f y : Int} (f0 : 0 ≤ f) (f1 : f < 56) : ZN G yX4_leastOf mX4_leastOf 1 kAll [vR 31, vI f, vI y] F1 M J (qI (fun x M' J' => M' = M ∧ J' = J ∧ lsQ (bitF J f) y x)) := by
  refine ZN_of (L := [_, _, _, _]) (by decide) rfl rfl (Nat.le_of_ble_eq_true rfl) rfl (fun hav => ?_)
  refine Z_iconst (n := 1) dX4_leastOf_0 rfl (by decide) ?_
  refine Z_istore_n (L' := [_, _, _, _]) (n := 2) dX4_leastOf_1 rfl (by decide) rfl rfl ?_
  have lp2 : ∀ (N2 : Nat) (p : Int) , ((256 - p).toNat) < N2 → (0 ≤ p) → (p ≤ 256) → (∀ q : Int, 0 ≤ q → q < p → ¬ btF (bitF J f) q = y) → TZ G mX4_leastOf (tl_rm 1 0 0) 0 0 kAll M J 2 [some (vR 31), some (vI f), some (vI y), some (vI p)] [] F1 M J (ZM G (zPost G kAll F1 M J (qI (fun x M' J' => M' = M ∧ J' = J ∧ lsQ (bitF J f) y x))) 0 0) := by
    intro N2
    induction N2 with
    | zero => intro p  hN; omega
    | succ N2 ih2 =>
      intro p  hN2 i2_0 i2_1 i2_2
      refine Z_iload_n (n := 3) dX4_leastOf_2 rfl rfl ?_
      refine Z_sipush (n := 6) dX4_leastOf_3 rfl (by decide) (by decide) ?_
      refine Z_icmp_ge (n := 9) (t := 27) dX4_leastOf_6 rfl (by decide) (fun c6 => ?_) (fun c6 => ?_)
      · refine Z_iconst (n := 28) dX4_leastOf_27 rfl (by decide) ?_
        refine Z_iret dX4_leastOf_28 rfl ?_
        exact ⟨rfl, rfl, Or.inl ⟨rfl, fun q a b => i2_2 q a (by omega)⟩⟩
      · refine Z_aload_n (n := 10) dX4_leastOf_9 rfl rfl ?_
        refine Z_iload_n (n := 11) dX4_leastOf_10 rfl rfl ?_
        refine Z_iload_n (n := 12) dX4_leastOf_11 rfl rfl ?_
        refine Z_callVi (n := 15) [_, _] _ dX4_leastOf_12 rfl cwX4_240 rfl rfl rfl (Nat.le_of_ble_eq_true rfl) (by refine ⟨?_, ?_, ?_, ?_⟩ <;> exact Nat.le_of_ble_eq_true rfl) (fun _ h => h) (zX4_bit  (by first | assumption | omega | decide) (by first | assumption | omega | decide) (by first | assumption | omega | decide) (by first | assumption | omega | decide)) ?_
        intro x12 M12 J12 z12 f12 q12
        obtain ⟨e12_1, e12_2, h12⟩ := q12
        replace e12_1 := e12_1.symm; subst e12_1
        replace e12_2 := e12_2.symm; subst e12_2
        refine Z_iload_n (n := 16) dX4_leastOf_15 rfl rfl ?_
        refine Z_icmp_ne (n := 19) (t := 21) dX4_leastOf_16 rfl (by decide) (fun c16 => ?_) (fun c16 => ?_)
        · have nx : ∀ q : Int, 0 ≤ q → q < p + 1 → ¬ btF (bitF J f) q = y := fun q a b => by
            by_cases e : q = p
            · rw [e, ← h12]; exact c16
            · exact i2_2 q a (by omega)
          refine Z_iinc (L' := [_, _, _, _]) (n := 24) dX4_leastOf_21 rfl rfl (by decide) rfl rfl (by omega) rfl ?_
          refine Z_goto (t := 2) dX4_leastOf_24 (by decide) ?_
          refine Z_loc (L' := [some _, some _, some _, some _]) (lsub_same (lsub_same (lsub_same (lsub_same lsub_nil)))) ?_
          exact ih2 _  (by omega) (by first | assumption | omega | decide) (by first | assumption | omega | decide) (by exact nx)
        · refine Z_iload_n (n := 20) dX4_leastOf_19 rfl rfl ?_
          refine Z_iret dX4_leastOf_20 rfl ?_
          exact ⟨rfl, rfl, Or.inr ⟨by omega, by omega, h12.symm.trans c16, i2_2⟩⟩
  refine Z_loc (L' := [some _, some _, some _, some _]) (lsub_same (lsub_same (lsub_same (lsub_same lsub_nil)))) ?_
  exact lp2 _ _  (Nat.lt_succ_self _) (by first | assumption | omega | decide) (by first | assumption | omega | decide) (by exact fun q a b => by omega)
set_option maxRecDepth 20000 in
theorem zX4_hangs {G : tl_G} {M : zM} {J : zJ} {f pl : Int} (f0 : 0 ≤ f) (f1 : f < 56) (p0 : 0 ≤ pl) (p1 : pl < 8) : ZN G yX4_hangs mX4_hangs 1 kAll [vR 31, vI f, vI pl] F1 M J (qI (fun x M' J' => M' = M ∧ J' = J ∧ (x = 0 ∨ x = 1))) := by
  refine ZN_of (L := [_, _, _, _, _, _]) (by decide) rfl rfl (Nat.le_of_ble_eq_true rfl) rfl (fun hav => ?_)
  have hz7 := zshl1 (d := 7 - pl) (by omega) (by omega)
  refine Z_iconst (n := 1) dX4_hangs_0 rfl (by decide) ?_
  refine Z_istore_n (L' := [_, _, _, _, _, _]) (n := 2) dX4_hangs_1 rfl (by decide) rfl rfl ?_
  refine Z_iconst (n := 3) dX4_hangs_2 rfl (by decide) ?_
  refine Z_bipush (n := 5) dX4_hangs_3 rfl (by decide) (by decide) ?_
  refine Z_iload_n (n := 6) dX4_hangs_5 rfl rfl ?_
  refine Z_isub (n := 7) dX4_hangs_6 rfl (by omega) ?_
  refine Z_ishl (n := 8) dX4_hangs_7 rfl ?_
  refine Z_istore (L' := [_, _, _, _, _, _]) (n := 10) dX4_hangs_8 rfl (by decide) rfl rfl ?_
  refine Z_iconst (n := 11) dX4_hangs_10 rfl (by decide) ?_
  refine Z_istore (L' := [_, _, _, _, _, _]) (n := 13) dX4_hangs_11 rfl (by decide) rfl rfl ?_
  have lp13 : ∀ (N13 : Nat) (e p : Int) , ((256 - p).toNat) < N13 → (0 ≤ p) → (p ≤ 256) → (e = 0 ∨ e = 1) → TZ G mX4_hangs (tl_rm 1 0 0) 0 0 kAll M J 13 [some (vR 31), some (vI f), some (vI pl), some (vI e), some (vI (zshl 1 (7 - pl))), some (vI p)] [] F1 M J (ZM G (zPost G kAll F1 M J (qI (fun x M' J' => M' = M ∧ J' = J ∧ (x = 0 ∨ x = 1)))) 0 0) := by
    intro N13
    induction N13 with
    | zero => intro e p  hN; omega
    | succ N13 ih13 =>
      intro e p  hN13 i13_0 i13_1 i13_2
      refine Z_iload (n := 15) dX4_hangs_13 rfl rfl ?_
      refine Z_sipush (n := 18) dX4_hangs_15 rfl (by decide) (by decide) ?_
      refine Z_icmp_ge (n := 21) (t := 57) dX4_hangs_18 rfl (by decide) (fun c18 => ?_) (fun c18 => ?_)
      · refine Z_iload_n (n := 58) dX4_hangs_57 rfl rfl ?_
        refine Z_zret dX4_hangs_58 rfl (by omega) (by omega) ?_
        exact ⟨rfl, rfl, i13_2⟩
      · refine Z_iload_n (n := 22) dX4_hangs_21 rfl rfl ?_
        refine Z_if_ne (n := 25) (t := 45) dX4_hangs_22 rfl (by decide) (fun c22 => ?_) (fun c22 => ?_)
        · refine Z_iconst (n := 46) dX4_hangs_45 rfl (by decide) ?_
          refine Z_goto (t := 50) dX4_hangs_46 (by decide) ?_
          refine Z_istore_n (L' := [_, _, _, _, _, _]) (n := 51) dX4_hangs_50 rfl (by decide) rfl rfl ?_
          refine Z_iinc (L' := [_, _, _, _, _, _]) (n := 54) dX4_hangs_51 rfl rfl (by decide) rfl rfl (by omega) rfl ?_
          refine Z_goto (t := 13) dX4_hangs_54 (by decide) ?_
          refine Z_loc (L' := [some _, some _, some _, some _, some _, some _]) (lsub_same (lsub_same (lsub_same (lsub_same (lsub_same (lsub_same lsub_nil)))))) ?_
          exact ih13 _ _  (by omega) (by first | assumption | omega | decide) (by first | assumption | omega | decide) (by first | assumption | omega | decide)
        · refine Z_aload_n (n := 26) dX4_hangs_25 rfl rfl ?_
          refine Z_iload_n (n := 27) dX4_hangs_26 rfl rfl ?_
          refine Z_iload (n := 29) dX4_hangs_27 rfl rfl ?_
          refine Z_callVi (n := 32) [_, _] _ dX4_hangs_29 rfl cwX4_240 rfl rfl rfl (Nat.le_of_ble_eq_true rfl) (by refine ⟨?_, ?_, ?_, ?_⟩ <;> exact Nat.le_of_ble_eq_true rfl) (fun _ h => h) (zX4_bit  (by first | assumption | omega | decide) (by first | assumption | omega | decide) (by first | assumption | omega | decide) (by first | assumption | omega | decide)) ?_
          intro x29 M29 J29 z29 f29 q29
          obtain ⟨e29_1, e29_2, h29⟩ := q29
          replace e29_1 := e29_1.symm; subst e29_1
          replace e29_2 := e29_2.symm; subst e29_2
          refine Z_aload_n (n := 33) dX4_hangs_32 rfl rfl ?_
          refine Z_iload_n (n := 34) dX4_hangs_33 rfl rfl ?_
          refine Z_iload (n := 36) dX4_hangs_34 rfl rfl ?_
          refine Z_iload (n := 38) dX4_hangs_36 rfl rfl ?_
          refine Z_ixor (n := 39) dX4_hangs_38 rfl ?_
          have hzx := zxor_in (x := p) (y := zshl 1 (7 - pl)) (by omega) (by omega) (by omega) (by omega)
          refine Z_callVi (n := 42) [_, _] _ dX4_hangs_39 rfl cwX4_240 rfl rfl rfl (Nat.le_of_ble_eq_true rfl) (by refine ⟨?_, ?_, ?_, ?_⟩ <;> exact Nat.le_of_ble_eq_true rfl) (fun _ h => h) (zX4_bit  (by first | assumption | omega | decide) (by first | assumption | omega | decide) (by first | assumption | omega | decide) (by first | assumption | omega | decide)) ?_
          intro x39 M39 J39 z39 f39 q39
          obtain ⟨e39_1, e39_2, h39⟩ := q39
          replace e39_1 := e39_1.symm; subst e39_1
          replace e39_2 := e39_2.symm; subst e39_2
          refine Z_icmp_eq (n := 45) (t := 49) dX4_hangs_42 rfl (by decide) (fun c42 => ?_) (fun c42 => ?_)
          · refine Z_iconst (n := 50) dX4_hangs_49 rfl (by decide) ?_
            refine Z_istore_n (L' := [_, _, _, _, _, _]) (n := 51) dX4_hangs_50 rfl (by decide) rfl rfl ?_
            refine Z_iinc (L' := [_, _, _, _, _, _]) (n := 54) dX4_hangs_51 rfl rfl (by decide) rfl rfl (by omega) rfl ?_
            refine Z_goto (t := 13) dX4_hangs_54 (by decide) ?_
            refine Z_loc (L' := [some _, some _, some _, some _, some _, some _]) (lsub_same (lsub_same (lsub_same (lsub_same (lsub_same (lsub_same lsub_nil)))))) ?_
            exact ih13 _ _  (by omega) (by first | assumption | omega | decide) (by first | assumption | omega | decide) (by first | assumption | omega | decide)
          · refine Z_iconst (n := 46) dX4_hangs_45 rfl (by decide) ?_
            refine Z_goto (t := 50) dX4_hangs_46 (by decide) ?_
            refine Z_istore_n (L' := [_, _, _, _, _, _]) (n := 51) dX4_hangs_50 rfl (by decide) rfl rfl ?_
            refine Z_iinc (L' := [_, _, _, _, _, _]) (n := 54) dX4_hangs_51 rfl rfl (by decide) rfl rfl (by omega) rfl ?_
            refine Z_goto (t := 13) dX4_hangs_54 (by decide) ?_
            refine Z_loc (L' := [some _, some _, some _, some _, some _, some _]) (lsub_same (lsub_same (lsub_same (lsub_same (lsub_same (lsub_same lsub_nil)))))) ?_
            exact ih13 _ _  (by omega) (by first | assumption | omega | decide) (by first | assumption | omega | decide) (by first | assumption | omega | decide)
  refine Z_loc (L' := [some _, some _, some _, some _, some _, some _]) (lsub_same (lsub_same (lsub_same (lsub_same (lsub_same (lsub_same lsub_nil)))))) ?_
  exact lp13 _ _ _  (Nat.lt_succ_self _) (by first | assumption | omega | decide) (by first | assumption | omega | decide) (by first | assumption | omega | decide)
set_option maxRecDepth 20000 in
theorem zX4_value_s {G : tl_G} {M : zM} {J : zJ} {f a : Int}  : ZN G yX4_value mX4_value 3 kAll [vR 31, vI f, vI a] F1 M J (qI (fun x M' J' => M' = M ∧ J' = J)) := by
  refine ZN_of (L := [_, _, _]) (by decide) rfl rfl (Nat.le_of_ble_eq_true rfl) rfl (fun hav => ?_)
  refine Z_aload_n (n := 1) dX4_value_0 rfl rfl ?_
  refine Z_iload_n (n := 2) dX4_value_1 rfl rfl ?_
  refine Z_callVi (n := 5) [_] _ dX4_value_2 rfl cwX4_223 rfl rfl rfl (Nat.le_of_ble_eq_true rfl) (by refine ⟨?_, ?_, ?_, ?_⟩ <;> exact Nat.le_of_ble_eq_true rfl) (fun _ h => h) (zX4_isFunction  ) ?_
  intro x2 M2 J2 z2 f2 q2
  obtain ⟨e2_1, e2_2, h2⟩ := q2
  replace e2_1 := e2_1.symm; subst e2_1
  replace e2_2 := e2_2.symm; subst e2_2
  refine Z_if_ne (n := 8) (t := 10) dX4_value_5 rfl (by decide) (fun c5 => ?_) (fun c5 => ?_)
  · refine Z_iload_n (n := 11) dX4_value_10 rfl rfl ?_
    refine Z_iconst (n := 12) dX4_value_11 rfl (by decide) ?_
    refine Z_sipush (n := 15) dX4_value_12 rfl (by decide) (by decide) ?_
    refine Z_callSi (n := 18) [_, _, _] _ dX4_value_15 rfl cwX4_112 rfl rfl (Nat.le_of_ble_eq_true rfl) (by refine ⟨?_, ?_, ?_, ?_⟩ <;> exact Nat.le_of_ble_eq_true rfl) (fun _ h => h) (zX4_in  ) ?_
    intro x15 M15 J15 z15 f15 q15
    obtain ⟨e15_1, e15_2, h15⟩ := q15
    replace e15_1 := e15_1.symm; subst e15_1
    replace e15_2 := e15_2.symm; subst e15_2
    refine Z_if_ne (n := 21) (t := 24) dX4_value_18 rfl (by decide) (fun c18 => ?_) (fun c18 => ?_)
    · refine Z_aload_n (n := 25) dX4_value_24 rfl rfl ?_
      refine Z_iload_n (n := 26) dX4_value_25 rfl rfl ?_
      refine Z_aload_n (n := 27) dX4_value_26 rfl rfl ?_
      refine Z_iload_n (n := 28) dX4_value_27 rfl rfl ?_
      refine Z_callVi (n := 31) [_] _ dX4_value_28 rfl cwX4_237 rfl rfl rfl (Nat.le_of_ble_eq_true rfl) (by refine ⟨?_, ?_, ?_, ?_⟩ <;> exact Nat.le_of_ble_eq_true rfl) (fun _ h => h) (zX4_stands  ) ?_
      intro x28 M28 J28 z28 f28 q28
      obtain ⟨e28_1, e28_2, h28⟩ := q28
      replace e28_1 := e28_1.symm; subst e28_1
      replace e28_2 := e28_2.symm; subst e28_2
      have hst := stF_256 (M 38) a (n := 8) (by omega)
      rw [← h28] at hst
      refine Z_callVi (n := 34) [_, _] _ dX4_value_31 rfl cwX4_240 rfl rfl rfl (Nat.le_of_ble_eq_true rfl) (by refine ⟨?_, ?_, ?_, ?_⟩ <;> exact Nat.le_of_ble_eq_true rfl) (fun _ h => h) (zX4_bit  (by first | assumption | omega | decide) (by first | assumption | omega | decide) (by first | assumption | omega | decide) (by first | assumption | omega | decide)) ?_
      intro x31 M31 J31 z31 f31 q31
      obtain ⟨e31_1, e31_2, h31⟩ := q31
      replace e31_1 := e31_1.symm; subst e31_1
      replace e31_2 := e31_2.symm; subst e31_2
      refine Z_if_eq (n := 37) (t := 41) dX4_value_34 rfl (by decide) (fun c34 => ?_) (fun c34 => ?_)
      · refine Z_iconst (n := 42) dX4_value_41 rfl (by decide) ?_
        refine Z_iret dX4_value_42 rfl ?_
        exact ⟨rfl, rfl⟩
      · refine Z_iconst (n := 38) dX4_value_37 rfl (by decide) ?_
        refine Z_goto (t := 42) dX4_value_38 (by decide) ?_
        refine Z_iret dX4_value_42 rfl ?_
        exact ⟨rfl, rfl⟩
    · refine Z_bipush (n := 23) dX4_value_21 rfl (by decide) (by decide) ?_
      refine Z_iret dX4_value_23 rfl ?_
      exact ⟨rfl, rfl⟩
  · refine Z_iconst (n := 9) dX4_value_8 rfl (by decide) ?_
    refine Z_iret dX4_value_9 rfl ?_
    exact ⟨rfl, rfl⟩
set_option maxRecDepth 20000 in
theorem zX4_same_s {G : tl_G} {M : zM} {J : zJ} {f g : Int}  : ZN G yX4_same mX4_same 3 kAll [vR 31, vI f, vI g] F1 M J (qI (fun x M' J' => M' = M ∧ J' = J)) := by
  refine ZN_of (L := [_, _, _, _, _]) (by decide) rfl rfl (Nat.le_of_ble_eq_true rfl) rfl (fun hav => ?_)
  refine Z_aload_n (n := 1) dX4_same_0 rfl rfl ?_
  refine Z_iload_n (n := 2) dX4_same_1 rfl rfl ?_
  refine Z_callVi (n := 5) [_] _ dX4_same_2 rfl cwX4_223 rfl rfl rfl (Nat.le_of_ble_eq_true rfl) (by refine ⟨?_, ?_, ?_, ?_⟩ <;> exact Nat.le_of_ble_eq_true rfl) (fun _ h => h) (zX4_isFunction  ) ?_
  intro x2 M2 J2 z2 f2 q2
  obtain ⟨e2_1, e2_2, h2⟩ := q2
  replace e2_1 := e2_1.symm; subst e2_1
  replace e2_2 := e2_2.symm; subst e2_2
  refine Z_if_eq (n := 8) (t := 16) dX4_same_5 rfl (by decide) (fun c5 => ?_) (fun c5 => ?_)
  · refine Z_iconst (n := 17) dX4_same_16 rfl (by decide) ?_
    refine Z_iret dX4_same_17 rfl ?_
    exact ⟨rfl, rfl⟩
  · refine Z_aload_n (n := 9) dX4_same_8 rfl rfl ?_
    refine Z_iload_n (n := 10) dX4_same_9 rfl rfl ?_
    refine Z_callVi (n := 13) [_] _ dX4_same_10 rfl cwX4_223 rfl rfl rfl (Nat.le_of_ble_eq_true rfl) (by refine ⟨?_, ?_, ?_, ?_⟩ <;> exact Nat.le_of_ble_eq_true rfl) (fun _ h => h) (zX4_isFunction  ) ?_
    intro x10 M10 J10 z10 f10 q10
    obtain ⟨e10_1, e10_2, h10⟩ := q10
    replace e10_1 := e10_1.symm; subst e10_1
    replace e10_2 := e10_2.symm; subst e10_2
    refine Z_if_ne (n := 16) (t := 18) dX4_same_13 rfl (by decide) (fun c13 => ?_) (fun c13 => ?_)
    · refine Z_iconst (n := 19) dX4_same_18 rfl (by decide) ?_
      refine Z_istore_n (L' := [_, _, _, _, _]) (n := 20) dX4_same_19 rfl (by decide) rfl rfl ?_
      refine Z_iconst (n := 21) dX4_same_20 rfl (by decide) ?_
      refine Z_istore (L' := [_, _, _, _, _]) (n := 23) dX4_same_21 rfl (by decide) rfl rfl ?_
      have lp23 : ∀ (N23 : Nat) (e k : Int) , ((4 - k).toNat) < N23 → (0 ≤ k) → (k ≤ 4) → TZ G mX4_same (tl_rm 3 0 0) 0 0 kAll M J 23 [some (vR 31), some (vI f), some (vI g), some (vI e), some (vI k)] [] F1 M J (ZM G (zPost G kAll F1 M J (qI (fun x M' J' => M' = M ∧ J' = J))) 0 0) := by
        intro N23
        induction N23 with
        | zero => intro e k  hN; omega
        | succ N23 ih23 =>
          intro e k  hN23 i23_0 i23_1
          refine Z_iload (n := 25) dX4_same_23 rfl rfl ?_
          refine Z_iconst (n := 26) dX4_same_25 rfl (by decide) ?_
          refine Z_icmp_ge (n := 29) (t := 71) dX4_same_26 rfl (by decide) (fun c26 => ?_) (fun c26 => ?_)
          · refine Z_iload_n (n := 72) dX4_same_71 rfl rfl ?_
            refine Z_if_eq (n := 75) (t := 79) dX4_same_72 rfl (by decide) (fun c72 => ?_) (fun c72 => ?_)
            · refine Z_iconst (n := 80) dX4_same_79 rfl (by decide) ?_
              refine Z_iret dX4_same_80 rfl ?_
              exact ⟨rfl, rfl⟩
            · refine Z_iconst (n := 76) dX4_same_75 rfl (by decide) ?_
              refine Z_goto (t := 80) dX4_same_76 (by decide) ?_
              refine Z_iret dX4_same_80 rfl ?_
              exact ⟨rfl, rfl⟩
          · refine Z_iload_n (n := 30) dX4_same_29 rfl rfl ?_
            refine Z_if_eq (n := 33) (t := 63) dX4_same_30 rfl (by decide) (fun c30 => ?_) (fun c30 => ?_)
            · refine Z_iconst (n := 64) dX4_same_63 rfl (by decide) ?_
              refine Z_istore_n (L' := [_, _, _, _, _]) (n := 65) dX4_same_64 rfl (by decide) rfl rfl ?_
              refine Z_iinc (L' := [_, _, _, _, _]) (n := 68) dX4_same_65 rfl rfl (by decide) rfl rfl (by omega) rfl ?_
              refine Z_goto (t := 23) dX4_same_68 (by decide) ?_
              refine Z_loc (L' := [some _, some _, some _, some _, some _]) (lsub_same (lsub_same (lsub_same (lsub_same (lsub_same lsub_nil))))) ?_
              exact ih23 _ _  (by omega) (by first | assumption | omega | decide) (by first | assumption | omega | decide)
            · refine Z_aload_n (n := 34) dX4_same_33 rfl rfl ?_
              refine Z_getA (n := 37) dX4_same_34 rfl ffX4_47 rfl rfl ?_
              refine Z_iconst (n := 38) dX4_same_37 rfl (by decide) ?_
              refine Z_iload_n (n := 39) dX4_same_38 rfl rfl ?_
              refine Z_imul (n := 40) dX4_same_39 rfl (by omega) ?_
              refine Z_iload (n := 42) dX4_same_40 rfl rfl ?_
              refine Z_iadd (n := 43) dX4_same_42 rfl (by omega) ?_
              refine Z_lald (n := 44) dX4_same_43 rfl rfl (by decide) (by omega) (by omega) ?_
              refine Z_aload_n (n := 45) dX4_same_44 rfl rfl ?_
              refine Z_getA (n := 48) dX4_same_45 rfl ffX4_47 rfl rfl ?_
              refine Z_iconst (n := 49) dX4_same_48 rfl (by decide) ?_
              refine Z_iload_n (n := 50) dX4_same_49 rfl rfl ?_
              refine Z_imul (n := 51) dX4_same_50 rfl (by omega) ?_
              refine Z_iload (n := 53) dX4_same_51 rfl rfl ?_
              refine Z_iadd (n := 54) dX4_same_53 rfl (by omega) ?_
              refine Z_lald (n := 55) dX4_same_54 rfl rfl (by decide) (by omega) (by omega) ?_
              refine Z_lcmp (n := 56) dX4_same_55 rfl ?_
              refine Z_if_ne (n := 59) (t := 63) dX4_same_56 rfl (by decide) (fun c56 => ?_) (fun c56 => ?_)
              · refine Z_iconst (n := 64) dX4_same_63 rfl (by decide) ?_
                refine Z_istore_n (L' := [_, _, _, _, _]) (n := 65) dX4_same_64 rfl (by decide) rfl rfl ?_
                refine Z_iinc (L' := [_, _, _, _, _]) (n := 68) dX4_same_65 rfl rfl (by decide) rfl rfl (by omega) rfl ?_
                refine Z_goto (t := 23) dX4_same_68 (by decide) ?_
                refine Z_loc (L' := [some _, some _, some _, some _, some _]) (lsub_same (lsub_same (lsub_same (lsub_same (lsub_same lsub_nil))))) ?_
                exact ih23 _ _  (by omega) (by first | assumption | omega | decide) (by first | assumption | omega | decide)
              · refine Z_iconst (n := 60) dX4_same_59 rfl (by decide) ?_
                refine Z_goto (t := 64) dX4_same_60 (by decide) ?_
                refine Z_istore_n (L' := [_, _, _, _, _]) (n := 65) dX4_same_64 rfl (by decide) rfl rfl ?_
                refine Z_iinc (L' := [_, _, _, _, _]) (n := 68) dX4_same_65 rfl rfl (by decide) rfl rfl (by omega) rfl ?_
                refine Z_goto (t := 23) dX4_same_68 (by decide) ?_
                refine Z_loc (L' := [some _, some _, some _, some _, some _]) (lsub_same (lsub_same (lsub_same (lsub_same (lsub_same lsub_nil))))) ?_
                exact ih23 _ _  (by omega) (by first | assumption | omega | decide) (by first | assumption | omega | decide)
      refine Z_loc (L' := [some _, some _, some _, some _, some _]) (lsub_same (lsub_same (lsub_same (lsub_same (lsub_same lsub_nil))))) ?_
      exact lp23 _ _ _  (Nat.lt_succ_self _) (by first | assumption | omega | decide) (by first | assumption | omega | decide)
    · refine Z_iconst (n := 17) dX4_same_16 rfl (by decide) ?_
      refine Z_iret dX4_same_17 rfl ?_
      exact ⟨rfl, rfl⟩
set_option maxRecDepth 20000 in
theorem zX4_count_s {G : tl_G} {M : zM} {J : zJ} {f : Int}  : ZN G yX4_count mX4_count 3 kAll [vR 31, vI f] F1 M J (qI (fun x M' J' => M' = M ∧ J' = J)) := by
  refine ZN_of (L := [_, _, _, _]) (by decide) rfl rfl (Nat.le_of_ble_eq_true rfl) rfl (fun hav => ?_)
  refine Z_aload_n (n := 1) dX4_count_0 rfl rfl ?_
  refine Z_iload_n (n := 2) dX4_count_1 rfl rfl ?_
  refine Z_callVi (n := 5) [_] _ dX4_count_2 rfl cwX4_223 rfl rfl rfl (Nat.le_of_ble_eq_true rfl) (by refine ⟨?_, ?_, ?_, ?_⟩ <;> exact Nat.le_of_ble_eq_true rfl) (fun _ h => h) (zX4_isFunction  ) ?_
  intro x2 M2 J2 z2 f2 q2
  obtain ⟨e2_1, e2_2, h2⟩ := q2
  replace e2_1 := e2_1.symm; subst e2_1
  replace e2_2 := e2_2.symm; subst e2_2
  refine Z_if_ne (n := 8) (t := 10) dX4_count_5 rfl (by decide) (fun c5 => ?_) (fun c5 => ?_)
  · refine Z_iconst (n := 11) dX4_count_10 rfl (by decide) ?_
    refine Z_istore_n (L' := [_, _, _, _]) (n := 12) dX4_count_11 rfl (by decide) rfl rfl ?_
    refine Z_iconst (n := 13) dX4_count_12 rfl (by decide) ?_
    refine Z_istore_n (L' := [_, _, _, _]) (n := 14) dX4_count_13 rfl (by decide) rfl rfl ?_
    have lp14 : ∀ (N14 : Nat) (n p : Int) , ((256 - p).toNat) < N14 → (0 ≤ p) → (p ≤ 256) → (0 ≤ n) → (n ≤ p) → TZ G mX4_count (tl_rm 3 0 0) 0 0 kAll M J 14 [some (vR 31), some (vI f), some (vI n), some (vI p)] [] F1 M J (ZM G (zPost G kAll F1 M J (qI (fun x M' J' => M' = M ∧ J' = J))) 0 0) := by
      intro N14
      induction N14 with
      | zero => intro n p  hN; omega
      | succ N14 ih14 =>
        intro n p  hN14 i14_0 i14_1 i14_2 i14_3
        refine Z_iload_n (n := 15) dX4_count_14 rfl rfl ?_
        refine Z_sipush (n := 18) dX4_count_15 rfl (by decide) (by decide) ?_
        refine Z_icmp_ge (n := 21) (t := 44) dX4_count_18 rfl (by decide) (fun c18 => ?_) (fun c18 => ?_)
        · refine Z_iload_n (n := 45) dX4_count_44 rfl rfl ?_
          refine Z_iret dX4_count_45 rfl ?_
          exact ⟨rfl, rfl⟩
        · refine Z_iload_n (n := 22) dX4_count_21 rfl rfl ?_
          refine Z_aload_n (n := 23) dX4_count_22 rfl rfl ?_
          refine Z_iload_n (n := 24) dX4_count_23 rfl rfl ?_
          refine Z_iload_n (n := 25) dX4_count_24 rfl rfl ?_
          refine Z_callVi (n := 28) [_, _] _ dX4_count_25 rfl cwX4_240 rfl rfl rfl (Nat.le_of_ble_eq_true rfl) (by refine ⟨?_, ?_, ?_, ?_⟩ <;> exact Nat.le_of_ble_eq_true rfl) (fun _ h => h) (zX4_bit  (by first | assumption | omega | decide) (by first | assumption | omega | decide) (by first | assumption | omega | decide) (by first | assumption | omega | decide)) ?_
          intro x25 M25 J25 z25 f25 q25
          obtain ⟨e25_1, e25_2, h25⟩ := q25
          replace e25_1 := e25_1.symm; subst e25_1
          replace e25_2 := e25_2.symm; subst e25_2
          refine Z_if_eq (n := 31) (t := 35) dX4_count_28 rfl (by decide) (fun c28 => ?_) (fun c28 => ?_)
          · refine Z_iconst (n := 36) dX4_count_35 rfl (by decide) ?_
            refine Z_iadd (n := 37) dX4_count_36 rfl (by omega) ?_
            refine Z_istore_n (L' := [_, _, _, _]) (n := 38) dX4_count_37 rfl (by decide) rfl rfl ?_
            refine Z_iinc (L' := [_, _, _, _]) (n := 41) dX4_count_38 rfl rfl (by decide) rfl rfl (by omega) rfl ?_
            refine Z_goto (t := 14) dX4_count_41 (by decide) ?_
            refine Z_loc (L' := [some _, some _, some _, some _]) (lsub_same (lsub_same (lsub_same (lsub_same lsub_nil)))) ?_
            exact ih14 _ _  (by omega) (by first | assumption | omega | decide) (by first | assumption | omega | decide) (by first | assumption | omega | decide) (by first | assumption | omega | decide)
          · refine Z_iconst (n := 32) dX4_count_31 rfl (by decide) ?_
            refine Z_goto (t := 36) dX4_count_32 (by decide) ?_
            refine Z_iadd (n := 37) dX4_count_36 rfl (by omega) ?_
            refine Z_istore_n (L' := [_, _, _, _]) (n := 38) dX4_count_37 rfl (by decide) rfl rfl ?_
            refine Z_iinc (L' := [_, _, _, _]) (n := 41) dX4_count_38 rfl rfl (by decide) rfl rfl (by omega) rfl ?_
            refine Z_goto (t := 14) dX4_count_41 (by decide) ?_
            refine Z_loc (L' := [some _, some _, some _, some _]) (lsub_same (lsub_same (lsub_same (lsub_same lsub_nil)))) ?_
            exact ih14 _ _  (by omega) (by first | assumption | omega | decide) (by first | assumption | omega | decide) (by first | assumption | omega | decide) (by first | assumption | omega | decide)
    refine Z_loc (L' := [some _, some _, some _, some _]) (lsub_same (lsub_same (lsub_same (lsub_same lsub_nil)))) ?_
    exact lp14 _ _ _  (Nat.lt_succ_self _) (by first | assumption | omega | decide) (by first | assumption | omega | decide) (by first | assumption | omega | decide) (by first | assumption | omega | decide)
  · refine Z_iconst (n := 9) dX4_count_8 rfl (by decide) ?_
    refine Z_iret dX4_count_9 rfl ?_
    exact ⟨rfl, rfl⟩
set_option maxRecDepth 20000 in
theorem zX4_support_s {G : tl_G} {M : zM} {J : zJ} {f : Int}  : ZN G yX4_support mX4_support 3 kAll [vR 31, vI f] F1 M J (qI (fun x M' J' => M' = M ∧ J' = J)) := by
  refine ZN_of (L := [_, _, _, _]) (by decide) rfl rfl (Nat.le_of_ble_eq_true rfl) rfl (fun hav => ?_)
  refine Z_aload_n (n := 1) dX4_support_0 rfl rfl ?_
  refine Z_iload_n (n := 2) dX4_support_1 rfl rfl ?_
  refine Z_callVi (n := 5) [_] _ dX4_support_2 rfl cwX4_223 rfl rfl rfl (Nat.le_of_ble_eq_true rfl) (by refine ⟨?_, ?_, ?_, ?_⟩ <;> exact Nat.le_of_ble_eq_true rfl) (fun _ h => h) (zX4_isFunction  ) ?_
  intro x2 M2 J2 z2 f2 q2
  obtain ⟨e2_1, e2_2, h2⟩ := q2
  replace e2_1 := e2_1.symm; subst e2_1
  replace e2_2 := e2_2.symm; subst e2_2
  refine Z_if_ne (n := 8) (t := 10) dX4_support_5 rfl (by decide) (fun c5 => ?_) (fun c5 => ?_)
  · refine Z_iconst (n := 11) dX4_support_10 rfl (by decide) ?_
    refine Z_istore_n (L' := [_, _, _, _]) (n := 12) dX4_support_11 rfl (by decide) rfl rfl ?_
    refine Z_iconst (n := 13) dX4_support_12 rfl (by decide) ?_
    refine Z_istore_n (L' := [_, _, _, _]) (n := 14) dX4_support_13 rfl (by decide) rfl rfl ?_
    have lp14 : ∀ (N14 : Nat) (n k : Int) , ((8 - k).toNat) < N14 → (0 ≤ k) → (k ≤ 8) → TZ G mX4_support (tl_rm 3 0 0) 0 0 kAll M J 14 [some (vR 31), some (vI f), some (vI n), some (vI k)] [] F1 M J (ZM G (zPost G kAll F1 M J (qI (fun x M' J' => M' = M ∧ J' = J))) 0 0) := by
      intro N14
      induction N14 with
      | zero => intro n k  hN; omega
      | succ N14 ih14 =>
        intro n k  hN14 i14_0 i14_1
        refine Z_iload_n (n := 15) dX4_support_14 rfl rfl ?_
        refine Z_bipush (n := 17) dX4_support_15 rfl (by decide) (by decide) ?_
        refine Z_icmp_ge (n := 20) (t := 50) dX4_support_17 rfl (by decide) (fun c17 => ?_) (fun c17 => ?_)
        · refine Z_iload_n (n := 51) dX4_support_50 rfl rfl ?_
          refine Z_iret dX4_support_51 rfl ?_
          exact ⟨rfl, rfl⟩
        · refine Z_iload_n (n := 21) dX4_support_20 rfl rfl ?_
          refine Z_aload_n (n := 22) dX4_support_21 rfl rfl ?_
          refine Z_iload_n (n := 23) dX4_support_22 rfl rfl ?_
          refine Z_iload_n (n := 24) dX4_support_23 rfl rfl ?_
          refine Z_callVi (n := 27) [_, _] _ dX4_support_24 rfl cwX4_243 rfl rfl rfl (Nat.le_of_ble_eq_true rfl) (by refine ⟨?_, ?_, ?_, ?_⟩ <;> exact Nat.le_of_ble_eq_true rfl) (fun _ h => h) (zX4_hangs  (by first | assumption | omega | decide) (by first | assumption | omega | decide) (by first | assumption | omega | decide) (by first | assumption | omega | decide)) ?_
          intro x24 M24 J24 z24 f24 q24
          obtain ⟨e24_1, e24_2, h24⟩ := q24
          replace e24_1 := e24_1.symm; subst e24_1
          replace e24_2 := e24_2.symm; subst e24_2
          refine Z_if_eq (n := 30) (t := 41) dX4_support_27 rfl (by decide) (fun c27 => ?_) (fun c27 => ?_)
          · refine Z_iconst (n := 42) dX4_support_41 rfl (by decide) ?_
            refine Z_ior (n := 43) dX4_support_42 rfl ?_
            refine Z_istore_n (L' := [_, _, _, _]) (n := 44) dX4_support_43 rfl (by decide) rfl rfl ?_
            refine Z_iinc (L' := [_, _, _, _]) (n := 47) dX4_support_44 rfl rfl (by decide) rfl rfl (by omega) rfl ?_
            refine Z_goto (t := 14) dX4_support_47 (by decide) ?_
            refine Z_loc (L' := [some _, some _, some _, some _]) (lsub_same (lsub_same (lsub_same (lsub_same lsub_nil)))) ?_
            exact ih14 _ _  (by omega) (by first | assumption | omega | decide) (by first | assumption | omega | decide)
          · refine Z_iconst (n := 31) dX4_support_30 rfl (by decide) ?_
            refine Z_aload_n (n := 32) dX4_support_31 rfl rfl ?_
            refine Z_getA (n := 35) dX4_support_32 rfl ffX4_29 rfl rfl ?_
            refine Z_iload_n (n := 36) dX4_support_35 rfl rfl ?_
            refine Z_iald (n := 37) dX4_support_36 rfl rfl rfl (by first | decide | assumption) (by omega) (by omega) (fun r36 s36 => ?_)
            refine Z_ishl (n := 38) dX4_support_37 rfl ?_
            refine Z_goto (t := 42) dX4_support_38 (by decide) ?_
            refine Z_ior (n := 43) dX4_support_42 rfl ?_
            refine Z_istore_n (L' := [_, _, _, _]) (n := 44) dX4_support_43 rfl (by decide) rfl rfl ?_
            refine Z_iinc (L' := [_, _, _, _]) (n := 47) dX4_support_44 rfl rfl (by decide) rfl rfl (by omega) rfl ?_
            refine Z_goto (t := 14) dX4_support_47 (by decide) ?_
            refine Z_loc (L' := [some _, some _, some _, some _]) (lsub_same (lsub_same (lsub_same (lsub_same lsub_nil)))) ?_
            exact ih14 _ _  (by omega) (by first | assumption | omega | decide) (by first | assumption | omega | decide)
    refine Z_loc (L' := [some _, some _, some _, some _]) (lsub_same (lsub_same (lsub_same (lsub_same lsub_nil)))) ?_
    exact lp14 _ _ _  (Nat.lt_succ_self _) (by first | assumption | omega | decide) (by first | assumption | omega | decide)
  · refine Z_iconst (n := 9) dX4_support_8 rfl (by decide) ?_
    refine Z_iret dX4_support_9 rfl ?_
    exact ⟨rfl, rfl⟩
set_option maxRecDepth 20000 in
theorem zX4_top_s {G : tl_G} {M : zM} {J : zJ} {f : Int}  : ZN G yX4_top mX4_top 3 kAll [vR 31, vI f] F1 M J (qI (fun x M' J' => M' = M ∧ J' = J)) := by
  refine ZN_of (L := [_, _, _]) (by decide) rfl rfl (Nat.le_of_ble_eq_true rfl) rfl (fun hav => ?_)
  refine Z_aload_n (n := 1) dX4_top_0 rfl rfl ?_
  refine Z_iload_n (n := 2) dX4_top_1 rfl rfl ?_
  refine Z_callVi (n := 5) [_] _ dX4_top_2 rfl cwX4_223 rfl rfl rfl (Nat.le_of_ble_eq_true rfl) (by refine ⟨?_, ?_, ?_, ?_⟩ <;> exact Nat.le_of_ble_eq_true rfl) (fun _ h => h) (zX4_isFunction  ) ?_
  intro x2 M2 J2 z2 f2 q2
  obtain ⟨e2_1, e2_2, h2⟩ := q2
  replace e2_1 := e2_1.symm; subst e2_1
  replace e2_2 := e2_2.symm; subst e2_2
  refine Z_if_ne (n := 8) (t := 10) dX4_top_5 rfl (by decide) (fun c5 => ?_) (fun c5 => ?_)
  · refine Z_iconst (n := 11) dX4_top_10 rfl (by decide) ?_
    refine Z_istore_n (L' := [_, _, _]) (n := 12) dX4_top_11 rfl (by decide) rfl rfl ?_
    have lp12 : ∀ (N12 : Nat) (k : Int) , ((8 - k).toNat) < N12 → (0 ≤ k) → (k ≤ 8) → TZ G mX4_top (tl_rm 3 0 0) 0 0 kAll M J 12 [some (vR 31), some (vI f), some (vI k)] [] F1 M J (ZM G (zPost G kAll F1 M J (qI (fun x M' J' => M' = M ∧ J' = J))) 0 0) := by
      intro N12
      induction N12 with
      | zero => intro k  hN; omega
      | succ N12 ih12 =>
        intro k  hN12 i12_0 i12_1
        refine Z_iload_n (n := 13) dX4_top_12 rfl rfl ?_
        refine Z_bipush (n := 15) dX4_top_13 rfl (by decide) (by decide) ?_
        refine Z_icmp_ge (n := 18) (t := 40) dX4_top_15 rfl (by decide) (fun c15 => ?_) (fun c15 => ?_)
        · refine Z_bipush (n := 42) dX4_top_40 rfl (by decide) (by decide) ?_
          refine Z_iret dX4_top_42 rfl ?_
          exact ⟨rfl, rfl⟩
        · refine Z_aload_n (n := 19) dX4_top_18 rfl rfl ?_
          refine Z_iload_n (n := 20) dX4_top_19 rfl rfl ?_
          refine Z_iload_n (n := 21) dX4_top_20 rfl rfl ?_
          refine Z_callVi (n := 24) [_, _] _ dX4_top_21 rfl cwX4_243 rfl rfl rfl (Nat.le_of_ble_eq_true rfl) (by refine ⟨?_, ?_, ?_, ?_⟩ <;> exact Nat.le_of_ble_eq_true rfl) (fun _ h => h) (zX4_hangs  (by first | assumption | omega | decide) (by first | assumption | omega | decide) (by first | assumption | omega | decide) (by first | assumption | omega | decide)) ?_
          intro x21 M21 J21 z21 f21 q21
          obtain ⟨e21_1, e21_2, h21⟩ := q21
          replace e21_1 := e21_1.symm; subst e21_1
          replace e21_2 := e21_2.symm; subst e21_2
          refine Z_if_eq (n := 27) (t := 34) dX4_top_24 rfl (by decide) (fun c24 => ?_) (fun c24 => ?_)
          · refine Z_iinc (L' := [_, _, _]) (n := 37) dX4_top_34 rfl rfl (by decide) rfl rfl (by omega) rfl ?_
            refine Z_goto (t := 12) dX4_top_37 (by decide) ?_
            refine Z_loc (L' := [some _, some _, some _]) (lsub_same (lsub_same (lsub_same lsub_nil))) ?_
            exact ih12 _  (by omega) (by first | assumption | omega | decide) (by first | assumption | omega | decide)
          · refine Z_aload_n (n := 28) dX4_top_27 rfl rfl ?_
            refine Z_getA (n := 31) dX4_top_28 rfl ffX4_29 rfl rfl ?_
            refine Z_iload_n (n := 32) dX4_top_31 rfl rfl ?_
            refine Z_iald (n := 33) dX4_top_32 rfl rfl rfl (by first | decide | assumption) (by omega) (by omega) (fun r32 s32 => ?_)
            refine Z_iret dX4_top_33 rfl ?_
            exact ⟨rfl, rfl⟩
    refine Z_loc (L' := [some _, some _, some _]) (lsub_same (lsub_same (lsub_same lsub_nil))) ?_
    exact lp12 _ _  (Nat.lt_succ_self _) (by first | assumption | omega | decide) (by first | assumption | omega | decide)
  · refine Z_iconst (n := 9) dX4_top_8 rfl (by decide) ?_
    refine Z_iret dX4_top_9 rfl ?_
    exact ⟨rfl, rfl⟩
set_option maxRecDepth 20000 in
theorem zX4_level_s {G : tl_G} {M : zM} {J : zJ} {f v : Int}  : ZN G yX4_level mX4_level 3 kAll [vR 31, vI f, vI v] F1 M J (qI (fun x M' J' => M' = M ∧ J' = J)) := by
  refine ZN_of (L := [_, _, _, _, _]) (by decide) rfl rfl (Nat.le_of_ble_eq_true rfl) rfl (fun hav => ?_)
  refine Z_aload_n (n := 1) dX4_level_0 rfl rfl ?_
  refine Z_iload_n (n := 2) dX4_level_1 rfl rfl ?_
  refine Z_callVi (n := 5) [_] _ dX4_level_2 rfl cwX4_223 rfl rfl rfl (Nat.le_of_ble_eq_true rfl) (by refine ⟨?_, ?_, ?_, ?_⟩ <;> exact Nat.le_of_ble_eq_true rfl) (fun _ h => h) (zX4_isFunction  ) ?_
  intro x2 M2 J2 z2 f2 q2
  obtain ⟨e2_1, e2_2, h2⟩ := q2
  replace e2_1 := e2_1.symm; subst e2_1
  replace e2_2 := e2_2.symm; subst e2_2
  refine Z_if_ne (n := 8) (t := 10) dX4_level_5 rfl (by decide) (fun c5 => ?_) (fun c5 => ?_)
  · refine Z_iload_n (n := 11) dX4_level_10 rfl rfl ?_
    refine Z_iconst (n := 12) dX4_level_11 rfl (by decide) ?_
    refine Z_bipush (n := 14) dX4_level_12 rfl (by decide) (by decide) ?_
    refine Z_callSi (n := 17) [_, _, _] _ dX4_level_14 rfl cwX4_112 rfl rfl (Nat.le_of_ble_eq_true rfl) (by refine ⟨?_, ?_, ?_, ?_⟩ <;> exact Nat.le_of_ble_eq_true rfl) (fun _ h => h) (zX4_in  ) ?_
    intro x14 M14 J14 z14 f14 q14
    obtain ⟨e14_1, e14_2, h14⟩ := q14
    replace e14_1 := e14_1.symm; subst e14_1
    replace e14_2 := e14_2.symm; subst e14_2
    refine Z_if_ne (n := 20) (t := 23) dX4_level_17 rfl (by decide) (fun c17 => ?_) (fun c17 => ?_)
    · refine Z_iconst (n := 24) dX4_level_23 rfl (by decide) ?_
      refine Z_istore_n (L' := [_, _, _, _, _]) (n := 25) dX4_level_24 rfl (by decide) rfl rfl ?_
      refine Z_iconst (n := 26) dX4_level_25 rfl (by decide) ?_
      refine Z_istore (L' := [_, _, _, _, _]) (n := 28) dX4_level_26 rfl (by decide) rfl rfl ?_
      have lp28 : ∀ (N28 : Nat) (n k : Int) , ((255 - k).toNat) < N28 → (0 ≤ k) → (k ≤ 255) → (0 ≤ n) → (n ≤ k) → TZ G mX4_level (tl_rm 3 0 0) 0 0 kAll M J 28 [some (vR 31), some (vI f), some (vI v), some (vI n), some (vI k)] [] F1 M J (ZM G (zPost G kAll F1 M J (qI (fun x M' J' => M' = M ∧ J' = J))) 0 0) := by
        intro N28
        induction N28 with
        | zero => intro n k  hN; omega
        | succ N28 ih28 =>
          intro n k  hN28 i28_0 i28_1 i28_2 i28_3
          refine Z_iload (n := 30) dX4_level_28 rfl rfl ?_
          refine Z_aload_n (n := 31) dX4_level_30 rfl rfl ?_
          refine Z_getA (n := 34) dX4_level_31 rfl ffX4_51 rfl rfl ?_
          refine Z_iload_n (n := 35) dX4_level_34 rfl rfl ?_
          refine Z_iald (n := 36) dX4_level_35 rfl rfl rfl (by first | decide | assumption) (by omega) (by omega) (fun r35 s35 => ?_)
          refine Z_icmp_ge (n := 39) (t := 80) dX4_level_36 rfl (by decide) (fun c36 => ?_) (fun c36 => ?_)
          · refine Z_iload_n (n := 81) dX4_level_80 rfl rfl ?_
            refine Z_iret dX4_level_81 rfl ?_
            exact ⟨rfl, rfl⟩
          · refine Z_iload_n (n := 40) dX4_level_39 rfl rfl ?_
            refine Z_aload_n (n := 41) dX4_level_40 rfl rfl ?_
            refine Z_getA (n := 44) dX4_level_41 rfl ffX4_57 rfl rfl ?_
            refine Z_aload_n (n := 45) dX4_level_44 rfl rfl ?_
            refine Z_getA (n := 48) dX4_level_45 rfl ffX4_54 rfl rfl ?_
            refine Z_sipush (n := 51) dX4_level_48 rfl (by decide) (by decide) ?_
            refine Z_iload_n (n := 52) dX4_level_51 rfl rfl ?_
            refine Z_imul (n := 53) dX4_level_52 rfl (by omega) ?_
            refine Z_iload (n := 55) dX4_level_53 rfl rfl ?_
            refine Z_iadd (n := 56) dX4_level_55 rfl (by omega) ?_
            refine Z_iald (n := 57) dX4_level_56 rfl rfl rfl (by first | decide | assumption) (by omega) (by omega) (fun r56 s56 => ?_)
            refine Z_iald (n := 58) dX4_level_57 rfl rfl rfl (by first | decide | assumption) (by omega) (by omega) (fun r57 s57 => ?_)
            refine Z_aload_n (n := 59) dX4_level_58 rfl rfl ?_
            refine Z_getA (n := 62) dX4_level_59 rfl ffX4_32 rfl rfl ?_
            refine Z_iload_n (n := 63) dX4_level_62 rfl rfl ?_
            refine Z_iald (n := 64) dX4_level_63 rfl rfl rfl (by first | decide | assumption) (by omega) (by omega) (fun r63 s63 => ?_)
            refine Z_icmp_ne (n := 67) (t := 71) dX4_level_64 rfl (by decide) (fun c64 => ?_) (fun c64 => ?_)
            · refine Z_iconst (n := 72) dX4_level_71 rfl (by decide) ?_
              refine Z_iadd (n := 73) dX4_level_72 rfl (by omega) ?_
              refine Z_istore_n (L' := [_, _, _, _, _]) (n := 74) dX4_level_73 rfl (by decide) rfl rfl ?_
              refine Z_iinc (L' := [_, _, _, _, _]) (n := 77) dX4_level_74 rfl rfl (by decide) rfl rfl (by omega) rfl ?_
              refine Z_goto (t := 28) dX4_level_77 (by decide) ?_
              refine Z_loc (L' := [some _, some _, some _, some _, some _]) (lsub_same (lsub_same (lsub_same (lsub_same (lsub_same lsub_nil))))) ?_
              exact ih28 _ _  (by omega) (by first | assumption | omega | decide) (by first | assumption | omega | decide) (by first | assumption | omega | decide) (by first | assumption | omega | decide)
            · refine Z_iconst (n := 68) dX4_level_67 rfl (by decide) ?_
              refine Z_goto (t := 72) dX4_level_68 (by decide) ?_
              refine Z_iadd (n := 73) dX4_level_72 rfl (by omega) ?_
              refine Z_istore_n (L' := [_, _, _, _, _]) (n := 74) dX4_level_73 rfl (by decide) rfl rfl ?_
              refine Z_iinc (L' := [_, _, _, _, _]) (n := 77) dX4_level_74 rfl rfl (by decide) rfl rfl (by omega) rfl ?_
              refine Z_goto (t := 28) dX4_level_77 (by decide) ?_
              refine Z_loc (L' := [some _, some _, some _, some _, some _]) (lsub_same (lsub_same (lsub_same (lsub_same (lsub_same lsub_nil))))) ?_
              exact ih28 _ _  (by omega) (by first | assumption | omega | decide) (by first | assumption | omega | decide) (by first | assumption | omega | decide) (by first | assumption | omega | decide)
      refine Z_loc (L' := [some _, some _, some _, some _, some _]) (lsub_same (lsub_same (lsub_same (lsub_same (lsub_same lsub_nil))))) ?_
      exact lp28 _ _ _  (Nat.lt_succ_self _) (by first | assumption | omega | decide) (by first | assumption | omega | decide) (by first | assumption | omega | decide) (by first | assumption | omega | decide)
    · refine Z_bipush (n := 22) dX4_level_20 rfl (by decide) (by decide) ?_
      refine Z_iret dX4_level_22 rfl ?_
      exact ⟨rfl, rfl⟩
  · refine Z_iconst (n := 9) dX4_level_8 rfl (by decide) ?_
    refine Z_iret dX4_level_9 rfl ?_
    exact ⟨rfl, rfl⟩
set_option maxRecDepth 20000 in
theorem zX4_least_s {G : tl_G} {M : zM} {J : zJ} {f y : Int}  : ZN G yX4_least mX4_least 3 kAll [vR 31, vI f, vI y] F1 M J (qI (fun x M' J' => M' = M ∧ J' = J)) := by
  refine ZN_of (L := [_, _, _, _]) (by decide) rfl rfl (Nat.le_of_ble_eq_true rfl) rfl (fun hav => ?_)
  refine Z_aload_n (n := 1) dX4_least_0 rfl rfl ?_
  refine Z_iload_n (n := 2) dX4_least_1 rfl rfl ?_
  refine Z_callVi (n := 5) [_] _ dX4_least_2 rfl cwX4_223 rfl rfl rfl (Nat.le_of_ble_eq_true rfl) (by refine ⟨?_, ?_, ?_, ?_⟩ <;> exact Nat.le_of_ble_eq_true rfl) (fun _ h => h) (zX4_isFunction  ) ?_
  intro x2 M2 J2 z2 f2 q2
  obtain ⟨e2_1, e2_2, h2⟩ := q2
  replace e2_1 := e2_1.symm; subst e2_1
  replace e2_2 := e2_2.symm; subst e2_2
  refine Z_if_ne (n := 8) (t := 10) dX4_least_5 rfl (by decide) (fun c5 => ?_) (fun c5 => ?_)
  · refine Z_aload_n (n := 11) dX4_least_10 rfl rfl ?_
    refine Z_iload_n (n := 12) dX4_least_11 rfl rfl ?_
    refine Z_iload_n (n := 13) dX4_least_12 rfl rfl ?_
    refine Z_callVi (n := 16) [_, _] _ dX4_least_13 rfl cwX4_246 rfl rfl rfl (Nat.le_of_ble_eq_true rfl) (by refine ⟨?_, ?_, ?_, ?_⟩ <;> exact Nat.le_of_ble_eq_true rfl) (fun _ h => h) (zX4_leastOf  (by first | assumption | omega | decide) (by first | assumption | omega | decide)) ?_
    intro x13 M13 J13 z13 f13 q13
    obtain ⟨e13_1, e13_2, h13⟩ := q13
    replace e13_1 := e13_1.symm; subst e13_1
    replace e13_2 := e13_2.symm; subst e13_2
    refine Z_istore_n (L' := [_, _, _, _]) (n := 17) dX4_least_16 rfl (by decide) rfl rfl ?_
    refine Z_iload_n (n := 18) dX4_least_17 rfl rfl ?_
    refine Z_if_ge (n := 21) (t := 26) dX4_least_18 rfl (by decide) (fun c18 => ?_) (fun c18 => ?_)
    · refine Z_aload_n (n := 27) dX4_least_26 rfl rfl ?_
      refine Z_iload_n (n := 28) dX4_least_27 rfl rfl ?_
      refine Z_callVi (n := 31) [_] _ dX4_least_28 rfl cwX4_250 rfl rfl rfl (Nat.le_of_ble_eq_true rfl) (by refine ⟨?_, ?_, ?_, ?_⟩ <;> exact Nat.le_of_ble_eq_true rfl) (fun _ h => h) (zX4_assignmentAt  ) ?_
      intro x28 M28 J28 z28 f28 q28
      obtain ⟨e28_1, e28_2, h28⟩ := q28
      replace e28_1 := e28_1.symm; subst e28_1
      replace e28_2 := e28_2.symm; subst e28_2
      refine Z_iret dX4_least_31 rfl ?_
      exact ⟨rfl, rfl⟩
    · refine Z_bipush (n := 23) dX4_least_21 rfl (by decide) (by decide) ?_
      refine Z_goto (t := 31) dX4_least_23 (by decide) ?_
      refine Z_iret dX4_least_31 rfl ?_
      exact ⟨rfl, rfl⟩
  · refine Z_iconst (n := 9) dX4_least_8 rfl (by decide) ?_
    refine Z_iret dX4_least_9 rfl ?_
    exact ⟨rfl, rfl⟩
set_option maxRecDepth 20000 in
theorem zX4_nodes_s {G : tl_G} {M : zM} {J : zJ} {f : Int}  : ZN G yX4_nodes mX4_nodes 3 kAll [vR 31, vI f] F1 M J (qI (fun x M' J' => M' = M ∧ J' = J)) := by
  refine ZN_of (L := [_, _]) (by decide) rfl rfl (Nat.le_of_ble_eq_true rfl) rfl (fun hav => ?_)
  refine Z_aload_n (n := 1) dX4_nodes_0 rfl rfl ?_
  refine Z_iload_n (n := 2) dX4_nodes_1 rfl rfl ?_
  refine Z_callVi (n := 5) [_] _ dX4_nodes_2 rfl cwX4_223 rfl rfl rfl (Nat.le_of_ble_eq_true rfl) (by refine ⟨?_, ?_, ?_, ?_⟩ <;> exact Nat.le_of_ble_eq_true rfl) (fun _ h => h) (zX4_isFunction  ) ?_
  intro x2 M2 J2 z2 f2 q2
  obtain ⟨e2_1, e2_2, h2⟩ := q2
  replace e2_1 := e2_1.symm; subst e2_1
  replace e2_2 := e2_2.symm; subst e2_2
  refine Z_if_eq (n := 8) (t := 17) dX4_nodes_5 rfl (by decide) (fun c5 => ?_) (fun c5 => ?_)
  · refine Z_iconst (n := 18) dX4_nodes_17 rfl (by decide) ?_
    refine Z_iret dX4_nodes_18 rfl ?_
    exact ⟨rfl, rfl⟩
  · refine Z_aload_n (n := 9) dX4_nodes_8 rfl rfl ?_
    refine Z_getA (n := 12) dX4_nodes_9 rfl ffX4_51 rfl rfl ?_
    refine Z_iload_n (n := 13) dX4_nodes_12 rfl rfl ?_
    refine Z_iald (n := 14) dX4_nodes_13 rfl rfl rfl (by first | decide | assumption) (by omega) (by omega) (fun r13 s13 => ?_)
    refine Z_goto (t := 18) dX4_nodes_14 (by decide) ?_
    refine Z_iret dX4_nodes_18 rfl ?_
    exact ⟨rfl, rfl⟩
set_option maxRecDepth 20000 in
theorem zX4_common_s {G : tl_G} {M : zM} {J : zJ} {f g : Int}  : ZN G yX4_common mX4_common 3 kAll [vR 31, vI f, vI g] F1 M J (qI (fun x M' J' => M' = M ∧ J' = J)) := by
  refine ZN_of (L := [_, _, _, _, _, _]) (by decide) rfl rfl (Nat.le_of_ble_eq_true rfl) rfl (fun hav => ?_)
  refine Z_aload_n (n := 1) dX4_common_0 rfl rfl ?_
  refine Z_iload_n (n := 2) dX4_common_1 rfl rfl ?_
  refine Z_callVi (n := 5) [_] _ dX4_common_2 rfl cwX4_223 rfl rfl rfl (Nat.le_of_ble_eq_true rfl) (by refine ⟨?_, ?_, ?_, ?_⟩ <;> exact Nat.le_of_ble_eq_true rfl) (fun _ h => h) (zX4_isFunction  ) ?_
  intro x2 M2 J2 z2 f2 q2
  obtain ⟨e2_1, e2_2, h2⟩ := q2
  replace e2_1 := e2_1.symm; subst e2_1
  replace e2_2 := e2_2.symm; subst e2_2
  refine Z_if_eq (n := 8) (t := 16) dX4_common_5 rfl (by decide) (fun c5 => ?_) (fun c5 => ?_)
  · refine Z_iconst (n := 17) dX4_common_16 rfl (by decide) ?_
    refine Z_iret dX4_common_17 rfl ?_
    exact ⟨rfl, rfl⟩
  · refine Z_aload_n (n := 9) dX4_common_8 rfl rfl ?_
    refine Z_iload_n (n := 10) dX4_common_9 rfl rfl ?_
    refine Z_callVi (n := 13) [_] _ dX4_common_10 rfl cwX4_223 rfl rfl rfl (Nat.le_of_ble_eq_true rfl) (by refine ⟨?_, ?_, ?_, ?_⟩ <;> exact Nat.le_of_ble_eq_true rfl) (fun _ h => h) (zX4_isFunction  ) ?_
    intro x10 M10 J10 z10 f10 q10
    obtain ⟨e10_1, e10_2, h10⟩ := q10
    replace e10_1 := e10_1.symm; subst e10_1
    replace e10_2 := e10_2.symm; subst e10_2
    refine Z_if_ne (n := 16) (t := 18) dX4_common_13 rfl (by decide) (fun c13 => ?_) (fun c13 => ?_)
    · refine Z_iconst (n := 19) dX4_common_18 rfl (by decide) ?_
      refine Z_istore_n (L' := [_, _, _, _, _, _]) (n := 20) dX4_common_19 rfl (by decide) rfl rfl ?_
      refine Z_iconst (n := 21) dX4_common_20 rfl (by decide) ?_
      refine Z_istore (L' := [_, _, _, _, _, _]) (n := 23) dX4_common_21 rfl (by decide) rfl rfl ?_
      have lp23 : ∀ (N23 : Nat) (n i : Int) , ((255 - i).toNat) < N23 → (0 ≤ i) → (i ≤ 255) → (0 ≤ n) → (n ≤ 255 * i) → TZ G mX4_common (tl_rm 3 0 0) 0 0 kAll M J 23 [some (vR 31), some (vI f), some (vI g), some (vI n), some (vI i), none] [] F1 M J (ZM G (zPost G kAll F1 M J (qI (fun x M' J' => M' = M ∧ J' = J))) 0 0) := by
        intro N23
        induction N23 with
        | zero => intro n i  hN; omega
        | succ N23 ih23 =>
          intro n i  hN23 i23_0 i23_1 i23_2 i23_3
          refine Z_iload (n := 25) dX4_common_23 rfl rfl ?_
          refine Z_aload_n (n := 26) dX4_common_25 rfl rfl ?_
          refine Z_getA (n := 29) dX4_common_26 rfl ffX4_51 rfl rfl ?_
          refine Z_iload_n (n := 30) dX4_common_29 rfl rfl ?_
          refine Z_iald (n := 31) dX4_common_30 rfl rfl rfl (by first | decide | assumption) (by omega) (by omega) (fun r30 s30 => ?_)
          refine Z_icmp_ge (n := 34) (t := 97) dX4_common_31 rfl (by decide) (fun c31 => ?_) (fun c31 => ?_)
          · refine Z_iload_n (n := 98) dX4_common_97 rfl rfl ?_
            refine Z_iret dX4_common_98 rfl ?_
            exact ⟨rfl, rfl⟩
          · refine Z_iconst (n := 35) dX4_common_34 rfl (by decide) ?_
            refine Z_istore (L' := [_, _, _, _, _, _]) (n := 37) dX4_common_35 rfl (by decide) rfl rfl ?_
            have lp37 : ∀ (N37 : Nat) (n j : Int) , ((255 - j).toNat) < N37 → (0 ≤ j) → (j ≤ 255) → (0 ≤ n) → (n ≤ 255 * i + j) → TZ G mX4_common (tl_rm 3 0 0) 0 0 kAll M J 37 [some (vR 31), some (vI f), some (vI g), some (vI n), some (vI i), some (vI j)] [] F1 M J (ZM G (zPost G kAll F1 M J (qI (fun x M' J' => M' = M ∧ J' = J))) 0 0) := by
              intro N37
              induction N37 with
              | zero => intro n j  hN; omega
              | succ N37 ih37 =>
                intro n j  hN37 i37_0 i37_1 i37_2 i37_3
                refine Z_iload (n := 39) dX4_common_37 rfl rfl ?_
                refine Z_aload_n (n := 40) dX4_common_39 rfl rfl ?_
                refine Z_getA (n := 43) dX4_common_40 rfl ffX4_51 rfl rfl ?_
                refine Z_iload_n (n := 44) dX4_common_43 rfl rfl ?_
                refine Z_iald (n := 45) dX4_common_44 rfl rfl rfl (by first | decide | assumption) (by omega) (by omega) (fun r44 s44 => ?_)
                refine Z_icmp_ge (n := 48) (t := 91) dX4_common_45 rfl (by decide) (fun c45 => ?_) (fun c45 => ?_)
                · refine Z_iinc (L' := [_, _, _, _, _, _]) (n := 94) dX4_common_91 rfl rfl (by decide) rfl rfl (by omega) rfl ?_
                  refine Z_goto (t := 23) dX4_common_94 (by decide) ?_
                  refine Z_loc (L' := [some _, some _, some _, some _, some _, none]) (lsub_same (lsub_same (lsub_same (lsub_same (lsub_same (lsub_none lsub_nil)))))) ?_
                  exact ih23 _ _  (by omega) (by first | assumption | omega | decide) (by first | assumption | omega | decide) (by first | assumption | omega | decide) (by first | assumption | omega | decide)
                · refine Z_iload_n (n := 49) dX4_common_48 rfl rfl ?_
                  refine Z_aload_n (n := 50) dX4_common_49 rfl rfl ?_
                  refine Z_getA (n := 53) dX4_common_50 rfl ffX4_54 rfl rfl ?_
                  refine Z_sipush (n := 56) dX4_common_53 rfl (by decide) (by decide) ?_
                  refine Z_iload_n (n := 57) dX4_common_56 rfl rfl ?_
                  refine Z_imul (n := 58) dX4_common_57 rfl (by omega) ?_
                  refine Z_iload (n := 60) dX4_common_58 rfl rfl ?_
                  refine Z_iadd (n := 61) dX4_common_60 rfl (by omega) ?_
                  refine Z_iald (n := 62) dX4_common_61 rfl rfl rfl (by first | decide | assumption) (by omega) (by omega) (fun r61 s61 => ?_)
                  refine Z_aload_n (n := 63) dX4_common_62 rfl rfl ?_
                  refine Z_getA (n := 66) dX4_common_63 rfl ffX4_54 rfl rfl ?_
                  refine Z_sipush (n := 69) dX4_common_66 rfl (by decide) (by decide) ?_
                  refine Z_iload_n (n := 70) dX4_common_69 rfl rfl ?_
                  refine Z_imul (n := 71) dX4_common_70 rfl (by omega) ?_
                  refine Z_iload (n := 73) dX4_common_71 rfl rfl ?_
                  refine Z_iadd (n := 74) dX4_common_73 rfl (by omega) ?_
                  refine Z_iald (n := 75) dX4_common_74 rfl rfl rfl (by first | decide | assumption) (by omega) (by omega) (fun r74 s74 => ?_)
                  refine Z_icmp_ne (n := 78) (t := 82) dX4_common_75 rfl (by decide) (fun c75 => ?_) (fun c75 => ?_)
                  · refine Z_iconst (n := 83) dX4_common_82 rfl (by decide) ?_
                    refine Z_iadd (n := 84) dX4_common_83 rfl (by omega) ?_
                    refine Z_istore_n (L' := [_, _, _, _, _, _]) (n := 85) dX4_common_84 rfl (by decide) rfl rfl ?_
                    refine Z_iinc (L' := [_, _, _, _, _, _]) (n := 88) dX4_common_85 rfl rfl (by decide) rfl rfl (by omega) rfl ?_
                    refine Z_goto (t := 37) dX4_common_88 (by decide) ?_
                    refine Z_loc (L' := [some _, some _, some _, some _, some _, some _]) (lsub_same (lsub_same (lsub_same (lsub_same (lsub_same (lsub_same lsub_nil)))))) ?_
                    exact ih37 _ _  (by omega) (by first | assumption | omega | decide) (by first | assumption | omega | decide) (by first | assumption | omega | decide) (by first | assumption | omega | decide)
                  · refine Z_iconst (n := 79) dX4_common_78 rfl (by decide) ?_
                    refine Z_goto (t := 83) dX4_common_79 (by decide) ?_
                    refine Z_iadd (n := 84) dX4_common_83 rfl (by omega) ?_
                    refine Z_istore_n (L' := [_, _, _, _, _, _]) (n := 85) dX4_common_84 rfl (by decide) rfl rfl ?_
                    refine Z_iinc (L' := [_, _, _, _, _, _]) (n := 88) dX4_common_85 rfl rfl (by decide) rfl rfl (by omega) rfl ?_
                    refine Z_goto (t := 37) dX4_common_88 (by decide) ?_
                    refine Z_loc (L' := [some _, some _, some _, some _, some _, some _]) (lsub_same (lsub_same (lsub_same (lsub_same (lsub_same (lsub_same lsub_nil)))))) ?_
                    exact ih37 _ _  (by omega) (by first | assumption | omega | decide) (by first | assumption | omega | decide) (by first | assumption | omega | decide) (by first | assumption | omega | decide)
            refine Z_loc (L' := [some _, some _, some _, some _, some _, some _]) (lsub_same (lsub_same (lsub_same (lsub_same (lsub_same (lsub_same lsub_nil)))))) ?_
            exact lp37 _ _ _  (Nat.lt_succ_self _) (by first | assumption | omega | decide) (by first | assumption | omega | decide) (by first | assumption | omega | decide) (by first | assumption | omega | decide)
      refine Z_loc (L' := [some _, some _, some _, some _, some _, none]) (lsub_same (lsub_same (lsub_same (lsub_same (lsub_same (lsub_none lsub_nil)))))) ?_
      exact lp23 _ _ _  (Nat.lt_succ_self _) (by first | assumption | omega | decide) (by first | assumption | omega | decide) (by first | assumption | omega | decide) (by first | assumption | omega | decide)
    · refine Z_iconst (n := 17) dX4_common_16 rfl (by decide) ?_
      refine Z_iret dX4_common_17 rfl ?_
      exact ⟨rfl, rfl⟩
abbrev kWy (a : Nat) : Prop := ¬ a = 53 ∧ ¬ a = 57
end
section
/-! ===== the reference: its face ===== -/
/-- the reference between two calls -/
def RI (M : zM) (J : zJ) : Prop := TI M J ∧ hnd0 M ∧ M 31 24 ≤ M 31 8 ∧ rOrd M ∧ ∀ net : Int, 0 ≤ net → net < 3 → rNt M net
theorem RI_mk {M M' : zM} {J J' : zJ} (hr : RI M J) (fr : ∀ a, kRg a → M' a = M a ∧ J' a = J a) (ti : TI M' J') (hn : hnd0 M') (hu : M' 31 24 ≤ M' 31 8) : RI M' J' := by
  refine ⟨ti, hn, hu, ?_, fun net a b => rNt_fr (hr.2.2.2.2 net a b) (fr 32 (by decide)).1 (fr 33 (by decide)).1 (fr 34 (by decide)).1 (fr 35 (by decide)).1 (fr 36 (by decide)).1⟩
  unfold rOrd
  rw [(fr 39 (by decide)).1]
  exact hr.2.2.2.1
/-- what is in use hangs on the handles alone -/
theorem use_det {M M' : zM} {J J' : zJ} (h : TI M J) (h' : TI M' J') (hn : hnd0 M) (hn' : hnd0 M') (hd : hdl M M') (hok : zOK M) : M' 31 24 = M 31 24 := by
  obtain ⟨⟨ch, fl, t1⟩, t2, -⟩ := h
  obtain ⟨⟨ch', fl', t1'⟩, t2', -⟩ := h'
  rw [t1.2.2.2, t1'.2.2.2]
  refine hr_congr (fun n n0 n1 => ?_)
  rw [t2.1 n n0 (by omega), t2'.1 n n0 (by omega)]
  have e : cfn M' lo0 n 56 = cfn M lo0 n 56 := by
    refine cfn_congr (fun g g0 g1 => ?_)
    by_cases q : g < 12
    · have z := hd.1 g q
      rw [z.2]
      refine and_congr Iff.rfl ?_
      unfold inS
      rw [z.1]
      constructor
      · rintro ⟨j, a, b, c⟩
        have w : 0 ≤ M 45 g ∧ M 45 g ≤ 255 := hok 45 g
        have j0 : 0 ≤ j := a
        exact ⟨j, a, b, by rw [← hd.2.1 _ (by omega)]; exact c⟩
      · rintro ⟨j, a, b, c⟩
        have w : 0 ≤ M 45 g ∧ M 45 g ≤ 255 := hok 45 g
        have j0 : 0 ≤ j := a
        exact ⟨j, a, b, by rw [hd.2.1 _ (by omega)]; exact c⟩
    · constructor
      · rintro ⟨a, -⟩; exact absurd (hn' g (by omega) (by omega)) a
      · rintro ⟨a, -⟩; exact absurd (hn g (by omega) (by omega)) a
  rw [e]
/-- behind gets -/
theorem RI_gets {M M1 M' : zM} {J J1 J' : zJ} {h f y x : Int} (hr : RI M J) (hok : zOK M) (hd : hdl M M1) (hu : y = 1 → M1 31 24 ≤ M1 31 8) (fr : ∀ a, kRg a → M' a = M a ∧ J' a = J a) (ti : TI M' J') (hn : hnd0 M') (gx : (y = 0 ∧ x = -5 ∧ hdl M1 M' ∧ J' 44 = J1 44) ∨ (y = 1 ∧ x = M' 45 h ∧ ¬ M' 43 h = 0 ∧ M' 31 24 ≤ M1 31 24 ∧ hdx M1 M' h ∧ (∀ k : Int, 0 ≤ k → k < 4 → J' 44 (4 * h + k) = J1 44 (4 * f + k)) ∧ ∀ j : Int, (j < 4 * h ∨ 4 * h + 4 ≤ j) → J' 44 j = J1 44 j)) : RI M' J' := by
  refine RI_mk hr fr ti hn ?_
  rcases gx with ⟨-, -, q, -⟩ | ⟨e, -, -, q, q2, -⟩
  · have z := hdl_t hd q
    rw [use_det hr.1 ti hr.2.1 hn z hok, z.2.2 8 (by decide) (by decide) (by decide) (by decide)]
    exact hr.2.2.1
  · have := hu e
    rw [q2.2 8 (by decide) (by decide) (by decide) (by decide)]
    omega
theorem begin_ok {M : zM} {J : zJ} (hr : RI M J) : TI (uz M 31 25 0) J ∧ hnd0 (uz M 31 25 0) ∧ uz M 31 25 0 31 24 ≤ uz M 31 25 0 31 8 ∧ uz M 31 25 0 31 27 = M 31 27 ∧ hdl M (uz M 31 25 0) ∧ rOrd (uz M 31 25 0) := by
  refine ⟨TI_31 hr.1 (by decide) (by decide) (by decide), fun g a b => by rw [uz_oo (by decide)]; exact hr.2.1 g a b, by rw [uz_n (by decide), uz_n (by decide)]; exact hr.2.2.1, by rw [uz_n (by decide)], ⟨fun g _ => by rw [uz_oo (by decide), uz_oo (by decide)]; exact ⟨rfl, rfl⟩, fun j _ => by rw [uz_oo (by decide)], fun j _ _ c _ => by rw [uz_n c]⟩, ?_⟩
  unfold rOrd
  rw [uz_o (by decide)]
  exact hr.2.2.2.1
end
section
/-! ===== the reference: equal, gives ===== -/
theorem TI_cg {M M' : zM} {J J' : zJ} (h : TI M J) (o : ∀ a : Nat, 43 ≤ a → a ≤ 52 → M' a = M a) (e23 : M' 31 23 = M 31 23) (e24 : M' 31 24 = M 31 24) (e27 : M' 31 27 = M 31 27) (j44 : J' 44 = J 44) (j48 : J' 48 = J 48) : TI M' J' := by
  have e43 := o 43 (by omega) (by omega)
  have e45 := o 45 (by omega) (by omega)
  have e46 := o 46 (by omega) (by omega)
  have e47 := o 47 (by omega) (by omega)
  have e49 := o 49 (by omega) (by omega)
  have e50 := o 50 (by omega) (by omega)
  have e51 := o 51 (by omega) (by omega)
  have e52 := o 52 (by omega) (by omega)
  obtain ⟨⟨ch, fl, t1⟩, t2, t3, t4, tu⟩ := h
  refine ⟨⟨ch, fl, ?_⟩, ⟨fun n n0 n1 => ?_, fun g g0 g1 => ?_⟩, fun g g0 g1 hg => ?_, fun n n0 n1 => ?_, tabU_mv tu (fun m hm => by rw [e49] at hm; exact hm) e47 j48⟩
  · refine tabA_J j48 ?_
    unfold tabA
    rw [e47, e49, e50, e51, e23, e24]
    exact t1
  · rw [e49, t2.1 n n0 n1]
    exact cfn_congr (fun g _ _ => by unfold inS; rw [e43, e45, e46])
  · rw [e43, e45, e46]; exact t2.2 g g0 g1
  · rw [e43] at hg
    exact tabC_mv (t3 g g0 g1 hg) (by rw [e45]) e46 e47 j48 j44
  · rw [e52, e27]; exact t4 n n0 n1
def cmF (k a b : Int) : Int := if k = 1 then 0 else if k = 2 then 1 else if k = 3 then 1 - a else if k = 4 then (if a = 0 then 0 else b) else if k = 5 then (if a = 0 then b else 1) else if k = 6 then (if a = b then 0 else 1) else if k = 7 then (if a = 0 then 1 else 1 - b) else if k = 8 then (if a = 0 then 1 - b else 0) else (if a = b then 1 else 0)
abbrev kOn (a : Nat) : Prop := ¬ a = 37
set_option maxRecDepth 20000 in
theorem zX4_combined {G : tl_G} {M : zM} {J : zJ} {k a b : Int} (a0 : 0 ≤ a) (a1 : a ≤ 1) (b0 : 0 ≤ b) (b1 : b ≤ 1) : ZN G yX4_combined mX4_combined 0 kAll [vI k, vI a, vI b] F1 M J (qI (fun x M' J' => M' = M ∧ J' = J ∧ x = cmF k a b ∧ 0 ≤ x ∧ x ≤ 1)) := by
  refine ZN_of (L := [_, _, _]) (by decide) rfl rfl (Nat.le_of_ble_eq_true rfl) rfl (fun hav => ?_)
  refine Z_iload_n (n := 1) dX4_combined_0 rfl rfl ?_
  refine Z_tsw (td := 129) dX4_combined_1 rfl (by decide) (by decide) ?_ (fun c1 => ?_)
  · refine zcases_cons (fun c1 t ht => ?_) ?_
    · obtain rfl : t = 48 := by omega
      refine Z_iconst (n := 49) dX4_combined_48 rfl (by decide) ?_
      refine Z_zret dX4_combined_49 rfl (by first | assumption | omega | decide) (by first | assumption | omega | decide) ?_
      refine ⟨rfl, rfl, ?_, by decide, by decide⟩
      unfold cmF
      (repeat first | rw [if_neg (by omega)] | rw [if_pos (by omega)]) <;> omega
    refine zcases_cons (fun c1 t ht => ?_) ?_
    · obtain rfl : t = 50 := by omega
      refine Z_iconst (n := 51) dX4_combined_50 rfl (by decide) ?_
      refine Z_zret dX4_combined_51 rfl (by first | assumption | omega | decide) (by first | assumption | omega | decide) ?_
      refine ⟨rfl, rfl, ?_, by decide, by decide⟩
      unfold cmF
      (repeat first | rw [if_neg (by omega)] | rw [if_pos (by omega)]) <;> omega
    refine zcases_cons (fun c1 t ht => ?_) ?_
    · obtain rfl : t = 52 := by omega
      refine Z_iload_n (n := 53) dX4_combined_52 rfl rfl ?_
      refine Z_if_ne (n := 56) (t := 60) dX4_combined_53 rfl (by decide) (fun c53 => ?_) (fun c53 => ?_)
      · refine Z_iconst (n := 61) dX4_combined_60 rfl (by decide) ?_
        refine Z_zret dX4_combined_61 rfl (by first | assumption | omega | decide) (by first | assumption | omega | decide) ?_
        refine ⟨rfl, rfl, ?_, by decide, by decide⟩
        unfold cmF
        (repeat first | rw [if_neg (by omega)] | rw [if_pos (by omega)]) <;> omega
      · refine Z_iconst (n := 57) dX4_combined_56 rfl (by decide) ?_
        refine Z_goto (t := 61) dX4_combined_57 (by decide) ?_
        refine Z_zret dX4_combined_61 rfl (by first | assumption | omega | decide) (by first | assumption | omega | decide) ?_
        refine ⟨rfl, rfl, ?_, by decide, by decide⟩
        unfold cmF
        (repeat first | rw [if_neg (by omega)] | rw [if_pos (by omega)]) <;> omega
    refine zcases_cons (fun c1 t ht => ?_) ?_
    · obtain rfl : t = 62 := by omega
      refine Z_iload_n (n := 63) dX4_combined_62 rfl rfl ?_
      refine Z_if_eq (n := 66) (t := 74) dX4_combined_63 rfl (by decide) (fun c63 => ?_) (fun c63 => ?_)
      · refine Z_iconst (n := 75) dX4_combined_74 rfl (by decide) ?_
        refine Z_zret dX4_combined_75 rfl (by first | assumption | omega | decide) (by first | assumption | omega | decide) ?_
        refine ⟨rfl, rfl, ?_, by decide, by decide⟩
        unfold cmF
        (repeat first | rw [if_neg (by omega)] | rw [if_pos (by omega)]) <;> omega
      · refine Z_iload_n (n := 67) dX4_combined_66 rfl rfl ?_
        refine Z_if_eq (n := 70) (t := 74) dX4_combined_67 rfl (by decide) (fun c67 => ?_) (fun c67 => ?_)
        · refine Z_iconst (n := 75) dX4_combined_74 rfl (by decide) ?_
          refine Z_zret dX4_combined_75 rfl (by first | assumption | omega | decide) (by first | assumption | omega | decide) ?_
          refine ⟨rfl, rfl, ?_, by decide, by decide⟩
          unfold cmF
          (repeat first | rw [if_neg (by omega)] | rw [if_pos (by omega)]) <;> omega
        · refine Z_iconst (n := 71) dX4_combined_70 rfl (by decide) ?_
          refine Z_goto (t := 75) dX4_combined_71 (by decide) ?_
          refine Z_zret dX4_combined_75 rfl (by first | assumption | omega | decide) (by first | assumption | omega | decide) ?_
          refine ⟨rfl, rfl, ?_, by decide, by decide⟩
          unfold cmF
          (repeat first | rw [if_neg (by omega)] | rw [if_pos (by omega)]) <;> omega
    refine zcases_cons (fun c1 t ht => ?_) ?_
    · obtain rfl : t = 76 := by omega
      refine Z_iload_n (n := 77) dX4_combined_76 rfl rfl ?_
      refine Z_if_ne (n := 80) (t := 84) dX4_combined_77 rfl (by decide) (fun c77 => ?_) (fun c77 => ?_)
      · refine Z_iconst (n := 85) dX4_combined_84 rfl (by decide) ?_
        refine Z_goto (t := 89) dX4_combined_85 (by decide) ?_
        refine Z_zret dX4_combined_89 rfl (by first | assumption | omega | decide) (by first | assumption | omega | decide) ?_
        refine ⟨rfl, rfl, ?_, by decide, by decide⟩
        unfold cmF
        (repeat first | rw [if_neg (by omega)] | rw [if_pos (by omega)]) <;> omega
      · refine Z_iload_n (n := 81) dX4_combined_80 rfl rfl ?_
        refine Z_if_eq (n := 84) (t := 88) dX4_combined_81 rfl (by decide) (fun c81 => ?_) (fun c81 => ?_)
        · refine Z_iconst (n := 89) dX4_combined_88 rfl (by decide) ?_
          refine Z_zret dX4_combined_89 rfl (by first | assumption | omega | decide) (by first | assumption | omega | decide) ?_
          refine ⟨rfl, rfl, ?_, by decide, by decide⟩
          unfold cmF
          (repeat first | rw [if_neg (by omega)] | rw [if_pos (by omega)]) <;> omega
        · refine Z_iconst (n := 85) dX4_combined_84 rfl (by decide) ?_
          refine Z_goto (t := 89) dX4_combined_85 (by decide) ?_
          refine Z_zret dX4_combined_89 rfl (by first | assumption | omega | decide) (by first | assumption | omega | decide) ?_
          refine ⟨rfl, rfl, ?_, by decide, by decide⟩
          unfold cmF
          (repeat first | rw [if_neg (by omega)] | rw [if_pos (by omega)]) <;> omega
    refine zcases_cons (fun c1 t ht => ?_) ?_
    · obtain rfl : t = 90 := by omega
      refine Z_iload_n (n := 91) dX4_combined_90 rfl rfl ?_
      refine Z_iload_n (n := 92) dX4_combined_91 rfl rfl ?_
      refine Z_icmp_eq (n := 95) (t := 99) dX4_combined_92 rfl (by decide) (fun c92 => ?_) (fun c92 => ?_)
      · refine Z_iconst (n := 100) dX4_combined_99 rfl (by decide) ?_
        refine Z_zret dX4_combined_100 rfl (by first | assumption | omega | decide) (by first | assumption | omega | decide) ?_
        refine ⟨rfl, rfl, ?_, by decide, by decide⟩
        unfold cmF
        (repeat first | rw [if_neg (by omega)] | rw [if_pos (by omega)]) <;> omega
      · refine Z_iconst (n := 96) dX4_combined_95 rfl (by decide) ?_
        refine Z_goto (t := 100) dX4_combined_96 (by decide) ?_
        refine Z_zret dX4_combined_100 rfl (by first | assumption | omega | decide) (by first | assumption | omega | decide) ?_
        refine ⟨rfl, rfl, ?_, by decide, by decide⟩
        unfold cmF
        (repeat first | rw [if_neg (by omega)] | rw [if_pos (by omega)]) <;> omega
    refine zcases_cons (fun c1 t ht => ?_) ?_
    · obtain rfl : t = 101 := by omega
      refine Z_iload_n (n := 102) dX4_combined_101 rfl rfl ?_
      refine Z_if_eq (n := 105) (t := 109) dX4_combined_102 rfl (by decide) (fun c102 => ?_) (fun c102 => ?_)
      · refine Z_iconst (n := 110) dX4_combined_109 rfl (by decide) ?_
        refine Z_goto (t := 114) dX4_combined_110 (by decide) ?_
        refine Z_zret dX4_combined_114 rfl (by first | assumption | omega | decide) (by first | assumption | omega | decide) ?_
        refine ⟨rfl, rfl, ?_, by decide, by decide⟩
        unfold cmF
        (repeat first | rw [if_neg (by omega)] | rw [if_pos (by omega)]) <;> omega
      · refine Z_iload_n (n := 106) dX4_combined_105 rfl rfl ?_
        refine Z_if_ne (n := 109) (t := 113) dX4_combined_106 rfl (by decide) (fun c106 => ?_) (fun c106 => ?_)
        · refine Z_iconst (n := 114) dX4_combined_113 rfl (by decide) ?_
          refine Z_zret dX4_combined_114 rfl (by first | assumption | omega | decide) (by first | assumption | omega | decide) ?_
          refine ⟨rfl, rfl, ?_, by decide, by decide⟩
          unfold cmF
          (repeat first | rw [if_neg (by omega)] | rw [if_pos (by omega)]) <;> omega
        · refine Z_iconst (n := 110) dX4_combined_109 rfl (by decide) ?_
          refine Z_goto (t := 114) dX4_combined_110 (by decide) ?_
          refine Z_zret dX4_combined_114 rfl (by first | assumption | omega | decide) (by first | assumption | omega | decide) ?_
          refine ⟨rfl, rfl, ?_, by decide, by decide⟩
          unfold cmF
          (repeat first | rw [if_neg (by omega)] | rw [if_pos (by omega)]) <;> omega
    refine zcases_cons (fun c1 t ht => ?_) ?_
    · obtain rfl : t = 115 := by omega
      refine Z_iload_n (n := 116) dX4_combined_115 rfl rfl ?_
      refine Z_if_ne (n := 119) (t := 127) dX4_combined_116 rfl (by decide) (fun c116 => ?_) (fun c116 => ?_)
      · refine Z_iconst (n := 128) dX4_combined_127 rfl (by decide) ?_
        refine Z_zret dX4_combined_128 rfl (by first | assumption | omega | decide) (by first | assumption | omega | decide) ?_
        refine ⟨rfl, rfl, ?_, by decide, by decide⟩
        unfold cmF
        (repeat first | rw [if_neg (by omega)] | rw [if_pos (by omega)]) <;> omega
      · refine Z_iload_n (n := 120) dX4_combined_119 rfl rfl ?_
        refine Z_if_ne (n := 123) (t := 127) dX4_combined_120 rfl (by decide) (fun c120 => ?_) (fun c120 => ?_)
        · refine Z_iconst (n := 128) dX4_combined_127 rfl (by decide) ?_
          refine Z_zret dX4_combined_128 rfl (by first | assumption | omega | decide) (by first | assumption | omega | decide) ?_
          refine ⟨rfl, rfl, ?_, by decide, by decide⟩
          unfold cmF
          (repeat first | rw [if_neg (by omega)] | rw [if_pos (by omega)]) <;> omega
        · refine Z_iconst (n := 124) dX4_combined_123 rfl (by decide) ?_
          refine Z_goto (t := 128) dX4_combined_124 (by decide) ?_
          refine Z_zret dX4_combined_128 rfl (by first | assumption | omega | decide) (by first | assumption | omega | decide) ?_
          refine ⟨rfl, rfl, ?_, by decide, by decide⟩
          unfold cmF
          (repeat first | rw [if_neg (by omega)] | rw [if_pos (by omega)]) <;> omega
    exact zcases_nil
  · refine Z_iload_n (n := 130) dX4_combined_129 rfl rfl ?_
    refine Z_iload_n (n := 131) dX4_combined_130 rfl rfl ?_
    refine Z_icmp_ne (n := 134) (t := 138) dX4_combined_131 rfl (by decide) (fun c131 => ?_) (fun c131 => ?_)
    · refine Z_iconst (n := 139) dX4_combined_138 rfl (by decide) ?_
      refine Z_zret dX4_combined_139 rfl (by first | assumption | omega | decide) (by first | assumption | omega | decide) ?_
      refine ⟨rfl, rfl, ?_, by decide, by decide⟩
      unfold cmF
      (repeat first | rw [if_neg (by omega)] | rw [if_pos (by omega)]) <;> omega
    · refine Z_iconst (n := 135) dX4_combined_134 rfl (by decide) ?_
      refine Z_goto (t := 139) dX4_combined_135 (by decide) ?_
      refine Z_zret dX4_combined_139 rfl (by first | assumption | omega | decide) (by first | assumption | omega | decide) ?_
      refine ⟨rfl, rfl, ?_, by decide, by decide⟩
      unfold cmF
      (repeat first | rw [if_neg (by omega)] | rw [if_pos (by omega)]) <;> omega
set_option maxRecDepth 20000 in
theorem zX4_gives_s {G : tl_G} {M : zM} {J : zJ} {net o a : Int} (hN : ∀ net : Int, 0 ≤ net → net < 3 → rNt M net) : ZN G yX4_gives mX4_gives 4 kOn [vR 31, vI net, vI o, vI a] F1 M J (qI (fun x M' J' => J' = J)) := by
  refine ZN_of (L := [_, _, _, _, _, _, _, _, _, _]) (by decide) rfl rfl (Nat.le_of_ble_eq_true rfl) rfl (fun hav => ?_)
  refine Z_aload_n (n := 1) dX4_gives_0 rfl rfl ?_
  refine Z_iload_n (n := 2) dX4_gives_1 rfl rfl ?_
  refine Z_iload_n (n := 3) dX4_gives_2 rfl rfl ?_
  refine Z_callVi (n := 6) [_, _] _ dX4_gives_3 rfl cwX4_128 rfl rfl rfl (Nat.le_of_ble_eq_true rfl) (by refine ⟨?_, ?_, ?_, ?_⟩ <;> exact Nat.le_of_ble_eq_true rfl) (fun _ _ => trivial) (zX4_isOutput  ) ?_
  intro x3 M3 J3 z3 f3 q3
  obtain ⟨e3_1, e3_2, h3⟩ := q3
  replace e3_1 := e3_1.symm; subst e3_1
  replace e3_2 := e3_2.symm; subst e3_2
  refine Z_if_ne (n := 9) (t := 11) dX4_gives_6 rfl (by decide) (fun c6 => ?_) (fun c6 => ?_)
  · refine Z_rg 33 net rfl (fun g33 g33b => ?_)
    refine Z_rg 32 net rfl (fun g32 g32b => ?_)
    have hNn := hN net (by omega) (by omega)
    refine Z_iload_n (n := 12) dX4_gives_11 rfl rfl ?_
    refine Z_iconst (n := 13) dX4_gives_12 rfl (by decide) ?_
    refine Z_sipush (n := 16) dX4_gives_13 rfl (by decide) (by decide) ?_
    refine Z_callSi (n := 19) [_, _, _] _ dX4_gives_16 rfl cwX4_112 rfl rfl (Nat.le_of_ble_eq_true rfl) (by refine ⟨?_, ?_, ?_, ?_⟩ <;> exact Nat.le_of_ble_eq_true rfl) (fun _ _ => trivial) (zX4_in  ) ?_
    intro x16 M16 J16 z16 f16 q16
    obtain ⟨e16_1, e16_2, h16⟩ := q16
    replace e16_1 := e16_1.symm; subst e16_1
    replace e16_2 := e16_2.symm; subst e16_2
    refine Z_if_ne (n := 22) (t := 25) dX4_gives_19 rfl (by decide) (fun c19 => ?_) (fun c19 => ?_)
    · refine Z_iconst (n := 26) dX4_gives_25 rfl (by decide) ?_
      refine Z_istore (L' := [_, _, _, _, _, _, _, _, _, _]) (n := 28) dX4_gives_26 rfl (by decide) rfl rfl ?_
      have lp28 : ∀ (N28 : Nat) (g : Int) (M28 : zM) (J28 : zJ), ((M 32 net - g).toNat) < N28 → (J28 = J) → (0 ≤ g) → (g ≤ M 32 net) → TZ G mX4_gives (tl_rm 4 0 0) 0 0 kOn M J 28 [some (vR 31), some (vI net), some (vI o), some (vI a), some (vI g), none, none, none, none, none] [] F1 M28 J28 (ZM G (zPost G kOn F1 M J (qI (fun x M' J' => J' = J))) 0 0) := by
        intro N28
        induction N28 with
        | zero => intro g M28 J28 hN; omega
        | succ N28 ih28 =>
          intro g M28 J28 hN28 i28_0 i28_1 i28_2
          refine Z_iload (n := 30) dX4_gives_28 rfl rfl ?_
          refine Z_aload_n (n := 31) dX4_gives_30 rfl rfl ?_
          refine Z_getA (n := 34) dX4_gives_31 rfl ffX4_7 rfl rfl ?_
          refine Z_fr (fun fr28 => ?_)
          have e32 : M28 32 net = M 32 net := congrFun (fr28 32 (by decide)).1 net
          refine Z_iload_n (n := 35) dX4_gives_34 rfl rfl ?_
          refine Z_iald (n := 36) dX4_gives_35 rfl rfl rfl (by first | decide | assumption) (by omega) (by omega) (fun r35 s35 => ?_)
          refine Z_icmp_ge (n := 39) (t := 213) dX4_gives_36 rfl (by decide) (fun c36 => ?_) (fun c36 => ?_)
          · refine Z_aload_n (n := 214) dX4_gives_213 rfl rfl ?_
            refine Z_getA (n := 217) dX4_gives_214 rfl ffX4_25 rfl rfl ?_
            refine Z_aload_n (n := 218) dX4_gives_217 rfl rfl ?_
            refine Z_getA (n := 221) dX4_gives_218 rfl ffX4_22 rfl rfl ?_
            refine Z_iconst (n := 222) dX4_gives_221 rfl (by decide) ?_
            refine Z_iload_n (n := 223) dX4_gives_222 rfl rfl ?_
            refine Z_imul (n := 224) dX4_gives_223 rfl (by omega) ?_
            refine Z_iload_n (n := 225) dX4_gives_224 rfl rfl ?_
            refine Z_iadd (n := 226) dX4_gives_225 rfl (by omega) ?_
            refine Z_iald (n := 227) dX4_gives_226 rfl rfl rfl (by first | decide | assumption) (by omega) (by omega) (fun r226 s226 => ?_)
            refine Z_zald (n := 228) dX4_gives_227 rfl rfl rfl (by first | decide | assumption) (by omega) (by omega) (fun r227 s227 => ?_)
            refine Z_if_eq (n := 231) (t := 235) dX4_gives_228 rfl (by decide) (fun c228 => ?_) (fun c228 => ?_)
            · refine Z_iconst (n := 236) dX4_gives_235 rfl (by decide) ?_
              refine Z_iret dX4_gives_236 rfl ?_
              assumption
            · refine Z_iconst (n := 232) dX4_gives_231 rfl (by decide) ?_
              refine Z_goto (t := 236) dX4_gives_232 (by decide) ?_
              refine Z_iret dX4_gives_236 rfl ?_
              assumption
          · have hNg : rNt M28 net := rNt_fr hNn (fr28 32 (by decide)).1 (fr28 33 (by decide)).1 (fr28 34 (by decide)).1 (fr28 35 (by decide)).1 (fr28 36 (by decide)).1
            have hgt := hNg.1 g (by omega) (by omega)
            have ho0 : opF (M28 34 (40 * net + g)) > 0 → 0 ≤ M28 35 (3 * (40 * net + g)) ∧ M28 35 (3 * (40 * net + g)) < g := fun q => by
              have z := hgt.1 0 (by omega) (by omega)
              rw [Int.add_zero] at z
              exact z
            have ho1 := hgt.1 1 (by omega)
            have ho2 := hgt.1 2 (by omega)
            refine Z_bipush (n := 41) dX4_gives_39 rfl (by decide) (by decide) ?_
            refine Z_iload_n (n := 42) dX4_gives_41 rfl rfl ?_
            refine Z_imul (n := 43) dX4_gives_42 rfl (by omega) ?_
            refine Z_iload (n := 45) dX4_gives_43 rfl rfl ?_
            refine Z_iadd (n := 46) dX4_gives_45 rfl (by omega) ?_
            refine Z_istore (L' := [_, _, _, _, _, _, _, _, _, _]) (n := 48) dX4_gives_46 rfl (by decide) rfl rfl ?_
            refine Z_aload_n (n := 49) dX4_gives_48 rfl rfl ?_
            refine Z_getA (n := 52) dX4_gives_49 rfl ffX4_16 rfl rfl ?_
            refine Z_iload (n := 54) dX4_gives_52 rfl rfl ?_
            refine Z_iald (n := 55) dX4_gives_54 rfl rfl rfl (by first | decide | assumption) (by omega) (by omega) (fun r54 s54 => ?_)
            refine Z_istore (L' := [_, _, _, _, _, _, _, _, _, _]) (n := 57) dX4_gives_55 rfl (by decide) rfl rfl ?_
            refine Z_iload (n := 59) dX4_gives_57 rfl rfl ?_
            refine Z_callSi (n := 62) [_] _ dX4_gives_59 rfl cwX4_120 rfl rfl (Nat.le_of_ble_eq_true rfl) (by refine ⟨?_, ?_, ?_, ?_⟩ <;> exact Nat.le_of_ble_eq_true rfl) (fun _ _ => trivial) (zX4_wants  ) ?_
            intro x59 M59 J59 z59 f59 q59
            obtain ⟨e59_1, e59_2, h59⟩ := q59
            replace e59_1 := e59_1.symm; subst e59_1
            replace e59_2 := e59_2.symm; subst e59_2
            have ct206 : ∀ (q p r : Int) , (0 ≤ q) → (q ≤ 1) → TZ G mX4_gives (tl_rm 4 0 0) 0 0 kOn M J 206 [some (vR 31), some (vI net), some (vI o), some (vI a), some (vI g), none, none, none, some (vI p), some (vI r)] [vI q, vI g, vR 37] F1 M28 J28 (ZM G (zPost G kOn F1 M J (qI (fun x M' J' => J' = J))) 0 0) := by
              intro q p r  i206_0 i206_1
              refine Z_zast (n := 207) dX4_gives_206 rfl rfl rfl (by first | decide | assumption) (by omega) (by omega) (by first | assumption | omega | decide) (by first | assumption | omega | decide) (by decide) ?_
              refine Z_iinc (L' := [_, _, _, _, _, _, _, _, _, _]) (n := 210) dX4_gives_207 rfl rfl (by decide) rfl rfl (by omega) rfl ?_
              refine Z_goto (t := 28) dX4_gives_210 (by decide) ?_
              refine Z_loc (L' := [some _, some _, some _, some _, some _, none, none, none, none, none]) (lsub_same (lsub_same (lsub_same (lsub_same (lsub_same (lsub_none (lsub_none (lsub_none (lsub_none (lsub_none lsub_nil)))))))))) ?_
              exact ih28 _ _ _ (by omega) (by first | rfl | assumption) (by first | assumption | omega | decide) (by first | assumption | omega | decide)
            have ct125 : ∀ (p r : Int) , (0 ≤ p) → (p ≤ 1) → (0 ≤ r) → (r ≤ 1) → TZ G mX4_gives (tl_rm 4 0 0) 0 0 kOn M J 125 [some (vR 31), some (vI net), some (vI o), some (vI a), some (vI g), some (vI (40 * net + g)), some (vI (M28 34 (40 * net + g))), some (vI x59), some (vI p), some (vI r)] [] F1 M28 J28 (ZM G (zPost G kOn F1 M J (qI (fun x M' J' => J' = J))) 0 0) := by
              intro p r  i125_0 i125_1 i125_2 i125_3
              refine Z_aload_n (n := 126) dX4_gives_125 rfl rfl ?_
              refine Z_getA (n := 129) dX4_gives_126 rfl ffX4_25 rfl rfl ?_
              refine Z_iload (n := 131) dX4_gives_129 rfl rfl ?_
              refine Z_iload (n := 133) dX4_gives_131 rfl rfl ?_
              refine Z_if_ne (n := 136) (t := 161) dX4_gives_133 rfl (by decide) (fun c133 => ?_) (fun c133 => ?_)
              · refine Z_iload (n := 163) dX4_gives_161 rfl rfl ?_
                refine Z_bipush (n := 165) dX4_gives_163 rfl (by decide) (by decide) ?_
                refine Z_icmp_ne (n := 168) (t := 197) dX4_gives_165 rfl (by decide) (fun c165 => ?_) (fun c165 => ?_)
                · refine Z_iload (n := 199) dX4_gives_197 rfl rfl ?_
                  refine Z_iload (n := 201) dX4_gives_199 rfl rfl ?_
                  refine Z_iload (n := 203) dX4_gives_201 rfl rfl ?_
                  refine Z_callSi (n := 206) [_, _, _] _ dX4_gives_203 rfl cwX4_131 rfl rfl (Nat.le_of_ble_eq_true rfl) (by refine ⟨?_, ?_, ?_, ?_⟩ <;> exact Nat.le_of_ble_eq_true rfl) (fun _ _ => trivial) (zX4_combined  (by first | assumption | omega | decide) (by first | assumption | omega | decide) (by first | assumption | omega | decide) (by first | assumption | omega | decide)) ?_
                  intro x203 M203 J203 z203 f203 q203
                  obtain ⟨e203_1, e203_2, h203, l203, u203⟩ := q203
                  replace e203_1 := e203_1.symm; subst e203_1
                  replace e203_2 := e203_2.symm; subst e203_2
                  refine Z_loc (L' := [some _, some _, some _, some _, some _, none, none, none, some _, some _]) (lsub_same (lsub_same (lsub_same (lsub_same (lsub_same (lsub_none (lsub_none (lsub_none (lsub_same (lsub_same lsub_nil)))))))))) ?_
                  exact ct206 _ _ _  (by first | assumption | omega | decide) (by first | assumption | omega | decide)
                · refine Z_iload (n := 170) dX4_gives_168 rfl rfl ?_
                  refine Z_if_eq (n := 173) (t := 178) dX4_gives_170 rfl (by decide) (fun c170 => ?_) (fun c170 => ?_)
                  · have hq3 : opF (M28 34 (40 * net + g)) = 3 := by rw [c165]; rfl
                    have hp2 := ho2 (by omega)
                    refine Z_aload_n (n := 179) dX4_gives_178 rfl rfl ?_
                    refine Z_getA (n := 182) dX4_gives_179 rfl ffX4_25 rfl rfl ?_
                    refine Z_aload_n (n := 183) dX4_gives_182 rfl rfl ?_
                    refine Z_getA (n := 186) dX4_gives_183 rfl ffX4_19 rfl rfl ?_
                    refine Z_iconst (n := 187) dX4_gives_186 rfl (by decide) ?_
                    refine Z_iload (n := 189) dX4_gives_187 rfl rfl ?_
                    refine Z_imul (n := 190) dX4_gives_189 rfl (by omega) ?_
                    refine Z_iconst (n := 191) dX4_gives_190 rfl (by decide) ?_
                    refine Z_iadd (n := 192) dX4_gives_191 rfl (by omega) ?_
                    refine Z_iald (n := 193) dX4_gives_192 rfl rfl rfl (by first | decide | assumption) (by omega) (by omega) (fun r192 s192 => ?_)
                    refine Z_zald (n := 194) dX4_gives_193 rfl rfl rfl (by first | decide | assumption) (by omega) (by omega) (fun r193 s193 => ?_)
                    refine Z_goto (t := 206) dX4_gives_194 (by decide) ?_
                    refine Z_loc (L' := [some _, some _, some _, some _, some _, none, none, none, some _, some _]) (lsub_same (lsub_same (lsub_same (lsub_same (lsub_same (lsub_none (lsub_none (lsub_none (lsub_same (lsub_same lsub_nil)))))))))) ?_
                    exact ct206 _ _ _  (by first | assumption | omega | decide) (by first | assumption | omega | decide)
                  · refine Z_iload (n := 175) dX4_gives_173 rfl rfl ?_
                    refine Z_goto (t := 206) dX4_gives_175 (by decide) ?_
                    refine Z_loc (L' := [some _, some _, some _, some _, some _, none, none, none, some _, some _]) (lsub_same (lsub_same (lsub_same (lsub_same (lsub_same (lsub_none (lsub_none (lsub_none (lsub_same (lsub_same lsub_nil)))))))))) ?_
                    exact ct206 _ _ _  (by first | assumption | omega | decide) (by first | assumption | omega | decide)
              · refine Z_iload_n (n := 137) dX4_gives_136 rfl rfl ?_
                refine Z_aload_n (n := 138) dX4_gives_137 rfl rfl ?_
                refine Z_getA (n := 141) dX4_gives_138 rfl ffX4_19 rfl rfl ?_
                refine Z_iconst (n := 142) dX4_gives_141 rfl (by decide) ?_
                refine Z_iload (n := 144) dX4_gives_142 rfl rfl ?_
                refine Z_imul (n := 145) dX4_gives_144 rfl (by omega) ?_
                refine Z_iald (n := 146) dX4_gives_145 rfl rfl rfl (by first | decide | assumption) (by omega) (by omega) (fun r145 s145 => ?_)
                refine Z_ishr (n := 147) dX4_gives_146 rfl ?_
                refine Z_iconst (n := 148) dX4_gives_147 rfl (by decide) ?_
                refine Z_iand (n := 149) dX4_gives_148 rfl ?_
                refine Z_iconst (n := 150) dX4_gives_149 rfl (by decide) ?_
                refine Z_icmp_ne (n := 153) (t := 157) dX4_gives_150 rfl (by decide) (fun c150 => ?_) (fun c150 => ?_)
                · refine Z_iconst (n := 158) dX4_gives_157 rfl (by decide) ?_
                  refine Z_goto (t := 206) dX4_gives_158 (by decide) ?_
                  refine Z_loc (L' := [some _, some _, some _, some _, some _, none, none, none, some _, some _]) (lsub_same (lsub_same (lsub_same (lsub_same (lsub_same (lsub_none (lsub_none (lsub_none (lsub_same (lsub_same lsub_nil)))))))))) ?_
                  exact ct206 _ _ _  (by first | assumption | omega | decide) (by first | assumption | omega | decide)
                · refine Z_iconst (n := 154) dX4_gives_153 rfl (by decide) ?_
                  refine Z_goto (t := 206) dX4_gives_154 (by decide) ?_
                  refine Z_loc (L' := [some _, some _, some _, some _, some _, none, none, none, some _, some _]) (lsub_same (lsub_same (lsub_same (lsub_same (lsub_same (lsub_none (lsub_none (lsub_none (lsub_same (lsub_same lsub_nil)))))))))) ?_
                  exact ct206 _ _ _  (by first | assumption | omega | decide) (by first | assumption | omega | decide)
            have ct93 : ∀ (p : Int) , (0 ≤ p) → (p ≤ 1) → TZ G mX4_gives (tl_rm 4 0 0) 0 0 kOn M J 93 [some (vR 31), some (vI net), some (vI o), some (vI a), some (vI g), some (vI (40 * net + g)), some (vI (M28 34 (40 * net + g))), some (vI x59), some (vI p), none] [] F1 M28 J28 (ZM G (zPost G kOn F1 M J (qI (fun x M' J' => J' = J))) 0 0) := by
              intro p  i93_0 i93_1
              refine Z_iload (n := 95) dX4_gives_93 rfl rfl ?_
              refine Z_iconst (n := 96) dX4_gives_95 rfl (by decide) ?_
              refine Z_icmp_le (n := 99) (t := 122) dX4_gives_96 rfl (by decide) (fun c96 => ?_) (fun c96 => ?_)
              · refine Z_iconst (n := 123) dX4_gives_122 rfl (by decide) ?_
                refine Z_istore (L' := [_, _, _, _, _, _, _, _, _, _]) (n := 125) dX4_gives_123 rfl (by decide) rfl rfl ?_
                refine Z_loc (L' := [some _, some _, some _, some _, some _, some _, some _, some _, some _, some _]) (lsub_same (lsub_same (lsub_same (lsub_same (lsub_same (lsub_same (lsub_same (lsub_same (lsub_same (lsub_same lsub_nil)))))))))) ?_
                exact ct125 _ _  (by first | assumption | omega | decide) (by first | assumption | omega | decide) (by first | assumption | omega | decide) (by first | assumption | omega | decide)
              · have hp1 := ho1 (by omega)
                refine Z_aload_n (n := 100) dX4_gives_99 rfl rfl ?_
                refine Z_getA (n := 103) dX4_gives_100 rfl ffX4_25 rfl rfl ?_
                refine Z_aload_n (n := 104) dX4_gives_103 rfl rfl ?_
                refine Z_getA (n := 107) dX4_gives_104 rfl ffX4_19 rfl rfl ?_
                refine Z_iconst (n := 108) dX4_gives_107 rfl (by decide) ?_
                refine Z_iload (n := 110) dX4_gives_108 rfl rfl ?_
                refine Z_imul (n := 111) dX4_gives_110 rfl (by omega) ?_
                refine Z_iconst (n := 112) dX4_gives_111 rfl (by decide) ?_
                refine Z_iadd (n := 113) dX4_gives_112 rfl (by omega) ?_
                refine Z_iald (n := 114) dX4_gives_113 rfl rfl rfl (by first | decide | assumption) (by omega) (by omega) (fun r113 s113 => ?_)
                refine Z_zald (n := 115) dX4_gives_114 rfl rfl rfl (by first | decide | assumption) (by omega) (by omega) (fun r114 s114 => ?_)
                refine Z_if_eq (n := 118) (t := 122) dX4_gives_115 rfl (by decide) (fun c115 => ?_) (fun c115 => ?_)
                · refine Z_iconst (n := 123) dX4_gives_122 rfl (by decide) ?_
                  refine Z_istore (L' := [_, _, _, _, _, _, _, _, _, _]) (n := 125) dX4_gives_123 rfl (by decide) rfl rfl ?_
                  refine Z_loc (L' := [some _, some _, some _, some _, some _, some _, some _, some _, some _, some _]) (lsub_same (lsub_same (lsub_same (lsub_same (lsub_same (lsub_same (lsub_same (lsub_same (lsub_same (lsub_same lsub_nil)))))))))) ?_
                  exact ct125 _ _  (by first | assumption | omega | decide) (by first | assumption | omega | decide) (by first | assumption | omega | decide) (by first | assumption | omega | decide)
                · refine Z_iconst (n := 119) dX4_gives_118 rfl (by decide) ?_
                  refine Z_goto (t := 123) dX4_gives_119 (by decide) ?_
                  refine Z_istore (L' := [_, _, _, _, _, _, _, _, _, _]) (n := 125) dX4_gives_123 rfl (by decide) rfl rfl ?_
                  refine Z_loc (L' := [some _, some _, some _, some _, some _, some _, some _, some _, some _, some _]) (lsub_same (lsub_same (lsub_same (lsub_same (lsub_same (lsub_same (lsub_same (lsub_same (lsub_same (lsub_same lsub_nil)))))))))) ?_
                  exact ct125 _ _  (by first | assumption | omega | decide) (by first | assumption | omega | decide) (by first | assumption | omega | decide) (by first | assumption | omega | decide)
            refine Z_istore (L' := [_, _, _, _, _, _, _, _, _, _]) (n := 64) dX4_gives_62 rfl (by decide) rfl rfl ?_
            refine Z_iload (n := 66) dX4_gives_64 rfl rfl ?_
            refine Z_if_le (n := 69) (t := 90) dX4_gives_66 rfl (by decide) (fun c66 => ?_) (fun c66 => ?_)
            · refine Z_iconst (n := 91) dX4_gives_90 rfl (by decide) ?_
              refine Z_istore (L' := [_, _, _, _, _, _, _, _, _, _]) (n := 93) dX4_gives_91 rfl (by decide) rfl rfl ?_
              refine Z_loc (L' := [some _, some _, some _, some _, some _, some _, some _, some _, some _, none]) (lsub_same (lsub_same (lsub_same (lsub_same (lsub_same (lsub_same (lsub_same (lsub_same (lsub_same (lsub_none lsub_nil)))))))))) ?_
              exact ct93 _  (by first | assumption | omega | decide) (by first | assumption | omega | decide)
            · have hp0 := ho0 (by omega)
              refine Z_aload_n (n := 70) dX4_gives_69 rfl rfl ?_
              refine Z_getA (n := 73) dX4_gives_70 rfl ffX4_25 rfl rfl ?_
              refine Z_aload_n (n := 74) dX4_gives_73 rfl rfl ?_
              refine Z_getA (n := 77) dX4_gives_74 rfl ffX4_19 rfl rfl ?_
              refine Z_iconst (n := 78) dX4_gives_77 rfl (by decide) ?_
              refine Z_iload (n := 80) dX4_gives_78 rfl rfl ?_
              refine Z_imul (n := 81) dX4_gives_80 rfl (by omega) ?_
              refine Z_iald (n := 82) dX4_gives_81 rfl rfl rfl (by first | decide | assumption) (by omega) (by omega) (fun r81 s81 => ?_)
              refine Z_zald (n := 83) dX4_gives_82 rfl rfl rfl (by first | decide | assumption) (by omega) (by omega) (fun r82 s82 => ?_)
              refine Z_if_eq (n := 86) (t := 90) dX4_gives_83 rfl (by decide) (fun c83 => ?_) (fun c83 => ?_)
              · refine Z_iconst (n := 91) dX4_gives_90 rfl (by decide) ?_
                refine Z_istore (L' := [_, _, _, _, _, _, _, _, _, _]) (n := 93) dX4_gives_91 rfl (by decide) rfl rfl ?_
                refine Z_loc (L' := [some _, some _, some _, some _, some _, some _, some _, some _, some _, none]) (lsub_same (lsub_same (lsub_same (lsub_same (lsub_same (lsub_same (lsub_same (lsub_same (lsub_same (lsub_none lsub_nil)))))))))) ?_
                exact ct93 _  (by first | assumption | omega | decide) (by first | assumption | omega | decide)
              · refine Z_iconst (n := 87) dX4_gives_86 rfl (by decide) ?_
                refine Z_goto (t := 91) dX4_gives_87 (by decide) ?_
                refine Z_istore (L' := [_, _, _, _, _, _, _, _, _, _]) (n := 93) dX4_gives_91 rfl (by decide) rfl rfl ?_
                refine Z_loc (L' := [some _, some _, some _, some _, some _, some _, some _, some _, some _, none]) (lsub_same (lsub_same (lsub_same (lsub_same (lsub_same (lsub_same (lsub_same (lsub_same (lsub_same (lsub_none lsub_nil)))))))))) ?_
                exact ct93 _  (by first | assumption | omega | decide) (by first | assumption | omega | decide)
      refine Z_loc (L' := [some _, some _, some _, some _, some _, none, none, none, none, none]) (lsub_same (lsub_same (lsub_same (lsub_same (lsub_same (lsub_none (lsub_none (lsub_none (lsub_none (lsub_none lsub_nil)))))))))) ?_
      exact lp28 _ _ _ _ (Nat.lt_succ_self _) (by first | rfl | assumption) (by first | assumption | omega | decide) (by first | assumption | omega | decide)
    · refine Z_bipush (n := 24) dX4_gives_22 rfl (by decide) (by decide) ?_
      refine Z_iret dX4_gives_24 rfl ?_
      rfl
  · refine Z_iconst (n := 10) dX4_gives_9 rfl (by decide) ?_
    refine Z_iret dX4_gives_10 rfl ?_
    rfl
end
section
/-! ===== the reference: go, order ===== -/
abbrev kGr (a : Nat) : Prop := ¬ a = 31 ∧ ¬ (38 ≤ a ∧ a ≤ 42)
theorem hr_ltz {f : Int → Int} {v : Int} : ∀ {n : Nat}, 0 ≤ v → v < n → f v = 0 → hr f n < n
  | 0, h0, h1, _ => by omega
  | n + 1, h0, h1, h2 => by
    have h := hr_in f n
    unfold hr
    by_cases e : v = n
    · subst e
      rw [if_pos h2]
      omega
    · have := hr_ltz (n := n) h0 (by omega) h2
      split <;> omega
/-- found counts the places given -/
def fO (M : zM) : Prop := M 31 13 = hc (M 39) 8
def f31 (M M' : zM) : Prop := ∀ j : Int, j ≠ 12 → j ≠ 13 → M' 31 j = M 31 j
def goQ (M : zM) (g : Int) (M' : zM) : Prop := f31 M M' ∧ fO M' ∧ ((¬ M 40 g = 0 ∧ M' 31 12 = M 31 12 ∧ M' 40 = M 40 ∧ M' 41 = M 41 ∧ M' 42 = M 42) ∨ (hr (M' 40) 40 = hr (M 40) 40 + 1 ∧ M' 31 12 = M 31 12 + 1 ∧ M' 41 = updI (M 41) (M 31 12) g ∧ M' 42 = updI (M 42) (M 31 12) 0))
def go1 (M : zM) (g : Int) : zM := uz (uz (uz (uz M 40 g 1) 41 (M 31 12) g) 42 (M 31 12) 0) 31 12 (M 31 12 + 1)
theorem go1_o {M : zM} {g : Int} {a : Nat} (h1 : a ≠ 31) (h2 : a ≠ 40) (h3 : a ≠ 41) (h4 : a ≠ 42) : go1 M g a = M a := by
  unfold go1
  rw [uz_o h1, uz_o h4, uz_o h3, uz_o h2]
theorem go1_31 {M : zM} {g j : Int} (h : j ≠ 12) : go1 M g 31 j = M 31 j := by
  unfold go1
  rw [uz_n h, uz_oo (by decide), uz_oo (by decide), uz_oo (by decide)]
theorem go1_40 {M : zM} {g : Int} : go1 M g 40 = updI (M 40) g 1 := by
  unfold go1
  rw [uz_o (by decide), uz_o (by decide), uz_o (by decide), uz_fn]
theorem go1_41 {M : zM} {g : Int} : go1 M g 41 = updI (M 41) (M 31 12) g := by
  unfold go1
  rw [uz_o (by decide), uz_o (by decide), uz_fn, uz_o (by decide)]
theorem go1_42 {M : zM} {g : Int} : go1 M g 42 = updI (M 42) (M 31 12) 0 := by
  unfold go1
  rw [uz_o (by decide), uz_fn, uz_o (by decide), uz_o (by decide)]
theorem go1_12 {M : zM} {g : Int} : go1 M g 31 12 = M 31 12 + 1 := by
  unfold go1
  rw [uz_s]
theorem goQ_1 {M M' : zM} {g : Int} (hg : M 40 g = 0) (g0 : 0 ≤ g) (g1 : g < 40) (h31 : ∀ j : Int, j ≠ 13 → M' 31 j = go1 M g 31 j) (e : ∀ a : Nat, 40 ≤ a → a ≤ 42 → M' a = go1 M g a) (hf : fO M') : goQ M g M' := by
  refine ⟨fun j a b => (h31 j b).trans (go1_31 a), hf, Or.inr ⟨?_, (h31 12 (by decide)).trans go1_12, (e 41 (by decide) (by decide)).trans go1_41, (e 42 (by decide) (by decide)).trans go1_42⟩⟩
  rw [e 40 (by decide) (by decide), go1_40]
  exact hr_inc (v := g) g0 (by omega) hg (by rw [updI_s]; decide) (fun k hk => by rw [updI_n hk])
abbrev kOr (a : Nat) : Prop := ¬ a = 31 ∧ ¬ (38 ≤ a ∧ a ≤ 42)
def chs (f : Int → Int) : Nat → Int
  | 0 => 0
  | n + 1 => chs f n + (4 - f (n : Int))
theorem chs_in {f : Int → Int} (h : ∀ k, f k ≤ 3) : ∀ n : Nat, 0 ≤ chs f n
  | 0 => by simp [chs]
  | n + 1 => by
    have := chs_in h n
    have := h n
    unfold chs
    omega
theorem chs_out {f : Int → Int} {k v : Int} : ∀ {n : Nat}, (n : Int) ≤ k → chs (updI f k v) n = chs f n
  | 0, _ => rfl
  | n + 1, h => by
    unfold chs
    rw [chs_out (n := n) (by omega), updI_n (by omega)]
theorem chs_set {f : Int → Int} {k v : Int} : ∀ {n : Nat}, 0 ≤ k → k < n → chs (updI f k v) n = chs f n + f k - v
  | 0, h0, h1 => by omega
  | n + 1, h0, h1 => by
    unfold chs
    by_cases e : k = n
    · subst e
      rw [chs_out (Int.le_refl _), updI_s]
      omega
    · rw [chs_set (n := n) h0 (by omega), updI_n (by omega)]
      omega
theorem chs_dn {f : Int → Int} {p : Int} (h : 0 < p) : chs f p.toNat = chs f (p - 1).toNat + (4 - f (p - 1)) := by
  rw [show p.toNat = (p - 1).toNat + 1 by omega]
  show chs f (p - 1).toNat + (4 - f ((p - 1).toNat : Int)) = _
  rw [Int.toNat_of_nonneg (by omega)]
/-- the pile: gates of the net, with which of what they are told of is next -/
def plO (M0 M : zM) (net : Int) : Prop := fO M ∧ M 31 12 ≤ hr (M 40) 40 ∧ ∀ j : Int, 0 ≤ j → j < M 31 12 → M 41 j < M0 32 net ∧ M 42 j ≤ opF (M0 34 (40 * net + M 41 j))
def muO (M : zM) : Int := 5 * (40 - hr (M 40) 40) + chs (M 42) (M 31 12).toNat
theorem plO_go {M0 M M' : zM} {net g : Int} (h : plO M0 M net) (hq : goQ M g M') (hg : g < M0 32 net) (hp : 0 ≤ M 31 12) : plO M0 M' net ∧ muO M' ≤ muO M := by
  obtain ⟨h1, h2, h3⟩ := h
  obtain ⟨q1, q2, ⟨-, q4, q5, q6, q7⟩ | ⟨q4, q5, q6, q7⟩⟩ := hq
  · refine ⟨⟨q2, ?_, ?_⟩, ?_⟩
    · rw [q4, q5]; exact h2
    · rw [q4, q6, q7]; exact h3
    · unfold muO; rw [q4, q5, q7]; exact Int.le_refl _
  · refine ⟨⟨q2, ?_, fun j j0 j1 => ?_⟩, ?_⟩
    · rw [q4, q5]; omega
    · rw [q6, q7]
      by_cases e : j = M 31 12
      · rw [e, updI_s, updI_s]; exact ⟨hg, (opF_in _).1⟩
      · rw [updI_n e, updI_n e]; exact h3 j j0 (by omega)
    · unfold muO
      rw [q4, q5, q7, chs_dn (show 0 < M 31 12 + 1 by omega), show M 31 12 + 1 - 1 = M 31 12 by omega, updI_s, chs_out (by omega)]
      omega
theorem mu_in {M : zM} (hok : zOK M) : 0 ≤ muO M := by
  have h1 := hr_in (M 40) 40
  have h2 := chs_in (f := M 42) (fun k => (show 0 ≤ M 42 k ∧ M 42 k ≤ 3 from hok 42 k).2) (M 31 12).toNat
  unfold muO
  omega
theorem plO_pop {M0 M : zM} {net : Int} (h : plO M0 M net) (hok : zOK M) (hp : 0 < M 31 12) : plO M0 (uz M 31 12 (M 31 12 - 1)) net ∧ muO (uz M 31 12 (M 31 12 - 1)) < muO M := by
  obtain ⟨h1, h2, h3⟩ := h
  have o : ∀ a : Nat, a ≠ 31 → uz M 31 12 (M 31 12 - 1) a = M a := fun a ha => uz_o ha
  refine ⟨⟨?_, ?_, fun j j0 j1 => ?_⟩, ?_⟩
  · unfold fO; rw [uz_n (by decide), o 39 (by decide)]; exact h1
  · rw [uz_s, o 40 (by decide)]; omega
  · rw [uz_s] at j1
    rw [o 41 (by decide), o 42 (by decide)]
    exact h3 j j0 (by omega)
  · unfold muO
    rw [uz_s, o 40 (by decide), o 42 (by decide), chs_dn hp]
    have : 0 ≤ M 42 (M 31 12 - 1) ∧ M 42 (M 31 12 - 1) ≤ 3 := hok 42 _
    omega
theorem plO_ch {M0 M : zM} {net : Int} (h : plO M0 M net) (hp : 0 < M 31 12) (hc : M 42 (M 31 12 - 1) < opF (M0 34 (40 * net + M 41 (M 31 12 - 1)))) : plO M0 (uz M 42 (M 31 12 - 1) (M 42 (M 31 12 - 1) + 1)) net ∧ muO (uz M 42 (M 31 12 - 1) (M 42 (M 31 12 - 1) + 1)) < muO M := by
  obtain ⟨h1, h2, h3⟩ := h
  have o : ∀ a : Nat, a ≠ 42 → uz M 42 (M 31 12 - 1) (M 42 (M 31 12 - 1) + 1) a = M a := fun a ha => uz_o ha
  refine ⟨⟨?_, ?_, fun j j0 j1 => ?_⟩, ?_⟩
  · unfold fO; rw [o 31 (by decide), o 39 (by decide)]; exact h1
  · rw [o 31 (by decide), o 40 (by decide)]; exact h2
  · rw [o 31 (by decide)] at j1
    rw [o 41 (by decide), uz_fn]
    by_cases e : j = M 31 12 - 1
    · rw [e, updI_s]; exact ⟨(h3 _ (by omega) (by omega)).1, by omega⟩
    · rw [updI_n e]; exact h3 j j0 j1
  · unfold muO
    rw [o 31 (by decide), o 40 (by decide), uz_fn, chs_set (by omega) (by omega)]
    omega
end
