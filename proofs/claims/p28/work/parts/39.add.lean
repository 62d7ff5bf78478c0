/-! ===== the reference: add in every state ===== -/
theorem zshl_up {d : Int} (h0 : 0 ≤ d) (h1 : d ≤ 7) : zshl 1 (d + 1) = 2 * zshl 1 d := by
  rcases (show d = 0 ∨ d = 1 ∨ d = 2 ∨ d = 3 ∨ d = 4 ∨ d = 5 ∨ d = 6 ∨ d = 7 by omega) with rfl | rfl | rfl | rfl | rfl | rfl | rfl | rfl <;> decide +kernel
theorem tabA_J {M : zM} {J J' : zJ} {ch : Int → List Int} {fl : List Int} (e : J' 48 = J 48) (h : tabA M J ch fl) : tabA M J' ch fl := by
  have q : ∀ n, kyf J' n = kyf J n := fun n => by funext k; unfold kyf; rw [e]
  unfold tabA at *
  simp only [q]
  exact h
theorem tabC_J {M : zM} {J J' : zJ} {g : Int} (e : J' 48 = J 48) (e2 : J' 44 = J 44) (h : tabC M J g) : tabC M J' g := by
  have hm : ∀ (m d : Int) (P : Int → Int64), mtc M J m d P → mtc M J' m d P := fun m d P z => by
    unfold mtc at *
    rw [e]
    exact z
  unfold tabC
  rw [bitF_congr e2 g]
  refine ⟨fun d i a b c w q => ?_, fun n hn => ?_⟩
  · obtain ⟨n, h1, h2⟩ := h.1 d i a b c w q
    exact ⟨n, h1, hm _ _ _ h2⟩
  · obtain ⟨d, i, h1, h2, h3⟩ := h.2 n hn
    exact ⟨d, i, h1, h2, hm _ _ _ h3⟩
theorem TIm_J {M : zM} {J J' : zJ} {f k u0 : Int} (e : J' 48 = J 48) (e2 : J' 44 = J 44) (h : TIm M J f k u0) : TIm M J' f k u0 := by
  obtain ⟨⟨ch, fl, t1⟩, t2, t3, t4, t5, t6, t7, tu⟩ := h
  exact ⟨⟨ch, fl, tabA_J e t1⟩, t2, fun g a b c d => tabC_J e e2 (t3 g a b c d), t4, t5, t6, t7, tabU_mv tu (fun _ z => z) rfl e⟩
/-- what add leaves as it was -/
def adf (M M' : zM) (f : Int) : Prop := (∀ g : Int, g ≠ f → M' 45 g = M 45 g ∧ M' 43 g = M 43 g) ∧ (∀ j : Int, (j < 255 * f ∨ 255 * f + 255 ≤ j) → M' 46 j = M 46 j) ∧ ∀ j : Int, j ≠ 23 → j ≠ 24 → j ≠ 25 → j ≠ 27 → M' 31 j = M 31 j
theorem cvr_0 {M : zM} {J : zJ} {B : Int → Int64} {f : Int} (h : TI M J) (f0 : 0 ≤ f) (f1 : f < 56) (hf : M 43 f = 0) : cvr (ad0 M f) J B f := fun n hn => by
  have h45 : M 45 f = 0 := (h.2.1.2 f f0 f1).2 hf
  exact absurd hn (inS_none (by rw [ad0_45, updI_s]; exact Int.le_refl _))
theorem adf_0 {M : zM} {f : Int} : adf M (ad0 M f) f := by
  refine ⟨fun g hg => ⟨by rw [ad0_45, updI_n hg], by rw [ad0_43, updI_n hg]⟩, fun j _ => by rw [ad0_o (by decide) (by decide) (by decide)], fun j _ _ _ h => ad0_31 h⟩
theorem adf_nf {M M1 M' : zM} {J1 J' : zJ} {f d x : Int} {ch : List Int} (h : adf M M1 f) (hq : nfQ M1 J1 d ch x M' J') : adf M M' f := by
  rcases hq with ⟨n, -, -, -, rfl, -⟩ | ⟨-, -, rfl, -, -⟩
  · exact h
  · refine ⟨fun g hg => ?_, fun j hj => ?_, fun j a b c e => ?_⟩
    · rw [nfM_o (by decide), nfM_o (by decide)]; exact h.1 g hg
    · rw [nfM_o (by decide)]; exact h.2.1 j hj
    · rw [nfM_31 a]; exact h.2.2 j a b c e
theorem adf_pu {M M1 : zM} {f x : Int} (h : adf M M1 f) (h0 : 0 ≤ M1 45 f) (h1 : M1 45 f < 255) : adf M (puM M1 f x) f := by
  refine ⟨fun g hg => ?_, fun j hj => ?_, fun j a b c e => ?_⟩
  · rw [puM_45, updI_n hg, puM_o (by decide)]; exact h.1 g hg
  · rw [puM_46, updI_n (by omega)]; exact h.2.1 j hj
  · rw [puM_23 b]; exact h.2.2 j a b c e
theorem chn_uniq {nx : Int → Int} : ∀ {l l' : List Int} {s : Int}, chn nx s l → chn nx s l' → l = l'
  | [], [], _, _, _ => rfl
  | [], m :: r, s, h, h' => by
    have h1 : s < 0 := h
    have h2 := h'.1
    have h3 := h'.2.1
    omega
  | m :: r, [], s, h, h' => by
    have h1 : s < 0 := h'
    have h2 := h.1
    have h3 := h.2.1
    omega
  | m :: r, m' :: r', s, h, h' => by
    obtain ⟨e, -, -, h4⟩ := h
    obtain ⟨e', -, -, h4'⟩ := h'
    have q : m = m' := e.symm.trans e'
    subst q
    rw [chn_uniq h4 h4']
/-- a node in use has this part -/
def liv (M : zM) (J : zJ) (d : Int) (P : Int → Int64) : Prop := ∃ n : Int, (0 ≤ n ∧ n < 520) ∧ ¬ M 49 n = 0 ∧ mtc M J n d P
theorem nf_liv {M M' : zM} {J J' : zJ} {f k u0 d x : Int} {ch : List Int} (hT : TIm M J f k u0) (hch : chn (M 50) (M 51 (bkt d (J 53))) ch) (hq : nfQ M J d ch x M' J') (hl : liv M J d (J 53)) : M' = M ∧ J' = J ∧ ¬ M 49 x = 0 := by
  obtain ⟨⟨chs, fl, t1⟩, -⟩ := hT
  have hb := bkt_in d (J 53)
  obtain ⟨q1, q2, q3⟩ := t1.1 _ hb.1 hb.2
  have e := chn_uniq hch q1
  subst e
  rcases hq with ⟨n, hn, hm, rfl, rfl, rfl⟩ | ⟨hno, -⟩
  · exact ⟨rfl, rfl, (q3 x hn).2⟩
  · obtain ⟨n, ⟨n0, n1⟩, n2, n3⟩ := hl
    have z := (t1.2.2.1 n n0 n1).2 n2
    rw [mtc_bkt n3] at z
    exact absurd n3 (hno n z)
/-- all parts of B have their nodes in use -/
def cvd (M : zM) (J : zJ) (B : Int → Int64) : Prop := ∀ d i : Int, 0 ≤ d → d ≤ 7 → 0 ≤ i → i < zshl 1 d → lyR B d i = true → liv M J d (lyP B d i)
theorem liv_mv {M M' : zM} {J J' : zJ} {d : Int} {P : Int → Int64} (h : liv M J d P) (e47 : M' 47 = M 47) (e48 : J' 48 = J 48) (e49 : ∀ n : Int, ¬ M 49 n = 0 → ¬ M' 49 n = 0) : liv M' J' d P := by
  obtain ⟨n, h1, h2, h3⟩ := h
  refine ⟨n, h1, e49 n h2, ?_⟩
  unfold mtc at *
  rw [e47, e48]
  exact h3
theorem cvd_mv {M M' : zM} {J J' : zJ} {B : Int → Int64} (h : cvd M J B) (e47 : M' 47 = M 47) (e48 : J' 48 = J 48) (e49 : ∀ n : Int, ¬ M 49 n = 0 → ¬ M' 49 n = 0) : cvd M' J' B := fun d i a b c e q => liv_mv (h d i a b c e q) e47 e48 e49
theorem liv_P {M : zM} {J : zJ} {d : Int} {P P' : Int → Int64} (h : liv M J d P) (e : ∀ k : Int, 0 ≤ k → k < 4 → P k = P' k) : liv M J d P' := by
  obtain ⟨n, h1, h2, h3⟩ := h
  exact ⟨n, h1, h2, mtc_congr e h3⟩
/-- covered ahead: covered still, and no node more is in use -/
def cvk (M : zM) (J : zJ) (B : Int → Int64) (u : Int) (M1 : zM) (J1 : zJ) : Prop := cvd M J B → cvd M1 J1 B ∧ M1 31 24 = u
theorem cvk_0 {M : zM} {J : zJ} {B : Int → Int64} {f : Int} : cvk M J B (M 31 24) (ad0 M f) J := fun h => ⟨cvd_mv h (ad0_o (by decide) (by decide) (by decide)) rfl (fun n q => by rw [ad0_o (by decide) (by decide) (by decide)]; exact q), ad0_31 (by decide)⟩
theorem cvk_J {M M1 : zM} {J J1 J2 : zJ} {B : Int → Int64} {u : Int} (h : cvk M J B u M1 J1) (e : J2 48 = J1 48) : cvk M J B u M1 J2 := fun q => ⟨cvd_mv (h q).1 rfl e (fun _ z => z), (h q).2⟩
theorem cvk_nf {M M1 M2 : zM} {J J1 J2 : zJ} {B : Int → Int64} {u f k u0 d i x : Int} {ch : List Int} (h : cvk M J B u M1 J1) (hT : TIm M1 J1 f k u0) (hch : chn (M1 50) (M1 51 (bkt d (J1 53))) ch) (hq : nfQ M1 J1 d ch x M2 J2) (h0 : 0 ≤ d) (h1 : d ≤ 7) (i0 : 0 ≤ i) (i1 : i < zshl 1 d) (hl : lyR B d i = true) (hP : ∀ j : Int, 0 ≤ j → j < 4 → J1 53 j = lyP B d i j) : cvk M J B u M2 J2 ∧ (cvd M J B → ¬ M2 49 x = 0) := by
  have key : cvd M J B → M2 = M1 ∧ J2 = J1 ∧ ¬ M1 49 x = 0 := fun q => nf_liv hT hch hq (liv_P ((h q).1 d i h0 h1 i0 i1 hl) (fun j a b => (hP j a b).symm))
  refine ⟨fun q => ?_, fun q => ?_⟩
  · obtain ⟨e1, e2, -⟩ := key q
    rw [e1, e2]
    exact h q
  · obtain ⟨e1, -, e3⟩ := key q
    rw [e1]
    exact e3
theorem cvk_pu {M M1 : zM} {J J1 : zJ} {B : Int → Int64} {u f x : Int} (h : cvk M J B u M1 J1) (hx : cvd M J B → ¬ M1 49 x = 0) (h49 : 0 ≤ M1 49 x) : cvk M J B u (puM M1 f x) J1 := fun q => by
  refine ⟨cvd_mv (h q).1 (puM_o (by decide)) rfl (fun n z => ?_), ?_⟩
  · rw [puM_49]
    by_cases e : n = x
    · rw [e, updI_s]; omega
    · rw [updI_n e]; exact z
  · rw [puM_24, if_neg (hx q), (h q).2]
    omega
set_option maxRecDepth 20000 in
theorem zX4_add {G : tl_G} {M : zM} {J : zJ} {f : Int} (f0 : 0 ≤ f) (f1 : f < 56) (hT : TI M J) (hf : M 43 f = 0) (hu : M 31 24 ≤ 250) (hk : M 31 27 < 2147483647) : ZN G yX4_add mX4_add 2 kAd [vR 31, vI f] F1 M J (qV (fun M' J' => TI M' J' ∧ ¬ M' 43 f = 0 ∧ M' 31 27 = M 31 27 + 1 ∧ M' 31 24 ≤ M 31 24 + 255 ∧ adf M M' f ∧ (cvd M J (bitF J f) → M' 31 24 = M 31 24))) := by
  refine ZN_of (L := [_, _, _, _, _]) (by decide) rfl rfl (Nat.le_of_ble_eq_true rfl) rfl (fun hav => ?_)
  refine Z_aload_n (n := 1) dX4_add_0 rfl rfl ?_
  refine Z_getA (n := 4) dX4_add_1 rfl ffX4_44 rfl rfl ?_
  refine Z_iload_n (n := 5) dX4_add_4 rfl rfl ?_
  refine Z_iconst (n := 6) dX4_add_5 rfl (by decide) ?_
  refine Z_zast (n := 7) dX4_add_6 rfl rfl rfl (by first | decide | assumption) (by omega) (by omega) (by first | assumption | omega | decide) (by first | assumption | omega | decide) (by decide) ?_
  refine Z_aload_n (n := 8) dX4_add_7 rfl rfl ?_
  refine Z_getA (n := 11) dX4_add_8 rfl ffX4_51 rfl rfl ?_
  refine Z_iload_n (n := 12) dX4_add_11 rfl rfl ?_
  refine Z_iconst (n := 13) dX4_add_12 rfl (by decide) ?_
  refine Z_iast (n := 14) dX4_add_13 rfl rfl rfl (by first | decide | assumption) (by omega) (by omega) (by first | assumption | omega | decide) (by first | assumption | omega | decide) (by decide) ?_
  refine Z_aload_n (n := 15) dX4_add_14 rfl rfl ?_
  refine Z_dup (n := 16) dX4_add_15 rfl rfl ?_
  refine Z_getI (n := 19) (ki := 27) dX4_add_16 rfl ffX4_160 rfl rfl rfl (fun r16 s16 => ?_)
  try simp only [uz_oo (show (31 : Nat) ≠ 45 by decide), uz_oo (show (31 : Nat) ≠ 43 by decide)] at r16 s16 ⊢
  refine Z_iconst (n := 20) dX4_add_19 rfl (by decide) ?_
  refine Z_iadd (n := 21) dX4_add_20 rfl (by omega) ?_
  refine Z_putI (n := 24) (ki := 27) dX4_add_21 rfl ffX4_160 rfl (by decide) rfl rfl (by first | assumption | omega | decide) (by first | assumption | omega | decide) (by decide) ?_
  have st4 : ad0 M f 45 f ≤ zshl 1 0 - 1 := by rw [ad0_45, updI_s]; decide
  refine Z_iconst (n := 25) dX4_add_24 rfl (by decide) ?_
  refine Z_istore_n (L' := [_, _, _, _, _]) (n := 26) dX4_add_25 rfl (by decide) rfl rfl ?_
  have lp26 : ∀ (N26 : Nat) (d : Int) (M26 : zM) (J26 : zJ), ((8 - d).toNat) < N26 → (0 ≤ d) → (d ≤ 8) → (TIm M26 J26 f (M 31 27 + 1) (M 31 24)) → (cov M26 J26 (bitF J f) f d 0) → (M26 45 f ≤ zshl 1 d - 1) → (adf M M26 f) → (cvk M J (bitF J f) (M 31 24) M26 J26) → (cvr M26 J26 (bitF J f) f) → TZ G mX4_add (tl_rm 2 0 0) 0 0 kAd M J 26 [some (vR 31), some (vI f), some (vI d), none, none] [] F1 M26 J26 (ZM G (zPost G kAd F1 M J (qV (fun M' J' => TI M' J' ∧ ¬ M' 43 f = 0 ∧ M' 31 27 = M 31 27 + 1 ∧ M' 31 24 ≤ M 31 24 + 255 ∧ adf M M' f ∧ (cvd M J (bitF J f) → M' 31 24 = M 31 24)))) 0 0) := by
    intro N26
    induction N26 with
    | zero => intro d M26 J26 hN; omega
    | succ N26 ih26 =>
      intro d M26 J26 hN26 i26_0 i26_1 i26_2 i26_3 i26_4 i26_5 i26_6 i26_7
      refine Z_iload_n (n := 27) dX4_add_26 rfl rfl ?_
      refine Z_bipush (n := 29) dX4_add_27 rfl (by decide) (by decide) ?_
      refine Z_icmp_ge (n := 32) (t := 159) dX4_add_29 rfl (by decide) (fun c29 => ?_) (fun c29 => ?_)
      · refine Z_fr (fun fr26 => ?_)
        refine Z_vret dX4_add_159 rfl ?_
        obtain ⟨-, -, -, -, w5, w6, w7, -⟩ := id i26_2
        have hd8 : d = 8 := by omega
        subst hd8
        refine ⟨?_, w5, w6, ?_, i26_5, fun q => (i26_6 q).2⟩
        · refine TI_of i26_2 ?_ ?_
          · rw [bitF_congr (fr26 44 (by decide)).2 f]
            exact i26_3
          · rw [bitF_congr (fr26 44 (by decide)).2 f]
            exact i26_7
        · have := i26_4
          have z : zshl 1 8 = 256 := by decide +kernel
          omega
      · have hs := zshl1 (d := d) (by omega) (by omega)
        have hs2 := zshl_up (d := d) (by omega) (by omega)
        refine Z_iconst (n := 33) dX4_add_32 rfl (by decide) ?_
        refine Z_istore_n (L' := [_, _, _, _, _]) (n := 34) dX4_add_33 rfl (by decide) rfl rfl ?_
        have lp34 : ∀ (N34 : Nat) (i : Int) (M34 : zM) (J34 : zJ), ((zshl 1 d - i).toNat) < N34 → (0 ≤ i) → (i ≤ zshl 1 d) → (TIm M34 J34 f (M 31 27 + 1) (M 31 24)) → (cov M34 J34 (bitF J f) f d i) → (M34 45 f ≤ zshl 1 d - 1 + i) → (adf M M34 f) → (cvk M J (bitF J f) (M 31 24) M34 J34) → (cvr M34 J34 (bitF J f) f) → TZ G mX4_add (tl_rm 2 0 0) 0 0 kAd M J 34 [some (vR 31), some (vI f), some (vI d), some (vI i), none] [] F1 M34 J34 (ZM G (zPost G kAd F1 M J (qV (fun M' J' => TI M' J' ∧ ¬ M' 43 f = 0 ∧ M' 31 27 = M 31 27 + 1 ∧ M' 31 24 ≤ M 31 24 + 255 ∧ adf M M' f ∧ (cvd M J (bitF J f) → M' 31 24 = M 31 24)))) 0 0) := by
          intro N34
          induction N34 with
          | zero => intro i M34 J34 hN; omega
          | succ N34 ih34 =>
            intro i M34 J34 hN34 i34_0 i34_1 i34_2 i34_3 i34_4 i34_5 i34_6 i34_7
            refine Z_iload_n (n := 35) dX4_add_34 rfl rfl ?_
            refine Z_iconst (n := 36) dX4_add_35 rfl (by decide) ?_
            refine Z_iload_n (n := 37) dX4_add_36 rfl rfl ?_
            refine Z_ishl (n := 38) dX4_add_37 rfl ?_
            refine Z_icmp_ge (n := 41) (t := 153) dX4_add_38 rfl (by decide) (fun c38 => ?_) (fun c38 => ?_)
            · refine Z_iinc (L' := [_, _, _, _, _]) (n := 156) dX4_add_153 rfl rfl (by decide) rfl rfl (by omega) rfl ?_
              refine Z_goto (t := 26) dX4_add_156 (by decide) ?_
              refine Z_loc (L' := [some _, some _, some _, none, none]) (lsub_same (lsub_same (lsub_same (lsub_none (lsub_none lsub_nil))))) ?_
              exact ih26 _ _ _ (by omega) (by first | assumption | omega | decide) (by first | assumption | omega | decide) (by exact i34_2) (by exact cov_lv i34_3 (by omega)) (by omega) (by exact i34_5) (by exact i34_6) (by exact i34_7)
            · refine Z_fr (fun fr34 => ?_)
              refine Z_ok (fun ok34 => ?_)
              have hBe : bitF J34 f = bitF J f := bitF_congr (fr34 44 (by decide)).2 f
              have nm34 : 0 ≤ M34 45 f ∧ M34 45 f ≤ 255 := ok34 45 f
              refine Z_aload_n (n := 42) dX4_add_41 rfl rfl ?_
              refine Z_iload_n (n := 43) dX4_add_42 rfl rfl ?_
              refine Z_iload_n (n := 44) dX4_add_43 rfl rfl ?_
              refine Z_iload_n (n := 45) dX4_add_44 rfl rfl ?_
              refine Z_callVi (n := 48) [_, _, _] _ dX4_add_45 rfl cwX4_163 rfl rfl rfl (Nat.le_of_ble_eq_true rfl) (by refine ⟨?_, ?_, ?_, ?_⟩ <;> exact Nat.le_of_ble_eq_true rfl) (fun a h => by unfold kAd at h; unfold kPart; omega) (zX4_lays  (by first | assumption | omega | decide) (by first | assumption | omega | decide) (by first | assumption | omega | decide) (by first | assumption | omega | decide) (by first | assumption | omega | decide) (by first | assumption | omega | decide)) ?_
              intro x45 M45 J45 z45 f45 q45
              obtain ⟨e45_1, h45⟩ := q45
              replace e45_1 := e45_1.symm; subst e45_1
              have tm45 := TIm_J (f45 48 (by decide)).2 (f45 44 (by decide)).2 i34_2
              refine Z_if_eq (n := 51) (t := 147) dX4_add_48 rfl (by decide) (fun c48 => ?_) (fun c48 => ?_)
              · have tmX := tm45
                have cvX : cov M34 J45 (bitF J f) f d (i + 1) := cov_st (cov_J i34_3 (f45 48 (by decide)).2) (fun m d' P a b => ⟨a, b⟩) (fun q => by
                  rcases h45 with ⟨z, -⟩ | ⟨-, z⟩
                  · omega
                  · rw [hBe, q] at z; cases z)
                have nmX : M34 45 f ≤ zshl 1 d - 1 + (i + 1) := by omega
                have adX := i34_5
                have ckX := cvk_J i34_6 (f45 48 (by decide)).2
                have crX := cvr_J i34_7 (f45 48 (by decide)).2
                refine Z_iinc (L' := [_, _, _, _, _]) (n := 150) dX4_add_147 rfl rfl (by decide) rfl rfl (by omega) rfl ?_
                refine Z_goto (t := 34) dX4_add_150 (by decide) ?_
                refine Z_loc (L' := [some _, some _, some _, some _, none]) (lsub_same (lsub_same (lsub_same (lsub_same (lsub_none lsub_nil))))) ?_
                exact ih34 _ _ _ (by omega) (by first | assumption | omega | decide) (by first | assumption | omega | decide) (by exact tmX) (by exact cvX) (by exact nmX) (by exact adX) (by exact ckX) (by exact crX)
              · obtain ⟨hly, hP⟩ : lyR (bitF J f) d i = true ∧ ∀ j : Int, 0 ≤ j → j < 4 → J45 53 j = lyP (bitF J f) d i j := by
                  rcases h45 with ⟨-, a1, a2⟩ | ⟨a1, -⟩
                  · rw [hBe] at a1 a2; exact ⟨a1, a2⟩
                  · omega
                obtain ⟨ch, hch, hnf, hres⟩ := push (d := d) tm45 ok34 f0 f1 (by omega) (by omega)
                refine Z_aload_n (n := 52) dX4_add_51 rfl rfl ?_
                refine Z_iload_n (n := 53) dX4_add_52 rfl rfl ?_
                refine Z_callVi (n := 56) [_] _ dX4_add_53 rfl cwX4_166 rfl rfl rfl (Nat.le_of_ble_eq_true rfl) (by refine ⟨?_, ?_, ?_, ?_⟩ <;> exact Nat.le_of_ble_eq_true rfl) (fun a h => by unfold kAd at h; unfold kNF; omega) (zX4_nodeFor (ch := ch) (by omega) (by omega) (by exact hch) (by exact hnf)) ?_
                intro x53 M53 J53 z53 f53 q53
                obtain ⟨⟨x0, x1⟩, ⟨u53, e45, e27⟩, pE, pN, mt53, keep53⟩ := hres _ _ _ f53 q53
                have ad53 := adf_nf i34_5 q53
                obtain ⟨ck53, cx53⟩ := cvk_nf (cvk_J i34_6 (f45 48 (by decide)).2) tm45 hch q53 (by omega) (by omega) i34_0 (by omega) hly hP
                have e46 : M53 46 = M34 46 := (f53 46 (by decide)).1
                have nm53 : M53 45 f = M34 45 f := congrFun e45 f
                have mtL : mtc M53 J53 x53 d (lyP (bitF J f) d i) := mtc_congr hP mt53
                have kp : ∀ (m d' : Int) (P : Int → Int64), inS M34 f 0 m → mtc M34 J45 m d' P → inS M53 f 0 m ∧ mtc M53 J53 m d' P := fun m d' P a b => ⟨by unfold inS; rw [e45, e46]; exact a, keep53 m d' P a b⟩
                have cr53 : cvr M53 J53 (bitF J f) f := fun m hm => by
                  have hm' : inS M34 f 0 m := by unfold inS at hm ⊢; rw [e45, e46] at hm; exact hm
                  obtain ⟨d', i', a1, a2, a3⟩ := cvr_J i34_7 (f45 48 (by decide)).2 m hm'
                  exact ⟨d', i', a1, a2, (kp m d' _ hm' a3).2⟩
                refine Z_istore (L' := [_, _, _, _, _]) (n := 58) dX4_add_56 rfl (by decide) rfl rfl ?_
                refine Z_aload_n (n := 59) dX4_add_58 rfl rfl ?_
                refine Z_getA (n := 62) dX4_add_59 rfl ffX4_72 rfl rfl ?_
                refine Z_iload (n := 64) dX4_add_62 rfl rfl ?_
                refine Z_iald (n := 65) dX4_add_64 rfl rfl rfl (by first | decide | assumption) (by omega) (by omega) (fun r64 s64 => ?_)
                refine Z_aload_n (n := 66) dX4_add_65 rfl rfl ?_
                refine Z_getI (n := 69) (ki := 27) dX4_add_66 rfl ffX4_160 rfl rfl rfl (fun r66 s66 => ?_)
                refine Z_icmp_eq (n := 72) (t := 147) dX4_add_69 rfl (by decide) (fun c69 => ?_) (fun c69 => ?_)
                · obtain ⟨tmX, inE⟩ := pE (by omega)
                  have cvX : cov M53 J53 (bitF J f) f d (i + 1) := cov_st (cov_J i34_3 (f45 48 (by decide)).2) kp (fun _ => ⟨x53, inE, mtL⟩)
                  have nmX : M53 45 f ≤ zshl 1 d - 1 + (i + 1) := by omega
                  have adX := ad53
                  have ckX := ck53
                  have crX := cr53
                  refine Z_iinc (L' := [_, _, _, _, _]) (n := 150) dX4_add_147 rfl rfl (by decide) rfl rfl (by omega) rfl ?_
                  refine Z_goto (t := 34) dX4_add_150 (by decide) ?_
                  refine Z_loc (L' := [some _, some _, some _, some _, none]) (lsub_same (lsub_same (lsub_same (lsub_same (lsub_none lsub_nil))))) ?_
                  exact ih34 _ _ _ (by omega) (by first | assumption | omega | decide) (by first | assumption | omega | decide) (by exact tmX) (by exact cvX) (by exact nmX) (by exact adX) (by exact ckX) (by exact crX)
                · have pN2 := pN (by omega)
                  refine Z_rg 49 x53 rfl (fun g49 g49b => ?_)
                  refine Z_rg 31 24 rfl (fun g24 g24b => ?_)
                  refine Z_aload_n (n := 73) dX4_add_72 rfl rfl ?_
                  refine Z_getA (n := 76) dX4_add_73 rfl ffX4_72 rfl rfl ?_
                  refine Z_iload (n := 78) dX4_add_76 rfl rfl ?_
                  refine Z_aload_n (n := 79) dX4_add_78 rfl rfl ?_
                  refine Z_getI (n := 82) (ki := 27) dX4_add_79 rfl ffX4_160 rfl rfl rfl (fun r79 s79 => ?_)
                  refine Z_iast (n := 83) dX4_add_82 rfl rfl rfl (by first | decide | assumption) (by omega) (by omega) (by first | assumption | omega | decide) (by first | assumption | omega | decide) (by decide) ?_
                  refine Z_aload_n (n := 84) dX4_add_83 rfl rfl ?_
                  refine Z_dup (n := 85) dX4_add_84 rfl rfl ?_
                  refine Z_getI (n := 88) (ki := 24) dX4_add_85 rfl ffX4_149 rfl rfl rfl (fun r85 s85 => ?_)
                  try simp only [uz_oo (show (31 : Nat) ≠ 52 by decide), uz_oo (show (49 : Nat) ≠ 52 by decide), uz_oo (show (49 : Nat) ≠ 31 by decide), uz_oo (show (45 : Nat) ≠ 49 by decide), uz_oo (show (45 : Nat) ≠ 31 by decide), uz_oo (show (45 : Nat) ≠ 52 by decide), uz_oo (show (45 : Nat) ≠ 46 by decide), uz_oo (show (52 : Nat) ≠ 31 by decide)] at r85 s85 ⊢
                  refine Z_aload_n (n := 89) dX4_add_88 rfl rfl ?_
                  refine Z_getA (n := 92) dX4_add_89 rfl ffX4_63 rfl rfl ?_
                  refine Z_iload (n := 94) dX4_add_92 rfl rfl ?_
                  refine Z_iald (n := 95) dX4_add_94 rfl rfl rfl (by first | decide | assumption) (by omega) (by omega) (fun r94 s94 => ?_)
                  try simp only [uz_oo (show (31 : Nat) ≠ 52 by decide), uz_oo (show (49 : Nat) ≠ 52 by decide), uz_oo (show (49 : Nat) ≠ 31 by decide), uz_oo (show (45 : Nat) ≠ 49 by decide), uz_oo (show (45 : Nat) ≠ 31 by decide), uz_oo (show (45 : Nat) ≠ 52 by decide), uz_oo (show (45 : Nat) ≠ 46 by decide), uz_oo (show (52 : Nat) ≠ 31 by decide)] at r94 s94 ⊢
                  refine Z_if_ne (n := 98) (t := 102) dX4_add_95 rfl (by decide) (fun c95 => ?_) (fun c95 => ?_)
                  · refine Z_iconst (n := 103) dX4_add_102 rfl (by decide) ?_
                    refine Z_iadd (n := 104) dX4_add_103 rfl (by omega) ?_
                    refine Z_putI (n := 107) (ki := 24) dX4_add_104 rfl ffX4_149 rfl (by decide) rfl rfl (by first | assumption | omega | decide) (by first | assumption | omega | decide) (by decide) ?_
                    refine Z_aload_n (n := 108) dX4_add_107 rfl rfl ?_
                    refine Z_getA (n := 111) dX4_add_108 rfl ffX4_63 rfl rfl ?_
                    refine Z_iload (n := 113) dX4_add_111 rfl rfl ?_
                    refine Z_dup2 (n := 114) dX4_add_113 rfl rfl rfl ?_
                    refine Z_iald (n := 115) dX4_add_114 rfl rfl rfl (by first | decide | assumption) (by omega) (by omega) (fun r114 s114 => ?_)
                    try simp only [uz_oo (show (31 : Nat) ≠ 52 by decide), uz_oo (show (49 : Nat) ≠ 52 by decide), uz_oo (show (49 : Nat) ≠ 31 by decide), uz_oo (show (45 : Nat) ≠ 49 by decide), uz_oo (show (45 : Nat) ≠ 31 by decide), uz_oo (show (45 : Nat) ≠ 52 by decide), uz_oo (show (45 : Nat) ≠ 46 by decide), uz_oo (show (52 : Nat) ≠ 31 by decide)] at r114 s114 ⊢
                    refine Z_iconst (n := 116) dX4_add_115 rfl (by decide) ?_
                    refine Z_iadd (n := 117) dX4_add_116 rfl (by omega) ?_
                    refine Z_iast (n := 118) dX4_add_117 rfl rfl rfl (by first | decide | assumption) (by omega) (by omega) (by first | assumption | omega | decide) (by first | assumption | omega | decide) (by decide) ?_
                    refine Z_aload_n (n := 119) dX4_add_118 rfl rfl ?_
                    refine Z_getA (n := 122) dX4_add_119 rfl ffX4_54 rfl rfl ?_
                    refine Z_sipush (n := 125) dX4_add_122 rfl (by decide) (by decide) ?_
                    refine Z_iload_n (n := 126) dX4_add_125 rfl rfl ?_
                    refine Z_imul (n := 127) dX4_add_126 rfl (by omega) ?_
                    refine Z_aload_n (n := 128) dX4_add_127 rfl rfl ?_
                    refine Z_getA (n := 131) dX4_add_128 rfl ffX4_51 rfl rfl ?_
                    refine Z_iload_n (n := 132) dX4_add_131 rfl rfl ?_
                    refine Z_iald (n := 133) dX4_add_132 rfl rfl rfl (by first | decide | assumption) (by omega) (by omega) (fun r132 s132 => ?_)
                    try simp only [uz_oo (show (31 : Nat) ≠ 52 by decide), uz_oo (show (49 : Nat) ≠ 52 by decide), uz_oo (show (49 : Nat) ≠ 31 by decide), uz_oo (show (45 : Nat) ≠ 49 by decide), uz_oo (show (45 : Nat) ≠ 31 by decide), uz_oo (show (45 : Nat) ≠ 52 by decide), uz_oo (show (45 : Nat) ≠ 46 by decide), uz_oo (show (52 : Nat) ≠ 31 by decide)] at r132 s132 ⊢
                    refine Z_iadd (n := 134) dX4_add_133 rfl (by omega) ?_
                    refine Z_iload (n := 136) dX4_add_134 rfl rfl ?_
                    refine Z_iast (n := 137) dX4_add_136 rfl rfl rfl (by first | decide | assumption) (by omega) (by omega) (by first | assumption | omega | decide) (by first | assumption | omega | decide) (by decide) ?_
                    refine Z_aload_n (n := 138) dX4_add_137 rfl rfl ?_
                    refine Z_getA (n := 141) dX4_add_138 rfl ffX4_51 rfl rfl ?_
                    refine Z_iload_n (n := 142) dX4_add_141 rfl rfl ?_
                    refine Z_dup2 (n := 143) dX4_add_142 rfl rfl rfl ?_
                    refine Z_iald (n := 144) dX4_add_143 rfl rfl rfl (by first | decide | assumption) (by omega) (by omega) (fun r143 s143 => ?_)
                    try simp only [uz_oo (show (31 : Nat) ≠ 52 by decide), uz_oo (show (49 : Nat) ≠ 52 by decide), uz_oo (show (49 : Nat) ≠ 31 by decide), uz_oo (show (45 : Nat) ≠ 49 by decide), uz_oo (show (45 : Nat) ≠ 31 by decide), uz_oo (show (45 : Nat) ≠ 52 by decide), uz_oo (show (45 : Nat) ≠ 46 by decide), uz_oo (show (52 : Nat) ≠ 31 by decide)] at r143 s143 ⊢
                    refine Z_iconst (n := 145) dX4_add_144 rfl (by decide) ?_
                    refine Z_iadd (n := 146) dX4_add_145 rfl (by omega) ?_
                    refine Z_iast (n := 147) dX4_add_146 rfl rfl rfl (by first | decide | assumption) (by omega) (by omega) (by first | assumption | omega | decide) (by first | assumption | omega | decide) (by decide) ?_
                    refine Z_nm (fun M146 e146 => ?_)
                    have e2 : M146 = puM M53 f x53 := by
                      rw [e146]
                      unfold puM
                      first | rw [if_pos (by assumption)] | rw [if_neg (by assumption)]
                    have tmX : TIm M146 J53 f (M 31 27 + 1) (M 31 24) := by rw [e2]; exact pN2.1
                    have hM53 : ∀ g : Int, 0 ≤ M53 45 g ∧ M53 45 g ≤ 255 := fun g => by rw [e45]; exact ok34 45 g
                    have iN : ∀ m : Int, inS M146 f 0 m ↔ (inS M53 f 0 m ∨ (f = f ∧ m = x53)) := fun m => by rw [e2]; exact puM_inS f0 f0 hM53 (by omega) (by decide) (hM53 f).1
                    have mN : ∀ (m d' : Int) (P : Int → Int64), mtc M53 J53 m d' P → mtc M146 J53 m d' P := fun m d' P a => by
                      unfold mtc at *
                      rw [e2, puM_o (by decide)]
                      exact a
                    have cvX : cov M146 J53 (bitF J f) f d (i + 1) := cov_st (cov_J i34_3 (f45 48 (by decide)).2) (fun m d' P a b => ⟨(iN m).mpr (Or.inl (kp m d' P a b).1), mN m d' P (kp m d' P a b).2⟩) (fun _ => ⟨x53, (iN x53).mpr (Or.inr ⟨rfl, rfl⟩), mN _ _ _ mtL⟩)
                    have nmX : M146 45 f ≤ zshl 1 d - 1 + (i + 1) := by rw [e2, puM_45, updI_s]; omega
                    have adX : adf M M146 f := by rw [e2]; exact adf_pu ad53 (by omega) (by omega)
                    have ckX : cvk M J (bitF J f) (M 31 24) M146 J53 := by rw [e2]; exact cvk_pu ck53 cx53 g49
                    have crX : cvr M146 J53 (bitF J f) f := fun m hm => by
                      rcases (iN m).mp hm with z | ⟨-, z⟩
                      · obtain ⟨d', i', a1, a2, a3⟩ := cr53 m z
                        exact ⟨d', i', a1, a2, mN _ _ _ a3⟩
                      · exact ⟨d, i, by omega, hly, by rw [z]; exact mN _ _ _ mtL⟩
                    clear e146
                    refine Z_iinc (L' := [_, _, _, _, _]) (n := 150) dX4_add_147 rfl rfl (by decide) rfl rfl (by omega) rfl ?_
                    refine Z_goto (t := 34) dX4_add_150 (by decide) ?_
                    refine Z_loc (L' := [some _, some _, some _, some _, none]) (lsub_same (lsub_same (lsub_same (lsub_same (lsub_none lsub_nil))))) ?_
                    exact ih34 _ _ _ (by omega) (by first | assumption | omega | decide) (by first | assumption | omega | decide) (by exact tmX) (by exact cvX) (by exact nmX) (by exact adX) (by exact ckX) (by exact crX)
                  · refine Z_iconst (n := 99) dX4_add_98 rfl (by decide) ?_
                    refine Z_goto (t := 103) dX4_add_99 (by decide) ?_
                    refine Z_iadd (n := 104) dX4_add_103 rfl (by omega) ?_
                    refine Z_putI (n := 107) (ki := 24) dX4_add_104 rfl ffX4_149 rfl (by decide) rfl rfl (by first | assumption | omega | decide) (by first | assumption | omega | decide) (by decide) ?_
                    refine Z_aload_n (n := 108) dX4_add_107 rfl rfl ?_
                    refine Z_getA (n := 111) dX4_add_108 rfl ffX4_63 rfl rfl ?_
                    refine Z_iload (n := 113) dX4_add_111 rfl rfl ?_
                    refine Z_dup2 (n := 114) dX4_add_113 rfl rfl rfl ?_
                    refine Z_iald (n := 115) dX4_add_114 rfl rfl rfl (by first | decide | assumption) (by omega) (by omega) (fun r114 s114 => ?_)
                    try simp only [uz_oo (show (31 : Nat) ≠ 52 by decide), uz_oo (show (49 : Nat) ≠ 52 by decide), uz_oo (show (49 : Nat) ≠ 31 by decide), uz_oo (show (45 : Nat) ≠ 49 by decide), uz_oo (show (45 : Nat) ≠ 31 by decide), uz_oo (show (45 : Nat) ≠ 52 by decide), uz_oo (show (45 : Nat) ≠ 46 by decide), uz_oo (show (52 : Nat) ≠ 31 by decide)] at r114 s114 ⊢
                    refine Z_iconst (n := 116) dX4_add_115 rfl (by decide) ?_
                    refine Z_iadd (n := 117) dX4_add_116 rfl (by omega) ?_
                    refine Z_iast (n := 118) dX4_add_117 rfl rfl rfl (by first | decide | assumption) (by omega) (by omega) (by first | assumption | omega | decide) (by first | assumption | omega | decide) (by decide) ?_
                    refine Z_aload_n (n := 119) dX4_add_118 rfl rfl ?_
                    refine Z_getA (n := 122) dX4_add_119 rfl ffX4_54 rfl rfl ?_
                    refine Z_sipush (n := 125) dX4_add_122 rfl (by decide) (by decide) ?_
                    refine Z_iload_n (n := 126) dX4_add_125 rfl rfl ?_
                    refine Z_imul (n := 127) dX4_add_126 rfl (by omega) ?_
                    refine Z_aload_n (n := 128) dX4_add_127 rfl rfl ?_
                    refine Z_getA (n := 131) dX4_add_128 rfl ffX4_51 rfl rfl ?_
                    refine Z_iload_n (n := 132) dX4_add_131 rfl rfl ?_
                    refine Z_iald (n := 133) dX4_add_132 rfl rfl rfl (by first | decide | assumption) (by omega) (by omega) (fun r132 s132 => ?_)
                    try simp only [uz_oo (show (31 : Nat) ≠ 52 by decide), uz_oo (show (49 : Nat) ≠ 52 by decide), uz_oo (show (49 : Nat) ≠ 31 by decide), uz_oo (show (45 : Nat) ≠ 49 by decide), uz_oo (show (45 : Nat) ≠ 31 by decide), uz_oo (show (45 : Nat) ≠ 52 by decide), uz_oo (show (45 : Nat) ≠ 46 by decide), uz_oo (show (52 : Nat) ≠ 31 by decide)] at r132 s132 ⊢
                    refine Z_iadd (n := 134) dX4_add_133 rfl (by omega) ?_
                    refine Z_iload (n := 136) dX4_add_134 rfl rfl ?_
                    refine Z_iast (n := 137) dX4_add_136 rfl rfl rfl (by first | decide | assumption) (by omega) (by omega) (by first | assumption | omega | decide) (by first | assumption | omega | decide) (by decide) ?_
                    refine Z_aload_n (n := 138) dX4_add_137 rfl rfl ?_
                    refine Z_getA (n := 141) dX4_add_138 rfl ffX4_51 rfl rfl ?_
                    refine Z_iload_n (n := 142) dX4_add_141 rfl rfl ?_
                    refine Z_dup2 (n := 143) dX4_add_142 rfl rfl rfl ?_
                    refine Z_iald (n := 144) dX4_add_143 rfl rfl rfl (by first | decide | assumption) (by omega) (by omega) (fun r143 s143 => ?_)
                    try simp only [uz_oo (show (31 : Nat) ≠ 52 by decide), uz_oo (show (49 : Nat) ≠ 52 by decide), uz_oo (show (49 : Nat) ≠ 31 by decide), uz_oo (show (45 : Nat) ≠ 49 by decide), uz_oo (show (45 : Nat) ≠ 31 by decide), uz_oo (show (45 : Nat) ≠ 52 by decide), uz_oo (show (45 : Nat) ≠ 46 by decide), uz_oo (show (52 : Nat) ≠ 31 by decide)] at r143 s143 ⊢
                    refine Z_iconst (n := 145) dX4_add_144 rfl (by decide) ?_
                    refine Z_iadd (n := 146) dX4_add_145 rfl (by omega) ?_
                    refine Z_iast (n := 147) dX4_add_146 rfl rfl rfl (by first | decide | assumption) (by omega) (by omega) (by first | assumption | omega | decide) (by first | assumption | omega | decide) (by decide) ?_
                    refine Z_nm (fun M146 e146 => ?_)
                    have e2 : M146 = puM M53 f x53 := by
                      rw [e146]
                      unfold puM
                      first | rw [if_pos (by assumption)] | rw [if_neg (by assumption)]
                    have tmX : TIm M146 J53 f (M 31 27 + 1) (M 31 24) := by rw [e2]; exact pN2.1
                    have hM53 : ∀ g : Int, 0 ≤ M53 45 g ∧ M53 45 g ≤ 255 := fun g => by rw [e45]; exact ok34 45 g
                    have iN : ∀ m : Int, inS M146 f 0 m ↔ (inS M53 f 0 m ∨ (f = f ∧ m = x53)) := fun m => by rw [e2]; exact puM_inS f0 f0 hM53 (by omega) (by decide) (hM53 f).1
                    have mN : ∀ (m d' : Int) (P : Int → Int64), mtc M53 J53 m d' P → mtc M146 J53 m d' P := fun m d' P a => by
                      unfold mtc at *
                      rw [e2, puM_o (by decide)]
                      exact a
                    have cvX : cov M146 J53 (bitF J f) f d (i + 1) := cov_st (cov_J i34_3 (f45 48 (by decide)).2) (fun m d' P a b => ⟨(iN m).mpr (Or.inl (kp m d' P a b).1), mN m d' P (kp m d' P a b).2⟩) (fun _ => ⟨x53, (iN x53).mpr (Or.inr ⟨rfl, rfl⟩), mN _ _ _ mtL⟩)
                    have nmX : M146 45 f ≤ zshl 1 d - 1 + (i + 1) := by rw [e2, puM_45, updI_s]; omega
                    have adX : adf M M146 f := by rw [e2]; exact adf_pu ad53 (by omega) (by omega)
                    have ckX : cvk M J (bitF J f) (M 31 24) M146 J53 := by rw [e2]; exact cvk_pu ck53 cx53 g49
                    have crX : cvr M146 J53 (bitF J f) f := fun m hm => by
                      rcases (iN m).mp hm with z | ⟨-, z⟩
                      · obtain ⟨d', i', a1, a2, a3⟩ := cr53 m z
                        exact ⟨d', i', a1, a2, mN _ _ _ a3⟩
                      · exact ⟨d, i, by omega, hly, by rw [z]; exact mN _ _ _ mtL⟩
                    clear e146
                    refine Z_iinc (L' := [_, _, _, _, _]) (n := 150) dX4_add_147 rfl rfl (by decide) rfl rfl (by omega) rfl ?_
                    refine Z_goto (t := 34) dX4_add_150 (by decide) ?_
                    refine Z_loc (L' := [some _, some _, some _, some _, none]) (lsub_same (lsub_same (lsub_same (lsub_same (lsub_none lsub_nil))))) ?_
                    exact ih34 _ _ _ (by omega) (by first | assumption | omega | decide) (by first | assumption | omega | decide) (by exact tmX) (by exact cvX) (by exact nmX) (by exact adX) (by exact ckX) (by exact crX)
        refine Z_loc (L' := [some _, some _, some _, some _, none]) (lsub_same (lsub_same (lsub_same (lsub_same (lsub_none lsub_nil))))) ?_
        exact lp34 _ _ _ _ (Nat.lt_succ_self _) (by first | assumption | omega | decide) (by first | assumption | omega | decide) (by exact i26_2) (by exact i26_3) (by omega) (by exact i26_5) (by exact i26_6) (by exact i26_7)
  refine Z_loc (L' := [some _, some _, some _, none, none]) (lsub_same (lsub_same (lsub_same (lsub_none (lsub_none lsub_nil))))) ?_
  exact lp26 _ _ _ _ (Nat.lt_succ_self _) (by first | assumption | omega | decide) (by first | assumption | omega | decide) (by exact TIm_ad0 hT f0 f1 hf) (by exact cov_0) (by exact st4) (by exact adf_0) (by exact cvk_0) (by exact cvr_0 hT f0 f1 hf)
