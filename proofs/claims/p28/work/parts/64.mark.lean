/-! ===== the pool: marks, sweep ===== -/
theorem dn_cg {M M1 : zM} (h6 : M1 6 = M 6) (h7 : M1 7 = M 7) (h8 : M1 8 = M 8) : ∀ (k : Nat) (n : Int), dn M1 k n = dn M k n
  | 0, n => rfl
  | k + 1, n => by
    funext r
    show (if n < 2 then _ else dn M1 k (if r (M1 6 n) = 0 then M1 7 n else M1 8 n) r) = (if n < 2 then _ else dn M k (if r (M 6 n) = 0 then M 7 n else M 8 n) r)
    rw [h6, h7, h8, dn_cg h6 h7 h8 k]
theorem den_cg {M M1 : zM} (h6 : M1 6 = M 6) (h7 : M1 7 = M 7) (h8 : M1 8 = M 8) : den M1 = den M := by
  funext n
  exact dn_cg h6 h7 h8 8 n
theorem lab_cg {M M1 : zM} (h6 : M1 6 = M 6) (h7 : M1 7 = M 7) (h8 : M1 8 = M 8) : lab M1 = lab M := by
  funext n
  unfold lab
  rw [h6, den_cg h6 h7 h8]
theorem pst_cg {M M1 : zM} {S : Int → Prop} (h6 : M1 6 = M 6) (h7 : M1 7 = M 7) (h8 : M1 8 = M 8) (h : pst M S) : pst M1 S := by
  unfold pst
  rw [h6, h7, h8]
  exact h
theorem tbC_cg {M M1 : zM} {S : Int → Prop} {ch : Int → List Int} {fl : List Int} (h5 : M1 5 = M 5) (h7 : M1 7 = M 7) (h8 : M1 8 = M 8) (h10 : M1 10 = M 10) (h11 : M1 11 = M 11) (h : tbC M S ch fl) : tbC M1 S ch fl := by
  unfold tbC
  rw [h5, h7, h8, h10, h11]
  exact h
theorem plo_cg {M M1 : zM} {S : Int → Prop} (h5 : M1 5 = M 5) (h6 : M1 6 = M 6) (h7 : M1 7 = M 7) (h8 : M1 8 = M 8) (h10 : M1 10 = M 10) (h11 : M1 11 = M 11) (h : plo M S) : plo M1 S := by
  obtain ⟨h1, ch, fl, h2⟩ := h
  exact ⟨pst_cg h6 h7 h8 h1, ch, fl, tbC_cg h5 h7 h8 h10 h11 h2⟩
theorem sg_f : ∀ (x : Fin 4) (s : Fin 3), s.val ≠ 0 → ¬ zand (zor (x.val : Int) (s.val : Int)) (s.val : Int) = 0 ∧ zor (zor (x.val : Int) (s.val : Int)) (s.val : Int) = zor (x.val : Int) (s.val : Int) ∧ (0 ≤ zor (x.val : Int) (s.val : Int) ∧ zor (x.val : Int) (s.val : Int) ≤ 3) := by decide +kernel
theorem sg {x s : Int} (x0 : 0 ≤ x) (x1 : x ≤ 3) (hs : s = 1 ∨ s = 2) : ¬ zand (zor x s) s = 0 ∧ zor (zor x s) s = zor x s ∧ (0 ≤ zor x s ∧ zor x s ≤ 3) := by
  have q := sg_f ⟨x.toNat, by omega⟩ ⟨s.toNat, by omega⟩ (by show s.toNat ≠ 0; omega)
  dsimp only at q
  rw [Int.toNat_of_nonneg x0, Int.toNat_of_nonneg (show 0 ≤ s by omega)] at q
  exact q
/-- marked by w with s -/
def mkw (w : Int → Int) (s n : Int) : Prop := ¬ zand (w n) s = 0
def okw (w : Int → Int) (s c : Int) : Prop := c < 2 ∨ mkw w s c
def Clw (M : zM) (S : Int → Prop) (s pl : Int) (w : Int → Int) : Prop := ∀ m : Int, S m → pl ≤ M 6 m → mkw w s m → okw w s (M 7 m) ∧ okw w s (M 8 m)
def mkR (M : zM) (S : Int → Prop) (s n pl : Int) (w w' : Int → Int) : Prop := (∀ m : Int, w' m = w m ∨ (w' m = zor (w m) s ∧ S m ∧ laid (den M n) (lab M m))) ∧ (2 ≤ n → mkw w' s n) ∧ Clw M S s pl w'
theorem mkR_cg {M M1 : zM} {S : Int → Prop} {s n pl : Int} {w w' : Int → Int} (h6 : M1 6 = M 6) (h7 : M1 7 = M 7) (h8 : M1 8 = M 8) (h : mkR M1 S s n pl w w') : mkR M S s n pl w w' := by
  unfold mkR Clw at *
  rw [den_cg h6 h7 h8, lab_cg h6 h7 h8, h6, h7, h8] at h
  exact h
theorem mkR_mono {M : zM} {S : Int → Prop} {s n pl m : Int} {w w' : Int → Int} (h : mkR M S s n pl w w') (hw : ∀ m, 0 ≤ w m ∧ w m ≤ 3) (hs : s = 1 ∨ s = 2) (hm : mkw w s m) : mkw w' s m := by
  unfold mkw at *
  rcases h.1 m with e | ⟨e, -⟩
  · rw [e]; exact hm
  · rw [e]; exact (sg (hw m).1 (hw m).2 hs).1
theorem mkR_rng {M : zM} {S : Int → Prop} {s n pl : Int} {w w' : Int → Int} (h : mkR M S s n pl w w') (hw : ∀ m, 0 ≤ w m ∧ w m ≤ 3) (hs : s = 1 ∨ s = 2) : ∀ m, 0 ≤ w' m ∧ w' m ≤ 3 := fun m => by
  rcases h.1 m with e | ⟨e, -⟩
  · rw [e]; exact hw m
  · rw [e]; exact (sg (hw m).1 (hw m).2 hs).2.2
/-- nothing is to be marked -/
theorem mkR_0 {M : zM} {S : Int → Prop} {s n pl : Int} {w : Int → Int} (hn : n < 2 ∨ mkw w s n) (hc : Clw M S s pl w) : mkR M S s n pl w w := ⟨fun _ => Or.inl rfl, fun q => hn.resolve_left (by omega), hc⟩
theorem Clw_up {M : zM} {S : Int → Prop} {s n pl : Int} {w : Int → Int} (hc : Clw M S s pl w) (hw : ∀ m, 0 ≤ w m ∧ w m ≤ 3) (hs : s = 1 ∨ s = 2) (hp : pl ≤ M 6 n) : Clw M S s (M 6 n + 1) (updI w n (zor (w n) s)) := fun m hm hpl hk => by
  have ne : m ≠ n := fun e => by rw [e] at hpl; omega
  have mono : ∀ {c : Int}, okw w s c → okw (updI w n (zor (w n) s)) s c := fun {c} q => by
    rcases q with q | q
    · exact Or.inl q
    · right
      unfold mkw at *
      by_cases z : c = n
      · rw [z, updI_s]; exact (sg (hw n).1 (hw n).2 hs).1
      · rw [updI_n z]; exact q
  unfold mkw at hk
  rw [updI_n ne] at hk
  have q := hc m hm (by omega) hk
  exact ⟨mono q.1, mono q.2⟩
/-- a node, its low one, its high one -/
theorem mkR_rec {M : zM} {S : Int → Prop} {s n pl : Int} {w w1 w2 : Int → Int} (hp : pst M S) (hn : S n) (hw : ∀ m, 0 ≤ w m ∧ w m ≤ 3) (hs : s = 1 ∨ s = 2) (hpl : pl ≤ M 6 n) (hc : Clw M S s pl w) (h1 : mkR M S s (M 7 n) (M 6 n + 1) (updI w n (zor (w n) s)) w1) (h2 : mkR M S s (M 8 n) (M 6 n + 1) w1 w2) : mkR M S s n pl w w2 := by
  obtain ⟨n2, pn, ne, a, b⟩ := hp.2.1 n hn
  have sn := sg (hw n).1 (hw n).2 hs
  have hw0 : ∀ m, 0 ≤ updI w n (zor (w n) s) m ∧ updI w n (zor (w n) s) m ≤ 3 := fun m => by
    by_cases z : m = n
    · rw [z, updI_s]; exact sn.2.2
    · rw [updI_n z]; exact hw m
  have hw1 := mkR_rng h1 hw0 hs
  have m0 : mkw (updI w n (zor (w n) s)) s n := by unfold mkw; rw [updI_s]; exact sn.1
  have mono : ∀ {m : Int}, mkw (updI w n (zor (w n) s)) s m → mkw w2 s m := fun {m} q => mkR_mono h2 hw1 hs (mkR_mono h1 hw0 hs q)
  have mw : ∀ {m : Int}, mkw w s m → mkw w2 s m := fun {m} q => mono (by
    unfold mkw at *
    by_cases z : m = n
    · rw [z, updI_s]; exact sn.1
    · rw [updI_n z]; exact q)
  have ch0 : ∀ m : Int, updI w n (zor (w n) s) m = w m ∨ (updI w n (zor (w n) s) m = zor (w m) s ∧ S m ∧ laid (den M n) (lab M m)) := fun m => by
    by_cases z : m = n
    · right
      rw [z, updI_s]
      exact ⟨rfl, hn, laid_self hp hn⟩
    · exact Or.inl (updI_n z)
  have ch1 : ∀ m : Int, w1 m = w m ∨ (w1 m = zor (w m) s ∧ S m ∧ laid (den M n) (lab M m)) := fun m => by
    rcases h1.1 m with e | ⟨e, e1, e2⟩
    · rw [e]; exact ch0 m
    · right
      refine ⟨?_, e1, laid_sub hp hn (Or.inl rfl) e2⟩
      rw [e]
      rcases ch0 m with z | ⟨z, -⟩
      · rw [z]
      · rw [z]; exact (sg (hw m).1 (hw m).2 hs).2.1
  refine ⟨fun m => ?_, fun _ => mono m0, fun m hm hpm hk => ?_⟩
  · rcases h2.1 m with e | ⟨e, e1, e2⟩
    · rw [e]; exact ch1 m
    · right
      refine ⟨?_, e1, laid_sub hp hn (Or.inr rfl) e2⟩
      rw [e]
      rcases ch1 m with z | ⟨z, -⟩
      · rw [z]
      · rw [z]; exact (sg (hw m).1 (hw m).2 hs).2.1
  · by_cases z : M 6 n + 1 ≤ M 6 m
    · exact h2.2.2 m hm z hk
    · -- it was marked ahead, or it is n
      have k1 : mkw w1 s m := by
        rcases h2.1 m with e | ⟨-, -, e2⟩
        · unfold mkw at *; rw [e] at hk; exact hk
        · have := laid_pl hp b.1 e2
          have e3 : (lab M m).1 = M 6 m := rfl
          omega
      have k0 : mkw (updI w n (zor (w n) s)) s m := by
        rcases h1.1 m with e | ⟨-, -, e2⟩
        · unfold mkw at *; rw [e] at k1; exact k1
        · have := laid_pl hp a.1 e2
          have e3 : (lab M m).1 = M 6 m := rfl
          omega
      by_cases q : m = n
      · rw [q]
        refine ⟨?_, ?_⟩
        · by_cases t : M 7 n < 2
          · exact Or.inl t
          · exact Or.inr (mkR_mono h2 hw1 hs (h1.2.1 (by omega)))
        · by_cases t : M 8 n < 2
          · exact Or.inl t
          · exact Or.inr (h2.2.1 (by omega))
      · unfold mkw at k0
        rw [updI_n q] at k0
        have t := hc m hm hpm k0
        exact ⟨t.1.imp_right mw, t.2.imp_right mw⟩
set_option maxRecDepth 20000 in
theorem zX2_markWith_f {G : tl_G} {M : zM} {J : zJ} (k : Nat) {S : Int → Prop} {s n e pl : Int} (hs : s = 1 ∨ s = 2) (hp : pst M S) (hn : n = -1 ∨ okN S n) (he0 : 0 ≤ e) (he : e + k = 8) (hen : 2 ≤ n → e ≤ M 6 n) (hpn : 2 ≤ n → pl ≤ M 6 n) (hc : Clw M S s pl (M 9)) : ZN G yX2_markWith mX2_markWith (k) kMarks [vR 5, vI s, vI n, vI e] F1 M J (qV (fun M' J' => J' = J ∧ mkR M S s n pl (M 9) (M' 9))) := by
  induction k generalizing M J n e pl with
  | zero =>
    refine ZN_of (L := [_, _, _, _]) (by decide) rfl rfl (Nat.le_of_ble_eq_true rfl) rfl (fun hav => ?_)
    refine Z_ok (fun ok0 => ?_)
    have hw : ∀ m, 0 ≤ M 9 m ∧ M 9 m ≤ 3 := fun m => ok0 9 m
    refine Z_iload_n (n := 1) dX2_markWith_0 rfl rfl ?_
    refine Z_iconst (n := 2) dX2_markWith_1 rfl (by decide) ?_
    refine Z_icmp_lt (n := 5) (t := 22) dX2_markWith_2 rfl (by decide) (fun c2 => ?_) (fun c2 => ?_)
    · refine Z_vret dX2_markWith_22 rfl ?_
      refine ⟨rfl, mkR_0 ?_ hc⟩
      first
        | exact Or.inl (by omega)
        | exact Or.inr c19
    · have hnS : S n := okN_2 hp (hn.resolve_left (by omega)) (by omega)
      obtain ⟨n2, pn, ne, aL, bH⟩ := hp.2.1 n hnS
      have hen2 := hen (by omega)
      refine Z_iload_n (n := 6) dX2_markWith_5 rfl rfl ?_
      refine Z_bipush (n := 8) dX2_markWith_6 rfl (by decide) (by decide) ?_
      refine Z_icmp_ge (n := 11) (t := 22) dX2_markWith_8 rfl (by decide) (fun c8 => ?_) (fun c8 => ?_)
      · omega
      · omega
  | succ k ih =>
    refine ZN_of (L := [_, _, _, _]) (by decide) rfl rfl (Nat.le_of_ble_eq_true rfl) rfl (fun hav => ?_)
    refine Z_ok (fun ok0 => ?_)
    have hw : ∀ m, 0 ≤ M 9 m ∧ M 9 m ≤ 3 := fun m => ok0 9 m
    refine Z_iload_n (n := 1) dX2_markWith_0 rfl rfl ?_
    refine Z_iconst (n := 2) dX2_markWith_1 rfl (by decide) ?_
    refine Z_icmp_lt (n := 5) (t := 22) dX2_markWith_2 rfl (by decide) (fun c2 => ?_) (fun c2 => ?_)
    · refine Z_vret dX2_markWith_22 rfl ?_
      refine ⟨rfl, mkR_0 ?_ hc⟩
      first
        | exact Or.inl (by omega)
        | exact Or.inr c19
    · have hnS : S n := okN_2 hp (hn.resolve_left (by omega)) (by omega)
      obtain ⟨n2, pn, ne, aL, bH⟩ := hp.2.1 n hnS
      have hen2 := hen (by omega)
      refine Z_iload_n (n := 6) dX2_markWith_5 rfl rfl ?_
      refine Z_bipush (n := 8) dX2_markWith_6 rfl (by decide) (by decide) ?_
      refine Z_icmp_ge (n := 11) (t := 22) dX2_markWith_8 rfl (by decide) (fun c8 => ?_) (fun c8 => ?_)
      · omega
      · refine Z_aload_n (n := 12) dX2_markWith_11 rfl rfl ?_
        refine Z_getA (n := 15) dX2_markWith_12 rfl ffX2_21 rfl rfl ?_
        refine Z_iload_n (n := 16) dX2_markWith_15 rfl rfl ?_
        refine Z_iald (n := 17) dX2_markWith_16 rfl rfl rfl (by first | decide | assumption) (by omega) (by omega) (fun r16 s16 => ?_)
        refine Z_iload_n (n := 18) dX2_markWith_17 rfl rfl ?_
        refine Z_iand (n := 19) dX2_markWith_18 rfl ?_
        refine Z_if_eq (n := 22) (t := 23) dX2_markWith_19 rfl (by decide) (fun c19 => ?_) (fun c19 => ?_)
        · refine Z_aload_n (n := 24) dX2_markWith_23 rfl rfl ?_
          refine Z_getA (n := 27) dX2_markWith_24 rfl ffX2_21 rfl rfl ?_
          refine Z_iload_n (n := 28) dX2_markWith_27 rfl rfl ?_
          have sn := sg (hw n).1 (hw n).2 hs
          refine Z_dup2 (n := 29) dX2_markWith_28 rfl rfl rfl ?_
          refine Z_iald (n := 30) dX2_markWith_29 rfl rfl rfl (by first | decide | assumption) (by omega) (by omega) (fun r29 s29 => ?_)
          refine Z_iload_n (n := 31) dX2_markWith_30 rfl rfl ?_
          refine Z_ior (n := 32) dX2_markWith_31 rfl ?_
          refine Z_iast (n := 33) dX2_markWith_32 rfl rfl rfl (by first | decide | assumption) (by omega) (by omega) (by first | assumption | omega | decide) (by first | assumption | omega | decide) (by decide) ?_
          refine Z_nm (fun M32 e32 => ?_)
          have o32 : ∀ a : Nat, a ≠ 9 → M32 a = M a := fun a ha => by rw [e32]; exact uz_o ha
          have w32 : M32 9 = updI (M 9) n (zor (M 9 n) s) := by rw [e32]; exact uz_fn
          have hp32 : pst M32 S := pst_cg (o32 6 (by decide)) (o32 7 (by decide)) (o32 8 (by decide)) hp
          have cl32 : Clw M32 S s (M 6 n + 1) (M32 9) := by
            have z := Clw_up hc hw hs (hpn (by omega))
            unfold Clw at z ⊢
            rw [o32 6 (by decide), o32 7 (by decide), o32 8 (by decide), w32]
            exact z
          clear e32
          refine Z_aload_n (n := 34) dX2_markWith_33 rfl rfl ?_
          refine Z_iload_n (n := 35) dX2_markWith_34 rfl rfl ?_
          refine Z_aload_n (n := 36) dX2_markWith_35 rfl rfl ?_
          refine Z_getA (n := 39) dX2_markWith_36 rfl ffX2_15 rfl rfl ?_
          refine Z_iload_n (n := 40) dX2_markWith_39 rfl rfl ?_
          refine Z_iald (n := 41) dX2_markWith_40 rfl rfl rfl (by first | decide | assumption) (by omega) (by omega) (fun r40 s40 => ?_)
          refine Z_iload_n (n := 42) dX2_markWith_41 rfl rfl ?_
          refine Z_iconst (n := 43) dX2_markWith_42 rfl (by decide) ?_
          refine Z_iadd (n := 44) dX2_markWith_43 rfl (by omega) ?_
          refine Z_callVv (n := 47) [_, _, _] _ dX2_markWith_44 rfl cwX2_49 rfl rfl rfl (Nat.le_of_ble_eq_true rfl) ⟨by show (k) + 1 ≤ ((k + 1)); omega, by show 8 + (4 + 11) + 40 * (k) ≤ 40 * ((k + 1)); omega, Nat.le_refl _, Nat.le_refl _⟩ (fun _ h => h) (@ih _ _ _ _ _  (by exact hp32) (by rw [o32 7 (by decide)]; exact Or.inr aL.1) (by omega) (by omega) (by intro _; rw [o32 6 (by decide), o32 7 (by decide)]; omega) (by exact fun _ => (show M 6 n + 1 ≤ M32 6 (M32 7 n) by rw [o32 6 (by decide), o32 7 (by decide)]; omega)) (by exact cl32)) ?_
          intro M44 J44 f44 q44
          obtain ⟨e44_1, mr44⟩ := q44
          replace e44_1 := e44_1.symm; subst e44_1
          have o44 : ∀ a : Nat, a ≠ 9 → M44 a = M a := fun a ha => ((f44 a ha).1).trans (o32 a ha)
          have q1 : mkR M S s (M 7 n) (M 6 n + 1) (updI (M 9) n (zor (M 9 n) s)) (M44 9) := by
            have z := mkR_cg (o32 6 (by decide)) (o32 7 (by decide)) (o32 8 (by decide)) mr44
            rw [w32, o32 7 (by decide)] at z
            exact z
          have hp44 : pst M44 S := pst_cg (o44 6 (by decide)) (o44 7 (by decide)) (o44 8 (by decide)) hp
          have cl44 : Clw M44 S s (M 6 n + 1) (M44 9) := by
            have z := q1.2.2
            unfold Clw at z ⊢
            rw [o44 6 (by decide), o44 7 (by decide), o44 8 (by decide)]
            exact z
          refine Z_aload_n (n := 48) dX2_markWith_47 rfl rfl ?_
          refine Z_iload_n (n := 49) dX2_markWith_48 rfl rfl ?_
          refine Z_aload_n (n := 50) dX2_markWith_49 rfl rfl ?_
          refine Z_getA (n := 53) dX2_markWith_50 rfl ffX2_18 rfl rfl ?_
          refine Z_iload_n (n := 54) dX2_markWith_53 rfl rfl ?_
          refine Z_iald (n := 55) dX2_markWith_54 rfl rfl rfl (by first | decide | assumption) (by omega) (by omega) (fun r54 s54 => ?_)
          refine Z_iload_n (n := 56) dX2_markWith_55 rfl rfl ?_
          refine Z_iconst (n := 57) dX2_markWith_56 rfl (by decide) ?_
          refine Z_iadd (n := 58) dX2_markWith_57 rfl (by omega) ?_
          refine Z_callVv (n := 61) [_, _, _] _ dX2_markWith_58 rfl cwX2_49 rfl rfl rfl (Nat.le_of_ble_eq_true rfl) ⟨by show (k) + 1 ≤ ((k + 1)); omega, by show 8 + (4 + 11) + 40 * (k) ≤ 40 * ((k + 1)); omega, Nat.le_refl _, Nat.le_refl _⟩ (fun _ h => h) (@ih _ _ _ _ _  (by exact hp44) (by rw [o44 8 (by decide)]; exact Or.inr bH.1) (by omega) (by omega) (by intro _; rw [o44 6 (by decide), o44 8 (by decide)]; omega) (by exact fun _ => (show M 6 n + 1 ≤ M44 6 (M44 8 n) by rw [o44 6 (by decide), o44 8 (by decide)]; omega)) (by exact cl44)) ?_
          intro M58 J58 f58 q58
          obtain ⟨e58_1, mr58⟩ := q58
          replace e58_1 := e58_1.symm; subst e58_1
          refine Z_vret dX2_markWith_61 rfl ?_
          refine ⟨rfl, mkR_rec hp hnS hw hs (hpn (by omega)) hc q1 ?_⟩
          have z := mkR_cg (o44 6 (by decide)) (o44 7 (by decide)) (o44 8 (by decide)) mr58
          rw [o44 8 (by decide)] at z
          exact z
        · refine Z_vret dX2_markWith_22 rfl ?_
          refine ⟨rfl, mkR_0 ?_ hc⟩
          first
            | exact Or.inl (by omega)
            | exact Or.inr c19
set_option maxRecDepth 20000 in
theorem zX2_mark_f {G : tl_G} {M : zM} {J : zJ} {S : Int → Prop} {n : Int} (hp : pst M S) (hn : n = -1 ∨ okN S n) (hc : Clw M S 1 0 (M 9)) : ZN G yX2_mark mX2_mark 9 kMarks [vR 5, vI n] F1 M J (qV (fun M' J' => J' = J ∧ mkR M S 1 n 0 (M 9) (M' 9))) := by
  refine ZN_of (L := [_, _]) (by decide) rfl rfl (Nat.le_of_ble_eq_true rfl) rfl (fun hav => ?_)
  refine Z_aload_n (n := 1) dX2_mark_0 rfl rfl ?_
  refine Z_iconst (n := 2) dX2_mark_1 rfl (by decide) ?_
  refine Z_iload_n (n := 3) dX2_mark_2 rfl rfl ?_
  refine Z_iconst (n := 4) dX2_mark_3 rfl (by decide) ?_
  refine Z_callVv (n := 7) [_, _, _] _ dX2_mark_4 rfl cwX2_49 rfl rfl rfl (Nat.le_of_ble_eq_true rfl) (by refine ⟨?_, ?_, ?_, ?_⟩ <;> exact Nat.le_of_ble_eq_true rfl) (fun _ h => h) (zX2_markWith_f 8  (by exact Or.inl rfl) (by exact hp) (by exact hn) (by decide) (by rfl) (by intro q; exact (hp.2.1 n (okN_2 hp (hn.resolve_left (by omega)) q)).2.1.1) (by intro q; exact (hp.2.1 n (okN_2 hp (hn.resolve_left (by omega)) q)).2.1.1) (by exact hc)) ?_
  intro M4 J4 f4 q4
  obtain ⟨e4_1, mr4⟩ := q4
  replace e4_1 := e4_1.symm; subst e4_1
  refine Z_vret dX2_mark_7 rfl ?_
  exact ⟨rfl, mr4⟩
/-- the part of the table that sweep has made: nodes above n -/
def swT (M : zM) (C : Int → Prop) (n : Int) (ch : Int → List Int) (fl : List Int) : Prop :=
  (∀ r : Int, 0 ≤ r → r < 256 → chp (M 10) (M 11 r) (ch r) ∧ (ch r).Nodup ∧ ∀ m ∈ ch r, (C m ∧ n < m) ∧ zxor (M 7 m) (M 8 m) = r) ∧
  (chp (M 10) (M 5 6) fl ∧ fl.Nodup ∧ ∀ m ∈ fl, ¬ C m ∧ n < m) ∧
  (∀ m : Int, n < m → m < 252 → (C m → m ∈ ch (zxor (M 7 m) (M 8 m))) ∧ (¬ C m → m ∈ fl)) ∧
  M 5 7 = hr (fun k => ind (C k ∧ n < k)) 252
def swE (M : zM) (C : Int → Prop) (n : Int) : Prop := ∃ (ch : Int → List Int) (fl : List Int), swT M C n ch fl
theorem swT_0 {M : zM} {C : Int → Prop} : swE (sw0 M) C 251 := by
  have o : ∀ a : Nat, a ≠ 5 → a ≠ 11 → sw0 M a = M a := fun a h1 h2 => by unfold sw0; rw [uz_o h1, uz_o h1, fillz_o h2]
  refine ⟨fun _ => [], [], fun r r0 r1 => ⟨sw0_11 r0 r1, List.nodup_nil, fun m hm => by cases hm⟩, ⟨sw0_56, List.nodup_nil, fun m hm => by cases hm⟩, fun m a b => by omega, ?_⟩
  rw [sw0_57]
  exact (hr_zero (fun k a b => ind_f (fun q => by omega))).symm
theorem swT_ent {M : zM} {C : Int → Prop} {n : Int} (h : swE M C n) (n2 : 2 ≤ n) (n1 : n < 252) (hn : C n) (hz : 0 ≤ zxor (M 7 n) (M 8 n) ∧ zxor (M 7 n) (M 8 n) < 256) : swE (entz M n) C (n + -1) := by
  obtain ⟨ch, fl, h1, ⟨h2, h3, h4⟩, h5, h6⟩ := h
  have e7 : entz M n 7 = M 7 := entz_o (by decide) (by decide) (by decide)
  have e8 : entz M n 8 = M 8 := entz_o (by decide) (by decide) (by decide)
  have hnc : ∀ r : Int, 0 ≤ r → r < 256 → n ∉ ch r := fun r r0 r1 q => by have := ((h1 r r0 r1).2.2 n q).1.2; omega
  have hnf : n ∉ fl := fun q => by have := (h4 n q).2; omega
  refine ⟨fun r => if r = zxor (M 7 n) (M 8 n) then n :: ch r else ch r, fl, fun r r0 r1 => ?_, ⟨?_, h3, fun m hm => ⟨(h4 m hm).1, by have := (h4 m hm).2; omega⟩⟩, fun m m0 m1 => ⟨fun q => ?_, fun q => ?_⟩, ?_⟩
  · obtain ⟨a, b, c⟩ := h1 r r0 r1
    dsimp only
    rw [entz_10, entz_11, e7, e8]
    by_cases z : r = zxor (M 7 n) (M 8 n)
    · rw [if_pos z, z, updI_s]
      rw [z] at a b c r0 r1
      refine ⟨chp_push a n2 n1 (hnc _ r0 r1), List.nodup_cons.mpr ⟨hnc _ r0 r1, b⟩, fun m hm => ?_⟩
      rcases List.mem_cons.mp hm with w | w
      · rw [w]; exact ⟨⟨hn, by omega⟩, rfl⟩
      · exact ⟨⟨(c m w).1.1, by have := (c m w).1.2; omega⟩, (c m w).2⟩
    · rw [if_neg z, updI_n z]
      exact ⟨chp_congr (fun m hm => updI_n (fun t => hnc r r0 r1 (t ▸ hm))) a, b, fun m hm => ⟨⟨(c m hm).1.1, by have := (c m hm).1.2; omega⟩, (c m hm).2⟩⟩
  · rw [entz_10, entz_5 (by decide)]
    exact chp_congr (fun m hm => updI_n (fun t => hnf (t ▸ hm))) h2
  · dsimp only
    rw [e7, e8]
    by_cases nx : m = n
    · rw [nx, if_pos rfl]; exact List.mem_cons_self
    · have z := (h5 m (by omega) m1).1 q
      by_cases w : zxor (M 7 m) (M 8 m) = zxor (M 7 n) (M 8 n)
      · rw [if_pos w]; exact List.mem_cons_of_mem _ z
      · rw [if_neg w]; exact z
  · by_cases nx : m = n
    · exact absurd (nx ▸ hn) q
    · exact (h5 m (by omega) m1).2 q
  · rw [entz_57, h6]
    refine (hr_inc (v := n) (by omega) (by omega) (ind_f (fun q => by omega)) (ind_nz.mpr ⟨hn, by omega⟩) (fun k hk => ?_)).symm
    have e : (C k ∧ n + -1 < k) ↔ (C k ∧ n < k) := ⟨fun q => ⟨q.1, by omega⟩, fun q => ⟨q.1, by omega⟩⟩
    rw [ind_congr e]
theorem frez_o {M : zM} {n : Int} {a : Nat} (h1 : a ≠ 5) (h2 : a ≠ 10) : frez M n a = M a := by
  unfold frez
  rw [uz_o h1, uz_o h2]
theorem swT_fre {M : zM} {C : Int → Prop} {n : Int} (h : swE M C n) (n2 : 2 ≤ n) (n1 : n < 252) (hn : ¬ C n) : swE (frez M n) C (n + -1) := by
  obtain ⟨ch, fl, h1, ⟨h2, h3, h4⟩, h5, h6⟩ := h
  have e7 : frez M n 7 = M 7 := frez_o (by decide) (by decide)
  have e8 : frez M n 8 = M 8 := frez_o (by decide) (by decide)
  have e11 : frez M n 11 = M 11 := frez_o (by decide) (by decide)
  have e10 : frez M n 10 = updI (M 10) n (M 5 6) := by unfold frez; rw [uz_o (by decide), uz_fn]
  have hnc : ∀ r : Int, 0 ≤ r → r < 256 → n ∉ ch r := fun r r0 r1 q => by have := ((h1 r r0 r1).2.2 n q).1.2; omega
  have hnf : n ∉ fl := fun q => by have := (h4 n q).2; omega
  refine ⟨ch, n :: fl, fun r r0 r1 => ?_, ⟨?_, List.nodup_cons.mpr ⟨hnf, h3⟩, fun m hm => ?_⟩, fun m m0 m1 => ⟨fun q => ?_, fun q => ?_⟩, ?_⟩
  · obtain ⟨a, b, c⟩ := h1 r r0 r1
    rw [e10, e11, e7, e8]
    exact ⟨chp_congr (fun m hm => updI_n (fun t => hnc r r0 r1 (t ▸ hm))) a, b, fun m hm => ⟨⟨(c m hm).1.1, by have := (c m hm).1.2; omega⟩, (c m hm).2⟩⟩
  · rw [e10, show frez M n 5 6 = n from uz_s]
    exact chp_push h2 n2 n1 hnf
  · rcases List.mem_cons.mp hm with w | w
    · rw [w]; exact ⟨hn, by omega⟩
    · exact ⟨(h4 m w).1, by have := (h4 m w).2; omega⟩
  · rw [e7, e8]
    by_cases nx : m = n
    · exact absurd (nx ▸ q) hn
    · exact (h5 m (by omega) m1).1 q
  · by_cases nx : m = n
    · rw [nx]; exact List.mem_cons_self
    · exact List.mem_cons_of_mem _ ((h5 m (by omega) m1).2 q)
  · rw [frez_57, h6]
    refine hr_congr (fun k _ _ => ?_)
    have e : (C k ∧ n < k) ↔ (C k ∧ n + -1 < k) := ⟨fun q => ⟨q.1, by omega⟩, fun q => ⟨q.1, by
      by_cases z : k = n
      · exact absurd (z ▸ q.1) hn
      · omega⟩⟩
    rw [ind_congr e]
theorem swT_end {M M' : zM} {C : Int → Prop} (h : swE M' C 1) (hp : pst M' C) : plo M' C := by
  obtain ⟨ch, fl, h1, ⟨h2, h3, h4⟩, h5, h6⟩ := h
  refine ⟨hp, ch, fl, fun r r0 r1 => ?_, ⟨h2, h3, fun n hn => (h4 n hn).1⟩, fun n n0 n1 => h5 n (by omega) n1, ?_⟩
  · obtain ⟨a, b, c⟩ := h1 r r0 r1
    exact ⟨a, b, fun n hn => ⟨(c n hn).1.1, (c n hn).2⟩⟩
  · rw [h6]
    refine hr_congr (fun k _ _ => ?_)
    have e : (C k ∧ 1 < k) ↔ C k := ⟨fun q => q.1, fun q => ⟨q, by have := (hp.2.1 k q).1; omega⟩⟩
    rw [ind_congr e]
/-- the marked nodes -/
def mC (w : Int → Int) : Int → Prop := fun n => (2 ≤ n ∧ n < 252) ∧ ¬ w n = 0
set_option maxRecDepth 20000 in
theorem zX2_sweep_f {G : tl_G} {M : zM} {J : zJ} {S : Int → Prop} (hp : pst M S) (hC : ∀ n : Int, mC (M 9) n → S n ∧ okN (mC (M 9)) (M 7 n) ∧ okN (mC (M 9)) (M 8 n)) : ZN G yX2_sweep mX2_sweep 1 kSweep [vR 5] F1 M J (qV (fun M' J' => J' = J ∧ M' 5 8 = M 5 8 ∧ plo M' (mC (M 9)))) := by
  refine ZN_of (L := [_, _]) (by decide) rfl rfl (Nat.le_of_ble_eq_true rfl) rfl (fun hav => ?_)
  refine Z_aload_n (n := 1) dX2_sweep_0 rfl rfl ?_
  refine Z_getA (n := 4) dX2_sweep_1 rfl ffX2_27 rfl rfl ?_
  refine Z_iconst (n := 5) dX2_sweep_4 rfl (by decide) ?_
  refine Z_callSv (n := 8) [_, _] _ dX2_sweep_5 rfl cwX2_43 rfl rfl (Nat.le_of_ble_eq_true rfl) (by refine ⟨?_, ?_, ?_, ?_⟩ <;> exact Nat.le_of_ble_eq_true rfl) (fun _ h => h) (zJ7_fill_53178  (by rfl) (by decide) (by exact fun _ => rfl) (by decide) (by decide) (by decide)) ?_
  intro M5 J5 f5 q5
  obtain ⟨e5_1, e5_2⟩ := q5
  replace e5_1 := e5_1.symm; subst e5_1
  replace e5_2 := e5_2.symm; subst e5_2
  refine Z_aload_n (n := 9) dX2_sweep_8 rfl rfl ?_
  refine Z_iconst (n := 10) dX2_sweep_9 rfl (by decide) ?_
  refine Z_putI (n := 13) (ki := 6) dX2_sweep_10 rfl ffX2_30 rfl (by decide) rfl rfl (by first | assumption | omega | decide) (by first | assumption | omega | decide) (by decide) ?_
  refine Z_aload_n (n := 14) dX2_sweep_13 rfl rfl ?_
  refine Z_iconst (n := 15) dX2_sweep_14 rfl (by decide) ?_
  refine Z_putI (n := 18) (ki := 7) dX2_sweep_15 rfl ffX2_34 rfl (by decide) rfl rfl (by first | assumption | omega | decide) (by first | assumption | omega | decide) (by decide) ?_
  refine Z_sipush (n := 21) dX2_sweep_18 rfl (by decide) (by decide) ?_
  refine Z_istore_n (L' := [_, _]) (n := 22) dX2_sweep_21 rfl (by decide) rfl rfl ?_
  have lp22 : ∀ (N22 : Nat) (n : Int) (M22 : zM) (J22 : zJ), (n.toNat) < N22 → (J22 = J) → (1 ≤ n) → (n ≤ 251) → (M22 5 7 ≤ 251 - n) → (M22 5 8 = M 5 8) → (swE M22 (mC (M 9)) n) → TZ G mX2_sweep (tl_rm 1 0 0) 0 0 kSweep M J 22 [some (vR 5), some (vI n)] [] F1 M22 J22 (ZM G (zPost G kSweep F1 M J (qV (fun M' J' => J' = J ∧ M' 5 8 = M 5 8 ∧ plo M' (mC (M 9))))) 0 0) := by
    intro N22
    induction N22 with
    | zero => intro n M22 J22 hN; omega
    | succ N22 ih22 =>
      intro n M22 J22 hN22 i22_0 i22_1 i22_2 i22_3 i22_4 i22_5
      refine Z_iload_n (n := 23) dX2_sweep_22 rfl rfl ?_
      refine Z_iconst (n := 24) dX2_sweep_23 rfl (by decide) ?_
      refine Z_icmp_lt (n := 27) (t := 65) dX2_sweep_24 rfl (by decide) (fun c24 => ?_) (fun c24 => ?_)
      · refine Z_fr (fun fr22 => ?_)
        refine Z_vret dX2_sweep_65 rfl ?_
        refine ⟨i22_0, i22_4, swT_end (M := M) ?_ ?_⟩
        · rw [show n = 1 by omega] at i22_5; exact i22_5
        · exact pst_cg (fr22 6 (by decide)).1 (fr22 7 (by decide)).1 (fr22 8 (by decide)).1 (pst_less hp hC)
      · refine Z_aload_n (n := 28) dX2_sweep_27 rfl rfl ?_
        refine Z_fr (fun fr22 => ?_)
        refine Z_ok (fun ok22 => ?_)
        have g7 : 0 ≤ M22 7 n ∧ M22 7 n ≤ 251 := ok22 7 n
        have g8 : 0 ≤ M22 8 n ∧ M22 8 n ≤ 251 := ok22 8 n
        refine Z_rg 5 7 rfl (fun g57 g57b => ?_)
        have e9 : M22 9 n = M 9 n := congrFun (fr22 9 (by decide)).1 n
        refine Z_getA (n := 31) dX2_sweep_28 rfl ffX2_21 rfl rfl ?_
        refine Z_iload_n (n := 32) dX2_sweep_31 rfl rfl ?_
        refine Z_iald (n := 33) dX2_sweep_32 rfl rfl rfl (by first | decide | assumption) (by omega) (by omega) (fun r32 s32 => ?_)
        refine Z_if_eq (n := 36) (t := 44) dX2_sweep_33 rfl (by decide) (fun c33 => ?_) (fun c33 => ?_)
        · refine Z_aload_n (n := 45) dX2_sweep_44 rfl rfl ?_
          refine Z_getA (n := 48) dX2_sweep_45 rfl ffX2_24 rfl rfl ?_
          refine Z_iload_n (n := 49) dX2_sweep_48 rfl rfl ?_
          refine Z_aload_n (n := 50) dX2_sweep_49 rfl rfl ?_
          refine Z_getI (n := 53) (ki := 6) dX2_sweep_50 rfl ffX2_30 rfl rfl rfl (fun r50 s50 => ?_)
          refine Z_iast (n := 54) dX2_sweep_53 rfl rfl rfl (by first | decide | assumption) (by omega) (by omega) (by first | assumption | omega | decide) (by first | assumption | omega | decide) (by decide) ?_
          refine Z_aload_n (n := 55) dX2_sweep_54 rfl rfl ?_
          refine Z_iload_n (n := 56) dX2_sweep_55 rfl rfl ?_
          refine Z_putI (n := 59) (ki := 6) dX2_sweep_56 rfl ffX2_30 rfl (by decide) rfl rfl (by first | assumption | omega | decide) (by first | assumption | omega | decide) (by decide) ?_
          have t3 : frez M22 n 5 7 ≤ 251 - (n + -1) := by rw [frez_57]; omega
          have t4 : frez M22 n 5 8 = M 5 8 := frez_58.trans i22_4
          have t5 : swE (frez M22 n) (mC (M 9)) (n + -1) := swT_fre i22_5 (by omega) (by omega) (fun q => q.2 (by omega))
          refine Z_iinc (L' := [_, _]) (n := 62) dX2_sweep_59 rfl rfl (by decide) rfl rfl (by omega) rfl ?_
          refine Z_goto (t := 22) dX2_sweep_62 (by decide) ?_
          refine Z_loc (L' := [some _, some _]) (lsub_same (lsub_same lsub_nil)) ?_
          exact ih22 _ _ _ (by omega) (by assumption) (by first | assumption | omega | decide) (by first | assumption | omega | decide) (by exact t3) (by exact t4) (by exact t5)
        · refine Z_aload_n (n := 37) dX2_sweep_36 rfl rfl ?_
          refine Z_iload_n (n := 38) dX2_sweep_37 rfl rfl ?_
          refine Z_callVv (n := 41) [_] _ dX2_sweep_38 rfl cwX2_64 rfl rfl rfl (Nat.le_of_ble_eq_true rfl) (by refine ⟨?_, ?_, ?_, ?_⟩ <;> exact Nat.le_of_ble_eq_true rfl) (fun _ h => h) (zX2_enter  (by exact PoolF1) (by omega) (by omega) (by omega) (by decide) (by decide) (by decide)) ?_
          intro M38 J38 f38 q38
          obtain ⟨e38_1, e38_2⟩ := q38
          replace e38_1 := e38_1.symm; subst e38_1
          replace e38_2 := e38_2.symm; subst e38_2
          have t3 : entz M22 n 5 7 ≤ 251 - (n + -1) := by rw [entz_57]; omega
          have t4 : entz M22 n 5 8 = M 5 8 := entz_58.trans i22_4
          have t5 : swE (entz M22 n) (mC (M 9)) (n + -1) := swT_ent i22_5 (by omega) (by omega) ⟨by omega, by omega⟩ (zxor_in g7.1 (by omega) g8.1 (by omega))
          refine Z_goto (t := 59) dX2_sweep_41 (by decide) ?_
          refine Z_iinc (L' := [_, _]) (n := 62) dX2_sweep_59 rfl rfl (by decide) rfl rfl (by omega) rfl ?_
          refine Z_goto (t := 22) dX2_sweep_62 (by decide) ?_
          refine Z_loc (L' := [some _, some _]) (lsub_same (lsub_same lsub_nil)) ?_
          exact ih22 _ _ _ (by omega) (by assumption) (by first | assumption | omega | decide) (by first | assumption | omega | decide) (by exact t3) (by exact t4) (by exact t5)
  refine Z_loc (L' := [some _, some _]) (lsub_same (lsub_same lsub_nil)) ?_
  exact lp22 _ _ _ _ (Nat.lt_succ_self _) (by rfl) (by first | assumption | omega | decide) (by first | assumption | omega | decide) (by rw [uz_s]; decide) (by exact sw0_58) (by exact swT_0)
