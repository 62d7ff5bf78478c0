/-! ===== the least assignment ===== -/
theorem zs_ok : ∀ (p : Fin 256) (e : Fin 8), zand (zshr (p.val : Int) (e.val : Int)) 1 = (p.val : Int) / pw2 e.val % 2 := by decide +kernel
theorem pos_bt (r : Int → Int) {n : Int} (n0 : 0 ≤ n) (n1 : n < 8) : zand (zshr (pos r) (7 - n)) 1 = bz (r n) := by
  obtain ⟨k, ek⟩ : ∃ k : Nat, n = 7 - (k : Int) := ⟨(7 - n).toNat, by omega⟩
  have hk : k ≤ 7 := by omega
  obtain ⟨a, b, ⟨b0, b1⟩, a0, e, -⟩ := pos_at r hk
  have pi := pos_in r
  have z := zs_ok ⟨(pos r).toNat, by omega⟩ ⟨k, by omega⟩
  dsimp only at z
  rw [show (((pos r).toNat : Nat) : Int) = pos r from Int.toNat_of_nonneg pi.1] at z
  rw [show (7 : Int) - n = (k : Int) by omega, z]
  rw [← ek] at e
  have hh : pw2 (k + 1) = 2 * pw2 k := rfl
  rw [hh] at e
  have hw := pw2_cs hk
  rcases bz_01 (r n) with v | v
  · rw [v] at e ⊢
    rcases hw with w | w | w | w | w | w | w | w <;> rw [w] at e b1 ⊢ <;> omega
  · rw [v] at e ⊢
    rcases hw with w | w | w | w | w | w | w | w <;> rw [w] at e b1 ⊢ <;> omega
/-- the assignment of values -/
def asR (o : Int → Int) (r : Int → Int) : Nat → Int
  | 0 => 0
  | n + 1 => zor (asR o r n) (zshl (bz (r (n : Int))) (o (n : Int)))
theorem asR_F {o r : Int → Int} : ∀ n : Nat, n ≤ 8 → asF o (pos r) n = asR o r n
  | 0, _ => rfl
  | n + 1, h => by
    show zor (asF o (pos r) n) (zshl (zand (zshr (pos r) (7 - (n : Int))) 1) (o (n : Int))) = zor (asR o r n) (zshl (bz (r (n : Int))) (o (n : Int)))
    rw [asR_F n (by omega), pos_bt r (show (0 : Int) ≤ (n : Int) by omega) (by omega)]
theorem asR_cg {o o' r : Int → Int} : ∀ {n : Nat}, (∀ j : Int, 0 ≤ j → j < n → o' j = o j) → asR o' r n = asR o r n
  | 0, _ => rfl
  | n + 1, h => by
    show zor (asR o' r n) (zshl (bz (r (n : Int))) (o' (n : Int))) = zor (asR o r n) (zshl (bz (r (n : Int))) (o (n : Int)))
    rw [asR_cg (n := n) (fun j a b => h j a (by omega)), h n (by omega) (by omega)]
theorem asR_ag {o r r' : Int → Int} : ∀ {n : Nat}, (∀ j : Int, 0 ≤ j → j < n → r' j = r j) → asR o r' n = asR o r n
  | 0, _ => rfl
  | n + 1, h => by
    show zor (asR o r' n) (zshl (bz (r' (n : Int))) (o (n : Int))) = zor (asR o r n) (zshl (bz (r (n : Int))) (o (n : Int)))
    rw [asR_ag (n := n) (fun j a b => h j a (by omega)), h n (by omega) (by omega)]
theorem zsh_ok : ∀ e : Fin 8, zshl 0 (e.val : Int) = 0 ∧ 0 ≤ zshl 1 (e.val : Int) ∧ zshl 1 (e.val : Int) < 256 := by decide +kernel
theorem zsh_v {v : Int} (v0 : 0 ≤ v) (v1 : v < 8) : zshl 0 v = 0 ∧ 0 ≤ zshl 1 v ∧ zshl 1 v < 256 := by
  have z := zsh_ok ⟨v.toNat, by omega⟩
  dsimp only at z
  rw [show ((v.toNat : Nat) : Int) = v from Int.toNat_of_nonneg v0] at z
  exact z
theorem asR_in {o r : Int → Int} (ho : ∀ k : Int, 0 ≤ k → k < 8 → 0 ≤ o k ∧ o k < 8) : ∀ n : Nat, n ≤ 8 → 0 ≤ asR o r n ∧ asR o r n < 256
  | 0, _ => by show (0 : Int) ≤ 0 ∧ (0 : Int) < 256; decide
  | n + 1, h => by
    have ih := asR_in ho (r := r) n (by omega)
    have k := ho (n : Int) (by omega) (by omega)
    have z := zsh_v k.1 k.2
    show 0 ≤ zor (asR o r n) (zshl (bz (r (n : Int))) (o (n : Int))) ∧ zor (asR o r n) (zshl (bz (r (n : Int))) (o (n : Int))) < 256
    have w : 0 ≤ zshl (bz (r (n : Int))) (o (n : Int)) ∧ zshl (bz (r (n : Int))) (o (n : Int)) < 256 := by
      rcases bz_01 (r (n : Int)) with v | v
      · rw [v, z.1]; decide
      · rw [v]; exact z.2
    rw [zor_nat ih.1 (by omega) w.1 (by omega)]
    have q : (asR o r n).toNat ||| (zshl (bz (r (n : Int))) (o (n : Int))).toNat < 2 ^ 8 := Nat.or_lt_two_pow (by omega) (by omega)
    omega
theorem asR_z {o r : Int → Int} (ho : ∀ k : Int, 0 ≤ k → k < 8 → 0 ≤ o k ∧ o k < 8) : ∀ (m d : Nat), d + m ≤ 8 → (∀ k : Int, (d : Int) ≤ k → r k = 0) → asR o r (d + m) = asR o r d
  | 0, _, _, _ => rfl
  | m + 1, d, h, hz => by
    have ih := asR_z ho m d (by omega) hz
    have k := ho ((d + m : Nat) : Int) (by omega) (by omega)
    have z := zsh_v k.1 k.2
    have i := asR_in ho (r := r) (d + m) (by omega)
    show zor (asR o r (d + m)) (zshl (bz (r ((d + m : Nat) : Int))) (o ((d + m : Nat) : Int))) = asR o r d
    rw [hz _ (by omega), bz_0, z.1, zor_0 i.1 (by omega)]
    exact ih
theorem ihd_le {s r : Int → Int} : ∀ (m d : Nat), (∀ k : Int, (d : Int) ≤ k → s k = 0) → ihd s d ≤ ihd r d → ihd s (d + m) ≤ ihd r (d + m)
  | 0, _, _, h => h
  | m + 1, d, hz, h => by
    have ih := ihd_le m d hz h
    show 2 * ihd s (d + m) + bz (s ((d + m : Nat) : Int)) ≤ 2 * ihd r (d + m) + bz (r ((d + m : Nat) : Int))
    rw [hz _ (by omega), bz_0]
    have := bz_01 (r ((d + m : Nat) : Int))
    omega
theorem bz_iff {x y : Int} (h : bz x = bz y) : x = 0 ↔ y = 0 := by
  unfold bz at h
  by_cases a : x = 0
  · by_cases b : y = 0
    · exact ⟨fun _ => b, fun _ => a⟩
    · rw [if_pos a, if_neg b] at h; omega
  · by_cases b : y = 0
    · rw [if_neg a, if_pos b] at h; omega
    · exact ⟨fun t => absurd t a, fun t => absurd t b⟩
/-- the least way so far: s up to node c -/
def lsI (F : FN) (o : Int → Int) (y : Int) (M : zM) (c a : Int) (s : Int → Int) : Prop := (∀ r : Int → Int, F (mix (M 6 c) s r) = den M c r) ∧ (∀ r : Int → Int, F r = y → ihd s (M 6 c).toNat ≤ ihd r (M 6 c).toNat) ∧ a = asR o s (M 6 c).toNat ∧ ∀ k : Int, M 6 c ≤ k → s k = 0
def lsE (F : FN) (o : Int → Int) (y : Int) (M : zM) (c a : Int) : Prop := ∃ s : Int → Int, lsI F o y M c a s
def lfQ (F : FN) (o : Int → Int) (y x : Int) : Prop := (x = -9 ∧ ∀ r : Int → Int, ¬ F r = y) ∨ ∃ s : Int → Int, F s = y ∧ (∀ r : Int → Int, F r = y → pos s ≤ pos r) ∧ x = asR o s 8
section LST
variable {M : zM} {S : Int → Prop} {n c a y : Int} {o : Int → Int}
theorem ls_0 (hp : pst M S) (hn : okN S n) (ho : ∀ k : Int, 0 ≤ k → k < 8 → 0 ≤ o k ∧ o k < 8) : lsE (den M n) o y M n 0 := by
  have pl := pst_pl hp hn
  refine ⟨fun _ => 0, fun r => ?_, fun r _ => ?_, ?_, fun _ _ => rfl⟩
  · exact congrFun (den_mix (s := fun _ => 0) hp hn (Int.le_refl _)) r
  · have z := ihd_le (s := fun _ => 0) (r := r) (M 6 n).toNat 0 (fun _ _ => rfl) (Int.le_refl _)
    rw [Nat.zero_add] at z
    exact z
  · have z := asR_z (r := fun _ => 0) ho (M 6 n).toNat 0 (by omega) (fun _ _ => rfl)
    rw [Nat.zero_add] at z
    exact z.symm
theorem mix_mix {d e : Int} {s s' r : Int → Int} (h : d ≤ e) (hs : ∀ k : Int, k < d → s' k = s k) : mix d s (mix e s' r) = mix e s' r := by
  funext k
  by_cases q : k < d
  · rw [mix_lt q, mix_lt (show k < e by omega), hs k q]
  · rw [mix_ge (by omega)]
theorem ls_low (hp : pst M S) (hc : S c) (ho : ∀ k : Int, 0 ≤ k → k < 8 → 0 ≤ o k ∧ o k < 8) (h : lsE (den M n) o y M c a) : lsE (den M n) o y M (M 7 c) a := by
  obtain ⟨s, h1, h2, h3, h4⟩ := h
  obtain ⟨-, pl, -, ⟨c1, c2⟩, -⟩ := hp.2.1 c hc
  have pc := pst_pl hp c1
  obtain ⟨m, em⟩ : ∃ m : Nat, (M 6 (M 7 c)).toNat = (M 6 c).toNat + m := ⟨(M 6 (M 7 c)).toNat - (M 6 c).toNat, by omega⟩
  refine ⟨s, fun r => ?_, fun r hr => ?_, ?_, fun k hk => h4 k (by omega)⟩
  · have z := h1 (mix (M 6 (M 7 c)) s r)
    rw [mix_mix (by omega) (fun _ _ => rfl)] at z
    rw [z, den_n hp hc, if_pos (show mix (M 6 (M 7 c)) s r (M 6 c) = 0 by rw [mix_lt c2]; exact h4 _ (Int.le_refl _))]
    exact congrFun (den_mix hp c1 (Int.le_refl _)) r
  · rw [em]
    exact ihd_le m _ (fun k hk => h4 k (by omega)) (h2 r hr)
  · rw [em, asR_z ho m _ (by omega) (fun k hk => h4 k (by omega))]
    exact h3
theorem ls_high (hp : pst M S) (hn : okN S n) (hc : S c) (ho : ∀ k : Int, 0 ≤ k → k < 8 → 0 ≤ o k ∧ o k < 8) (hl : M 7 c < 2) (hly : ¬ M 7 c = y) (h : lsE (den M n) o y M c a) : lsE (den M n) o y M (M 8 c) (zor a (zshl 1 (o (M 6 c)))) := by
  obtain ⟨s, h1, h2, h3, h4⟩ := h
  obtain ⟨-, pl, -, ⟨l1, -⟩, ⟨c1, c2⟩⟩ := hp.2.1 c hc
  have pc := pst_pl hp c1
  have li := okN_in hp l1
  obtain ⟨m, em⟩ : ∃ m : Nat, (M 6 (M 8 c)).toNat = ((M 6 c).toNat + 1) + m := ⟨(M 6 (M 8 c)).toNat - ((M 6 c).toNat + 1), by omega⟩
  have ed : (((M 6 c).toNat : Nat) : Int) = M 6 c := Int.toNat_of_nonneg pl.1
  have sz : ∀ k : Int, M 6 c + 1 ≤ k → updI s (M 6 c) 1 k = 0 := fun k hk => by rw [updI_n (by omega)]; exact h4 k (by omega)
  refine ⟨updI s (M 6 c) 1, fun r => ?_, fun r hr => ?_, ?_, fun k hk => sz k (by omega)⟩
  · have z := h1 (mix (M 6 (M 8 c)) (updI s (M 6 c) 1) r)
    rw [mix_mix (by omega) (fun k hk => updI_n (by omega))] at z
    rw [z, den_n hp hc, if_neg (show ¬ mix (M 6 (M 8 c)) (updI s (M 6 c) 1) r (M 6 c) = 0 by rw [mix_lt c2, updI_s]; decide)]
    exact congrFun (den_mix hp c1 (Int.le_refl _)) r
  · rw [em]
    refine ihd_le m _ (fun k hk => sz k (by omega)) ?_
    show 2 * ihd (updI s (M 6 c) 1) (M 6 c).toNat + bz (updI s (M 6 c) 1 (((M 6 c).toNat : Nat) : Int)) ≤ 2 * ihd r (M 6 c).toNat + bz (r (((M 6 c).toNat : Nat) : Int))
    rw [ed, updI_s, bz_1, ihd_ag (s := updI s (M 6 c) 1) (s' := s) (fun j hj => updI_n (by omega))]
    have g := h2 r hr
    have br := bz_01 (r (M 6 c))
    by_cases e : ihd s (M 6 c).toNat = ihd r (M 6 c).toNat
    · have hb : bz (r (M 6 c)) = 1 := by
        rcases br with w | w
        · exfalso
          have r0 : r (M 6 c) = 0 := (bz_iff (y := 0) (by rw [w]; rfl)).mpr rfl
          have ag : den M n r = den M n (mix (M 6 c) s r) := den_ag hp hn (fun k hk => by
            have k0 := (pst_pl hp hn).1
            by_cases q : k < M 6 c
            · rw [mix_lt q]
              exact bz_iff (ihd_inj e.symm k (by omega) (by omega))
            · rw [mix_ge (by omega)])
          rw [ag, h1, den_n hp hc, if_pos r0, den_lt hl] at hr
          rcases (show M 7 c = 0 ∨ M 7 c = 1 by omega) with v | v
          · rw [v] at hr hly; exact hly hr
          · rw [v] at hr hly; exact hly hr
        · exact w
      omega
    · omega
  · rw [em, asR_z ho m _ (by omega) (fun k hk => sz k (by omega))]
    show _ = zor (asR o (updI s (M 6 c) 1) (M 6 c).toNat) (zshl (bz (updI s (M 6 c) 1 (((M 6 c).toNat : Nat) : Int))) (o (((M 6 c).toNat : Nat) : Int)))
    rw [ed, updI_s, bz_1, asR_ag (r := s) (r' := updI s (M 6 c) 1) (fun j _ hj => updI_n (by omega)), ← h3]
theorem ls_end (hp : pst M S) (hc : c = 0 ∨ c = 1) (hy : c = y) (h : lsE (den M n) o y M c a) : lfQ (den M n) o y a := by
  obtain ⟨s, h1, h2, h3, -⟩ := h
  have e8 : M 6 c = 8 := by
    rcases hc with e | e
    · rw [e]; exact hp.1.1
    · rw [e]; exact hp.1.2
  rw [e8] at h1 h2 h3
  refine Or.inr ⟨s, ?_, fun r hr => ?_, h3⟩
  · have z := h1 s
    rw [mix_self, den_lt (show c < 2 by omega)] at z
    rw [z]
    rcases hc with e | e
    · rw [← hy, e]; rfl
    · rw [← hy, e]; rfl
  · rw [pos_ihd, pos_ihd]
    exact h2 r hr
theorem ls_no (hc : c = 0 ∨ c = 1) (hy : ¬ c = y) : lfQ (den M c) o y (-9) := by
  refine Or.inl ⟨rfl, fun r hr => ?_⟩
  rw [den_lt (show c < 2 by omega)] at hr
  rcases hc with e | e
  · rw [e] at hr hy; exact hy hr
  · rw [e] at hr hy; exact hy hr
end LST
def lgQ (B : Int → Int64) (o : Int → Int) (y x : Int) : Prop := (x = -9 ∧ ∀ p : Int, 0 ≤ p → p < 256 → ¬ btF B p = y) ∨ ∃ p : Int, (0 ≤ p ∧ p < 256) ∧ btF B p = y ∧ (∀ q : Int, 0 ≤ q → q < p → ¬ btF B q = y) ∧ x = asF o p 8
theorem lf_lg {B : Int → Int64} {o o' : Int → Int} {y x x' : Int} (ho : ∀ j : Int, 0 ≤ j → j < 8 → o' j = o j) (h1 : lfQ (fun r => btF B (pos r)) o y x) (h2 : lgQ B o' y x') : x = x' := by
  rcases h1 with ⟨a, b⟩ | ⟨s, b, c, d⟩
  · rcases h2 with ⟨a', -⟩ | ⟨p, pb, q, -⟩
    · exact a.trans a'.symm
    · obtain ⟨r, er⟩ := pd_onto 8 p pb.1 (by have := pw2_v; omega)
      have er' : pos r = p := er
      exact absurd (show btF B (pos r) = y by rw [er']; exact q) (b r)
  · have si := pos_in s
    rcases h2 with ⟨-, b'⟩ | ⟨p, pb, q, w, e⟩
    · exact absurd b (b' _ si.1 si.2)
    · obtain ⟨r, er⟩ := pd_onto 8 p pb.1 (by have := pw2_v; omega)
      have er' : pos r = p := er
      have l1 := c r (show btF B (pos r) = y by rw [er']; exact q)
      have ep : p = pos s := by
        by_cases t : pos s < p
        · exact absurd b (w _ si.1 t)
        · omega
      rw [d, e, ep, asR_F 8 (Nat.le_refl 8)]
      exact (asR_cg (fun j a b => ho j a (by omega))).symm
