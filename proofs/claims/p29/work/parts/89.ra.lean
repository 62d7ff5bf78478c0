section
/-! ===== readers: what is read of a function ===== -/
theorem pos_ihd (r : Int → Int) : pos r = ihd r 8 := by
  have h := pd_mix (s := r) (d := 8) (k := 0) (r := r) rfl
  have e : mix ((8 : Nat) : Int) r r = r := by
    funext k
    unfold mix
    split <;> rfl
  rw [e] at h
  unfold pos
  rw [h]
  show ihd r 8 * 1 + 0 = ihd r 8
  omega
theorem bz_01 (x : Int) : bz x = 0 ∨ bz x = 1 := bz_in x
theorem ihd_inj {s s' : Int → Int} : ∀ {d : Nat}, ihd s d = ihd s' d → ∀ j : Int, 0 ≤ j → j < d → bz (s j) = bz (s' j)
  | 0, _, j, a, b => by omega
  | d + 1, h, j, a, b => by
    have h' : 2 * ihd s d + bz (s (d : Int)) = 2 * ihd s' d + bz (s' (d : Int)) := h
    have e1 := bz_01 (s (d : Int))
    have e2 := bz_01 (s' (d : Int))
    by_cases q : j = d
    · rw [q]; omega
    · exact ihd_inj (d := d) (by omega) j a (by omega)
theorem mix_self {d : Int} {r : Int → Int} : mix d r r = r := by
  funext k
  unfold mix
  split <;> rfl
/-- the bit of a place in the row -/
theorem pos_at (r : Int → Int) {k : Nat} (hk : k ≤ 7) : ∃ a b : Int, (0 ≤ b ∧ b < pw2 k) ∧ 0 ≤ a ∧ pos r = a * pw2 (k + 1) + bz (r (7 - (k : Int))) * pw2 k + b ∧ ∀ v : Int, pos (updI r (7 - (k : Int)) v) = a * pw2 (k + 1) + bz v * pw2 k + b := by
  have m : ∀ r' : Int → Int, pos r' = ihd r' (7 - k) * pw2 (k + 1) + pd r' (k + 1) := fun r' => by
    have h := pd_mix (s := r') (d := 7 - k) (k := k + 1) (r := r') (by omega)
    rw [mix_self] at h
    exact h
  refine ⟨ihd r (7 - k), pd r k, pd_in r k, (ihd_in r (7 - k)).1, ?_, fun v => ?_⟩
  · rw [m r]
    show ihd r (7 - k) * pw2 (k + 1) + (bz (r (7 - (k : Int))) * pw2 k + pd r k) = _
    omega
  · rw [m (updI r (7 - (k : Int)) v), pd_up, ihd_ag (s := updI r (7 - (k : Int)) v) (s' := r) (fun j hj => updI_n (by omega))]
    omega
theorem pw2_cs {k : Nat} (hk : k ≤ 7) : pw2 k = 1 ∨ pw2 k = 2 ∨ pw2 k = 4 ∨ pw2 k = 8 ∨ pw2 k = 16 ∨ pw2 k = 32 ∨ pw2 k = 64 ∨ pw2 k = 128 := by
  rcases (show k = 0 ∨ k = 1 ∨ k = 2 ∨ k = 3 ∨ k = 4 ∨ k = 5 ∨ k = 6 ∨ k = 7 by omega) with e | e | e | e | e | e | e | e <;> rw [e] <;> decide
/-! counts over places -/
/-! the reference's nodes of a function -/
end
section
/-! ===== readers: their answers ===== -/
theorem zor_0 {x : Int} (h0 : 0 ≤ x) (h1 : x < 65536) : zor x 0 = x := by
  rw [zor_nat h0 (by omega) (Int.le_refl 0) (by decide)]
  show ((x.toNat ||| 0 : Nat) : Int) = x
  rw [Nat.or_zero]
  exact Int.toNat_of_nonneg h0
end
section
/-! ===== readers on both sides ===== -/
section RDS
variable {M M1 : zM} {J : zJ} {x y : Int}
theorem ls_k (h : LSy M J) (fr : ∀ a : Nat, 31 ≤ a → M1 a = M a) (f : Int) : f < 0 ∨ 12 ≤ f ∨ (M 12 f = -1 ∧ M1 43 f = 0) ∨ (¬ M 12 f = -1 ∧ ¬ M1 43 f = 0) := hs_k h.2.2.2.2.2 (fr 43 (by decide)) f
theorem ls_d (h : LSy M J) {f : Int} (f0 : 0 ≤ f) (f1 : f < 12) (q : ¬ M 12 f = -1) : den M (M 12 f) = phi J f := (h.2.2.2.2.2 f f0 f1).2.resolve_left q
end RDS
end
section
/-! ===== the least assignment ===== -/
theorem zs_ok : ∀ (p : Fin 256) (e : Fin 8), zand (zshr (p.val : Int) (e.val : Int)) 1 = (p.val : Int) / pw2 e.val % 2 := by decide +kernel
theorem pos_bt (r : Int → Int) {n : Int} (n0 : 0 ≤ n) (n1 : n < 8) : zand (zshr (pos r) (7 - n)) 1 = bz (r n) := by
  obtain ⟨k, ek⟩ : ∃ k : Nat, n = 7 - (k : Int) := ⟨(7 - n).toNat, by omega⟩
  have hk : k ≤ 7 := by omega
  obtain ⟨a, b, ⟨b0, b1⟩, a0, e, -⟩ := pos_at r hk
  have pi := pos_in r
  have z := zs_ok ⟨(pos r).toNat, by omega⟩ ⟨k, by omega⟩
  dsimp only at z
  rw [show (((pos r).toNat : Nat) : Int) = pos r from Int.toNat_of_nonneg pi.1] at z
  rw [show (7 : Int) - n = (k : Int) by omega, z]
  rw [← ek] at e
  have hh : pw2 (k + 1) = 2 * pw2 k := rfl
  rw [hh] at e
  have hw := pw2_cs hk
  rcases bz_01 (r n) with v | v
  · rw [v] at e ⊢
    rcases hw with w | w | w | w | w | w | w | w <;> rw [w] at e b1 ⊢ <;> omega
  · rw [v] at e ⊢
    rcases hw with w | w | w | w | w | w | w | w <;> rw [w] at e b1 ⊢ <;> omega
/-- the assignment of values -/
def asR (o : Int → Int) (r : Int → Int) : Nat → Int
  | 0 => 0
  | n + 1 => zor (asR o r n) (zshl (bz (r (n : Int))) (o (n : Int)))
theorem asR_F {o r : Int → Int} : ∀ n : Nat, n ≤ 8 → asF o (pos r) n = asR o r n
  | 0, _ => rfl
  | n + 1, h => by
    show zor (asF o (pos r) n) (zshl (zand (zshr (pos r) (7 - (n : Int))) 1) (o (n : Int))) = zor (asR o r n) (zshl (bz (r (n : Int))) (o (n : Int)))
    rw [asR_F n (by omega), pos_bt r (show (0 : Int) ≤ (n : Int) by omega) (by omega)]
theorem asR_cg {o o' r : Int → Int} : ∀ {n : Nat}, (∀ j : Int, 0 ≤ j → j < n → o' j = o j) → asR o' r n = asR o r n
  | 0, _ => rfl
  | n + 1, h => by
    show zor (asR o' r n) (zshl (bz (r (n : Int))) (o' (n : Int))) = zor (asR o r n) (zshl (bz (r (n : Int))) (o (n : Int)))
    rw [asR_cg (n := n) (fun j a b => h j a (by omega)), h n (by omega) (by omega)]
theorem asR_ag {o r r' : Int → Int} : ∀ {n : Nat}, (∀ j : Int, 0 ≤ j → j < n → r' j = r j) → asR o r' n = asR o r n
  | 0, _ => rfl
  | n + 1, h => by
    show zor (asR o r' n) (zshl (bz (r' (n : Int))) (o (n : Int))) = zor (asR o r n) (zshl (bz (r (n : Int))) (o (n : Int)))
    rw [asR_ag (n := n) (fun j a b => h j a (by omega)), h n (by omega) (by omega)]
theorem zsh_ok : ∀ e : Fin 8, zshl 0 (e.val : Int) = 0 ∧ 0 ≤ zshl 1 (e.val : Int) ∧ zshl 1 (e.val : Int) < 256 := by decide +kernel
theorem zsh_v {v : Int} (v0 : 0 ≤ v) (v1 : v < 8) : zshl 0 v = 0 ∧ 0 ≤ zshl 1 v ∧ zshl 1 v < 256 := by
  have z := zsh_ok ⟨v.toNat, by omega⟩
  dsimp only at z
  rw [show ((v.toNat : Nat) : Int) = v from Int.toNat_of_nonneg v0] at z
  exact z
theorem asR_in {o r : Int → Int} (ho : ∀ k : Int, 0 ≤ k → k < 8 → 0 ≤ o k ∧ o k < 8) : ∀ n : Nat, n ≤ 8 → 0 ≤ asR o r n ∧ asR o r n < 256
  | 0, _ => by show (0 : Int) ≤ 0 ∧ (0 : Int) < 256; decide
  | n + 1, h => by
    have ih := asR_in ho (r := r) n (by omega)
    have k := ho (n : Int) (by omega) (by omega)
    have z := zsh_v k.1 k.2
    show 0 ≤ zor (asR o r n) (zshl (bz (r (n : Int))) (o (n : Int))) ∧ zor (asR o r n) (zshl (bz (r (n : Int))) (o (n : Int))) < 256
    have w : 0 ≤ zshl (bz (r (n : Int))) (o (n : Int)) ∧ zshl (bz (r (n : Int))) (o (n : Int)) < 256 := by
      rcases bz_01 (r (n : Int)) with v | v
      · rw [v, z.1]; decide
      · rw [v]; exact z.2
    rw [zor_nat ih.1 (by omega) w.1 (by omega)]
    have q : (asR o r n).toNat ||| (zshl (bz (r (n : Int))) (o (n : Int))).toNat < 2 ^ 8 := Nat.or_lt_two_pow (by omega) (by omega)
    omega
theorem asR_z {o r : Int → Int} (ho : ∀ k : Int, 0 ≤ k → k < 8 → 0 ≤ o k ∧ o k < 8) : ∀ (m d : Nat), d + m ≤ 8 → (∀ k : Int, (d : Int) ≤ k → r k = 0) → asR o r (d + m) = asR o r d
  | 0, _, _, _ => rfl
  | m + 1, d, h, hz => by
    have ih := asR_z ho m d (by omega) hz
    have k := ho ((d + m : Nat) : Int) (by omega) (by omega)
    have z := zsh_v k.1 k.2
    have i := asR_in ho (r := r) (d + m) (by omega)
    show zor (asR o r (d + m)) (zshl (bz (r ((d + m : Nat) : Int))) (o ((d + m : Nat) : Int))) = asR o r d
    rw [hz _ (by omega), bz_0, z.1, zor_0 i.1 (by omega)]
    exact ih
theorem ihd_le {s r : Int → Int} : ∀ (m d : Nat), (∀ k : Int, (d : Int) ≤ k → s k = 0) → ihd s d ≤ ihd r d → ihd s (d + m) ≤ ihd r (d + m)
  | 0, _, _, h => h
  | m + 1, d, hz, h => by
    have ih := ihd_le m d hz h
    show 2 * ihd s (d + m) + bz (s ((d + m : Nat) : Int)) ≤ 2 * ihd r (d + m) + bz (r ((d + m : Nat) : Int))
    rw [hz _ (by omega), bz_0]
    have := bz_01 (r ((d + m : Nat) : Int))
    omega
theorem bz_iff {x y : Int} (h : bz x = bz y) : x = 0 ↔ y = 0 := by
  unfold bz at h
  by_cases a : x = 0
  · by_cases b : y = 0
    · exact ⟨fun _ => b, fun _ => a⟩
    · rw [if_pos a, if_neg b] at h; omega
  · by_cases b : y = 0
    · rw [if_neg a, if_pos b] at h; omega
    · exact ⟨fun t => absurd t a, fun t => absurd t b⟩
/-- the least way so far: s up to node c -/
def lsI (F : FN) (o : Int → Int) (y : Int) (M : zM) (c a : Int) (s : Int → Int) : Prop := (∀ r : Int → Int, F (mix (M 6 c) s r) = den M c r) ∧ (∀ r : Int → Int, F r = y → ihd s (M 6 c).toNat ≤ ihd r (M 6 c).toNat) ∧ a = asR o s (M 6 c).toNat ∧ ∀ k : Int, M 6 c ≤ k → s k = 0
def lsE (F : FN) (o : Int → Int) (y : Int) (M : zM) (c a : Int) : Prop := ∃ s : Int → Int, lsI F o y M c a s
def lfQ (F : FN) (o : Int → Int) (y x : Int) : Prop := (x = -9 ∧ ∀ r : Int → Int, ¬ F r = y) ∨ ∃ s : Int → Int, F s = y ∧ (∀ r : Int → Int, F r = y → pos s ≤ pos r) ∧ x = asR o s 8
section LST
variable {M : zM} {S : Int → Prop} {n c a y : Int} {o : Int → Int}
theorem ls_0 (hp : pst M S) (hn : okN S n) (ho : ∀ k : Int, 0 ≤ k → k < 8 → 0 ≤ o k ∧ o k < 8) : lsE (den M n) o y M n 0 := by
  have pl := pst_pl hp hn
  refine ⟨fun _ => 0, fun r => ?_, fun r _ => ?_, ?_, fun _ _ => rfl⟩
  · exact congrFun (den_mix (s := fun _ => 0) hp hn (Int.le_refl _)) r
  · have z := ihd_le (s := fun _ => 0) (r := r) (M 6 n).toNat 0 (fun _ _ => rfl) (Int.le_refl _)
    rw [Nat.zero_add] at z
    exact z
  · have z := asR_z (r := fun _ => 0) ho (M 6 n).toNat 0 (by omega) (fun _ _ => rfl)
    rw [Nat.zero_add] at z
    exact z.symm
theorem mix_mix {d e : Int} {s s' r : Int → Int} (h : d ≤ e) (hs : ∀ k : Int, k < d → s' k = s k) : mix d s (mix e s' r) = mix e s' r := by
  funext k
  by_cases q : k < d
  · rw [mix_lt q, mix_lt (show k < e by omega), hs k q]
  · rw [mix_ge (by omega)]
theorem ls_low (hp : pst M S) (hc : S c) (ho : ∀ k : Int, 0 ≤ k → k < 8 → 0 ≤ o k ∧ o k < 8) (h : lsE (den M n) o y M c a) : lsE (den M n) o y M (M 7 c) a := by
  obtain ⟨s, h1, h2, h3, h4⟩ := h
  obtain ⟨-, pl, -, ⟨c1, c2⟩, -⟩ := hp.2.1 c hc
  have pc := pst_pl hp c1
  obtain ⟨m, em⟩ : ∃ m : Nat, (M 6 (M 7 c)).toNat = (M 6 c).toNat + m := ⟨(M 6 (M 7 c)).toNat - (M 6 c).toNat, by omega⟩
  refine ⟨s, fun r => ?_, fun r hr => ?_, ?_, fun k hk => h4 k (by omega)⟩
  · have z := h1 (mix (M 6 (M 7 c)) s r)
    rw [mix_mix (by omega) (fun _ _ => rfl)] at z
    rw [z, den_n hp hc, if_pos (show mix (M 6 (M 7 c)) s r (M 6 c) = 0 by rw [mix_lt c2]; exact h4 _ (Int.le_refl _))]
    exact congrFun (den_mix hp c1 (Int.le_refl _)) r
  · rw [em]
    exact ihd_le m _ (fun k hk => h4 k (by omega)) (h2 r hr)
  · rw [em, asR_z ho m _ (by omega) (fun k hk => h4 k (by omega))]
    exact h3
theorem ls_high (hp : pst M S) (hn : okN S n) (hc : S c) (ho : ∀ k : Int, 0 ≤ k → k < 8 → 0 ≤ o k ∧ o k < 8) (hl : M 7 c < 2) (hly : ¬ M 7 c = y) (h : lsE (den M n) o y M c a) : lsE (den M n) o y M (M 8 c) (zor a (zshl 1 (o (M 6 c)))) := by
  obtain ⟨s, h1, h2, h3, h4⟩ := h
  obtain ⟨-, pl, -, ⟨l1, -⟩, ⟨c1, c2⟩⟩ := hp.2.1 c hc
  have pc := pst_pl hp c1
  have li := okN_in hp l1
  obtain ⟨m, em⟩ : ∃ m : Nat, (M 6 (M 8 c)).toNat = ((M 6 c).toNat + 1) + m := ⟨(M 6 (M 8 c)).toNat - ((M 6 c).toNat + 1), by omega⟩
  have ed : (((M 6 c).toNat : Nat) : Int) = M 6 c := Int.toNat_of_nonneg pl.1
  have sz : ∀ k : Int, M 6 c + 1 ≤ k → updI s (M 6 c) 1 k = 0 := fun k hk => by rw [updI_n (by omega)]; exact h4 k (by omega)
  refine ⟨updI s (M 6 c) 1, fun r => ?_, fun r hr => ?_, ?_, fun k hk => sz k (by omega)⟩
  · have z := h1 (mix (M 6 (M 8 c)) (updI s (M 6 c) 1) r)
    rw [mix_mix (by omega) (fun k hk => updI_n (by omega))] at z
    rw [z, den_n hp hc, if_neg (show ¬ mix (M 6 (M 8 c)) (updI s (M 6 c) 1) r (M 6 c) = 0 by rw [mix_lt c2, updI_s]; decide)]
    exact congrFun (den_mix hp c1 (Int.le_refl _)) r
  · rw [em]
    refine ihd_le m _ (fun k hk => sz k (by omega)) ?_
    show 2 * ihd (updI s (M 6 c) 1) (M 6 c).toNat + bz (updI s (M 6 c) 1 (((M 6 c).toNat : Nat) : Int)) ≤ 2 * ihd r (M 6 c).toNat + bz (r (((M 6 c).toNat : Nat) : Int))
    rw [ed, updI_s, bz_1, ihd_ag (s := updI s (M 6 c) 1) (s' := s) (fun j hj => updI_n (by omega))]
    have g := h2 r hr
    have br := bz_01 (r (M 6 c))
    by_cases e : ihd s (M 6 c).toNat = ihd r (M 6 c).toNat
    · have hb : bz (r (M 6 c)) = 1 := by
        rcases br with w | w
        · exfalso
          have r0 : r (M 6 c) = 0 := (bz_iff (y := 0) (by rw [w]; rfl)).mpr rfl
          have ag : den M n r = den M n (mix (M 6 c) s r) := den_ag hp hn (fun k hk => by
            have k0 := (pst_pl hp hn).1
            by_cases q : k < M 6 c
            · rw [mix_lt q]
              exact bz_iff (ihd_inj e.symm k (by omega) (by omega))
            · rw [mix_ge (by omega)])
          rw [ag, h1, den_n hp hc, if_pos r0, den_lt hl] at hr
          rcases (show M 7 c = 0 ∨ M 7 c = 1 by omega) with v | v
          · rw [v] at hr hly; exact hly hr
          · rw [v] at hr hly; exact hly hr
        · exact w
      omega
    · omega
  · rw [em, asR_z ho m _ (by omega) (fun k hk => sz k (by omega))]
    show _ = zor (asR o (updI s (M 6 c) 1) (M 6 c).toNat) (zshl (bz (updI s (M 6 c) 1 (((M 6 c).toNat : Nat) : Int))) (o (((M 6 c).toNat : Nat) : Int)))
    rw [ed, updI_s, bz_1, asR_ag (r := s) (r' := updI s (M 6 c) 1) (fun j _ hj => updI_n (by omega)), ← h3]
theorem ls_end (hp : pst M S) (hc : c = 0 ∨ c = 1) (hy : c = y) (h : lsE (den M n) o y M c a) : lfQ (den M n) o y a := by
  obtain ⟨s, h1, h2, h3, -⟩ := h
  have e8 : M 6 c = 8 := by
    rcases hc with e | e
    · rw [e]; exact hp.1.1
    · rw [e]; exact hp.1.2
  rw [e8] at h1 h2 h3
  refine Or.inr ⟨s, ?_, fun r hr => ?_, h3⟩
  · have z := h1 s
    rw [mix_self, den_lt (show c < 2 by omega)] at z
    rw [z]
    rcases hc with e | e
    · rw [← hy, e]; rfl
    · rw [← hy, e]; rfl
  · rw [pos_ihd, pos_ihd]
    exact h2 r hr
theorem ls_no (hc : c = 0 ∨ c = 1) (hy : ¬ c = y) : lfQ (den M c) o y (-9) := by
  refine Or.inl ⟨rfl, fun r hr => ?_⟩
  rw [den_lt (show c < 2 by omega)] at hr
  rcases hc with e | e
  · rw [e] at hr hy; exact hy hr
  · rw [e] at hr hy; exact hy hr
end LST
def lgQ (B : Int → Int64) (o : Int → Int) (y x : Int) : Prop := (x = -9 ∧ ∀ p : Int, 0 ≤ p → p < 256 → ¬ btF B p = y) ∨ ∃ p : Int, (0 ≤ p ∧ p < 256) ∧ btF B p = y ∧ (∀ q : Int, 0 ≤ q → q < p → ¬ btF B q = y) ∧ x = asF o p 8
theorem lf_lg {B : Int → Int64} {o o' : Int → Int} {y x x' : Int} (ho : ∀ j : Int, 0 ≤ j → j < 8 → o' j = o j) (h1 : lfQ (fun r => btF B (pos r)) o y x) (h2 : lgQ B o' y x') : x = x' := by
  rcases h1 with ⟨a, b⟩ | ⟨s, b, c, d⟩
  · rcases h2 with ⟨a', -⟩ | ⟨p, pb, q, -⟩
    · exact a.trans a'.symm
    · obtain ⟨r, er⟩ := pd_onto 8 p pb.1 (by have := pw2_v; omega)
      have er' : pos r = p := er
      exact absurd (show btF B (pos r) = y by rw [er']; exact q) (b r)
  · have si := pos_in s
    rcases h2 with ⟨-, b'⟩ | ⟨p, pb, q, w, e⟩
    · exact absurd b (b' _ si.1 si.2)
    · obtain ⟨r, er⟩ := pd_onto 8 p pb.1 (by have := pw2_v; omega)
      have er' : pos r = p := er
      have l1 := c r (show btF B (pos r) = y by rw [er']; exact q)
      have ep : p = pos s := by
        by_cases t : pos s < p
        · exact absurd b (w _ si.1 t)
        · omega
      rw [d, e, ep, asR_F 8 (Nat.le_refl 8)]
      exact (asR_cg (fun j a b => ho j a (by omega))).symm
end
section
/-! ===== least: both sides ===== -/
set_option maxRecDepth 20000 in
theorem zX2_leastFor_f {G : tl_G} {M : zM} {J : zJ} {S : Int → Prop} {n s : Int} (hp : pst M S) (hn : okN S n) (hs : s = 0 ∨ s = 1) (ho : ∀ k : Int, 0 ≤ k → k < 8 → 0 ≤ M 3 k ∧ M 3 k < 8) : ZN G yX2_leastFor mX2_leastFor 1 kAll [vR 5, vI n, vI s, vR 2] F1 M J (qI (fun x M' J' => M' = M ∧ J' = J ∧ lfQ (den M n) (M 3) s x)) := by
  refine ZN_of (L := [_, _, _, _, _, _, _]) (by decide) rfl rfl (Nat.le_of_ble_eq_true rfl) rfl (fun hav => ?_)
  have hin := okN_in hp hn
  refine Z_iload_n (n := 1) dX2_leastFor_0 rfl rfl ?_
  refine Z_istore (L' := [_, _, _, _, _, _, _]) (n := 3) dX2_leastFor_1 rfl (by decide) rfl rfl ?_
  refine Z_iconst (n := 4) dX2_leastFor_3 rfl (by decide) ?_
  refine Z_istore (L' := [_, _, _, _, _, _, _]) (n := 6) dX2_leastFor_4 rfl (by decide) rfl rfl ?_
  refine Z_iconst (n := 7) dX2_leastFor_6 rfl (by decide) ?_
  refine Z_istore (L' := [_, _, _, _, _, _, _]) (n := 9) dX2_leastFor_7 rfl (by decide) rfl rfl ?_
  have lp9 : ∀ (N9 : Nat) (c a i : Int) , ((8 - i).toNat) < N9 → (0 ≤ c) → (c ≤ 251) → (0 ≤ i) → (i ≤ 8) → (okN S c) → (i ≤ M 6 c) → (lsE (den M n) (M 3) s M c a) → (2 ≤ c ∨ c = s ∨ c = n) → TZ G mX2_leastFor (tl_rm 1 0 0) 0 0 kAll M J 9 [some (vR 5), some (vI n), some (vI s), some (vR 2), some (vI c), some (vI a), some (vI i)] [] F1 M J (ZM G (zPost G kAll F1 M J (qI (fun x M' J' => M' = M ∧ J' = J ∧ lfQ (den M n) (M 3) s x))) 0 0) := by
    intro N9
    induction N9 with
    | zero => intro c a i  hN; omega
    | succ N9 ih9 =>
      intro c a i  hN9 i9_0 i9_1 i9_2 i9_3 i9_4 i9_5 i9_6 i9_7
      refine Z_iload (n := 11) dX2_leastFor_9 rfl rfl ?_
      refine Z_bipush (n := 13) dX2_leastFor_11 rfl (by decide) (by decide) ?_
      refine Z_icmp_ge (n := 16) (t := 89) dX2_leastFor_13 rfl (by decide) (fun c13 => ?_) (fun c13 => ?_)
      · refine Z_iload (n := 91) dX2_leastFor_89 rfl rfl ?_
        refine Z_iload_n (n := 92) dX2_leastFor_91 rfl rfl ?_
        refine Z_icmp_ne (n := 95) (t := 100) dX2_leastFor_92 rfl (by decide) (fun c92 => ?_) (fun c92 => ?_)
        · refine Z_bipush (n := 102) dX2_leastFor_100 rfl (by decide) (by decide) ?_
          refine Z_iret dX2_leastFor_102 rfl ?_
          have tc : c = 0 ∨ c = 1 := by
            by_cases q : c < 2
            · omega
            · exact pst_t hp i9_4 (by omega)
          refine ⟨rfl, rfl, ?_⟩
          first
            | exact ls_end hp tc c92 i9_6
            | (have ec : n = c := by omega
               rw [ec]
               exact ls_no tc c92)
        · refine Z_iload (n := 97) dX2_leastFor_95 rfl rfl ?_
          refine Z_goto (t := 102) dX2_leastFor_97 (by decide) ?_
          refine Z_iret dX2_leastFor_102 rfl ?_
          have tc : c = 0 ∨ c = 1 := by
            by_cases q : c < 2
            · omega
            · exact pst_t hp i9_4 (by omega)
          refine ⟨rfl, rfl, ?_⟩
          first
            | exact ls_end hp tc c92 i9_6
            | (have ec : n = c := by omega
               rw [ec]
               exact ls_no tc c92)
      · refine Z_iload (n := 18) dX2_leastFor_16 rfl rfl ?_
        refine Z_iconst (n := 19) dX2_leastFor_18 rfl (by decide) ?_
        refine Z_icmp_lt (n := 22) (t := 89) dX2_leastFor_19 rfl (by decide) (fun c19 => ?_) (fun c19 => ?_)
        · refine Z_iload (n := 91) dX2_leastFor_89 rfl rfl ?_
          refine Z_iload_n (n := 92) dX2_leastFor_91 rfl rfl ?_
          refine Z_icmp_ne (n := 95) (t := 100) dX2_leastFor_92 rfl (by decide) (fun c92 => ?_) (fun c92 => ?_)
          · refine Z_bipush (n := 102) dX2_leastFor_100 rfl (by decide) (by decide) ?_
            refine Z_iret dX2_leastFor_102 rfl ?_
            have tc : c = 0 ∨ c = 1 := by
              by_cases q : c < 2
              · omega
              · exact pst_t hp i9_4 (by omega)
            refine ⟨rfl, rfl, ?_⟩
            first
              | exact ls_end hp tc c92 i9_6
              | (have ec : n = c := by omega
                 rw [ec]
                 exact ls_no tc c92)
          · refine Z_iload (n := 97) dX2_leastFor_95 rfl rfl ?_
            refine Z_goto (t := 102) dX2_leastFor_97 (by decide) ?_
            refine Z_iret dX2_leastFor_102 rfl ?_
            have tc : c = 0 ∨ c = 1 := by
              by_cases q : c < 2
              · omega
              · exact pst_t hp i9_4 (by omega)
            refine ⟨rfl, rfl, ?_⟩
            first
              | exact ls_end hp tc c92 i9_6
              | (have ec : n = c := by omega
                 rw [ec]
                 exact ls_no tc c92)
        · have sc := okN_2 hp i9_4 (by omega)
          have pc := hp.2.1 c sc
          have pc1 := pc.2.1
          have pcn := pc.2.2.1
          have pcl := pc.2.2.2.1.2
          have pch := pc.2.2.2.2.2
          refine Z_aload_n (n := 23) dX2_leastFor_22 rfl rfl ?_
          refine Z_getA (n := 26) dX2_leastFor_23 rfl ffX2_15 rfl rfl ?_
          refine Z_iload (n := 28) dX2_leastFor_26 rfl rfl ?_
          refine Z_iald (n := 29) dX2_leastFor_28 rfl rfl rfl (by first | decide | assumption) (by omega) (by omega) (fun r28 s28 => ?_)
          refine Z_iconst (n := 30) dX2_leastFor_29 rfl (by decide) ?_
          refine Z_icmp_ge (n := 33) (t := 44) dX2_leastFor_30 rfl (by decide) (fun c30 => ?_) (fun c30 => ?_)
          · refine Z_aload_n (n := 45) dX2_leastFor_44 rfl rfl ?_
            refine Z_getA (n := 48) dX2_leastFor_45 rfl ffX2_15 rfl rfl ?_
            refine Z_iload (n := 50) dX2_leastFor_48 rfl rfl ?_
            refine Z_iald (n := 51) dX2_leastFor_50 rfl rfl rfl (by first | decide | assumption) (by omega) (by omega) (fun r50 s50 => ?_)
            have nx4 : okN S (M 7 c) := pc.2.2.2.1.1
            have nx5 : i + 1 ≤ M 6 (M 7 c) := by omega
            have nx6 : lsE (den M n) (M 3) s M (M 7 c) a := ls_low hp sc ho i9_6
            have nx7 : 2 ≤ M 7 c ∨ M 7 c = s ∨ M 7 c = n := by omega
            refine Z_istore (L' := [_, _, _, _, _, _, _]) (n := 53) dX2_leastFor_51 rfl (by decide) rfl rfl ?_
            refine Z_goto (t := 83) dX2_leastFor_53 (by decide) ?_
            refine Z_iinc (L' := [_, _, _, _, _, _, _]) (n := 86) dX2_leastFor_83 rfl rfl (by decide) rfl rfl (by omega) rfl ?_
            refine Z_goto (t := 9) dX2_leastFor_86 (by decide) ?_
            refine Z_loc (L' := [some _, some _, some _, some _, some _, some _, some _]) (lsub_same (lsub_same (lsub_same (lsub_same (lsub_same (lsub_same (lsub_same lsub_nil))))))) ?_
            exact ih9 _ _ _  (by omega) (by first | assumption | omega | decide) (by first | assumption | omega | decide) (by first | assumption | omega | decide) (by first | assumption | omega | decide) (by exact nx4) (by exact nx5) (by exact nx6) (by exact nx7)
          · refine Z_aload_n (n := 34) dX2_leastFor_33 rfl rfl ?_
            refine Z_getA (n := 37) dX2_leastFor_34 rfl ffX2_15 rfl rfl ?_
            refine Z_iload (n := 39) dX2_leastFor_37 rfl rfl ?_
            refine Z_iald (n := 40) dX2_leastFor_39 rfl rfl rfl (by first | decide | assumption) (by omega) (by omega) (fun r39 s39 => ?_)
            refine Z_iload_n (n := 41) dX2_leastFor_40 rfl rfl ?_
            refine Z_icmp_ne (n := 44) (t := 56) dX2_leastFor_41 rfl (by decide) (fun c41 => ?_) (fun c41 => ?_)
            · refine Z_iload (n := 58) dX2_leastFor_56 rfl rfl ?_
              refine Z_iconst (n := 59) dX2_leastFor_58 rfl (by decide) ?_
              refine Z_aload_n (n := 60) dX2_leastFor_59 rfl rfl ?_
              refine Z_aload_n (n := 61) dX2_leastFor_60 rfl rfl ?_
              refine Z_getA (n := 64) dX2_leastFor_61 rfl ffX2_11 rfl rfl ?_
              refine Z_iload (n := 66) dX2_leastFor_64 rfl rfl ?_
              refine Z_iald (n := 67) dX2_leastFor_66 rfl rfl rfl (by first | decide | assumption) (by omega) (by omega) (fun r66 s66 => ?_)
              rw [if_neg (by omega)] at s66
              refine Z_callVi (n := 70) [_] _ dX2_leastFor_67 rfl cwX2_95 rfl rfl rfl (Nat.le_of_ble_eq_true rfl) (by refine ⟨?_, ?_, ?_, ?_⟩ <;> exact Nat.le_of_ble_eq_true rfl) (fun _ h => h) (zX1_variableAt  (by first | assumption | omega | decide) (by first | assumption | omega | decide)) ?_
              intro x67 M67 J67 z67 f67 q67
              obtain ⟨e67_1, e67_2, h67⟩ := q67
              replace e67_1 := e67_1.symm; subst e67_1
              replace e67_2 := e67_2.symm; subst e67_2
              refine Z_ishl (n := 71) dX2_leastFor_70 rfl ?_
              refine Z_ior (n := 72) dX2_leastFor_71 rfl ?_
              refine Z_istore (L' := [_, _, _, _, _, _, _]) (n := 74) dX2_leastFor_72 rfl (by decide) rfl rfl ?_
              refine Z_aload_n (n := 75) dX2_leastFor_74 rfl rfl ?_
              refine Z_getA (n := 78) dX2_leastFor_75 rfl ffX2_18 rfl rfl ?_
              refine Z_iload (n := 80) dX2_leastFor_78 rfl rfl ?_
              refine Z_iald (n := 81) dX2_leastFor_80 rfl rfl rfl (by first | decide | assumption) (by omega) (by omega) (fun r80 s80 => ?_)
              have nx4 : okN S (M 8 c) := pc.2.2.2.2.1
              have nx5 : i + 1 ≤ M 6 (M 8 c) := by omega
              have nx6 : lsE (den M n) (M 3) s M (M 8 c) (zor a (zshl 1 x67)) := by
                rw [h67]
                exact ls_high hp hn sc ho (by omega) (by omega) i9_6
              have nx7 : 2 ≤ M 8 c ∨ M 8 c = s ∨ M 8 c = n := by omega
              refine Z_istore (L' := [_, _, _, _, _, _, _]) (n := 83) dX2_leastFor_81 rfl (by decide) rfl rfl ?_
              refine Z_iinc (L' := [_, _, _, _, _, _, _]) (n := 86) dX2_leastFor_83 rfl rfl (by decide) rfl rfl (by omega) rfl ?_
              refine Z_goto (t := 9) dX2_leastFor_86 (by decide) ?_
              refine Z_loc (L' := [some _, some _, some _, some _, some _, some _, some _]) (lsub_same (lsub_same (lsub_same (lsub_same (lsub_same (lsub_same (lsub_same lsub_nil))))))) ?_
              exact ih9 _ _ _  (by omega) (by first | assumption | omega | decide) (by first | assumption | omega | decide) (by first | assumption | omega | decide) (by first | assumption | omega | decide) (by exact nx4) (by exact nx5) (by exact nx6) (by exact nx7)
            · refine Z_aload_n (n := 45) dX2_leastFor_44 rfl rfl ?_
              refine Z_getA (n := 48) dX2_leastFor_45 rfl ffX2_15 rfl rfl ?_
              refine Z_iload (n := 50) dX2_leastFor_48 rfl rfl ?_
              refine Z_iald (n := 51) dX2_leastFor_50 rfl rfl rfl (by first | decide | assumption) (by omega) (by omega) (fun r50 s50 => ?_)
              have nx4 : okN S (M 7 c) := pc.2.2.2.1.1
              have nx5 : i + 1 ≤ M 6 (M 7 c) := by omega
              have nx6 : lsE (den M n) (M 3) s M (M 7 c) a := ls_low hp sc ho i9_6
              have nx7 : 2 ≤ M 7 c ∨ M 7 c = s ∨ M 7 c = n := by omega
              refine Z_istore (L' := [_, _, _, _, _, _, _]) (n := 53) dX2_leastFor_51 rfl (by decide) rfl rfl ?_
              refine Z_goto (t := 83) dX2_leastFor_53 (by decide) ?_
              refine Z_iinc (L' := [_, _, _, _, _, _, _]) (n := 86) dX2_leastFor_83 rfl rfl (by decide) rfl rfl (by omega) rfl ?_
              refine Z_goto (t := 9) dX2_leastFor_86 (by decide) ?_
              refine Z_loc (L' := [some _, some _, some _, some _, some _, some _, some _]) (lsub_same (lsub_same (lsub_same (lsub_same (lsub_same (lsub_same (lsub_same lsub_nil))))))) ?_
              exact ih9 _ _ _  (by omega) (by first | assumption | omega | decide) (by first | assumption | omega | decide) (by first | assumption | omega | decide) (by first | assumption | omega | decide) (by exact nx4) (by exact nx5) (by exact nx6) (by exact nx7)
  refine Z_loc (L' := [some _, some _, some _, some _, some _, some _, some _]) (lsub_same (lsub_same (lsub_same (lsub_same (lsub_same (lsub_same (lsub_same lsub_nil))))))) ?_
  exact lp9 _ _ _ _  (Nat.lt_succ_self _) (by first | assumption | omega | decide) (by first | assumption | omega | decide) (by first | assumption | omega | decide) (by first | assumption | omega | decide) (by exact hn) (by exact (pst_pl hp hn).1) (by exact ls_0 hp hn ho) (by first | assumption | omega | decide)
set_option maxRecDepth 20000 in
theorem zX3_least_f {G : tl_G} {M : zM} {J : zJ} {f y : Int} (hb : CB M) (hI : oIn (M 3) (M 4)) : ZN G yX3_least mX3_least 2 kAll [vR 0, vI f, vI y] F1 M J (qI (fun x M' J' => M' = M ∧ J' = J ∧ (((f < 0 ∨ 12 ≤ f ∨ M 12 f = -1) ∧ x = -1) ∨ (¬ (f < 0 ∨ 12 ≤ f ∨ M 12 f = -1) ∧ lfQ (den M (M 12 f)) (M 3) (if y = 0 then 0 else 1) x)))) := by
  refine ZN_of (L := [_, _, _]) (by decide) rfl rfl (Nat.le_of_ble_eq_true rfl) rfl (fun hav => ?_)
  obtain ⟨⟨Sb, hSb, hRb⟩, -⟩ := hb
  refine Z_aload_n (n := 1) dX3_least_0 rfl rfl ?_
  refine Z_iload_n (n := 2) dX3_least_1 rfl rfl ?_
  refine Z_callVi (n := 5) [_] _ dX3_least_2 rfl cwX3_139 rfl rfl (by first | rfl | exact nS0 (nA_at (by omega) (by omega))) (Nat.le_of_ble_eq_true rfl) (by refine ⟨?_, ?_, ?_, ?_⟩ <;> exact Nat.le_of_ble_eq_true rfl) (fun _ h => h) (zX3_hasFunction  ) ?_
  intro x2 M2 J2 z2 f2 q2
  obtain ⟨e2_1, e2_2, h2⟩ := q2
  replace e2_1 := e2_1.symm; subst e2_1
  replace e2_2 := e2_2.symm; subst e2_2
  refine Z_if_ne (n := 8) (t := 10) dX3_least_5 rfl (by decide) (fun c5 => ?_) (fun c5 => ?_)
  · have okf : okN Sb (M 12 f) := (hRb _ (Or.inl ⟨f, ⟨by omega, by omega⟩, rfl⟩)).resolve_left (by omega)
    have ho3 : ∀ k : Int, 0 ≤ k → k < 8 → 0 ≤ M 3 k ∧ M 3 k < 8 := fun k a b => ⟨(hI k a b).2.1, (hI k a b).2.2.1⟩
    refine Z_aload_n (n := 11) dX3_least_10 rfl rfl ?_
    refine Z_getO (n := 14) dX3_least_11 rfl ffX3_25 (by first | rfl | exact nS0 (nA_at (by omega) (by omega))) (by first | rfl | exact nS0 (nA_at (by omega) (by omega))) ?_
    refine Z_aload_n (n := 15) dX3_least_14 rfl rfl ?_
    refine Z_getA (n := 18) dX3_least_15 rfl ffX3_29 (by first | rfl | exact nS0 (nA_at (by omega) (by omega))) (by first | rfl | exact nS0 (nA_at (by omega) (by omega))) ?_
    refine Z_iload_n (n := 19) dX3_least_18 rfl rfl ?_
    refine Z_iald (n := 20) dX3_least_19 rfl (by first | rfl | exact nS0 (nA_at (by omega) (by omega))) rfl (by first | decide | assumption) (by omega) (by omega) (fun r19 s19 => ?_)
    refine Z_iload_n (n := 21) dX3_least_20 rfl rfl ?_
    refine Z_if_eq (n := 24) (t := 28) dX3_least_21 rfl (by decide) (fun c21 => ?_) (fun c21 => ?_)
    · refine Z_iconst (n := 29) dX3_least_28 rfl (by decide) ?_
      refine Z_aload_n (n := 30) dX3_least_29 rfl rfl ?_
      refine Z_getO (n := 33) dX3_least_30 rfl ffX3_18 (by first | rfl | exact nS0 (nA_at (by omega) (by omega))) (by first | rfl | exact nS0 (nA_at (by omega) (by omega))) ?_
      refine Z_callVi (n := 36) [_, _, _] _ dX3_least_33 rfl cwX3_175 rfl rfl (by first | rfl | exact nS0 (nA_at (by omega) (by omega))) (Nat.le_of_ble_eq_true rfl) (by refine ⟨?_, ?_, ?_, ?_⟩ <;> exact Nat.le_of_ble_eq_true rfl) (fun _ h => h) (zX2_leastFor_f  (by exact hSb.1) (by exact okf) (by first | exact Or.inr rfl | exact Or.inl rfl) (by exact ho3)) ?_
      intro x33 M33 J33 z33 f33 q33
      obtain ⟨e33_1, e33_2, lf33⟩ := q33
      replace e33_1 := e33_1.symm; subst e33_1
      replace e33_2 := e33_2.symm; subst e33_2
      refine Z_iret dX3_least_36 rfl ?_
      refine ⟨rfl, rfl, Or.inr ⟨by omega, ?_⟩⟩
      first
        | (rw [if_pos (show y = 0 by omega)]; exact lf33)
        | (rw [if_neg (show ¬ y = 0 by omega)]; exact lf33)
    · refine Z_iconst (n := 25) dX3_least_24 rfl (by decide) ?_
      refine Z_goto (t := 29) dX3_least_25 (by decide) ?_
      refine Z_aload_n (n := 30) dX3_least_29 rfl rfl ?_
      refine Z_getO (n := 33) dX3_least_30 rfl ffX3_18 (by first | rfl | exact nS0 (nA_at (by omega) (by omega))) (by first | rfl | exact nS0 (nA_at (by omega) (by omega))) ?_
      refine Z_callVi (n := 36) [_, _, _] _ dX3_least_33 rfl cwX3_175 rfl rfl (by first | rfl | exact nS0 (nA_at (by omega) (by omega))) (Nat.le_of_ble_eq_true rfl) (by refine ⟨?_, ?_, ?_, ?_⟩ <;> exact Nat.le_of_ble_eq_true rfl) (fun _ h => h) (zX2_leastFor_f  (by exact hSb.1) (by exact okf) (by first | exact Or.inr rfl | exact Or.inl rfl) (by exact ho3)) ?_
      intro x33 M33 J33 z33 f33 q33
      obtain ⟨e33_1, e33_2, lf33⟩ := q33
      replace e33_1 := e33_1.symm; subst e33_1
      replace e33_2 := e33_2.symm; subst e33_2
      refine Z_iret dX3_least_36 rfl ?_
      refine ⟨rfl, rfl, Or.inr ⟨by omega, ?_⟩⟩
      first
        | (rw [if_pos (show y = 0 by omega)]; exact lf33)
        | (rw [if_neg (show ¬ y = 0 by omega)]; exact lf33)
  · refine Z_iconst (n := 9) dX3_least_8 rfl (by decide) ?_
    refine Z_iret dX3_least_9 rfl ?_
    exact ⟨rfl, rfl, Or.inl ⟨by omega, rfl⟩⟩
set_option maxRecDepth 20000 in
theorem zX4_least_g {G : tl_G} {M : zM} {J : zJ} {f y : Int}  : ZN G yX4_least mX4_least 3 kAll [vR 31, vI f, vI y] F1 M J (qI (fun x M' J' => M' = M ∧ J' = J ∧ (((f < 0 ∨ 12 ≤ f ∨ M 43 f = 0) ∧ x = -1) ∨ (¬ (f < 0 ∨ 12 ≤ f ∨ M 43 f = 0) ∧ lgQ (bitF J f) (M 38) y x)))) := by
  refine ZN_of (L := [_, _, _, _]) (by decide) rfl rfl (Nat.le_of_ble_eq_true rfl) rfl (fun hav => ?_)
  refine Z_aload_n (n := 1) dX4_least_0 rfl rfl ?_
  refine Z_iload_n (n := 2) dX4_least_1 rfl rfl ?_
  refine Z_callVi (n := 5) [_] _ dX4_least_2 rfl cwX4_223 rfl rfl rfl (Nat.le_of_ble_eq_true rfl) (by refine ⟨?_, ?_, ?_, ?_⟩ <;> exact Nat.le_of_ble_eq_true rfl) (fun _ h => h) (zX4_isFunction  ) ?_
  intro x2 M2 J2 z2 f2 q2
  obtain ⟨e2_1, e2_2, h2⟩ := q2
  replace e2_1 := e2_1.symm; subst e2_1
  replace e2_2 := e2_2.symm; subst e2_2
  refine Z_if_ne (n := 8) (t := 10) dX4_least_5 rfl (by decide) (fun c5 => ?_) (fun c5 => ?_)
  · refine Z_aload_n (n := 11) dX4_least_10 rfl rfl ?_
    refine Z_iload_n (n := 12) dX4_least_11 rfl rfl ?_
    refine Z_iload_n (n := 13) dX4_least_12 rfl rfl ?_
    refine Z_callVi (n := 16) [_, _] _ dX4_least_13 rfl cwX4_246 rfl rfl rfl (Nat.le_of_ble_eq_true rfl) (by refine ⟨?_, ?_, ?_, ?_⟩ <;> exact Nat.le_of_ble_eq_true rfl) (fun _ h => h) (zX4_leastOf  (by first | assumption | omega | decide) (by first | assumption | omega | decide)) ?_
    intro x13 M13 J13 z13 f13 q13
    obtain ⟨e13_1, e13_2, h13⟩ := q13
    replace e13_1 := e13_1.symm; subst e13_1
    replace e13_2 := e13_2.symm; subst e13_2
    refine Z_istore_n (L' := [_, _, _, _]) (n := 17) dX4_least_16 rfl (by decide) rfl rfl ?_
    refine Z_iload_n (n := 18) dX4_least_17 rfl rfl ?_
    refine Z_if_ge (n := 21) (t := 26) dX4_least_18 rfl (by decide) (fun c18 => ?_) (fun c18 => ?_)
    · refine Z_aload_n (n := 27) dX4_least_26 rfl rfl ?_
      refine Z_iload_n (n := 28) dX4_least_27 rfl rfl ?_
      refine Z_callVi (n := 31) [_] _ dX4_least_28 rfl cwX4_250 rfl rfl rfl (Nat.le_of_ble_eq_true rfl) (by refine ⟨?_, ?_, ?_, ?_⟩ <;> exact Nat.le_of_ble_eq_true rfl) (fun _ h => h) (zX4_assignmentAt  ) ?_
      intro x28 M28 J28 z28 f28 q28
      obtain ⟨e28_1, e28_2, h28⟩ := q28
      replace e28_1 := e28_1.symm; subst e28_1
      replace e28_2 := e28_2.symm; subst e28_2
      refine Z_iret dX4_least_31 rfl ?_
      refine ⟨rfl, rfl, Or.inr ⟨by omega, ?_⟩⟩
      rcases h13 with ⟨a, b⟩ | ⟨a, b, c, d⟩
      · first
          | (exfalso; omega)
          | exact Or.inl ⟨rfl, b⟩
      · first
          | (exfalso; omega)
          | exact Or.inr ⟨x13, ⟨a, b⟩, c, d, h28⟩
    · refine Z_bipush (n := 23) dX4_least_21 rfl (by decide) (by decide) ?_
      refine Z_goto (t := 31) dX4_least_23 (by decide) ?_
      refine Z_iret dX4_least_31 rfl ?_
      refine ⟨rfl, rfl, Or.inr ⟨by omega, ?_⟩⟩
      rcases h13 with ⟨a, b⟩ | ⟨a, b, c, d⟩
      · first
          | (exfalso; omega)
          | exact Or.inl ⟨rfl, b⟩
      · first
          | (exfalso; omega)
          | exact Or.inr ⟨x13, ⟨a, b⟩, c, d, h28⟩
  · refine Z_iconst (n := 9) dX4_least_8 rfl (by decide) ?_
    refine Z_iret dX4_least_9 rfl ?_
    exact ⟨rfl, rfl, Or.inl ⟨by omega, rfl⟩⟩
theorem sim_least {M M1 : zM} {J : zJ} {x y f z w : Int} (h : LSy M J) (fr : ∀ a : Nat, 31 ≤ a → M1 a = M a) (hw : (if z = 0 then 0 else 1) = w) (hc : ((f < 0 ∨ 12 ≤ f ∨ M 12 f = -1) ∧ x = -1) ∨ (¬ (f < 0 ∨ 12 ≤ f ∨ M 12 f = -1) ∧ lfQ (den M (M 12 f)) (M 3) (if z = 0 then 0 else 1) x)) (hq : ((f < 0 ∨ 12 ≤ f ∨ M1 43 f = 0) ∧ y = -1) ∨ (¬ (f < 0 ∨ 12 ≤ f ∨ M1 43 f = 0) ∧ lgQ (bitF J f) (M1 38) w y)) : x = y := by
  have kf := ls_k h fr f
  rcases hc with ⟨a, b⟩ | ⟨a, b⟩
  · rcases hq with ⟨a', b'⟩ | ⟨a', b'⟩
    · exact b.trans b'.symm
    · exfalso; omega
  · rcases hq with ⟨a', b'⟩ | ⟨a', b'⟩
    · exfalso; omega
    · rw [ls_d h (f := f) (by omega) (by omega) (by omega), hw] at b
      rw [fr 38 (by decide)] at b'
      exact lf_lg (fun j j0 j1 => (h.2.2.2.1.1 j j0 j1).1.symm) b b'
end
