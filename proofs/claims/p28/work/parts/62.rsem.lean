/-! ===== the reference's functions, its labels, its counts ===== -/
def phi (J : zJ) (f : Int) : FN := fun r => btF (bitF J f) (pos r)
def rlab (M : zM) (J : zJ) (n : Int) : Lb := (M 47 n, fun r => btF (kyf J n) (pd r (8 - M 47 n).toNat))
theorem pw2_le : ∀ k : Fin 9, pw2 k.val ≤ 256 := by decide
theorem zshl_pw {d : Int} (h0 : 0 ≤ d) (h1 : d ≤ 7) : zshl 1 d = pw2 d.toNat := by
  have v := dep_v ⟨d.toNat, by omega⟩
  dsimp only at v
  rw [Int.toNat_of_nonneg h0] at v
  exact v.2.1
theorem ly_rng {d i : Int} {k : Nat} (hk : d + k = 8) (h0 : 0 ≤ d) (h1 : d ≤ 7) (i0 : 0 ≤ i) (i1 : i < pw2 d.toNat) : 0 ≤ i * pw2 k ∧ i * pw2 k + pw2 k ≤ 256 := by
  have w := pw2_v
  rcases (show (d = 0 ∧ k = 8) ∨ (d = 1 ∧ k = 7) ∨ (d = 2 ∧ k = 6) ∨ (d = 3 ∧ k = 5) ∨ (d = 4 ∧ k = 4) ∨ (d = 5 ∧ k = 3) ∨ (d = 6 ∧ k = 2) ∨ (d = 7 ∧ k = 1) by omega) with ⟨z, y⟩ | ⟨z, y⟩ | ⟨z, y⟩ | ⟨z, y⟩ | ⟨z, y⟩ | ⟨z, y⟩ | ⟨z, y⟩ | ⟨z, y⟩ <;> subst z <;> subst y <;> simp only [show (0 : Int).toNat = 0 from rfl, show (1 : Int).toNat = 1 from rfl, show (2 : Int).toNat = 2 from rfl, show (3 : Int).toNat = 3 from rfl, show (4 : Int).toNat = 4 from rfl, show (5 : Int).toNat = 5 from rfl, show (6 : Int).toNat = 6 from rfl, show (7 : Int).toNat = 7 from rfl, w] at * <;> omega
/-- the laid parts of a function in words -/
theorem laid_B {B : Int → Int64} {y : Lb} : laid (fun r => btF B (pos r)) y ↔ ∃ i : Int, (0 ≤ y.1 ∧ y.1 ≤ 7) ∧ (0 ≤ i ∧ i < zshl 1 y.1) ∧ lyR B y.1 i = true ∧ y.2 = fun r => btF (lyP B y.1 i) (pd r (8 - y.1).toNat) := by
  obtain ⟨d, psi⟩ := y
  dsimp only
  constructor
  · rintro ⟨⟨a, b⟩, ⟨s, e⟩, r, q⟩
    dsimp only at a b e q
    obtain ⟨k, hk⟩ : ∃ k : Nat, d + ((k + 1 : Nat) : Int) = 8 := ⟨(7 - d).toNat, by omega⟩
    have hi := ihd_in s d.toNat
    have hpos : ∀ r' : Int → Int, pos (mix d s r') = ihd s d.toNat * pw2 (k + 1) + pd r' (k + 1) := fun r' => by
      have z := pd_mix (s := s) (d := d.toNat) (k := k + 1) (r := r') (by omega)
      rw [Int.toNat_of_nonneg a] at z
      exact z
    have hd7 : d = 7 - (k : Int) := by omega
    have hr := ly_rng hk a (by omega) hi.1 hi.2
    refine ⟨ihd s d.toNat, ⟨a, by omega⟩, ⟨hi.1, by rw [zshl_pw a (by omega)]; exact hi.2⟩, ?_, ?_⟩
    · rw [lyR_ly (k := k) (by omega) a hi.1 hi.2]
      have hp := pd_in r k
      refine ⟨pd r k, hp, fun t => q ?_⟩
      rw [e]
      dsimp only
      rw [hpos, hpos, hd7, pd_up, pd_up, bz_0, bz_1]
      rw [hd7] at t
      rw [show ∀ x : Int, x + (0 * pw2 k + pd r k) = x + pd r k from fun x => by omega, show ∀ x : Int, x + (1 * pw2 k + pd r k) = x + pd r k + pw2 k from fun x => by omega]
      exact t
    · rw [e]
      funext r'
      try dsimp only
      have hp := pd_in r' (k + 1)
      have hle : pw2 (k + 1) ≤ 256 := pw2_le ⟨k + 1, by omega⟩
      rw [hpos, show (8 - d).toNat = k + 1 by omega, btF_ly (k := k + 1) hk a (by omega) hi.1 hi.2 hp.1 (by omega), if_pos hp.2]
  · rintro ⟨i, ⟨a, b⟩, ⟨i0, i1⟩, hR, e⟩
    obtain ⟨k, hk⟩ : ∃ k : Nat, d + ((k + 1 : Nat) : Int) = 8 := ⟨(7 - d).toNat, by omega⟩
    rw [zshl_pw a b] at i1
    obtain ⟨s, hs⟩ := ihd_onto d.toNat i i0 i1
    have hpos : ∀ r' : Int → Int, pos (mix d s r') = i * pw2 (k + 1) + pd r' (k + 1) := fun r' => by
      have z := pd_mix (s := s) (d := d.toNat) (k := k + 1) (r := r') (by omega)
      rw [Int.toNat_of_nonneg a, hs] at z
      exact z
    have hd7 : d = 7 - (k : Int) := by omega
    have hle : pw2 (k + 1) ≤ 256 := pw2_le ⟨k + 1, by omega⟩
    have e2 : psi = fun r => btF B (pos (mix d s r)) := by
      rw [e]
      funext r'
      have hp := pd_in r' (k + 1)
      rw [hpos, show (8 - d).toNat = k + 1 by omega, btF_ly (k := k + 1) hk a b i0 i1 hp.1 (by omega), if_pos hp.2]
    refine ⟨⟨a, by show d < 8; omega⟩, ⟨s, e2⟩, ?_⟩
    rw [lyR_ly (k := k) (by omega) a i0 i1] at hR
    obtain ⟨q, qb, hq⟩ := hR
    obtain ⟨r, hr⟩ := pd_onto k q qb.1 qb.2
    refine ⟨r, fun t => hq ?_⟩
    dsimp only at t
    rw [e2] at t
    dsimp only at t
    rw [hpos, hpos, hd7, pd_up, pd_up, bz_0, bz_1, hr] at t
    rw [show ∀ x : Int, x + (0 * pw2 k + q) = x + q from fun x => by omega, show ∀ x : Int, x + (1 * pw2 k + q) = x + q + pw2 k from fun x => by omega] at t
    exact t
theorem cfn_ex {M : zM} {lo : Int → Int} {n : Int} : ∀ {N : Nat}, ¬ cfn M lo n N = 0 → ∃ f : Int, (0 ≤ f ∧ f < N) ∧ ¬ M 43 f = 0 ∧ inS M f (lo f) n
  | 0, h => absurd rfl h
  | N + 1, h => by
    by_cases e : ¬ M 43 (N : Int) = 0 ∧ inS M N (lo N) n
    · exact ⟨N, by omega, e⟩
    · unfold cfn at h
      rw [ind_f e] at h
      obtain ⟨f, a, b⟩ := cfn_ex (N := N) (n := n) (lo := lo) (M := M) (fun z => h (by omega))
      exact ⟨f, by omega, b⟩
/-- a node in use is a laid part of a function -/
theorem ref_lab {M : zM} {J : zJ} (h : TI M J) {n : Int} (n0 : 0 ≤ n) (n1 : n < 520) (hn : ¬ M 49 n = 0) : ∃ f i : Int, (0 ≤ f ∧ f < 56) ∧ ¬ M 43 f = 0 ∧ inS M f 0 n ∧ ((0 ≤ M 47 n ∧ M 47 n ≤ 7) ∧ 0 ≤ i ∧ i < zshl 1 (M 47 n)) ∧ lyR (bitF J f) (M 47 n) i = true ∧ ∀ k : Int, 0 ≤ k → k < 4 → kyf J n k = lyP (bitF J f) (M 47 n) i k := by
  rw [h.2.1.1 n n0 n1] at hn
  obtain ⟨f, a, b, c⟩ := cfn_ex hn
  obtain ⟨d, i, q1, q2, q3⟩ := (h.2.2.1 f a.1 (by omega) b).2 n c
  have e : M 47 n = d := q3.1
  refine ⟨f, i, by omega, b, c, ?_, ?_, ?_⟩
  · rw [e]; exact q1
  · rw [e]; exact q2
  · rw [e]; exact kyf_of q3
theorem rlab_eq {M : zM} {J : zJ} {n d i : Int} {B : Int → Int64} (e : M 47 n = d) (h0 : 0 ≤ d) (h1 : d ≤ 7) (hk : ∀ k : Int, 0 ≤ k → k < 4 → kyf J n k = lyP B d i k) : rlab M J n = (d, fun r => btF (lyP B d i) (pd r (8 - d).toNat)) := by
  unfold rlab
  rw [e]
  refine congrArg (Prod.mk d) ?_
  funext r
  have hp := pd_in r (8 - d).toNat
  have hle : pw2 (8 - d).toNat ≤ 256 := pw2_le ⟨(8 - d).toNat, by omega⟩
  exact btF_congr hk hp.1 (by omega)
theorem rlab_inj {M : zM} {J : zJ} (h : TI M J) {a b : Int} (a0 : 0 ≤ a) (a1 : a < 520) (b0 : 0 ≤ b) (b1 : b < 520) (ha : ¬ M 49 a = 0) (hb : ¬ M 49 b = 0) (e : rlab M J a = rlab M J b) : a = b := by
  obtain ⟨f, i, -, -, -, q1, -, q3⟩ := ref_lab h a0 a1 ha
  obtain ⟨g, j, -, -, -, z1, -, z3⟩ := ref_lab h b0 b1 hb
  have e1 : M 47 a = M 47 b := congrArg Prod.fst e
  have e2 : (fun r => btF (kyf J a) (pd r (8 - M 47 a).toNat)) = fun r => btF (kyf J b) (pd r (8 - M 47 b).toNat) := congrArg Prod.snd e
  refine h.2.2.2.2 a b a0 a1 b0 b1 ha hb e1 (btF_inj (fun p p0 p1 => ?_))
  rw [← e1] at e2 z1 z3
  obtain ⟨k, hk⟩ : ∃ k : Nat, M 47 a + (k : Int) = 8 := ⟨(8 - M 47 a).toNat, by omega⟩
  rw [show (8 - M 47 a).toNat = k by omega] at e2
  by_cases c : p < pw2 k
  · obtain ⟨r, hr⟩ := pd_onto k p p0 c
    have t := congrFun e2 r
    try dsimp only at t
    rw [hr] at t
    exact t
  · have i1 := q1.2.2
    have j1 := z1.2.2
    rw [zshl_pw q1.1.1 q1.1.2] at i1 j1
    rw [btF_congr q3 p0 p1, btF_congr z3 p0 p1, btF_ly hk q1.1.1 q1.1.2 q1.2.1 i1 p0 p1, btF_ly hk q1.1.1 q1.1.2 z1.2.1 j1 p0 p1, if_neg c, if_neg c]
/-- what is in use, counted -/
def LBr (M : zM) (J : zJ) (y : Lb) : Prop := ∃ f : Int, (0 ≤ f ∧ f < 56) ∧ ¬ M 43 f = 0 ∧ laid (phi J f) y
theorem ref_cnt {M : zM} {J : zJ} (h : TI M J) (hok : zOK M) : cnt (LBr M J) (M 31 24) := by
  obtain ⟨ch, fl, t1⟩ := h.1
  rw [t1.2.2.2]
  refine cnt_hr (g := rlab M J) (fun a b a0 a1 b0 b1 ha hb e => rlab_inj h a0 (by omega) b0 (by omega) ha hb e) (fun a a0 a1 ha => ?_) (fun x hx => ?_)
  · obtain ⟨f, i, f0, f1, -, q1, q2, q3⟩ := ref_lab h a0 (by omega) ha
    refine ⟨f, f0, f1, laid_B.mpr ⟨i, ?_⟩⟩
    rw [rlab_eq rfl q1.1.1 q1.1.2 q3]
    exact ⟨q1.1, q1.2, q2, rfl⟩
  · obtain ⟨f, f0, f1, hl⟩ := hx
    obtain ⟨i, ⟨a, b⟩, ⟨c, w⟩, q, e⟩ := laid_B.mp hl
    obtain ⟨n, h1, h2⟩ := (h.2.2.1 f f0.1 f0.2 f1).1 x.1 i a b c w q
    have nr := inS_range hok h1
    refine ⟨n, nr.1, by omega, held_of h.2.1 f0.1 f0.2 nr.1 nr.2 f1 h1, ?_⟩
    rw [rlab_eq h2.1 a b (kyf_of h2)]
    exact Prod.ext rfl e.symm
theorem hr_1 : ∀ n : Nat, hr (fun _ => 1) n = n
  | 0 => rfl
  | n + 1 => by
    unfold hr
    rw [hr_1 n, if_neg (by decide)]
    omega
theorem cnt_ix {g : Int → Lb} {P : Lb → Prop} {c : Int} (c0 : 0 ≤ c) (hi : ∀ a b : Int, 0 ≤ a → a < c → 0 ≤ b → b < c → g a = g b → a = b) (h1 : ∀ a : Int, 0 ≤ a → a < c → P (g a)) (h2 : ∀ x, P x → ∃ a : Int, 0 ≤ a ∧ a < c ∧ g a = x) : cnt P c := by
  have q := cnt_hr (f := fun _ => 1) (g := g) (n := c.toNat) (P := P) (fun a b a0 a1 b0 b1 _ _ e => hi a b a0 (by omega) b0 (by omega) e) (fun a a0 a1 _ => h1 a a0 (by omega)) (fun x hx => by
    obtain ⟨a, a0, a1, e⟩ := h2 x hx
    exact ⟨a, a0, by omega, (by show ¬ (1 : Int) = 0; decide), e⟩)
  rw [hr_1, Int.toNat_of_nonneg c0] at q
  exact q
/-- the nodes of one function, counted -/
theorem ref_nodes {M : zM} {J : zJ} (h : TI M J) (hok : zOK M) {f : Int} (f0 : 0 ≤ f) (f1 : f < 56) (hf : ¬ M 43 f = 0) : cnt (laid (phi J f)) (M 45 f) := by
  have hin : ∀ j : Int, 0 ≤ j → j < M 45 f → inS M f 0 (M 46 (255 * f + j)) := fun j a b => ⟨j, a, b, rfl⟩
  have hlv : ∀ j : Int, 0 ≤ j → j < M 45 f → (0 ≤ M 46 (255 * f + j) ∧ M 46 (255 * f + j) < 520) ∧ ¬ M 49 (M 46 (255 * f + j)) = 0 := fun j a b => by
    have nr := inS_range hok (hin j a b)
    exact ⟨nr, held_of h.2.1 f0 f1 nr.1 nr.2 hf (hin j a b)⟩
  have h45 : 0 ≤ M 45 f ∧ M 45 f ≤ 255 := hok 45 f
  refine cnt_ix (g := fun j => rlab M J (M 46 (255 * f + j))) h45.1 (fun a b a0 a1 b0 b1 e => ?_) (fun a a0 a1 => ?_) (fun x hx => ?_)
  · have q := rlab_inj h (hlv a a0 a1).1.1 (hlv a a0 a1).1.2 (hlv b b0 b1).1.1 (hlv b b0 b1).1.2 (hlv a a0 a1).2 (hlv b b0 b1).2 e
    have z := (h.2.1.2 f f0 f1).1
    by_cases t : a = b
    · exact t
    · exfalso
      rcases (show a < b ∨ b < a by omega) with t | t
      · exact z a b a0 t b1 q
      · exact z b a b0 t a1 q.symm
  · obtain ⟨d, i, q1, q2, q3⟩ := (h.2.2.1 f f0 f1 hf).2 _ (hin a a0 a1)
    refine laid_B.mpr ⟨i, ?_⟩
    try dsimp only
    rw [rlab_eq q3.1 q1.1.1 q1.1.2 (kyf_of q3)]
    exact ⟨q1.1, q1.2, q2, rfl⟩
  · obtain ⟨i, ⟨a, b⟩, ⟨c, w⟩, q, e⟩ := laid_B.mp hx
    obtain ⟨n, ⟨j, j0, j1, hj⟩, h2⟩ := (h.2.2.1 f f0 f1 hf).1 x.1 i a b c w q
    refine ⟨j, j0, j1, ?_⟩
    try dsimp only
    rw [hj, rlab_eq h2.1 a b (kyf_of h2)]
    exact Prod.ext rfl e.symm
