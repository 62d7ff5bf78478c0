section
/-! ===== the order: what a walk and a move leave ===== -/
theorem vr_od {f : Int → oS → oS} {od od' : Int → Int} : ∀ {n : Nat} {c : Int} {s : oS}, (∀ i : Int, c ≤ i → i < c + n → od' i = od i) → vr f od' n c s = vr f od n c s
  | 0, _, _, _ => rfl
  | n + 1, c, s, h => by
    show vr f od' n (c + 1) (f (od' c) s) = vr f od n (c + 1) (f (od c) s)
    rw [h c (by omega) (by omega)]
    exact vr_od (fun i a b => h i (by omega) (by omega))
theorem vs_cg {kd kd' : Int → Int} {od od' : Int → Int → Int} {m : Int} (hb : odB kd od m) (hk : ∀ k : Int, 0 ≤ k → k < m → kd' k = kd k ∧ ∀ c : Int, 0 ≤ c → c < 3 → od' k c = od k c) : ∀ (n : Nat) (g : Int) (s : oS), 0 ≤ g → g < m → vs kd' od' n g s = vs kd od n g s := by
  intro n
  induction n with
  | zero => intro g s _ _; rfl
  | succ n ih =>
    intro g s g0 g1
    obtain ⟨e1, e2⟩ := hk g g0 g1
    show (if s.1 g = 0 then vr (vs kd' od' n) (od' g) (opF (kd' g)).toNat 0 (ent kd' od' g s) else s) = (if s.1 g = 0 then vr (vs kd od n) (od g) (opF (kd g)).toNat 0 (ent kd od g s) else s)
    have ee : ent kd' od' g s = ent kd od g s := by
      unfold ent
      rw [e1, e2 0 (by decide) (by decide)]
    have h3 := opF_in (kd g)
    rw [e1, ee]
    by_cases q : s.1 g = 0
    · rw [if_pos q, if_pos q, vr_od (od := od g) (od' := od' g) (fun i a b => e2 i (by omega) (by omega))]
      refine vr_cg (fun i a b t => ?_)
      have z := hb g g0 g1 i (by omega) (by omega)
      exact ih _ t z.1 (by omega)
    · rw [if_neg q, if_neg q]
/-- what is placed is placed once -/
def pW (s : oS) : Prop := 0 ≤ s.2.2.2 ∧ (∀ v : Int, 0 ≤ v → v < 8 → s.2.1 v = -1 ∨ (0 ≤ s.2.1 v ∧ s.2.1 v < s.2.2.2 ∧ s.2.2.1 (s.2.1 v) = v)) ∧ ∀ k : Int, 0 ≤ k → k < s.2.2.2 → 0 ≤ s.2.2.1 k ∧ s.2.2.1 k < 8 ∧ s.2.1 (s.2.2.1 k) = k
theorem pW_mt {v : Int} {s : oS} (v0 : 0 ≤ v) (v1 : v < 8) (h : pW s) : pW (mt v s) := by
  obtain ⟨a, P, A, m⟩ := s
  have h0 : 0 ≤ m := h.1
  have h1 : ∀ v : Int, 0 ≤ v → v < 8 → P v = -1 ∨ (0 ≤ P v ∧ P v < m ∧ A (P v) = v) := h.2.1
  have h2 : ∀ k : Int, 0 ≤ k → k < m → 0 ≤ A k ∧ A k < 8 ∧ P (A k) = k := h.2.2
  by_cases q : P v = -1
  · have e : mt v (a, P, A, m) = (a, updI P v m, updI A m v, m + 1) := if_pos q
    rw [e]
    refine ⟨show 0 ≤ m + 1 by omega, fun w w0 w1 => ?_, fun k k0 k1 => ?_⟩
    · show updI P v m w = -1 ∨ (0 ≤ updI P v m w ∧ updI P v m w < m + 1 ∧ updI A m v (updI P v m w) = w)
      by_cases e : w = v
      · right
        rw [e, updI_s, updI_s]
        exact ⟨h0, by omega, rfl⟩
      · rw [updI_n e]
        rcases h1 w w0 w1 with z | ⟨z1, z2, z3⟩
        · exact Or.inl z
        · right
          rw [updI_n (show P w ≠ m by omega)]
          exact ⟨z1, by omega, z3⟩
    · show 0 ≤ updI A m v k ∧ updI A m v k < 8 ∧ updI P v m (updI A m v k) = k
      have k2 : k < m + 1 := k1
      by_cases e : k = m
      · rw [e, updI_s, updI_s]
        exact ⟨v0, v1, rfl⟩
      · obtain ⟨z1, z2, z3⟩ := h2 k k0 (by omega)
        have ne : A k ≠ v := fun t => by
          rw [t, q] at z3
          omega
        rw [updI_n e, updI_n ne]
        exact ⟨z1, z2, z3⟩
  · have e : mt v (a, P, A, m) = (a, P, A, m) := if_neg q
    rw [e]
    exact h
theorem pW_vr {f : Int → oS → oS} {od : Int → Int} : ∀ {n : Nat} {c : Int} {s : oS}, (∀ i : Int, c ≤ i → i < c + n → ∀ s, pW s → pW (f (od i) s)) → pW s → pW (vr f od n c s)
  | 0, _, _, _, h => h
  | n + 1, c, s, h, hs => pW_vr (n := n) (c := c + 1) (fun i a b => h i (by omega) (by omega)) (h c (by omega) (by omega) s hs)
theorem pW_ent {kd : Int → Int} {od : Int → Int → Int} {g : Int} {s : oS} (hv : kd g = 0 → 0 ≤ od g 0 ∧ od g 0 < 8) (h : pW s) : pW (ent kd od g s) := by
  unfold ent
  by_cases q : kd g = 0
  · rw [if_pos q]
    exact pW_mt (hv q).1 (hv q).2 h
  · rw [if_neg q]
    exact h
theorem pW_vs {kd : Int → Int} {od : Int → Int → Int} {m : Int} (hb : odB kd od m) (hv : ∀ g : Int, 0 ≤ g → g < m → kd g = 0 → 0 ≤ od g 0 ∧ od g 0 < 8) : ∀ (n : Nat) (g : Int) (s : oS), 0 ≤ g → g < m → pW s → pW (vs kd od n g s) := by
  intro n
  induction n with
  | zero => intro g s _ _ h; exact h
  | succ n ih =>
    intro g s g0 g1 h
    show pW (if s.1 g = 0 then vr (vs kd od n) (od g) (opF (kd g)).toNat 0 (ent kd od g s) else s)
    by_cases q : s.1 g = 0
    · rw [if_pos q]
      have h3 := opF_in (kd g)
      refine pW_vr (fun i a b t ht => ?_) (pW_ent (hv g g0 g1) h)
      have z := hb g g0 g1 i (by omega) (by omega)
      exact ih _ t z.1 (by omega) ht
    · rw [if_neg q]
      exact h
/-- nothing met, no gate gone into -/
def o0 (A : Int → Int) : oS := (rs 40 (fun _ => 0), rs 8 (fun _ => -1), rs 8 A, 0)
/-- the others are met -/
def oF (s : oS) : oS := vr mt (fun c => c) 8 0 s
theorem pW_0 {A : Int → Int} : pW (o0 A) := ⟨show (0 : Int) ≤ 0 by decide, fun v a b => Or.inl (rs_in (f := fun _ => (-1 : Int)) a b), fun k a b => by have b' : k < 0 := b; omega⟩
theorem pW_F {s : oS} (h : pW s) : pW (oF s) := pW_vr (fun i a b t ht => pW_mt (v := i) (by omega) (by omega) ht) h
/-- one is the other's inverse -/
def oIn (A P : Int → Int) : Prop := ∀ v : Int, 0 ≤ v → v < 8 → (0 ≤ P v ∧ P v < 8 ∧ A (P v) = v) ∧ (0 ≤ A v ∧ A v < 8 ∧ P (A v) = v)
theorem oIn_cg {A A' P P' : Int → Int} (hA : ∀ j : Int, 0 ≤ j → j < 8 → A' j = A j) (hP : ∀ j : Int, 0 ≤ j → j < 8 → P' j = P j) (h : oIn A P) : oIn A' P' := fun v a b => by
  obtain ⟨⟨p1, p2, p3⟩, q1, q2, q3⟩ := h v a b
  have e1 : A' (P' v) = v := by rw [hP v a b, hA _ p1 p2]; exact p3
  have e2 : P' (A' v) = v := by rw [hA v a b, hP _ q1 q2]; exact q3
  rw [e1, e2, hP v a b, hA v a b]
  exact ⟨⟨p1, p2, rfl⟩, q1, q2, rfl⟩
theorem oIn_rs {A P : Int → Int} (h : oIn (rs 8 A) (rs 8 P)) : oIn A P := oIn_cg (fun _ a b => (rs_in a b).symm) (fun _ a b => (rs_in a b).symm) h
theorem oIn_F {s : oS} (h : pW s) (h8 : s.2.2.2 = 8) (hP : ∀ v : Int, 0 ≤ v → v < 8 → 0 ≤ s.2.1 v) : oIn s.2.2.1 s.2.1 := fun v a b => by
  have z := (h.2.1 v a b).resolve_left (fun t => by have := hP v a b; omega)
  exact ⟨⟨z.1, by omega, z.2.2⟩, h.2.2 v a (by omega)⟩
theorem hc_all {f : Int → Int} : ∀ {n : Nat}, (∀ k : Int, 0 ≤ k → k < n → ¬ f k = -1) → hc f n = n
  | 0, _ => rfl
  | n + 1, h => by
    unfold hc
    rw [hc_all (n := n) (fun k a b => h k a (by omega)), if_neg (h n (by omega) (by omega))]
    omega
/-- the places between f and a move down, those between b and f move up -/
def mvA (A : Int → Int) (f a b : Int) : Int → Int := fun j => if f ≤ j ∧ j < a then A (j + 1) else if b < j ∧ j ≤ f then A (j - 1) else A j
def mvP (P : Int → Int) (f a b : Int) : Int → Int := fun w => if f < P w ∧ P w ≤ a then P w - 1 else if b ≤ P w ∧ P w < f then P w + 1 else P w
theorem mvA_1 {A : Int → Int} {f a b j : Int} (h : f ≤ j ∧ j < a) : mvA A f a b j = A (j + 1) := if_pos h
theorem mvA_2 {A : Int → Int} {f a b j : Int} (h : ¬ (f ≤ j ∧ j < a)) (h' : b < j ∧ j ≤ f) : mvA A f a b j = A (j - 1) := (if_neg h).trans (if_pos h')
theorem mvA_3 {A : Int → Int} {f a b j : Int} (h : ¬ (f ≤ j ∧ j < a)) (h' : ¬ (b < j ∧ j ≤ f)) : mvA A f a b j = A j := (if_neg h).trans (if_neg h')
theorem mvP_1 {P : Int → Int} {f a b w : Int} (h : f < P w ∧ P w ≤ a) : mvP P f a b w = P w - 1 := if_pos h
theorem mvP_2 {P : Int → Int} {f a b w : Int} (h : ¬ (f < P w ∧ P w ≤ a)) (h' : b ≤ P w ∧ P w < f) : mvP P f a b w = P w + 1 := (if_neg h).trans (if_pos h')
theorem mvP_3 {P : Int → Int} {f a b w : Int} (h : ¬ (f < P w ∧ P w ≤ a)) (h' : ¬ (b ≤ P w ∧ P w < f)) : mvP P f a b w = P w := (if_neg h).trans (if_neg h')
/-- variable v moved to place p -/
def mvQ (A P A' P' : Int → Int) (v p : Int) : Prop := (∀ j : Int, 0 ≤ j → j < 8 → A' j = updI (mvA A (P v) p p) p v j) ∧ ∀ w : Int, 0 ≤ w → w < 8 → P' w = updI (mvP P (P v) p p) v p w
theorem mv_in {A P A' P' : Int → Int} {v p : Int} (h : oIn A P) (v0 : 0 ≤ v) (v1 : v < 8) (p0 : 0 ≤ p) (p1 : p < 8) (hq : mvQ A P A' P' v p) : oIn A' P' := by
  obtain ⟨hA, hP⟩ := hq
  obtain ⟨⟨f0, f1, fv⟩, -⟩ := h v v0 v1
  obtain ⟨f, hf⟩ : ∃ f, f = P v := ⟨_, rfl⟩
  rw [← hf] at hA hP f0 f1 fv
  intro w w0 w1
  constructor
  · obtain ⟨⟨k0, k1, k2⟩, -⟩ := h w w0 w1
    obtain ⟨k, hk⟩ : ∃ k, k = P w := ⟨_, rfl⟩
    rw [← hk] at k0 k1 k2
    by_cases e : w = v
    · have ex : P' w = p := by rw [hP w w0 w1, e, updI_s]
      rw [ex, hA p p0 p1, updI_s]
      exact ⟨p0, p1, e.symm⟩
    · have kf : k ≠ f := fun t => e (k2.symm.trans (by rw [t]; exact fv))
      have ex : P' w = mvP P f p p w := (hP w w0 w1).trans (updI_n e)
      by_cases c1 : f < k ∧ k ≤ p
      · have ey : P' w = k - 1 := by rw [ex, mvP_1 (show f < P w ∧ P w ≤ p by rw [← hk]; exact c1), ← hk]
        rw [ey, hA (k - 1) (by omega) (by omega), updI_n (show k - 1 ≠ p by omega), mvA_1 (show f ≤ k - 1 ∧ k - 1 < p by omega), show k - 1 + 1 = k by omega]
        exact ⟨by omega, by omega, k2⟩
      · by_cases c2 : p ≤ k ∧ k < f
        · have ey : P' w = k + 1 := by rw [ex, mvP_2 (show ¬ (f < P w ∧ P w ≤ p) by rw [← hk]; exact c1) (show p ≤ P w ∧ P w < f by rw [← hk]; exact c2), ← hk]
          rw [ey, hA (k + 1) (by omega) (by omega), updI_n (show k + 1 ≠ p by omega), mvA_2 (show ¬ (f ≤ k + 1 ∧ k + 1 < p) by omega) (show p < k + 1 ∧ k + 1 ≤ f by omega), show k + 1 - 1 = k by omega]
          exact ⟨by omega, by omega, k2⟩
        · have ey : P' w = k := by rw [ex, mvP_3 (show ¬ (f < P w ∧ P w ≤ p) by rw [← hk]; exact c1) (show ¬ (p ≤ P w ∧ P w < f) by rw [← hk]; exact c2), ← hk]
          rw [ey, hA k k0 k1, updI_n (show k ≠ p by omega), mvA_3 (show ¬ (f ≤ k ∧ k < p) by omega) (show ¬ (p < k ∧ k ≤ f) by omega)]
          exact ⟨k0, k1, k2⟩
  · by_cases e : w = p
    · have ex : A' w = v := by rw [hA w w0 w1, e, updI_s]
      rw [ex, hP v v0 v1, updI_s]
      exact ⟨v0, v1, e.symm⟩
    · have eA : A' w = mvA A f p p w := (hA w w0 w1).trans (updI_n e)
      by_cases c1 : f ≤ w ∧ w < p
      · obtain ⟨-, q0, q1, q2⟩ := h (w + 1) (by omega) (by omega)
        have ex : A' w = A (w + 1) := eA.trans (mvA_1 c1)
        have ne : A (w + 1) ≠ v := fun t => by
          rw [t, ← hf] at q2
          omega
        have ey : P' (A (w + 1)) = w := by
          rw [hP _ q0 q1, updI_n ne, mvP_1 (show f < P (A (w + 1)) ∧ P (A (w + 1)) ≤ p by rw [q2]; omega), q2]
          omega
        rw [ex, ey]
        exact ⟨q0, q1, rfl⟩
      · by_cases c2 : p < w ∧ w ≤ f
        · obtain ⟨-, q0, q1, q2⟩ := h (w - 1) (by omega) (by omega)
          have ex : A' w = A (w - 1) := eA.trans (mvA_2 c1 c2)
          have ne : A (w - 1) ≠ v := fun t => by
            rw [t, ← hf] at q2
            omega
          have ey : P' (A (w - 1)) = w := by
            rw [hP _ q0 q1, updI_n ne, mvP_2 (show ¬ (f < P (A (w - 1)) ∧ P (A (w - 1)) ≤ p) by rw [q2]; omega) (show p ≤ P (A (w - 1)) ∧ P (A (w - 1)) < f by rw [q2]; omega), q2]
            omega
          rw [ex, ey]
          exact ⟨q0, q1, rfl⟩
        · obtain ⟨-, q0, q1, q2⟩ := h w w0 w1
          have ex : A' w = A w := eA.trans (mvA_3 c1 c2)
          have ne : A w ≠ v := fun t => by
            rw [t, ← hf] at q2
            omega
          have ey : P' (A w) = w := by
            rw [hP _ q0 q1, updI_n ne, mvP_3 (show ¬ (f < P (A w) ∧ P (A w) ≤ p) by rw [q2]; omega) (show ¬ (p ≤ P (A w) ∧ P (A w) < f) by rw [q2]; omega), q2]
          rw [ex, ey]
          exact ⟨q0, q1, rfl⟩
theorem mv_sy {A B P Q A' B' P' Q' : Int → Int} {v p : Int} (h : ∀ j : Int, 0 ≤ j → j < 8 → A j = B j ∧ P j = Q j) (v0 : 0 ≤ v) (v1 : v < 8) (p0 : 0 ≤ p) (p1 : p < 8) (f0 : 0 ≤ P v) (f1 : P v < 8) (h1 : mvQ A P A' P' v p) (h2 : mvQ B Q B' Q' v p) : ∀ j : Int, 0 ≤ j → j < 8 → A' j = B' j ∧ P' j = Q' j := by
  intro j j0 j1
  obtain ⟨a1, a2⟩ := h1
  obtain ⟨b1, b2⟩ := h2
  rw [a1 j j0 j1, a2 j j0 j1, b1 j j0 j1, b2 j j0 j1, ← (h v v0 v1).2]
  constructor
  · by_cases e : j = p
    · rw [e, updI_s, updI_s]
    · rw [updI_n e, updI_n e]
      by_cases c1 : P v ≤ j ∧ j < p
      · rw [mvA_1 c1, mvA_1 c1]
        exact (h (j + 1) (by omega) (by omega)).1
      · by_cases c2 : p < j ∧ j ≤ P v
        · rw [mvA_2 c1 c2, mvA_2 c1 c2]
          exact (h (j - 1) (by omega) (by omega)).1
        · rw [mvA_3 c1 c2, mvA_3 c1 c2]
          exact (h j j0 j1).1
  · by_cases e : j = v
    · rw [e, updI_s, updI_s]
    · rw [updI_n e, updI_n e]
      show (if P v < P j ∧ P j ≤ p then P j - 1 else if p ≤ P j ∧ P j < P v then P j + 1 else P j) = (if P v < Q j ∧ Q j ≤ p then Q j - 1 else if p ≤ Q j ∧ Q j < P v then Q j + 1 else Q j)
      rw [(h j j0 j1).2]
theorem mvA_up {A A1 : Int → Int} {f q : Int} (h : ∀ j : Int, 0 ≤ j → j < 8 → A1 j = mvA A f q f j) (fq : f ≤ q) (q0 : 0 ≤ q) (q1 : q + 1 < 8) : A1 (q + 1) = A (q + 1) ∧ ∀ j : Int, 0 ≤ j → j < 8 → updI A1 q (A1 (q + 1)) j = mvA A f (q + 1) f j := by
  have e : A1 (q + 1) = A (q + 1) := (h (q + 1) (by omega) q1).trans (mvA_3 (by omega) (by omega))
  refine ⟨e, fun j j0 j1 => ?_⟩
  by_cases c : j = q
  · rw [c, updI_s, e, mvA_1 (show f ≤ q ∧ q < q + 1 by omega)]
  · rw [updI_n c, h j j0 j1]
    by_cases d : f ≤ j ∧ j < q
    · rw [mvA_1 d, mvA_1 (show f ≤ j ∧ j < q + 1 by omega)]
    · rw [mvA_3 d (show ¬ (f < j ∧ j ≤ f) by omega), mvA_3 (show ¬ (f ≤ j ∧ j < q + 1) by omega) (show ¬ (f < j ∧ j ≤ f) by omega)]
theorem mvP_up {A P P1 : Int → Int} {f q : Int} (hI : oIn A P) (h : ∀ j : Int, 0 ≤ j → j < 8 → P1 j = mvP P f q f j) (fq : f ≤ q) (q0 : 0 ≤ q) (q1 : q + 1 < 8) : ∀ w : Int, 0 ≤ w → w < 8 → updI P1 (A (q + 1)) q w = mvP P f (q + 1) f w := by
  intro w w0 w1
  obtain ⟨-, -, -, e⟩ := hI (q + 1) (by omega) q1
  by_cases c : w = A (q + 1)
  · rw [c, updI_s, mvP_1 (show f < P (A (q + 1)) ∧ P (A (q + 1)) ≤ q + 1 by rw [e]; omega), e]
    omega
  · have ne : P w ≠ q + 1 := fun t => c ((hI w w0 w1).1.2.2.symm.trans (by rw [t]))
    rw [updI_n c, h w w0 w1]
    by_cases d : f < P w ∧ P w ≤ q
    · rw [mvP_1 d, mvP_1 (show f < P w ∧ P w ≤ q + 1 by omega)]
    · rw [mvP_3 d (show ¬ (f ≤ P w ∧ P w < f) by omega), mvP_3 (show ¬ (f < P w ∧ P w ≤ q + 1) by omega) (show ¬ (f ≤ P w ∧ P w < f) by omega)]
theorem mvA_dn {A A1 : Int → Int} {f p q : Int} (h : ∀ j : Int, 0 ≤ j → j < 8 → A1 j = mvA A f p q j) (pq : p < q) (qf : q ≤ f) (p0 : 0 ≤ p) (q1 : q < 8) : A1 (q - 1) = A (q - 1) ∧ ∀ j : Int, 0 ≤ j → j < 8 → updI A1 q (A1 (q - 1)) j = mvA A f p (q - 1) j := by
  have e : A1 (q - 1) = A (q - 1) := (h (q - 1) (by omega) (by omega)).trans (mvA_3 (by omega) (by omega))
  refine ⟨e, fun j j0 j1 => ?_⟩
  by_cases c : j = q
  · rw [c, updI_s, e, mvA_2 (show ¬ (f ≤ q ∧ q < p) by omega) (show q - 1 < q ∧ q ≤ f by omega)]
  · rw [updI_n c, h j j0 j1]
    by_cases d : q < j ∧ j ≤ f
    · rw [mvA_2 (show ¬ (f ≤ j ∧ j < p) by omega) d, mvA_2 (show ¬ (f ≤ j ∧ j < p) by omega) (show q - 1 < j ∧ j ≤ f by omega)]
    · rw [mvA_3 (show ¬ (f ≤ j ∧ j < p) by omega) d, mvA_3 (show ¬ (f ≤ j ∧ j < p) by omega) (show ¬ (q - 1 < j ∧ j ≤ f) by omega)]
theorem mvP_dn {A P P1 : Int → Int} {f p q : Int} (hI : oIn A P) (h : ∀ j : Int, 0 ≤ j → j < 8 → P1 j = mvP P f p q j) (pq : p < q) (qf : q ≤ f) (p0 : 0 ≤ p) (q1 : q < 8) : ∀ w : Int, 0 ≤ w → w < 8 → updI P1 (A (q - 1)) q w = mvP P f p (q - 1) w := by
  intro w w0 w1
  obtain ⟨-, -, -, e⟩ := hI (q - 1) (by omega) (by omega)
  by_cases c : w = A (q - 1)
  · rw [c, updI_s, mvP_2 (show ¬ (f < P (A (q - 1)) ∧ P (A (q - 1)) ≤ p) by rw [e]; omega) (show q - 1 ≤ P (A (q - 1)) ∧ P (A (q - 1)) < f by rw [e]; omega), e]
    omega
  · have ne : P w ≠ q - 1 := fun t => c ((hI w w0 w1).1.2.2.symm.trans (by rw [t]))
    rw [updI_n c, h w w0 w1]
    by_cases d : q ≤ P w ∧ P w < f
    · rw [mvP_2 (show ¬ (f < P w ∧ P w ≤ p) by omega) d, mvP_2 (show ¬ (f < P w ∧ P w ≤ p) by omega) (show q - 1 ≤ P w ∧ P w < f by omega)]
    · rw [mvP_3 (show ¬ (f < P w ∧ P w ≤ p) by omega) d, mvP_3 (show ¬ (f < P w ∧ P w ≤ p) by omega) (show ¬ (q - 1 ≤ P w ∧ P w < f) by omega)]
theorem mv_ex {A P : Int → Int} {f p q j : Int} (h1 : p ≤ q) (h2 : f ≤ q) (h3 : q ≤ p ∨ q = f) : mvA A f q f j = mvA A f p f j ∧ mvP P f q f j = mvP P f p f j := by
  by_cases e : q = p
  · rw [e]
    exact ⟨rfl, rfl⟩
  · rw [mvA_3 (show ¬ (f ≤ j ∧ j < q) by omega) (show ¬ (f < j ∧ j ≤ f) by omega), mvA_3 (show ¬ (f ≤ j ∧ j < p) by omega) (show ¬ (f < j ∧ j ≤ f) by omega), mvP_3 (show ¬ (f < P j ∧ P j ≤ q) by omega) (show ¬ (f ≤ P j ∧ P j < f) by omega), mvP_3 (show ¬ (f < P j ∧ P j ≤ p) by omega) (show ¬ (f ≤ P j ∧ P j < f) by omega)]
    exact ⟨rfl, rfl⟩
theorem mv_ey {A P : Int → Int} {f p q j : Int} (h1 : q ≤ p) (h2 : q ≤ f) (h3 : p ≤ q ∨ q = f) : mvA A f p q j = mvA A f p p j ∧ mvP P f p q j = mvP P f p p j := by
  by_cases e : q = p
  · rw [e]
    exact ⟨rfl, rfl⟩
  · constructor
    · by_cases c : f ≤ j ∧ j < p
      · rw [mvA_1 c, mvA_1 c]
      · rw [mvA_3 c (show ¬ (q < j ∧ j ≤ f) by omega), mvA_3 c (show ¬ (p < j ∧ j ≤ f) by omega)]
    · by_cases c : f < P j ∧ P j ≤ p
      · rw [mvP_1 c, mvP_1 c]
      · rw [mvP_3 c (show ¬ (q ≤ P j ∧ P j < f) by omega), mvP_3 c (show ¬ (p ≤ P j ∧ P j < f) by omega)]
theorem mv_0 {A P : Int → Int} {f j : Int} : mvA A f f f j = A j ∧ mvP P f f f j = P j := ⟨mvA_3 (by omega) (by omega), mvP_3 (by omega) (by omega)⟩
/-- the class's state of a walk -/
def sc (b : Nat) (M : zM) : oS := (rs 40 (M (b + 4)), rs 8 (M 4), rs 8 (M 3), M 2 2)
theorem sc_see {b : Nat} {M : zM} {g : Int} (hb : 4 < b) (g0 : 0 ≤ g) (g1 : g < 40) : sc b (uz M (b + 4) g 1) = (updI (sc b M).1 g 1, (sc b M).2) := by
  unfold sc
  rw [uz_fn, uz_o (show (4 : Nat) ≠ b + 4 by omega), uz_o (show (3 : Nat) ≠ b + 4 by omega), uz_o (show (2 : Nat) ≠ b + 4 by omega), rs_up g0 g1]
theorem sc_meet {b : Nat} {M M' : zM} {v : Int} (hb : 4 < b) (v0 : 0 ≤ v) (v1 : v < 8) (hm : oMet M) (ok : zOK M) (h : (M 4 v = -1 ∧ M 2 2 < 8 ∧ M' = uz (uz (uz M 3 (M 2 2) v) 4 v (M 2 2)) 2 2 (M 2 2 + 1)) ∨ ((¬ M 4 v = -1 ∨ 8 ≤ M 2 2) ∧ M' = M)) : oMet M' ∧ sc b M' = mt v (sc b M) := by
  rcases h with ⟨a, c, e⟩ | ⟨a, e⟩
  · have h0 : 0 ≤ M 2 2 := (ok 2 2).1
    have e4 : M' 4 = updI (M 4) v (M 2 2) := by rw [e, uz_o (by decide), uz_fn, uz_o (by decide)]
    have e3 : M' 3 = updI (M 3) (M 2 2) v := by rw [e, uz_o (by decide), uz_o (by decide), uz_fn]
    have eb : M' (b + 4) = M (b + 4) := by rw [e, uz_o (by omega), uz_o (by omega), uz_o (by omega)]
    have e2 : M' 2 2 = M 2 2 + 1 := by rw [e, uz_s]
    refine ⟨by rw [e]; exact oMet_meet v0 v1 hm ok a, ?_⟩
    have q : rs 8 (M 4) v = -1 := (rs_in v0 v1).trans a
    have t : sc b M' = (rs 40 (M (b + 4)), updI (rs 8 (M 4)) v (M 2 2), updI (rs 8 (M 3)) (M 2 2) v, M 2 2 + 1) := by
      unfold sc
      rw [e4, e3, eb, e2, rs_up v0 v1, rs_up h0 c]
    rw [t]
    exact (if_pos q).symm
  · have q : ¬ rs 8 (M 4) v = -1 := fun t => by
      rw [rs_in v0 v1] at t
      have z := hc_lt (f := M 4) (n := 8) v0 (by omega) t
      have hm' : M 2 2 = hc (M 4) 8 := hm
      omega
    rw [e]
    exact ⟨hm, (if_neg q).symm⟩
/-- the reference's -/
def sr (M : zM) : oS := (rs 40 (M 40), rs 8 (M 39), rs 8 (M 38), M 31 13)
/-- an order's answer and what it leaves -/
def orQ (D : oS) (x : Int) (A' P' : Int → Int) : Prop := x = D.2.2.2 ∧ rs 8 P' = (oF D).2.1 ∧ rs 8 A' = (oF D).2.2.1
theorem or_sy {D : oS} {x y : Int} {A P B Q : Int → Int} (h1 : orQ D x A P) (h2 : orQ D y B Q) : x = y ∧ ∀ j : Int, 0 ≤ j → j < 8 → A j = B j ∧ P j = Q j := by
  refine ⟨h1.1.trans h2.1.symm, fun j a b => ⟨?_, ?_⟩⟩
  · rw [← rs_in (f := A) a b, ← rs_in (f := B) a b, h1.2.2, h2.2.2]
  · rw [← rs_in (f := P) a b, ← rs_in (f := Q) a b, h1.2.1, h2.2.1]
end
section
/-! ===== the class: order, move ===== -/
abbrev kOc (a : Nat) : Prop := ¬ a = 2 ∧ ¬ a = 3 ∧ ¬ a = 4 ∧ ¬ a = 20 ∧ ¬ a = 25 ∧ ¬ a = 30
set_option maxRecDepth 20000 in
theorem zX0_goInto_f {G : tl_G} {M : zM} {J : zJ} {b : Nat} (k : Nat) {g e : Int} (hb : NetAt b) (hN : netOK M b) (h0 : 0 ≤ g) (h1 : g < M b 4) (h6 : 0 ≤ e) (h7 : e + k = 40) : ZN G yX0_goInto mX0_goInto (k + 2) (kGo b) [vR b, vI g, vR 2, vI e] F1 M J (qV (fun M' J' => J' = J ∧ (oMet M → oMet M' ∧ sc b M' = vs (M (b + 1)) (fun g c => M (b + 2) (3 * g + c)) (40 - e).toNat g (sc b M)))) := by
  induction k generalizing M J g e with
  | zero =>
    refine ZN_of (L := [_, _, _, _, _]) (by decide) rfl rfl (Nat.le_of_ble_eq_true rfl) rfl (fun hav => ?_)
    refine Z_rg b 4 (nTg hb) (fun g4 g4b => ?_)
    have hb4z : 4 < b := by rcases hb with q | q | q <;> omega
    refine Z_iload_n (n := 1) dX0_goInto_0 rfl rfl ?_
    refine Z_bipush (n := 3) dX0_goInto_1 rfl (by decide) (by decide) ?_
    refine Z_icmp_ge (n := 6) (t := 15) dX0_goInto_3 rfl (by decide) (fun c3 => ?_) (fun c3 => ?_)
    · 
      refine Z_vret dX0_goInto_15 rfl ?_
      first
        | (exfalso; omega)
        | exact ⟨rfl, fun h => ⟨h, by rw [show (40 - e).toNat = 0 by omega]; rfl⟩⟩
        | exact ⟨rfl, fun h => ⟨h, by rw [show (40 - e).toNat = (40 - (e + 1)).toNat + 1 by omega]; exact (if_neg (fun t => c12 ((rs_in (n := 40) h0 (by omega)).symm.trans t))).symm⟩⟩
    · omega
  | succ k ih =>
    refine ZN_of (L := [_, _, _, _, _]) (by decide) rfl rfl (Nat.le_of_ble_eq_true rfl) rfl (fun hav => ?_)
    refine Z_rg b 4 (nTg hb) (fun g4 g4b => ?_)
    have hb4z : 4 < b := by rcases hb with q | q | q <;> omega
    refine Z_iload_n (n := 1) dX0_goInto_0 rfl rfl ?_
    refine Z_bipush (n := 3) dX0_goInto_1 rfl (by decide) (by decide) ?_
    refine Z_icmp_ge (n := 6) (t := 15) dX0_goInto_3 rfl (by decide) (fun c3 => ?_) (fun c3 => ?_)
    · 
      refine Z_vret dX0_goInto_15 rfl ?_
      first
        | (exfalso; omega)
        | exact ⟨rfl, fun h => ⟨h, by rw [show (40 - e).toNat = 0 by omega]; rfl⟩⟩
        | exact ⟨rfl, fun h => ⟨h, by rw [show (40 - e).toNat = (40 - (e + 1)).toNat + 1 by omega]; exact (if_neg (fun t => c12 ((rs_in (n := 40) h0 (by omega)).symm.trans t))).symm⟩⟩
    · refine Z_aload_n (n := 7) dX0_goInto_6 rfl rfl ?_
      refine Z_getA (n := 10) dX0_goInto_7 rfl ffX0_21 (by first | exact nS0 hb | exact nS1 hb | exact nS2 hb | exact nS3 hb | exact nS4 hb | exact nP0 hb | exact nP1 hb | exact nP2 hb | exact nP3 hb | rfl) (by first | exact nS0 hb | exact nS1 hb | exact nS2 hb | exact nS3 hb | exact nS4 hb | exact nP0 hb | exact nP1 hb | exact nP2 hb | exact nP3 hb | rfl) ?_
      refine Z_iload_n (n := 11) dX0_goInto_10 rfl rfl ?_
      refine Z_iald (n := 12) dX0_goInto_11 rfl (by first | exact nS0 hb | exact nS1 hb | exact nS2 hb | exact nS3 hb | exact nS4 hb | exact nP0 hb | exact nP1 hb | exact nP2 hb | exact nP3 hb | rfl) (by first | exact nTg hb | exact nTo hb | exact nT1 hb | exact nT2 hb | exact nT3 hb | exact nT4 hb | rfl) (by first | decide | assumption) (by omega) (by omega) (fun r11 s11 => ?_)
      try simp only [uz_oo (show b + 1 ≠ b + 4 by omega), uz_oo (show b + 2 ≠ b + 4 by omega)] at r11 s11 ⊢
      refine Z_if_eq (n := 15) (t := 16) dX0_goInto_12 rfl (by decide) (fun c12 => ?_) (fun c12 => ?_)
      · refine Z_aload_n (n := 17) dX0_goInto_16 rfl rfl ?_
        refine Z_getA (n := 20) dX0_goInto_17 rfl ffX0_21 (by first | exact nS0 hb | exact nS1 hb | exact nS2 hb | exact nS3 hb | exact nS4 hb | exact nP0 hb | exact nP1 hb | exact nP2 hb | exact nP3 hb | rfl) (by first | exact nS0 hb | exact nS1 hb | exact nS2 hb | exact nS3 hb | exact nS4 hb | exact nP0 hb | exact nP1 hb | exact nP2 hb | exact nP3 hb | rfl) ?_
        refine Z_iload_n (n := 21) dX0_goInto_20 rfl rfl ?_
        refine Z_iconst (n := 22) dX0_goInto_21 rfl (by decide) ?_
        refine Z_iast (n := 23) dX0_goInto_22 rfl (by first | exact nS0 hb | exact nS1 hb | exact nS2 hb | exact nS3 hb | exact nS4 hb | exact nP0 hb | exact nP1 hb | exact nP2 hb | exact nP3 hb | rfl) (by first | exact nTg hb | exact nTo hb | exact nT1 hb | exact nT2 hb | exact nT3 hb | exact nT4 hb | rfl) (by first | decide | assumption) (by omega) (by omega) (by first | assumption | omega | decide) (by first | assumption | omega | decide) (by unfold kGo; omega) ?_
        refine Z_aload_n (n := 24) dX0_goInto_23 rfl rfl ?_
        refine Z_getA (n := 27) dX0_goInto_24 rfl ffX0_9 (by first | exact nS0 hb | exact nS1 hb | exact nS2 hb | exact nS3 hb | exact nS4 hb | exact nP0 hb | exact nP1 hb | exact nP2 hb | exact nP3 hb | rfl) (by first | exact nS0 hb | exact nS1 hb | exact nS2 hb | exact nS3 hb | exact nS4 hb | exact nP0 hb | exact nP1 hb | exact nP2 hb | exact nP3 hb | rfl) ?_
        refine Z_iload_n (n := 28) dX0_goInto_27 rfl rfl ?_
        refine Z_iald (n := 29) dX0_goInto_28 rfl (by first | exact nS0 hb | exact nS1 hb | exact nS2 hb | exact nS3 hb | exact nS4 hb | exact nP0 hb | exact nP1 hb | exact nP2 hb | exact nP3 hb | rfl) (by first | exact nTg hb | exact nTo hb | exact nT1 hb | exact nT2 hb | exact nT3 hb | exact nT4 hb | rfl) (by first | decide | assumption) (by omega) (by omega) (fun r28 s28 => ?_)
        try simp only [uz_oo (show b + 1 ≠ b + 4 by omega), uz_oo (show b + 2 ≠ b + 4 by omega)] at r28 s28 ⊢
        refine Z_if_ne (n := 32) (t := 42) dX0_goInto_29 rfl (by decide) (fun c29 => ?_) (fun c29 => ?_)
        · have en3 : oMet M → oMet (uz M (b + 4) g 1) ∧ sc b (uz M (b + 4) g 1) = (ent (M (b + 1)) (fun g c => M (b + 2) (3 * g + c)) g (sc b M)) := fun h => ⟨oMet_fr h (uz_o (by omega)) (uz_o (by omega)), (sc_see hb4z h0 (by omega)).trans (if_neg c29).symm⟩
          refine Z_iconst (n := 43) dX0_goInto_42 rfl (by decide) ?_
          refine Z_istore (L' := [_, _, _, _, _]) (n := 45) dX0_goInto_43 rfl (by decide) rfl rfl ?_
          have lp45 : ∀ (N45 : Nat) (i : Int) (M45 : zM) (J45 : zJ), ((3 - i).toNat) < N45 → (J45 = J) → (0 ≤ i) → (i ≤ opF (M (b + 1) g)) → (oMet M → oMet M45 ∧ sc b M45 = vr (vs (M (b + 1)) (fun g c => M (b + 2) (3 * g + c)) (40 - (e + 1)).toNat) ((fun g c => M (b + 2) (3 * g + c)) g) i.toNat 0 (ent (M (b + 1)) (fun g c => M (b + 2) (3 * g + c)) g (sc b M))) → TZ G mX0_goInto (tl_rm ((k + 1) + 2) 0 0) 0 0 (kGo b) M J 45 [some (vR b), some (vI g), some (vR 2), some (vI e), some (vI i)] [] F1 M45 J45 (ZM G (zPost G (kGo b) F1 M J (qV (fun M' J' => J' = J ∧ (oMet M → oMet M' ∧ sc b M' = vs (M (b + 1)) (fun g c => M (b + 2) (3 * g + c)) (40 - e).toNat g (sc b M))))) 0 0) := by
            intro N45
            induction N45 with
            | zero => intro i M45 J45 hN; omega
            | succ N45 ih45 =>
              intro i M45 J45 hN45 i45_0 i45_1 i45_2 i45_3
              refine Z_iload (n := 47) dX0_goInto_45 rfl rfl ?_
              refine Z_fr (fun fr45 => ?_)
              have hk : M45 (b + 1) g = M (b + 1) g := congrFun (fr45 (b + 1) (by unfold kGo; omega)).1 g
              have hN45 : netOK M45 b := netOK_fr hN (fr45 b (by unfold kGo; omega)).1 (fr45 (b + 1) (by unfold kGo; omega)).1 (fr45 (b + 2) (by unfold kGo; omega)).1 (fr45 (b + 3) (by unfold kGo; omega)).1
              have hb4 : M45 b 4 = M b 4 := congrFun (fr45 b (by unfold kGo; omega)).1 4
              refine Z_getsN (i := 1) (n := 50) dX0_goInto_47 rfl (by decide) (by decide) rfl rfl ?_
              refine Z_aload_n (n := 51) dX0_goInto_50 rfl rfl ?_
              refine Z_getA (n := 54) dX0_goInto_51 rfl ffX0_9 (by first | exact nS0 hb | exact nS1 hb | exact nS2 hb | exact nS3 hb | exact nS4 hb | exact nP0 hb | exact nP1 hb | exact nP2 hb | exact nP3 hb | rfl) (by first | exact nS0 hb | exact nS1 hb | exact nS2 hb | exact nS3 hb | exact nS4 hb | exact nP0 hb | exact nP1 hb | exact nP2 hb | exact nP3 hb | rfl) ?_
              refine Z_iload_n (n := 55) dX0_goInto_54 rfl rfl ?_
              refine Z_iald (n := 56) dX0_goInto_55 rfl (by first | exact nS0 hb | exact nS1 hb | exact nS2 hb | exact nS3 hb | exact nS4 hb | exact nP0 hb | exact nP1 hb | exact nP2 hb | exact nP3 hb | rfl) (by first | exact nTg hb | exact nTo hb | exact nT1 hb | exact nT2 hb | exact nT3 hb | exact nT4 hb | rfl) (by first | decide | assumption) (by omega) (by omega) (fun r55 s55 => ?_)
              try simp only [uz_oo (show b + 1 ≠ b + 4 by omega), uz_oo (show b + 2 ≠ b + 4 by omega)] at r55 s55 ⊢
              refine Z_ialdS1 (n := 57) dX0_goInto_56 rfl (by omega) (by omega) (fun r56 s56 => ?_)
              try simp only [uz_oo (show b + 1 ≠ b + 4 by omega), uz_oo (show b + 2 ≠ b + 4 by omega)] at r56 s56 ⊢
              refine Z_icmp_ge (n := 60) (t := 81) dX0_goInto_57 rfl (by decide) (fun c57 => ?_) (fun c57 => ?_)
              · refine Z_vret dX0_goInto_81 rfl ?_
                refine ⟨i45_0, fun h => ?_⟩
                obtain ⟨p1, p2⟩ := i45_3 h
                refine ⟨p1, ?_⟩
                have ei : i = opF (M (b + 1) g) := by
                  rw [hk] at c57
                  omega
                rw [p2, ei, show (40 - e).toNat = (40 - (e + 1)).toNat + 1 by omega]
                exact (if_pos ((rs_in (n := 40) h0 (by omega)).trans c12)).symm
              · refine Z_aload_n (n := 61) dX0_goInto_60 rfl rfl ?_
                refine Z_aload_n (n := 62) dX0_goInto_61 rfl rfl ?_
                refine Z_iload_n (n := 63) dX0_goInto_62 rfl rfl ?_
                refine Z_iload (n := 65) dX0_goInto_63 rfl rfl ?_
                refine Z_callVi (n := 68) [_, _] _ dX0_goInto_65 rfl cwX0_42 rfl rfl (by first | exact nS0 hb | exact nS1 hb | exact nS2 hb | exact nS3 hb | exact nS4 hb | exact nP0 hb | exact nP1 hb | exact nP2 hb | exact nP3 hb | rfl) (Nat.le_of_ble_eq_true rfl) ⟨by show 0 + 1 ≤ ((k + 1) + 2); omega, by show 8 + (3 + 11) + 40 * 0 ≤ 40 * ((k + 1) + 2); omega, Nat.le_refl _, Nat.le_refl _⟩ (fun _ _ => trivial) (zX0_operand  (by first | assumption | omega | decide) (by first | assumption | omega | decide) (by first | assumption | omega | decide) (by first | assumption | omega | decide) (by first | assumption | omega | decide)) ?_
                intro x65 M65 J65 z65 f65 q65
                obtain ⟨e65_1, e65_2, h65⟩ := q65
                replace e65_1 := e65_1.symm; subst e65_1
                replace e65_2 := e65_2.symm; subst e65_2
                rw [congrFun (fr45 (b + 2) (by unfold kGo; omega)).1 _] at h65
                have hop := (hN.1 g h0 h1).1 i (by omega) (by rw [← hk]; omega)
                rw [← h65] at hop
                refine Z_aload_n (n := 69) dX0_goInto_68 rfl rfl ?_
                refine Z_iload_n (n := 70) dX0_goInto_69 rfl rfl ?_
                refine Z_iconst (n := 71) dX0_goInto_70 rfl (by decide) ?_
                refine Z_iadd (n := 72) dX0_goInto_71 rfl (by omega) ?_
                refine Z_callVv (n := 75) [_, _, _] _ dX0_goInto_72 rfl cwX0_58 rfl rfl (by first | exact nS0 hb | exact nS1 hb | exact nS2 hb | exact nS3 hb | exact nS4 hb | exact nP0 hb | exact nP1 hb | exact nP2 hb | exact nP3 hb | rfl) (Nat.le_of_ble_eq_true rfl) ⟨by show (k + 2) + 1 ≤ ((k + 1) + 2); omega, by show 8 + (5 + 11) + 40 * (k + 2) ≤ 40 * ((k + 1) + 2); omega, Nat.le_refl _, Nat.le_refl _⟩ (fun _ h => h) (@ih _ _ _ _  (by first | assumption | omega | decide) (by first | assumption | omega | decide) (by first | assumption | omega | decide) (by first | assumption | omega | decide) (by first | assumption | omega | decide)) ?_
                intro M72 J72 f72 q72
                obtain ⟨e72_1, h72⟩ := q72
                replace e72_1 := e72_1.symm; subst e72_1
                have hop3 := opF_in (M (b + 1) g)
                have hi : i < opF (M (b + 1) g) := by rw [← hk]; omega
                have nx3 : oMet M → oMet M72 ∧ sc b M72 = vr (vs (M (b + 1)) (fun g c => M (b + 2) (3 * g + c)) (40 - (e + 1)).toNat) ((fun g c => M (b + 2) (3 * g + c)) g) (i + 1).toNat 0 (ent (M (b + 1)) (fun g c => M (b + 2) (3 * g + c)) g (sc b M)) := fun h => by
                  obtain ⟨p1, p2⟩ := i45_3 h
                  obtain ⟨q1, q2⟩ := h72 p1
                  refine ⟨q1, ?_⟩
                  rw [(fr45 (b + 1) (by unfold kGo; omega)).1, (fr45 (b + 2) (by unfold kGo; omega)).1] at q2
                  rw [q2, p2, show (i + 1).toNat = i.toNat + 1 by omega, vr_sn, h65, show (0 : Int) + (i.toNat : Int) = i by omega]
                refine Z_iinc (L' := [_, _, _, _, _]) (n := 78) dX0_goInto_75 rfl rfl (by decide) rfl rfl (by omega) rfl ?_
                refine Z_goto (t := 45) dX0_goInto_78 (by decide) ?_
                refine Z_loc (L' := [some _, some _, some _, some _, some _]) (lsub_same (lsub_same (lsub_same (lsub_same (lsub_same lsub_nil))))) ?_
                exact ih45 _ _ _ (by omega) (by assumption) (by first | assumption | omega | decide) (by omega) (by exact nx3)
          refine Z_loc (L' := [some _, some _, some _, some _, some _]) (lsub_same (lsub_same (lsub_same (lsub_same (lsub_same lsub_nil))))) ?_
          exact lp45 _ _ _ _ (Nat.lt_succ_self _) (by rfl) (by first | assumption | omega | decide) (by exact (opF_in _).1) (by exact en3)
        · refine Z_aload_n (n := 33) dX0_goInto_32 rfl rfl ?_
          refine Z_aload_n (n := 34) dX0_goInto_33 rfl rfl ?_
          refine Z_iload_n (n := 35) dX0_goInto_34 rfl rfl ?_
          refine Z_iconst (n := 36) dX0_goInto_35 rfl (by decide) ?_
          have ho0 := (hN.1 g h0 h1).2 (by omega)
          refine Z_callVi (n := 39) [_, _] _ dX0_goInto_36 rfl cwX0_42 rfl rfl (by first | exact nS0 hb | exact nS1 hb | exact nS2 hb | exact nS3 hb | exact nS4 hb | exact nP0 hb | exact nP1 hb | exact nP2 hb | exact nP3 hb | rfl) (Nat.le_of_ble_eq_true rfl) ⟨by show 0 + 1 ≤ ((k + 1) + 2); omega, by show 8 + (3 + 11) + 40 * 0 ≤ 40 * ((k + 1) + 2); omega, Nat.le_refl _, Nat.le_refl _⟩ (fun _ _ => trivial) (zX0_operand  (by first | assumption | omega | decide) (by omega) (by omega) (by omega) (by omega)) ?_
          intro x36 M36 J36 z36 f36 q36
          obtain ⟨e36_1, e36_2, h36⟩ := q36
          replace e36_1 := e36_1.symm; subst e36_1
          replace e36_2 := e36_2.symm; subst e36_2
          rw [uz_oo (show b + 2 ≠ b + 4 by omega), show 3 * g + 0 = 3 * g by omega] at h36
          have ho0 := (hN.1 g h0 h1).2 (by omega)
          refine Z_ok (fun ok39 => ?_)
          refine Z_callVv (n := 42) [_] _ dX0_goInto_39 rfl cwX0_62 rfl rfl (by first | exact nS0 hb | exact nS1 hb | exact nS2 hb | exact nS3 hb | exact nS4 hb | exact nP0 hb | exact nP1 hb | exact nP2 hb | exact nP3 hb | rfl) (Nat.le_of_ble_eq_true rfl) ⟨by show 1 + 1 ≤ ((k + 1) + 2); omega, by show 8 + (2 + 11) + 40 * 1 ≤ 40 * ((k + 1) + 2); omega, Nat.le_refl _, Nat.le_refl _⟩ (fun _ h => h) (zX1_meet  (by omega) (by omega) (by unfold kGo; omega) (by unfold kGo; omega) (by unfold kGo; omega)) ?_
          intro M39 J39 f39 q39
          obtain ⟨e39_1, h39⟩ := q39
          replace e39_1 := e39_1.symm; subst e39_1
          have e36 : x36 = M (b + 2) (3 * g + 0) := by rw [h36, show 3 * g + 0 = 3 * g by omega]
          have en3 : oMet M → oMet M39 ∧ sc b M39 = (ent (M (b + 1)) (fun g c => M (b + 2) (3 * g + c)) g (sc b M)) := fun h => by
            have h8 : oMet (uz M (b + 4) g 1) := oMet_fr h (uz_o (by omega)) (uz_o (by omega))
            obtain ⟨p1, p2⟩ := sc_meet (b := b) hb4z (by omega) (by omega) h8 ok39 h39
            refine ⟨p1, ?_⟩
            rw [p2, sc_see hb4z h0 (by omega), e36]
            exact (if_pos c29).symm
          refine Z_iconst (n := 43) dX0_goInto_42 rfl (by decide) ?_
          refine Z_istore (L' := [_, _, _, _, _]) (n := 45) dX0_goInto_43 rfl (by decide) rfl rfl ?_
          have lp45 : ∀ (N45 : Nat) (i : Int) (M45 : zM) (J45 : zJ), ((3 - i).toNat) < N45 → (J45 = J) → (0 ≤ i) → (i ≤ opF (M (b + 1) g)) → (oMet M → oMet M45 ∧ sc b M45 = vr (vs (M (b + 1)) (fun g c => M (b + 2) (3 * g + c)) (40 - (e + 1)).toNat) ((fun g c => M (b + 2) (3 * g + c)) g) i.toNat 0 (ent (M (b + 1)) (fun g c => M (b + 2) (3 * g + c)) g (sc b M))) → TZ G mX0_goInto (tl_rm ((k + 1) + 2) 0 0) 0 0 (kGo b) M J 45 [some (vR b), some (vI g), some (vR 2), some (vI e), some (vI i)] [] F1 M45 J45 (ZM G (zPost G (kGo b) F1 M J (qV (fun M' J' => J' = J ∧ (oMet M → oMet M' ∧ sc b M' = vs (M (b + 1)) (fun g c => M (b + 2) (3 * g + c)) (40 - e).toNat g (sc b M))))) 0 0) := by
            intro N45
            induction N45 with
            | zero => intro i M45 J45 hN; omega
            | succ N45 ih45 =>
              intro i M45 J45 hN45 i45_0 i45_1 i45_2 i45_3
              refine Z_iload (n := 47) dX0_goInto_45 rfl rfl ?_
              refine Z_fr (fun fr45 => ?_)
              have hk : M45 (b + 1) g = M (b + 1) g := congrFun (fr45 (b + 1) (by unfold kGo; omega)).1 g
              have hN45 : netOK M45 b := netOK_fr hN (fr45 b (by unfold kGo; omega)).1 (fr45 (b + 1) (by unfold kGo; omega)).1 (fr45 (b + 2) (by unfold kGo; omega)).1 (fr45 (b + 3) (by unfold kGo; omega)).1
              have hb4 : M45 b 4 = M b 4 := congrFun (fr45 b (by unfold kGo; omega)).1 4
              refine Z_getsN (i := 1) (n := 50) dX0_goInto_47 rfl (by decide) (by decide) rfl rfl ?_
              refine Z_aload_n (n := 51) dX0_goInto_50 rfl rfl ?_
              refine Z_getA (n := 54) dX0_goInto_51 rfl ffX0_9 (by first | exact nS0 hb | exact nS1 hb | exact nS2 hb | exact nS3 hb | exact nS4 hb | exact nP0 hb | exact nP1 hb | exact nP2 hb | exact nP3 hb | rfl) (by first | exact nS0 hb | exact nS1 hb | exact nS2 hb | exact nS3 hb | exact nS4 hb | exact nP0 hb | exact nP1 hb | exact nP2 hb | exact nP3 hb | rfl) ?_
              refine Z_iload_n (n := 55) dX0_goInto_54 rfl rfl ?_
              refine Z_iald (n := 56) dX0_goInto_55 rfl (by first | exact nS0 hb | exact nS1 hb | exact nS2 hb | exact nS3 hb | exact nS4 hb | exact nP0 hb | exact nP1 hb | exact nP2 hb | exact nP3 hb | rfl) (by first | exact nTg hb | exact nTo hb | exact nT1 hb | exact nT2 hb | exact nT3 hb | exact nT4 hb | rfl) (by first | decide | assumption) (by omega) (by omega) (fun r55 s55 => ?_)
              try simp only [uz_oo (show b + 1 ≠ b + 4 by omega), uz_oo (show b + 2 ≠ b + 4 by omega)] at r55 s55 ⊢
              refine Z_ialdS1 (n := 57) dX0_goInto_56 rfl (by omega) (by omega) (fun r56 s56 => ?_)
              try simp only [uz_oo (show b + 1 ≠ b + 4 by omega), uz_oo (show b + 2 ≠ b + 4 by omega)] at r56 s56 ⊢
              refine Z_icmp_ge (n := 60) (t := 81) dX0_goInto_57 rfl (by decide) (fun c57 => ?_) (fun c57 => ?_)
              · refine Z_vret dX0_goInto_81 rfl ?_
                refine ⟨i45_0, fun h => ?_⟩
                obtain ⟨p1, p2⟩ := i45_3 h
                refine ⟨p1, ?_⟩
                have ei : i = opF (M (b + 1) g) := by
                  rw [hk] at c57
                  omega
                rw [p2, ei, show (40 - e).toNat = (40 - (e + 1)).toNat + 1 by omega]
                exact (if_pos ((rs_in (n := 40) h0 (by omega)).trans c12)).symm
              · refine Z_aload_n (n := 61) dX0_goInto_60 rfl rfl ?_
                refine Z_aload_n (n := 62) dX0_goInto_61 rfl rfl ?_
                refine Z_iload_n (n := 63) dX0_goInto_62 rfl rfl ?_
                refine Z_iload (n := 65) dX0_goInto_63 rfl rfl ?_
                refine Z_callVi (n := 68) [_, _] _ dX0_goInto_65 rfl cwX0_42 rfl rfl (by first | exact nS0 hb | exact nS1 hb | exact nS2 hb | exact nS3 hb | exact nS4 hb | exact nP0 hb | exact nP1 hb | exact nP2 hb | exact nP3 hb | rfl) (Nat.le_of_ble_eq_true rfl) ⟨by show 0 + 1 ≤ ((k + 1) + 2); omega, by show 8 + (3 + 11) + 40 * 0 ≤ 40 * ((k + 1) + 2); omega, Nat.le_refl _, Nat.le_refl _⟩ (fun _ _ => trivial) (zX0_operand  (by first | assumption | omega | decide) (by first | assumption | omega | decide) (by first | assumption | omega | decide) (by first | assumption | omega | decide) (by first | assumption | omega | decide)) ?_
                intro x65 M65 J65 z65 f65 q65
                obtain ⟨e65_1, e65_2, h65⟩ := q65
                replace e65_1 := e65_1.symm; subst e65_1
                replace e65_2 := e65_2.symm; subst e65_2
                rw [congrFun (fr45 (b + 2) (by unfold kGo; omega)).1 _] at h65
                have hop := (hN.1 g h0 h1).1 i (by omega) (by rw [← hk]; omega)
                rw [← h65] at hop
                refine Z_aload_n (n := 69) dX0_goInto_68 rfl rfl ?_
                refine Z_iload_n (n := 70) dX0_goInto_69 rfl rfl ?_
                refine Z_iconst (n := 71) dX0_goInto_70 rfl (by decide) ?_
                refine Z_iadd (n := 72) dX0_goInto_71 rfl (by omega) ?_
                refine Z_callVv (n := 75) [_, _, _] _ dX0_goInto_72 rfl cwX0_58 rfl rfl (by first | exact nS0 hb | exact nS1 hb | exact nS2 hb | exact nS3 hb | exact nS4 hb | exact nP0 hb | exact nP1 hb | exact nP2 hb | exact nP3 hb | rfl) (Nat.le_of_ble_eq_true rfl) ⟨by show (k + 2) + 1 ≤ ((k + 1) + 2); omega, by show 8 + (5 + 11) + 40 * (k + 2) ≤ 40 * ((k + 1) + 2); omega, Nat.le_refl _, Nat.le_refl _⟩ (fun _ h => h) (@ih _ _ _ _  (by first | assumption | omega | decide) (by first | assumption | omega | decide) (by first | assumption | omega | decide) (by first | assumption | omega | decide) (by first | assumption | omega | decide)) ?_
                intro M72 J72 f72 q72
                obtain ⟨e72_1, h72⟩ := q72
                replace e72_1 := e72_1.symm; subst e72_1
                have hop3 := opF_in (M (b + 1) g)
                have hi : i < opF (M (b + 1) g) := by rw [← hk]; omega
                have nx3 : oMet M → oMet M72 ∧ sc b M72 = vr (vs (M (b + 1)) (fun g c => M (b + 2) (3 * g + c)) (40 - (e + 1)).toNat) ((fun g c => M (b + 2) (3 * g + c)) g) (i + 1).toNat 0 (ent (M (b + 1)) (fun g c => M (b + 2) (3 * g + c)) g (sc b M)) := fun h => by
                  obtain ⟨p1, p2⟩ := i45_3 h
                  obtain ⟨q1, q2⟩ := h72 p1
                  refine ⟨q1, ?_⟩
                  rw [(fr45 (b + 1) (by unfold kGo; omega)).1, (fr45 (b + 2) (by unfold kGo; omega)).1] at q2
                  rw [q2, p2, show (i + 1).toNat = i.toNat + 1 by omega, vr_sn, h65, show (0 : Int) + (i.toNat : Int) = i by omega]
                refine Z_iinc (L' := [_, _, _, _, _]) (n := 78) dX0_goInto_75 rfl rfl (by decide) rfl rfl (by omega) rfl ?_
                refine Z_goto (t := 45) dX0_goInto_78 (by decide) ?_
                refine Z_loc (L' := [some _, some _, some _, some _, some _]) (lsub_same (lsub_same (lsub_same (lsub_same (lsub_same lsub_nil))))) ?_
                exact ih45 _ _ _ (by omega) (by assumption) (by first | assumption | omega | decide) (by omega) (by exact nx3)
          refine Z_loc (L' := [some _, some _, some _, some _, some _]) (lsub_same (lsub_same (lsub_same (lsub_same (lsub_same lsub_nil))))) ?_
          exact lp45 _ _ _ _ (Nat.lt_succ_self _) (by rfl) (by first | assumption | omega | decide) (by exact (opF_in _).1) (by exact en3)
      · 
        refine Z_vret dX0_goInto_15 rfl ?_
        first
          | (exfalso; omega)
          | exact ⟨rfl, fun h => ⟨h, by rw [show (40 - e).toNat = 0 by omega]; rfl⟩⟩
          | exact ⟨rfl, fun h => ⟨h, by rw [show (40 - e).toNat = (40 - (e + 1)).toNat + 1 by omega]; exact (if_neg (fun t => c12 ((rs_in (n := 40) h0 (by omega)).symm.trans t))).symm⟩⟩
set_option maxRecDepth 20000 in
theorem zX0_meetVariables_f {G : tl_G} {M : zM} {J : zJ} {b : Nat}  (hb : NetAt b) (hN : netOK M b) : ZN G yX0_meetVariables mX0_meetVariables 43 (kGo b) [vR b, vR 2] F1 M J (qV (fun M' J' => J' = J ∧ (oMet M → oMet M' ∧ sc b M' = vr (vs (M (b + 1)) (fun g c => M (b + 2) (3 * g + c)) 40) (M (b + 3)) (M b 5).toNat 0 (rs 40 (fun _ => 0), (sc b M).2)))) := by
  refine ZN_of (L := [_, _, _]) (by decide) rfl rfl (Nat.le_of_ble_eq_true rfl) rfl (fun hav => ?_)
  refine Z_rg b 5 (nTo hb) (fun g5 g5b => ?_)
  refine Z_rg b 4 (nTg hb) (fun g4 g4b => ?_)
  have hb4z : 4 < b := by rcases hb with q | q | q <;> omega
  refine Z_aload_n (n := 1) dX0_meetVariables_0 rfl rfl ?_
  refine Z_getA (n := 4) dX0_meetVariables_1 rfl ffX0_21 (by first | exact nS0 hb | exact nS1 hb | exact nS2 hb | exact nS3 hb | exact nS4 hb | exact nP0 hb | exact nP1 hb | exact nP2 hb | exact nP3 hb | rfl) (by first | exact nS0 hb | exact nS1 hb | exact nS2 hb | exact nS3 hb | exact nS4 hb | exact nP0 hb | exact nP1 hb | exact nP2 hb | exact nP3 hb | rfl) ?_
  refine Z_iconst (n := 5) dX0_meetVariables_4 rfl (by decide) ?_
  refine Z_callSv (n := 8) [_, _] _ dX0_meetVariables_5 rfl cwX0_48 rfl rfl (Nat.le_of_ble_eq_true rfl) (by refine ⟨?_, ?_, ?_, ?_⟩ <;> exact Nat.le_of_ble_eq_true rfl) (fun _ h => h) (zJ7_fill_53178  (by exact nS4 hb) (by decide) (by exact fun _ => nT4 hb) (by decide) (by decide) (by unfold kGo; omega)) ?_
  intro M5 J5 f5 q5
  obtain ⟨e5_1, e5_2⟩ := q5
  replace e5_1 := e5_1.symm; subst e5_1
  replace e5_2 := e5_2.symm; subst e5_2
  have hm0 : oMet M → oMet (fillz M (b + 4) (40 : Nat) 0) ∧ sc b (fillz M (b + 4) (40 : Nat) 0) = (rs 40 (fun _ => 0), (sc b M).2) := fun h => ⟨oMet_fr h (fillz_o (by omega)) (fillz_o (by omega)), by
    unfold sc
    rw [fillz_o (show (4 : Nat) ≠ b + 4 by omega), fillz_o (show (3 : Nat) ≠ b + 4 by omega), fillz_o (show (2 : Nat) ≠ b + 4 by omega), rs_cg (f' := fillz M (b + 4) (40 : Nat) 0 (b + 4)) (f := fun _ => 0) (n := 40) (fun j a c => fillz_a a (by omega))]⟩
  refine Z_iconst (n := 9) dX0_meetVariables_8 rfl (by decide) ?_
  refine Z_istore_n (L' := [_, _, _]) (n := 10) dX0_meetVariables_9 rfl (by decide) rfl rfl ?_
  have lp10 : ∀ (N10 : Nat) (o : Int) (M10 : zM) (J10 : zJ), ((4 - o).toNat) < N10 → (J10 = J) → (0 ≤ o) → (o ≤ M b 5) → (oMet M → oMet M10 ∧ sc b M10 = vr (vs (M (b + 1)) (fun g c => M (b + 2) (3 * g + c)) 40) (M (b + 3)) o.toNat 0 (rs 40 (fun _ => 0), (sc b M).2)) → TZ G mX0_meetVariables (tl_rm 43 0 0) 0 0 (kGo b) M J 10 [some (vR b), some (vR 2), some (vI o)] [] F1 M10 J10 (ZM G (zPost G (kGo b) F1 M J (qV (fun M' J' => J' = J ∧ (oMet M → oMet M' ∧ sc b M' = vr (vs (M (b + 1)) (fun g c => M (b + 2) (3 * g + c)) 40) (M (b + 3)) (M b 5).toNat 0 (rs 40 (fun _ => 0), (sc b M).2))))) 0 0) := by
    intro N10
    induction N10 with
    | zero => intro o M10 J10 hN; omega
    | succ N10 ih10 =>
      intro o M10 J10 hN10 i10_0 i10_1 i10_2 i10_3
      refine Z_iload_n (n := 11) dX0_meetVariables_10 rfl rfl ?_
      refine Z_fr (fun fr10 => ?_)
      have hN10 : netOK M10 b := netOK_fr hN (fr10 b (by unfold kGo; omega)).1 (fr10 (b + 1) (by unfold kGo; omega)).1 (fr10 (b + 2) (by unfold kGo; omega)).1 (fr10 (b + 3) (by unfold kGo; omega)).1
      have hb5 : M10 b 5 = M b 5 := congrFun (fr10 b (by unfold kGo; omega)).1 5
      refine Z_aload_n (n := 12) dX0_meetVariables_11 rfl rfl ?_
      refine Z_getI (n := 15) (ki := 5) dX0_meetVariables_12 rfl ffX0_28 rfl (by first | exact nS0 hb | exact nS1 hb | exact nS2 hb | exact nS3 hb | exact nS4 hb | exact nP0 hb | exact nP1 hb | exact nP2 hb | exact nP3 hb | rfl) (by first | exact nTg hb | exact nTo hb | exact nT1 hb | exact nT2 hb | exact nT3 hb | exact nT4 hb | rfl) (fun r12 s12 => ?_)
      refine Z_icmp_ge (n := 18) (t := 36) dX0_meetVariables_15 rfl (by decide) (fun c15 => ?_) (fun c15 => ?_)
      · refine Z_vret dX0_meetVariables_36 rfl ?_
        refine ⟨i10_0, fun h => ?_⟩
        rw [show M b 5 = o by omega]
        exact i10_3 h
      · refine Z_aload_n (n := 19) dX0_meetVariables_18 rfl rfl ?_
        refine Z_aload_n (n := 20) dX0_meetVariables_19 rfl rfl ?_
        refine Z_getA (n := 23) dX0_meetVariables_20 rfl ffX0_18 (by first | exact nS0 hb | exact nS1 hb | exact nS2 hb | exact nS3 hb | exact nS4 hb | exact nP0 hb | exact nP1 hb | exact nP2 hb | exact nP3 hb | rfl) (by first | exact nS0 hb | exact nS1 hb | exact nS2 hb | exact nS3 hb | exact nS4 hb | exact nP0 hb | exact nP1 hb | exact nP2 hb | exact nP3 hb | rfl) ?_
        refine Z_iload_n (n := 24) dX0_meetVariables_23 rfl rfl ?_
        refine Z_iald (n := 25) dX0_meetVariables_24 rfl (by first | exact nS0 hb | exact nS1 hb | exact nS2 hb | exact nS3 hb | exact nS4 hb | exact nP0 hb | exact nP1 hb | exact nP2 hb | exact nP3 hb | rfl) (by first | exact nTg hb | exact nTo hb | exact nT1 hb | exact nT2 hb | exact nT3 hb | exact nT4 hb | rfl) (by first | decide | assumption) (by omega) (by omega) (fun r24 s24 => ?_)
        have ho := hN10.2 o (by omega) (by omega)
        refine Z_aload_n (n := 26) dX0_meetVariables_25 rfl rfl ?_
        refine Z_iconst (n := 27) dX0_meetVariables_26 rfl (by decide) ?_
        refine Z_callVv (n := 30) [_, _, _] _ dX0_meetVariables_27 rfl cwX0_58 rfl rfl (by first | exact nS0 hb | exact nS1 hb | exact nS2 hb | exact nS3 hb | exact nS4 hb | exact nP0 hb | exact nP1 hb | exact nP2 hb | exact nP3 hb | rfl) (Nat.le_of_ble_eq_true rfl) (by refine ⟨?_, ?_, ?_, ?_⟩ <;> exact Nat.le_of_ble_eq_true rfl) (fun _ h => h) (zX0_goInto_f 40  (by first | assumption | omega | decide) (by first | assumption | omega | decide) (by omega) (by omega) (by omega) (by omega)) ?_
        intro M27 J27 f27 q27
        obtain ⟨e27_1, h27⟩ := q27
        replace e27_1 := e27_1.symm; subst e27_1
        have nx3 : oMet M → oMet M27 ∧ sc b M27 = vr (vs (M (b + 1)) (fun g c => M (b + 2) (3 * g + c)) 40) (M (b + 3)) (o + 1).toNat 0 (rs 40 (fun _ => 0), (sc b M).2) := fun h => by
          obtain ⟨p1, p2⟩ := i10_3 h
          obtain ⟨q1, q2⟩ := h27 p1
          refine ⟨q1, ?_⟩
          rw [(fr10 (b + 1) (by unfold kGo; omega)).1, (fr10 (b + 2) (by unfold kGo; omega)).1, (fr10 (b + 3) (by unfold kGo; omega)).1, show ((40 : Int) - 0).toNat = 40 by decide] at q2
          rw [q2, p2, show (o + 1).toNat = o.toNat + 1 by omega, vr_sn, show (0 : Int) + (o.toNat : Int) = o by omega]
        refine Z_iinc (L' := [_, _, _]) (n := 33) dX0_meetVariables_30 rfl rfl (by decide) rfl rfl (by omega) rfl ?_
        refine Z_goto (t := 10) dX0_meetVariables_33 (by decide) ?_
        refine Z_loc (L' := [some _, some _, some _]) (lsub_same (lsub_same (lsub_same lsub_nil))) ?_
        exact ih10 _ _ _ (by omega) (by assumption) (by first | assumption | omega | decide) (by omega) (by exact nx3)
  refine Z_loc (L' := [some _, some _, some _]) (lsub_same (lsub_same (lsub_same lsub_nil))) ?_
  exact lp10 _ _ _ _ (Nat.lt_succ_self _) (by rfl) (by first | assumption | omega | decide) (by omega) (by exact hm0)
set_option maxRecDepth 20000 in
theorem zX1_meetOthers_f {G : tl_G} {M : zM} {J : zJ} {b : Nat} (hb : 4 < b) : ZN G yX1_meetOthers mX1_meetOthers 2 kOrd [vR 2] F1 M J (qI (fun x M' J' => x = M 2 2 ∧ J' = J ∧ (oMet M → oMet M' ∧ (∀ v : Int, 0 ≤ v → v < 8 → 0 ≤ M' 4 v) ∧ sc b M' = oF (sc b M)))) := by
  refine ZN_of (L := [_, _, _]) (by decide) rfl rfl (Nat.le_of_ble_eq_true rfl) rfl (fun hav => ?_)
  refine Z_aload_n (n := 1) dX1_meetOthers_0 rfl rfl ?_
  refine Z_getI (n := 4) (ki := 2) dX1_meetOthers_1 rfl ffX1_18 rfl rfl rfl (fun r1 s1 => ?_)
  refine Z_istore_n (L' := [_, _, _]) (n := 5) dX1_meetOthers_4 rfl (by decide) rfl rfl ?_
  refine Z_iconst (n := 6) dX1_meetOthers_5 rfl (by decide) ?_
  refine Z_istore_n (L' := [_, _, _]) (n := 7) dX1_meetOthers_6 rfl (by decide) rfl rfl ?_
  have lp7 : ∀ (N7 : Nat) (v : Int) (M7 : zM) (J7 : zJ), ((8 - v).toNat) < N7 → (J7 = J) → (0 ≤ v) → (v ≤ 8) → (oMet M → oMet M7 ∧ ∀ w : Int, 0 ≤ w → w < v → ¬ M7 4 w = -1) → (oMet M → sc b M7 = vr mt (fun c => c) v.toNat 0 (sc b M)) → TZ G mX1_meetOthers (tl_rm 2 0 0) 0 0 kOrd M J 7 [some (vR 2), some (vI (M 2 2)), some (vI v)] [] F1 M7 J7 (ZM G (zPost G kOrd F1 M J (qI (fun x M' J' => x = M 2 2 ∧ J' = J ∧ (oMet M → oMet M' ∧ (∀ v : Int, 0 ≤ v → v < 8 → 0 ≤ M' 4 v) ∧ sc b M' = oF (sc b M))))) 0 0) := by
    intro N7
    induction N7 with
    | zero => intro v M7 J7 hN; omega
    | succ N7 ih7 =>
      intro v M7 J7 hN7 i7_0 i7_1 i7_2 i7_3 i7_4
      refine Z_iload_n (n := 8) dX1_meetOthers_7 rfl rfl ?_
      refine Z_bipush (n := 10) dX1_meetOthers_8 rfl (by decide) (by decide) ?_
      refine Z_icmp_ge (n := 13) (t := 24) dX1_meetOthers_10 rfl (by decide) (fun c10 => ?_) (fun c10 => ?_)
      · refine Z_ok (fun ok7 => ?_)
        refine Z_iload_n (n := 25) dX1_meetOthers_24 rfl rfl ?_
        refine Z_iret dX1_meetOthers_25 rfl ?_
        refine ⟨rfl, i7_0, fun h => ⟨(i7_3 h).1, fun w h0 h1 => ?_, ?_⟩⟩
        · have e := (i7_3 h).2 w h0 (by omega)
          have := (ok7 4 w).1
          have e2 : (zT 4 w).1 = -1 := rfl
          omega
        · have z := i7_4 h
          rw [show v = 8 by omega] at z
          exact z
      · refine Z_ok (fun ok7 => ?_)
        refine Z_rg 2 2 rfl (fun g7 g7b => ?_)
        refine Z_aload_n (n := 14) dX1_meetOthers_13 rfl rfl ?_
        refine Z_iload_n (n := 15) dX1_meetOthers_14 rfl rfl ?_
        refine Z_callVv (n := 18) [_] _ dX1_meetOthers_15 rfl cwX1_32 rfl rfl rfl (Nat.le_of_ble_eq_true rfl) (by refine ⟨?_, ?_, ?_, ?_⟩ <;> exact Nat.le_of_ble_eq_true rfl) (fun _ h => h) (zX1_meet  (by first | assumption | omega | decide) (by first | assumption | omega | decide) (by first | assumption | omega | decide) (by first | assumption | omega | decide) (by first | assumption | omega | decide)) ?_
        intro M15 J15 f15 q15
        obtain ⟨e15_1, h15⟩ := q15
        replace e15_1 := e15_1.symm; subst e15_1
        have nx4 : oMet M → sc b M15 = vr mt (fun c => c) (v + 1).toNat 0 (sc b M) := fun h => by
          rw [(sc_meet hb (by omega) (by omega) (i7_3 h).1 ok7 h15).2, i7_4 h, show (v + 1).toNat = v.toNat + 1 by omega, vr_sn, show (0 : Int) + (v.toNat : Int) = v by omega]
        have nxt : oMet M → oMet M15 ∧ ∀ w : Int, 0 ≤ w → w < v + 1 → ¬ M15 4 w = -1 := by
          intro h
          obtain ⟨h1, h2⟩ := i7_3 h
          rcases h15 with ⟨e1, e2, rfl⟩ | ⟨e1, rfl⟩
          · refine ⟨oMet_meet (by omega) (by omega) h1 ok7 e1, fun w h3 h4 => ?_⟩
            rw [uz_oo (show (4 : Nat) ≠ 2 by decide)]
            by_cases e : w = v
            · subst e; rw [uz_s]; omega
            · rw [uz_n e, uz_oo (show (4 : Nat) ≠ 3 by decide)]; exact h2 w h3 (by omega)
          · refine ⟨h1, fun w h3 h4 => ?_⟩
            by_cases e : w = v
            · subst e
              intro e3
              have := hc_lt (f := M15 4) (n := 8) h3 (by omega) e3
              unfold oMet at h1
              omega
            · exact h2 w h3 (by omega)
        refine Z_iinc (L' := [_, _, _]) (n := 21) dX1_meetOthers_18 rfl rfl (by decide) rfl rfl (by omega) rfl ?_
        refine Z_goto (t := 7) dX1_meetOthers_21 (by decide) ?_
        refine Z_loc (L' := [some _, some _, some _]) (lsub_same (lsub_same (lsub_same lsub_nil))) ?_
        exact ih7 _ _ _ (by omega) (by assumption) (by first | assumption | omega | decide) (by first | assumption | omega | decide) (by exact nxt) (by exact nx4)
  refine Z_loc (L' := [some _, some _, some _]) (lsub_same (lsub_same (lsub_same lsub_nil))) ?_
  exact lp7 _ _ _ _ (Nat.lt_succ_self _) (by rfl) (by first | assumption | omega | decide) (by first | assumption | omega | decide) (by exact fun h => ⟨h, fun w h0 h1 => by omega⟩) (by exact fun h => rfl)
set_option maxRecDepth 20000 in
theorem zX1_moveTo_f {G : tl_G} {M : zM} {J : zJ} {v p : Int} (h0 : 0 ≤ v) (h1 : v < 8) (h2 : 0 ≤ p) (h3 : p < 8) (h4 : 0 ≤ M 4 v) (hI : oIn (M 3) (M 4)) : ZN G yX1_moveTo mX1_moveTo 1 kOrd [vR 2, vI v, vI p] F1 M J (qI (fun x M' J' => x = M 4 v ∧ J' = J ∧ mvQ (M 3) (M 4) (M' 3) (M' 4) v p)) := by
  refine ZN_of (L := [_, _, _, _, _]) (by decide) rfl rfl (Nat.le_of_ble_eq_true rfl) rfl (fun hav => ?_)
  have f8 : M 4 v < 8 := (hI v h0 h1).1.2.1
  refine Z_aload_n (n := 1) dX1_moveTo_0 rfl rfl ?_
  refine Z_getA (n := 4) dX1_moveTo_1 rfl ffX1_15 rfl rfl ?_
  refine Z_iload_n (n := 5) dX1_moveTo_4 rfl rfl ?_
  refine Z_iald (n := 6) dX1_moveTo_5 rfl rfl rfl (by first | decide | assumption) (by omega) (by omega) (fun r5 s5 => ?_)
  refine Z_istore_n (L' := [_, _, _, _, _]) (n := 7) dX1_moveTo_6 rfl (by decide) rfl rfl ?_
  refine Z_iload_n (n := 8) dX1_moveTo_7 rfl rfl ?_
  refine Z_istore (L' := [_, _, _, _, _]) (n := 10) dX1_moveTo_8 rfl (by decide) rfl rfl ?_
  have lp10 : ∀ (N10 : Nat) (q : Int) (M10 : zM) (J10 : zJ), ((p - q).toNat) < N10 → (J10 = J) → (0 ≤ q) → (q ≤ 7) → (M 4 v ≤ q) → (q ≤ p ∨ q = M 4 v) → (∀ j : Int, 0 ≤ j → j < 8 → M10 3 j = mvA (M 3) (M 4 v) q (M 4 v) j) → (∀ j : Int, 0 ≤ j → j < 8 → M10 4 j = mvP (M 4) (M 4 v) q (M 4 v) j) → TZ G mX1_moveTo (tl_rm 1 0 0) 0 0 kOrd M J 10 [some (vR 2), some (vI v), some (vI p), some (vI (M 4 v)), some (vI q)] [] F1 M10 J10 (ZM G (zPost G kOrd F1 M J (qI (fun x M' J' => x = M 4 v ∧ J' = J ∧ mvQ (M 3) (M 4) (M' 3) (M' 4) v p))) 0 0) := by
    intro N10
    induction N10 with
    | zero => intro q M10 J10 hN; omega
    | succ N10 ih10 =>
      intro q M10 J10 hN10 i10_0 i10_1 i10_2 i10_3 i10_4 i10_5 i10_6
      refine Z_iload (n := 12) dX1_moveTo_10 rfl rfl ?_
      refine Z_iload_n (n := 13) dX1_moveTo_12 rfl rfl ?_
      refine Z_icmp_ge (n := 16) (t := 37) dX1_moveTo_13 rfl (by decide) (fun c13 => ?_) (fun c13 => ?_)
      · refine Z_iload_n (n := 38) dX1_moveTo_37 rfl rfl ?_
        refine Z_istore (L' := [_, _, _, _, _]) (n := 40) dX1_moveTo_38 rfl (by decide) rfl rfl ?_
        have lp40 : ∀ (N40 : Nat) (q : Int) (M40 : zM) (J40 : zJ), ((q - p).toNat) < N40 → (J40 = J) → (0 ≤ q) → (q ≤ 7) → (q ≤ M 4 v) → (p ≤ q ∨ q = M 4 v) → (∀ j : Int, 0 ≤ j → j < 8 → M40 3 j = mvA (M 3) (M 4 v) p q j) → (∀ j : Int, 0 ≤ j → j < 8 → M40 4 j = mvP (M 4) (M 4 v) p q j) → TZ G mX1_moveTo (tl_rm 1 0 0) 0 0 kOrd M J 40 [some (vR 2), some (vI v), some (vI p), some (vI (M 4 v)), some (vI q)] [] F1 M40 J40 (ZM G (zPost G kOrd F1 M J (qI (fun x M' J' => x = M 4 v ∧ J' = J ∧ mvQ (M 3) (M 4) (M' 3) (M' 4) v p))) 0 0) := by
          intro N40
          induction N40 with
          | zero => intro q M40 J40 hN; omega
          | succ N40 ih40 =>
            intro q M40 J40 hN40 i40_0 i40_1 i40_2 i40_3 i40_4 i40_5 i40_6
            refine Z_iload (n := 42) dX1_moveTo_40 rfl rfl ?_
            refine Z_iload_n (n := 43) dX1_moveTo_42 rfl rfl ?_
            refine Z_icmp_le (n := 46) (t := 67) dX1_moveTo_43 rfl (by decide) (fun c43 => ?_) (fun c43 => ?_)
            · refine Z_aload_n (n := 68) dX1_moveTo_67 rfl rfl ?_
              refine Z_iload_n (n := 69) dX1_moveTo_68 rfl rfl ?_
              refine Z_iload_n (n := 70) dX1_moveTo_69 rfl rfl ?_
              refine Z_callVv (n := 73) [_, _] _ dX1_moveTo_70 rfl cwX1_28 rfl rfl rfl (Nat.le_of_ble_eq_true rfl) (by refine ⟨?_, ?_, ?_, ?_⟩ <;> exact Nat.le_of_ble_eq_true rfl) (fun _ h => h) (zX1_put  (by first | assumption | omega | decide) (by first | assumption | omega | decide) (by first | assumption | omega | decide) (by first | assumption | omega | decide) (by first | assumption | omega | decide) (by first | assumption | omega | decide)) ?_
              intro M70 J70 f70 q70
              obtain ⟨e70_1, e70_2⟩ := q70
              replace e70_1 := e70_1.symm; subst e70_1
              replace e70_2 := e70_2.symm; subst e70_2
              refine Z_iload_n (n := 74) dX1_moveTo_73 rfl rfl ?_
              refine Z_iret dX1_moveTo_74 rfl ?_
              refine ⟨rfl, i40_0, fun j a b => ?_, fun j a b => ?_⟩
              · rw [uz_o (show (3 : Nat) ≠ 4 by decide), uz_fn]
                by_cases e : j = p
                · rw [e, updI_s, updI_s]
                · rw [updI_n e, updI_n e, i40_5 j a b]
                  exact (mv_ey (P := M 4) (by omega) (by omega) (by omega)).1
              · rw [uz_fn, uz_o (show (4 : Nat) ≠ 3 by decide)]
                by_cases e : j = v
                · rw [e, updI_s, updI_s]
                · rw [updI_n e, updI_n e, i40_6 j a b]
                  exact (mv_ey (A := M 3) (by omega) (by omega) (by omega)).2
            · refine Z_aload_n (n := 47) dX1_moveTo_46 rfl rfl ?_
              refine Z_aload_n (n := 48) dX1_moveTo_47 rfl rfl ?_
              refine Z_getA (n := 51) dX1_moveTo_48 rfl ffX1_9 rfl rfl ?_
              refine Z_iload (n := 53) dX1_moveTo_51 rfl rfl ?_
              refine Z_iconst (n := 54) dX1_moveTo_53 rfl (by decide) ?_
              refine Z_isub (n := 55) dX1_moveTo_54 rfl (by omega) ?_
              refine Z_iald (n := 56) dX1_moveTo_55 rfl rfl rfl (by first | decide | assumption) (by omega) (by omega) (fun r55 s55 => ?_)
              refine Z_iload (n := 58) dX1_moveTo_56 rfl rfl ?_
              refine Z_callVv (n := 61) [_, _] _ dX1_moveTo_58 rfl cwX1_28 rfl rfl rfl (Nat.le_of_ble_eq_true rfl) (by refine ⟨?_, ?_, ?_, ?_⟩ <;> exact Nat.le_of_ble_eq_true rfl) (fun _ h => h) (zX1_put  (by first | assumption | omega | decide) (by first | assumption | omega | decide) (by first | assumption | omega | decide) (by first | assumption | omega | decide) (by first | assumption | omega | decide) (by first | assumption | omega | decide)) ?_
              intro M58 J58 f58 q58
              obtain ⟨e58_1, e58_2⟩ := q58
              replace e58_1 := e58_1.symm; subst e58_1
              replace e58_2 := e58_2.symm; subst e58_2
              obtain ⟨ea, eb⟩ := mvA_dn (q := q) i40_5 (by omega) (by omega) (by omega) (by omega)
              have nA5 : ∀ j : Int, 0 ≤ j → j < 8 → (uz (uz M40 3 q (M40 3 (q - 1))) 4 (M40 3 (q - 1)) q) 3 j = mvA (M 3) (M 4 v) p (q - 1) j := fun j a b => by
                rw [uz_o (show (3 : Nat) ≠ 4 by decide), uz_fn]
                exact eb j a b
              have nP6 : ∀ j : Int, 0 ≤ j → j < 8 → (uz (uz M40 3 q (M40 3 (q - 1))) 4 (M40 3 (q - 1)) q) 4 j = mvP (M 4) (M 4 v) p (q - 1) j := fun j a b => by
                rw [uz_fn, uz_o (show (4 : Nat) ≠ 3 by decide), ea]
                exact mvP_dn hI i40_6 (by omega) (by omega) (by omega) (by omega) j a b
              refine Z_iinc (L' := [_, _, _, _, _]) (n := 64) dX1_moveTo_61 rfl rfl (by decide) rfl rfl (by omega) rfl ?_
              refine Z_goto (t := 40) dX1_moveTo_64 (by decide) ?_
              refine Z_loc (L' := [some _, some _, some _, some _, some _]) (lsub_same (lsub_same (lsub_same (lsub_same (lsub_same lsub_nil))))) ?_
              exact ih40 _ _ _ (by omega) (by assumption) (by first | assumption | omega | decide) (by first | assumption | omega | decide) (by first | assumption | omega | decide) (by first | assumption | omega | decide) (by exact nA5) (by exact nP6)
        refine Z_loc (L' := [some _, some _, some _, some _, some _]) (lsub_same (lsub_same (lsub_same (lsub_same (lsub_same lsub_nil))))) ?_
        exact lp40 _ _ _ _ (Nat.lt_succ_self _) (by assumption) (by first | assumption | omega | decide) (by first | assumption | omega | decide) (by first | assumption | omega | decide) (by first | assumption | omega | decide) (by exact fun j a b => (i10_5 j a b).trans (mv_ex (P := M 4) (by omega) (by omega) (by omega)).1) (by exact fun j a b => (i10_6 j a b).trans (mv_ex (A := M 3) (by omega) (by omega) (by omega)).2)
      · refine Z_aload_n (n := 17) dX1_moveTo_16 rfl rfl ?_
        refine Z_aload_n (n := 18) dX1_moveTo_17 rfl rfl ?_
        refine Z_getA (n := 21) dX1_moveTo_18 rfl ffX1_9 rfl rfl ?_
        refine Z_iload (n := 23) dX1_moveTo_21 rfl rfl ?_
        refine Z_iconst (n := 24) dX1_moveTo_23 rfl (by decide) ?_
        refine Z_iadd (n := 25) dX1_moveTo_24 rfl (by omega) ?_
        refine Z_iald (n := 26) dX1_moveTo_25 rfl rfl rfl (by first | decide | assumption) (by omega) (by omega) (fun r25 s25 => ?_)
        refine Z_iload (n := 28) dX1_moveTo_26 rfl rfl ?_
        refine Z_callVv (n := 31) [_, _] _ dX1_moveTo_28 rfl cwX1_28 rfl rfl rfl (Nat.le_of_ble_eq_true rfl) (by refine ⟨?_, ?_, ?_, ?_⟩ <;> exact Nat.le_of_ble_eq_true rfl) (fun _ h => h) (zX1_put  (by first | assumption | omega | decide) (by first | assumption | omega | decide) (by first | assumption | omega | decide) (by first | assumption | omega | decide) (by first | assumption | omega | decide) (by first | assumption | omega | decide)) ?_
        intro M28 J28 f28 q28
        obtain ⟨e28_1, e28_2⟩ := q28
        replace e28_1 := e28_1.symm; subst e28_1
        replace e28_2 := e28_2.symm; subst e28_2
        obtain ⟨ea, eb⟩ := mvA_up (q := q) i10_5 (by omega) (by omega) (by omega)
        have nA5 : ∀ j : Int, 0 ≤ j → j < 8 → (uz (uz M10 3 q (M10 3 (q + 1))) 4 (M10 3 (q + 1)) q) 3 j = mvA (M 3) (M 4 v) (q + 1) (M 4 v) j := fun j a b => by
          rw [uz_o (show (3 : Nat) ≠ 4 by decide), uz_fn]
          exact eb j a b
        have nP6 : ∀ j : Int, 0 ≤ j → j < 8 → (uz (uz M10 3 q (M10 3 (q + 1))) 4 (M10 3 (q + 1)) q) 4 j = mvP (M 4) (M 4 v) (q + 1) (M 4 v) j := fun j a b => by
          rw [uz_fn, uz_o (show (4 : Nat) ≠ 3 by decide), ea]
          exact mvP_up hI i10_6 (by omega) (by omega) (by omega) j a b
        refine Z_iinc (L' := [_, _, _, _, _]) (n := 34) dX1_moveTo_31 rfl rfl (by decide) rfl rfl (by omega) rfl ?_
        refine Z_goto (t := 10) dX1_moveTo_34 (by decide) ?_
        refine Z_loc (L' := [some _, some _, some _, some _, some _]) (lsub_same (lsub_same (lsub_same (lsub_same (lsub_same lsub_nil))))) ?_
        exact ih10 _ _ _ (by omega) (by assumption) (by first | assumption | omega | decide) (by first | assumption | omega | decide) (by first | assumption | omega | decide) (by first | assumption | omega | decide) (by exact nA5) (by exact nP6)
  refine Z_loc (L' := [some _, some _, some _, some _, some _]) (lsub_same (lsub_same (lsub_same (lsub_same (lsub_same lsub_nil))))) ?_
  exact lp10 _ _ _ _ (Nat.lt_succ_self _) (by rfl) (by first | assumption | omega | decide) (by omega) (by first | assumption | omega | decide) (by first | assumption | omega | decide) (by exact fun j _ _ => (mv_0 (P := M 4)).1.symm) (by exact fun j _ _ => (mv_0 (A := M 3)).2.symm)
set_option maxRecDepth 20000 in
theorem zX3_move_f {G : tl_G} {M : zM} {J : zJ} {v p : Int} (hC : cI M) (hI : oIn (M 3) (M 4)) : ZN G yX3_move mX3_move 2 kOrd [vR 0, vI v, vI p] F1 M J (qI (fun x M' J' => J' = J ∧ cI M' ∧ (((v < 0 ∨ 8 ≤ v ∨ p < 0 ∨ 8 ≤ p) ∧ x = -2 ∧ M' = M) ∨ (¬ (v < 0 ∨ 8 ≤ v ∨ p < 0 ∨ 8 ≤ p) ∧ 0 < hc (M 12) 12 ∧ x = -3 ∧ M' = M) ∨ (¬ (v < 0 ∨ 8 ≤ v ∨ p < 0 ∨ 8 ≤ p) ∧ hc (M 12) 12 ≤ 0 ∧ x = M 4 v ∧ mvQ (M 3) (M 4) (M' 3) (M' 4) v p)))) := by
  refine ZN_of (L := [_, _, _]) (by decide) rfl rfl (Nat.le_of_ble_eq_true rfl) rfl (fun hav => ?_)
  refine Z_iload_n (n := 1) dX3_move_0 rfl rfl ?_
  refine Z_callSi (n := 4) [_] _ dX3_move_1 rfl cwX3_70 rfl rfl (Nat.le_of_ble_eq_true rfl) (by refine ⟨?_, ?_, ?_, ?_⟩ <;> exact Nat.le_of_ble_eq_true rfl) (fun _ _ => trivial) (zX3_isVariable  ) ?_
  intro x1 M1 J1 z1 f1 q1
  obtain ⟨e1_1, e1_2, h1⟩ := q1
  replace e1_1 := e1_1.symm; subst e1_1
  replace e1_2 := e1_2.symm; subst e1_2
  refine Z_if_eq (n := 7) (t := 14) dX3_move_4 rfl (by decide) (fun c4 => ?_) (fun c4 => ?_)
  · refine Z_bipush (n := 16) dX3_move_14 rfl (by decide) (by decide) ?_
    refine Z_iret dX3_move_16 rfl ?_
    exact ⟨rfl, hC, Or.inl ⟨by omega, rfl, rfl⟩⟩
  · refine Z_iload_n (n := 8) dX3_move_7 rfl rfl ?_
    refine Z_callSi (n := 11) [_] _ dX3_move_8 rfl cwX3_70 rfl rfl (Nat.le_of_ble_eq_true rfl) (by refine ⟨?_, ?_, ?_, ?_⟩ <;> exact Nat.le_of_ble_eq_true rfl) (fun _ _ => trivial) (zX3_isVariable  ) ?_
    intro x8 M8 J8 z8 f8 q8
    obtain ⟨e8_1, e8_2, h8⟩ := q8
    replace e8_1 := e8_1.symm; subst e8_1
    replace e8_2 := e8_2.symm; subst e8_2
    refine Z_if_ne (n := 14) (t := 17) dX3_move_11 rfl (by decide) (fun c11 => ?_) (fun c11 => ?_)
    · refine Z_aload_n (n := 18) dX3_move_17 rfl rfl ?_
      refine Z_callVi (n := 21) [] _ dX3_move_18 rfl cwX3_98 rfl rfl (by first | rfl | exact nS0 (nA_at (by omega) (by omega))) (Nat.le_of_ble_eq_true rfl) (by refine ⟨?_, ?_, ?_, ?_⟩ <;> exact Nat.le_of_ble_eq_true rfl) (fun _ _ => trivial) (zX3_heldCount  ) ?_
      intro x18 M18 J18 z18 f18 q18
      obtain ⟨e18_1, e18_2, h18⟩ := q18
      replace e18_1 := e18_1.symm; subst e18_1
      replace e18_2 := e18_2.symm; subst e18_2
      refine Z_if_le (n := 24) (t := 27) dX3_move_21 rfl (by decide) (fun c21 => ?_) (fun c21 => ?_)
      · refine Z_aload_n (n := 28) dX3_move_27 rfl rfl ?_
        refine Z_getO (n := 31) dX3_move_28 rfl ffX3_18 (by first | rfl | exact nS0 (nA_at (by omega) (by omega))) (by first | rfl | exact nS0 (nA_at (by omega) (by omega))) ?_
        refine Z_iload_n (n := 32) dX3_move_31 rfl rfl ?_
        refine Z_iload_n (n := 33) dX3_move_32 rfl rfl ?_
        refine Z_callVi (n := 36) [_, _] _ dX3_move_33 rfl cwX3_111 rfl rfl (by first | rfl | exact nS0 (nA_at (by omega) (by omega))) (Nat.le_of_ble_eq_true rfl) (by refine ⟨?_, ?_, ?_, ?_⟩ <;> exact Nat.le_of_ble_eq_true rfl) (fun _ h => h) (zX1_moveTo_f  (by omega) (by omega) (by omega) (by omega) (by exact hC.2.1 v (by omega) (by omega)) (by exact hI)) ?_
        intro x33 M33 J33 z33 f33 q33
        obtain ⟨h33, e33_1, mv33⟩ := q33
        replace e33_1 := e33_1.symm; subst e33_1
        refine Z_fr (fun frR => ?_)
        refine Z_iret dX3_move_36 rfl ?_
        have hO : ordOK M33 := fun w a b => ((mv_in hI (by omega) (by omega) (by omega) (by omega) mv33) w a b).1.1
        exact ⟨rfl, cI_mk hC (fun a ha => frR a (by unfold kPub at ha; unfold kOrd; omega)) (pI_fr hC.1 (f33 5 (by decide)).1 (f33 6 (by decide)).1 (f33 10 (by decide)).1 (f33 11 (by decide)).1) hO, Or.inr (Or.inr ⟨by omega, by omega, h33, mv33⟩)⟩
      · refine Z_bipush (n := 26) dX3_move_24 rfl (by decide) (by decide) ?_
        refine Z_iret dX3_move_26 rfl ?_
        exact ⟨rfl, hC, Or.inr (Or.inl ⟨by omega, by omega, rfl, rfl⟩)⟩
    · refine Z_bipush (n := 16) dX3_move_14 rfl (by decide) (by decide) ?_
      refine Z_iret dX3_move_16 rfl ?_
      exact ⟨rfl, hC, Or.inl ⟨by omega, rfl, rfl⟩⟩
set_option maxRecDepth 20000 in
theorem zX3_order_f {G : tl_G} {M : zM} {J : zJ} {net : Int} (hC : cI M) : ZN G yX3_order mX3_order 44 kOc [vR 0, vI net] F1 M J (qI (fun x M' J' => J' = J ∧ cI M' ∧ (((net < 0 ∨ 3 ≤ net) ∧ x = -1 ∧ M' = M) ∨ (0 ≤ net ∧ net < 3 ∧ 0 < hc (M 12) 12 ∧ x = -3 ∧ M' = M) ∨ (0 ≤ net ∧ net < 3 ∧ hc (M 12) 12 ≤ 0 ∧ orQ (vr (vs (M (nA net + 1)) (fun g c => M (nA net + 2) (3 * g + c)) 40) (M (nA net + 3)) (M (nA net) 5).toNat 0 (o0 (M 3))) x (M' 3) (M' 4) ∧ oIn (M' 3) (M' 4))))) := by
  refine ZN_of (L := [_, _]) (by decide) rfl rfl (Nat.le_of_ble_eq_true rfl) rfl (fun hav => ?_)
  refine Z_iload_n (n := 1) dX3_order_0 rfl rfl ?_
  refine Z_callSi (n := 4) [_] _ dX3_order_1 rfl cwX3_62 rfl rfl (Nat.le_of_ble_eq_true rfl) (by refine ⟨?_, ?_, ?_, ?_⟩ <;> exact Nat.le_of_ble_eq_true rfl) (fun _ _ => trivial) (zX3_isNet  ) ?_
  intro x1 M1 J1 z1 f1 q1
  obtain ⟨e1_1, e1_2, h1⟩ := q1
  replace e1_1 := e1_1.symm; subst e1_1
  replace e1_2 := e1_2.symm; subst e1_2
  refine Z_if_ne (n := 7) (t := 9) dX3_order_4 rfl (by decide) (fun c4 => ?_) (fun c4 => ?_)
  · refine Z_aload_n (n := 10) dX3_order_9 rfl rfl ?_
    refine Z_callVi (n := 13) [] _ dX3_order_10 rfl cwX3_98 rfl rfl (by first | rfl | exact nS0 (nA_at (by omega) (by omega))) (Nat.le_of_ble_eq_true rfl) (by refine ⟨?_, ?_, ?_, ?_⟩ <;> exact Nat.le_of_ble_eq_true rfl) (fun _ _ => trivial) (zX3_heldCount  ) ?_
    intro x10 M10 J10 z10 f10 q10
    obtain ⟨e10_1, e10_2, h10⟩ := q10
    replace e10_1 := e10_1.symm; subst e10_1
    replace e10_2 := e10_2.symm; subst e10_2
    refine Z_if_le (n := 16) (t := 19) dX3_order_13 rfl (by decide) (fun c13 => ?_) (fun c13 => ?_)
    · refine Z_aload_n (n := 20) dX3_order_19 rfl rfl ?_
      refine Z_getO (n := 23) dX3_order_20 rfl ffX3_18 (by first | rfl | exact nS0 (nA_at (by omega) (by omega))) (by first | rfl | exact nS0 (nA_at (by omega) (by omega))) ?_
      refine Z_callVv (n := 26) [] _ dX3_order_23 rfl cwX3_101 rfl rfl (by first | rfl | exact nS0 (nA_at (by omega) (by omega))) (Nat.le_of_ble_eq_true rfl) (by refine ⟨?_, ?_, ?_, ?_⟩ <;> exact Nat.le_of_ble_eq_true rfl) (fun _ h => h) (zX1_forget  (by decide) (by decide)) ?_
      intro M23 J23 f23 q23
      obtain ⟨e23_1, e23_2⟩ := q23
      replace e23_1 := e23_1.symm; subst e23_1
      replace e23_2 := e23_2.symm; subst e23_2
      have hm23 : oMet (uz (fillz M 4 8 (-1)) 2 2 0) := by
        unfold oMet
        rw [uz_s, uz_o (by decide), hc_zero (fun k k0 k1 => fillz_a k0 (by omega))]
      have o23 : ∀ a : Nat, ¬ a = 2 → ¬ a = 4 → (uz (fillz M 4 8 (-1)) 2 2 0) a = M a := fun a h1 h2 => by rw [uz_o h1, fillz_o h2]
      have hNm := cI_net hC (nA_at (j := net) (by omega) (by omega))
      have hN23 : netOK (uz (fillz M 4 8 (-1)) 2 2 0) (nA net) := netOK_fr hNm (o23 _ (by unfold nA; omega) (by unfold nA; omega)) (o23 _ (by unfold nA; omega) (by unfold nA; omega)) (o23 _ (by unfold nA; omega) (by unfold nA; omega)) (o23 _ (by unfold nA; omega) (by unfold nA; omega))
      have sc23 : ((rs 40 (fun _ => 0), (sc (nA net) (uz (fillz M 4 8 (-1)) 2 2 0)).2) : oS) = o0 (M 3) := by
        unfold sc o0
        rw [uz_s, uz_o (show (4 : Nat) ≠ 2 by decide), o23 3 (by decide) (by decide), rs_cg (f' := fillz M 4 8 (-1) 4) (f := fun _ => -1) (n := 8) (fun j a c => fillz_a a (by omega))]
        try rfl
      refine Z_aload_n (n := 27) dX3_order_26 rfl rfl ?_
      refine Z_getA (n := 30) dX3_order_27 rfl ffX3_11 (by first | rfl | exact nS0 (nA_at (by omega) (by omega))) (by first | rfl | exact nS0 (nA_at (by omega) (by omega))) ?_
      refine Z_iload_n (n := 31) dX3_order_30 rfl rfl ?_
      refine Z_aald (n := 32) dX3_order_31 rfl (by first | rfl | exact nS0 (nA_at (by omega) (by omega))) (by decide) (by omega) (by omega) (nA_P (by omega) (by omega)) ?_
      refine Z_aload_n (n := 33) dX3_order_32 rfl rfl ?_
      refine Z_getO (n := 36) dX3_order_33 rfl ffX3_18 (by first | rfl | exact nS0 (nA_at (by omega) (by omega))) (by first | rfl | exact nS0 (nA_at (by omega) (by omega))) ?_
      refine Z_callVv (n := 39) [_] _ dX3_order_36 rfl cwX3_104 rfl rfl (by first | rfl | exact nS0 (nA_at (by omega) (by omega))) (Nat.le_of_ble_eq_true rfl) (by refine ⟨?_, ?_, ?_, ?_⟩ <;> exact Nat.le_of_ble_eq_true rfl) (fun a h => by unfold kOc at h; unfold kGo nA; omega) (zX0_meetVariables_f  (by exact nA_at (by omega) (by omega)) (by exact hN23)) ?_
      intro M36 J36 f36 q36
      obtain ⟨e36_1, h36⟩ := q36
      replace e36_1 := e36_1.symm; subst e36_1
      obtain ⟨hm36, sc36⟩ := h36 hm23
      rw [sc23, o23 (nA net) (by unfold nA; omega) (by unfold nA; omega), o23 (nA net + 1) (by unfold nA; omega) (by unfold nA; omega), o23 (nA net + 2) (by unfold nA; omega) (by unfold nA; omega), o23 (nA net + 3) (by unfold nA; omega) (by unfold nA; omega)] at sc36
      refine Z_aload_n (n := 40) dX3_order_39 rfl rfl ?_
      refine Z_getO (n := 43) dX3_order_40 rfl ffX3_18 (by first | rfl | exact nS0 (nA_at (by omega) (by omega))) (by first | rfl | exact nS0 (nA_at (by omega) (by omega))) ?_
      refine Z_callVi (n := 46) [] _ dX3_order_43 rfl cwX3_108 rfl rfl (by first | rfl | exact nS0 (nA_at (by omega) (by omega))) (Nat.le_of_ble_eq_true rfl) (by refine ⟨?_, ?_, ?_, ?_⟩ <;> exact Nat.le_of_ble_eq_true rfl) (fun a h => by unfold kOc at h; unfold kOrd; omega) (zX1_meetOthers_f (b := nA net) (by unfold nA; omega)) ?_
      intro x43 M43 J43 z43 f43 q43
      obtain ⟨h43, e43_1, o43⟩ := q43
      replace e43_1 := e43_1.symm; subst e43_1
      refine Z_fr (fun frR => ?_)
      refine Z_iret dX3_order_46 rfl ?_
      obtain ⟨hm43, hO43, sc43⟩ := o43 hm36
      have pw : pW (sc (nA net) M43) := by
        rw [sc43, sc36]
        refine pW_F (pW_vr (fun i a b t ht => ?_) pW_0)
        have z := hNm.2 i (by omega) (by omega)
        exact pW_vs (m := M (nA net) 4) (fun g a b c c0 c1 => (hNm.1 g a b).1 c c0 c1) (fun g a b e => by show 0 ≤ M (nA net + 2) (3 * g + 0) ∧ M (nA net + 2) (3 * g + 0) < 8; rw [show 3 * g + 0 = 3 * g by omega]; exact (hNm.1 g a b).2 e) 40 _ t z.1 z.2 ht
      have m8 : M43 2 2 = 8 := by
        have e : M43 2 2 = hc (M43 4) 8 := hm43
        have e2 := hc_all (f := M43 4) (n := 8) (fun k a b => by have := hO43 k a (by omega); omega)
        omega
      have hin : oIn (M43 3) (M43 4) := oIn_rs (oIn_F pw m8 (fun v a b => by show 0 ≤ rs 8 (M43 4) v; rw [rs_in a b]; exact hO43 v a b))
      rw [sc36] at sc43
      refine ⟨rfl, cI_mk hC (fun a ha => frR a (by unfold kPub at ha; unfold kOc; omega)) (pI_fr hC.1 (frR 5 (by decide)).1 (frR 6 (by decide)).1 (frR 10 (by decide)).1 (frR 11 (by decide)).1) hO43, Or.inr (Or.inr ⟨by omega, by omega, by omega, ⟨?_, congrArg (fun s : oS => s.2.1) sc43, congrArg (fun s : oS => s.2.2.1) sc43⟩, hin⟩)⟩
      rw [h43]
      exact congrArg (fun s : oS => s.2.2.2) sc36
    · refine Z_bipush (n := 18) dX3_order_16 rfl (by decide) (by decide) ?_
      refine Z_iret dX3_order_18 rfl ?_
      exact ⟨rfl, hC, Or.inr (Or.inl ⟨by omega, by omega, by omega, rfl, rfl⟩)⟩
  · refine Z_iconst (n := 8) dX3_order_7 rfl (by decide) ?_
    refine Z_iret dX3_order_8 rfl ?_
    exact ⟨rfl, hC, Or.inl ⟨by omega, rfl, rfl⟩⟩
end
section
/-! ===== the reference: order, move ===== -/
/-- what go leaves -/
def goS (kd : Int → Int) (od : Int → Int → Int) (M : zM) (g : Int) (M' : zM) : Prop := (¬ M 40 g = 0 ∧ M' = M) ∨ (M 40 g = 0 ∧ M' 31 12 = M 31 12 + 1 ∧ M' 41 = updI (M 41) (M 31 12) g ∧ M' 42 = updI (M 42) (M 31 12) 0 ∧ sr M' = ent kd od g (sr M))
theorem goS_1 {kd : Int → Int} {od : Int → Int → Int} {M M' : zM} {g v : Int} (hg : M 40 g = 0) (g0 : 0 ≤ g) (g1 : g < 40) (e : M' = go1 M g) (hv : od g 0 = v) (hq : kd g = 0 → 0 ≤ v ∧ v < 8 ∧ ¬ M 39 v = -1) : goS kd od M g M' := by
  have e40 : M' 40 = updI (M 40) g 1 := by rw [e, go1_40]
  have e39 : M' 39 = M 39 := by rw [e, go1_o (by decide) (by decide) (by decide) (by decide)]
  have e38 : M' 38 = M 38 := by rw [e, go1_o (by decide) (by decide) (by decide) (by decide)]
  have e13 : M' 31 13 = M 31 13 := by rw [e, go1_31 (by decide)]
  refine Or.inr ⟨hg, by rw [e, go1_12], by rw [e, go1_41], by rw [e, go1_42], ?_⟩
  have t : sr M' = (updI (rs 40 (M 40)) g 1, rs 8 (M 39), rs 8 (M 38), M 31 13) := by
    unfold sr
    rw [e40, e39, e38, e13, rs_up g0 g1]
  rw [t]
  by_cases q : kd g = 0
  · obtain ⟨a, b, c⟩ := hq q
    have w : ent kd od g (sr M) = mt (od g 0) (updI (rs 40 (M 40)) g 1, rs 8 (M 39), rs 8 (M 38), M 31 13) := if_pos q
    rw [w, hv]
    exact (if_neg (fun z => c ((rs_in a b).symm.trans z))).symm
  · exact (if_neg q).symm
theorem goS_2 {kd : Int → Int} {od : Int → Int → Int} {M M' : zM} {g v : Int} (hg : M 40 g = 0) (g0 : 0 ≤ g) (g1 : g < 40) (q : kd g = 0) (hv : od g 0 = v) (v0 : 0 ≤ v) (v1 : v < 8) (c : M 39 v = -1) (f0 : 0 ≤ M 31 13) (f1 : M 31 13 < 8) (e12 : M' 31 12 = go1 M g 31 12) (e40 : M' 40 = go1 M g 40) (e41 : M' 41 = go1 M g 41) (e42 : M' 42 = go1 M g 42) (e39 : M' 39 = updI (M 39) v (M 31 13)) (e38 : M' 38 = updI (M 38) (M 31 13) v) (e13 : M' 31 13 = M 31 13 + 1) : goS kd od M g M' := by
  refine Or.inr ⟨hg, by rw [e12, go1_12], by rw [e41, go1_41], by rw [e42, go1_42], ?_⟩
  have t : sr M' = (updI (rs 40 (M 40)) g 1, updI (rs 8 (M 39)) v (M 31 13), updI (rs 8 (M 38)) (M 31 13) v, M 31 13 + 1) := by
    unfold sr
    rw [e40, go1_40, e39, e38, e13, rs_up g0 g1, rs_up v0 v1, rs_up f0 f1]
  have w : ent kd od g (sr M) = mt (od g 0) (updI (rs 40 (M 40)) g 1, rs 8 (M 39), rs 8 (M 38), M 31 13) := if_pos q
  rw [t, w, hv]
  exact (if_pos ((rs_in v0 v1).trans c)).symm
theorem cm_go {kd : Int → Int} {od : Int → Int → Int} {m : Int} {M M' : zM} {g : Int} (hb : odB kd od m) (g0 : 0 ≤ g) (g1 : g < m) (g2 : g < 40) (hp : 0 ≤ M 31 12) (s : goS kd od M g M') : cmpl kd od (M' 41) (M' 42) (M' 31 12).toNat (sr M') = cmpl kd od (M 41) (M 42) (M 31 12).toNat (vG kd od g (sr M)) := by
  rcases s with ⟨a, e⟩ | ⟨a, e12, e41, e42, es⟩
  · rw [e, vG_seen (fun z => a ((rs_in g0 g2).symm.trans z))]
  · rw [e12, e41, e42, es, show (M 31 12 + 1).toNat = (M 31 12).toNat + 1 by omega]
    have z := cmpl_go (kd := kd) (od := od) (pg := M 41) (pc := M 42) (p := (M 31 12).toNat) (s := sr M) hb g0 g1 ((rs_in g0 g2).trans a)
    rw [Int.toNat_of_nonneg hp] at z
    exact z
theorem cm_pop {kd : Int → Int} {od : Int → Int → Int} {pg pc : Int → Int} {p : Int} {s : oS} (hp : 0 < p) (h : opF (kd (pg (p - 1))) ≤ pc (p - 1)) : cmpl kd od pg pc p.toNat s = cmpl kd od pg pc (p - 1).toNat s := by
  rw [show p.toNat = (p - 1).toNat + 1 by omega]
  exact cmpl_pop (by rw [Int.toNat_of_nonneg (by omega)]; exact h)
theorem cm_ch {kd : Int → Int} {od : Int → Int → Int} {pg pc : Int → Int} {p : Int} {s : oS} (hp : 0 < p) (h : pc (p - 1) < opF (kd (pg (p - 1)))) : cmpl kd od pg pc p.toNat s = cmpl kd od pg (updI pc (p - 1) (pc (p - 1) + 1)) p.toNat (vG kd od (od (pg (p - 1)) (pc (p - 1))) s) := by
  rw [show p.toNat = (p - 1).toNat + 1 by omega]
  have e : (((p - 1).toNat : Nat) : Int) = p - 1 := Int.toNat_of_nonneg (by omega)
  have z := cmpl_ch (kd := kd) (od := od) (pg := pg) (pc := pc) (p := (p - 1).toNat) (s := s) (by rw [e]; exact h)
  rw [e] at z
  exact z
theorem sr_meet {M : zM} {v : Int} (v0 : 0 ≤ v) (v1 : v < 8) (c : M 39 v = -1) (f0 : 0 ≤ M 31 13) (f1 : M 31 13 < 8) : sr (uz (uz (uz M 39 v (M 31 13)) 38 (M 31 13) v) 31 13 (M 31 13 + 1)) = mt v (sr M) := by
  have t : sr (uz (uz (uz M 39 v (M 31 13)) 38 (M 31 13) v) 31 13 (M 31 13 + 1)) = (rs 40 (M 40), updI (rs 8 (M 39)) v (M 31 13), updI (rs 8 (M 38)) (M 31 13) v, M 31 13 + 1) := by
    unfold sr
    rw [uz_s, uz_o (show (40 : Nat) ≠ 31 by decide), uz_o (show (40 : Nat) ≠ 38 by decide), uz_o (show (40 : Nat) ≠ 39 by decide), uz_o (show (39 : Nat) ≠ 31 by decide), uz_o (show (39 : Nat) ≠ 38 by decide), uz_fn, uz_o (show (38 : Nat) ≠ 31 by decide), uz_fn, uz_o (show (38 : Nat) ≠ 39 by decide), rs_up v0 v1, rs_up f0 f1]
  rw [t]
  exact (if_pos ((rs_in v0 v1).trans c)).symm
theorem sr_not {M : zM} {v : Int} (v0 : 0 ≤ v) (v1 : v < 8) (c : ¬ M 39 v = -1) : mt v (sr M) = sr M := if_neg (fun z => c ((rs_in v0 v1).symm.trans z))
set_option maxRecDepth 20000 in
theorem zX4_go_f {G : tl_G} {M : zM} {J : zJ} {net g : Int} (n0 : 0 ≤ net) (n1 : net < 3) (g0 : 0 ≤ g) (g1 : g < 40) (hv : M 34 (40 * net + g) = 0 → 0 ≤ M 35 (3 * (40 * net + g)) ∧ M 35 (3 * (40 * net + g)) < 8) (hp : M 31 12 ≤ hr (M 40) 40) (hf : fO M) : ZN G yX4_go mX4_go 0 kGr [vR 31, vI net, vI g] F1 M J (qV (fun M' J' => J' = J ∧ goQ M g M' ∧ goS (fun k => M 34 (40 * net + k)) (fun k c => M 35 (3 * (40 * net + k) + c)) M g M')) := by
  refine ZN_of (L := [_, _, _, _]) (by decide) rfl rfl (Nat.le_of_ble_eq_true rfl) rfl (fun hav => ?_)
  refine Z_aload_n (n := 1) dX4_go_0 rfl rfl ?_
  refine Z_getA (n := 4) dX4_go_1 rfl ffX4_35 rfl rfl ?_
  refine Z_iload_n (n := 5) dX4_go_4 rfl rfl ?_
  refine Z_zald (n := 6) dX4_go_5 rfl rfl rfl (by first | decide | assumption) (by omega) (by omega) (fun r5 s5 => ?_)
  refine Z_if_ne (n := 9) (t := 122) dX4_go_6 rfl (by decide) (fun c6 => ?_) (fun c6 => ?_)
  · refine Z_vret dX4_go_122 rfl ?_
    first
      | exact ⟨rfl, ⟨fun j _ _ => rfl, hf, Or.inl ⟨c6, rfl, rfl, rfl, rfl⟩⟩, Or.inl ⟨c6, rfl⟩⟩
      | exact ⟨rfl, goQ_1 c6 g0 g1 (fun j _ => by rw [e43]) (fun a _ _ => by rw [e43]) hf43, goS_1 (v := M 35 (3 * (40 * net + g))) c6 g0 g1 e43 (by show M 35 (3 * (40 * net + g) + 0) = _; rw [Int.add_zero]) (fun t => absurd t c59)⟩
      | exact ⟨rfl, goQ_1 c6 g0 g1 (fun j _ => by rw [e43]) (fun a _ _ => by rw [e43]) hf43, goS_1 (v := M 35 (3 * (40 * net + g))) c6 g0 g1 e43 (by show M 35 (3 * (40 * net + g) + 0) = _; rw [Int.add_zero]) (fun t => ⟨hv0.1, hv0.2, by omega⟩)⟩
      | (refine ⟨rfl, goQ_1 c6 g0 g1 (fun j hj => by rw [uz_n hj, uz_oo (by decide), uz_oo (by decide), e43]) (fun a a0 a1 => by rw [uz_o (by omega), uz_o (by omega), uz_o (by omega), e43]) ?_, goS_2 (v := M 35 (3 * (40 * net + g))) c6 g0 g1 c59 (by show M 35 (3 * (40 * net + g) + 0) = _; rw [Int.add_zero]) hv0.1 hv0.2 hm1 (by omega) (by omega) (by rw [uz_n (by decide), uz_oo (by decide), uz_oo (by decide), e43]) (by rw [uz_o (by decide), uz_o (by decide), uz_o (by decide), e43]) (by rw [uz_o (by decide), uz_o (by decide), uz_o (by decide), e43]) (by rw [uz_o (by decide), uz_o (by decide), uz_o (by decide), e43]) (by rw [uz_o (by decide), uz_o (by decide), uz_fn, e39]) (by rw [uz_o (by decide), uz_fn, uz_o (by decide), e43, go1_o (by decide) (by decide) (by decide) (by decide)]) (by rw [uz_s])⟩
         unfold fO
         rw [uz_s, uz_o (by decide), uz_o (by decide), uz_fn, e39, hf0]
         exact (hc_set (n := 8) (v := M 35 (3 * (40 * net + g))) hv0.1 (by omega) hm1 (by rw [updI_s]; omega) (fun k hk => updI_n hk)).symm)
  · have hlt := hr_ltz (f := M 40) (v := g) (n := 40) g0 (by omega) c6
    refine Z_rg 31 12 rfl (fun g12 g12b => ?_)
    refine Z_aload_n (n := 10) dX4_go_9 rfl rfl ?_
    refine Z_getA (n := 13) dX4_go_10 rfl ffX4_35 rfl rfl ?_
    refine Z_iload_n (n := 14) dX4_go_13 rfl rfl ?_
    refine Z_iconst (n := 15) dX4_go_14 rfl (by decide) ?_
    refine Z_zast (n := 16) dX4_go_15 rfl rfl rfl (by first | decide | assumption) (by omega) (by omega) (by first | assumption | omega | decide) (by first | assumption | omega | decide) (by decide) ?_
    refine Z_aload_n (n := 17) dX4_go_16 rfl rfl ?_
    refine Z_getA (n := 20) dX4_go_17 rfl ffX4_38 rfl rfl ?_
    refine Z_aload_n (n := 21) dX4_go_20 rfl rfl ?_
    refine Z_getI (n := 24) (ki := 12) dX4_go_21 rfl ffX4_135 rfl rfl rfl (fun r21 s21 => ?_)
    try simp only [uz_oo (show (31 : Nat) ≠ 40 by decide), uz_oo (show (31 : Nat) ≠ 41 by decide), uz_oo (show (31 : Nat) ≠ 42 by decide)] at r21 s21 ⊢
    refine Z_iload_n (n := 25) dX4_go_24 rfl rfl ?_
    refine Z_iast (n := 26) dX4_go_25 rfl rfl rfl (by first | decide | assumption) (by omega) (by omega) (by first | assumption | omega | decide) (by first | assumption | omega | decide) (by decide) ?_
    refine Z_aload_n (n := 27) dX4_go_26 rfl rfl ?_
    refine Z_getA (n := 30) dX4_go_27 rfl ffX4_41 rfl rfl ?_
    refine Z_aload_n (n := 31) dX4_go_30 rfl rfl ?_
    refine Z_getI (n := 34) (ki := 12) dX4_go_31 rfl ffX4_135 rfl rfl rfl (fun r31 s31 => ?_)
    try simp only [uz_oo (show (31 : Nat) ≠ 40 by decide), uz_oo (show (31 : Nat) ≠ 41 by decide), uz_oo (show (31 : Nat) ≠ 42 by decide)] at r31 s31 ⊢
    refine Z_iconst (n := 35) dX4_go_34 rfl (by decide) ?_
    refine Z_iast (n := 36) dX4_go_35 rfl rfl rfl (by first | decide | assumption) (by omega) (by omega) (by first | assumption | omega | decide) (by first | assumption | omega | decide) (by decide) ?_
    refine Z_aload_n (n := 37) dX4_go_36 rfl rfl ?_
    refine Z_dup (n := 38) dX4_go_37 rfl rfl ?_
    refine Z_getI (n := 41) (ki := 12) dX4_go_38 rfl ffX4_135 rfl rfl rfl (fun r38 s38 => ?_)
    try simp only [uz_oo (show (31 : Nat) ≠ 40 by decide), uz_oo (show (31 : Nat) ≠ 41 by decide), uz_oo (show (31 : Nat) ≠ 42 by decide)] at r38 s38 ⊢
    refine Z_iconst (n := 42) dX4_go_41 rfl (by decide) ?_
    refine Z_iadd (n := 43) dX4_go_42 rfl (by omega) ?_
    refine Z_putI (n := 46) (ki := 12) dX4_go_43 rfl ffX4_135 rfl (by decide) rfl rfl (by first | assumption | omega | decide) (by first | assumption | omega | decide) (by decide) ?_
    refine Z_nm (fun M43 e43 => ?_)
    replace e43 : M43 = go1 M g := e43
    have e34 : M43 34 = M 34 := by rw [e43]; exact go1_o (by decide) (by decide) (by decide) (by decide)
    have e35 : M43 35 = M 35 := by rw [e43]; exact go1_o (by decide) (by decide) (by decide) (by decide)
    have e39 : M43 39 = M 39 := by rw [e43]; exact go1_o (by decide) (by decide) (by decide) (by decide)
    have e13 : M43 31 13 = M 31 13 := by rw [e43]; exact go1_31 (by decide)
    have hf43 : fO M43 := by unfold fO; rw [e13, e39]; exact hf
    refine Z_bipush (n := 48) dX4_go_46 rfl (by decide) (by decide) ?_
    refine Z_iload_n (n := 49) dX4_go_48 rfl rfl ?_
    refine Z_imul (n := 50) dX4_go_49 rfl (by omega) ?_
    refine Z_iload_n (n := 51) dX4_go_50 rfl rfl ?_
    refine Z_iadd (n := 52) dX4_go_51 rfl (by omega) ?_
    refine Z_istore_n (L' := [_, _, _, _]) (n := 53) dX4_go_52 rfl (by decide) rfl rfl ?_
    refine Z_aload_n (n := 54) dX4_go_53 rfl rfl ?_
    refine Z_getA (n := 57) dX4_go_54 rfl ffX4_16 rfl rfl ?_
    refine Z_iload_n (n := 58) dX4_go_57 rfl rfl ?_
    refine Z_iald (n := 59) dX4_go_58 rfl rfl rfl (by first | decide | assumption) (by omega) (by omega) (fun r58 s58 => ?_)
    try simp only [e34] at r58 s58 ⊢
    refine Z_if_ne (n := 62) (t := 122) dX4_go_59 rfl (by decide) (fun c59 => ?_) (fun c59 => ?_)
    · refine Z_vret dX4_go_122 rfl ?_
      first
        | exact ⟨rfl, ⟨fun j _ _ => rfl, hf, Or.inl ⟨c6, rfl, rfl, rfl, rfl⟩⟩, Or.inl ⟨c6, rfl⟩⟩
        | exact ⟨rfl, goQ_1 c6 g0 g1 (fun j _ => by rw [e43]) (fun a _ _ => by rw [e43]) hf43, goS_1 (v := M 35 (3 * (40 * net + g))) c6 g0 g1 e43 (by show M 35 (3 * (40 * net + g) + 0) = _; rw [Int.add_zero]) (fun t => absurd t c59)⟩
        | exact ⟨rfl, goQ_1 c6 g0 g1 (fun j _ => by rw [e43]) (fun a _ _ => by rw [e43]) hf43, goS_1 (v := M 35 (3 * (40 * net + g))) c6 g0 g1 e43 (by show M 35 (3 * (40 * net + g) + 0) = _; rw [Int.add_zero]) (fun t => ⟨hv0.1, hv0.2, by omega⟩)⟩
        | (refine ⟨rfl, goQ_1 c6 g0 g1 (fun j hj => by rw [uz_n hj, uz_oo (by decide), uz_oo (by decide), e43]) (fun a a0 a1 => by rw [uz_o (by omega), uz_o (by omega), uz_o (by omega), e43]) ?_, goS_2 (v := M 35 (3 * (40 * net + g))) c6 g0 g1 c59 (by show M 35 (3 * (40 * net + g) + 0) = _; rw [Int.add_zero]) hv0.1 hv0.2 hm1 (by omega) (by omega) (by rw [uz_n (by decide), uz_oo (by decide), uz_oo (by decide), e43]) (by rw [uz_o (by decide), uz_o (by decide), uz_o (by decide), e43]) (by rw [uz_o (by decide), uz_o (by decide), uz_o (by decide), e43]) (by rw [uz_o (by decide), uz_o (by decide), uz_o (by decide), e43]) (by rw [uz_o (by decide), uz_o (by decide), uz_fn, e39]) (by rw [uz_o (by decide), uz_fn, uz_o (by decide), e43, go1_o (by decide) (by decide) (by decide) (by decide)]) (by rw [uz_s])⟩
           unfold fO
           rw [uz_s, uz_o (by decide), uz_o (by decide), uz_fn, e39, hf0]
           exact (hc_set (n := 8) (v := M 35 (3 * (40 * net + g))) hv0.1 (by omega) hm1 (by rw [updI_s]; omega) (fun k hk => updI_n hk)).symm)
    · have hv0 := hv c59
      refine Z_aload_n (n := 63) dX4_go_62 rfl rfl ?_
      refine Z_getA (n := 66) dX4_go_63 rfl ffX4_32 rfl rfl ?_
      refine Z_aload_n (n := 67) dX4_go_66 rfl rfl ?_
      refine Z_getA (n := 70) dX4_go_67 rfl ffX4_19 rfl rfl ?_
      refine Z_iconst (n := 71) dX4_go_70 rfl (by decide) ?_
      refine Z_iload_n (n := 72) dX4_go_71 rfl rfl ?_
      refine Z_imul (n := 73) dX4_go_72 rfl (by omega) ?_
      refine Z_iald (n := 74) dX4_go_73 rfl rfl rfl (by first | decide | assumption) (by omega) (by omega) (fun r73 s73 => ?_)
      try simp only [e35] at r73 s73 ⊢
      refine Z_iald (n := 75) dX4_go_74 rfl rfl rfl (by first | decide | assumption) (by omega) (by omega) (fun r74 s74 => ?_)
      try simp only [e39] at r74 s74 ⊢
      refine Z_if_ge (n := 78) (t := 122) dX4_go_75 rfl (by decide) (fun c75 => ?_) (fun c75 => ?_)
      · refine Z_vret dX4_go_122 rfl ?_
        first
          | exact ⟨rfl, ⟨fun j _ _ => rfl, hf, Or.inl ⟨c6, rfl, rfl, rfl, rfl⟩⟩, Or.inl ⟨c6, rfl⟩⟩
          | exact ⟨rfl, goQ_1 c6 g0 g1 (fun j _ => by rw [e43]) (fun a _ _ => by rw [e43]) hf43, goS_1 (v := M 35 (3 * (40 * net + g))) c6 g0 g1 e43 (by show M 35 (3 * (40 * net + g) + 0) = _; rw [Int.add_zero]) (fun t => absurd t c59)⟩
          | exact ⟨rfl, goQ_1 c6 g0 g1 (fun j _ => by rw [e43]) (fun a _ _ => by rw [e43]) hf43, goS_1 (v := M 35 (3 * (40 * net + g))) c6 g0 g1 e43 (by show M 35 (3 * (40 * net + g) + 0) = _; rw [Int.add_zero]) (fun t => ⟨hv0.1, hv0.2, by omega⟩)⟩
          | (refine ⟨rfl, goQ_1 c6 g0 g1 (fun j hj => by rw [uz_n hj, uz_oo (by decide), uz_oo (by decide), e43]) (fun a a0 a1 => by rw [uz_o (by omega), uz_o (by omega), uz_o (by omega), e43]) ?_, goS_2 (v := M 35 (3 * (40 * net + g))) c6 g0 g1 c59 (by show M 35 (3 * (40 * net + g) + 0) = _; rw [Int.add_zero]) hv0.1 hv0.2 hm1 (by omega) (by omega) (by rw [uz_n (by decide), uz_oo (by decide), uz_oo (by decide), e43]) (by rw [uz_o (by decide), uz_o (by decide), uz_o (by decide), e43]) (by rw [uz_o (by decide), uz_o (by decide), uz_o (by decide), e43]) (by rw [uz_o (by decide), uz_o (by decide), uz_o (by decide), e43]) (by rw [uz_o (by decide), uz_o (by decide), uz_fn, e39]) (by rw [uz_o (by decide), uz_fn, uz_o (by decide), e43, go1_o (by decide) (by decide) (by decide) (by decide)]) (by rw [uz_s])⟩
             unfold fO
             rw [uz_s, uz_o (by decide), uz_o (by decide), uz_fn, e39, hf0]
             exact (hc_set (n := 8) (v := M 35 (3 * (40 * net + g))) hv0.1 (by omega) hm1 (by rw [updI_s]; omega) (fun k hk => updI_n hk)).symm)
      · refine Z_rg 39 (M 35 (3 * (40 * net + g))) rfl (fun r39 r39b => ?_)
        rw [e39] at r39
        have hm1 : M 39 (M 35 (3 * (40 * net + g))) = -1 := by omega
        have hl8 := hc_lt (f := M 39) (n := 8) hv0.1 (by omega) hm1
        have hf0 : M 31 13 = hc (M 39) 8 := hf
        refine Z_rg 31 13 rfl (fun r13 r13b => ?_)
        rw [e13] at r13
        refine Z_aload_n (n := 79) dX4_go_78 rfl rfl ?_
        refine Z_getA (n := 82) dX4_go_79 rfl ffX4_32 rfl rfl ?_
        refine Z_aload_n (n := 83) dX4_go_82 rfl rfl ?_
        refine Z_getA (n := 86) dX4_go_83 rfl ffX4_19 rfl rfl ?_
        refine Z_iconst (n := 87) dX4_go_86 rfl (by decide) ?_
        refine Z_iload_n (n := 88) dX4_go_87 rfl rfl ?_
        refine Z_imul (n := 89) dX4_go_88 rfl (by omega) ?_
        refine Z_iald (n := 90) dX4_go_89 rfl rfl rfl (by first | decide | assumption) (by omega) (by omega) (fun r89 s89 => ?_)
        try simp only [e35] at r89 s89 ⊢
        refine Z_aload_n (n := 91) dX4_go_90 rfl rfl ?_
        refine Z_getI (n := 94) (ki := 13) dX4_go_91 rfl ffX4_138 rfl rfl rfl (fun r91 s91 => ?_)
        try simp only [uz_oo (show (31 : Nat) ≠ 39 by decide), e13] at r91 s91 ⊢
        refine Z_iast (n := 95) dX4_go_94 rfl rfl rfl (by first | decide | assumption) (by omega) (by omega) (by first | assumption | omega | decide) (by first | assumption | omega | decide) (by decide) ?_
        refine Z_aload_n (n := 96) dX4_go_95 rfl rfl ?_
        refine Z_getA (n := 99) dX4_go_96 rfl ffX4_29 rfl rfl ?_
        refine Z_aload_n (n := 100) dX4_go_99 rfl rfl ?_
        refine Z_getI (n := 103) (ki := 13) dX4_go_100 rfl ffX4_138 rfl rfl rfl (fun r100 s100 => ?_)
        try simp only [uz_oo (show (31 : Nat) ≠ 39 by decide), e13] at r100 s100 ⊢
        refine Z_aload_n (n := 104) dX4_go_103 rfl rfl ?_
        refine Z_getA (n := 107) dX4_go_104 rfl ffX4_19 rfl rfl ?_
        refine Z_iconst (n := 108) dX4_go_107 rfl (by decide) ?_
        refine Z_iload_n (n := 109) dX4_go_108 rfl rfl ?_
        refine Z_imul (n := 110) dX4_go_109 rfl (by omega) ?_
        refine Z_iald (n := 111) dX4_go_110 rfl rfl rfl (by first | decide | assumption) (by omega) (by omega) (fun r110 s110 => ?_)
        try simp only [uz_oo (show (35 : Nat) ≠ 39 by decide), e35] at r110 s110 ⊢
        refine Z_iast (n := 112) dX4_go_111 rfl rfl rfl (by first | decide | assumption) (by omega) (by omega) (by first | assumption | omega | decide) (by first | assumption | omega | decide) (by decide) ?_
        refine Z_aload_n (n := 113) dX4_go_112 rfl rfl ?_
        refine Z_dup (n := 114) dX4_go_113 rfl rfl ?_
        refine Z_getI (n := 117) (ki := 13) dX4_go_114 rfl ffX4_138 rfl rfl rfl (fun r114 s114 => ?_)
        try simp only [uz_oo (show (31 : Nat) ≠ 38 by decide), uz_oo (show (31 : Nat) ≠ 39 by decide), e13] at r114 s114 ⊢
        refine Z_iconst (n := 118) dX4_go_117 rfl (by decide) ?_
        refine Z_iadd (n := 119) dX4_go_118 rfl (by omega) ?_
        refine Z_putI (n := 122) (ki := 13) dX4_go_119 rfl ffX4_138 rfl (by decide) rfl rfl (by first | assumption | omega | decide) (by first | assumption | omega | decide) (by decide) ?_
        refine Z_vret dX4_go_122 rfl ?_
        first
          | exact ⟨rfl, ⟨fun j _ _ => rfl, hf, Or.inl ⟨c6, rfl, rfl, rfl, rfl⟩⟩, Or.inl ⟨c6, rfl⟩⟩
          | exact ⟨rfl, goQ_1 c6 g0 g1 (fun j _ => by rw [e43]) (fun a _ _ => by rw [e43]) hf43, goS_1 (v := M 35 (3 * (40 * net + g))) c6 g0 g1 e43 (by show M 35 (3 * (40 * net + g) + 0) = _; rw [Int.add_zero]) (fun t => absurd t c59)⟩
          | exact ⟨rfl, goQ_1 c6 g0 g1 (fun j _ => by rw [e43]) (fun a _ _ => by rw [e43]) hf43, goS_1 (v := M 35 (3 * (40 * net + g))) c6 g0 g1 e43 (by show M 35 (3 * (40 * net + g) + 0) = _; rw [Int.add_zero]) (fun t => ⟨hv0.1, hv0.2, by omega⟩)⟩
          | (refine ⟨rfl, goQ_1 c6 g0 g1 (fun j hj => by rw [uz_n hj, uz_oo (by decide), uz_oo (by decide), e43]) (fun a a0 a1 => by rw [uz_o (by omega), uz_o (by omega), uz_o (by omega), e43]) ?_, goS_2 (v := M 35 (3 * (40 * net + g))) c6 g0 g1 c59 (by show M 35 (3 * (40 * net + g) + 0) = _; rw [Int.add_zero]) hv0.1 hv0.2 hm1 (by omega) (by omega) (by rw [uz_n (by decide), uz_oo (by decide), uz_oo (by decide), e43]) (by rw [uz_o (by decide), uz_o (by decide), uz_o (by decide), e43]) (by rw [uz_o (by decide), uz_o (by decide), uz_o (by decide), e43]) (by rw [uz_o (by decide), uz_o (by decide), uz_o (by decide), e43]) (by rw [uz_o (by decide), uz_o (by decide), uz_fn, e39]) (by rw [uz_o (by decide), uz_fn, uz_o (by decide), e43, go1_o (by decide) (by decide) (by decide) (by decide)]) (by rw [uz_s])⟩
             unfold fO
             rw [uz_s, uz_o (by decide), uz_o (by decide), uz_fn, e39, hf0]
             exact (hc_set (n := 8) (v := M 35 (3 * (40 * net + g))) hv0.1 (by omega) hm1 (by rw [updI_s]; omega) (fun k hk => updI_n hk)).symm)
set_option maxRecDepth 20000 in
theorem zX4_order_g {G : tl_G} {M : zM} {J : zJ} {net : Int} (hN : ∀ net : Int, 0 ≤ net → net < 3 → rNt M net) (hO : rOrd M) : ZN G yX4_order mX4_order 3 kOr [vR 31, vI net] F1 M J (qI (fun x M' J' => J' = J ∧ f31 M M' ∧ rOrd M' ∧ (((net < 0 ∨ 3 ≤ net) ∧ x = -1 ∧ M' = M) ∨ (0 ≤ net ∧ net < 3 ∧ exHr M ∧ x = -3 ∧ M' = M) ∨ (0 ≤ net ∧ net < 3 ∧ noHr M ∧ orQ (vr (vG (fun k => M 34 (40 * net + k)) (fun k c => M 35 (3 * (40 * net + k) + c))) (fun c => M 36 (4 * net + c)) (M 33 net).toNat 0 (o0 (M 38))) x (M' 38) (M' 39))))) := by
  refine ZN_of (L := [_, _, _, _, _]) (by decide) rfl rfl (Nat.le_of_ble_eq_true rfl) rfl (fun hav => ?_)
  refine Z_iload_n (n := 1) dX4_order_0 rfl rfl ?_
  refine Z_callSi (n := 4) [_] _ dX4_order_1 rfl cwX4_116 rfl rfl (Nat.le_of_ble_eq_true rfl) (by refine ⟨?_, ?_, ?_, ?_⟩ <;> exact Nat.le_of_ble_eq_true rfl) (fun _ _ => trivial) (zX4_isNet  ) ?_
  intro x1 M1 J1 z1 f1 q1
  obtain ⟨e1_1, e1_2, h1⟩ := q1
  replace e1_1 := e1_1.symm; subst e1_1
  replace e1_2 := e1_2.symm; subst e1_2
  refine Z_if_ne (n := 7) (t := 9) dX4_order_4 rfl (by decide) (fun c4 => ?_) (fun c4 => ?_)
  · refine Z_aload_n (n := 10) dX4_order_9 rfl rfl ?_
    refine Z_callVi (n := 13) [] _ dX4_order_10 rfl cwX4_141 rfl rfl rfl (Nat.le_of_ble_eq_true rfl) (by refine ⟨?_, ?_, ?_, ?_⟩ <;> exact Nat.le_of_ble_eq_true rfl) (fun _ _ => trivial) (zX4_isEmpty  ) ?_
    intro x10 M10 J10 z10 f10 q10
    obtain ⟨e10_1, e10_2, h10⟩ := q10
    replace e10_1 := e10_1.symm; subst e10_1
    replace e10_2 := e10_2.symm; subst e10_2
    refine Z_if_ne (n := 16) (t := 19) dX4_order_13 rfl (by decide) (fun c13 => ?_) (fun c13 => ?_)
    · refine Z_rg 33 net rfl (fun g33 g33b => ?_)
      refine Z_rg 32 net rfl (fun g32 g32b => ?_)
      have hNn := hN net (by omega) (by omega)
      have hOB : odB (fun k => M 34 (40 * net + k)) (fun k c => M 35 (3 * (40 * net + k) + c)) (M 32 net) := fun g a b c c0 c1 => (hNn.1 g a b).1 c c0 c1
      refine Z_aload_n (n := 20) dX4_order_19 rfl rfl ?_
      refine Z_iconst (n := 21) dX4_order_20 rfl (by decide) ?_
      refine Z_putI (n := 24) (ki := 13) dX4_order_21 rfl ffX4_138 rfl (by decide) rfl rfl (by first | assumption | omega | decide) (by first | assumption | omega | decide) (by decide) ?_
      refine Z_aload_n (n := 25) dX4_order_24 rfl rfl ?_
      refine Z_iconst (n := 26) dX4_order_25 rfl (by decide) ?_
      refine Z_putI (n := 29) (ki := 12) dX4_order_26 rfl ffX4_135 rfl (by decide) rfl rfl (by first | assumption | omega | decide) (by first | assumption | omega | decide) (by decide) ?_
      refine Z_iconst (n := 30) dX4_order_29 rfl (by decide) ?_
      refine Z_istore_n (L' := [_, _, _, _, _]) (n := 31) dX4_order_30 rfl (by decide) rfl rfl ?_
      have lp31 : ∀ (N31 : Nat) (k : Int) (M31 : zM) (J31 : zJ), ((40 - k).toNat) < N31 → (J31 = J) → (0 ≤ k) → (k ≤ 40) → (f31 M M31) → (M31 31 13 = 0) → (M31 31 12 = 0) → (∀ x : Int, 0 ≤ x → x < k → M31 40 x = 0) → (M31 38 = M 38) → TZ G mX4_order (tl_rm 3 0 0) 0 0 kOr M J 31 [some (vR 31), some (vI net), some (vI k), none, none] [] F1 M31 J31 (ZM G (zPost G kOr F1 M J (qI (fun x M' J' => J' = J ∧ f31 M M' ∧ rOrd M' ∧ (((net < 0 ∨ 3 ≤ net) ∧ x = -1 ∧ M' = M) ∨ (0 ≤ net ∧ net < 3 ∧ exHr M ∧ x = -3 ∧ M' = M) ∨ (0 ≤ net ∧ net < 3 ∧ noHr M ∧ orQ (vr (vG (fun k => M 34 (40 * net + k)) (fun k c => M 35 (3 * (40 * net + k) + c))) (fun c => M 36 (4 * net + c)) (M 33 net).toNat 0 (o0 (M 38))) x (M' 38) (M' 39)))))) 0 0) := by
        intro N31
        induction N31 with
        | zero => intro k M31 J31 hN; omega
        | succ N31 ih31 =>
          intro k M31 J31 hN31 i31_0 i31_1 i31_2 i31_3 i31_4 i31_5 i31_6 i31_7
          refine Z_iload_n (n := 32) dX4_order_31 rfl rfl ?_
          refine Z_bipush (n := 34) dX4_order_32 rfl (by decide) (by decide) ?_
          refine Z_icmp_ge (n := 37) (t := 50) dX4_order_34 rfl (by decide) (fun c34 => ?_) (fun c34 => ?_)
          · refine Z_iconst (n := 51) dX4_order_50 rfl (by decide) ?_
            refine Z_istore_n (L' := [_, _, _, _, _]) (n := 52) dX4_order_51 rfl (by decide) rfl rfl ?_
            have lp52 : ∀ (N52 : Nat) (k : Int) (M52 : zM) (J52 : zJ), ((8 - k).toNat) < N52 → (J52 = J) → (0 ≤ k) → (k ≤ 8) → (f31 M M52) → (M52 31 13 = 0) → (M52 31 12 = 0) → (∀ x : Int, 0 ≤ x → x < 40 → M52 40 x = 0) → (∀ v : Int, 0 ≤ v → v < k → M52 39 v = -1) → (M52 38 = M 38) → TZ G mX4_order (tl_rm 3 0 0) 0 0 kOr M J 52 [some (vR 31), some (vI net), some (vI k), none, none] [] F1 M52 J52 (ZM G (zPost G kOr F1 M J (qI (fun x M' J' => J' = J ∧ f31 M M' ∧ rOrd M' ∧ (((net < 0 ∨ 3 ≤ net) ∧ x = -1 ∧ M' = M) ∨ (0 ≤ net ∧ net < 3 ∧ exHr M ∧ x = -3 ∧ M' = M) ∨ (0 ≤ net ∧ net < 3 ∧ noHr M ∧ orQ (vr (vG (fun k => M 34 (40 * net + k)) (fun k c => M 35 (3 * (40 * net + k) + c))) (fun c => M 36 (4 * net + c)) (M 33 net).toNat 0 (o0 (M 38))) x (M' 38) (M' 39)))))) 0 0) := by
              intro N52
              induction N52 with
              | zero => intro k M52 J52 hN; omega
              | succ N52 ih52 =>
                intro k M52 J52 hN52 i52_0 i52_1 i52_2 i52_3 i52_4 i52_5 i52_6 i52_7 i52_8
                refine Z_iload_n (n := 53) dX4_order_52 rfl rfl ?_
                refine Z_bipush (n := 55) dX4_order_53 rfl (by decide) (by decide) ?_
                refine Z_icmp_ge (n := 58) (t := 71) dX4_order_55 rfl (by decide) (fun c55 => ?_) (fun c55 => ?_)
                · have st73 : plO M M52 net := by
                    refine ⟨?_, ?_, fun j a b => by omega⟩
                    · unfold fO
                      rw [i52_4, hc_zero (fun v a b => i52_7 v a (by omega))]
                    · rw [i52_5, hr_zero (fun x a b => i52_6 x a (by omega))]
                      decide
                  have sr73 : sr M52 = o0 (M 38) := by
                    unfold sr o0
                    rw [i52_8, i52_4, rs_cg (f' := M52 40) (f := fun _ => 0) (n := 40) (fun j a b => i52_6 j a b), rs_cg (f' := M52 39) (f := fun _ => -1) (n := 8) (fun j a b => i52_7 j a (by omega))]
                  refine Z_iconst (n := 72) dX4_order_71 rfl (by decide) ?_
                  refine Z_istore_n (L' := [_, _, _, _, _]) (n := 73) dX4_order_72 rfl (by decide) rfl rfl ?_
                  have lp73 : ∀ (N73 : Nat) (o : Int) (M73 : zM) (J73 : zJ), ((4 - o).toNat) < N73 → (J73 = J) → (0 ≤ o) → (o ≤ 4) → (f31 M M73) → (plO M M73 net) → (M73 31 12 = 0) → (sr M73 = (vr (vG (fun k => M 34 (40 * net + k)) (fun k c => M 35 (3 * (40 * net + k) + c))) (fun c => M 36 (4 * net + c)) o.toNat 0 (o0 (M 38)))) → (o ≤ M 33 net) → TZ G mX4_order (tl_rm 3 0 0) 0 0 kOr M J 73 [some (vR 31), some (vI net), some (vI o), none, none] [] F1 M73 J73 (ZM G (zPost G kOr F1 M J (qI (fun x M' J' => J' = J ∧ f31 M M' ∧ rOrd M' ∧ (((net < 0 ∨ 3 ≤ net) ∧ x = -1 ∧ M' = M) ∨ (0 ≤ net ∧ net < 3 ∧ exHr M ∧ x = -3 ∧ M' = M) ∨ (0 ≤ net ∧ net < 3 ∧ noHr M ∧ orQ (vr (vG (fun k => M 34 (40 * net + k)) (fun k c => M 35 (3 * (40 * net + k) + c))) (fun c => M 36 (4 * net + c)) (M 33 net).toNat 0 (o0 (M 38))) x (M' 38) (M' 39)))))) 0 0) := by
                    intro N73
                    induction N73 with
                    | zero => intro o M73 J73 hN; omega
                    | succ N73 ih73 =>
                      intro o M73 J73 hN73 i73_0 i73_1 i73_2 i73_3 i73_4 i73_5 i73_6 i73_7
                      refine Z_iload_n (n := 74) dX4_order_73 rfl rfl ?_
                      refine Z_aload_n (n := 75) dX4_order_74 rfl rfl ?_
                      refine Z_getA (n := 78) dX4_order_75 rfl ffX4_13 rfl rfl ?_
                      refine Z_iload_n (n := 79) dX4_order_78 rfl rfl ?_
                      refine Z_iald (n := 80) dX4_order_79 rfl rfl rfl (by first | decide | assumption) (by omega) (by omega) (fun r79 s79 => ?_)
                      refine Z_icmp_ge (n := 83) (t := 202) dX4_order_80 rfl (by decide) (fun c80 => ?_) (fun c80 => ?_)
                      · refine Z_fr (fun fr73 => ?_)
                        have e33 : M73 33 net = M 33 net := congrFun (fr73 33 (by decide)).1 net
                        have srE : sr M73 = (vr (vG (fun k => M 34 (40 * net + k)) (fun k c => M 35 (3 * (40 * net + k) + c))) (fun c => M 36 (4 * net + c)) (M 33 net).toNat 0 (o0 (M 38))) := by
                          rw [show M 33 net = o by omega]
                          exact i73_6
                        refine Z_aload_n (n := 203) dX4_order_202 rfl rfl ?_
                        refine Z_getI (n := 206) (ki := 13) dX4_order_203 rfl ffX4_138 rfl rfl rfl (fun r203 s203 => ?_)
                        refine Z_istore_n (L' := [_, _, _, _, _]) (n := 207) dX4_order_206 rfl (by decide) rfl rfl ?_
                        refine Z_iconst (n := 208) dX4_order_207 rfl (by decide) ?_
                        refine Z_istore_n (L' := [_, _, _, _, _]) (n := 209) dX4_order_208 rfl (by decide) rfl rfl ?_
                        have lp209 : ∀ (N209 : Nat) (me v : Int) (M209 : zM) (J209 : zJ), ((8 - v).toNat) < N209 → (J209 = J) → (0 ≤ v) → (v ≤ 8) → (f31 M M209) → (fO M209) → (∀ w : Int, 0 ≤ w → w < v → 0 ≤ M209 39 w) → (sr M209 = vr mt (fun c => c) v.toNat 0 (vr (vG (fun k => M 34 (40 * net + k)) (fun k c => M 35 (3 * (40 * net + k) + c))) (fun c => M 36 (4 * net + c)) (M 33 net).toNat 0 (o0 (M 38)))) → (me = (vr (vG (fun k => M 34 (40 * net + k)) (fun k c => M 35 (3 * (40 * net + k) + c))) (fun c => M 36 (4 * net + c)) (M 33 net).toNat 0 (o0 (M 38))).2.2.2) → TZ G mX4_order (tl_rm 3 0 0) 0 0 kOr M J 209 [some (vR 31), some (vI net), some (vI me), some (vI v), none] [] F1 M209 J209 (ZM G (zPost G kOr F1 M J (qI (fun x M' J' => J' = J ∧ f31 M M' ∧ rOrd M' ∧ (((net < 0 ∨ 3 ≤ net) ∧ x = -1 ∧ M' = M) ∨ (0 ≤ net ∧ net < 3 ∧ exHr M ∧ x = -3 ∧ M' = M) ∨ (0 ≤ net ∧ net < 3 ∧ noHr M ∧ orQ (vr (vG (fun k => M 34 (40 * net + k)) (fun k c => M 35 (3 * (40 * net + k) + c))) (fun c => M 36 (4 * net + c)) (M 33 net).toNat 0 (o0 (M 38))) x (M' 38) (M' 39)))))) 0 0) := by
                          intro N209
                          induction N209 with
                          | zero => intro me v M209 J209 hN; omega
                          | succ N209 ih209 =>
                            intro me v M209 J209 hN209 i209_0 i209_1 i209_2 i209_3 i209_4 i209_5 i209_6 i209_7
                            refine Z_iload_n (n := 210) dX4_order_209 rfl rfl ?_
                            refine Z_bipush (n := 212) dX4_order_210 rfl (by decide) (by decide) ?_
                            refine Z_icmp_ge (n := 215) (t := 260) dX4_order_212 rfl (by decide) (fun c212 => ?_) (fun c212 => ?_)
                            · refine Z_iload_n (n := 261) dX4_order_260 rfl rfl ?_
                              refine Z_iret dX4_order_261 rfl ?_
                              have z := i209_6
                              rw [show v = 8 by omega] at z
                              have hn : noHr M := by
                                rcases h10 with ⟨-, q⟩ | ⟨q, -⟩
                                · exact q
                                · omega
                              exact ⟨i209_0, i209_3, fun w a b => i209_5 w a (by omega), Or.inr (Or.inr ⟨by omega, by omega, hn, i209_7, congrArg (fun s : oS => s.2.1) z, congrArg (fun s : oS => s.2.2.1) z⟩)⟩
                            · refine Z_aload_n (n := 216) dX4_order_215 rfl rfl ?_
                              refine Z_getA (n := 219) dX4_order_216 rfl ffX4_32 rfl rfl ?_
                              refine Z_iload_n (n := 220) dX4_order_219 rfl rfl ?_
                              refine Z_iald (n := 221) dX4_order_220 rfl rfl rfl (by first | decide | assumption) (by omega) (by omega) (fun r220 s220 => ?_)
                              refine Z_if_ge (n := 224) (t := 254) dX4_order_221 rfl (by decide) (fun c221 => ?_) (fun c221 => ?_)
                              · have r3 := i209_3
                                have r4 := i209_4
                                have r5 : ∀ w : Int, 0 ≤ w → w < v + 1 → 0 ≤ M209 39 w := fun w a b => by
                                  by_cases e : w = v
                                  · rw [e]; omega
                                  · exact i209_5 w a (by omega)
                                have r6 : sr M209 = vr mt (fun c => c) (v + 1).toNat 0 (vr (vG (fun k => M 34 (40 * net + k)) (fun k c => M 35 (3 * (40 * net + k) + c))) (fun c => M 36 (4 * net + c)) (M 33 net).toNat 0 (o0 (M 38))) := by
                                  rw [show (v + 1).toNat = v.toNat + 1 by omega, vr_sn, show (0 : Int) + (v.toNat : Int) = v by omega, ← i209_6]
                                  exact (sr_not (by omega) (by omega) (by omega)).symm
                                refine Z_iinc (L' := [_, _, _, _, _]) (n := 257) dX4_order_254 rfl rfl (by decide) rfl rfl (by omega) rfl ?_
                                refine Z_goto (t := 209) dX4_order_257 (by decide) ?_
                                refine Z_loc (L' := [some _, some _, some _, some _, none]) (lsub_same (lsub_same (lsub_same (lsub_same (lsub_none lsub_nil))))) ?_
                                exact ih209 _ _ _ _ (by omega) (by assumption) (by first | assumption | omega | decide) (by first | assumption | omega | decide) (by exact r3) (by exact r4) (by exact r5) (by exact r6) (by assumption)
                              · refine Z_rg 39 v rfl (fun g39 g39b => ?_)
                                have hm1 : M209 39 v = -1 := by omega
                                have hl8 := hc_lt (f := M209 39) (n := 8) (v := v) (by omega) (by omega) hm1
                                have hf0 : M209 31 13 = hc (M209 39) 8 := i209_4
                                refine Z_rg 31 13 rfl (fun r13 r13b => ?_)
                                refine Z_aload_n (n := 225) dX4_order_224 rfl rfl ?_
                                refine Z_getA (n := 228) dX4_order_225 rfl ffX4_32 rfl rfl ?_
                                refine Z_iload_n (n := 229) dX4_order_228 rfl rfl ?_
                                refine Z_aload_n (n := 230) dX4_order_229 rfl rfl ?_
                                refine Z_getI (n := 233) (ki := 13) dX4_order_230 rfl ffX4_138 rfl rfl rfl (fun r230 s230 => ?_)
                                refine Z_iast (n := 234) dX4_order_233 rfl rfl rfl (by first | decide | assumption) (by omega) (by omega) (by first | assumption | omega | decide) (by first | assumption | omega | decide) (by decide) ?_
                                refine Z_aload_n (n := 235) dX4_order_234 rfl rfl ?_
                                refine Z_getA (n := 238) dX4_order_235 rfl ffX4_29 rfl rfl ?_
                                refine Z_aload_n (n := 239) dX4_order_238 rfl rfl ?_
                                refine Z_getI (n := 242) (ki := 13) dX4_order_239 rfl ffX4_138 rfl rfl rfl (fun r239 s239 => ?_)
                                try simp only [uz_oo (show (31 : Nat) ≠ 39 by decide)] at r239 s239 ⊢
                                refine Z_iload_n (n := 243) dX4_order_242 rfl rfl ?_
                                refine Z_iast (n := 244) dX4_order_243 rfl rfl rfl (by first | decide | assumption) (by omega) (by omega) (by first | assumption | omega | decide) (by first | assumption | omega | decide) (by decide) ?_
                                refine Z_aload_n (n := 245) dX4_order_244 rfl rfl ?_
                                refine Z_dup (n := 246) dX4_order_245 rfl rfl ?_
                                refine Z_getI (n := 249) (ki := 13) dX4_order_246 rfl ffX4_138 rfl rfl rfl (fun r246 s246 => ?_)
                                try simp only [uz_oo (show (31 : Nat) ≠ 38 by decide), uz_oo (show (31 : Nat) ≠ 39 by decide)] at r246 s246 ⊢
                                refine Z_iconst (n := 250) dX4_order_249 rfl (by decide) ?_
                                refine Z_iadd (n := 251) dX4_order_250 rfl (by omega) ?_
                                refine Z_putI (n := 254) (ki := 13) dX4_order_251 rfl ffX4_138 rfl (by decide) rfl rfl (by first | assumption | omega | decide) (by first | assumption | omega | decide) (by decide) ?_
                                have r3 : f31 M (uz (uz (uz M209 39 v (M209 31 13)) 38 (M209 31 13) v) 31 13 (M209 31 13 + 1)) := fun j a b => by rw [uz_n b, uz_oo (by decide), uz_oo (by decide)]; exact i209_3 j a b
                                have r4 : fO (uz (uz (uz M209 39 v (M209 31 13)) 38 (M209 31 13) v) 31 13 (M209 31 13 + 1)) := by
                                  unfold fO
                                  rw [uz_s, uz_o (by decide), uz_o (by decide), uz_fn, hf0]
                                  exact (hc_set (n := 8) (v := v) (by omega) (by omega) hm1 (by rw [updI_s]; omega) (fun k hk => updI_n hk)).symm
                                have r5 : ∀ w : Int, 0 ≤ w → w < v + 1 → 0 ≤ uz (uz (uz M209 39 v (M209 31 13)) 38 (M209 31 13) v) 31 13 (M209 31 13 + 1) 39 w := fun w a b => by
                                  rw [uz_oo (by decide), uz_oo (by decide), uz_a]
                                  split
                                  · exact r13
                                  · exact i209_5 w a (by omega)
                                have r6 : sr (uz (uz (uz M209 39 v (M209 31 13)) 38 (M209 31 13) v) 31 13 (M209 31 13 + 1)) = vr mt (fun c => c) (v + 1).toNat 0 (vr (vG (fun k => M 34 (40 * net + k)) (fun k c => M 35 (3 * (40 * net + k) + c))) (fun c => M 36 (4 * net + c)) (M 33 net).toNat 0 (o0 (M 38))) := by
                                  rw [sr_meet (by omega) (by omega) hm1 (by omega) (by omega), i209_6, show (v + 1).toNat = v.toNat + 1 by omega, vr_sn, show (0 : Int) + (v.toNat : Int) = v by omega]
                                refine Z_iinc (L' := [_, _, _, _, _]) (n := 257) dX4_order_254 rfl rfl (by decide) rfl rfl (by omega) rfl ?_
                                refine Z_goto (t := 209) dX4_order_257 (by decide) ?_
                                refine Z_loc (L' := [some _, some _, some _, some _, none]) (lsub_same (lsub_same (lsub_same (lsub_same (lsub_none lsub_nil))))) ?_
                                exact ih209 _ _ _ _ (by omega) (by assumption) (by first | assumption | omega | decide) (by first | assumption | omega | decide) (by exact r3) (by exact r4) (by exact r5) (by exact r6) (by assumption)
                        refine Z_loc (L' := [some _, some _, some _, some _, none]) (lsub_same (lsub_same (lsub_same (lsub_same (lsub_none lsub_nil))))) ?_
                        exact lp209 _ _ _ _ _ (Nat.lt_succ_self _) (by assumption) (by first | assumption | omega | decide) (by first | assumption | omega | decide) (by exact i73_3) (by exact i73_4.1) (by exact fun w a b => by omega) (by exact srE) (by exact congrArg (fun s : oS => s.2.2.2) srE)
                      · refine Z_fr (fun fr73 => ?_)
                        have e33 : M73 33 net = M 33 net := congrFun (fr73 33 (by decide)).1 net
                        have ho1 := hNn.2 o (by omega) (by omega)
                        have e36 : M73 36 (4 * net + o) = M 36 (4 * net + o) := congrFun (fr73 36 (by decide)).1 _
                        refine Z_rg 36 (4 * net + o) rfl (fun g36 g36b => ?_)
                        have hgv : M73 34 (40 * net + M73 36 (4 * net + o)) = 0 → 0 ≤ M73 35 (3 * (40 * net + M73 36 (4 * net + o))) ∧ M73 35 (3 * (40 * net + M73 36 (4 * net + o))) < 8 := by
                          rw [(fr73 34 (by decide)).1, (fr73 35 (by decide)).1, e36]
                          exact (hNn.1 _ (by omega) (by omega)).2
                        refine Z_aload_n (n := 84) dX4_order_83 rfl rfl ?_
                        refine Z_iload_n (n := 85) dX4_order_84 rfl rfl ?_
                        refine Z_aload_n (n := 86) dX4_order_85 rfl rfl ?_
                        refine Z_getA (n := 89) dX4_order_86 rfl ffX4_22 rfl rfl ?_
                        refine Z_iconst (n := 90) dX4_order_89 rfl (by decide) ?_
                        refine Z_iload_n (n := 91) dX4_order_90 rfl rfl ?_
                        refine Z_imul (n := 92) dX4_order_91 rfl (by omega) ?_
                        refine Z_iload_n (n := 93) dX4_order_92 rfl rfl ?_
                        refine Z_iadd (n := 94) dX4_order_93 rfl (by omega) ?_
                        refine Z_iald (n := 95) dX4_order_94 rfl rfl rfl (by first | decide | assumption) (by omega) (by omega) (fun r94 s94 => ?_)
                        refine Z_callVv (n := 98) [_, _] _ dX4_order_95 rfl cwX4_145 rfl rfl rfl (Nat.le_of_ble_eq_true rfl) (by refine ⟨?_, ?_, ?_, ?_⟩ <;> exact Nat.le_of_ble_eq_true rfl) (fun a h => by unfold kOr at h; unfold kGr; omega) (zX4_go_f  (by omega) (by omega) (by omega) (by omega) (by exact hgv) (by exact i73_4.2.1) (by exact i73_4.1)) ?_
                        intro M95 J95 f95 q95
                        obtain ⟨e95_1, gq95, gs95⟩ := q95
                        replace e95_1 := e95_1.symm; subst e95_1
                        have q1 : f31 M M95 := fun j a b => (gq95.1 j a b).trans (i73_3 j a b)
                        have q2 : plO M M95 net := (plO_go i73_4 gq95 (by omega) (by omega)).1
                        have q3 : cmpl (fun k => M 34 (40 * net + k)) (fun k c => M 35 (3 * (40 * net + k) + c)) (M95 41) (M95 42) (M95 31 12).toNat (sr M95) = (vr (vG (fun k => M 34 (40 * net + k)) (fun k c => M 35 (3 * (40 * net + k) + c))) (fun c => M 36 (4 * net + c)) (o + 1).toNat 0 (o0 (M 38))) := by
                          have z := gs95
                          rw [(fr73 34 (by decide)).1, (fr73 35 (by decide)).1, e36] at z
                          rw [cm_go hOB (by omega) (by omega) (by omega) (by omega) z, i73_5, i73_6, show (o + 1).toNat = o.toNat + 1 by omega, vr_sn, show (0 : Int) + (o.toNat : Int) = o by omega]
                          rfl
                        have lp98 : ∀ (N98 : Nat)  (M98 : zM) (J98 : zJ), ((muO M98).toNat) < N98 → (J98 = J) → (f31 M M98) → (plO M M98 net) → (cmpl (fun k => M 34 (40 * net + k)) (fun k c => M 35 (3 * (40 * net + k) + c)) (M98 41) (M98 42) (M98 31 12).toNat (sr M98) = (vr (vG (fun k => M 34 (40 * net + k)) (fun k c => M 35 (3 * (40 * net + k) + c))) (fun c => M 36 (4 * net + c)) (o + 1).toNat 0 (o0 (M 38)))) → TZ G mX4_order (tl_rm 3 0 0) 0 0 kOr M J 98 [some (vR 31), some (vI net), some (vI o), none, none] [] F1 M98 J98 (ZM G (zPost G kOr F1 M J (qI (fun x M' J' => J' = J ∧ f31 M M' ∧ rOrd M' ∧ (((net < 0 ∨ 3 ≤ net) ∧ x = -1 ∧ M' = M) ∨ (0 ≤ net ∧ net < 3 ∧ exHr M ∧ x = -3 ∧ M' = M) ∨ (0 ≤ net ∧ net < 3 ∧ noHr M ∧ orQ (vr (vG (fun k => M 34 (40 * net + k)) (fun k c => M 35 (3 * (40 * net + k) + c))) (fun c => M 36 (4 * net + c)) (M 33 net).toNat 0 (o0 (M 38))) x (M' 38) (M' 39)))))) 0 0) := by
                          intro N98
                          induction N98 with
                          | zero => intro  M98 J98 hN; omega
                          | succ N98 ih98 =>
                            intro  M98 J98 hN98 i98_0 i98_1 i98_2 i98_3
                            refine Z_aload_n (n := 99) dX4_order_98 rfl rfl ?_
                            refine Z_ok (fun ok98 => ?_)
                            refine Z_fr (fun fr98 => ?_)
                            refine Z_rg 31 12 rfl (fun g12 g12b => ?_)
                            refine Z_getI (n := 102) (ki := 12) dX4_order_99 rfl ffX4_135 rfl rfl rfl (fun r99 s99 => ?_)
                            refine Z_if_le (n := 105) (t := 196) dX4_order_102 rfl (by decide) (fun c102 => ?_) (fun c102 => ?_)
                            · have nsr : sr M98 = (vr (vG (fun k => M 34 (40 * net + k)) (fun k c => M 35 (3 * (40 * net + k) + c))) (fun c => M 36 (4 * net + c)) (o + 1).toNat 0 (o0 (M 38))) := by
                                have z := i98_3
                                rw [show M98 31 12 = 0 by omega] at z
                                exact z
                              refine Z_iinc (L' := [_, _, _, _, _]) (n := 199) dX4_order_196 rfl rfl (by decide) rfl rfl (by omega) rfl ?_
                              refine Z_goto (t := 73) dX4_order_199 (by decide) ?_
                              refine Z_loc (L' := [some _, some _, some _, none, none]) (lsub_same (lsub_same (lsub_same (lsub_none (lsub_none lsub_nil))))) ?_
                              exact ih73 _ _ _ (by omega) (by assumption) (by first | assumption | omega | decide) (by first | assumption | omega | decide) (by exact i98_1) (by exact i98_2) (by omega) (by exact nsr) (by omega)
                            · have hpl := i98_2.2.2 (M98 31 12 - 1) (by omega) (by omega)
                              have hr4 := hr_in (M98 40) 40
                              have hle := i98_2.2.1
                              refine Z_bipush (n := 107) dX4_order_105 rfl (by decide) (by decide) ?_
                              refine Z_iload_n (n := 108) dX4_order_107 rfl rfl ?_
                              refine Z_imul (n := 109) dX4_order_108 rfl (by omega) ?_
                              refine Z_aload_n (n := 110) dX4_order_109 rfl rfl ?_
                              refine Z_getA (n := 113) dX4_order_110 rfl ffX4_38 rfl rfl ?_
                              refine Z_aload_n (n := 114) dX4_order_113 rfl rfl ?_
                              refine Z_getI (n := 117) (ki := 12) dX4_order_114 rfl ffX4_135 rfl rfl rfl (fun r114 s114 => ?_)
                              refine Z_iconst (n := 118) dX4_order_117 rfl (by decide) ?_
                              refine Z_isub (n := 119) dX4_order_118 rfl (by omega) ?_
                              refine Z_iald (n := 120) dX4_order_119 rfl rfl rfl (by first | decide | assumption) (by omega) (by omega) (fun r119 s119 => ?_)
                              refine Z_iadd (n := 121) dX4_order_120 rfl (by omega) ?_
                              refine Z_istore_n (L' := [_, _, _, _, _]) (n := 122) dX4_order_121 rfl (by decide) rfl rfl ?_
                              refine Z_rg 41 (M98 31 12 - 1) rfl (fun g41 g41b => ?_)
                              obtain ⟨t, ht⟩ : ∃ t, t = M98 41 (M98 31 12 - 1) := ⟨_, rfl⟩
                              rw [← ht] at r119 s119 g41 g41b hpl ⊢
                              refine Z_aload_n (n := 123) dX4_order_122 rfl rfl ?_
                              refine Z_getA (n := 126) dX4_order_123 rfl ffX4_41 rfl rfl ?_
                              refine Z_aload_n (n := 127) dX4_order_126 rfl rfl ?_
                              refine Z_getI (n := 130) (ki := 12) dX4_order_127 rfl ffX4_135 rfl rfl rfl (fun r127 s127 => ?_)
                              refine Z_iconst (n := 131) dX4_order_130 rfl (by decide) ?_
                              refine Z_isub (n := 132) dX4_order_131 rfl (by omega) ?_
                              refine Z_iald (n := 133) dX4_order_132 rfl rfl rfl (by first | decide | assumption) (by omega) (by omega) (fun r132 s132 => ?_)
                              refine Z_istore (L' := [_, _, _, _, _]) (n := 135) dX4_order_133 rfl (by decide) rfl rfl ?_
                              refine Z_iload (n := 137) dX4_order_135 rfl rfl ?_
                              refine Z_aload_n (n := 138) dX4_order_137 rfl rfl ?_
                              refine Z_getA (n := 141) dX4_order_138 rfl ffX4_16 rfl rfl ?_
                              refine Z_iload_n (n := 142) dX4_order_141 rfl rfl ?_
                              refine Z_iald (n := 143) dX4_order_142 rfl rfl rfl (by first | decide | assumption) (by omega) (by omega) (fun r142 s142 => ?_)
                              refine Z_callSi (n := 146) [_] _ dX4_order_143 rfl cwX4_120 rfl rfl (Nat.le_of_ble_eq_true rfl) (by refine ⟨?_, ?_, ?_, ?_⟩ <;> exact Nat.le_of_ble_eq_true rfl) (fun _ _ => trivial) (zX4_wants  ) ?_
                              intro x143 M143 J143 z143 f143 q143
                              obtain ⟨e143_1, e143_2, h143⟩ := q143
                              replace e143_1 := e143_1.symm; subst e143_1
                              replace e143_2 := e143_2.symm; subst e143_2
                              refine Z_icmp_ne (n := 149) (t := 162) dX4_order_146 rfl (by decide) (fun c146 => ?_) (fun c146 => ?_)
                              · rw [(fr98 34 (by decide)).1] at h143
                                have hop3 := opF_in (M 34 (40 * net + t))
                                obtain ⟨q2, hmu⟩ := plO_ch i98_2 (by omega) (by rw [← ht]; omega)
                                have q1 : f31 M (uz M98 42 (M98 31 12 - 1) (M98 42 (M98 31 12 - 1) + 1)) := fun j a b => by rw [uz_oo (by decide)]; exact i98_1 j a b
                                have hop := (hNn.1 t (by omega) (by omega)).1 (M98 42 (M98 31 12 - 1)) (by omega) (by omega)
                                refine Z_aload_n (n := 163) dX4_order_162 rfl rfl ?_
                                refine Z_getA (n := 166) dX4_order_163 rfl ffX4_41 rfl rfl ?_
                                refine Z_aload_n (n := 167) dX4_order_166 rfl rfl ?_
                                refine Z_getI (n := 170) (ki := 12) dX4_order_167 rfl ffX4_135 rfl rfl rfl (fun r167 s167 => ?_)
                                refine Z_iconst (n := 171) dX4_order_170 rfl (by decide) ?_
                                refine Z_isub (n := 172) dX4_order_171 rfl (by omega) ?_
                                refine Z_dup2 (n := 173) dX4_order_172 rfl rfl rfl ?_
                                refine Z_iald (n := 174) dX4_order_173 rfl rfl rfl (by first | decide | assumption) (by omega) (by omega) (fun r173 s173 => ?_)
                                refine Z_iconst (n := 175) dX4_order_174 rfl (by decide) ?_
                                refine Z_iadd (n := 176) dX4_order_175 rfl (by omega) ?_
                                refine Z_iast (n := 177) dX4_order_176 rfl rfl rfl (by first | decide | assumption) (by omega) (by omega) (by first | assumption | omega | decide) (by first | assumption | omega | decide) (by decide) ?_
                                refine Z_aload_n (n := 178) dX4_order_177 rfl rfl ?_
                                refine Z_iload_n (n := 179) dX4_order_178 rfl rfl ?_
                                refine Z_aload_n (n := 180) dX4_order_179 rfl rfl ?_
                                refine Z_getA (n := 183) dX4_order_180 rfl ffX4_19 rfl rfl ?_
                                refine Z_iconst (n := 184) dX4_order_183 rfl (by decide) ?_
                                refine Z_iload_n (n := 185) dX4_order_184 rfl rfl ?_
                                refine Z_imul (n := 186) dX4_order_185 rfl (by omega) ?_
                                refine Z_iload (n := 188) dX4_order_186 rfl rfl ?_
                                refine Z_iadd (n := 189) dX4_order_188 rfl (by omega) ?_
                                refine Z_iald (n := 190) dX4_order_189 rfl rfl rfl (by first | decide | assumption) (by omega) (by omega) (fun r189 s189 => ?_)
                                try simp only [uz_oo (show (35 : Nat) ≠ 42 by decide)] at r189 s189 ⊢
                                obtain ⟨x, hx⟩ : ∃ x, x = M98 35 (3 * (40 * net + t) + M98 42 (M98 31 12 - 1)) := ⟨_, rfl⟩
                                rw [← hx] at r189 s189 ⊢
                                have ex : x = M 35 (3 * (40 * net + t) + M98 42 (M98 31 12 - 1)) := by rw [hx, (fr98 35 (by decide)).1]
                                rw [← ex] at hop
                                have hxg : x < M 32 net := by omega
                                have hgv : uz M98 42 (M98 31 12 - 1) (M98 42 (M98 31 12 - 1) + 1) 34 (40 * net + x) = 0 → 0 ≤ uz M98 42 (M98 31 12 - 1) (M98 42 (M98 31 12 - 1) + 1) 35 (3 * (40 * net + x)) ∧ uz M98 42 (M98 31 12 - 1) (M98 42 (M98 31 12 - 1) + 1) 35 (3 * (40 * net + x)) < 8 := by
                                  rw [uz_oo (by decide), uz_oo (by decide), (fr98 34 (by decide)).1, (fr98 35 (by decide)).1]
                                  exact (hNn.1 x (by omega) (by omega)).2
                                refine Z_callVv (n := 193) [_, _] _ dX4_order_190 rfl cwX4_145 rfl rfl rfl (Nat.le_of_ble_eq_true rfl) (by refine ⟨?_, ?_, ?_, ?_⟩ <;> exact Nat.le_of_ble_eq_true rfl) (fun a h => by unfold kOr at h; unfold kGr; omega) (zX4_go_f  (by omega) (by omega) (by omega) (by omega) (by exact hgv) (by exact q2.2.1) (by exact q2.1)) ?_
                                intro M190 J190 f190 q190
                                obtain ⟨e190_1, gq190, gs190⟩ := q190
                                replace e190_1 := e190_1.symm; subst e190_1
                                have pg := plO_go q2 gq190 hxg (by rw [uz_oo (by decide)]; omega)
                                replace q1 : f31 M M190 := fun j a b => (gq190.1 j a b).trans (q1 j a b)
                                have q3 : cmpl (fun k => M 34 (40 * net + k)) (fun k c => M 35 (3 * (40 * net + k) + c)) (M190 41) (M190 42) (M190 31 12).toNat (sr M190) = (vr (vG (fun k => M 34 (40 * net + k)) (fun k c => M 35 (3 * (40 * net + k) + c))) (fun c => M 36 (4 * net + c)) (o + 1).toNat 0 (o0 (M 38))) := by
                                  have z := gs190
                                  rw [uz_o (show (34 : Nat) ≠ 42 by decide), uz_o (show (35 : Nat) ≠ 42 by decide), (fr98 34 (by decide)).1, (fr98 35 (by decide)).1] at z
                                  have z2 := cm_ch (kd := (fun k => M 34 (40 * net + k))) (od := (fun k c => M 35 (3 * (40 * net + k) + c))) (pg := M98 41) (pc := M98 42) (p := M98 31 12) (s := sr M98) (by omega) (by show M98 42 (M98 31 12 - 1) < opF (M 34 (40 * net + M98 41 (M98 31 12 - 1))); rw [← ht]; omega)
                                  have e1 : sr (uz M98 42 (M98 31 12 - 1) (M98 42 (M98 31 12 - 1) + 1)) = sr M98 := by
                                    unfold sr
                                    rw [uz_o (show (40 : Nat) ≠ 42 by decide), uz_o (show (39 : Nat) ≠ 42 by decide), uz_o (show (38 : Nat) ≠ 42 by decide), uz_o (show (31 : Nat) ≠ 42 by decide)]
                                  rw [cm_go hOB (by omega) hxg (by omega) (by rw [uz_oo (by decide)]; omega) z, uz_o (show (41 : Nat) ≠ 42 by decide), uz_oo (show (31 : Nat) ≠ 42 by decide), uz_fn, e1, ← i98_3, z2, ex, ht]
                                replace q2 := pg.1
                                refine Z_ok (fun ok190 => ?_)
                                have hms : (muO M190).toNat < N98 := by
                                  have := pg.2
                                  have := mu_in ok190
                                  omega
                                refine Z_goto (t := 98) dX4_order_193 (by decide) ?_
                                refine Z_loc (L' := [some _, some _, some _, none, none]) (lsub_same (lsub_same (lsub_same (lsub_none (lsub_none lsub_nil))))) ?_
                                exact ih98  _ _ (by exact hms) (by assumption) (by exact q1) (by exact q2) (by exact q3)
                              · obtain ⟨q2, hmu⟩ := plO_pop i98_2 ok98 (by omega)
                                have q1 : f31 M (uz M98 31 12 (M98 31 12 - 1)) := fun j a b => by rw [uz_n a]; exact i98_1 j a b
                                have q3 : cmpl (fun k => M 34 (40 * net + k)) (fun k c => M 35 (3 * (40 * net + k) + c)) ((uz M98 31 12 (M98 31 12 - 1)) 41) ((uz M98 31 12 (M98 31 12 - 1)) 42) ((uz M98 31 12 (M98 31 12 - 1)) 31 12).toNat (sr (uz M98 31 12 (M98 31 12 - 1))) = (vr (vG (fun k => M 34 (40 * net + k)) (fun k c => M 35 (3 * (40 * net + k) + c))) (fun c => M 36 (4 * net + c)) (o + 1).toNat 0 (o0 (M 38))) := by
                                  have z := cm_pop (kd := (fun k => M 34 (40 * net + k))) (od := (fun k c => M 35 (3 * (40 * net + k) + c))) (pg := M98 41) (pc := M98 42) (p := M98 31 12) (s := sr M98) (by omega) (by show opF (M 34 (40 * net + M98 41 (M98 31 12 - 1))) ≤ M98 42 (M98 31 12 - 1); rw [← ht, ← (fr98 34 (by decide)).1]; omega)
                                  have e1 : sr (uz M98 31 12 (M98 31 12 - 1)) = sr M98 := by
                                    unfold sr
                                    rw [uz_o (show (40 : Nat) ≠ 31 by decide), uz_o (show (39 : Nat) ≠ 31 by decide), uz_o (show (38 : Nat) ≠ 31 by decide), uz_n (show (13 : Int) ≠ 12 by decide)]
                                  rw [uz_s, uz_o (show (41 : Nat) ≠ 31 by decide), uz_o (show (42 : Nat) ≠ 31 by decide), e1, ← z]
                                  exact i98_3
                                refine Z_aload_n (n := 150) dX4_order_149 rfl rfl ?_
                                refine Z_dup (n := 151) dX4_order_150 rfl rfl ?_
                                refine Z_getI (n := 154) (ki := 12) dX4_order_151 rfl ffX4_135 rfl rfl rfl (fun r151 s151 => ?_)
                                refine Z_iconst (n := 155) dX4_order_154 rfl (by decide) ?_
                                refine Z_isub (n := 156) dX4_order_155 rfl (by omega) ?_
                                refine Z_putI (n := 159) (ki := 12) dX4_order_156 rfl ffX4_135 rfl (by decide) rfl rfl (by first | assumption | omega | decide) (by first | assumption | omega | decide) (by decide) ?_
                                refine Z_ok (fun ok156 => ?_)
                                have hms : (muO (uz M98 31 12 (M98 31 12 - 1))).toNat < N98 := by
                                  have := mu_in ok156
                                  omega
                                refine Z_goto (t := 193) dX4_order_159 (by decide) ?_
                                refine Z_goto (t := 98) dX4_order_193 (by decide) ?_
                                refine Z_loc (L' := [some _, some _, some _, none, none]) (lsub_same (lsub_same (lsub_same (lsub_none (lsub_none lsub_nil))))) ?_
                                exact ih98  _ _ (by exact hms) (by assumption) (by exact q1) (by exact q2) (by exact q3)
                        refine Z_loc (L' := [some _, some _, some _, none, none]) (lsub_same (lsub_same (lsub_same (lsub_none (lsub_none lsub_nil))))) ?_
                        exact lp98 _  _ _ (Nat.lt_succ_self _) (by assumption) (by exact q1) (by exact q2) (by exact q3)
                  refine Z_loc (L' := [some _, some _, some _, none, none]) (lsub_same (lsub_same (lsub_same (lsub_none (lsub_none lsub_nil))))) ?_
                  exact lp73 _ _ _ _ (Nat.lt_succ_self _) (by assumption) (by first | assumption | omega | decide) (by first | assumption | omega | decide) (by exact i52_3) (by exact st73) (by exact i52_5) (by exact sr73) (by omega)
                · refine Z_aload_n (n := 59) dX4_order_58 rfl rfl ?_
                  refine Z_getA (n := 62) dX4_order_59 rfl ffX4_32 rfl rfl ?_
                  refine Z_iload_n (n := 63) dX4_order_62 rfl rfl ?_
                  refine Z_iconst (n := 64) dX4_order_63 rfl (by decide) ?_
                  refine Z_iast (n := 65) dX4_order_64 rfl rfl rfl (by first | decide | assumption) (by omega) (by omega) (by first | assumption | omega | decide) (by first | assumption | omega | decide) (by decide) ?_
                  have nx52 : ∀ v : Int, 0 ≤ v → v < k + 1 → uz M52 39 k (-1) 39 v = -1 := fun x a b => by
                    rw [uz_a]
                    split
                    · rfl
                    · exact i52_7 x a (by omega)
                  refine Z_iinc (L' := [_, _, _, _, _]) (n := 68) dX4_order_65 rfl rfl (by decide) rfl rfl (by omega) rfl ?_
                  refine Z_goto (t := 52) dX4_order_68 (by decide) ?_
                  refine Z_loc (L' := [some _, some _, some _, none, none]) (lsub_same (lsub_same (lsub_same (lsub_none (lsub_none lsub_nil))))) ?_
                  exact ih52 _ _ _ (by omega) (by assumption) (by first | assumption | omega | decide) (by first | assumption | omega | decide) (by exact fun j a b => by rw [uz_oo (by decide)]; exact i52_3 j a b) (by rw [uz_oo (by decide)]; exact i52_4) (by rw [uz_oo (by decide)]; exact i52_5) (by exact fun x a b => by rw [uz_oo (by decide)]; exact i52_6 x a b) (by exact nx52) (by rw [uz_o (by decide)]; exact i52_8)
            refine Z_loc (L' := [some _, some _, some _, none, none]) (lsub_same (lsub_same (lsub_same (lsub_none (lsub_none lsub_nil))))) ?_
            exact lp52 _ _ _ _ (Nat.lt_succ_self _) (by assumption) (by first | assumption | omega | decide) (by first | assumption | omega | decide) (by exact i31_3) (by exact i31_4) (by exact i31_5) (by exact fun x a b => i31_6 x a (by omega)) (by exact fun x a b => by omega) (by exact i31_7)
          · refine Z_aload_n (n := 38) dX4_order_37 rfl rfl ?_
            refine Z_getA (n := 41) dX4_order_38 rfl ffX4_35 rfl rfl ?_
            refine Z_iload_n (n := 42) dX4_order_41 rfl rfl ?_
            refine Z_iconst (n := 43) dX4_order_42 rfl (by decide) ?_
            refine Z_zast (n := 44) dX4_order_43 rfl rfl rfl (by first | decide | assumption) (by omega) (by omega) (by first | assumption | omega | decide) (by first | assumption | omega | decide) (by decide) ?_
            have nx31 : ∀ x : Int, 0 ≤ x → x < k + 1 → uz M31 40 k 0 40 x = 0 := fun x a b => by
              rw [uz_a]
              split
              · rfl
              · exact i31_6 x a (by omega)
            refine Z_iinc (L' := [_, _, _, _, _]) (n := 47) dX4_order_44 rfl rfl (by decide) rfl rfl (by omega) rfl ?_
            refine Z_goto (t := 31) dX4_order_47 (by decide) ?_
            refine Z_loc (L' := [some _, some _, some _, none, none]) (lsub_same (lsub_same (lsub_same (lsub_none (lsub_none lsub_nil))))) ?_
            exact ih31 _ _ _ (by omega) (by assumption) (by first | assumption | omega | decide) (by first | assumption | omega | decide) (by exact fun j a b => by rw [uz_oo (by decide)]; exact i31_3 j a b) (by rw [uz_oo (by decide)]; exact i31_4) (by rw [uz_oo (by decide)]; exact i31_5) (by exact nx31) (by rw [uz_o (by decide)]; exact i31_7)
      refine Z_loc (L' := [some _, some _, some _, none, none]) (lsub_same (lsub_same (lsub_same (lsub_none (lsub_none lsub_nil))))) ?_
      exact lp31 _ _ _ _ (Nat.lt_succ_self _) (by rfl) (by first | assumption | omega | decide) (by first | assumption | omega | decide) (by exact fun j a b => by rw [uz_n a, uz_n b]) (by rw [uz_n (by decide), uz_s]) (by rw [uz_s]) (by exact fun x a b => by omega) (by rw [uz_o (by decide), uz_o (by decide)])
    · refine Z_bipush (n := 18) dX4_order_16 rfl (by decide) (by decide) ?_
      refine Z_iret dX4_order_18 rfl ?_
      rcases h10 with ⟨q, -⟩ | ⟨-, q⟩
      · omega
      · exact ⟨rfl, fun _ _ _ => rfl, hO, Or.inr (Or.inl ⟨by omega, by omega, q, rfl, rfl⟩)⟩
  · refine Z_iconst (n := 8) dX4_order_7 rfl (by decide) ?_
    refine Z_iret dX4_order_8 rfl ?_
    exact ⟨rfl, fun _ _ _ => rfl, hO, Or.inl ⟨by omega, rfl, rfl⟩⟩
set_option maxRecDepth 20000 in
theorem zX4_move_g {G : tl_G} {M : zM} {J : zJ} {v p : Int} (hO : rOrd M) (hI : oIn (M 38) (M 39)) : ZN G yX4_move mX4_move 1 kMv [vR 31, vI v, vI p] F1 M J (qI (fun x M' J' => J' = J ∧ rOrd M' ∧ (((v < 0 ∨ 8 ≤ v ∨ p < 0 ∨ 8 ≤ p) ∧ x = -2 ∧ M' = M) ∨ (¬ (v < 0 ∨ 8 ≤ v ∨ p < 0 ∨ 8 ≤ p) ∧ exHr M ∧ x = -3 ∧ M' = M) ∨ (¬ (v < 0 ∨ 8 ≤ v ∨ p < 0 ∨ 8 ≤ p) ∧ noHr M ∧ x = M 39 v ∧ mvQ (M 38) (M 39) (M' 38) (M' 39) v p)))) := by
  refine ZN_of (L := [_, _, _, _, _, _]) (by decide) rfl rfl (Nat.le_of_ble_eq_true rfl) rfl (fun hav => ?_)
  refine Z_iload_n (n := 1) dX4_move_0 rfl rfl ?_
  refine Z_iconst (n := 2) dX4_move_1 rfl (by decide) ?_
  refine Z_bipush (n := 4) dX4_move_2 rfl (by decide) (by decide) ?_
  refine Z_callSi (n := 7) [_, _, _] _ dX4_move_4 rfl cwX4_112 rfl rfl (Nat.le_of_ble_eq_true rfl) (by refine ⟨?_, ?_, ?_, ?_⟩ <;> exact Nat.le_of_ble_eq_true rfl) (fun _ _ => trivial) (zX4_in  ) ?_
  intro x4 M4 J4 z4 f4 q4
  obtain ⟨e4_1, e4_2, h4⟩ := q4
  replace e4_1 := e4_1.symm; subst e4_1
  replace e4_2 := e4_2.symm; subst e4_2
  refine Z_if_eq (n := 10) (t := 20) dX4_move_7 rfl (by decide) (fun c7 => ?_) (fun c7 => ?_)
  · refine Z_bipush (n := 22) dX4_move_20 rfl (by decide) (by decide) ?_
    refine Z_iret dX4_move_22 rfl ?_
    exact ⟨rfl, hO, Or.inl ⟨by omega, rfl, rfl⟩⟩
  · refine Z_iload_n (n := 11) dX4_move_10 rfl rfl ?_
    refine Z_iconst (n := 12) dX4_move_11 rfl (by decide) ?_
    refine Z_bipush (n := 14) dX4_move_12 rfl (by decide) (by decide) ?_
    refine Z_callSi (n := 17) [_, _, _] _ dX4_move_14 rfl cwX4_112 rfl rfl (Nat.le_of_ble_eq_true rfl) (by refine ⟨?_, ?_, ?_, ?_⟩ <;> exact Nat.le_of_ble_eq_true rfl) (fun _ _ => trivial) (zX4_in  ) ?_
    intro x14 M14 J14 z14 f14 q14
    obtain ⟨e14_1, e14_2, h14⟩ := q14
    replace e14_1 := e14_1.symm; subst e14_1
    replace e14_2 := e14_2.symm; subst e14_2
    refine Z_if_ne (n := 20) (t := 23) dX4_move_17 rfl (by decide) (fun c17 => ?_) (fun c17 => ?_)
    · refine Z_aload_n (n := 24) dX4_move_23 rfl rfl ?_
      refine Z_callVi (n := 27) [] _ dX4_move_24 rfl cwX4_141 rfl rfl rfl (Nat.le_of_ble_eq_true rfl) (by refine ⟨?_, ?_, ?_, ?_⟩ <;> exact Nat.le_of_ble_eq_true rfl) (fun _ _ => trivial) (zX4_isEmpty  ) ?_
      intro x24 M24 J24 z24 f24 q24
      obtain ⟨e24_1, e24_2, h24⟩ := q24
      replace e24_1 := e24_1.symm; subst e24_1
      replace e24_2 := e24_2.symm; subst e24_2
      refine Z_if_ne (n := 30) (t := 33) dX4_move_27 rfl (by decide) (fun c27 => ?_) (fun c27 => ?_)
      · refine Z_aload_n (n := 34) dX4_move_33 rfl rfl ?_
        refine Z_getA (n := 37) dX4_move_34 rfl ffX4_32 rfl rfl ?_
        refine Z_iload_n (n := 38) dX4_move_37 rfl rfl ?_
        refine Z_iald (n := 39) dX4_move_38 rfl rfl rfl (by first | decide | assumption) (by omega) (by omega) (fun r38 s38 => ?_)
        refine Z_istore_n (L' := [_, _, _, _, _, _]) (n := 40) dX4_move_39 rfl (by decide) rfl rfl ?_
        have hw := (hI v (by omega) (by omega)).1
        have hw1 := hw.1
        have hw2 := hw.2.1
        clear hw
        refine Z_iload_n (n := 41) dX4_move_40 rfl rfl ?_
        refine Z_iload_n (n := 42) dX4_move_41 rfl rfl ?_
        refine Z_icmp_ge (n := 45) (t := 49) dX4_move_42 rfl (by decide) (fun c42 => ?_) (fun c42 => ?_)
        · refine Z_iconst (n := 50) dX4_move_49 rfl (by decide) ?_
          refine Z_istore (L' := [_, _, _, _, _, _]) (n := 52) dX4_move_50 rfl (by decide) rfl rfl ?_
          refine Z_iload_n (n := 53) dX4_move_52 rfl rfl ?_
          refine Z_istore (L' := [_, _, _, _, _, _]) (n := 55) dX4_move_53 rfl (by decide) rfl rfl ?_
          have lp55 : ∀ (N55 : Nat) (k s : Int) (M55 : zM) (J55 : zJ), ((p - k).natAbs) < N55 → (J55 = J) → (0 ≤ k) → (k ≤ 7) → ((s = 1 ∧ k ≤ p) ∨ (s = -1 ∧ p ≤ k)) → (s = 1 → M 39 v ≤ k ∧ ∀ j : Int, 0 ≤ j → j < 8 → M55 38 j = mvA (M 38) (M 39 v) k (M 39 v) j) → (s = -1 → k ≤ M 39 v ∧ ∀ j : Int, 0 ≤ j → j < 8 → M55 38 j = mvA (M 38) (M 39 v) p k j) → TZ G mX4_move (tl_rm 1 0 0) 0 0 kMv M J 55 [some (vR 31), some (vI v), some (vI p), some (vI (M 39 v)), some (vI s), some (vI k)] [] F1 M55 J55 (ZM G (zPost G kMv F1 M J (qI (fun x M' J' => J' = J ∧ rOrd M' ∧ (((v < 0 ∨ 8 ≤ v ∨ p < 0 ∨ 8 ≤ p) ∧ x = -2 ∧ M' = M) ∨ (¬ (v < 0 ∨ 8 ≤ v ∨ p < 0 ∨ 8 ≤ p) ∧ exHr M ∧ x = -3 ∧ M' = M) ∨ (¬ (v < 0 ∨ 8 ≤ v ∨ p < 0 ∨ 8 ≤ p) ∧ noHr M ∧ x = M 39 v ∧ mvQ (M 38) (M 39) (M' 38) (M' 39) v p))))) 0 0) := by
            intro N55
            induction N55 with
            | zero => intro k s M55 J55 hN; omega
            | succ N55 ih55 =>
              intro k s M55 J55 hN55 i55_0 i55_1 i55_2 i55_3 i55_4 i55_5
              refine Z_iload (n := 57) dX4_move_55 rfl rfl ?_
              refine Z_iload_n (n := 58) dX4_move_57 rfl rfl ?_
              refine Z_icmp_eq (n := 61) (t := 88) dX4_move_58 rfl (by decide) (fun c58 => ?_) (fun c58 => ?_)
              · have hA : ∀ j : Int, 0 ≤ j → j < 8 → uz M55 38 p v 38 j = (updI (mvA (M 38) (M 39 v) p p) p v) j := fun j a b => by
                  rw [uz_fn]
                  by_cases e : j = p
                  · rw [e, updI_s, updI_s]
                  · rw [updI_n e, updI_n e]
                    by_cases q : s = 1
                    · rw [(i55_4 q).2 j a b, c58]
                      exact (mv_ey (P := M 39) (by have := (i55_4 q).1; omega) (Int.le_refl _) (Or.inr rfl)).1
                    · have q2 : s = -1 := by omega
                      rw [(i55_5 q2).2 j a b, c58]
                have hIn : oIn (uz M55 38 p v 38) (updI (mvP (M 39) (M 39 v) p p) v p) := mv_in hI (by omega) (by omega) (by omega) (by omega) ⟨hA, fun _ _ _ => rfl⟩
                refine Z_aload_n (n := 89) dX4_move_88 rfl rfl ?_
                refine Z_getA (n := 92) dX4_move_89 rfl ffX4_29 rfl rfl ?_
                refine Z_iload_n (n := 93) dX4_move_92 rfl rfl ?_
                refine Z_iload_n (n := 94) dX4_move_93 rfl rfl ?_
                refine Z_iast (n := 95) dX4_move_94 rfl rfl rfl (by first | decide | assumption) (by omega) (by omega) (by first | assumption | omega | decide) (by first | assumption | omega | decide) (by decide) ?_
                refine Z_iconst (n := 96) dX4_move_95 rfl (by decide) ?_
                refine Z_istore (L' := [_, _, _, _, _, _]) (n := 98) dX4_move_96 rfl (by decide) rfl rfl ?_
                have lp98 : ∀ (N98 : Nat) (k : Int) (M98 : zM) (J98 : zJ), ((8 - k).toNat) < N98 → (J98 = J) → (0 ≤ k) → (k ≤ 8) → (M98 38 = uz M55 38 p v 38) → (∀ i : Int, 0 ≤ i → i < k → M98 39 (uz M55 38 p v 38 i) = i) → TZ G mX4_move (tl_rm 1 0 0) 0 0 kMv M J 98 [some (vR 31), some (vI v), some (vI p), some (vI (M 39 v)), none, some (vI k)] [] F1 M98 J98 (ZM G (zPost G kMv F1 M J (qI (fun x M' J' => J' = J ∧ rOrd M' ∧ (((v < 0 ∨ 8 ≤ v ∨ p < 0 ∨ 8 ≤ p) ∧ x = -2 ∧ M' = M) ∨ (¬ (v < 0 ∨ 8 ≤ v ∨ p < 0 ∨ 8 ≤ p) ∧ exHr M ∧ x = -3 ∧ M' = M) ∨ (¬ (v < 0 ∨ 8 ≤ v ∨ p < 0 ∨ 8 ≤ p) ∧ noHr M ∧ x = M 39 v ∧ mvQ (M 38) (M 39) (M' 38) (M' 39) v p))))) 0 0) := by
                  intro N98
                  induction N98 with
                  | zero => intro k M98 J98 hN; omega
                  | succ N98 ih98 =>
                    intro k M98 J98 hN98 i98_0 i98_1 i98_2 i98_3 i98_4
                    refine Z_iload (n := 100) dX4_move_98 rfl rfl ?_
                    refine Z_bipush (n := 102) dX4_move_100 rfl (by decide) (by decide) ?_
                    refine Z_icmp_ge (n := 105) (t := 125) dX4_move_102 rfl (by decide) (fun c102 => ?_) (fun c102 => ?_)
                    · refine Z_iload_n (n := 126) dX4_move_125 rfl rfl ?_
                      refine Z_iret dX4_move_126 rfl ?_
                      have key : ∀ w : Int, 0 ≤ w → w < 8 → M98 39 w = (updI (mvP (M 39) (M 39 v) p p) v p) w := fun w a b => by
                        obtain ⟨y1, y2, y3⟩ := (hIn w a b).1
                        have y4 := i98_4 _ y1 (by omega)
                        rw [y3] at y4
                        exact y4
                      have hn : noHr M := by
                        rcases h24 with ⟨-, q⟩ | ⟨q, -⟩
                        · exact q
                        · omega
                      exact ⟨i98_0, fun w a b => by rw [key w a b]; exact (hIn w a b).1.1, Or.inr (Or.inr ⟨by omega, hn, rfl, fun j a b => by rw [i98_3]; exact hA j a b, key⟩)⟩
                    · refine Z_aload_n (n := 106) dX4_move_105 rfl rfl ?_
                      refine Z_getA (n := 109) dX4_move_106 rfl ffX4_32 rfl rfl ?_
                      refine Z_aload_n (n := 110) dX4_move_109 rfl rfl ?_
                      refine Z_getA (n := 113) dX4_move_110 rfl ffX4_29 rfl rfl ?_
                      refine Z_iload (n := 115) dX4_move_113 rfl rfl ?_
                      refine Z_iald (n := 116) dX4_move_115 rfl rfl rfl (by first | decide | assumption) (by omega) (by omega) (fun r115 s115 => ?_)
                      refine Z_iload (n := 118) dX4_move_116 rfl rfl ?_
                      refine Z_iast (n := 119) dX4_move_118 rfl rfl rfl (by first | decide | assumption) (by omega) (by omega) (by first | assumption | omega | decide) (by first | assumption | omega | decide) (by decide) ?_
                      have m3 : uz M98 39 (M98 38 k) k 38 = uz M55 38 p v 38 := by rw [uz_o (by decide)]; exact i98_3
                      have m4 : ∀ i : Int, 0 ≤ i → i < k + 1 → uz M98 39 (M98 38 k) k 39 (uz M55 38 p v 38 i) = i := fun i a b => by
                        rw [i98_3, uz_fn (M := M98)]
                        by_cases e : i = k
                        · rw [e, updI_s]
                        · have ne : uz M55 38 p v 38 i ≠ uz M55 38 p v 38 k := fun t => e (by
                            have y1 := (hIn i a (by omega)).2.2.2
                            have y2 := (hIn k (by omega) (by omega)).2.2.2
                            rw [t] at y1
                            exact y1.symm.trans y2)
                          rw [updI_n ne]
                          exact i98_4 i a (by omega)
                      refine Z_iinc (L' := [_, _, _, _, _, _]) (n := 122) dX4_move_119 rfl rfl (by decide) rfl rfl (by omega) rfl ?_
                      refine Z_goto (t := 98) dX4_move_122 (by decide) ?_
                      refine Z_loc (L' := [some _, some _, some _, some _, none, some _]) (lsub_same (lsub_same (lsub_same (lsub_same (lsub_none (lsub_same lsub_nil)))))) ?_
                      exact ih98 _ _ _ (by omega) (by assumption) (by first | assumption | omega | decide) (by first | assumption | omega | decide) (by exact m3) (by exact m4)
                refine Z_loc (L' := [some _, some _, some _, some _, none, some _]) (lsub_same (lsub_same (lsub_same (lsub_same (lsub_none (lsub_same lsub_nil)))))) ?_
                exact lp98 _ _ _ _ (Nat.lt_succ_self _) (by assumption) (by first | assumption | omega | decide) (by first | assumption | omega | decide) (by rfl) (by exact fun i a b => by omega)
              · refine Z_aload_n (n := 62) dX4_move_61 rfl rfl ?_
                refine Z_getA (n := 65) dX4_move_62 rfl ffX4_29 rfl rfl ?_
                refine Z_iload (n := 67) dX4_move_65 rfl rfl ?_
                refine Z_aload_n (n := 68) dX4_move_67 rfl rfl ?_
                refine Z_getA (n := 71) dX4_move_68 rfl ffX4_29 rfl rfl ?_
                refine Z_iload (n := 73) dX4_move_71 rfl rfl ?_
                refine Z_iload (n := 75) dX4_move_73 rfl rfl ?_
                refine Z_iadd (n := 76) dX4_move_75 rfl (by omega) ?_
                refine Z_iald (n := 77) dX4_move_76 rfl rfl rfl (by first | decide | assumption) (by omega) (by omega) (fun r76 s76 => ?_)
                refine Z_iast (n := 78) dX4_move_77 rfl rfl rfl (by first | decide | assumption) (by omega) (by omega) (by first | assumption | omega | decide) (by first | assumption | omega | decide) (by decide) ?_
                have n4 : s = 1 → M 39 v ≤ k + s ∧ ∀ j : Int, 0 ≤ j → j < 8 → (uz M55 38 k (M55 38 (k + s))) 38 j = mvA (M 38) (M 39 v) (k + s) (M 39 v) j := fun q => by
                  obtain ⟨z1, z2⟩ := i55_4 q
                  rw [q]
                  exact ⟨by omega, fun j a b => by rw [uz_fn]; exact (mvA_up z2 z1 (by omega) (by omega)).2 j a b⟩
                have n5 : s = -1 → k + s ≤ M 39 v ∧ ∀ j : Int, 0 ≤ j → j < 8 → (uz M55 38 k (M55 38 (k + s))) 38 j = mvA (M 38) (M 39 v) p (k + s) j := fun q => by
                  obtain ⟨z1, z2⟩ := i55_5 q
                  rw [q, show k + -1 = k - 1 by omega]
                  exact ⟨by omega, fun j a b => by rw [uz_fn]; exact (mvA_dn z2 (by omega) z1 (by omega) (by omega)).2 j a b⟩
                refine Z_iload (n := 80) dX4_move_78 rfl rfl ?_
                refine Z_iload (n := 82) dX4_move_80 rfl rfl ?_
                refine Z_iadd (n := 83) dX4_move_82 rfl (by omega) ?_
                refine Z_istore (L' := [_, _, _, _, _, _]) (n := 85) dX4_move_83 rfl (by decide) rfl rfl ?_
                refine Z_goto (t := 55) dX4_move_85 (by decide) ?_
                refine Z_loc (L' := [some _, some _, some _, some _, some _, some _]) (lsub_same (lsub_same (lsub_same (lsub_same (lsub_same (lsub_same lsub_nil)))))) ?_
                exact ih55 _ _ _ _ (by omega) (by assumption) (by first | assumption | omega | decide) (by first | assumption | omega | decide) (by first | assumption | omega | decide) (by exact n4) (by exact n5)
          refine Z_loc (L' := [some _, some _, some _, some _, some _, some _]) (lsub_same (lsub_same (lsub_same (lsub_same (lsub_same (lsub_same lsub_nil)))))) ?_
          exact lp55 _ _ _ _ _ (Nat.lt_succ_self _) (by rfl) (by first | assumption | omega | decide) (by first | assumption | omega | decide) (by first | assumption | omega | decide) (by exact fun _ => ⟨Int.le_refl _, fun j _ _ => (mv_0 (P := M 39)).1.symm⟩) (by exact fun q => ⟨Int.le_refl _, fun j _ _ => (mvA_3 (by omega) (by omega)).symm⟩)
        · refine Z_iconst (n := 46) dX4_move_45 rfl (by decide) ?_
          refine Z_goto (t := 50) dX4_move_46 (by decide) ?_
          refine Z_istore (L' := [_, _, _, _, _, _]) (n := 52) dX4_move_50 rfl (by decide) rfl rfl ?_
          refine Z_iload_n (n := 53) dX4_move_52 rfl rfl ?_
          refine Z_istore (L' := [_, _, _, _, _, _]) (n := 55) dX4_move_53 rfl (by decide) rfl rfl ?_
          have lp55 : ∀ (N55 : Nat) (k s : Int) (M55 : zM) (J55 : zJ), ((p - k).natAbs) < N55 → (J55 = J) → (0 ≤ k) → (k ≤ 7) → ((s = 1 ∧ k ≤ p) ∨ (s = -1 ∧ p ≤ k)) → (s = 1 → M 39 v ≤ k ∧ ∀ j : Int, 0 ≤ j → j < 8 → M55 38 j = mvA (M 38) (M 39 v) k (M 39 v) j) → (s = -1 → k ≤ M 39 v ∧ ∀ j : Int, 0 ≤ j → j < 8 → M55 38 j = mvA (M 38) (M 39 v) p k j) → TZ G mX4_move (tl_rm 1 0 0) 0 0 kMv M J 55 [some (vR 31), some (vI v), some (vI p), some (vI (M 39 v)), some (vI s), some (vI k)] [] F1 M55 J55 (ZM G (zPost G kMv F1 M J (qI (fun x M' J' => J' = J ∧ rOrd M' ∧ (((v < 0 ∨ 8 ≤ v ∨ p < 0 ∨ 8 ≤ p) ∧ x = -2 ∧ M' = M) ∨ (¬ (v < 0 ∨ 8 ≤ v ∨ p < 0 ∨ 8 ≤ p) ∧ exHr M ∧ x = -3 ∧ M' = M) ∨ (¬ (v < 0 ∨ 8 ≤ v ∨ p < 0 ∨ 8 ≤ p) ∧ noHr M ∧ x = M 39 v ∧ mvQ (M 38) (M 39) (M' 38) (M' 39) v p))))) 0 0) := by
            intro N55
            induction N55 with
            | zero => intro k s M55 J55 hN; omega
            | succ N55 ih55 =>
              intro k s M55 J55 hN55 i55_0 i55_1 i55_2 i55_3 i55_4 i55_5
              refine Z_iload (n := 57) dX4_move_55 rfl rfl ?_
              refine Z_iload_n (n := 58) dX4_move_57 rfl rfl ?_
              refine Z_icmp_eq (n := 61) (t := 88) dX4_move_58 rfl (by decide) (fun c58 => ?_) (fun c58 => ?_)
              · have hA : ∀ j : Int, 0 ≤ j → j < 8 → uz M55 38 p v 38 j = (updI (mvA (M 38) (M 39 v) p p) p v) j := fun j a b => by
                  rw [uz_fn]
                  by_cases e : j = p
                  · rw [e, updI_s, updI_s]
                  · rw [updI_n e, updI_n e]
                    by_cases q : s = 1
                    · rw [(i55_4 q).2 j a b, c58]
                      exact (mv_ey (P := M 39) (by have := (i55_4 q).1; omega) (Int.le_refl _) (Or.inr rfl)).1
                    · have q2 : s = -1 := by omega
                      rw [(i55_5 q2).2 j a b, c58]
                have hIn : oIn (uz M55 38 p v 38) (updI (mvP (M 39) (M 39 v) p p) v p) := mv_in hI (by omega) (by omega) (by omega) (by omega) ⟨hA, fun _ _ _ => rfl⟩
                refine Z_aload_n (n := 89) dX4_move_88 rfl rfl ?_
                refine Z_getA (n := 92) dX4_move_89 rfl ffX4_29 rfl rfl ?_
                refine Z_iload_n (n := 93) dX4_move_92 rfl rfl ?_
                refine Z_iload_n (n := 94) dX4_move_93 rfl rfl ?_
                refine Z_iast (n := 95) dX4_move_94 rfl rfl rfl (by first | decide | assumption) (by omega) (by omega) (by first | assumption | omega | decide) (by first | assumption | omega | decide) (by decide) ?_
                refine Z_iconst (n := 96) dX4_move_95 rfl (by decide) ?_
                refine Z_istore (L' := [_, _, _, _, _, _]) (n := 98) dX4_move_96 rfl (by decide) rfl rfl ?_
                have lp98 : ∀ (N98 : Nat) (k : Int) (M98 : zM) (J98 : zJ), ((8 - k).toNat) < N98 → (J98 = J) → (0 ≤ k) → (k ≤ 8) → (M98 38 = uz M55 38 p v 38) → (∀ i : Int, 0 ≤ i → i < k → M98 39 (uz M55 38 p v 38 i) = i) → TZ G mX4_move (tl_rm 1 0 0) 0 0 kMv M J 98 [some (vR 31), some (vI v), some (vI p), some (vI (M 39 v)), none, some (vI k)] [] F1 M98 J98 (ZM G (zPost G kMv F1 M J (qI (fun x M' J' => J' = J ∧ rOrd M' ∧ (((v < 0 ∨ 8 ≤ v ∨ p < 0 ∨ 8 ≤ p) ∧ x = -2 ∧ M' = M) ∨ (¬ (v < 0 ∨ 8 ≤ v ∨ p < 0 ∨ 8 ≤ p) ∧ exHr M ∧ x = -3 ∧ M' = M) ∨ (¬ (v < 0 ∨ 8 ≤ v ∨ p < 0 ∨ 8 ≤ p) ∧ noHr M ∧ x = M 39 v ∧ mvQ (M 38) (M 39) (M' 38) (M' 39) v p))))) 0 0) := by
                  intro N98
                  induction N98 with
                  | zero => intro k M98 J98 hN; omega
                  | succ N98 ih98 =>
                    intro k M98 J98 hN98 i98_0 i98_1 i98_2 i98_3 i98_4
                    refine Z_iload (n := 100) dX4_move_98 rfl rfl ?_
                    refine Z_bipush (n := 102) dX4_move_100 rfl (by decide) (by decide) ?_
                    refine Z_icmp_ge (n := 105) (t := 125) dX4_move_102 rfl (by decide) (fun c102 => ?_) (fun c102 => ?_)
                    · refine Z_iload_n (n := 126) dX4_move_125 rfl rfl ?_
                      refine Z_iret dX4_move_126 rfl ?_
                      have key : ∀ w : Int, 0 ≤ w → w < 8 → M98 39 w = (updI (mvP (M 39) (M 39 v) p p) v p) w := fun w a b => by
                        obtain ⟨y1, y2, y3⟩ := (hIn w a b).1
                        have y4 := i98_4 _ y1 (by omega)
                        rw [y3] at y4
                        exact y4
                      have hn : noHr M := by
                        rcases h24 with ⟨-, q⟩ | ⟨q, -⟩
                        · exact q
                        · omega
                      exact ⟨i98_0, fun w a b => by rw [key w a b]; exact (hIn w a b).1.1, Or.inr (Or.inr ⟨by omega, hn, rfl, fun j a b => by rw [i98_3]; exact hA j a b, key⟩)⟩
                    · refine Z_aload_n (n := 106) dX4_move_105 rfl rfl ?_
                      refine Z_getA (n := 109) dX4_move_106 rfl ffX4_32 rfl rfl ?_
                      refine Z_aload_n (n := 110) dX4_move_109 rfl rfl ?_
                      refine Z_getA (n := 113) dX4_move_110 rfl ffX4_29 rfl rfl ?_
                      refine Z_iload (n := 115) dX4_move_113 rfl rfl ?_
                      refine Z_iald (n := 116) dX4_move_115 rfl rfl rfl (by first | decide | assumption) (by omega) (by omega) (fun r115 s115 => ?_)
                      refine Z_iload (n := 118) dX4_move_116 rfl rfl ?_
                      refine Z_iast (n := 119) dX4_move_118 rfl rfl rfl (by first | decide | assumption) (by omega) (by omega) (by first | assumption | omega | decide) (by first | assumption | omega | decide) (by decide) ?_
                      have m3 : uz M98 39 (M98 38 k) k 38 = uz M55 38 p v 38 := by rw [uz_o (by decide)]; exact i98_3
                      have m4 : ∀ i : Int, 0 ≤ i → i < k + 1 → uz M98 39 (M98 38 k) k 39 (uz M55 38 p v 38 i) = i := fun i a b => by
                        rw [i98_3, uz_fn (M := M98)]
                        by_cases e : i = k
                        · rw [e, updI_s]
                        · have ne : uz M55 38 p v 38 i ≠ uz M55 38 p v 38 k := fun t => e (by
                            have y1 := (hIn i a (by omega)).2.2.2
                            have y2 := (hIn k (by omega) (by omega)).2.2.2
                            rw [t] at y1
                            exact y1.symm.trans y2)
                          rw [updI_n ne]
                          exact i98_4 i a (by omega)
                      refine Z_iinc (L' := [_, _, _, _, _, _]) (n := 122) dX4_move_119 rfl rfl (by decide) rfl rfl (by omega) rfl ?_
                      refine Z_goto (t := 98) dX4_move_122 (by decide) ?_
                      refine Z_loc (L' := [some _, some _, some _, some _, none, some _]) (lsub_same (lsub_same (lsub_same (lsub_same (lsub_none (lsub_same lsub_nil)))))) ?_
                      exact ih98 _ _ _ (by omega) (by assumption) (by first | assumption | omega | decide) (by first | assumption | omega | decide) (by exact m3) (by exact m4)
                refine Z_loc (L' := [some _, some _, some _, some _, none, some _]) (lsub_same (lsub_same (lsub_same (lsub_same (lsub_none (lsub_same lsub_nil)))))) ?_
                exact lp98 _ _ _ _ (Nat.lt_succ_self _) (by assumption) (by first | assumption | omega | decide) (by first | assumption | omega | decide) (by rfl) (by exact fun i a b => by omega)
              · refine Z_aload_n (n := 62) dX4_move_61 rfl rfl ?_
                refine Z_getA (n := 65) dX4_move_62 rfl ffX4_29 rfl rfl ?_
                refine Z_iload (n := 67) dX4_move_65 rfl rfl ?_
                refine Z_aload_n (n := 68) dX4_move_67 rfl rfl ?_
                refine Z_getA (n := 71) dX4_move_68 rfl ffX4_29 rfl rfl ?_
                refine Z_iload (n := 73) dX4_move_71 rfl rfl ?_
                refine Z_iload (n := 75) dX4_move_73 rfl rfl ?_
                refine Z_iadd (n := 76) dX4_move_75 rfl (by omega) ?_
                refine Z_iald (n := 77) dX4_move_76 rfl rfl rfl (by first | decide | assumption) (by omega) (by omega) (fun r76 s76 => ?_)
                refine Z_iast (n := 78) dX4_move_77 rfl rfl rfl (by first | decide | assumption) (by omega) (by omega) (by first | assumption | omega | decide) (by first | assumption | omega | decide) (by decide) ?_
                have n4 : s = 1 → M 39 v ≤ k + s ∧ ∀ j : Int, 0 ≤ j → j < 8 → (uz M55 38 k (M55 38 (k + s))) 38 j = mvA (M 38) (M 39 v) (k + s) (M 39 v) j := fun q => by
                  obtain ⟨z1, z2⟩ := i55_4 q
                  rw [q]
                  exact ⟨by omega, fun j a b => by rw [uz_fn]; exact (mvA_up z2 z1 (by omega) (by omega)).2 j a b⟩
                have n5 : s = -1 → k + s ≤ M 39 v ∧ ∀ j : Int, 0 ≤ j → j < 8 → (uz M55 38 k (M55 38 (k + s))) 38 j = mvA (M 38) (M 39 v) p (k + s) j := fun q => by
                  obtain ⟨z1, z2⟩ := i55_5 q
                  rw [q, show k + -1 = k - 1 by omega]
                  exact ⟨by omega, fun j a b => by rw [uz_fn]; exact (mvA_dn z2 (by omega) z1 (by omega) (by omega)).2 j a b⟩
                refine Z_iload (n := 80) dX4_move_78 rfl rfl ?_
                refine Z_iload (n := 82) dX4_move_80 rfl rfl ?_
                refine Z_iadd (n := 83) dX4_move_82 rfl (by omega) ?_
                refine Z_istore (L' := [_, _, _, _, _, _]) (n := 85) dX4_move_83 rfl (by decide) rfl rfl ?_
                refine Z_goto (t := 55) dX4_move_85 (by decide) ?_
                refine Z_loc (L' := [some _, some _, some _, some _, some _, some _]) (lsub_same (lsub_same (lsub_same (lsub_same (lsub_same (lsub_same lsub_nil)))))) ?_
                exact ih55 _ _ _ _ (by omega) (by assumption) (by first | assumption | omega | decide) (by first | assumption | omega | decide) (by first | assumption | omega | decide) (by exact n4) (by exact n5)
          refine Z_loc (L' := [some _, some _, some _, some _, some _, some _]) (lsub_same (lsub_same (lsub_same (lsub_same (lsub_same (lsub_same lsub_nil)))))) ?_
          exact lp55 _ _ _ _ _ (Nat.lt_succ_self _) (by rfl) (by first | assumption | omega | decide) (by first | assumption | omega | decide) (by first | assumption | omega | decide) (by exact fun _ => ⟨Int.le_refl _, fun j _ _ => (mv_0 (P := M 39)).1.symm⟩) (by exact fun q => ⟨Int.le_refl _, fun j _ _ => (mvA_3 (by omega) (by omega)).symm⟩)
      · refine Z_bipush (n := 32) dX4_move_30 rfl (by decide) (by decide) ?_
        refine Z_iret dX4_move_32 rfl ?_
        rcases h24 with ⟨q, -⟩ | ⟨-, q⟩
        · omega
        · exact ⟨rfl, hO, Or.inr (Or.inl ⟨by omega, q, rfl, rfl⟩)⟩
    · refine Z_bipush (n := 22) dX4_move_20 rfl (by decide) (by decide) ?_
      refine Z_iret dX4_move_22 rfl ?_
      exact ⟨rfl, hO, Or.inl ⟨by omega, rfl, rfl⟩⟩
end
