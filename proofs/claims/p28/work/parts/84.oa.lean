/-! ===== the order: what a walk and a move leave ===== -/
theorem vr_od {f : Int → oS → oS} {od od' : Int → Int} : ∀ {n : Nat} {c : Int} {s : oS}, (∀ i : Int, c ≤ i → i < c + n → od' i = od i) → vr f od' n c s = vr f od n c s
  | 0, _, _, _ => rfl
  | n + 1, c, s, h => by
    show vr f od' n (c + 1) (f (od' c) s) = vr f od n (c + 1) (f (od c) s)
    rw [h c (by omega) (by omega)]
    exact vr_od (fun i a b => h i (by omega) (by omega))
theorem vs_cg {kd kd' : Int → Int} {od od' : Int → Int → Int} {m : Int} (hb : odB kd od m) (hk : ∀ k : Int, 0 ≤ k → k < m → kd' k = kd k ∧ ∀ c : Int, 0 ≤ c → c < 3 → od' k c = od k c) : ∀ (n : Nat) (g : Int) (s : oS), 0 ≤ g → g < m → vs kd' od' n g s = vs kd od n g s := by
  intro n
  induction n with
  | zero => intro g s _ _; rfl
  | succ n ih =>
    intro g s g0 g1
    obtain ⟨e1, e2⟩ := hk g g0 g1
    show (if s.1 g = 0 then vr (vs kd' od' n) (od' g) (opF (kd' g)).toNat 0 (ent kd' od' g s) else s) = (if s.1 g = 0 then vr (vs kd od n) (od g) (opF (kd g)).toNat 0 (ent kd od g s) else s)
    have ee : ent kd' od' g s = ent kd od g s := by
      unfold ent
      rw [e1, e2 0 (by decide) (by decide)]
    have h3 := opF_in (kd g)
    rw [e1, ee]
    by_cases q : s.1 g = 0
    · rw [if_pos q, if_pos q, vr_od (od := od g) (od' := od' g) (fun i a b => e2 i (by omega) (by omega))]
      refine vr_cg (fun i a b t => ?_)
      have z := hb g g0 g1 i (by omega) (by omega)
      exact ih _ t z.1 (by omega)
    · rw [if_neg q, if_neg q]
/-- what is placed is placed once -/
def pW (s : oS) : Prop := 0 ≤ s.2.2.2 ∧ (∀ v : Int, 0 ≤ v → v < 8 → s.2.1 v = -1 ∨ (0 ≤ s.2.1 v ∧ s.2.1 v < s.2.2.2 ∧ s.2.2.1 (s.2.1 v) = v)) ∧ ∀ k : Int, 0 ≤ k → k < s.2.2.2 → 0 ≤ s.2.2.1 k ∧ s.2.2.1 k < 8 ∧ s.2.1 (s.2.2.1 k) = k
theorem pW_mt {v : Int} {s : oS} (v0 : 0 ≤ v) (v1 : v < 8) (h : pW s) : pW (mt v s) := by
  obtain ⟨a, P, A, m⟩ := s
  have h0 : 0 ≤ m := h.1
  have h1 : ∀ v : Int, 0 ≤ v → v < 8 → P v = -1 ∨ (0 ≤ P v ∧ P v < m ∧ A (P v) = v) := h.2.1
  have h2 : ∀ k : Int, 0 ≤ k → k < m → 0 ≤ A k ∧ A k < 8 ∧ P (A k) = k := h.2.2
  by_cases q : P v = -1
  · have e : mt v (a, P, A, m) = (a, updI P v m, updI A m v, m + 1) := if_pos q
    rw [e]
    refine ⟨show 0 ≤ m + 1 by omega, fun w w0 w1 => ?_, fun k k0 k1 => ?_⟩
    · show updI P v m w = -1 ∨ (0 ≤ updI P v m w ∧ updI P v m w < m + 1 ∧ updI A m v (updI P v m w) = w)
      by_cases e : w = v
      · right
        rw [e, updI_s, updI_s]
        exact ⟨h0, by omega, rfl⟩
      · rw [updI_n e]
        rcases h1 w w0 w1 with z | ⟨z1, z2, z3⟩
        · exact Or.inl z
        · right
          rw [updI_n (show P w ≠ m by omega)]
          exact ⟨z1, by omega, z3⟩
    · show 0 ≤ updI A m v k ∧ updI A m v k < 8 ∧ updI P v m (updI A m v k) = k
      have k2 : k < m + 1 := k1
      by_cases e : k = m
      · rw [e, updI_s, updI_s]
        exact ⟨v0, v1, rfl⟩
      · obtain ⟨z1, z2, z3⟩ := h2 k k0 (by omega)
        have ne : A k ≠ v := fun t => by
          rw [t, q] at z3
          omega
        rw [updI_n e, updI_n ne]
        exact ⟨z1, z2, z3⟩
  · have e : mt v (a, P, A, m) = (a, P, A, m) := if_neg q
    rw [e]
    exact h
theorem pW_vr {f : Int → oS → oS} {od : Int → Int} : ∀ {n : Nat} {c : Int} {s : oS}, (∀ i : Int, c ≤ i → i < c + n → ∀ s, pW s → pW (f (od i) s)) → pW s → pW (vr f od n c s)
  | 0, _, _, _, h => h
  | n + 1, c, s, h, hs => pW_vr (n := n) (c := c + 1) (fun i a b => h i (by omega) (by omega)) (h c (by omega) (by omega) s hs)
theorem pW_ent {kd : Int → Int} {od : Int → Int → Int} {g : Int} {s : oS} (hv : kd g = 0 → 0 ≤ od g 0 ∧ od g 0 < 8) (h : pW s) : pW (ent kd od g s) := by
  unfold ent
  by_cases q : kd g = 0
  · rw [if_pos q]
    exact pW_mt (hv q).1 (hv q).2 h
  · rw [if_neg q]
    exact h
theorem pW_vs {kd : Int → Int} {od : Int → Int → Int} {m : Int} (hb : odB kd od m) (hv : ∀ g : Int, 0 ≤ g → g < m → kd g = 0 → 0 ≤ od g 0 ∧ od g 0 < 8) : ∀ (n : Nat) (g : Int) (s : oS), 0 ≤ g → g < m → pW s → pW (vs kd od n g s) := by
  intro n
  induction n with
  | zero => intro g s _ _ h; exact h
  | succ n ih =>
    intro g s g0 g1 h
    show pW (if s.1 g = 0 then vr (vs kd od n) (od g) (opF (kd g)).toNat 0 (ent kd od g s) else s)
    by_cases q : s.1 g = 0
    · rw [if_pos q]
      have h3 := opF_in (kd g)
      refine pW_vr (fun i a b t ht => ?_) (pW_ent (hv g g0 g1) h)
      have z := hb g g0 g1 i (by omega) (by omega)
      exact ih _ t z.1 (by omega) ht
    · rw [if_neg q]
      exact h
/-- nothing met, no gate gone into -/
def o0 (A : Int → Int) : oS := (rs 40 (fun _ => 0), rs 8 (fun _ => -1), rs 8 A, 0)
/-- the others are met -/
def oF (s : oS) : oS := vr mt (fun c => c) 8 0 s
theorem pW_0 {A : Int → Int} : pW (o0 A) := ⟨show (0 : Int) ≤ 0 by decide, fun v a b => Or.inl (rs_in (f := fun _ => (-1 : Int)) a b), fun k a b => by have b' : k < 0 := b; omega⟩
theorem pW_F {s : oS} (h : pW s) : pW (oF s) := pW_vr (fun i a b t ht => pW_mt (v := i) (by omega) (by omega) ht) h
/-- one is the other's inverse -/
def oIn (A P : Int → Int) : Prop := ∀ v : Int, 0 ≤ v → v < 8 → (0 ≤ P v ∧ P v < 8 ∧ A (P v) = v) ∧ (0 ≤ A v ∧ A v < 8 ∧ P (A v) = v)
theorem oIn_cg {A A' P P' : Int → Int} (hA : ∀ j : Int, 0 ≤ j → j < 8 → A' j = A j) (hP : ∀ j : Int, 0 ≤ j → j < 8 → P' j = P j) (h : oIn A P) : oIn A' P' := fun v a b => by
  obtain ⟨⟨p1, p2, p3⟩, q1, q2, q3⟩ := h v a b
  have e1 : A' (P' v) = v := by rw [hP v a b, hA _ p1 p2]; exact p3
  have e2 : P' (A' v) = v := by rw [hA v a b, hP _ q1 q2]; exact q3
  rw [e1, e2, hP v a b, hA v a b]
  exact ⟨⟨p1, p2, rfl⟩, q1, q2, rfl⟩
theorem oIn_rs {A P : Int → Int} (h : oIn (rs 8 A) (rs 8 P)) : oIn A P := oIn_cg (fun _ a b => (rs_in a b).symm) (fun _ a b => (rs_in a b).symm) h
theorem oIn_F {s : oS} (h : pW s) (h8 : s.2.2.2 = 8) (hP : ∀ v : Int, 0 ≤ v → v < 8 → 0 ≤ s.2.1 v) : oIn s.2.2.1 s.2.1 := fun v a b => by
  have z := (h.2.1 v a b).resolve_left (fun t => by have := hP v a b; omega)
  exact ⟨⟨z.1, by omega, z.2.2⟩, h.2.2 v a (by omega)⟩
theorem hc_all {f : Int → Int} : ∀ {n : Nat}, (∀ k : Int, 0 ≤ k → k < n → ¬ f k = -1) → hc f n = n
  | 0, _ => rfl
  | n + 1, h => by
    unfold hc
    rw [hc_all (n := n) (fun k a b => h k a (by omega)), if_neg (h n (by omega) (by omega))]
    omega
/-- the places between f and a move down, those between b and f move up -/
def mvA (A : Int → Int) (f a b : Int) : Int → Int := fun j => if f ≤ j ∧ j < a then A (j + 1) else if b < j ∧ j ≤ f then A (j - 1) else A j
def mvP (P : Int → Int) (f a b : Int) : Int → Int := fun w => if f < P w ∧ P w ≤ a then P w - 1 else if b ≤ P w ∧ P w < f then P w + 1 else P w
theorem mvA_1 {A : Int → Int} {f a b j : Int} (h : f ≤ j ∧ j < a) : mvA A f a b j = A (j + 1) := if_pos h
theorem mvA_2 {A : Int → Int} {f a b j : Int} (h : ¬ (f ≤ j ∧ j < a)) (h' : b < j ∧ j ≤ f) : mvA A f a b j = A (j - 1) := (if_neg h).trans (if_pos h')
theorem mvA_3 {A : Int → Int} {f a b j : Int} (h : ¬ (f ≤ j ∧ j < a)) (h' : ¬ (b < j ∧ j ≤ f)) : mvA A f a b j = A j := (if_neg h).trans (if_neg h')
theorem mvP_1 {P : Int → Int} {f a b w : Int} (h : f < P w ∧ P w ≤ a) : mvP P f a b w = P w - 1 := if_pos h
theorem mvP_2 {P : Int → Int} {f a b w : Int} (h : ¬ (f < P w ∧ P w ≤ a)) (h' : b ≤ P w ∧ P w < f) : mvP P f a b w = P w + 1 := (if_neg h).trans (if_pos h')
theorem mvP_3 {P : Int → Int} {f a b w : Int} (h : ¬ (f < P w ∧ P w ≤ a)) (h' : ¬ (b ≤ P w ∧ P w < f)) : mvP P f a b w = P w := (if_neg h).trans (if_neg h')
/-- variable v moved to place p -/
def mvQ (A P A' P' : Int → Int) (v p : Int) : Prop := (∀ j : Int, 0 ≤ j → j < 8 → A' j = updI (mvA A (P v) p p) p v j) ∧ ∀ w : Int, 0 ≤ w → w < 8 → P' w = updI (mvP P (P v) p p) v p w
theorem mv_in {A P A' P' : Int → Int} {v p : Int} (h : oIn A P) (v0 : 0 ≤ v) (v1 : v < 8) (p0 : 0 ≤ p) (p1 : p < 8) (hq : mvQ A P A' P' v p) : oIn A' P' := by
  obtain ⟨hA, hP⟩ := hq
  obtain ⟨⟨f0, f1, fv⟩, -⟩ := h v v0 v1
  obtain ⟨f, hf⟩ : ∃ f, f = P v := ⟨_, rfl⟩
  rw [← hf] at hA hP f0 f1 fv
  intro w w0 w1
  constructor
  · obtain ⟨⟨k0, k1, k2⟩, -⟩ := h w w0 w1
    obtain ⟨k, hk⟩ : ∃ k, k = P w := ⟨_, rfl⟩
    rw [← hk] at k0 k1 k2
    by_cases e : w = v
    · have ex : P' w = p := by rw [hP w w0 w1, e, updI_s]
      rw [ex, hA p p0 p1, updI_s]
      exact ⟨p0, p1, e.symm⟩
    · have kf : k ≠ f := fun t => e (k2.symm.trans (by rw [t]; exact fv))
      have ex : P' w = mvP P f p p w := (hP w w0 w1).trans (updI_n e)
      by_cases c1 : f < k ∧ k ≤ p
      · have ey : P' w = k - 1 := by rw [ex, mvP_1 (show f < P w ∧ P w ≤ p by rw [← hk]; exact c1), ← hk]
        rw [ey, hA (k - 1) (by omega) (by omega), updI_n (show k - 1 ≠ p by omega), mvA_1 (show f ≤ k - 1 ∧ k - 1 < p by omega), show k - 1 + 1 = k by omega]
        exact ⟨by omega, by omega, k2⟩
      · by_cases c2 : p ≤ k ∧ k < f
        · have ey : P' w = k + 1 := by rw [ex, mvP_2 (show ¬ (f < P w ∧ P w ≤ p) by rw [← hk]; exact c1) (show p ≤ P w ∧ P w < f by rw [← hk]; exact c2), ← hk]
          rw [ey, hA (k + 1) (by omega) (by omega), updI_n (show k + 1 ≠ p by omega), mvA_2 (show ¬ (f ≤ k + 1 ∧ k + 1 < p) by omega) (show p < k + 1 ∧ k + 1 ≤ f by omega), show k + 1 - 1 = k by omega]
          exact ⟨by omega, by omega, k2⟩
        · have ey : P' w = k := by rw [ex, mvP_3 (show ¬ (f < P w ∧ P w ≤ p) by rw [← hk]; exact c1) (show ¬ (p ≤ P w ∧ P w < f) by rw [← hk]; exact c2), ← hk]
          rw [ey, hA k k0 k1, updI_n (show k ≠ p by omega), mvA_3 (show ¬ (f ≤ k ∧ k < p) by omega) (show ¬ (p < k ∧ k ≤ f) by omega)]
          exact ⟨k0, k1, k2⟩
  · by_cases e : w = p
    · have ex : A' w = v := by rw [hA w w0 w1, e, updI_s]
      rw [ex, hP v v0 v1, updI_s]
      exact ⟨v0, v1, e.symm⟩
    · have eA : A' w = mvA A f p p w := (hA w w0 w1).trans (updI_n e)
      by_cases c1 : f ≤ w ∧ w < p
      · obtain ⟨-, q0, q1, q2⟩ := h (w + 1) (by omega) (by omega)
        have ex : A' w = A (w + 1) := eA.trans (mvA_1 c1)
        have ne : A (w + 1) ≠ v := fun t => by
          rw [t, ← hf] at q2
          omega
        have ey : P' (A (w + 1)) = w := by
          rw [hP _ q0 q1, updI_n ne, mvP_1 (show f < P (A (w + 1)) ∧ P (A (w + 1)) ≤ p by rw [q2]; omega), q2]
          omega
        rw [ex, ey]
        exact ⟨q0, q1, rfl⟩
      · by_cases c2 : p < w ∧ w ≤ f
        · obtain ⟨-, q0, q1, q2⟩ := h (w - 1) (by omega) (by omega)
          have ex : A' w = A (w - 1) := eA.trans (mvA_2 c1 c2)
          have ne : A (w - 1) ≠ v := fun t => by
            rw [t, ← hf] at q2
            omega
          have ey : P' (A (w - 1)) = w := by
            rw [hP _ q0 q1, updI_n ne, mvP_2 (show ¬ (f < P (A (w - 1)) ∧ P (A (w - 1)) ≤ p) by rw [q2]; omega) (show p ≤ P (A (w - 1)) ∧ P (A (w - 1)) < f by rw [q2]; omega), q2]
            omega
          rw [ex, ey]
          exact ⟨q0, q1, rfl⟩
        · obtain ⟨-, q0, q1, q2⟩ := h w w0 w1
          have ex : A' w = A w := eA.trans (mvA_3 c1 c2)
          have ne : A w ≠ v := fun t => by
            rw [t, ← hf] at q2
            omega
          have ey : P' (A w) = w := by
            rw [hP _ q0 q1, updI_n ne, mvP_3 (show ¬ (f < P (A w) ∧ P (A w) ≤ p) by rw [q2]; omega) (show ¬ (p ≤ P (A w) ∧ P (A w) < f) by rw [q2]; omega), q2]
          rw [ex, ey]
          exact ⟨q0, q1, rfl⟩
theorem mv_sy {A B P Q A' B' P' Q' : Int → Int} {v p : Int} (h : ∀ j : Int, 0 ≤ j → j < 8 → A j = B j ∧ P j = Q j) (v0 : 0 ≤ v) (v1 : v < 8) (p0 : 0 ≤ p) (p1 : p < 8) (f0 : 0 ≤ P v) (f1 : P v < 8) (h1 : mvQ A P A' P' v p) (h2 : mvQ B Q B' Q' v p) : ∀ j : Int, 0 ≤ j → j < 8 → A' j = B' j ∧ P' j = Q' j := by
  intro j j0 j1
  obtain ⟨a1, a2⟩ := h1
  obtain ⟨b1, b2⟩ := h2
  rw [a1 j j0 j1, a2 j j0 j1, b1 j j0 j1, b2 j j0 j1, ← (h v v0 v1).2]
  constructor
  · by_cases e : j = p
    · rw [e, updI_s, updI_s]
    · rw [updI_n e, updI_n e]
      by_cases c1 : P v ≤ j ∧ j < p
      · rw [mvA_1 c1, mvA_1 c1]
        exact (h (j + 1) (by omega) (by omega)).1
      · by_cases c2 : p < j ∧ j ≤ P v
        · rw [mvA_2 c1 c2, mvA_2 c1 c2]
          exact (h (j - 1) (by omega) (by omega)).1
        · rw [mvA_3 c1 c2, mvA_3 c1 c2]
          exact (h j j0 j1).1
  · by_cases e : j = v
    · rw [e, updI_s, updI_s]
    · rw [updI_n e, updI_n e]
      show (if P v < P j ∧ P j ≤ p then P j - 1 else if p ≤ P j ∧ P j < P v then P j + 1 else P j) = (if P v < Q j ∧ Q j ≤ p then Q j - 1 else if p ≤ Q j ∧ Q j < P v then Q j + 1 else Q j)
      rw [(h j j0 j1).2]
theorem mvA_up {A A1 : Int → Int} {f q : Int} (h : ∀ j : Int, 0 ≤ j → j < 8 → A1 j = mvA A f q f j) (fq : f ≤ q) (q0 : 0 ≤ q) (q1 : q + 1 < 8) : A1 (q + 1) = A (q + 1) ∧ ∀ j : Int, 0 ≤ j → j < 8 → updI A1 q (A1 (q + 1)) j = mvA A f (q + 1) f j := by
  have e : A1 (q + 1) = A (q + 1) := (h (q + 1) (by omega) q1).trans (mvA_3 (by omega) (by omega))
  refine ⟨e, fun j j0 j1 => ?_⟩
  by_cases c : j = q
  · rw [c, updI_s, e, mvA_1 (show f ≤ q ∧ q < q + 1 by omega)]
  · rw [updI_n c, h j j0 j1]
    by_cases d : f ≤ j ∧ j < q
    · rw [mvA_1 d, mvA_1 (show f ≤ j ∧ j < q + 1 by omega)]
    · rw [mvA_3 d (show ¬ (f < j ∧ j ≤ f) by omega), mvA_3 (show ¬ (f ≤ j ∧ j < q + 1) by omega) (show ¬ (f < j ∧ j ≤ f) by omega)]
theorem mvP_up {A P P1 : Int → Int} {f q : Int} (hI : oIn A P) (h : ∀ j : Int, 0 ≤ j → j < 8 → P1 j = mvP P f q f j) (fq : f ≤ q) (q0 : 0 ≤ q) (q1 : q + 1 < 8) : ∀ w : Int, 0 ≤ w → w < 8 → updI P1 (A (q + 1)) q w = mvP P f (q + 1) f w := by
  intro w w0 w1
  obtain ⟨-, -, -, e⟩ := hI (q + 1) (by omega) q1
  by_cases c : w = A (q + 1)
  · rw [c, updI_s, mvP_1 (show f < P (A (q + 1)) ∧ P (A (q + 1)) ≤ q + 1 by rw [e]; omega), e]
    omega
  · have ne : P w ≠ q + 1 := fun t => c ((hI w w0 w1).1.2.2.symm.trans (by rw [t]))
    rw [updI_n c, h w w0 w1]
    by_cases d : f < P w ∧ P w ≤ q
    · rw [mvP_1 d, mvP_1 (show f < P w ∧ P w ≤ q + 1 by omega)]
    · rw [mvP_3 d (show ¬ (f ≤ P w ∧ P w < f) by omega), mvP_3 (show ¬ (f < P w ∧ P w ≤ q + 1) by omega) (show ¬ (f ≤ P w ∧ P w < f) by omega)]
theorem mvA_dn {A A1 : Int → Int} {f p q : Int} (h : ∀ j : Int, 0 ≤ j → j < 8 → A1 j = mvA A f p q j) (pq : p < q) (qf : q ≤ f) (p0 : 0 ≤ p) (q1 : q < 8) : A1 (q - 1) = A (q - 1) ∧ ∀ j : Int, 0 ≤ j → j < 8 → updI A1 q (A1 (q - 1)) j = mvA A f p (q - 1) j := by
  have e : A1 (q - 1) = A (q - 1) := (h (q - 1) (by omega) (by omega)).trans (mvA_3 (by omega) (by omega))
  refine ⟨e, fun j j0 j1 => ?_⟩
  by_cases c : j = q
  · rw [c, updI_s, e, mvA_2 (show ¬ (f ≤ q ∧ q < p) by omega) (show q - 1 < q ∧ q ≤ f by omega)]
  · rw [updI_n c, h j j0 j1]
    by_cases d : q < j ∧ j ≤ f
    · rw [mvA_2 (show ¬ (f ≤ j ∧ j < p) by omega) d, mvA_2 (show ¬ (f ≤ j ∧ j < p) by omega) (show q - 1 < j ∧ j ≤ f by omega)]
    · rw [mvA_3 (show ¬ (f ≤ j ∧ j < p) by omega) d, mvA_3 (show ¬ (f ≤ j ∧ j < p) by omega) (show ¬ (q - 1 < j ∧ j ≤ f) by omega)]
theorem mvP_dn {A P P1 : Int → Int} {f p q : Int} (hI : oIn A P) (h : ∀ j : Int, 0 ≤ j → j < 8 → P1 j = mvP P f p q j) (pq : p < q) (qf : q ≤ f) (p0 : 0 ≤ p) (q1 : q < 8) : ∀ w : Int, 0 ≤ w → w < 8 → updI P1 (A (q - 1)) q w = mvP P f p (q - 1) w := by
  intro w w0 w1
  obtain ⟨-, -, -, e⟩ := hI (q - 1) (by omega) (by omega)
  by_cases c : w = A (q - 1)
  · rw [c, updI_s, mvP_2 (show ¬ (f < P (A (q - 1)) ∧ P (A (q - 1)) ≤ p) by rw [e]; omega) (show q - 1 ≤ P (A (q - 1)) ∧ P (A (q - 1)) < f by rw [e]; omega), e]
    omega
  · have ne : P w ≠ q - 1 := fun t => c ((hI w w0 w1).1.2.2.symm.trans (by rw [t]))
    rw [updI_n c, h w w0 w1]
    by_cases d : q ≤ P w ∧ P w < f
    · rw [mvP_2 (show ¬ (f < P w ∧ P w ≤ p) by omega) d, mvP_2 (show ¬ (f < P w ∧ P w ≤ p) by omega) (show q - 1 ≤ P w ∧ P w < f by omega)]
    · rw [mvP_3 (show ¬ (f < P w ∧ P w ≤ p) by omega) d, mvP_3 (show ¬ (f < P w ∧ P w ≤ p) by omega) (show ¬ (q - 1 ≤ P w ∧ P w < f) by omega)]
theorem mv_ex {A P : Int → Int} {f p q j : Int} (h1 : p ≤ q) (h2 : f ≤ q) (h3 : q ≤ p ∨ q = f) : mvA A f q f j = mvA A f p f j ∧ mvP P f q f j = mvP P f p f j := by
  by_cases e : q = p
  · rw [e]
    exact ⟨rfl, rfl⟩
  · rw [mvA_3 (show ¬ (f ≤ j ∧ j < q) by omega) (show ¬ (f < j ∧ j ≤ f) by omega), mvA_3 (show ¬ (f ≤ j ∧ j < p) by omega) (show ¬ (f < j ∧ j ≤ f) by omega), mvP_3 (show ¬ (f < P j ∧ P j ≤ q) by omega) (show ¬ (f ≤ P j ∧ P j < f) by omega), mvP_3 (show ¬ (f < P j ∧ P j ≤ p) by omega) (show ¬ (f ≤ P j ∧ P j < f) by omega)]
    exact ⟨rfl, rfl⟩
theorem mv_ey {A P : Int → Int} {f p q j : Int} (h1 : q ≤ p) (h2 : q ≤ f) (h3 : p ≤ q ∨ q = f) : mvA A f p q j = mvA A f p p j ∧ mvP P f p q j = mvP P f p p j := by
  by_cases e : q = p
  · rw [e]
    exact ⟨rfl, rfl⟩
  · constructor
    · by_cases c : f ≤ j ∧ j < p
      · rw [mvA_1 c, mvA_1 c]
      · rw [mvA_3 c (show ¬ (q < j ∧ j ≤ f) by omega), mvA_3 c (show ¬ (p < j ∧ j ≤ f) by omega)]
    · by_cases c : f < P j ∧ P j ≤ p
      · rw [mvP_1 c, mvP_1 c]
      · rw [mvP_3 c (show ¬ (q ≤ P j ∧ P j < f) by omega), mvP_3 c (show ¬ (p ≤ P j ∧ P j < f) by omega)]
theorem mv_0 {A P : Int → Int} {f j : Int} : mvA A f f f j = A j ∧ mvP P f f f j = P j := ⟨mvA_3 (by omega) (by omega), mvP_3 (by omega) (by omega)⟩
/-- the class's state of a walk -/
def sc (b : Nat) (M : zM) : oS := (rs 40 (M (b + 4)), rs 8 (M 4), rs 8 (M 3), M 2 2)
theorem sc_see {b : Nat} {M : zM} {g : Int} (hb : 4 < b) (g0 : 0 ≤ g) (g1 : g < 40) : sc b (uz M (b + 4) g 1) = (updI (sc b M).1 g 1, (sc b M).2) := by
  unfold sc
  rw [uz_fn, uz_o (show (4 : Nat) ≠ b + 4 by omega), uz_o (show (3 : Nat) ≠ b + 4 by omega), uz_o (show (2 : Nat) ≠ b + 4 by omega), rs_up g0 g1]
theorem sc_fr {b : Nat} {M M' : zM} (e2 : M' 2 = M 2) (e3 : M' 3 = M 3) (e4 : M' 4 = M 4) (eb : M' (b + 4) = M (b + 4)) : sc b M' = sc b M := by
  unfold sc
  rw [e2, e3, e4, eb]
theorem sc_meet {b : Nat} {M M' : zM} {v : Int} (hb : 4 < b) (v0 : 0 ≤ v) (v1 : v < 8) (hm : oMet M) (ok : zOK M) (h : (M 4 v = -1 ∧ M 2 2 < 8 ∧ M' = uz (uz (uz M 3 (M 2 2) v) 4 v (M 2 2)) 2 2 (M 2 2 + 1)) ∨ ((¬ M 4 v = -1 ∨ 8 ≤ M 2 2) ∧ M' = M)) : oMet M' ∧ sc b M' = mt v (sc b M) := by
  rcases h with ⟨a, c, e⟩ | ⟨a, e⟩
  · have h0 : 0 ≤ M 2 2 := (ok 2 2).1
    have e4 : M' 4 = updI (M 4) v (M 2 2) := by rw [e, uz_o (by decide), uz_fn, uz_o (by decide)]
    have e3 : M' 3 = updI (M 3) (M 2 2) v := by rw [e, uz_o (by decide), uz_o (by decide), uz_fn]
    have eb : M' (b + 4) = M (b + 4) := by rw [e, uz_o (by omega), uz_o (by omega), uz_o (by omega)]
    have e2 : M' 2 2 = M 2 2 + 1 := by rw [e, uz_s]
    refine ⟨by rw [e]; exact oMet_meet v0 v1 hm ok a, ?_⟩
    have q : rs 8 (M 4) v = -1 := (rs_in v0 v1).trans a
    have t : sc b M' = (rs 40 (M (b + 4)), updI (rs 8 (M 4)) v (M 2 2), updI (rs 8 (M 3)) (M 2 2) v, M 2 2 + 1) := by
      unfold sc
      rw [e4, e3, eb, e2, rs_up v0 v1, rs_up h0 c]
    rw [t]
    exact (if_pos q).symm
  · have q : ¬ rs 8 (M 4) v = -1 := fun t => by
      rw [rs_in v0 v1] at t
      have z := hc_lt (f := M 4) (n := 8) v0 (by omega) t
      have hm' : M 2 2 = hc (M 4) 8 := hm
      omega
    rw [e]
    exact ⟨hm, (if_neg q).symm⟩
/-- the reference's -/
def sr (M : zM) : oS := (rs 40 (M 40), rs 8 (M 39), rs 8 (M 38), M 31 13)
/-- an order's answer and what it leaves -/
def orQ (D : oS) (x : Int) (A' P' : Int → Int) : Prop := x = D.2.2.2 ∧ rs 8 P' = (oF D).2.1 ∧ rs 8 A' = (oF D).2.2.1
theorem or_sy {D : oS} {x y : Int} {A P B Q : Int → Int} (h1 : orQ D x A P) (h2 : orQ D y B Q) : x = y ∧ ∀ j : Int, 0 ≤ j → j < 8 → A j = B j ∧ P j = Q j := by
  refine ⟨h1.1.trans h2.1.symm, fun j a b => ⟨?_, ?_⟩⟩
  · rw [← rs_in (f := A) a b, ← rs_in (f := B) a b, h1.2.2, h2.2.2]
  · rw [← rs_in (f := P) a b, ← rs_in (f := Q) a b, h1.2.1, h2.2.1]
