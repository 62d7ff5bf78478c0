/-! ===== the reference: go, order ===== -/
abbrev kGr (a : Nat) : Prop := ¬ a = 31 ∧ ¬ (38 ≤ a ∧ a ≤ 42)
theorem hr_ltz {f : Int → Int} {v : Int} : ∀ {n : Nat}, 0 ≤ v → v < n → f v = 0 → hr f n < n
  | 0, h0, h1, _ => by omega
  | n + 1, h0, h1, h2 => by
    have h := hr_in f n
    unfold hr
    by_cases e : v = n
    · subst e
      rw [if_pos h2]
      omega
    · have := hr_ltz (n := n) h0 (by omega) h2
      split <;> omega
/-- found counts the places given -/
def fO (M : zM) : Prop := M 31 13 = hc (M 39) 8
def f31 (M M' : zM) : Prop := ∀ j : Int, j ≠ 12 → j ≠ 13 → M' 31 j = M 31 j
def goQ (M : zM) (g : Int) (M' : zM) : Prop := f31 M M' ∧ fO M' ∧ ((¬ M 40 g = 0 ∧ M' 31 12 = M 31 12 ∧ M' 40 = M 40 ∧ M' 41 = M 41 ∧ M' 42 = M 42) ∨ (hr (M' 40) 40 = hr (M 40) 40 + 1 ∧ M' 31 12 = M 31 12 + 1 ∧ M' 41 = updI (M 41) (M 31 12) g ∧ M' 42 = updI (M 42) (M 31 12) 0))
def go1 (M : zM) (g : Int) : zM := uz (uz (uz (uz M 40 g 1) 41 (M 31 12) g) 42 (M 31 12) 0) 31 12 (M 31 12 + 1)
theorem go1_o {M : zM} {g : Int} {a : Nat} (h1 : a ≠ 31) (h2 : a ≠ 40) (h3 : a ≠ 41) (h4 : a ≠ 42) : go1 M g a = M a := by
  unfold go1
  rw [uz_o h1, uz_o h4, uz_o h3, uz_o h2]
theorem go1_31 {M : zM} {g j : Int} (h : j ≠ 12) : go1 M g 31 j = M 31 j := by
  unfold go1
  rw [uz_n h, uz_oo (by decide), uz_oo (by decide), uz_oo (by decide)]
theorem go1_40 {M : zM} {g : Int} : go1 M g 40 = updI (M 40) g 1 := by
  unfold go1
  rw [uz_o (by decide), uz_o (by decide), uz_o (by decide), uz_fn]
theorem go1_41 {M : zM} {g : Int} : go1 M g 41 = updI (M 41) (M 31 12) g := by
  unfold go1
  rw [uz_o (by decide), uz_o (by decide), uz_fn, uz_o (by decide)]
theorem go1_42 {M : zM} {g : Int} : go1 M g 42 = updI (M 42) (M 31 12) 0 := by
  unfold go1
  rw [uz_o (by decide), uz_fn, uz_o (by decide), uz_o (by decide)]
theorem go1_12 {M : zM} {g : Int} : go1 M g 31 12 = M 31 12 + 1 := by
  unfold go1
  rw [uz_s]
theorem goQ_1 {M M' : zM} {g : Int} (hg : M 40 g = 0) (g0 : 0 ≤ g) (g1 : g < 40) (h31 : ∀ j : Int, j ≠ 13 → M' 31 j = go1 M g 31 j) (e : ∀ a : Nat, 40 ≤ a → a ≤ 42 → M' a = go1 M g a) (hf : fO M') : goQ M g M' := by
  refine ⟨fun j a b => (h31 j b).trans (go1_31 a), hf, Or.inr ⟨?_, (h31 12 (by decide)).trans go1_12, (e 41 (by decide) (by decide)).trans go1_41, (e 42 (by decide) (by decide)).trans go1_42⟩⟩
  rw [e 40 (by decide) (by decide), go1_40]
  exact hr_inc (v := g) g0 (by omega) hg (by rw [updI_s]; decide) (fun k hk => by rw [updI_n hk])
abbrev kOr (a : Nat) : Prop := ¬ a = 31 ∧ ¬ (38 ≤ a ∧ a ≤ 42)
def chs (f : Int → Int) : Nat → Int
  | 0 => 0
  | n + 1 => chs f n + (4 - f (n : Int))
theorem chs_in {f : Int → Int} (h : ∀ k, f k ≤ 3) : ∀ n : Nat, 0 ≤ chs f n
  | 0 => by simp [chs]
  | n + 1 => by
    have := chs_in h n
    have := h n
    unfold chs
    omega
theorem chs_out {f : Int → Int} {k v : Int} : ∀ {n : Nat}, (n : Int) ≤ k → chs (updI f k v) n = chs f n
  | 0, _ => rfl
  | n + 1, h => by
    unfold chs
    rw [chs_out (n := n) (by omega), updI_n (by omega)]
theorem chs_set {f : Int → Int} {k v : Int} : ∀ {n : Nat}, 0 ≤ k → k < n → chs (updI f k v) n = chs f n + f k - v
  | 0, h0, h1 => by omega
  | n + 1, h0, h1 => by
    unfold chs
    by_cases e : k = n
    · subst e
      rw [chs_out (Int.le_refl _), updI_s]
      omega
    · rw [chs_set (n := n) h0 (by omega), updI_n (by omega)]
      omega
theorem chs_dn {f : Int → Int} {p : Int} (h : 0 < p) : chs f p.toNat = chs f (p - 1).toNat + (4 - f (p - 1)) := by
  rw [show p.toNat = (p - 1).toNat + 1 by omega]
  show chs f (p - 1).toNat + (4 - f ((p - 1).toNat : Int)) = _
  rw [Int.toNat_of_nonneg (by omega)]
/-- the pile: gates of the net, with which of what they are told of is next -/
def plO (M0 M : zM) (net : Int) : Prop := fO M ∧ M 31 12 ≤ hr (M 40) 40 ∧ ∀ j : Int, 0 ≤ j → j < M 31 12 → M 41 j < M0 32 net ∧ M 42 j ≤ opF (M0 34 (40 * net + M 41 j))
def muO (M : zM) : Int := 5 * (40 - hr (M 40) 40) + chs (M 42) (M 31 12).toNat
theorem plO_go {M0 M M' : zM} {net g : Int} (h : plO M0 M net) (hq : goQ M g M') (hg : g < M0 32 net) (hp : 0 ≤ M 31 12) : plO M0 M' net ∧ muO M' ≤ muO M := by
  obtain ⟨h1, h2, h3⟩ := h
  obtain ⟨q1, q2, ⟨-, q4, q5, q6, q7⟩ | ⟨q4, q5, q6, q7⟩⟩ := hq
  · refine ⟨⟨q2, ?_, ?_⟩, ?_⟩
    · rw [q4, q5]; exact h2
    · rw [q4, q6, q7]; exact h3
    · unfold muO; rw [q4, q5, q7]; exact Int.le_refl _
  · refine ⟨⟨q2, ?_, fun j j0 j1 => ?_⟩, ?_⟩
    · rw [q4, q5]; omega
    · rw [q6, q7]
      by_cases e : j = M 31 12
      · rw [e, updI_s, updI_s]; exact ⟨hg, (opF_in _).1⟩
      · rw [updI_n e, updI_n e]; exact h3 j j0 (by omega)
    · unfold muO
      rw [q4, q5, q7, chs_dn (show 0 < M 31 12 + 1 by omega), show M 31 12 + 1 - 1 = M 31 12 by omega, updI_s, chs_out (by omega)]
      omega
theorem mu_in {M : zM} (hok : zOK M) : 0 ≤ muO M := by
  have h1 := hr_in (M 40) 40
  have h2 := chs_in (f := M 42) (fun k => (show 0 ≤ M 42 k ∧ M 42 k ≤ 3 from hok 42 k).2) (M 31 12).toNat
  unfold muO
  omega
theorem plO_pop {M0 M : zM} {net : Int} (h : plO M0 M net) (hok : zOK M) (hp : 0 < M 31 12) : plO M0 (uz M 31 12 (M 31 12 - 1)) net ∧ muO (uz M 31 12 (M 31 12 - 1)) < muO M := by
  obtain ⟨h1, h2, h3⟩ := h
  have o : ∀ a : Nat, a ≠ 31 → uz M 31 12 (M 31 12 - 1) a = M a := fun a ha => uz_o ha
  refine ⟨⟨?_, ?_, fun j j0 j1 => ?_⟩, ?_⟩
  · unfold fO; rw [uz_n (by decide), o 39 (by decide)]; exact h1
  · rw [uz_s, o 40 (by decide)]; omega
  · rw [uz_s] at j1
    rw [o 41 (by decide), o 42 (by decide)]
    exact h3 j j0 (by omega)
  · unfold muO
    rw [uz_s, o 40 (by decide), o 42 (by decide), chs_dn hp]
    have : 0 ≤ M 42 (M 31 12 - 1) ∧ M 42 (M 31 12 - 1) ≤ 3 := hok 42 _
    omega
theorem plO_ch {M0 M : zM} {net : Int} (h : plO M0 M net) (hp : 0 < M 31 12) (hc : M 42 (M 31 12 - 1) < opF (M0 34 (40 * net + M 41 (M 31 12 - 1)))) : plO M0 (uz M 42 (M 31 12 - 1) (M 42 (M 31 12 - 1) + 1)) net ∧ muO (uz M 42 (M 31 12 - 1) (M 42 (M 31 12 - 1) + 1)) < muO M := by
  obtain ⟨h1, h2, h3⟩ := h
  have o : ∀ a : Nat, a ≠ 42 → uz M 42 (M 31 12 - 1) (M 42 (M 31 12 - 1) + 1) a = M a := fun a ha => uz_o ha
  refine ⟨⟨?_, ?_, fun j j0 j1 => ?_⟩, ?_⟩
  · unfold fO; rw [o 31 (by decide), o 39 (by decide)]; exact h1
  · rw [o 31 (by decide), o 40 (by decide)]; exact h2
  · rw [o 31 (by decide)] at j1
    rw [o 41 (by decide), uz_fn]
    by_cases e : j = M 31 12 - 1
    · rw [e, updI_s]; exact ⟨(h3 _ (by omega) (by omega)).1, by omega⟩
    · rw [updI_n e]; exact h3 j j0 j1
  · unfold muO
    rw [o 31 (by decide), o 40 (by decide), uz_fn, chs_set (by omega) (by omega)]
    omega
