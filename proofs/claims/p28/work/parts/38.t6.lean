/-! ===== the reference's table: add, begun and done ===== -/
/-- the table's whole invariant -/
def TI (M : zM) (J : zJ) : Prop := (∃ (ch : Int → List Int) (fl : List Int), tabA M J ch fl) ∧ tabB M lo0 ∧ (∀ g : Int, 0 ≤ g → g < 56 → ¬ M 43 g = 0 → tabC M J g) ∧ (∀ n : Int, 0 ≤ n → n < 520 → M 52 n ≤ M 31 27) ∧ tabU M J
theorem ad0_31 {M : zM} {f j : Int} (h : j ≠ 27) : ad0 M f 31 j = M 31 j := by
  unfold ad0
  rw [uz_n h, uz_oo (by decide), uz_oo (by decide)]
theorem ad0_o {M : zM} {f : Int} {a : Nat} (h1 : a ≠ 31) (h2 : a ≠ 43) (h3 : a ≠ 45) : ad0 M f a = M a := by
  unfold ad0
  rw [uz_o h1, uz_o h3, uz_o h2]
theorem ad0_43 {M : zM} {f : Int} : ad0 M f 43 = updI (M 43) f 1 := by
  unfold ad0
  rw [uz_o (by decide), uz_o (by decide), uz_fn]
theorem ad0_45 {M : zM} {f : Int} : ad0 M f 45 = updI (M 45) f 0 := by
  unfold ad0
  rw [uz_o (by decide), uz_fn, uz_o (by decide)]
theorem inS_none {M : zM} {g lo n : Int} (h : M 45 g ≤ lo) : ¬ inS M g lo n := by
  rintro ⟨j, a, b, -⟩
  omega
theorem TIm_ad0 {M : zM} {J : zJ} {f : Int} (h : TI M J) (f0 : 0 ≤ f) (f1 : f < 56) (hf : M 43 f = 0) : TIm (ad0 M f) J f (M 31 27 + 1) (M 31 24) := by
  obtain ⟨⟨ch, fl, t1⟩, t2, t3, t4, tu⟩ := h
  have h45 : M 45 f = 0 := (t2.2 f f0 f1).2 hf
  have e45 : ad0 M f 45 = M 45 := by
    rw [ad0_45]
    funext j
    by_cases e : j = f
    · rw [e, updI_s, h45]
    · rw [updI_n e]
  have e46 : ad0 M f 46 = M 46 := ad0_o (by decide) (by decide) (by decide)
  have e47 : ad0 M f 47 = M 47 := ad0_o (by decide) (by decide) (by decide)
  have e49 : ad0 M f 49 = M 49 := ad0_o (by decide) (by decide) (by decide)
  have e50 : ad0 M f 50 = M 50 := ad0_o (by decide) (by decide) (by decide)
  have e51 : ad0 M f 51 = M 51 := ad0_o (by decide) (by decide) (by decide)
  have e52 : ad0 M f 52 = M 52 := ad0_o (by decide) (by decide) (by decide)
  have eS : ∀ g l m : Int, inS (ad0 M f) g l m ↔ inS M g l m := fun g l m => by unfold inS; rw [e45, e46]
  have hnf : ∀ m : Int, ¬ inS M f 0 m := fun m => inS_none (by omega)
  refine ⟨⟨ch, fl, ?_⟩, ⟨fun m m0 m1 => ?_, fun g g0 g1 => ⟨?_, fun e => ?_⟩⟩, fun g g0 g1 hg q => ?_, fun m m0 m1 => ?_, ?_, ?_, ?_, ?_⟩
  · unfold tabA
    rw [e50, e51, e47, e49, ad0_31 (by decide), ad0_31 (by decide)]
    exact t1
  · rw [e49, t2.1 m m0 m1]
    refine cfn_congr (fun g _ _ => ?_)
    rw [eS]
    by_cases e : g = f
    · subst e
      exact ⟨fun z => absurd z.2 (hnf m), fun z => absurd z.2 (hnf m)⟩
    · rw [ad0_43, updI_n e]
  · rw [e45, e46]; exact (t2.2 g g0 g1).1
  · rw [e45]
    by_cases z : g = f
    · rw [z]; exact h45
    · rw [ad0_43, updI_n z] at e; exact (t2.2 g g0 g1).2 e
  · rw [ad0_43, updI_n hg] at q
    have hm : ∀ (m d : Int) (P : Int → Int64), mtc M J m d P → mtc (ad0 M f) J m d P := fun m d P z => by
      unfold mtc at *
      rw [e47]
      exact z
    refine ⟨fun d i a b c e w => ?_, fun n hn => ?_⟩
    · obtain ⟨n, h1, h2⟩ := (t3 g g0 g1 q).1 d i a b c e w
      exact ⟨n, (eS g 0 n).mpr h1, hm _ _ _ h2⟩
    · obtain ⟨d, i, h1, h2, h3⟩ := (t3 g g0 g1 q).2 n ((eS g 0 n).mp hn)
      exact ⟨d, i, h1, h2, hm _ _ _ h3⟩
  · rw [e52, eS]
    have := t4 m m0 m1
    exact ⟨by omega, fun q => by omega, fun q => absurd q (hnf m)⟩
  · rw [ad0_43, updI_s]; decide
  · unfold ad0; rw [uz_s]
  · rw [ad0_31 (by decide), e45, h45]; omega
  · exact tabU_mv tu (fun n q => by rw [e49] at q; exact q) e47 rfl
/-- what of f is laid so far has its node -/
def cov (M : zM) (J : zJ) (B : Int → Int64) (f d i : Int) : Prop := ∀ d' i' : Int, (d' < d ∨ (d' = d ∧ i' < i)) → 0 ≤ d' → d' ≤ 7 → 0 ≤ i' → i' < zshl 1 d' → lyR B d' i' = true → ∃ n : Int, inS M f 0 n ∧ mtc M J n d' (lyP B d' i')
theorem cov_0 {M : zM} {J : zJ} {B : Int → Int64} {f : Int} : cov M J B f 0 0 := fun d' i' h a b c e q => by omega
/-- a level is done -/
theorem cov_lv {M : zM} {J : zJ} {B : Int → Int64} {f d i : Int} (h : cov M J B f d i) (hi : zshl 1 d ≤ i) : cov M J B f (d + 1) 0 := fun d' i' hh a b c e q => by
  by_cases z : d' = d
  · subst z; exact h d' i' (Or.inr ⟨rfl, by omega⟩) a b c e q
  · exact h d' i' (Or.inl (by omega)) a b c e q
theorem cov_J {M : zM} {J J' : zJ} {B : Int → Int64} {f d i : Int} (h : cov M J B f d i) (e : J' 48 = J 48) : cov M J' B f d i := fun d' i' hh a b c g q => by
  obtain ⟨n, h1, h2⟩ := h d' i' hh a b c g q
  refine ⟨n, h1, ?_⟩
  unfold mtc at *
  rw [e]
  exact h2
/-- one (d, i) more -/
theorem cov_st {M M' : zM} {J J' : zJ} {B : Int → Int64} {f d i : Int} (h : cov M J B f d i) (hm : ∀ (m d' : Int) (P : Int → Int64), inS M f 0 m → mtc M J m d' P → inS M' f 0 m ∧ mtc M' J' m d' P) (hx : lyR B d i = true → ∃ n : Int, inS M' f 0 n ∧ mtc M' J' n d (lyP B d i)) : cov M' J' B f d (i + 1) := fun d' i' hh a b c g q => by
  by_cases z : d' = d ∧ i' = i
  · obtain ⟨rfl, rfl⟩ := z; exact hx q
  · obtain ⟨n, h1, h2⟩ := h d' i' (by omega) a b c g q
    exact ⟨n, hm n d' _ h1 h2⟩
/-- each node of f so far is a laid part of B -/
def cvr (M : zM) (J : zJ) (B : Int → Int64) (f : Int) : Prop := ∀ n : Int, inS M f 0 n → ∃ d i : Int, ((0 ≤ d ∧ d ≤ 7) ∧ 0 ≤ i ∧ i < zshl 1 d) ∧ lyR B d i = true ∧ mtc M J n d (lyP B d i)
theorem cvr_J {M : zM} {J J' : zJ} {B : Int → Int64} {f : Int} (h : cvr M J B f) (e : J' 48 = J 48) : cvr M J' B f := fun n hn => by
  obtain ⟨d, i, h1, h2, h3⟩ := h n hn
  refine ⟨d, i, h1, h2, ?_⟩
  unfold mtc at *
  rw [e]
  exact h3
theorem TI_of {M : zM} {J : zJ} {f k u0 : Int} (h : TIm M J f k u0) (hc : cov M J (bitF J f) f 8 0) (hv : cvr M J (bitF J f) f) : TI M J := by
  obtain ⟨t1, t2, t3, t4, t5, t6, t7, tu⟩ := h
  refine ⟨t1, t2, fun g g0 g1 hg => ?_, fun n n0 n1 => by rw [t6]; exact (t4 n n0 n1).1, tu⟩
  by_cases e : g = f
  · subst e
    exact ⟨fun d i a b c w q => hc d i (Or.inl (by omega)) a b c w q, hv⟩
  · exact t3 g g0 g1 e hg
