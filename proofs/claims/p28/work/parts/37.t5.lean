/-! ===== the reference's table: nodeFor and the count ===== -/
theorem nfM_o {M : zM} {d b : Int} {a : Nat} (h : a = 43 ∨ a = 45 ∨ a = 46 ∨ a = 52) : nfM M d b a = M a := by
  unfold nfM
  rw [uz_o (by omega), uz_o (by omega), uz_o (by omega), uz_o (by omega), uz_o (by omega)]
theorem nf_keep {M : zM} {J J' : zJ} {d b n m d' : Int} {P : Int → Int64} (hn : n = M 31 23) (hm : m ≠ n) (hJ2 : ∀ j : Int, (j < 4 * n ∨ 4 * n + 4 ≤ j) → J' 48 j = J 48 j) (h : mtc M J m d' P) : mtc (nfM M d b) J' m d' P := by
  obtain ⟨h0, h1, h2, h3, h4⟩ := h
  refine ⟨?_, ?_, ?_, ?_, ?_⟩
  · rw [nfM_47, ← hn, updI_n hm]; exact h0
  · rw [hJ2 _ (by omega)]; exact h1
  · rw [hJ2 _ (by omega)]; exact h2
  · rw [hJ2 _ (by omega)]; exact h3
  · rw [hJ2 _ (by omega)]; exact h4
theorem push_new {M : zM} {J J' : zJ} {f k u0 d n b : Int} (hT : TIm M J f k u0) (hok : zOK M) (f0 : 0 ≤ f) (f1 : f < 56) (hn : n = M 31 23) (n0 : 0 ≤ n) (hb : b = bkt d (J 53)) (hJ1 : ∀ j : Int, 0 ≤ j → j < 4 → J' 48 (4 * n + j) = J 53 j) (hJ2 : ∀ j : Int, (j < 4 * n ∨ 4 * n + 4 ≤ j) → J' 48 j = J 48 j) (h44 : J' 44 = J 44) (hnm : M 45 f ≤ 254) (hnl : ∀ m : Int, 0 ≤ m → m < 520 → ¬ M 49 m = 0 → ¬ mtc M J m d (J 53)) : n < 520 ∧ ¬ nfM M d b 52 n = k ∧ nfM M d b 49 n = 0 ∧ TIm (puM (nfM M d b) f n) J' f k u0 ∧ mtc (nfM M d b) J' n d (J 53) ∧ ∀ (m d' : Int) (P : Int → Int64), inS M f 0 m → mtc M J m d' P → mtc (nfM M d b) J' m d' P := by
  obtain ⟨⟨ch, fl, t1⟩, t2, t3, t4, t5, t6, t7, tu⟩ := hT
  have hM : ∀ g : Int, 0 ≤ M 45 g ∧ M 45 g ≤ 255 := fun g => hok 45 g
  have hfl := t1.2.1
  obtain ⟨fl', hfe, -, n1, -⟩ := chn_cons hfl.1 (by omega)
  rw [← hn] at n1 hfe
  have hz : M 49 n = 0 := hfl.2.2 n (by rw [hfe]; exact List.mem_cons_self)
  have hno : ∀ g : Int, 0 ≤ g → g < 56 → ¬ M 43 g = 0 → ¬ inS M g 0 n := fun g g0 g1 hg q => held_of t2 g0 g1 n0 n1 hg q hz
  have e43 : nfM M d b 43 = M 43 := nfM_o (by decide)
  have e45 : nfM M d b 45 = M 45 := nfM_o (by decide)
  have e46 : nfM M d b 46 = M 46 := nfM_o (by decide)
  have e52 : nfM M d b 52 = M 52 := nfM_o (by decide)
  have e49 : nfM M d b 49 = M 49 := by
    rw [nfM_49, ← hn]
    funext j
    by_cases e : j = n
    · rw [e, updI_s, hz]
    · rw [updI_n e]
  have eS : ∀ g l m : Int, inS (nfM M d b) g l m ↔ inS M g l m := fun g l m => by unfold inS; rw [e45, e46]
  have hM' : ∀ g : Int, 0 ≤ nfM M d b 45 g ∧ nfM M d b 45 g ≤ 255 := fun g => by rw [e45]; exact hM g
  have tB : tabB (nfM M d b) lo0 := by
    refine ⟨fun m m0 m1 => ?_, fun g g0 g1 => ?_⟩
    · rw [e49, t2.1 m m0 m1]
      exact cfn_congr (fun g _ _ => by rw [e43, eS])
    · rw [e45, e46, e43]; exact t2.2 g g0 g1
  have hk : ¬ nfM M d b 52 n = k := by
    rw [e52]
    exact fun q => hno f f0 f1 t5 ((t4 n n0 n1).2.mp q)
  have z49 : nfM M d b 49 n = 0 := by rw [e49]; exact hz
  have p43 : puM (nfM M d b) f n 43 = M 43 := by rw [puM_o (by decide), e43]
  refine ⟨n1, hk, z49, ⟨?_, ?_, fun g g0 g1 hg q => ?_, fun m m0 m1 => ?_, by rw [p43]; exact t5, by rw [puM_23 (by decide), nfM_31 (by decide)]; exact t6, ?_, ?_⟩, ?_, fun m d' P hm q => ?_⟩
  · exact tabA_new t1 hn n0 hb hJ1 hJ2
  · exact tabB_pu tB hM' f0 f1 n0 n1 (by rw [e43]; exact t5) (by rw [e45]; omega) (by rw [eS]; exact hno f f0 f1 t5)
  · rw [p43] at q
    refine tabC_pu ⟨?_, ?_⟩ hg hM' f0 g0 (by rw [e45]; omega)
    · intro d1 i1 a1 a2 a3 a4 a5
      rw [bitF_congr h44 g] at a5 ⊢
      obtain ⟨m, h1, h2⟩ := (t3 g g0 g1 hg q).1 d1 i1 a1 a2 a3 a4 a5
      exact ⟨m, (eS g 0 m).mpr h1, nf_keep hn (fun z => hno g g0 g1 q (by rw [← z]; exact h1)) hJ2 h2⟩
    · intro m hm
      rw [bitF_congr h44 g]
      have h1 := (eS g 0 m).mp hm
      obtain ⟨d1, i1, a1, a2, a3⟩ := (t3 g g0 g1 hg q).2 m h1
      exact ⟨d1, i1, a1, a2, nf_keep hn (fun z => hno g g0 g1 q (by rw [← z]; exact h1)) hJ2 a3⟩
  · rw [puM_52, nfM_31 (by decide), t6, puM_inS f0 f0 hM' (by rw [e45]; omega) (by decide) (hM' f).1, eS, e52]
    by_cases e : m = n
    · subst e
      rw [updI_s]
      exact ⟨by omega, fun _ => Or.inr ⟨rfl, rfl⟩, fun _ => rfl⟩
    · rw [updI_n e]
      exact ⟨(t4 m m0 m1).1, fun q => Or.inl ((t4 m m0 m1).2.mp q), fun q => (t4 m m0 m1).2.mpr (q.resolve_right (fun z => e z.2))⟩
  · rw [puM_24, if_pos z49, puM_45, updI_s, nfM_31 (by decide), e45]
    omega
  · have p47 : ∀ m : Int, m ≠ n → puM (nfM M d b) f n 47 m = M 47 m := fun m hm => by rw [puM_o (by decide), nfM_47, ← hn, updI_n hm]
    have p47n : puM (nfM M d b) f n 47 n = d := by rw [puM_o (by decide), nfM_47, ← hn, updI_s]
    have p49 : ∀ m : Int, m ≠ n → puM (nfM M d b) f n 49 m = M 49 m := fun m hm => by rw [puM_49, updI_n hm, e49]
    have pk : ∀ m : Int, 0 ≤ m → m ≠ n → ∀ k : Int, 0 ≤ k → k < 4 → kyf J' m k = kyf J m k := fun m m0 hm k a b => by unfold kyf; exact hJ2 _ (by omega)
    have side : ∀ m : Int, 0 ≤ m → m < 520 → m ≠ n → ¬ M 49 m = 0 → M 47 m = d → (∀ k : Int, 0 ≤ k → k < 4 → kyf J m k = J 53 k) → False := fun m m0 m1 hm hl e q => by
      refine hnl m m0 m1 hl ⟨e, ?_, q 1 (by decide) (by decide), q 2 (by decide) (by decide), q 3 (by decide) (by decide)⟩
      have z := q 0 (by decide) (by decide)
      unfold kyf at z
      rw [Int.add_zero] at z
      exact z
    intro p q p0 p1 q0 q1 hp hq e hk
    by_cases ep : p = n
    · by_cases eq : q = n
      · rw [ep, eq]
      · exfalso
        rw [p49 q eq] at hq
        rw [ep, p47n, p47 q eq] at e
        refine side q q0 q1 eq hq e.symm (fun k a b => ?_)
        rw [← pk q q0 eq k a b, ← hk k a b, ep]
        exact hJ1 k a b
    · by_cases eq : q = n
      · exfalso
        rw [p49 p ep] at hp
        rw [eq, p47n, p47 p ep] at e
        refine side p p0 p1 ep hp e (fun k a b => ?_)
        rw [← pk p p0 ep k a b, hk k a b, eq]
        exact hJ1 k a b
      · rw [p49 p ep] at hp
        rw [p49 q eq] at hq
        rw [p47 p ep, p47 q eq] at e
        exact tu p q p0 p1 q0 q1 hp hq e (fun k a b => by rw [← pk p p0 ep k a b, ← pk q q0 eq k a b]; exact hk k a b)
  · refine ⟨by rw [nfM_47, ← hn, updI_s], ?_, hJ1 1 (by decide) (by decide), hJ1 2 (by decide) (by decide), hJ1 3 (by decide) (by decide)⟩
    have := hJ1 0 (by decide) (by decide)
    rw [Int.add_zero] at this
    exact this
  · exact nf_keep hn (fun z => hno f f0 f1 t5 (by rw [← z]; exact hm)) hJ2 q
/-- behind nodeFor: the node x of the part, and what its counting gives -/
def pushQ (M : zM) (J : zJ) (f k u0 d x : Int) (M' : zM) (J' : zJ) : Prop := (0 ≤ x ∧ x < 520) ∧ (M' 31 24 < 520 ∧ M' 45 = M 45 ∧ M' 31 27 = k) ∧ (M' 52 x = k → TIm M' J' f k u0 ∧ inS M' f 0 x) ∧ (¬ M' 52 x = k → TIm (puM M' f x) J' f k u0 ∧ M' 49 x ≤ 55) ∧ mtc M' J' x d (J 53) ∧ ∀ (m d' : Int) (P : Int → Int64), inS M f 0 m → mtc M J m d' P → mtc M' J' m d' P
theorem push {M : zM} {J : zJ} {f k u0 d : Int} (hT : TIm M J f k u0) (hok : zOK M) (f0 : 0 ≤ f) (f1 : f < 56) (hnm : M 45 f ≤ 254) (hu : u0 ≤ 250) : ∃ ch : List Int, chn (M 50) (M 51 (bkt d (J 53))) ch ∧ nfree M J d ch ∧ ∀ (x : Int) (M' : zM) (J' : zJ), (∀ a, kNF a → M' a = M a ∧ J' a = J a) → nfQ M J d ch x M' J' → pushQ M J f k u0 d x M' J' := by
  have hT0 := hT
  obtain ⟨⟨ch, fl, t1⟩, t2, t3, t4, t5, t6, t7, tu⟩ := hT
  have hb := bkt_in d (J 53)
  obtain ⟨q1, q2, q3⟩ := t1.1 _ hb.1 hb.2
  have hM := hok 45 f
  refine ⟨ch (bkt d (J 53)), q1, fun _ => ?_, fun x M' J' fr hq => ?_⟩
  · have hlt : hr (M 49) 520 < 520 := by rw [← t1.2.2.2]; omega
    obtain ⟨n, n0, n1, hz⟩ := hr_lt (n := 520) hlt
    have hm := (t1.2.2.1 n n0 (by omega)).1 hz
    have hne : fl ≠ [] := fun e => by rw [e] at hm; cases hm
    obtain ⟨a, r, hfe⟩ := List.exists_cons_of_ne_nil hne
    have hc := t1.2.1.1
    rw [hfe] at hc
    have e0 := hc.1
    have e1 := hc.2.1
    have e2 := chn_next hc a List.mem_cons_self
    rw [e0]
    omega
  · rcases hq with ⟨n, hn, hm, rfl, rfl, rfl⟩ | ⟨hno, hx, rfl, hJ1, hJ2⟩
    · obtain ⟨n0, n1⟩ := chn_range q1 x hn
      have hl := (q3 x hn).2
      refine ⟨⟨n0, n1⟩, ⟨by omega, rfl, t6⟩, fun e => ⟨hT0, (t4 x n0 n1).2.mp e⟩, fun e => ⟨push_old hT0 hok f0 f1 n0 n1 hnm hl e, held_lt t2 f0 f1 n0 n1 (fun z => e ((t4 x n0 n1).2.mpr z))⟩, hm, fun m d' P _ h => h⟩
    · have hx0 : 0 ≤ x := by
        have hlt : hr (M 49) 520 < 520 := by rw [← t1.2.2.2]; omega
        obtain ⟨n, n0, n1, hz⟩ := hr_lt (n := 520) hlt
        have hm := (t1.2.2.1 n n0 (by omega)).1 hz
        have hne : fl ≠ [] := fun e => by rw [e] at hm; cases hm
        obtain ⟨a, r, hfe⟩ := List.exists_cons_of_ne_nil hne
        have hc := t1.2.1.1
        rw [hfe] at hc
        have e0 := hc.1
        have e1 := hc.2.1
        omega
      obtain ⟨w1, w2, w3, w4, w5, w6⟩ := push_new hT0 hok f0 f1 hx hx0 rfl hJ1 hJ2 (fr 44 (by decide)).2 hnm (fun m m0 m1 hm q => by
        have z := (t1.2.2.1 m m0 m1).2 hm
        rw [mtc_bkt q] at z
        exact hno m z q)
      refine ⟨⟨hx0, w1⟩, ⟨by rw [nfM_31 (by decide)]; omega, nfM_o (by decide), by rw [nfM_31 (by decide)]; exact t6⟩, fun e => absurd e w2, fun _ => ⟨w4, by rw [w3]; decide⟩, w5, w6⟩
