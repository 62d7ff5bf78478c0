/-! ===== the reference's table: a node let go ===== -/
theorem tabB_rm {M M' : zM} {lo : Int → Int} {f k n : Int} (h : tabB M lo) (hM : ∀ g : Int, 0 ≤ M 45 g ∧ M 45 g ≤ 255) (f0 : 0 ≤ f) (f1 : f < 56) (hk : lo f = k) (k1 : k < M 45 f) (hn : M 46 (255 * f + k) = n) (hf : ¬ M 43 f = 0) (e43 : M' 43 = M 43) (e45 : M' 45 = M 45) (e46 : M' 46 = M 46) (e49 : M' 49 = updI (M 49) n (M 49 n - 1)) : tabB M' (updI lo f (k + 1)) := by
  obtain ⟨h1, h2⟩ := h
  have hinS : ∀ g l m : Int, inS M' g l m ↔ inS M g l m := fun g l m => by unfold inS; rw [e45, e46]
  have hcut : ∀ m : Int, inS M f (k + 1) m ↔ (inS M f k m ∧ m ≠ n) := by
    intro m
    constructor
    · rintro ⟨j, a, b, c⟩
      exact ⟨⟨j, by omega, b, c⟩, fun e => (h2 f f0 f1).1 k j (by omega) (by omega) b (by rw [hn, c, e])⟩
    · rintro ⟨⟨j, a, b, c⟩, q⟩
      by_cases e : j = k
      · subst e; exact absurd (c.symm.trans hn) q
      · exact ⟨j, by omega, b, c⟩
  refine ⟨fun m m0 m1 => ?_, fun g g0 g1 => ⟨fun i j hi hij hj => ?_, fun e => ?_⟩⟩
  · rw [e49]
    by_cases e : m = n
    · subst e
      rw [updI_s, h1 m m0 m1]
      have q := cfn_inc (M := M') (M' := M) (lo := updI lo f (k + 1)) (lo' := lo) (n := m) (g := f) (N := 56) f0 (by omega) (fun z => by
        have z2 := z.2
        rw [updI_s, hinS, hcut] at z2
        exact z2.2 rfl) ⟨hf, by rw [hk]; exact ⟨k, by omega, k1, hn⟩⟩ (fun g g0 g1 hg => by rw [e43, updI_n hg, hinS])
      omega
    · rw [updI_n e, h1 m m0 m1]
      refine cfn_congr (fun g g0 g1 => ?_)
      rw [e43, hinS]
      by_cases q : g = f
      · subst q
        rw [updI_s, hcut, hk]
        exact ⟨fun z => ⟨z.1, z.2, e⟩, fun z => ⟨z.1, z.2.1⟩⟩
      · rw [updI_n q]
  · rw [e45] at hj
    rw [e46]
    refine (h2 g g0 g1).1 i j ?_ hij hj
    by_cases q : g = f
    · subst q; rw [updI_s] at hi; omega
    · rw [updI_n q] at hi; exact hi
  · rw [e43] at e; rw [e45]; exact (h2 g g0 g1).2 e
/-- it is held still -/
theorem tabA_rm {M M' : zM} {J : zJ} {ch : Int → List Int} {fl : List Int} {n : Int} (h : tabA M J ch fl) (hn : ¬ M 49 n = 0) (hn1 : ¬ M 49 n - 1 = 0) (e50 : M' 50 = M 50) (e51 : M' 51 = M 51) (e47 : M' 47 = M 47) (e23 : M' 31 23 = M 31 23) (e24 : M' 31 24 = M 31 24) (e49 : M' 49 = updI (M 49) n (M 49 n - 1)) : tabA M' J ch fl := by
  obtain ⟨h1, ⟨h2, h3, h4⟩, h5, h6⟩ := h
  have hz : ∀ m : Int, (M' 49 m = 0 ↔ M 49 m = 0) := by
    intro m
    rw [e49]
    by_cases e : m = n
    · subst e; rw [updI_s]; omega
    · rw [updI_n e]
  unfold tabA
  rw [e50, e51, e47, e23, e24]
  refine ⟨fun b b0 b1 => ?_, ⟨h2, h3, fun m hm => (hz m).mpr (h4 m hm)⟩, fun m m0 m1 => ?_, ?_⟩
  · obtain ⟨q1, q2, q3⟩ := h1 b b0 b1
    exact ⟨q1, q2, fun m hm => ⟨(q3 m hm).1, fun e => (q3 m hm).2 ((hz m).mp e)⟩⟩
  · obtain ⟨q1, q2⟩ := h5 m m0 m1
    exact ⟨fun e => q1 ((hz m).mp e), fun e => q2 (fun e2 => e ((hz m).mpr e2))⟩
  · rw [hr_congr (f := M' 49) (g := M 49) (fun k _ _ => hz k)]
    exact h6
/-- nobody holds it any more: it goes to the free ones. M: ahead; M1: its count 0, one node less in use; M': behind unlink -/
theorem tabA_ul {M M1 M' : zM} {J : zJ} {ch : Int → List Int} {fl : List Int} {n : Int} (h : tabA M J ch fl) (n0 : 0 ≤ n) (n1 : n < 520) (hn : ¬ M 49 n = 0) (a50 : M1 50 = M 50) (a51 : M1 51 = M 51) (a23 : M1 31 23 = M 31 23) (a24 : M1 31 24 = M 31 24 - 1) (hu : ulQ M1 n (bkt (M 47 n) (kyf J n)) (ch (bkt (M 47 n) (kyf J n))) M') (e47 : M' 47 = M 47) (e49 : M' 49 = updI (M 49) n 0) : ∃ (ch' : Int → List Int) (fl' : List Int), tabA M' J ch' fl' := by
  obtain ⟨h1, ⟨h2, h3, h4⟩, h5, h6⟩ := h
  obtain ⟨u1, u2, u3, u4, u5, l', u6, u7, u8⟩ := hu
  have hb := bkt_in (M 47 n) (kyf J n)
  have hnl : n ∈ ch (bkt (M 47 n) (kyf J n)) := (h5 n n0 n1).2 hn
  have hnf : n ∉ fl := fun q => hn (h4 n q)
  have hout : ∀ c : Int, 0 ≤ c → c < 512 → c ≠ bkt (M 47 n) (kyf J n) → ∀ m ∈ ch c, m ∉ ch (bkt (M 47 n) (kyf J n)) ∧ m ≠ n := by
    intro c c0 c1 hc m hm
    have q := ((h1 c c0 c1).2.2 m hm).1
    refine ⟨fun z => hc ?_, fun z => hc ?_⟩
    · rw [← q]; exact ((h1 _ hb.1 hb.2).2.2 m z).1
    · rw [← q, z]
  have hflo : ∀ m ∈ fl, m ∉ ch (bkt (M 47 n) (kyf J n)) ∧ m ≠ n := by
    intro m hm
    exact ⟨fun z => ((h1 _ hb.1 hb.2).2.2 m z).2 (h4 m hm), fun z => hnf (by rw [← z]; exact hm)⟩
  refine ⟨fun c => if c = bkt (M 47 n) (kyf J n) then l' else ch c, n :: fl, fun c c0 c1 => ?_, ⟨?_, List.nodup_cons.mpr ⟨hnf, h3⟩, fun m hm => ?_⟩, fun m m0 m1 => ⟨fun e => ?_, fun e => ?_⟩, ?_⟩
  · dsimp only
    rw [e47]
    by_cases e : c = bkt (M 47 n) (kyf J n)
    · rw [if_pos e, e]
      refine ⟨u6, u7, fun m hm => ?_⟩
      have q := (u8 m).mp hm
      have z := (h1 _ hb.1 hb.2).2.2 m q.1
      exact ⟨z.1, by rw [e49, updI_n q.2]; exact z.2⟩
    · rw [if_neg e, u5 c e, a51]
      obtain ⟨q1, q2, q3⟩ := h1 c c0 c1
      refine ⟨chn_congr (fun m hm => ?_) q1, q2, fun m hm => ⟨(q3 m hm).1, ?_⟩⟩
      · rw [u4 m (hout c c0 c1 e m hm).1 (hout c c0 c1 e m hm).2, a50]
      · rw [e49, updI_n (hout c c0 c1 e m hm).2]; exact (q3 m hm).2
  · refine ⟨u1, n0, n1, ?_⟩
    rw [u3, a23]
    refine chn_congr (fun m hm => ?_) h2
    rw [u4 m (hflo m hm).1 (hflo m hm).2, a50]
  · rw [e49]
    rcases List.mem_cons.mp hm with q | q
    · rw [q, updI_s]
    · rw [updI_n (hflo m q).2]; exact h4 m q
  · rw [e49] at e
    by_cases q : m = n
    · rw [q]; exact List.mem_cons_self
    · rw [updI_n q] at e
      exact List.mem_cons_of_mem _ ((h5 m m0 m1).1 e)
  · dsimp only
    rw [e47]
    rw [e49] at e
    by_cases q : m = n
    · rw [q, updI_s] at e; exact absurd rfl e
    · rw [updI_n q] at e
      have z := (h5 m m0 m1).2 e
      by_cases w : bkt (M 47 m) (kyf J m) = bkt (M 47 n) (kyf J n)
      · rw [if_pos w]
        rw [w] at z
        exact (u8 m).mpr ⟨z, q⟩
      · rw [if_neg w]; exact z
  · rw [u2 24 (by decide), a24, h6]
    have q := hr_inc (f := M' 49) (g := M 49) (v := n) (n := 520) n0 (by omega) (by rw [e49, updI_s]) hn (fun k hk => by rw [e49, updI_n hk])
    omega
