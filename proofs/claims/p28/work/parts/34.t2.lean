/-! ===== the reference's table: its invariant, a node counted ===== -/
theorem kyf_of {M : zM} {J : zJ} {n d : Int} {P : Int → Int64} (h : mtc M J n d P) : ∀ k : Int, 0 ≤ k → k < 4 → kyf J n k = P k := by
  obtain ⟨-, h0, h1, h2, h3⟩ := h
  refine four ?_ ?_ ?_ ?_
  · unfold kyf; rw [Int.add_zero]; exact h0
  · exact h1
  · exact h2
  · exact h3
theorem mtc_bkt {M : zM} {J : zJ} {n d : Int} {P : Int → Int64} (h : mtc M J n d P) : bkt (M 47 n) (kyf J n) = bkt d P := by
  rw [h.1]
  exact bkt_congr (kyf_of h)
/-- chains, free ones, the count of nodes in use -/
def tabA (M : zM) (J : zJ) (ch : Int → List Int) (fl : List Int) : Prop :=
  (∀ b : Int, 0 ≤ b → b < 512 → chn (M 50) (M 51 b) (ch b) ∧ (ch b).Nodup ∧ ∀ n ∈ ch b, bkt (M 47 n) (kyf J n) = b ∧ ¬ M 49 n = 0) ∧
  (chn (M 50) (M 31 23) fl ∧ fl.Nodup ∧ ∀ n ∈ fl, M 49 n = 0) ∧
  (∀ n : Int, 0 ≤ n → n < 520 → (M 49 n = 0 → n ∈ fl) ∧ (¬ M 49 n = 0 → n ∈ ch (bkt (M 47 n) (kyf J n)))) ∧
  M 31 24 = hr (M 49) 520
/-- who holds what -/
def tabB (M : zM) (lo : Int → Int) : Prop :=
  (∀ n : Int, 0 ≤ n → n < 520 → M 49 n = cfn M lo n 56) ∧
  ∀ f : Int, 0 ≤ f → f < 56 → (∀ i j : Int, lo f ≤ i → i < j → j < M 45 f → M 46 (255 * f + i) ≠ M 46 (255 * f + j)) ∧ (M 43 f = 0 → M 45 f = 0)
/-- each laid part of f has its node among f's -/
def tabC (M : zM) (J : zJ) (f : Int) : Prop := (∀ d i : Int, 0 ≤ d → d ≤ 7 → 0 ≤ i → i < zshl 1 d → lyR (bitF J f) d i = true → ∃ n : Int, inS M f 0 n ∧ mtc M J n d (lyP (bitF J f) d i)) ∧ ∀ n : Int, inS M f 0 n → ∃ d i : Int, ((0 ≤ d ∧ d ≤ 7) ∧ 0 ≤ i ∧ i < zshl 1 d) ∧ lyR (bitF J f) d i = true ∧ mtc M J n d (lyP (bitF J f) d i)
/-- nodes in use have other labels -/
def tabU (M : zM) (J : zJ) : Prop := ∀ n m : Int, 0 ≤ n → n < 520 → 0 ≤ m → m < 520 → ¬ M 49 n = 0 → ¬ M 49 m = 0 → M 47 n = M 47 m → (∀ k : Int, 0 ≤ k → k < 4 → kyf J n k = kyf J m k) → n = m
theorem tabU_mv {M M' : zM} {J J' : zJ} (h : tabU M J) (e49 : ∀ n : Int, ¬ M' 49 n = 0 → ¬ M 49 n = 0) (e47 : M' 47 = M 47) (e48 : J' 48 = J 48) : tabU M' J' := fun n m n0 n1 m0 m1 hn hm e q => by
  rw [e47] at e
  refine h n m n0 n1 m0 m1 (e49 n hn) (e49 m hm) e (fun k a b => ?_)
  have z := q k a b
  unfold kyf at z ⊢
  rw [e48] at z
  exact z
def lo0 : Int → Int := fun _ => 0
/-- n is counted for f -/
def puM (M : zM) (f n : Int) : zM := uz (uz (uz (uz (uz M 52 n (M 31 27)) 31 24 (M 31 24 + (if M 49 n = 0 then 1 else 0))) 49 n (M 49 n + 1)) 46 (255 * f + M 45 f) n) 45 f (M 45 f + 1)
theorem puM_o {M : zM} {f n : Int} {a : Nat} (h : a = 43 ∨ a = 47 ∨ a = 50 ∨ a = 51) : puM M f n a = M a := by
  unfold puM
  rw [uz_o (by omega), uz_o (by omega), uz_o (by omega), uz_o (by omega), uz_o (by omega)]
theorem puM_23 {M : zM} {f n j : Int} (h : j ≠ 24) : puM M f n 31 j = M 31 j := by
  unfold puM
  rw [uz_oo (by decide), uz_oo (by decide), uz_oo (by decide), uz_n h, uz_oo (by decide)]
theorem puM_24 {M : zM} {f n : Int} : puM M f n 31 24 = M 31 24 + (if M 49 n = 0 then 1 else 0) := by
  unfold puM
  rw [uz_oo (by decide), uz_oo (by decide), uz_oo (by decide), uz_s]
theorem puM_49 {M : zM} {f n : Int} : puM M f n 49 = updI (M 49) n (M 49 n + 1) := by
  unfold puM
  rw [uz_o (by decide), uz_o (by decide), uz_fn, uz_o (by decide), uz_o (by decide)]
theorem puM_52 {M : zM} {f n : Int} : puM M f n 52 = updI (M 52) n (M 31 27) := by
  unfold puM
  rw [uz_o (by decide), uz_o (by decide), uz_o (by decide), uz_o (by decide), uz_fn]
theorem puM_45 {M : zM} {f n : Int} : puM M f n 45 = updI (M 45) f (M 45 f + 1) := by
  unfold puM
  rw [uz_fn, uz_o (by decide), uz_o (by decide), uz_o (by decide), uz_o (by decide)]
theorem puM_46 {M : zM} {f n : Int} : puM M f n 46 = updI (M 46) (255 * f + M 45 f) n := by
  unfold puM
  rw [uz_o (by decide), uz_fn, uz_o (by decide), uz_o (by decide), uz_o (by decide)]
/-- the nodes of g behind it -/
theorem puM_inS {M : zM} {f n g lo m : Int} (hf : 0 ≤ f) (hg : 0 ≤ g) (hM : ∀ g : Int, 0 ≤ M 45 g ∧ M 45 g ≤ 255) (hn : M 45 f < 255) (hlo : 0 ≤ lo) (hle : lo ≤ M 45 f) : inS (puM M f n) g lo m ↔ (inS M g lo m ∨ (g = f ∧ m = n)) := by
  unfold inS
  rw [puM_45, puM_46]
  constructor
  · rintro ⟨j, h1, h2, h3⟩
    by_cases e : g = f
    · subst e
      rw [updI_s] at h2
      by_cases e2 : j = M 45 g
      · subst e2
        rw [updI_s] at h3
        exact Or.inr ⟨rfl, h3.symm⟩
      · rw [updI_n (by omega)] at h3
        exact Or.inl ⟨j, h1, by omega, h3⟩
    · rw [updI_n e] at h2
      have := hM g
      rw [updI_n (by omega)] at h3
      exact Or.inl ⟨j, h1, h2, h3⟩
  · rintro (⟨j, h1, h2, h3⟩ | ⟨rfl, rfl⟩)
    · by_cases e : g = f
      · subst e
        exact ⟨j, h1, by rw [updI_s]; omega, by rw [updI_n (by omega)]; exact h3⟩
      · have := hM g
        exact ⟨j, h1, by rw [updI_n e]; exact h2, by rw [updI_n (by omega)]; exact h3⟩
    · exact ⟨M 45 g, hle, by rw [updI_s]; omega, by rw [updI_s]⟩
/-- tabA where the node was there -/
theorem tabA_old {M : zM} {J : zJ} {ch : Int → List Int} {fl : List Int} {f n : Int} (h : tabA M J ch fl) (hok : zOK M) (hn : ¬ M 49 n = 0) : tabA (puM M f n) J ch fl := by
  obtain ⟨h1, ⟨h2, h3, h4⟩, h5, h6⟩ := h
  have hp : 0 ≤ M 49 n := (hok 49 n).1
  have hz : ∀ m : Int, (puM M f n 49 m = 0 ↔ M 49 m = 0) := by
    intro m
    rw [puM_49]
    by_cases e : m = n
    · subst e; rw [updI_s]; omega
    · rw [updI_n e]
  have e50 : puM M f n 50 = M 50 := puM_o (by decide)
  have e51 : puM M f n 51 = M 51 := puM_o (by decide)
  have e47 : puM M f n 47 = M 47 := puM_o (by decide)
  unfold tabA
  rw [e50, e51, e47, puM_23 (by decide), puM_24, if_neg hn]
  refine ⟨fun b b0 b1 => ?_, ⟨h2, h3, fun m hm => (hz m).mpr (h4 m hm)⟩, fun m m0 m1 => ?_, ?_⟩
  · obtain ⟨q1, q2, q3⟩ := h1 b b0 b1
    exact ⟨q1, q2, fun m hm => ⟨(q3 m hm).1, fun e => (q3 m hm).2 ((hz m).mp e)⟩⟩
  · obtain ⟨q1, q2⟩ := h5 m m0 m1
    exact ⟨fun e => q1 ((hz m).mp e), fun e => q2 (fun e2 => e ((hz m).mpr e2))⟩
  · rw [hr_congr (f := puM M f n 49) (g := M 49) (fun k _ _ => hz k), ← h6]
    omega
/-- who holds what, behind it -/
theorem tabB_pu {M : zM} {f n : Int} (h : tabB M lo0) (hM : ∀ g : Int, 0 ≤ M 45 g ∧ M 45 g ≤ 255) (f0 : 0 ≤ f) (f1 : f < 56) (n0 : 0 ≤ n) (n1 : n < 520) (hf : ¬ M 43 f = 0) (hnm : M 45 f < 255) (hno : ¬ inS M f 0 n) : tabB (puM M f n) lo0 := by
  obtain ⟨h1, h2⟩ := h
  have e43 : puM M f n 43 = M 43 := puM_o (by decide)
  refine ⟨fun m m0 m1 => ?_, fun g g0 g1 => ⟨fun i j hi hij hj => ?_, fun e => ?_⟩⟩
  · rw [puM_49]
    by_cases e : m = n
    · subst e
      rw [updI_s, h1 m m0 m1]
      refine (cfn_inc (M := M) (M' := puM M f m) (lo := lo0) (lo' := lo0) (g := f) f0 (by omega) (fun q => hno q.2) ⟨by rw [e43]; exact hf, (puM_inS f0 f0 hM hnm (by decide) (hM f).1).mpr (Or.inr ⟨rfl, rfl⟩)⟩ (fun g g0 _ hg => ?_)).symm
      rw [e43]
      exact and_congr Iff.rfl ((puM_inS f0 g0 hM hnm (by decide) (hM f).1).trans ⟨fun q => q.resolve_right (fun q2 => hg q2.1), Or.inl⟩).symm
    · rw [updI_n e, h1 m m0 m1]
      refine cfn_congr (fun g g0 _ => ?_)
      rw [e43]
      exact and_congr Iff.rfl ((puM_inS f0 g0 hM hnm (by decide) (hM f).1).trans ⟨fun q => q.resolve_right (fun q2 => e q2.2), Or.inl⟩).symm
  · rw [puM_46]
    rw [puM_45] at hj
    have hi0 : 0 ≤ i := hi
    have hg := hM g
    have hff := hM f
    by_cases e : g = f
    · subst e
      rw [updI_s] at hj
      rw [updI_n (show 255 * g + i ≠ 255 * g + M 45 g by omega)]
      by_cases e2 : j = M 45 g
      · subst e2
        rw [updI_s]
        exact fun q => hno ⟨i, hi0, by omega, q⟩
      · rw [updI_n (by omega)]
        exact (h2 g g0 g1).1 i j hi hij (by omega)
    · rw [updI_n e] at hj
      rw [updI_n (show 255 * g + i ≠ 255 * f + M 45 f by omega), updI_n (show 255 * g + j ≠ 255 * f + M 45 f by omega)]
      exact (h2 g g0 g1).1 i j hi hij hj
  · rw [e43] at e
    rw [puM_45]
    by_cases q : g = f
    · subst q; exact absurd e hf
    · rw [updI_n q]; exact (h2 g g0 g1).2 e
/-- tabA where the node is new: M0 ahead of nodeFor -/
theorem nfM_50 {M : zM} {d b : Int} : nfM M d b 50 = updI (M 50) (M 31 23) (M 51 b) := by
  unfold nfM
  rw [uz_o (by decide), uz_fn, uz_o (by decide), uz_o (by decide), uz_o (by decide)]
theorem nfM_51 {M : zM} {d b : Int} : nfM M d b 51 = updI (M 51) b (M 31 23) := by
  unfold nfM
  rw [uz_fn, uz_o (by decide), uz_o (by decide), uz_o (by decide), uz_o (by decide)]
theorem nfM_47 {M : zM} {d b : Int} : nfM M d b 47 = updI (M 47) (M 31 23) d := by
  unfold nfM
  rw [uz_o (by decide), uz_o (by decide), uz_o (by decide), uz_fn, uz_o (by decide)]
theorem nfM_49 {M : zM} {d b : Int} : nfM M d b 49 = updI (M 49) (M 31 23) 0 := by
  unfold nfM
  rw [uz_o (by decide), uz_o (by decide), uz_fn, uz_o (by decide), uz_o (by decide)]
theorem nfM_23 {M : zM} {d b : Int} : nfM M d b 31 23 = M 50 (M 31 23) := by
  unfold nfM
  rw [uz_oo (by decide), uz_oo (by decide), uz_oo (by decide), uz_oo (by decide), uz_s]
theorem nfM_31 {M : zM} {d b j : Int} (h : j ≠ 23) : nfM M d b 31 j = M 31 j := by
  unfold nfM
  rw [uz_oo (by decide), uz_oo (by decide), uz_oo (by decide), uz_oo (by decide), uz_n h]
theorem tabA_new {M : zM} {J0 J : zJ} {ch : Int → List Int} {fl : List Int} {f d n b : Int} (h : tabA M J0 ch fl) (hn : n = M 31 23) (n0 : 0 ≤ n) (hb : b = bkt d (J0 53)) (hJ1 : ∀ k : Int, 0 ≤ k → k < 4 → J 48 (4 * n + k) = J0 53 k) (hJ2 : ∀ j : Int, (j < 4 * n ∨ 4 * n + 4 ≤ j) → J 48 j = J0 48 j) : ∃ (ch' : Int → List Int) (fl' : List Int), tabA (puM (nfM M d b) f n) J ch' fl' := by
  obtain ⟨h1, ⟨h2, h3, h4⟩, h5, h6⟩ := h
  rw [← hn] at h2
  obtain ⟨fl', hfl, -, n1, h7⟩ := chn_cons h2 (by omega)
  subst hfl
  have hz := h4 n List.mem_cons_self
  have hb0 := bkt_in d (J0 53)
  rw [← hb] at hb0
  have hnf : n ∉ fl' := (List.nodup_cons.mp h3).1
  have hnc : ∀ c : Int, 0 ≤ c → c < 512 → n ∉ ch c := fun c c0 c1 q => ((h1 c c0 c1).2.2 n q).2 hz
  have e50 : puM (nfM M d b) f n 50 = updI (M 50) n (M 51 b) := by rw [puM_o (by decide), nfM_50, ← hn]
  have e51 : puM (nfM M d b) f n 51 = updI (M 51) b n := by rw [puM_o (by decide), nfM_51, ← hn]
  have e47 : puM (nfM M d b) f n 47 = updI (M 47) n d := by rw [puM_o (by decide), nfM_47, ← hn]
  have z49 : nfM M d b 49 n = 0 := by rw [nfM_49, ← hn, updI_s]
  have e49 : ∀ m : Int, puM (nfM M d b) f n 49 m = if m = n then 1 else M 49 m := by
    intro m
    rw [puM_49, z49]
    by_cases e : m = n
    · rw [e, updI_s, if_pos rfl]; rfl
    · rw [updI_n e, if_neg e, nfM_49, ← hn, updI_n e]
  have eky : ∀ m : Int, 0 ≤ m → m ≠ n → ∀ k : Int, 0 ≤ k → k < 4 → kyf J m k = kyf J0 m k := fun m m0 hm k k0 k1 => by
    unfold kyf
    exact hJ2 _ (by omega)
  have ebk : ∀ m : Int, 0 ≤ m → m ≠ n → bkt (puM (nfM M d b) f n 47 m) (kyf J m) = bkt (M 47 m) (kyf J0 m) := fun m m0 hm => by
    rw [e47, updI_n hm]
    exact bkt_congr (eky m m0 hm)
  have ebn : bkt (puM (nfM M d b) f n 47 n) (kyf J n) = b := by
    rw [e47, updI_s, hb]
    exact bkt_congr (fun k k0 k1 => hJ1 k k0 k1)
  refine ⟨fun c => if c = b then n :: ch b else ch c, fl', fun c c0 c1 => ?_, ⟨?_, (List.nodup_cons.mp h3).2, fun m hm => ?_⟩, fun m m0 m1 => ⟨fun e => ?_, fun e => ?_⟩, ?_⟩
  · dsimp only
    rw [e50, e51]
    obtain ⟨q1, q2, q3⟩ := h1 c c0 c1
    by_cases e : c = b
    · subst e
      rw [if_pos rfl, updI_s]
      refine ⟨chn_push q1 n0 n1 (hnc c c0 c1), List.nodup_cons.mpr ⟨hnc c c0 c1, q2⟩, fun m hm => ?_⟩
      rcases List.mem_cons.mp hm with q | q
      · subst q
        exact ⟨ebn, by rw [e49, if_pos rfl]; decide⟩
      · have hmn : m ≠ n := fun z => hnc c c0 c1 (by rw [← z]; exact q)
        exact ⟨by rw [ebk m (chn_range q1 m q).1 hmn]; exact (q3 m q).1, by rw [e49, if_neg hmn]; exact (q3 m q).2⟩
    · rw [if_neg e, updI_n e]
      refine ⟨chn_congr (fun m hm => updI_n (fun z => hnc c c0 c1 (by rw [← z]; exact hm))) q1, q2, fun m hm => ?_⟩
      have hmn : m ≠ n := fun z => hnc c c0 c1 (by rw [← z]; exact hm)
      exact ⟨by rw [ebk m (chn_range q1 m hm).1 hmn]; exact (q3 m hm).1, by rw [e49, if_neg hmn]; exact (q3 m hm).2⟩
  · rw [e50, puM_23 (by decide), nfM_23, ← hn]
    exact chn_congr (fun m hm => updI_n (fun z => hnf (by rw [← z]; exact hm))) h7
  · have hmn : m ≠ n := fun z => hnf (by rw [← z]; exact hm)
    rw [e49, if_neg hmn]
    exact h4 m (List.mem_cons_of_mem _ hm)
  · rw [e49] at e
    by_cases q : m = n
    · rw [if_pos q] at e; cases e
    · rw [if_neg q] at e
      rcases List.mem_cons.mp ((h5 m m0 m1).1 e) with z | z
      · exact absurd z q
      · exact z
  · dsimp only
    by_cases q : m = n
    · subst q
      rw [ebn, if_pos rfl]
      exact List.mem_cons_self
    · rw [ebk m m0 q]
      rw [e49, if_neg q] at e
      have z := (h5 m m0 m1).2 e
      by_cases w : bkt (M 47 m) (kyf J0 m) = b
      · rw [if_pos w]
        rw [w] at z
        exact List.mem_cons_of_mem _ z
      · rw [if_neg w]; exact z
  · rw [puM_24, if_pos z49, nfM_31 (by decide), h6]
    refine (hr_inc (f := M 49) (g := puM (nfM M d b) f n 49) (v := n) n0 (by omega) hz (by rw [e49, if_pos rfl]; decide) (fun k hk => ?_)).symm
    rw [e49, if_neg hk]
