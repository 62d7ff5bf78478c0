section
/-! ===== readers: what is read of a function ===== -/
/-! counts over places -/
theorem mk_gen {M : zM} {S : Int → Prop} {s n : Int} {w w' : Int → Int} (hp : pst M S) (hn : okN S n) (hm : mkR M S s n 0 w w') {y : Lb} (hy : laid (den M n) y) : ∃ m : Int, (S m ∧ mkw w' s m) ∧ lab M m = y := by
  have up : ∀ c : Int, okN S c → okw w' s c → okN (fun m => S m ∧ mkw w' s m) c := fun c hc t => by
    have ci := okN_in hp hc
    by_cases u : c < 2
    · rcases (show c = 0 ∨ c = 1 by omega) with v | v
      · exact Or.inl v
      · exact Or.inr (Or.inl v)
    · exact Or.inr (Or.inr ⟨okN_2 hp hc (by omega), t.resolve_left u⟩)
  refine laid_in hp (C := fun m => S m ∧ mkw w' s m) (fun m q => ?_) (up n hn ?_) hy
  · obtain ⟨-, p, -, c1, c2⟩ := hp.2.1 m q.1
    have z := hm.2.2 m q.1 p.1 q.2
    exact ⟨q.1, up _ c1.1 z.1, up _ c2.1 z.2⟩
  · by_cases u : n < 2
    · exact Or.inl u
    · exact Or.inr (hm.2.1 (by omega))
theorem ctE_hs {w : Int → Int} {s : Int} : ∀ n : Nat, ctE (fun k => w (k + 2)) s n = hr (fun k => ind ((2 ≤ k ∧ k < 252) ∧ w k = s)) (n + 2) ∨ 250 < n
  | 0 => Or.inl (by
    show 0 = _
    exact (hr_zero (fun k a b => ind_f (fun q => by omega))).symm)
  | n + 1 => by
    by_cases hn : 250 < n + 1
    · exact Or.inr hn
    · left
      have ih := (ctE_hs (w := w) (s := s) n).resolve_right (by omega)
      show ctE (fun k => w (k + 2)) s n + (if w ((n : Int) + 2) = s then 1 else 0) = hr _ (n + 2) + (if ind (_ ∧ w ((n + 2 : Nat) : Int) = s) = 0 then 0 else 1)
      rw [ih, show ((n + 2 : Nat) : Int) = (n : Int) + 2 by omega]
      by_cases e : w ((n : Int) + 2) = s
      · rw [if_pos e, if_neg (ind_nz.mpr ⟨⟨by omega, by omega⟩, e⟩)]
      · rw [if_neg e, if_pos (ind_f (fun q => e q.2))]
theorem zo12 : zor 0 2 = 2 ∧ zor 1 2 = 3 ∧ zand 0 2 = 0 ∧ zand 1 2 = 0 ∧ zand 2 2 = 2 ∧ zand 3 2 = 2 := by decide +kernel
theorem cnt_cm {M : zM} {S : Int → Prop} {n o x : Int} {w w1 w2 : Int → Int} (hp : pst M S) (hn : okN S n) (ho : okN S o) (h0 : ∀ m : Int, 0 ≤ m → m < 252 → w m = 0) (hm : mkR M S 1 n 0 w w1) (hm2 : mkR M S 2 o 0 w1 w2) (hx : x = ctE (fun k => w2 (k + 2)) 3 250) : cnt (fun y => laid (den M n) y ∧ laid (den M o) y) x := by
  obtain ⟨h1, h2⟩ := mk_one hp (Or.inr hn) h0 hm
  rw [hx, (ctE_hs (w := w2) 250).resolve_right (by decide)]
  have key : ∀ a : Int, ¬ ind ((2 ≤ a ∧ a < 252) ∧ w2 a = 3) = 0 → S a ∧ laid (den M n) (lab M a) ∧ laid (den M o) (lab M a) := fun a ha => by
    have q := ind_nz.mp ha
    rcases h1 a q.1.1 q.1.2 with z | z
    · rcases hm2.1 a with e | ⟨e, -⟩
      · rw [e, z] at q; exact absurd q.2 (by decide)
      · rw [e, z, zo12.1] at q; exact absurd q.2 (by decide)
    · rcases hm2.1 a with e | ⟨e, e1, e2⟩
      · rw [e, z.1] at q; exact absurd q.2 (by decide)
      · exact ⟨z.2.1, z.2.2, e2⟩
  refine cnt_hr (g := lab M) (fun a b a0 a1 b0 b1 ha hb e => lab_inj hp (key a ha).1 (key b hb).1 e) (fun a a0 a1 ha => (key a ha).2) (fun y hy => ?_)
  obtain ⟨m, q, e⟩ := h2 y hy.1
  obtain ⟨m', ⟨s', k'⟩, e'⟩ := mk_gen hp ho hm2 hy.2
  have sm : S m := by
    rcases h1 m q.1.1 q.1.2 with z | z
    · rw [q.2] at z; cases z
    · exact z.2.1
  have em : m' = m := lab_inj hp s' sm (e'.trans e.symm)
  rw [em] at k'
  have w3 : w2 m = 3 := by
    unfold mkw at k'
    rcases hm2.1 m with t | ⟨t, -⟩
    · rw [t, q.2, zo12.2.2.2.1] at k'; exact absurd rfl k'
    · rw [t, q.2]; exact zo12.2.1
  exact ⟨m, by omega, by omega, ind_nz.mpr ⟨q.1, w3⟩, e⟩
/-! the reference's nodes of a function -/
theorem ref_ix {M : zM} {J : zJ} (h : TI M J) (hok : zOK M) {f : Int} (f0 : 0 ≤ f) (f1 : f < 56) (hf : ¬ M 43 f = 0) : (∀ a : Int, 0 ≤ a → a < M 45 f → ((0 ≤ M 46 (255 * f + a) ∧ M 46 (255 * f + a) < 520) ∧ ¬ M 49 (M 46 (255 * f + a)) = 0) ∧ laid (phi J f) (rlab M J (M 46 (255 * f + a)))) ∧ (∀ a b : Int, 0 ≤ a → a < M 45 f → 0 ≤ b → b < M 45 f → M 46 (255 * f + a) = M 46 (255 * f + b) → a = b) ∧ ∀ y : Lb, laid (phi J f) y → ∃ a : Int, 0 ≤ a ∧ a < M 45 f ∧ rlab M J (M 46 (255 * f + a)) = y := by
  have hin : ∀ j : Int, 0 ≤ j → j < M 45 f → inS M f 0 (M 46 (255 * f + j)) := fun j a b => ⟨j, a, b, rfl⟩
  have hlv : ∀ j : Int, 0 ≤ j → j < M 45 f → (0 ≤ M 46 (255 * f + j) ∧ M 46 (255 * f + j) < 520) ∧ ¬ M 49 (M 46 (255 * f + j)) = 0 := fun j a b => by
    have nr := inS_range hok (hin j a b)
    exact ⟨nr, held_of h.2.1 f0 f1 nr.1 nr.2 hf (hin j a b)⟩
  refine ⟨fun a a0 a1 => ⟨hlv a a0 a1, ?_⟩, fun a b a0 a1 b0 b1 q => ?_, fun x hx => ?_⟩
  · obtain ⟨d, i, q1, q2, q3⟩ := (h.2.2.1 f f0 f1 hf).2 _ (hin a a0 a1)
    refine laid_B.mpr ⟨i, ?_⟩
    rw [rlab_eq q3.1 q1.1.1 q1.1.2 (kyf_of q3)]
    exact ⟨q1.1, q1.2, q2, rfl⟩
  · have z := (h.2.1.2 f f0 f1).1
    by_cases t : a = b
    · exact t
    · exfalso
      rcases (show a < b ∨ b < a by omega) with t | t
      · exact z a b a0 t b1 q
      · exact z b a b0 t a1 q.symm
  · obtain ⟨i, ⟨a, b⟩, ⟨c, w⟩, q, e⟩ := laid_B.mp hx
    obtain ⟨n, ⟨j, j0, j1, hj⟩, h2⟩ := (h.2.2.1 f f0 f1 hf).1 x.1 i a b c w q
    refine ⟨j, j0, j1, ?_⟩
    rw [hj, rlab_eq h2.1 a b (kyf_of h2)]
    exact Prod.ext rfl e.symm
def sm_ (g : Int → Int) : Nat → Int
  | 0 => 0
  | n + 1 => sm_ g n + g (n : Int)
theorem sm_up (g : Int → Int) {i : Int} (h : 0 ≤ i) : sm_ g (i + 1).toNat = sm_ g i.toNat + g i := by
  rw [show (i + 1).toNat = i.toNat + 1 by omega]
  show sm_ g i.toNat + g (i.toNat : Int) = _
  rw [Int.toNat_of_nonneg h]
theorem hr_one {f : Int → Int} : ∀ {n : Nat}, (∀ a b : Int, 0 ≤ a → a < n → 0 ≤ b → b < n → ¬ f a = 0 → ¬ f b = 0 → a = b) → hr f n = ind (∃ a : Int, (0 ≤ a ∧ a < n) ∧ ¬ f a = 0)
  | 0, _ => by
    have no : ¬ ∃ a : Int, (0 ≤ a ∧ a < ((0 : Nat) : Int)) ∧ ¬ f a = 0 := by
      rintro ⟨a, b, -⟩
      omega
    rw [ind_f no]
    rfl
  | n + 1, h => by
    show hr f n + (if f (n : Int) = 0 then 0 else 1) = _
    by_cases e : f (n : Int) = 0
    · rw [if_pos e, hr_one (n := n) (fun a b a0 a1 b0 b1 => h a b a0 (by omega) b0 (by omega)), Int.add_zero]
      refine ind_congr ⟨fun ⟨a, ab, q⟩ => ⟨a, by omega, q⟩, fun ⟨a, ab, q⟩ => ⟨a, ?_, q⟩⟩
      by_cases w : a = n
      · rw [w] at q; exact absurd e q
      · omega
    · have ex : ∃ a : Int, (0 ≤ a ∧ a < ((n + 1 : Nat) : Int)) ∧ ¬ f a = 0 := ⟨(n : Int), by omega, e⟩
      have hz : hr f n = 0 := hr_zero (fun k k0 k1 => by
        by_cases w : f k = 0
        · exact w
        · have := h k n k0 (by omega) (by omega) (by omega) w e
          omega)
      rw [if_neg e, ind_t ex]
      omega
noncomputable def cmE (M : zM) (f g i j : Int) : Int := ind (M 46 (255 * f + i) = M 46 (255 * g + j))
theorem sm_ind {P : Int → Prop} {g : Int → Int} : ∀ {n : Nat}, (∀ i : Int, 0 ≤ i → i < n → g i = ind (P i)) → sm_ g n = hr (fun i => ind (P i)) n
  | 0, _ => rfl
  | n + 1, h => by
    show sm_ g n + g (n : Int) = hr _ n + (if ind (P (n : Int)) = 0 then 0 else 1)
    rw [sm_ind (n := n) (fun i a b => h i a (by omega)), h n (by omega) (by omega)]
    by_cases q : P (n : Int)
    · rw [if_neg (ind_nz.mpr q), ind_t q]
    · rw [if_pos (ind_f q), ind_f q]
theorem ref_cm {M : zM} {J : zJ} (h : TI M J) (hok : zOK M) {f g : Int} (f0 : 0 ≤ f) (f1 : f < 56) (hf : ¬ M 43 f = 0) (g0 : 0 ≤ g) (g1 : g < 56) (hg : ¬ M 43 g = 0) : cnt (fun y => laid (phi J f) y ∧ laid (phi J g) y) (sm_ (fun i => hr (cmE M f g i) (M 45 g).toNat) (M 45 f).toNat) := by
  obtain ⟨h1, h2, h3⟩ := ref_ix h hok f0 f1 hf
  obtain ⟨k1, k2, k3⟩ := ref_ix h hok g0 g1 hg
  have f45 : 0 ≤ M 45 f ∧ M 45 f ≤ 255 := hok 45 f
  have g45 : 0 ≤ M 45 g ∧ M 45 g ≤ 255 := hok 45 g
  rw [sm_ind (g := fun i => hr (cmE M f g i) (M 45 g).toNat) (P := fun i => ∃ a : Int, (0 ≤ a ∧ a < ((M 45 g).toNat : Int)) ∧ ¬ cmE M f g i a = 0) (fun i i0 i1 => hr_one (fun a b a0 a1 b0 b1 ha hb => k2 a b a0 (by omega) b0 (by omega) ((ind_nz.mp ha).symm.trans (ind_nz.mp hb))))]
  refine cnt_hr (g := fun a => rlab M J (M 46 (255 * f + a))) (fun a b a0 a1 b0 b1 _ _ e => ?_) (fun a a0 a1 ha => ?_) (fun y hy => ?_)
  · have za := (h1 a a0 (by omega)).1
    have zb := (h1 b b0 (by omega)).1
    exact h2 a b a0 (by omega) b0 (by omega) (rlab_inj h za.1.1 za.1.2 zb.1.1 zb.1.2 za.2 zb.2 e)
  · obtain ⟨j, jb, q⟩ := ind_nz.mp ha
    have e := ind_nz.mp q
    refine ⟨(h1 a a0 (by omega)).2, ?_⟩
    show laid (phi J g) (rlab M J (M 46 (255 * f + a)))
    rw [e]
    exact (k1 j jb.1 (by omega)).2
  · obtain ⟨a, a0, a1, e⟩ := h3 y hy.1
    obtain ⟨j, j0, j1, e'⟩ := k3 y hy.2
    have za := (h1 a a0 a1).1
    have zj := (k1 j j0 j1).1
    have eq := rlab_inj h za.1.1 za.1.2 zj.1.1 zj.1.2 za.2 zj.2 (e.trans e'.symm)
    exact ⟨a, a0, by omega, ind_nz.mpr ⟨j, ⟨j0, by omega⟩, ind_nz.mpr eq⟩, e⟩
end
section
/-! ===== readers: their answers ===== -/
set_option maxRecDepth 20000 in
theorem zX2_commonCount_f {G : tl_G} {M : zM} {J : zJ} {S : Int → Prop} {n o : Int} (hp : pst M S) (hn : okN S n) (ho : okN S o) : ZN G yX2_commonCount mX2_commonCount 10 kMarks [vR 5, vI n, vI o] F1 M J (qI (fun x M' J' => J' = J ∧ cnt (fun y => laid (den M n) y ∧ laid (den M o) y) x)) := by
  refine ZN_of (L := [_, _, _]) (by decide) rfl rfl (Nat.le_of_ble_eq_true rfl) rfl (fun hav => ?_)
  have hin := okN_in hp hn
  have hio := okN_in hp ho
  refine Z_aload_n (n := 1) dX2_commonCount_0 rfl rfl ?_
  refine Z_callVv (n := 4) [] _ dX2_commonCount_1 rfl cwX2_53 rfl rfl rfl (Nat.le_of_ble_eq_true rfl) (by refine ⟨?_, ?_, ?_, ?_⟩ <;> exact Nat.le_of_ble_eq_true rfl) (fun _ h => h) (zX2_unmark  (by decide)) ?_
  intro M1 J1 f1 q1
  obtain ⟨e1_1, e1_2⟩ := q1
  replace e1_1 := e1_1.symm; subst e1_1
  replace e1_2 := e1_2.symm; subst e1_2
  have o1 : ∀ a : Nat, ¬ a = 9 → fillz M 9 252 0 a = M a := fun a ha => fillz_o ha
  have z1 : ∀ m : Int, 0 ≤ m → m < 252 → fillz M 9 252 0 9 m = 0 := fun m a b => fillz_a a (by omega)
  have hp1 : pst (fillz M 9 252 0) S := pst_cg (o1 6 (by decide)) (o1 7 (by decide)) (o1 8 (by decide)) hp
  refine Z_aload_n (n := 5) dX2_commonCount_4 rfl rfl ?_
  refine Z_iconst (n := 6) dX2_commonCount_5 rfl (by decide) ?_
  refine Z_iload_n (n := 7) dX2_commonCount_6 rfl rfl ?_
  refine Z_iconst (n := 8) dX2_commonCount_7 rfl (by decide) ?_
  refine Z_callVv (n := 11) [_, _, _] _ dX2_commonCount_8 rfl cwX2_49 rfl rfl rfl (Nat.le_of_ble_eq_true rfl) (by refine ⟨?_, ?_, ?_, ?_⟩ <;> exact Nat.le_of_ble_eq_true rfl) (fun _ h => h) (zX2_markWith_f 8  (by exact Or.inl rfl) (by exact hp1) (by exact Or.inr hn) (by decide) (by rfl) (by exact fun q => (hp1.2.1 n (okN_2 hp1 hn q)).2.1.1) (by exact fun q => (hp1.2.1 n (okN_2 hp1 hn q)).2.1.1) (by exact (c3_0 hp1 z1).2)) ?_
  intro M8 J8 f8 q8
  obtain ⟨e8_1, mr8⟩ := q8
  replace e8_1 := e8_1.symm; subst e8_1
  have e8 : ∀ a : Nat, ¬ a = 9 → M8 a = M a := fun a ha => ((f8 a ha).1).trans (o1 a ha)
  have hp8 : pst M8 S := pst_cg (e8 6 (by decide)) (e8 7 (by decide)) (e8 8 (by decide)) hp
  have mk1 : mkR M S 1 n 0 (fillz M 9 252 0 9) (M8 9) := mkR_cg (o1 6 (by decide)) (o1 7 (by decide)) (o1 8 (by decide)) mr8
  have cl8 : Clw M8 S 2 0 (M8 9) := fun m hm _ hk => by
    exfalso
    have q := (mk_one hp (Or.inr hn) z1 mk1).1 m ((hp.2.1 m hm).1).1 ((hp.2.1 m hm).1).2
    unfold mkw at hk
    rcases q with q | q
    · rw [q, zo12.2.2.1] at hk; exact hk rfl
    · rw [q.1, zo12.2.2.2.1] at hk; exact hk rfl
  refine Z_aload_n (n := 12) dX2_commonCount_11 rfl rfl ?_
  refine Z_iconst (n := 13) dX2_commonCount_12 rfl (by decide) ?_
  refine Z_iload_n (n := 14) dX2_commonCount_13 rfl rfl ?_
  refine Z_iconst (n := 15) dX2_commonCount_14 rfl (by decide) ?_
  refine Z_callVv (n := 18) [_, _, _] _ dX2_commonCount_15 rfl cwX2_49 rfl rfl rfl (Nat.le_of_ble_eq_true rfl) (by refine ⟨?_, ?_, ?_, ?_⟩ <;> exact Nat.le_of_ble_eq_true rfl) (fun _ h => h) (zX2_markWith_f 8  (by exact Or.inr rfl) (by exact hp8) (by exact Or.inr ho) (by decide) (by rfl) (by exact fun q => (hp8.2.1 o (okN_2 hp8 ho q)).2.1.1) (by exact fun q => (hp8.2.1 o (okN_2 hp8 ho q)).2.1.1) (by exact cl8)) ?_
  intro M15 J15 f15 q15
  obtain ⟨e15_1, mr15⟩ := q15
  replace e15_1 := e15_1.symm; subst e15_1
  have mk2 : mkR M S 2 o 0 (M8 9) (M15 9) := mkR_cg (e8 6 (by decide)) (e8 7 (by decide)) (e8 8 (by decide)) mr15
  refine Z_aload_n (n := 19) dX2_commonCount_18 rfl rfl ?_
  refine Z_iconst (n := 20) dX2_commonCount_19 rfl (by decide) ?_
  refine Z_callVi (n := 23) [_] _ dX2_commonCount_20 rfl cwX2_60 rfl rfl rfl (Nat.le_of_ble_eq_true rfl) (by refine ⟨?_, ?_, ?_, ?_⟩ <;> exact Nat.le_of_ble_eq_true rfl) (fun _ _ => trivial) (zX2_markedWith  ) ?_
  intro x20 M20 J20 z20 f20 q20
  obtain ⟨e20_1, e20_2, h20⟩ := q20
  replace e20_1 := e20_1.symm; subst e20_1
  replace e20_2 := e20_2.symm; subst e20_2
  refine Z_iret dX2_commonCount_23 rfl ?_
  exact ⟨rfl, cnt_cm hp hn ho z1 mk1 mk2 h20⟩
set_option maxRecDepth 20000 in
theorem zX3_common_f {G : tl_G} {M : zM} {J : zJ} {f g : Int} (hb : CB M) : ZN G yX3_common mX3_common 11 kMarks [vR 0, vI f, vI g] F1 M J (qI (fun x M' J' => J' = J ∧ (((f < 0 ∨ 12 ≤ f ∨ M 12 f = -1 ∨ g < 0 ∨ 12 ≤ g ∨ M 12 g = -1) ∧ x = -1) ∨ (¬ (f < 0 ∨ 12 ≤ f ∨ M 12 f = -1 ∨ g < 0 ∨ 12 ≤ g ∨ M 12 g = -1) ∧ cnt (fun y => laid (den M (M 12 f)) y ∧ laid (den M (M 12 g)) y) x)))) := by
  refine ZN_of (L := [_, _, _]) (by decide) rfl rfl (Nat.le_of_ble_eq_true rfl) rfl (fun hav => ?_)
  obtain ⟨⟨Sb, hSb, hRb⟩, -⟩ := hb
  refine Z_aload_n (n := 1) dX3_common_0 rfl rfl ?_
  refine Z_iload_n (n := 2) dX3_common_1 rfl rfl ?_
  refine Z_callVi (n := 5) [_] _ dX3_common_2 rfl cwX3_139 rfl rfl (by first | rfl | exact nS0 (nA_at (by omega) (by omega))) (Nat.le_of_ble_eq_true rfl) (by refine ⟨?_, ?_, ?_, ?_⟩ <;> exact Nat.le_of_ble_eq_true rfl) (fun _ _ => trivial) (zX3_hasFunction  ) ?_
  intro x2 M2 J2 z2 f2 q2
  obtain ⟨e2_1, e2_2, h2⟩ := q2
  replace e2_1 := e2_1.symm; subst e2_1
  replace e2_2 := e2_2.symm; subst e2_2
  refine Z_if_eq (n := 8) (t := 16) dX3_common_5 rfl (by decide) (fun c5 => ?_) (fun c5 => ?_)
  · refine Z_iconst (n := 17) dX3_common_16 rfl (by decide) ?_
    refine Z_iret dX3_common_17 rfl ?_
    exact ⟨rfl, Or.inl ⟨by omega, rfl⟩⟩
  · refine Z_aload_n (n := 9) dX3_common_8 rfl rfl ?_
    refine Z_iload_n (n := 10) dX3_common_9 rfl rfl ?_
    refine Z_callVi (n := 13) [_] _ dX3_common_10 rfl cwX3_139 rfl rfl (by first | rfl | exact nS0 (nA_at (by omega) (by omega))) (Nat.le_of_ble_eq_true rfl) (by refine ⟨?_, ?_, ?_, ?_⟩ <;> exact Nat.le_of_ble_eq_true rfl) (fun _ _ => trivial) (zX3_hasFunction  ) ?_
    intro x10 M10 J10 z10 f10 q10
    obtain ⟨e10_1, e10_2, h10⟩ := q10
    replace e10_1 := e10_1.symm; subst e10_1
    replace e10_2 := e10_2.symm; subst e10_2
    refine Z_if_ne (n := 16) (t := 18) dX3_common_13 rfl (by decide) (fun c13 => ?_) (fun c13 => ?_)
    · have okf : okN Sb (M 12 f) := (hRb _ (Or.inl ⟨f, ⟨by omega, by omega⟩, rfl⟩)).resolve_left (by omega)
      have okg : okN Sb (M 12 g) := (hRb _ (Or.inl ⟨g, ⟨by omega, by omega⟩, rfl⟩)).resolve_left (by omega)
      refine Z_aload_n (n := 19) dX3_common_18 rfl rfl ?_
      refine Z_getO (n := 22) dX3_common_19 rfl ffX3_25 (by first | rfl | exact nS0 (nA_at (by omega) (by omega))) (by first | rfl | exact nS0 (nA_at (by omega) (by omega))) ?_
      refine Z_aload_n (n := 23) dX3_common_22 rfl rfl ?_
      refine Z_getA (n := 26) dX3_common_23 rfl ffX3_29 (by first | rfl | exact nS0 (nA_at (by omega) (by omega))) (by first | rfl | exact nS0 (nA_at (by omega) (by omega))) ?_
      refine Z_iload_n (n := 27) dX3_common_26 rfl rfl ?_
      refine Z_iald (n := 28) dX3_common_27 rfl (by first | rfl | exact nS0 (nA_at (by omega) (by omega))) rfl (by first | decide | assumption) (by omega) (by omega) (fun r27 s27 => ?_)
      refine Z_aload_n (n := 29) dX3_common_28 rfl rfl ?_
      refine Z_getA (n := 32) dX3_common_29 rfl ffX3_29 (by first | rfl | exact nS0 (nA_at (by omega) (by omega))) (by first | rfl | exact nS0 (nA_at (by omega) (by omega))) ?_
      refine Z_iload_n (n := 33) dX3_common_32 rfl rfl ?_
      refine Z_iald (n := 34) dX3_common_33 rfl (by first | rfl | exact nS0 (nA_at (by omega) (by omega))) rfl (by first | decide | assumption) (by omega) (by omega) (fun r33 s33 => ?_)
      refine Z_callVi (n := 37) [_, _] _ dX3_common_34 rfl cwX3_161 rfl rfl (by first | rfl | exact nS0 (nA_at (by omega) (by omega))) (Nat.le_of_ble_eq_true rfl) (by refine ⟨?_, ?_, ?_, ?_⟩ <;> exact Nat.le_of_ble_eq_true rfl) (fun _ h => h) (zX2_commonCount_f  (by exact hSb.1) (by exact okf) (by exact okg)) ?_
      intro x34 M34 J34 z34 f34 q34
      obtain ⟨e34_1, cn34⟩ := q34
      replace e34_1 := e34_1.symm; subst e34_1
      refine Z_iret dX3_common_37 rfl ?_
      exact ⟨rfl, Or.inr ⟨by omega, cn34⟩⟩
    · refine Z_iconst (n := 17) dX3_common_16 rfl (by decide) ?_
      refine Z_iret dX3_common_17 rfl ?_
      exact ⟨rfl, Or.inl ⟨by omega, rfl⟩⟩
set_option maxRecDepth 20000 in
theorem zX4_common_g {G : tl_G} {M : zM} {J : zJ} {f g : Int}  : ZN G yX4_common mX4_common 3 kAll [vR 31, vI f, vI g] F1 M J (qI (fun x M' J' => M' = M ∧ J' = J ∧ (((f < 0 ∨ 12 ≤ f ∨ M 43 f = 0 ∨ g < 0 ∨ 12 ≤ g ∨ M 43 g = 0) ∧ x = -1) ∨ (¬ (f < 0 ∨ 12 ≤ f ∨ M 43 f = 0 ∨ g < 0 ∨ 12 ≤ g ∨ M 43 g = 0) ∧ x = sm_ (fun i => hr (cmE M f g i) (M 45 g).toNat) (M 45 f).toNat)))) := by
  refine ZN_of (L := [_, _, _, _, _, _]) (by decide) rfl rfl (Nat.le_of_ble_eq_true rfl) rfl (fun hav => ?_)
  refine Z_aload_n (n := 1) dX4_common_0 rfl rfl ?_
  refine Z_iload_n (n := 2) dX4_common_1 rfl rfl ?_
  refine Z_callVi (n := 5) [_] _ dX4_common_2 rfl cwX4_223 rfl rfl rfl (Nat.le_of_ble_eq_true rfl) (by refine ⟨?_, ?_, ?_, ?_⟩ <;> exact Nat.le_of_ble_eq_true rfl) (fun _ h => h) (zX4_isFunction  ) ?_
  intro x2 M2 J2 z2 f2 q2
  obtain ⟨e2_1, e2_2, h2⟩ := q2
  replace e2_1 := e2_1.symm; subst e2_1
  replace e2_2 := e2_2.symm; subst e2_2
  refine Z_if_eq (n := 8) (t := 16) dX4_common_5 rfl (by decide) (fun c5 => ?_) (fun c5 => ?_)
  · refine Z_iconst (n := 17) dX4_common_16 rfl (by decide) ?_
    refine Z_iret dX4_common_17 rfl ?_
    exact ⟨rfl, rfl, Or.inl ⟨by omega, rfl⟩⟩
  · refine Z_aload_n (n := 9) dX4_common_8 rfl rfl ?_
    refine Z_iload_n (n := 10) dX4_common_9 rfl rfl ?_
    refine Z_callVi (n := 13) [_] _ dX4_common_10 rfl cwX4_223 rfl rfl rfl (Nat.le_of_ble_eq_true rfl) (by refine ⟨?_, ?_, ?_, ?_⟩ <;> exact Nat.le_of_ble_eq_true rfl) (fun _ h => h) (zX4_isFunction  ) ?_
    intro x10 M10 J10 z10 f10 q10
    obtain ⟨e10_1, e10_2, h10⟩ := q10
    replace e10_1 := e10_1.symm; subst e10_1
    replace e10_2 := e10_2.symm; subst e10_2
    refine Z_if_ne (n := 16) (t := 18) dX4_common_13 rfl (by decide) (fun c13 => ?_) (fun c13 => ?_)
    · refine Z_rg 45 f rfl (fun f45 f45b => ?_)
      refine Z_rg 45 g rfl (fun g45 g45b => ?_)
      refine Z_iconst (n := 19) dX4_common_18 rfl (by decide) ?_
      refine Z_istore_n (L' := [_, _, _, _, _, _]) (n := 20) dX4_common_19 rfl (by decide) rfl rfl ?_
      refine Z_iconst (n := 21) dX4_common_20 rfl (by decide) ?_
      refine Z_istore (L' := [_, _, _, _, _, _]) (n := 23) dX4_common_21 rfl (by decide) rfl rfl ?_
      have lp23 : ∀ (N23 : Nat) (n i : Int) , ((255 - i).toNat) < N23 → (0 ≤ i) → (i ≤ 255) → (0 ≤ n) → (n ≤ 255 * i) → (n = sm_ (fun i => hr (cmE M f g i) (M 45 g).toNat) i.toNat) → (i ≤ M 45 f) → TZ G mX4_common (tl_rm 3 0 0) 0 0 kAll M J 23 [some (vR 31), some (vI f), some (vI g), some (vI n), some (vI i), none] [] F1 M J (ZM G (zPost G kAll F1 M J (qI (fun x M' J' => M' = M ∧ J' = J ∧ (((f < 0 ∨ 12 ≤ f ∨ M 43 f = 0 ∨ g < 0 ∨ 12 ≤ g ∨ M 43 g = 0) ∧ x = -1) ∨ (¬ (f < 0 ∨ 12 ≤ f ∨ M 43 f = 0 ∨ g < 0 ∨ 12 ≤ g ∨ M 43 g = 0) ∧ x = sm_ (fun i => hr (cmE M f g i) (M 45 g).toNat) (M 45 f).toNat))))) 0 0) := by
        intro N23
        induction N23 with
        | zero => intro n i  hN; omega
        | succ N23 ih23 =>
          intro n i  hN23 i23_0 i23_1 i23_2 i23_3 i23_4 i23_5
          refine Z_iload (n := 25) dX4_common_23 rfl rfl ?_
          refine Z_aload_n (n := 26) dX4_common_25 rfl rfl ?_
          refine Z_getA (n := 29) dX4_common_26 rfl ffX4_51 rfl rfl ?_
          refine Z_iload_n (n := 30) dX4_common_29 rfl rfl ?_
          refine Z_iald (n := 31) dX4_common_30 rfl rfl rfl (by first | decide | assumption) (by omega) (by omega) (fun r30 s30 => ?_)
          refine Z_icmp_ge (n := 34) (t := 97) dX4_common_31 rfl (by decide) (fun c31 => ?_) (fun c31 => ?_)
          · refine Z_iload_n (n := 98) dX4_common_97 rfl rfl ?_
            refine Z_iret dX4_common_98 rfl ?_
            refine ⟨rfl, rfl, Or.inr ⟨by omega, ?_⟩⟩
            rw [show M 45 f = i by omega]
            exact i23_4
          · have en4 : n = sm_ (fun i => hr (cmE M f g i) (M 45 g).toNat) i.toNat + hr (cmE M f g i) (0 : Int).toNat := by rw [← i23_4]; show n = n + 0; omega
            refine Z_iconst (n := 35) dX4_common_34 rfl (by decide) ?_
            refine Z_istore (L' := [_, _, _, _, _, _]) (n := 37) dX4_common_35 rfl (by decide) rfl rfl ?_
            have lp37 : ∀ (N37 : Nat) (n j : Int) , ((255 - j).toNat) < N37 → (0 ≤ j) → (j ≤ 255) → (0 ≤ n) → (n ≤ 255 * i + j) → (n = sm_ (fun i => hr (cmE M f g i) (M 45 g).toNat) i.toNat + hr (cmE M f g i) j.toNat) → (j ≤ M 45 g) → TZ G mX4_common (tl_rm 3 0 0) 0 0 kAll M J 37 [some (vR 31), some (vI f), some (vI g), some (vI n), some (vI i), some (vI j)] [] F1 M J (ZM G (zPost G kAll F1 M J (qI (fun x M' J' => M' = M ∧ J' = J ∧ (((f < 0 ∨ 12 ≤ f ∨ M 43 f = 0 ∨ g < 0 ∨ 12 ≤ g ∨ M 43 g = 0) ∧ x = -1) ∨ (¬ (f < 0 ∨ 12 ≤ f ∨ M 43 f = 0 ∨ g < 0 ∨ 12 ≤ g ∨ M 43 g = 0) ∧ x = sm_ (fun i => hr (cmE M f g i) (M 45 g).toNat) (M 45 f).toNat))))) 0 0) := by
              intro N37
              induction N37 with
              | zero => intro n j  hN; omega
              | succ N37 ih37 =>
                intro n j  hN37 i37_0 i37_1 i37_2 i37_3 i37_4 i37_5
                refine Z_iload (n := 39) dX4_common_37 rfl rfl ?_
                refine Z_aload_n (n := 40) dX4_common_39 rfl rfl ?_
                refine Z_getA (n := 43) dX4_common_40 rfl ffX4_51 rfl rfl ?_
                refine Z_iload_n (n := 44) dX4_common_43 rfl rfl ?_
                refine Z_iald (n := 45) dX4_common_44 rfl rfl rfl (by first | decide | assumption) (by omega) (by omega) (fun r44 s44 => ?_)
                refine Z_icmp_ge (n := 48) (t := 91) dX4_common_45 rfl (by decide) (fun c45 => ?_) (fun c45 => ?_)
                · have nx4 : n = sm_ (fun i => hr (cmE M f g i) (M 45 g).toNat) (i + 1).toNat := by
                    rw [sm_up _ (by omega), i37_4, show M 45 g = j by omega]
                  refine Z_iinc (L' := [_, _, _, _, _, _]) (n := 94) dX4_common_91 rfl rfl (by decide) rfl rfl (by omega) rfl ?_
                  refine Z_goto (t := 23) dX4_common_94 (by decide) ?_
                  refine Z_loc (L' := [some _, some _, some _, some _, some _, none]) (lsub_same (lsub_same (lsub_same (lsub_same (lsub_same (lsub_none lsub_nil)))))) ?_
                  exact ih23 _ _  (by omega) (by first | assumption | omega | decide) (by first | assumption | omega | decide) (by first | assumption | omega | decide) (by first | assumption | omega | decide) (by exact nx4) (by omega)
                · refine Z_iload_n (n := 49) dX4_common_48 rfl rfl ?_
                  refine Z_aload_n (n := 50) dX4_common_49 rfl rfl ?_
                  refine Z_getA (n := 53) dX4_common_50 rfl ffX4_54 rfl rfl ?_
                  refine Z_sipush (n := 56) dX4_common_53 rfl (by decide) (by decide) ?_
                  refine Z_iload_n (n := 57) dX4_common_56 rfl rfl ?_
                  refine Z_imul (n := 58) dX4_common_57 rfl (by omega) ?_
                  refine Z_iload (n := 60) dX4_common_58 rfl rfl ?_
                  refine Z_iadd (n := 61) dX4_common_60 rfl (by omega) ?_
                  refine Z_iald (n := 62) dX4_common_61 rfl rfl rfl (by first | decide | assumption) (by omega) (by omega) (fun r61 s61 => ?_)
                  refine Z_aload_n (n := 63) dX4_common_62 rfl rfl ?_
                  refine Z_getA (n := 66) dX4_common_63 rfl ffX4_54 rfl rfl ?_
                  refine Z_sipush (n := 69) dX4_common_66 rfl (by decide) (by decide) ?_
                  refine Z_iload_n (n := 70) dX4_common_69 rfl rfl ?_
                  refine Z_imul (n := 71) dX4_common_70 rfl (by omega) ?_
                  refine Z_iload (n := 73) dX4_common_71 rfl rfl ?_
                  refine Z_iadd (n := 74) dX4_common_73 rfl (by omega) ?_
                  refine Z_iald (n := 75) dX4_common_74 rfl rfl rfl (by first | decide | assumption) (by omega) (by omega) (fun r74 s74 => ?_)
                  refine Z_icmp_ne (n := 78) (t := 82) dX4_common_75 rfl (by decide) (fun c75 => ?_) (fun c75 => ?_)
                  · have ny4 : n + 0 = sm_ (fun i => hr (cmE M f g i) (M 45 g).toNat) i.toNat + hr (cmE M f g i) (j + 1).toNat := by
                      have z := hr_up (cmE M f g i) (i := j) (by omega)
                      have nz : cmE M f g i j = 0 := ind_f c75
                      rw [if_pos nz] at z
                      omega
                    refine Z_iconst (n := 83) dX4_common_82 rfl (by decide) ?_
                    refine Z_iadd (n := 84) dX4_common_83 rfl (by omega) ?_
                    refine Z_istore_n (L' := [_, _, _, _, _, _]) (n := 85) dX4_common_84 rfl (by decide) rfl rfl ?_
                    refine Z_iinc (L' := [_, _, _, _, _, _]) (n := 88) dX4_common_85 rfl rfl (by decide) rfl rfl (by omega) rfl ?_
                    refine Z_goto (t := 37) dX4_common_88 (by decide) ?_
                    refine Z_loc (L' := [some _, some _, some _, some _, some _, some _]) (lsub_same (lsub_same (lsub_same (lsub_same (lsub_same (lsub_same lsub_nil)))))) ?_
                    exact ih37 _ _  (by omega) (by first | assumption | omega | decide) (by first | assumption | omega | decide) (by first | assumption | omega | decide) (by first | assumption | omega | decide) (by exact ny4) (by omega)
                  · have ny4 : n + 1 = sm_ (fun i => hr (cmE M f g i) (M 45 g).toNat) i.toNat + hr (cmE M f g i) (j + 1).toNat := by
                      have z := hr_up (cmE M f g i) (i := j) (by omega)
                      have nz : ¬ cmE M f g i j = 0 := ind_nz.mpr c75
                      rw [if_neg nz] at z
                      omega
                    refine Z_iconst (n := 79) dX4_common_78 rfl (by decide) ?_
                    refine Z_goto (t := 83) dX4_common_79 (by decide) ?_
                    refine Z_iadd (n := 84) dX4_common_83 rfl (by omega) ?_
                    refine Z_istore_n (L' := [_, _, _, _, _, _]) (n := 85) dX4_common_84 rfl (by decide) rfl rfl ?_
                    refine Z_iinc (L' := [_, _, _, _, _, _]) (n := 88) dX4_common_85 rfl rfl (by decide) rfl rfl (by omega) rfl ?_
                    refine Z_goto (t := 37) dX4_common_88 (by decide) ?_
                    refine Z_loc (L' := [some _, some _, some _, some _, some _, some _]) (lsub_same (lsub_same (lsub_same (lsub_same (lsub_same (lsub_same lsub_nil)))))) ?_
                    exact ih37 _ _  (by omega) (by first | assumption | omega | decide) (by first | assumption | omega | decide) (by first | assumption | omega | decide) (by first | assumption | omega | decide) (by exact ny4) (by omega)
            refine Z_loc (L' := [some _, some _, some _, some _, some _, some _]) (lsub_same (lsub_same (lsub_same (lsub_same (lsub_same (lsub_same lsub_nil)))))) ?_
            exact lp37 _ _ _  (Nat.lt_succ_self _) (by first | assumption | omega | decide) (by first | assumption | omega | decide) (by first | assumption | omega | decide) (by first | assumption | omega | decide) (by exact en4) (by omega)
      refine Z_loc (L' := [some _, some _, some _, some _, some _, none]) (lsub_same (lsub_same (lsub_same (lsub_same (lsub_same (lsub_none lsub_nil)))))) ?_
      exact lp23 _ _ _  (Nat.lt_succ_self _) (by first | assumption | omega | decide) (by first | assumption | omega | decide) (by first | assumption | omega | decide) (by first | assumption | omega | decide) (by rfl) (by omega)
    · refine Z_iconst (n := 17) dX4_common_16 rfl (by decide) ?_
      refine Z_iret dX4_common_17 rfl ?_
      exact ⟨rfl, rfl, Or.inl ⟨by omega, rfl⟩⟩
end
section
/-! ===== readers on both sides ===== -/
section RDS
variable {M M1 : zM} {J : zJ} {x y : Int}
theorem ls_k (h : LSy M J) (fr : ∀ a : Nat, 31 ≤ a → M1 a = M a) (f : Int) : f < 0 ∨ 12 ≤ f ∨ (M 12 f = -1 ∧ M1 43 f = 0) ∨ (¬ M 12 f = -1 ∧ ¬ M1 43 f = 0) := hs_k h.2.2.2.2.2 (fr 43 (by decide)) f
theorem ls_d (h : LSy M J) {f : Int} (f0 : 0 ≤ f) (f1 : f < 12) (q : ¬ M 12 f = -1) : den M (M 12 f) = phi J f := (h.2.2.2.2.2 f f0 f1).2.resolve_left q
theorem sim_common {f g : Int} (ok : zOK M) (h : LSy M J) (fr : ∀ a : Nat, 31 ≤ a → M1 a = M a) (hc : ((f < 0 ∨ 12 ≤ f ∨ M 12 f = -1 ∨ g < 0 ∨ 12 ≤ g ∨ M 12 g = -1) ∧ x = -1) ∨ (¬ (f < 0 ∨ 12 ≤ f ∨ M 12 f = -1 ∨ g < 0 ∨ 12 ≤ g ∨ M 12 g = -1) ∧ cnt (fun y => laid (den M (M 12 f)) y ∧ laid (den M (M 12 g)) y) x)) (hq : ((f < 0 ∨ 12 ≤ f ∨ M1 43 f = 0 ∨ g < 0 ∨ 12 ≤ g ∨ M1 43 g = 0) ∧ y = -1) ∨ (¬ (f < 0 ∨ 12 ≤ f ∨ M1 43 f = 0 ∨ g < 0 ∨ 12 ≤ g ∨ M1 43 g = 0) ∧ y = sm_ (fun i => hr (cmE M1 f g i) (M1 45 g).toNat) (M1 45 f).toNat)) : x = y := by
  have kf := ls_k h fr f
  have kg := ls_k h fr g
  rcases hc with ⟨a, b⟩ | ⟨a, b⟩
  · rcases hq with ⟨a', b'⟩ | ⟨a', b'⟩
    · exact b.trans b'.symm
    · exfalso; omega
  · rcases hq with ⟨a', b'⟩ | ⟨a', b'⟩
    · exfalso; omega
    · have e43 : M1 43 = M 43 := fr 43 (by decide)
      have df := ls_d h (f := f) (by omega) (by omega) (by omega)
      have nf : ¬ M 43 f = 0 := by rw [← e43]; omega
      have dg := ls_d h (f := g) (by omega) (by omega) (by omega)
      have ng : ¬ M 43 g = 0 := by rw [← e43]; omega
      have ec : cmE M1 f g = cmE M f g := by
        funext i j
        unfold cmE
        rw [fr 46 (by decide)]
      rw [df, dg] at b
      rw [b', ec, fr 45 (by decide)]
      exact cnt_uniq (fun _ => Iff.rfl) b (ref_cm h.1.2.1.1 ok (by omega) (by omega) nf (by omega) (by omega) ng)
end RDS
end
