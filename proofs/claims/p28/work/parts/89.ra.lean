/-! ===== readers: what is read of a function ===== -/
theorem pos_ihd (r : Int → Int) : pos r = ihd r 8 := by
  have h := pd_mix (s := r) (d := 8) (k := 0) (r := r) rfl
  have e : mix ((8 : Nat) : Int) r r = r := by
    funext k
    unfold mix
    split <;> rfl
  rw [e] at h
  unfold pos
  rw [h]
  show ihd r 8 * 1 + 0 = ihd r 8
  omega
/-- the values that an assignment gives to the places -/
def aR (o : Int → Int) (a : Int) : Int → Int := fun k => if 0 ≤ k ∧ k < 8 then zand (zshr a (o k)) 1 else 0
theorem aR_in {o : Int → Int} {a k : Int} (h0 : 0 ≤ k) (h1 : k < 8) : aR o a k = zand (zshr a (o k)) 1 := if_pos ⟨h0, h1⟩
theorem aR_cg {o o' : Int → Int} {a : Int} (h : ∀ k : Int, 0 ≤ k → k < 8 → o' k = o k) : aR o' a = aR o a := by
  funext k
  unfold aR
  by_cases q : 0 ≤ k ∧ k < 8
  · rw [if_pos q, if_pos q, h k q.1 q.2]
  · rw [if_neg q, if_neg q]
theorem bz_and (x : Int) : bz (zand x 1) = zand x 1 := by
  rcases zand_1 x with h | h
  · rw [h]; rfl
  · rw [h]; rfl
theorem stF_ihd (o : Int → Int) (a : Int) : ∀ n : Nat, n ≤ 8 → stF o a n = ihd (aR o a) n
  | 0, _ => rfl
  | n + 1, h => by
    show 2 * stF o a n + zand (zshr a (o (n : Int))) 1 = 2 * ihd (aR o a) n + bz (aR o a (n : Int))
    rw [stF_ihd o a n (by omega), aR_in (show (0 : Int) ≤ (n : Int) by omega) (by omega), bz_and]
theorem stF_pos (o : Int → Int) (a : Int) : stF o a 8 = pos (aR o a) := by
  rw [pos_ihd]
  exact stF_ihd o a 8 (Nat.le_refl 8)
theorem bz_01 (x : Int) : bz x = 0 ∨ bz x = 1 := bz_in x
theorem ihd_inj {s s' : Int → Int} : ∀ {d : Nat}, ihd s d = ihd s' d → ∀ j : Int, 0 ≤ j → j < d → bz (s j) = bz (s' j)
  | 0, _, j, a, b => by omega
  | d + 1, h, j, a, b => by
    have h' : 2 * ihd s d + bz (s (d : Int)) = 2 * ihd s' d + bz (s' (d : Int)) := h
    have e1 := bz_01 (s (d : Int))
    have e2 := bz_01 (s' (d : Int))
    by_cases q : j = d
    · rw [q]; omega
    · exact ihd_inj (d := d) (by omega) j a (by omega)
theorem bits8 : ∀ a : Fin 256, (a.val : Int) = zand (zshr a.val 0) 1 + 2 * zand (zshr a.val 1) 1 + 4 * zand (zshr a.val 2) 1 + 8 * zand (zshr a.val 3) 1 + 16 * zand (zshr a.val 4) 1 + 32 * zand (zshr a.val 5) 1 + 64 * zand (zshr a.val 6) 1 + 128 * zand (zshr a.val 7) 1 := by decide +kernel
theorem bits_inj {a b : Int} (a0 : 0 ≤ a) (a1 : a < 256) (b0 : 0 ≤ b) (b1 : b < 256) (h : ∀ v : Int, 0 ≤ v → v < 8 → zand (zshr a v) 1 = zand (zshr b v) 1) : a = b := by
  have ha := bits8 ⟨a.toNat, by omega⟩
  have hb := bits8 ⟨b.toNat, by omega⟩
  dsimp only at ha hb
  rw [Int.toNat_of_nonneg a0] at ha
  rw [Int.toNat_of_nonneg b0] at hb
  have h0 := h 0 (by decide) (by decide)
  have h1 := h 1 (by decide) (by decide)
  have h2 := h 2 (by decide) (by decide)
  have h3 := h 3 (by decide) (by decide)
  have h4 := h 4 (by decide) (by decide)
  have h5 := h 5 (by decide) (by decide)
  have h6 := h 6 (by decide) (by decide)
  have h7 := h 7 (by decide) (by decide)
  omega
/-- another assignment, another place in the row -/
theorem aR_inj {A P : Int → Int} (hI : oIn A P) {a b : Int} (a0 : 0 ≤ a) (a1 : a < 256) (b0 : 0 ≤ b) (b1 : b < 256) (h : pos (aR A a) = pos (aR A b)) : a = b := by
  rw [pos_ihd, pos_ihd] at h
  refine bits_inj a0 a1 b0 b1 (fun v v0 v1 => ?_)
  obtain ⟨⟨p0, p1, p2⟩, -⟩ := hI v v0 v1
  have e := ihd_inj h (P v) p0 (by omega)
  rw [aR_in p0 p1, aR_in p0 p1, bz_and, bz_and, p2] at e
  exact e
theorem pig {g : Int → Int} {n : Nat} (hr : ∀ a : Int, 0 ≤ a → a < n → 0 ≤ g a ∧ g a < n) (hi : ∀ a b : Int, 0 ≤ a → a < n → 0 ≤ b → b < n → g a = g b → a = b) : ∀ p : Int, 0 ≤ p → p < n → ∃ a : Int, 0 ≤ a ∧ a < n ∧ g a = p := by
  intro p p0 p1
  by_cases q : ∃ a : Int, 0 ≤ a ∧ a < n ∧ g a = p
  · exact q
  · exfalso
    have hl : ((lv (fun _ => 1) n).map g).Nodup := nodup_map_on (lv_nodup n) (fun a ha b hb e => by
      have ha' := lv_mem.mp ha
      have hb' := lv_mem.mp hb
      exact hi a b ha'.1 ha'.2.1 hb'.1 hb'.2.1 e)
    have hn : (p :: (lv (fun _ => 1) n).map g).Nodup := List.nodup_cons.mpr ⟨fun m => by
      obtain ⟨a, ha, e⟩ := List.mem_map.mp m
      have ha' := lv_mem.mp ha
      exact q ⟨a, ha'.1, ha'.2.1, e⟩, hl⟩
    have hs : ∀ x ∈ p :: (lv (fun _ => 1) n).map g, x ∈ lv (fun _ => 1) n := fun x hx => by
      refine lv_mem.mpr ?_
      rcases List.mem_cons.mp hx with e | m
      · rw [e]; exact ⟨p0, p1, by show ¬ (1 : Int) = 0; decide⟩
      · obtain ⟨a, ha, e⟩ := List.mem_map.mp m
        have ha' := lv_mem.mp ha
        have z := hr a ha'.1 ha'.2.1
        rw [← e]
        exact ⟨z.1, z.2, by show ¬ (1 : Int) = 0; decide⟩
    have h1 := nodup_len hn hs
    rw [List.length_cons, List.length_map] at h1
    omega
/-- counted over assignments as over the row -/
theorem hr_bij {g s : Int → Int} {n : Nat} (hr' : ∀ a : Int, 0 ≤ a → a < n → 0 ≤ s a ∧ s a < n) (hi : ∀ a b : Int, 0 ≤ a → a < n → 0 ≤ b → b < n → s a = s b → a = b) : hr (fun a => g (s a)) n = hr g n := by
  have c1 : cnt (fun y : Lb => ∃ p : Int, (0 ≤ p ∧ p < n) ∧ ¬ g p = 0 ∧ y = (p, fun _ => 0)) (hr g n) := cnt_hr (g := fun p => (p, fun _ => 0)) (fun a b _ _ _ _ _ _ e => congrArg Prod.fst e) (fun a a0 a1 ha => ⟨a, ⟨a0, a1⟩, ha, rfl⟩) (fun x hx => by
    obtain ⟨p, pb, q, e⟩ := hx
    exact ⟨p, pb.1, pb.2, q, e.symm⟩)
  have c2 : cnt (fun y : Lb => ∃ p : Int, (0 ≤ p ∧ p < n) ∧ ¬ g p = 0 ∧ y = (p, fun _ => 0)) (hr (fun a => g (s a)) n) := cnt_hr (g := fun a => (s a, fun _ => 0)) (fun a b a0 a1 b0 b1 _ _ e => hi a b a0 a1 b0 b1 (congrArg Prod.fst e)) (fun a a0 a1 ha => ⟨s a, hr' a a0 a1, ha, rfl⟩) (fun x hx => by
    obtain ⟨p, pb, q, e⟩ := hx
    obtain ⟨a, a0, a1, w⟩ := pig hr' hi p pb.1 pb.2
    exact ⟨a, a0, a1, by show ¬ g (s a) = 0; rw [w]; exact q, by show ((s a, fun _ => 0) : Lb) = x; rw [e, w]⟩)
  exact cnt_uniq (fun _ => Iff.rfl) c2 c1
/-- a function's value at an assignment -/
def vF (F : FN) (o : Int → Int) (a : Int) : Int := F (aR o a)
theorem cnt_as {A P : Int → Int} (hI : oIn A P) (B : Int → Int64) : hr (vF (fun r => btF B (pos r)) A) 256 = hr (btF B) 256 :=
  hr_bij (g := btF B) (s := fun a => pos (aR A a)) (n := 256) (fun a _ _ => by have z := pos_in (aR A a); exact ⟨z.1, by show pos (aR A a) < ((256 : Nat) : Int); omega⟩) (fun a b a0 a1 b0 b1 e => aR_inj hI a0 (by omega) b0 (by omega) e)
/-- it hangs on a place -/
def hgF (F : FN) (d : Int) : Prop := ∃ r : Int → Int, ¬ F (updI r d 0) = F (updI r d 1)
theorem mix_upd {d v : Int} {s r : Int → Int} : mix d s (updI r d v) = updI (mix d s r) d v := by
  funext k
  by_cases e : k = d
  · rw [e, mix_ge (Int.le_refl d), updI_s, updI_s]
  · rw [updI_n e]
    by_cases q : k < d
    · rw [mix_lt q, mix_lt q]
    · rw [mix_ge (by omega), mix_ge (by omega), updI_n e]
theorem mix_self {d : Int} {r : Int → Int} : mix d r r = r := by
  funext k
  unfold mix
  split <;> rfl
theorem hg_laid {F : FN} {d : Int} (d0 : 0 ≤ d) (d1 : d < 8) : hgF F d ↔ ∃ p : FN, laid F (d, p) := by
  constructor
  · rintro ⟨r, q⟩
    refine ⟨fun r' => F (mix d r r'), ⟨d0, d1⟩, ⟨r, rfl⟩, r, ?_⟩
    show ¬ F (mix d r (updI r d 0)) = F (mix d r (updI r d 1))
    rw [mix_upd, mix_upd, mix_self]
    exact q
  · rintro ⟨p, -, ⟨s, e⟩, r, q⟩
    have e' : p = fun r => F (mix d s r) := e
    have q' : ¬ p (updI r d 0) = p (updI r d 1) := q
    refine ⟨mix d s r, fun w => q' ?_⟩
    rw [e']
    show F (mix d s (updI r d 0)) = F (mix d s (updI r d 1))
    rw [mix_upd, mix_upd]
    exact w
/-- the bit of a place in the row -/
theorem pos_at (r : Int → Int) {k : Nat} (hk : k ≤ 7) : ∃ a b : Int, (0 ≤ b ∧ b < pw2 k) ∧ 0 ≤ a ∧ pos r = a * pw2 (k + 1) + bz (r (7 - (k : Int))) * pw2 k + b ∧ ∀ v : Int, pos (updI r (7 - (k : Int)) v) = a * pw2 (k + 1) + bz v * pw2 k + b := by
  have m : ∀ r' : Int → Int, pos r' = ihd r' (7 - k) * pw2 (k + 1) + pd r' (k + 1) := fun r' => by
    have h := pd_mix (s := r') (d := 7 - k) (k := k + 1) (r := r') (by omega)
    rw [mix_self] at h
    exact h
  refine ⟨ihd r (7 - k), pd r k, pd_in r k, (ihd_in r (7 - k)).1, ?_, fun v => ?_⟩
  · rw [m r]
    show ihd r (7 - k) * pw2 (k + 1) + (bz (r (7 - (k : Int))) * pw2 k + pd r k) = _
    omega
  · rw [m (updI r (7 - (k : Int)) v), pd_up, ihd_ag (s := updI r (7 - (k : Int)) v) (s' := r) (fun j hj => updI_n (by omega))]
    omega
theorem zx_ok : ∀ (p : Fin 256) (e : Fin 8), zxor (p.val : Int) (zshl 1 (e.val : Int)) = if (p.val : Int) / pw2 e.val % 2 = 0 then (p.val : Int) + pw2 e.val else (p.val : Int) - pw2 e.val := by decide +kernel
theorem pw2_cs {k : Nat} (hk : k ≤ 7) : pw2 k = 1 ∨ pw2 k = 2 ∨ pw2 k = 4 ∨ pw2 k = 8 ∨ pw2 k = 16 ∨ pw2 k = 32 ∨ pw2 k = 64 ∨ pw2 k = 128 := by
  rcases (show k = 0 ∨ k = 1 ∨ k = 2 ∨ k = 3 ∨ k = 4 ∨ k = 5 ∨ k = 6 ∨ k = 7 by omega) with e | e | e | e | e | e | e | e <;> rw [e] <;> decide
theorem zx_bit {p a b : Int} {k : Nat} (hk : k ≤ 7) (b0 : 0 ≤ b) (b1 : b < pw2 k) (h : p = a * pw2 (k + 1) + b) (p0 : 0 ≤ p) (p1 : p + pw2 k < 256) : zxor p (zshl 1 (k : Int)) = p + pw2 k ∧ zxor (p + pw2 k) (zshl 1 (k : Int)) = p := by
  have hw := pw2_cs hk
  have w1 := pw2_pos k
  have z1 := zx_ok ⟨p.toNat, by omega⟩ ⟨k, by omega⟩
  have z2 := zx_ok ⟨(p + pw2 k).toNat, by omega⟩ ⟨k, by omega⟩
  have e1 : ((p.toNat : Nat) : Int) = p := Int.toNat_of_nonneg p0
  have e2 : (((p + pw2 k).toNat : Nat) : Int) = p + pw2 k := Int.toNat_of_nonneg (by omega)
  dsimp only at z1 z2
  rw [e1] at z1
  rw [e2] at z2
  have hh : pw2 (k + 1) = 2 * pw2 k := rfl
  rw [hh] at h
  have c1 : p / pw2 k % 2 = 0 := by
    rcases hw with e | e | e | e | e | e | e | e <;> rw [e] at h b1 ⊢ <;> omega
  have c2 : ¬ (p + pw2 k) / pw2 k % 2 = 0 := by
    rcases hw with e | e | e | e | e | e | e | e <;> rw [e] at h b1 ⊢ <;> omega
  rw [if_pos c1] at z1
  rw [if_neg c2] at z2
  exact ⟨z1, by omega⟩
def hgP (B : Int → Int64) (d : Int) : Prop := ∃ p : Int, (0 ≤ p ∧ p < 256) ∧ ¬ btF B p = btF B (zxor p (zshl 1 (7 - d)))
theorem hg_pos {B : Int → Int64} {d : Int} (d0 : 0 ≤ d) (d1 : d < 8) : hgP B d ↔ hgF (fun r => btF B (pos r)) d := by
  obtain ⟨k, ek⟩ : ∃ k : Nat, d = 7 - (k : Int) := ⟨(7 - d).toNat, by omega⟩
  have hk : k ≤ 7 := by omega
  have e7 : (7 : Int) - d = (k : Int) := by omega
  have key : ∀ r : Int → Int, zxor (pos (updI r d 0)) (zshl 1 (7 - d)) = pos (updI r d 1) ∧ zxor (pos (updI r d 1)) (zshl 1 (7 - d)) = pos (updI r d 0) := fun r => by
    obtain ⟨a, b, ⟨b0, b1⟩, a0, -, ev⟩ := pos_at r hk
    have q0 := ev 0
    have q1 := ev 1
    rw [← ek] at q0 q1
    rw [bz_0] at q0
    rw [bz_1] at q1
    have i0 := pos_in (updI r d 0)
    have i1 := pos_in (updI r d 1)
    have e1 : pos (updI r d 1) = pos (updI r d 0) + pw2 k := by omega
    have z := zx_bit (p := pos (updI r d 0)) (a := a) hk b0 b1 (by omega) i0.1 (by omega)
    rw [e7, e1]
    exact z
  constructor
  · rintro ⟨p, pb, q⟩
    obtain ⟨r, er⟩ := pd_onto 8 p pb.1 (by have := pw2_v; omega)
    have er' : pos r = p := er
    obtain ⟨a, b, ⟨b0, b1⟩, a0, e, ev⟩ := pos_at r hk
    have q0 := ev 0
    have q1 := ev 1
    rw [← ek] at q0 q1 e
    rw [bz_0] at q0
    rw [bz_1] at q1
    obtain ⟨k1, k2⟩ := key r
    refine ⟨r, fun w => q ?_⟩
    rcases bz_01 (r d) with v | v
    · rw [v] at e
      have ep : p = pos (updI r d 0) := by omega
      rw [ep, k1]
      exact w
    · rw [v] at e
      have ep : p = pos (updI r d 1) := by omega
      rw [ep, k2]
      exact w.symm
  · rintro ⟨r, q⟩
    refine ⟨pos (updI r d 0), pos_in _, ?_⟩
    rw [(key r).1]
    exact q
/-! counts over places -/
theorem mk_gen {M : zM} {S : Int → Prop} {s n : Int} {w w' : Int → Int} (hp : pst M S) (hn : okN S n) (hm : mkR M S s n 0 w w') {y : Lb} (hy : laid (den M n) y) : ∃ m : Int, (S m ∧ mkw w' s m) ∧ lab M m = y := by
  have up : ∀ c : Int, okN S c → okw w' s c → okN (fun m => S m ∧ mkw w' s m) c := fun c hc t => by
    have ci := okN_in hp hc
    by_cases u : c < 2
    · rcases (show c = 0 ∨ c = 1 by omega) with v | v
      · exact Or.inl v
      · exact Or.inr (Or.inl v)
    · exact Or.inr (Or.inr ⟨okN_2 hp hc (by omega), t.resolve_left u⟩)
  refine laid_in hp (C := fun m => S m ∧ mkw w' s m) (fun m q => ?_) (up n hn ?_) hy
  · obtain ⟨-, p, -, c1, c2⟩ := hp.2.1 m q.1
    have z := hm.2.2 m q.1 p.1 q.2
    exact ⟨q.1, up _ c1.1 z.1, up _ c2.1 z.2⟩
  · by_cases u : n < 2
    · exact Or.inl u
    · exact Or.inr (hm.2.1 (by omega))
noncomputable def ncF (w pl : Int → Int) (p k : Int) : Int := ind ((2 ≤ k ∧ ¬ w k = 0) ∧ pl k = p)
theorem cnt_at {M : zM} {S : Int → Prop} {n x p : Int} {w w' : Int → Int} (hp : pst M S) (hn : n = -1 ∨ okN S n) (h0 : ∀ m : Int, 0 ≤ m → m < 252 → w m = 0) (hm : mkR M S 1 n 0 w w') (hx : x = hr (ncF w' (M 6) p) 252) : cnt (fun y => laid (den M n) y ∧ y.1 = p) x := by
  obtain ⟨h1, h2⟩ := mk_one hp hn h0 hm
  rw [hx]
  have key : ∀ a : Int, a < 252 → ¬ ncF w' (M 6) p a = 0 → S a ∧ laid (den M n) (lab M a) ∧ M 6 a = p := fun a a1 ha => by
    have q := ind_nz.mp ha
    rcases h1 a q.1.1 a1 with z | z
    · exact absurd z q.1.2
    · exact ⟨z.2.1, z.2.2, q.2⟩
  refine cnt_hr (g := lab M) (fun a b a0 a1 b0 b1 ha hb e => lab_inj hp (key a (by omega) ha).1 (key b (by omega) hb).1 e) (fun a a0 a1 ha => ?_) (fun y hy => ?_)
  · have q := key a (by omega) ha
    exact ⟨q.2.1, q.2.2⟩
  · obtain ⟨m, q, e⟩ := h2 y hy.1
    refine ⟨m, by omega, by omega, ind_nz.mpr ⟨⟨q.1.1, by rw [q.2]; decide⟩, ?_⟩, e⟩
    have e2 : (lab M m).1 = y.1 := by rw [e]
    exact e2.trans hy.2
theorem ctE_hs {w : Int → Int} {s : Int} : ∀ n : Nat, ctE (fun k => w (k + 2)) s n = hr (fun k => ind ((2 ≤ k ∧ k < 252) ∧ w k = s)) (n + 2) ∨ 250 < n
  | 0 => Or.inl (by
    show 0 = _
    exact (hr_zero (fun k a b => ind_f (fun q => by omega))).symm)
  | n + 1 => by
    by_cases hn : 250 < n + 1
    · exact Or.inr hn
    · left
      have ih := (ctE_hs (w := w) (s := s) n).resolve_right (by omega)
      show ctE (fun k => w (k + 2)) s n + (if w ((n : Int) + 2) = s then 1 else 0) = hr _ (n + 2) + (if ind (_ ∧ w ((n + 2 : Nat) : Int) = s) = 0 then 0 else 1)
      rw [ih, show ((n + 2 : Nat) : Int) = (n : Int) + 2 by omega]
      by_cases e : w ((n : Int) + 2) = s
      · rw [if_pos e, if_neg (ind_nz.mpr ⟨⟨by omega, by omega⟩, e⟩)]
      · rw [if_neg e, if_pos (ind_f (fun q => e q.2))]
theorem zo12 : zor 0 2 = 2 ∧ zor 1 2 = 3 ∧ zand 0 2 = 0 ∧ zand 1 2 = 0 ∧ zand 2 2 = 2 ∧ zand 3 2 = 2 := by decide +kernel
theorem cnt_cm {M : zM} {S : Int → Prop} {n o x : Int} {w w1 w2 : Int → Int} (hp : pst M S) (hn : okN S n) (ho : okN S o) (h0 : ∀ m : Int, 0 ≤ m → m < 252 → w m = 0) (hm : mkR M S 1 n 0 w w1) (hm2 : mkR M S 2 o 0 w1 w2) (hx : x = ctE (fun k => w2 (k + 2)) 3 250) : cnt (fun y => laid (den M n) y ∧ laid (den M o) y) x := by
  obtain ⟨h1, h2⟩ := mk_one hp (Or.inr hn) h0 hm
  rw [hx, (ctE_hs (w := w2) 250).resolve_right (by decide)]
  have key : ∀ a : Int, ¬ ind ((2 ≤ a ∧ a < 252) ∧ w2 a = 3) = 0 → S a ∧ laid (den M n) (lab M a) ∧ laid (den M o) (lab M a) := fun a ha => by
    have q := ind_nz.mp ha
    rcases h1 a q.1.1 q.1.2 with z | z
    · rcases hm2.1 a with e | ⟨e, -⟩
      · rw [e, z] at q; exact absurd q.2 (by decide)
      · rw [e, z, zo12.1] at q; exact absurd q.2 (by decide)
    · rcases hm2.1 a with e | ⟨e, e1, e2⟩
      · rw [e, z.1] at q; exact absurd q.2 (by decide)
      · exact ⟨z.2.1, z.2.2, e2⟩
  refine cnt_hr (g := lab M) (fun a b a0 a1 b0 b1 ha hb e => lab_inj hp (key a ha).1 (key b hb).1 e) (fun a a0 a1 ha => (key a ha).2) (fun y hy => ?_)
  obtain ⟨m, q, e⟩ := h2 y hy.1
  obtain ⟨m', ⟨s', k'⟩, e'⟩ := mk_gen hp ho hm2 hy.2
  have sm : S m := by
    rcases h1 m q.1.1 q.1.2 with z | z
    · rw [q.2] at z; cases z
    · exact z.2.1
  have em : m' = m := lab_inj hp s' sm (e'.trans e.symm)
  rw [em] at k'
  have w3 : w2 m = 3 := by
    unfold mkw at k'
    rcases hm2.1 m with t | ⟨t, -⟩
    · rw [t, q.2, zo12.2.2.2.1] at k'; exact absurd rfl k'
    · rw [t, q.2]; exact zo12.2.1
  exact ⟨m, by omega, by omega, ind_nz.mpr ⟨q.1, w3⟩, e⟩
/-! the reference's nodes of a function -/
theorem ref_ix {M : zM} {J : zJ} (h : TI M J) (hok : zOK M) {f : Int} (f0 : 0 ≤ f) (f1 : f < 56) (hf : ¬ M 43 f = 0) : (∀ a : Int, 0 ≤ a → a < M 45 f → ((0 ≤ M 46 (255 * f + a) ∧ M 46 (255 * f + a) < 520) ∧ ¬ M 49 (M 46 (255 * f + a)) = 0) ∧ laid (phi J f) (rlab M J (M 46 (255 * f + a)))) ∧ (∀ a b : Int, 0 ≤ a → a < M 45 f → 0 ≤ b → b < M 45 f → M 46 (255 * f + a) = M 46 (255 * f + b) → a = b) ∧ ∀ y : Lb, laid (phi J f) y → ∃ a : Int, 0 ≤ a ∧ a < M 45 f ∧ rlab M J (M 46 (255 * f + a)) = y := by
  have hin : ∀ j : Int, 0 ≤ j → j < M 45 f → inS M f 0 (M 46 (255 * f + j)) := fun j a b => ⟨j, a, b, rfl⟩
  have hlv : ∀ j : Int, 0 ≤ j → j < M 45 f → (0 ≤ M 46 (255 * f + j) ∧ M 46 (255 * f + j) < 520) ∧ ¬ M 49 (M 46 (255 * f + j)) = 0 := fun j a b => by
    have nr := inS_range hok (hin j a b)
    exact ⟨nr, held_of h.2.1 f0 f1 nr.1 nr.2 hf (hin j a b)⟩
  refine ⟨fun a a0 a1 => ⟨hlv a a0 a1, ?_⟩, fun a b a0 a1 b0 b1 q => ?_, fun x hx => ?_⟩
  · obtain ⟨d, i, q1, q2, q3⟩ := (h.2.2.1 f f0 f1 hf).2 _ (hin a a0 a1)
    refine laid_B.mpr ⟨i, ?_⟩
    rw [rlab_eq q3.1 q1.1.1 q1.1.2 (kyf_of q3)]
    exact ⟨q1.1, q1.2, q2, rfl⟩
  · have z := (h.2.1.2 f f0 f1).1
    by_cases t : a = b
    · exact t
    · exfalso
      rcases (show a < b ∨ b < a by omega) with t | t
      · exact z a b a0 t b1 q
      · exact z b a b0 t a1 q.symm
  · obtain ⟨i, ⟨a, b⟩, ⟨c, w⟩, q, e⟩ := laid_B.mp hx
    obtain ⟨n, ⟨j, j0, j1, hj⟩, h2⟩ := (h.2.2.1 f f0 f1 hf).1 x.1 i a b c w q
    refine ⟨j, j0, j1, ?_⟩
    rw [hj, rlab_eq h2.1 a b (kyf_of h2)]
    exact Prod.ext rfl e.symm
noncomputable def lvF (M : zM) (f d k : Int) : Int := ind (M 47 (M 46 (255 * f + k)) = d)
theorem ref_lv {M : zM} {J : zJ} (h : TI M J) (hok : zOK M) {f d : Int} (f0 : 0 ≤ f) (f1 : f < 56) (hf : ¬ M 43 f = 0) : cnt (fun y => laid (phi J f) y ∧ y.1 = d) (hr (lvF M f d) (M 45 f).toNat) := by
  obtain ⟨h1, h2, h3⟩ := ref_ix h hok f0 f1 hf
  have h45 : 0 ≤ M 45 f ∧ M 45 f ≤ 255 := hok 45 f
  refine cnt_hr (g := fun a => rlab M J (M 46 (255 * f + a))) (fun a b a0 a1 b0 b1 _ _ e => ?_) (fun a a0 a1 ha => ⟨(h1 a a0 (by omega)).2, ind_nz.mp ha⟩) (fun y hy => ?_)
  · have za := (h1 a a0 (by omega)).1
    have zb := (h1 b b0 (by omega)).1
    exact h2 a b a0 (by omega) b0 (by omega) (rlab_inj h za.1.1 za.1.2 zb.1.1 zb.1.2 za.2 zb.2 e)
  · obtain ⟨a, a0, a1, e⟩ := h3 y hy.1
    refine ⟨a, a0, by omega, ind_nz.mpr ?_, e⟩
    have e2 : (rlab M J (M 46 (255 * f + a))).1 = y.1 := by rw [e]
    exact e2.trans hy.2
def sm_ (g : Int → Int) : Nat → Int
  | 0 => 0
  | n + 1 => sm_ g n + g (n : Int)
theorem sm_up (g : Int → Int) {i : Int} (h : 0 ≤ i) : sm_ g (i + 1).toNat = sm_ g i.toNat + g i := by
  rw [show (i + 1).toNat = i.toNat + 1 by omega]
  show sm_ g i.toNat + g (i.toNat : Int) = _
  rw [Int.toNat_of_nonneg h]
theorem hr_one {f : Int → Int} : ∀ {n : Nat}, (∀ a b : Int, 0 ≤ a → a < n → 0 ≤ b → b < n → ¬ f a = 0 → ¬ f b = 0 → a = b) → hr f n = ind (∃ a : Int, (0 ≤ a ∧ a < n) ∧ ¬ f a = 0)
  | 0, _ => by
    have no : ¬ ∃ a : Int, (0 ≤ a ∧ a < ((0 : Nat) : Int)) ∧ ¬ f a = 0 := by
      rintro ⟨a, b, -⟩
      omega
    rw [ind_f no]
    rfl
  | n + 1, h => by
    show hr f n + (if f (n : Int) = 0 then 0 else 1) = _
    by_cases e : f (n : Int) = 0
    · rw [if_pos e, hr_one (n := n) (fun a b a0 a1 b0 b1 => h a b a0 (by omega) b0 (by omega)), Int.add_zero]
      refine ind_congr ⟨fun ⟨a, ab, q⟩ => ⟨a, by omega, q⟩, fun ⟨a, ab, q⟩ => ⟨a, ?_, q⟩⟩
      by_cases w : a = n
      · rw [w] at q; exact absurd e q
      · omega
    · have ex : ∃ a : Int, (0 ≤ a ∧ a < ((n + 1 : Nat) : Int)) ∧ ¬ f a = 0 := ⟨(n : Int), by omega, e⟩
      have hz : hr f n = 0 := hr_zero (fun k k0 k1 => by
        by_cases w : f k = 0
        · exact w
        · have := h k n k0 (by omega) (by omega) (by omega) w e
          omega)
      rw [if_neg e, ind_t ex]
      omega
noncomputable def cmE (M : zM) (f g i j : Int) : Int := ind (M 46 (255 * f + i) = M 46 (255 * g + j))
theorem sm_ind {P : Int → Prop} {g : Int → Int} : ∀ {n : Nat}, (∀ i : Int, 0 ≤ i → i < n → g i = ind (P i)) → sm_ g n = hr (fun i => ind (P i)) n
  | 0, _ => rfl
  | n + 1, h => by
    show sm_ g n + g (n : Int) = hr _ n + (if ind (P (n : Int)) = 0 then 0 else 1)
    rw [sm_ind (n := n) (fun i a b => h i a (by omega)), h n (by omega) (by omega)]
    by_cases q : P (n : Int)
    · rw [if_neg (ind_nz.mpr q), ind_t q]
    · rw [if_pos (ind_f q), ind_f q]
theorem ref_cm {M : zM} {J : zJ} (h : TI M J) (hok : zOK M) {f g : Int} (f0 : 0 ≤ f) (f1 : f < 56) (hf : ¬ M 43 f = 0) (g0 : 0 ≤ g) (g1 : g < 56) (hg : ¬ M 43 g = 0) : cnt (fun y => laid (phi J f) y ∧ laid (phi J g) y) (sm_ (fun i => hr (cmE M f g i) (M 45 g).toNat) (M 45 f).toNat) := by
  obtain ⟨h1, h2, h3⟩ := ref_ix h hok f0 f1 hf
  obtain ⟨k1, k2, k3⟩ := ref_ix h hok g0 g1 hg
  have f45 : 0 ≤ M 45 f ∧ M 45 f ≤ 255 := hok 45 f
  have g45 : 0 ≤ M 45 g ∧ M 45 g ≤ 255 := hok 45 g
  rw [sm_ind (g := fun i => hr (cmE M f g i) (M 45 g).toNat) (P := fun i => ∃ a : Int, (0 ≤ a ∧ a < ((M 45 g).toNat : Int)) ∧ ¬ cmE M f g i a = 0) (fun i i0 i1 => hr_one (fun a b a0 a1 b0 b1 ha hb => k2 a b a0 (by omega) b0 (by omega) ((ind_nz.mp ha).symm.trans (ind_nz.mp hb))))]
  refine cnt_hr (g := fun a => rlab M J (M 46 (255 * f + a))) (fun a b a0 a1 b0 b1 _ _ e => ?_) (fun a a0 a1 ha => ?_) (fun y hy => ?_)
  · have za := (h1 a a0 (by omega)).1
    have zb := (h1 b b0 (by omega)).1
    exact h2 a b a0 (by omega) b0 (by omega) (rlab_inj h za.1.1 za.1.2 zb.1.1 zb.1.2 za.2 zb.2 e)
  · obtain ⟨j, jb, q⟩ := ind_nz.mp ha
    have e := ind_nz.mp q
    refine ⟨(h1 a a0 (by omega)).2, ?_⟩
    show laid (phi J g) (rlab M J (M 46 (255 * f + a)))
    rw [e]
    exact (k1 j jb.1 (by omega)).2
  · obtain ⟨a, a0, a1, e⟩ := h3 y hy.1
    obtain ⟨j, j0, j1, e'⟩ := k3 y hy.2
    have za := (h1 a a0 a1).1
    have zj := (k1 j j0 j1).1
    have eq := rlab_inj h za.1.1 za.1.2 zj.1.1 zj.1.2 za.2 zj.2 (e.trans e'.symm)
    exact ⟨a, a0, by omega, ind_nz.mpr ⟨j, ⟨j0, by omega⟩, ind_nz.mpr eq⟩, e⟩
