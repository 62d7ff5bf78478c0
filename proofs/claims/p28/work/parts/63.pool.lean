/-! ===== the pool: chains, nodeFor ===== -/
/-- a chain of the pool's nodes -/
def chp (nx : Int → Int) : Int → List Int → Prop
  | s, [] => s = -1
  | s, n :: r => s = n ∧ 2 ≤ n ∧ n < 252 ∧ chp nx (nx n) r
theorem chp_rng {nx : Int → Int} : ∀ {l : List Int} {s : Int}, chp nx s l → ∀ n ∈ l, 2 ≤ n ∧ n < 252
  | [], _, _, n, hn => by cases hn
  | m :: r, s, h, n, hn => by
    rcases List.mem_cons.mp hn with rfl | hn
    · exact ⟨h.2.1, h.2.2.1⟩
    · exact chp_rng h.2.2.2 n hn
theorem chp_congr {nx nx' : Int → Int} : ∀ {l : List Int} {s : Int}, (∀ n ∈ l, nx' n = nx n) → chp nx s l → chp nx' s l
  | [], _, _, h => h
  | m :: r, s, e, h => ⟨h.1, h.2.1, h.2.2.1, by
      rw [e m List.mem_cons_self]
      exact chp_congr (fun n hn => e n (List.mem_cons_of_mem _ hn)) h.2.2.2⟩
theorem chp_push {nx : Int → Int} {l : List Int} {s n : Int} (h : chp nx s l) (h0 : 2 ≤ n) (h1 : n < 252) (hn : n ∉ l) : chp (updI nx n s) n (n :: l) :=
  ⟨rfl, h0, h1, by
    rw [updI_s]
    exact chp_congr (fun m hm => updI_n (fun e => hn (e ▸ hm))) h⟩
theorem chp_cons {nx : Int → Int} {s : Int} {l : List Int} (h : chp nx s l) (hs : ¬ s = -1) : ∃ r, l = s :: r ∧ 2 ≤ s ∧ s < 252 ∧ chp nx (nx s) r := by
  cases l with
  | nil => exact absurd h hs
  | cons n r =>
    obtain ⟨rfl, h1, h2, h3⟩ := h
    exact ⟨r, rfl, h1, h2, h3⟩
theorem chp_nil {nx : Int → Int} {s : Int} {l : List Int} (h : chp nx s l) (hs : s = -1) : l = [] := by
  cases l with
  | nil => rfl
  | cons n r =>
    obtain ⟨rfl, h1, h2, h3⟩ := h
    omega
def rg250 : Nat → List Int
  | 0 => []
  | n + 1 => ((n : Int) + 2) :: rg250 n
theorem rg250_mem : ∀ {n : Nat} {k : Int}, 2 ≤ k → k < (n : Int) + 2 → k ∈ rg250 n
  | 0, k, h0, h1 => by omega
  | n + 1, k, h0, h1 => by
    unfold rg250
    by_cases e : k = (n : Int) + 2
    · rw [e]; exact List.mem_cons_self
    · exact List.mem_cons_of_mem _ (rg250_mem h0 (by omega))
theorem rg250_len : ∀ n : Nat, (rg250 n).length = n
  | 0 => rfl
  | n + 1 => by
    unfold rg250
    rw [List.length_cons, rg250_len n]
theorem chp_len {nx : Int → Int} {l : List Int} {s : Int} (h : chp nx s l) (hd : l.Nodup) : l.length ≤ 250 := by
  have q := nodup_len hd (l' := rg250 250) (fun x hx => by
    have := chp_rng h x hx
    exact rg250_mem this.1 (by omega))
  rw [rg250_len] at q
  exact q
/-- rows, the free ones, how many are used: S are the nodes that are used -/
def tbC (M : zM) (S : Int → Prop) (ch : Int → List Int) (fl : List Int) : Prop :=
  (∀ r : Int, 0 ≤ r → r < 256 → chp (M 10) (M 11 r) (ch r) ∧ (ch r).Nodup ∧ ∀ n ∈ ch r, S n ∧ zxor (M 7 n) (M 8 n) = r) ∧
  (chp (M 10) (M 5 6) fl ∧ fl.Nodup ∧ ∀ n ∈ fl, ¬ S n) ∧
  (∀ n : Int, 2 ≤ n → n < 252 → (S n → n ∈ ch (zxor (M 7 n) (M 8 n))) ∧ (¬ S n → n ∈ fl)) ∧
  M 5 7 = hr (fun n => ind (S n)) 252
def plo (M : zM) (S : Int → Prop) : Prop := pst M S ∧ ∃ (ch : Int → List Int) (fl : List Int), tbC M S ch fl
theorem ind_nz {p : Prop} : ¬ ind p = 0 ↔ p := by
  by_cases h : p
  · rw [ind_t h]; exact ⟨fun _ => h, fun _ => by decide⟩
  · rw [ind_f h]; exact ⟨fun q => absurd rfl q, fun q => absurd q h⟩
theorem plo_pI {M : zM} {S : Int → Prop} (h : plo M S) : pI M := by
  obtain ⟨h0, ch, fl, h1, ⟨h2, -, -⟩, h4, -⟩ := h
  have link : ∀ {nx : Int → Int} {l : List Int} {s : Int}, chp nx s l → ((s = -1 ∨ 2 ≤ s) ∧ ∀ n ∈ l, nx n = -1 ∨ 2 ≤ nx n) := by
    intro nx l
    induction l with
    | nil => intro s h; exact ⟨Or.inl h, fun n hn => by cases hn⟩
    | cons a t ih =>
      intro s h
      obtain ⟨e, a2, -, hc⟩ := h
      have q := ih hc
      refine ⟨Or.inr (by omega), fun n hn => ?_⟩
      rcases List.mem_cons.mp hn with z | z
      · rw [z]; exact q.1
      · exact q.2 n z
  refine ⟨h0.1.1, h0.1.2, (link h2).1, fun n n0 n1 => ?_, fun r r0 r1 => (link (h1 r r0 r1).1).1⟩
  by_cases q : S n
  · have z := (h4 n n0 n1).1 q
    have a := h0.2.1 n q
    have hz := zxor_in (x := M 7 n) (y := M 8 n) (okN_in h0 a.2.2.2.1.1).1 (by have := okN_in h0 a.2.2.2.1.1; omega) (okN_in h0 a.2.2.2.2.1).1 (by have := okN_in h0 a.2.2.2.2.1; omega)
    exact (link (h1 _ hz.1 hz.2).1).2 n z
  · exact (link h2).2 n ((h4 n n0 n1).2 q)
/-- where no node is free all are used -/
theorem hr_ind_all {S : Int → Prop} : ∀ {n : Nat}, (∀ k : Int, 2 ≤ k → k < (n : Int) + 2 → S k) → (∀ k : Int, k < 2 → ¬ S k) → hr (fun k => ind (S k)) (n + 2) = n
  | 0, _, h => by
    show hr _ 2 = 0
    exact hr_zero (fun k a b => ind_f (h k (by omega)))
  | n + 1, h, h2 => by
    show hr _ (n + 2) + (if ind (S ((n + 2 : Nat) : Int)) = 0 then 0 else 1) = _
    rw [hr_ind_all (n := n) (fun k a b => h k a (by omega)) h2, if_neg (ind_nz.mpr (h _ (by omega) (by omega)))]
    omega
/-- one more is used -/
theorem hr_ind_one {S : Int → Prop} {x : Int} {n : Nat} (x0 : 0 ≤ x) (x1 : x < n) (hx : ¬ S x) : hr (fun k => ind (S k ∨ k = x)) n = hr (fun k => ind (S k)) n + 1 := by
  refine hr_inc (v := x) x0 x1 (ind_f hx) (ind_nz.mpr (Or.inr rfl)) (fun k hk => ?_)
  have e : (S k ∨ k = x) ↔ S k := ⟨fun q => q.resolve_right hk, Or.inl⟩
  rw [ind_congr e]
def nwS (S : Int → Prop) (x : Int) : Int → Prop := fun n => S n ∨ n = x
theorem mkz_o {M : zM} {n p l h : Int} {a : Nat} (h5 : a ≠ 5) (h6 : a ≠ 6) (h7 : a ≠ 7) (h8 : a ≠ 8) : mkz M n p l h a = M a := by
  unfold mkz
  rw [uz_o h8, uz_o h7, uz_o h6, uz_o h5]
theorem mkz_6 {M : zM} {n p l h : Int} : mkz M n p l h 6 = updI (M 6) n p := by
  unfold mkz
  rw [uz_o (by decide), uz_o (by decide), uz_fn, uz_o (by decide)]
theorem mkz_7f {M : zM} {n p l h : Int} : mkz M n p l h 7 = updI (M 7) n l := by
  unfold mkz
  rw [uz_o (by decide), uz_fn, uz_o (by decide), uz_o (by decide)]
theorem mkz_8f {M : zM} {n p l h : Int} : mkz M n p l h 8 = updI (M 8) n h := by
  unfold mkz
  rw [uz_fn, uz_o (by decide), uz_o (by decide), uz_o (by decide)]
theorem mkz_5 {M : zM} {n p l h j : Int} : mkz M n p l h 5 j = if j = 6 then M 10 n else M 5 j := by
  unfold mkz
  rw [uz_oo (by decide), uz_oo (by decide), uz_oo (by decide), uz_a]
theorem entz_o {M : zM} {n : Int} {a : Nat} (h5 : a ≠ 5) (h10 : a ≠ 10) (h11 : a ≠ 11) : entz M n a = M a := by
  unfold entz
  rw [uz_o h5, uz_o h11, uz_o h10]
theorem entz_10 {M : zM} {n : Int} : entz M n 10 = updI (M 10) n (M 11 (zxor (M 7 n) (M 8 n))) := by
  unfold entz
  rw [uz_o (by decide), uz_o (by decide), uz_fn]
theorem entz_11 {M : zM} {n : Int} : entz M n 11 = updI (M 11) (zxor (M 7 n) (M 8 n)) n := by
  unfold entz
  rw [uz_o (by decide), uz_fn, uz_o (by decide)]
theorem entz_5 {M : zM} {n j : Int} (h : j ≠ 7) : entz M n 5 j = M 5 j := by
  unfold entz
  rw [uz_n h, uz_oo (by decide), uz_oo (by decide)]
def ndN (M : zM) (x p l h : Int) : zM := entz (mkz M x p l h) x
theorem ndN_6 {M : zM} {x p l h : Int} : ndN M x p l h 6 = updI (M 6) x p := by unfold ndN; rw [entz_o (by decide) (by decide) (by decide), mkz_6]
theorem ndN_7 {M : zM} {x p l h : Int} : ndN M x p l h 7 = updI (M 7) x l := by unfold ndN; rw [entz_o (by decide) (by decide) (by decide), mkz_7f]
theorem ndN_8 {M : zM} {x p l h : Int} : ndN M x p l h 8 = updI (M 8) x h := by unfold ndN; rw [entz_o (by decide) (by decide) (by decide), mkz_8f]
theorem ndN_agr {M : zM} {S : Int → Prop} {x p l h : Int} (hp : pst M S) (x2 : 2 ≤ x) (hx : ¬ S x) : agr M (ndN M x p l h) S := by
  refine ⟨⟨by rw [ndN_6, updI_n (by omega)], by rw [ndN_6, updI_n (by omega)]⟩, fun n hn => ?_⟩
  have q : n ≠ x := fun e => hx (e ▸ hn)
  rw [ndN_6, ndN_7, ndN_8, updI_n q, updI_n q, updI_n q]
  exact ⟨rfl, rfl, rfl⟩
/-- a new node -/
theorem pst_new {M : zM} {S : Int → Prop} {x p l h : Int} (hp : pst M S) (x2 : 2 ≤ x) (x1 : x < 252) (hx : ¬ S x) (p0 : 0 ≤ p) (p1 : p < 8) (hl : okN S l) (hh : okN S h) (pl : p < M 6 l) (ph : p < M 6 h) (hne : l ≠ h) (hno : ∀ n : Int, S n → ¬ (M 6 n = p ∧ M 7 n = l ∧ M 8 n = h)) : pst (ndN M x p l h) (nwS S x) := by
  have ha := ndN_agr (p := p) (l := l) (h := h) hp x2 hx
  have up : ∀ {n : Int}, okN S n → okN (nwS S x) n := fun {n} q => okN_mono (fun m hm => Or.inl hm) q
  have e6 : ∀ {n : Int}, okN S n → ndN M x p l h 6 n = M 6 n := fun {n} q => agr_pl ha q
  have x6 : ndN M x p l h 6 x = p := by rw [ndN_6, updI_s]
  have x7 : ndN M x p l h 7 x = l := by rw [ndN_7, updI_s]
  have x8 : ndN M x p l h 8 x = h := by rw [ndN_8, updI_s]
  refine ⟨⟨ha.1.1.trans hp.1.1, ha.1.2.trans hp.1.2⟩, fun n hn => ?_, fun n m hn hm a b c => ?_⟩
  · rcases hn with hn | rfl
    · obtain ⟨h1, h2, h3, h4, h5⟩ := hp.2.1 n hn
      obtain ⟨a6, a7, a8⟩ := ha.2 n hn
      rw [a6, a7, a8, e6 h4.1, e6 h5.1]
      exact ⟨h1, h2, h3, ⟨up h4.1, h4.2⟩, up h5.1, h5.2⟩
    · rw [x6, x7, x8, e6 hl, e6 hh]
      exact ⟨⟨x2, x1⟩, ⟨p0, p1⟩, hne, ⟨up hl, pl⟩, up hh, ph⟩
  · rcases hn with hn | rfl
    · rcases hm with hm | rfl
      · rw [(ha.2 n hn).1, (ha.2 m hm).1] at a
        rw [(ha.2 n hn).2.1, (ha.2 m hm).2.1] at b
        rw [(ha.2 n hn).2.2, (ha.2 m hm).2.2] at c
        exact hp.2.2 n m hn hm a b c
      · rw [(ha.2 n hn).1, x6] at a
        rw [(ha.2 n hn).2.1, x7] at b
        rw [(ha.2 n hn).2.2, x8] at c
        exact absurd ⟨a, b, c⟩ (hno n hn)
    · rcases hm with hm | rfl
      · rw [(ha.2 m hm).1, x6] at a
        rw [(ha.2 m hm).2.1, x7] at b
        rw [(ha.2 m hm).2.2, x8] at c
        exact absurd ⟨a.symm, b.symm, c.symm⟩ (hno m hm)
      · rfl
theorem tbC_new {M : zM} {S : Int → Prop} {ch : Int → List Int} {fl : List Int} {x p l h : Int} (hp : pst M S) (ht : tbC M S ch fl) (hx : x = M 5 6) (hx1 : ¬ x = -1) (hl : okN S l) (hh : okN S h) : (2 ≤ x ∧ x < 252 ∧ ¬ S x) ∧ ∃ (ch' : Int → List Int) (fl' : List Int), tbC (ndN M x p l h) (nwS S x) ch' fl' := by
  obtain ⟨h1, ⟨h2, h3, h4⟩, h5, h6⟩ := ht
  rw [← hx] at h2
  obtain ⟨fl', e, x2, x1, h2'⟩ := chp_cons h2 hx1
  subst e
  have hxS : ¬ S x := h4 x List.mem_cons_self
  have hxf : x ∉ fl' := (List.nodup_cons.mp h3).1
  have hxc : ∀ r : Int, 0 ≤ r → r < 256 → x ∉ ch r := fun r r0 r1 q => hxS ((h1 r r0 r1).2.2 x q).1
  have li := okN_in hp hl
  have hi := okN_in hp hh
  have hz := zxor_in (x := l) (y := h) li.1 (by omega) hi.1 (by omega)
  have m7 : mkz M x p l h 7 x = l := mkz_7
  have m8 : mkz M x p l h 8 x = h := mkz_8
  have e7 : ∀ n : Int, n ≠ x → ndN M x p l h 7 n = M 7 n := fun n q => by rw [ndN_7, updI_n q]
  have e8 : ∀ n : Int, n ≠ x → ndN M x p l h 8 n = M 8 n := fun n q => by rw [ndN_8, updI_n q]
  have x7 : ndN M x p l h 7 x = l := by rw [ndN_7, updI_s]
  have x8 : ndN M x p l h 8 x = h := by rw [ndN_8, updI_s]
  have e10 : ndN M x p l h 10 = updI (M 10) x (M 11 (zxor l h)) := by
    unfold ndN
    rw [entz_10, m7, m8, mkz_o (by decide) (by decide) (by decide) (by decide), mkz_o (by decide) (by decide) (by decide) (by decide)]
  have e11 : ndN M x p l h 11 = updI (M 11) (zxor l h) x := by
    unfold ndN
    rw [entz_11, m7, m8, mkz_o (by decide) (by decide) (by decide) (by decide)]
  have e56 : ndN M x p l h 5 6 = M 10 x := by
    unfold ndN
    rw [entz_5 (by decide), mkz_5, if_pos rfl]
  have e57 : ndN M x p l h 5 7 = M 5 7 + 1 := by
    unfold ndN
    rw [entz_57, mkz_57]
  refine ⟨⟨x2, x1, hxS⟩, fun r => if r = zxor l h then x :: ch r else ch r, fl', fun r r0 r1 => ?_, ⟨?_, (List.nodup_cons.mp h3).2, fun n hn => ?_⟩, fun n n0 n1 => ⟨fun q => ?_, fun q => ?_⟩, ?_⟩
  · obtain ⟨a, b, c⟩ := h1 r r0 r1
    dsimp only
    rw [e10, e11]
    by_cases z : r = zxor l h
    · rw [if_pos z, z, updI_s]
      rw [z] at a b c r0 r1
      refine ⟨chp_push a x2 x1 (hxc _ r0 r1), List.nodup_cons.mpr ⟨hxc _ r0 r1, b⟩, fun n hn => ?_⟩
      rcases List.mem_cons.mp hn with w | w
      · rw [w, x7, x8]; exact ⟨Or.inr rfl, rfl⟩
      · have nx : n ≠ x := fun t => hxc _ r0 r1 (t ▸ w)
        rw [e7 n nx, e8 n nx]
        exact ⟨Or.inl (c n w).1, (c n w).2⟩
    · rw [if_neg z, updI_n z]
      refine ⟨chp_congr (fun n hn => updI_n (fun t => hxc r r0 r1 (t ▸ hn))) a, b, fun n hn => ?_⟩
      have nx : n ≠ x := fun t => hxc r r0 r1 (t ▸ hn)
      rw [e7 n nx, e8 n nx]
      exact ⟨Or.inl (c n hn).1, (c n hn).2⟩
  · rw [e10, e56]
    exact chp_congr (fun n hn => updI_n (fun t => hxf (t ▸ hn))) h2'
  · rintro (q | q)
    · exact h4 n (List.mem_cons_of_mem _ hn) q
    · exact hxf (q ▸ hn)
  · dsimp only
    by_cases nx : n = x
    · subst nx
      rw [x7, x8, if_pos rfl]
      exact List.mem_cons_self
    · rw [e7 n nx, e8 n nx]
      have z := (h5 n n0 n1).1 (q.resolve_right nx)
      by_cases w : zxor (M 7 n) (M 8 n) = zxor l h
      · rw [if_pos w]; exact List.mem_cons_of_mem _ z
      · rw [if_neg w]; exact z
  · have z := (h5 n n0 n1).2 (fun t => q (Or.inl t))
    rcases List.mem_cons.mp z with w | w
    · exact absurd (Or.inr w) q
    · exact w
  · rw [e57, h6]
    exact (hr_ind_one (S := S) (by omega) (by omega) hxS).symm
/-- what nodeFor answers -/
def ndQ2 (M : zM) (S : Int → Prop) (p l h x : Int) (M' : zM) : Prop := (h = -1 ∧ x = -1 ∧ M' = M) ∨ (¬ h = -1 ∧ l = h ∧ x = h ∧ M' = M) ∨ (¬ h = -1 ∧ l ≠ h ∧ S x ∧ M 6 x = p ∧ M 7 x = l ∧ M 8 x = h ∧ M' = M) ∨ (¬ h = -1 ∧ l ≠ h ∧ (∀ n : Int, S n → ¬ (M 6 n = p ∧ M 7 n = l ∧ M 8 n = h)) ∧ ((x = -1 ∧ M' = M ∧ M 5 8 ≤ M 5 7) ∨ ((2 ≤ x ∧ x < 252 ∧ ¬ S x) ∧ M 5 7 < M 5 8 ∧ M' = ndN M x p l h ∧ plo M' (nwS S x))))
theorem all_used {M : zM} {S : Int → Prop} {ch : Int → List Int} {fl : List Int} (hp : pst M S) (ht : tbC M S ch fl) (h : M 5 6 = -1) (hm : M 5 8 ≤ 250) : M 5 8 ≤ M 5 7 := by
  obtain ⟨-, ⟨h2, -, -⟩, h5, h6⟩ := ht
  have e := chp_nil h2 h
  subst e
  have q : ∀ k : Int, 2 ≤ k → k < ((250 : Nat) : Int) + 2 → S k := fun k a b => by
    by_cases w : S k
    · exact w
    · have := (h5 k a (by omega)).2 w
      cases this
  rw [h6, show hr (fun n => ind (S n)) 252 = 250 from hr_ind_all (n := 250) q (fun k a b => by have := (hp.2.1 k b).1; omega)]
  exact hm
set_option maxRecDepth 20000 in
theorem zX2_nodeFor_f {G : tl_G} {M : zM} {J : zJ} {S : Int → Prop} {p l h : Int} (h0 : 0 ≤ p) (h1 : p < 8) (hl : okN S l) (hh : h = -1 ∨ okN S h) (pl : p < M 6 l) (ph : ¬ h = -1 → p < M 6 h) (hS : plo M S) : ZN G yX2_nodeFor mX2_nodeFor 1 kPool [vR 5, vI p, vI l, vI h] F1 M J (qI (fun x M' J' => J' = J ∧ ndQ2 M S p l h x M')) := by
  refine ZN_of (L := [_, _, _, _, _, _]) (by decide) rfl rfl (Nat.le_of_ble_eq_true rfl) rfl (fun hav => ?_)
  obtain ⟨hp, ch, fl, ht⟩ := id hS
  have li := okN_in hp hl
  have hi : h = -1 ∨ (0 ≤ h ∧ h < 252) := hh.imp_right (fun q => okN_in hp q)
  refine Z_iload_n (n := 1) dX2_nodeFor_0 rfl rfl ?_
  refine Z_iconst (n := 2) dX2_nodeFor_1 rfl (by decide) ?_
  refine Z_icmp_eq (n := 5) (t := 10) dX2_nodeFor_2 rfl (by decide) (fun c2 => ?_) (fun c2 => ?_)
  · refine Z_iload_n (n := 11) dX2_nodeFor_10 rfl rfl ?_
    refine Z_iret dX2_nodeFor_11 rfl ?_
    refine ⟨rfl, ?_⟩
    first
      | exact Or.inl ⟨by omega, by omega, rfl⟩
      | (by_cases z : h = -1
         · exact Or.inl ⟨z, z, rfl⟩
         · exact Or.inr (Or.inl ⟨z, by omega, rfl, rfl⟩))
  · refine Z_iload_n (n := 6) dX2_nodeFor_5 rfl rfl ?_
    refine Z_iload_n (n := 7) dX2_nodeFor_6 rfl rfl ?_
    refine Z_icmp_ne (n := 10) (t := 12) dX2_nodeFor_7 rfl (by decide) (fun c7 => ?_) (fun c7 => ?_)
    · have hkk : okN S h := hh.resolve_left (by omega)
      have hx := zxor_in (x := l) (y := h) (by omega) (by omega) (by omega) (by omega)
      obtain ⟨q1, q2, q3⟩ := ht.1 _ hx.1 hx.2
      have q4 : ∀ m : Int, S m → (m ∈ ch (zxor l h) ∨ ¬ (M 6 m = p ∧ M 7 m = l ∧ M 8 m = h)) := fun m hm => by
        by_cases z : M 6 m = p ∧ M 7 m = l ∧ M 8 m = h
        · left
          have w := (ht.2.2.1 m (hp.2.1 m hm).1.1 (hp.2.1 m hm).1.2).1 hm
          rw [z.2.1, z.2.2] at w
          exact w
        · exact Or.inr z
      refine Z_aload_n (n := 13) dX2_nodeFor_12 rfl rfl ?_
      refine Z_getA (n := 16) dX2_nodeFor_13 rfl ffX2_27 rfl rfl ?_
      refine Z_iload_n (n := 17) dX2_nodeFor_16 rfl rfl ?_
      refine Z_iload_n (n := 18) dX2_nodeFor_17 rfl rfl ?_
      refine Z_ixor (n := 19) dX2_nodeFor_18 rfl ?_
      refine Z_iald (n := 20) dX2_nodeFor_19 rfl rfl rfl (by first | decide | assumption) (by omega) (by omega) (fun r19 s19 => ?_)
      try simp only [uz_oo (show (10 : Nat) ≠ 5 by decide)] at r19 s19 ⊢
      refine Z_istore (L' := [_, _, _, _, _, _]) (n := 22) dX2_nodeFor_20 rfl (by decide) rfl rfl ?_
      refine Z_iconst (n := 23) dX2_nodeFor_22 rfl (by decide) ?_
      refine Z_istore (L' := [_, _, _, _, _, _]) (n := 25) dX2_nodeFor_23 rfl (by decide) rfl rfl ?_
      have lp25 : ∀ (N25 : Nat) (n t : Int) (rs : List Int) , (rs.length) < N25 → (0 ≤ t) → (t + rs.length ≤ 250) → (chp (M 10) n rs) → (∀ m ∈ rs, S m) → (∀ m : Int, S m → (m ∈ rs ∨ ¬ (M 6 m = p ∧ M 7 m = l ∧ M 8 m = h))) → TZ G mX2_nodeFor (tl_rm 1 0 0) 0 0 kPool M J 25 [some (vR 5), some (vI p), some (vI l), some (vI h), some (vI n), some (vI t)] [] F1 M J (ZM G (zPost G kPool F1 M J (qI (fun x M' J' => J' = J ∧ ndQ2 M S p l h x M'))) 0 0) := by
        intro N25
        induction N25 with
        | zero => intro n t rs  hN; omega
        | succ N25 ih25 =>
          intro n t rs  hN25 i25_0 i25_1 i25_2 i25_3 i25_4
          refine Z_iload (n := 27) dX2_nodeFor_25 rfl rfl ?_
          refine Z_iconst (n := 28) dX2_nodeFor_27 rfl (by decide) ?_
          refine Z_icmp_eq (n := 31) (t := 90) dX2_nodeFor_28 rfl (by decide) (fun c28 => ?_) (fun c28 => ?_)
          · have e := chp_nil i25_2 c28
            subst e
            have hno : ∀ m : Int, S m → ¬ (M 6 m = p ∧ M 7 m = l ∧ M 8 m = h) := fun m hm => (i25_4 m hm).resolve_left (by intro z; cases z)
            refine Z_rg 5 8 rfl (fun g58 g58b => ?_)
            refine Z_aload_n (n := 91) dX2_nodeFor_90 rfl rfl ?_
            refine Z_getI (n := 94) (ki := 6) dX2_nodeFor_91 rfl ffX2_30 rfl rfl rfl (fun r91 s91 => ?_)
            try simp only [uz_oo (show (10 : Nat) ≠ 5 by decide)] at r91 s91 ⊢
            refine Z_istore (L' := [_, _, _, _, _, _]) (n := 96) dX2_nodeFor_94 rfl (by decide) rfl rfl ?_
            refine Z_aload_n (n := 97) dX2_nodeFor_96 rfl rfl ?_
            refine Z_getI (n := 100) (ki := 7) dX2_nodeFor_97 rfl ffX2_34 rfl rfl rfl (fun r97 s97 => ?_)
            try simp only [uz_oo (show (10 : Nat) ≠ 5 by decide)] at r97 s97 ⊢
            refine Z_aload_n (n := 101) dX2_nodeFor_100 rfl rfl ?_
            refine Z_getI (n := 104) (ki := 8) dX2_nodeFor_101 rfl ffX2_37 rfl rfl rfl (fun r101 s101 => ?_)
            try simp only [uz_oo (show (10 : Nat) ≠ 5 by decide)] at r101 s101 ⊢
            refine Z_icmp_ge (n := 107) (t := 113) dX2_nodeFor_104 rfl (by decide) (fun c104 => ?_) (fun c104 => ?_)
            · refine Z_iconst (n := 114) dX2_nodeFor_113 rfl (by decide) ?_
              refine Z_iret dX2_nodeFor_114 rfl ?_
              exact ⟨rfl, Or.inr (Or.inr (Or.inr ⟨by omega, by omega, hno, Or.inl ⟨rfl, rfl, by first | omega | exact all_used hp ht (by omega) g58b⟩⟩))⟩
            · refine Z_iload (n := 109) dX2_nodeFor_107 rfl rfl ?_
              refine Z_iconst (n := 110) dX2_nodeFor_109 rfl (by decide) ?_
              refine Z_icmp_ne (n := 113) (t := 115) dX2_nodeFor_110 rfl (by decide) (fun c110 => ?_) (fun c110 => ?_)
              · refine Z_aload_n (n := 116) dX2_nodeFor_115 rfl rfl ?_
                refine Z_aload_n (n := 117) dX2_nodeFor_116 rfl rfl ?_
                refine Z_getA (n := 120) dX2_nodeFor_117 rfl ffX2_24 rfl rfl ?_
                refine Z_iload (n := 122) dX2_nodeFor_120 rfl rfl ?_
                refine Z_iald (n := 123) dX2_nodeFor_122 rfl rfl rfl (by first | decide | assumption) (by omega) (by omega) (fun r122 s122 => ?_)
                try simp only [uz_oo (show (10 : Nat) ≠ 5 by decide)] at r122 s122 ⊢
                refine Z_putI (n := 126) (ki := 6) dX2_nodeFor_123 rfl ffX2_30 rfl (by decide) rfl rfl (by first | assumption | omega | decide) (by first | assumption | omega | decide) (by decide) ?_
                obtain ⟨-, -, hn2, -, -⟩ := chp_cons ht.2.1.1 (show ¬ M 5 6 = -1 by omega)
                refine Z_aload_n (n := 127) dX2_nodeFor_126 rfl rfl ?_
                refine Z_getA (n := 130) dX2_nodeFor_127 rfl ffX2_11 rfl rfl ?_
                refine Z_iload (n := 132) dX2_nodeFor_130 rfl rfl ?_
                refine Z_iload_n (n := 133) dX2_nodeFor_132 rfl rfl ?_
                refine Z_iast (n := 134) dX2_nodeFor_133 rfl rfl rfl (by first | decide | assumption) (by omega) (by omega) (by first | omega | (rw [if_neg (by omega)]; omega)) (by first | omega | (rw [if_neg (by omega)]; omega)) (by decide) ?_
                refine Z_aload_n (n := 135) dX2_nodeFor_134 rfl rfl ?_
                refine Z_getA (n := 138) dX2_nodeFor_135 rfl ffX2_15 rfl rfl ?_
                refine Z_iload (n := 140) dX2_nodeFor_138 rfl rfl ?_
                refine Z_iload_n (n := 141) dX2_nodeFor_140 rfl rfl ?_
                refine Z_iast (n := 142) dX2_nodeFor_141 rfl rfl rfl (by first | decide | assumption) (by omega) (by omega) (by first | assumption | omega | decide) (by first | assumption | omega | decide) (by decide) ?_
                refine Z_aload_n (n := 143) dX2_nodeFor_142 rfl rfl ?_
                refine Z_getA (n := 146) dX2_nodeFor_143 rfl ffX2_18 rfl rfl ?_
                refine Z_iload (n := 148) dX2_nodeFor_146 rfl rfl ?_
                refine Z_iload_n (n := 149) dX2_nodeFor_148 rfl rfl ?_
                refine Z_iast (n := 150) dX2_nodeFor_149 rfl rfl rfl (by first | decide | assumption) (by omega) (by omega) (by first | assumption | omega | decide) (by first | assumption | omega | decide) (by decide) ?_
                refine Z_aload_n (n := 151) dX2_nodeFor_150 rfl rfl ?_
                refine Z_iload (n := 153) dX2_nodeFor_151 rfl rfl ?_
                refine Z_callVv (n := 156) [_] _ dX2_nodeFor_153 rfl cwX2_64 rfl rfl rfl (Nat.le_of_ble_eq_true rfl) (by refine ⟨?_, ?_, ?_, ?_⟩ <;> exact Nat.le_of_ble_eq_true rfl) (fun _ h => h) (zX2_enter  (by exact PoolF1) (by omega) (by omega) (by rw [show uz (uz (uz (uz M 5 6 (M 10 (M 5 6))) 6 (M 5 6) p) 7 (M 5 6) l) 8 (M 5 6) h 5 7 = _ from mkz_57]; omega) (by decide) (by decide) (by decide)) ?_
                intro M153 J153 f153 q153
                obtain ⟨e153_1, e153_2⟩ := q153
                replace e153_1 := e153_1.symm; subst e153_1
                replace e153_2 := e153_2.symm; subst e153_2
                refine Z_iload (n := 158) dX2_nodeFor_156 rfl rfl ?_
                refine Z_iret dX2_nodeFor_158 rfl ?_
                obtain ⟨w1, ch', fl', w2⟩ := tbC_new (p := p) hp ht (x := M 5 6) rfl (by omega) hl hkk
                exact ⟨rfl, Or.inr (Or.inr (Or.inr ⟨by omega, by omega, hno, Or.inr ⟨w1, by omega, rfl, pst_new hp w1.1 w1.2.1 w1.2.2 h0 h1 hl hkk pl (ph (by omega)) (by omega) hno, ch', fl', w2⟩⟩))⟩
              · refine Z_iconst (n := 114) dX2_nodeFor_113 rfl (by decide) ?_
                refine Z_iret dX2_nodeFor_114 rfl ?_
                exact ⟨rfl, Or.inr (Or.inr (Or.inr ⟨by omega, by omega, hno, Or.inl ⟨rfl, rfl, by first | omega | exact all_used hp ht (by omega) g58b⟩⟩))⟩
          · obtain ⟨r1, hr1, n0, n1, hc1⟩ := chp_cons i25_2 (by omega)
            subst hr1
            refine Z_iload (n := 33) dX2_nodeFor_31 rfl rfl ?_
            refine Z_sipush (n := 36) dX2_nodeFor_33 rfl (by decide) (by decide) ?_
            refine Z_icmp_ge (n := 39) (t := 90) dX2_nodeFor_36 rfl (by decide) (fun c36 => ?_) (fun c36 => ?_)
            · simp only [List.length_cons] at *; omega
            · refine Z_aload_n (n := 40) dX2_nodeFor_39 rfl rfl ?_
              refine Z_getA (n := 43) dX2_nodeFor_40 rfl ffX2_11 rfl rfl ?_
              refine Z_iload (n := 45) dX2_nodeFor_43 rfl rfl ?_
              refine Z_iald (n := 46) dX2_nodeFor_45 rfl rfl rfl (by first | decide | assumption) (by omega) (by omega) (fun r45 s45 => ?_)
              try simp only [uz_oo (show (10 : Nat) ≠ 5 by decide)] at r45 s45 ⊢
              refine Z_iload_n (n := 47) dX2_nodeFor_46 rfl rfl ?_
              refine Z_icmp_ne (n := 50) (t := 75) dX2_nodeFor_47 rfl (by decide) (fun c47 => ?_) (fun c47 => ?_)
              · have nx : ∀ m : Int, S m → (m ∈ r1 ∨ ¬ (M 6 m = p ∧ M 7 m = l ∧ M 8 m = h)) := fun m hm => by
                  rcases i25_4 m hm with z | z
                  · rcases List.mem_cons.mp z with w | w
                    · refine Or.inr (fun t => ?_)
                      rw [w] at t
                      first
                        | exact c47 t.1
                        | exact c58 t.2.1
                        | exact c69 t.2.2
                    · exact Or.inl w
                  · exact Or.inr z
                refine Z_aload_n (n := 76) dX2_nodeFor_75 rfl rfl ?_
                refine Z_getA (n := 79) dX2_nodeFor_76 rfl ffX2_24 rfl rfl ?_
                refine Z_iload (n := 81) dX2_nodeFor_79 rfl rfl ?_
                refine Z_iald (n := 82) dX2_nodeFor_81 rfl rfl rfl (by first | decide | assumption) (by omega) (by omega) (fun r81 s81 => ?_)
                try simp only [uz_oo (show (10 : Nat) ≠ 5 by decide)] at r81 s81 ⊢
                refine Z_istore (L' := [_, _, _, _, _, _]) (n := 84) dX2_nodeFor_82 rfl (by decide) rfl rfl ?_
                refine Z_iinc (L' := [_, _, _, _, _, _]) (n := 87) dX2_nodeFor_84 rfl rfl (by decide) rfl rfl (by omega) rfl ?_
                refine Z_goto (t := 25) dX2_nodeFor_87 (by decide) ?_
                refine Z_loc (L' := [some _, some _, some _, some _, some _, some _]) (lsub_same (lsub_same (lsub_same (lsub_same (lsub_same (lsub_same lsub_nil)))))) ?_
                exact ih25 _ _ r1  (by simp only [List.length_cons] at *; omega) (by first | assumption | omega | decide) (by simp only [List.length_cons] at *; omega) (by exact hc1) (by exact fun m hm => i25_3 m (List.mem_cons_of_mem _ hm)) (by exact nx)
              · refine Z_aload_n (n := 51) dX2_nodeFor_50 rfl rfl ?_
                refine Z_getA (n := 54) dX2_nodeFor_51 rfl ffX2_15 rfl rfl ?_
                refine Z_iload (n := 56) dX2_nodeFor_54 rfl rfl ?_
                refine Z_iald (n := 57) dX2_nodeFor_56 rfl rfl rfl (by first | decide | assumption) (by omega) (by omega) (fun r56 s56 => ?_)
                try simp only [uz_oo (show (10 : Nat) ≠ 5 by decide)] at r56 s56 ⊢
                refine Z_iload_n (n := 58) dX2_nodeFor_57 rfl rfl ?_
                refine Z_icmp_ne (n := 61) (t := 75) dX2_nodeFor_58 rfl (by decide) (fun c58 => ?_) (fun c58 => ?_)
                · have nx : ∀ m : Int, S m → (m ∈ r1 ∨ ¬ (M 6 m = p ∧ M 7 m = l ∧ M 8 m = h)) := fun m hm => by
                    rcases i25_4 m hm with z | z
                    · rcases List.mem_cons.mp z with w | w
                      · refine Or.inr (fun t => ?_)
                        rw [w] at t
                        first
                          | exact c47 t.1
                          | exact c58 t.2.1
                          | exact c69 t.2.2
                      · exact Or.inl w
                    · exact Or.inr z
                  refine Z_aload_n (n := 76) dX2_nodeFor_75 rfl rfl ?_
                  refine Z_getA (n := 79) dX2_nodeFor_76 rfl ffX2_24 rfl rfl ?_
                  refine Z_iload (n := 81) dX2_nodeFor_79 rfl rfl ?_
                  refine Z_iald (n := 82) dX2_nodeFor_81 rfl rfl rfl (by first | decide | assumption) (by omega) (by omega) (fun r81 s81 => ?_)
                  try simp only [uz_oo (show (10 : Nat) ≠ 5 by decide)] at r81 s81 ⊢
                  refine Z_istore (L' := [_, _, _, _, _, _]) (n := 84) dX2_nodeFor_82 rfl (by decide) rfl rfl ?_
                  refine Z_iinc (L' := [_, _, _, _, _, _]) (n := 87) dX2_nodeFor_84 rfl rfl (by decide) rfl rfl (by omega) rfl ?_
                  refine Z_goto (t := 25) dX2_nodeFor_87 (by decide) ?_
                  refine Z_loc (L' := [some _, some _, some _, some _, some _, some _]) (lsub_same (lsub_same (lsub_same (lsub_same (lsub_same (lsub_same lsub_nil)))))) ?_
                  exact ih25 _ _ r1  (by simp only [List.length_cons] at *; omega) (by first | assumption | omega | decide) (by simp only [List.length_cons] at *; omega) (by exact hc1) (by exact fun m hm => i25_3 m (List.mem_cons_of_mem _ hm)) (by exact nx)
                · refine Z_aload_n (n := 62) dX2_nodeFor_61 rfl rfl ?_
                  refine Z_getA (n := 65) dX2_nodeFor_62 rfl ffX2_18 rfl rfl ?_
                  refine Z_iload (n := 67) dX2_nodeFor_65 rfl rfl ?_
                  refine Z_iald (n := 68) dX2_nodeFor_67 rfl rfl rfl (by first | decide | assumption) (by omega) (by omega) (fun r67 s67 => ?_)
                  try simp only [uz_oo (show (10 : Nat) ≠ 5 by decide)] at r67 s67 ⊢
                  refine Z_iload_n (n := 69) dX2_nodeFor_68 rfl rfl ?_
                  refine Z_icmp_ne (n := 72) (t := 75) dX2_nodeFor_69 rfl (by decide) (fun c69 => ?_) (fun c69 => ?_)
                  · have nx : ∀ m : Int, S m → (m ∈ r1 ∨ ¬ (M 6 m = p ∧ M 7 m = l ∧ M 8 m = h)) := fun m hm => by
                      rcases i25_4 m hm with z | z
                      · rcases List.mem_cons.mp z with w | w
                        · refine Or.inr (fun t => ?_)
                          rw [w] at t
                          first
                            | exact c47 t.1
                            | exact c58 t.2.1
                            | exact c69 t.2.2
                        · exact Or.inl w
                      · exact Or.inr z
                    refine Z_aload_n (n := 76) dX2_nodeFor_75 rfl rfl ?_
                    refine Z_getA (n := 79) dX2_nodeFor_76 rfl ffX2_24 rfl rfl ?_
                    refine Z_iload (n := 81) dX2_nodeFor_79 rfl rfl ?_
                    refine Z_iald (n := 82) dX2_nodeFor_81 rfl rfl rfl (by first | decide | assumption) (by omega) (by omega) (fun r81 s81 => ?_)
                    try simp only [uz_oo (show (10 : Nat) ≠ 5 by decide)] at r81 s81 ⊢
                    refine Z_istore (L' := [_, _, _, _, _, _]) (n := 84) dX2_nodeFor_82 rfl (by decide) rfl rfl ?_
                    refine Z_iinc (L' := [_, _, _, _, _, _]) (n := 87) dX2_nodeFor_84 rfl rfl (by decide) rfl rfl (by omega) rfl ?_
                    refine Z_goto (t := 25) dX2_nodeFor_87 (by decide) ?_
                    refine Z_loc (L' := [some _, some _, some _, some _, some _, some _]) (lsub_same (lsub_same (lsub_same (lsub_same (lsub_same (lsub_same lsub_nil)))))) ?_
                    exact ih25 _ _ r1  (by simp only [List.length_cons] at *; omega) (by first | assumption | omega | decide) (by simp only [List.length_cons] at *; omega) (by exact hc1) (by exact fun m hm => i25_3 m (List.mem_cons_of_mem _ hm)) (by exact nx)
                  · refine Z_iload (n := 74) dX2_nodeFor_72 rfl rfl ?_
                    refine Z_iret dX2_nodeFor_74 rfl ?_
                    exact ⟨rfl, Or.inr (Or.inr (Or.inl ⟨by omega, by omega, i25_3 n List.mem_cons_self, by omega, by omega, by omega, rfl⟩))⟩
      refine Z_loc (L' := [some _, some _, some _, some _, some _, some _]) (lsub_same (lsub_same (lsub_same (lsub_same (lsub_same (lsub_same lsub_nil)))))) ?_
      exact lp25 _ _ _ (ch (zxor l h))  (Nat.lt_succ_self _) (by first | assumption | omega | decide) (by have := chp_len q1 q2; omega) (by exact q1) (by exact fun m hm => (q3 m hm).1) (by exact q4)
    · refine Z_iload_n (n := 11) dX2_nodeFor_10 rfl rfl ?_
      refine Z_iret dX2_nodeFor_11 rfl ?_
      refine ⟨rfl, ?_⟩
      first
        | exact Or.inl ⟨by omega, by omega, rfl⟩
        | (by_cases z : h = -1
           · exact Or.inl ⟨z, z, rfl⟩
           · exact Or.inr (Or.inl ⟨z, by omega, rfl, rfl⟩))
/-- F looks at places from p on alone -/
def dep (F : FN) (p : Int) : Prop := ∀ r r' : Int → Int, (∀ k : Int, p ≤ k → (r k = 0 ↔ r' k = 0)) → F r = F r'
theorem dep_den {M : zM} {S : Int → Prop} (h : pst M S) {n p : Int} (hn : okN S n) (hp : p ≤ M 6 n) : dep (den M n) p := fun r r' e => den_ag h hn (fun k hk => e k (by omega))
theorem dep_up {F : FN} {p v : Int} (h : dep F p) : dep (fun r => F (updI r p v)) (p + 1) := fun r r' e => h _ _ (fun k hk => by
  by_cases q : k = p
  · rw [q, updI_s, updI_s]
  · rw [updI_n q, updI_n q]; exact e k (by omega))
theorem dep_mix {F : FN} {p : Int} (h : dep F p) {s : Int → Int} : (fun r => F (mix p s r)) = F := by
  funext r
  exact h _ _ (fun k hk => by rw [mix_ge hk])
theorem dep_sp {F : FN} {p : Int} (h : dep F p) (r : Int → Int) : F r = if r p = 0 then F (updI r p 0) else F (updI r p 1) := by
  by_cases q : r p = 0
  · rw [if_pos q]
    exact h _ _ (fun k _ => by
      by_cases z : k = p
      · rw [z, updI_s]; exact ⟨fun _ => rfl, fun _ => q⟩
      · rw [updI_n z])
  · rw [if_neg q]
    exact h _ _ (fun k _ => by
      by_cases z : k = p
      · rw [z, updI_s]; exact ⟨fun t => absurd t q, fun t => absurd t (by decide)⟩
      · rw [updI_n z])
/-- parts of a half are parts -/
theorem laid_cof {F : FN} {p v : Int} {y : Lb} (h : dep F p) (hy : laid (fun r => F (updI r p v)) y) : laid F y := by
  obtain ⟨yb, ⟨s, e⟩, r, q⟩ := hy
  have hlt : p < y.1 := by
    by_cases z : p < y.1
    · exact z
    · exfalso
      refine q ?_
      rw [e]
      dsimp only
      refine h _ _ (fun k hk => ?_)
      by_cases w : k = p
      · rw [w, updI_s, updI_s]
      · rw [updI_n w, updI_n w, mix_ge (by omega), mix_ge (by omega), updI_n (by omega), updI_n (by omega)]
  refine ⟨yb, ⟨updI s p v, ?_⟩, r, q⟩
  rw [e]
  funext r'
  refine h _ _ (fun k hk => ?_)
  by_cases w : k = p
  · rw [w, updI_s, mix_lt hlt, updI_s]
  · rw [updI_n w]
    by_cases z : k < y.1
    · rw [mix_lt z, mix_lt z, updI_n w]
    · rw [mix_ge (by omega), mix_ge (by omega)]
theorem pl_gt {M : zM} {S : Int → Prop} (h : pst M S) {n p : Int} (hn : okN S n) (hp : p < 8) (hd : dep (den M n) (p + 1)) : p < M 6 n := by
  rcases hn with e | e | hs
  · rw [e, h.1.1]; exact hp
  · rw [e, h.1.2]; exact hp
  · by_cases z : p < M 6 n
    · exact z
    · exfalso
      obtain ⟨-, -, r, q⟩ := laid_self h hs
      refine q (hd _ _ (fun k hk => ?_))
      show updI r (M 6 n) 0 k = 0 ↔ updI r (M 6 n) 1 k = 0
      rw [updI_n (by omega), updI_n (by omega)]
/-- a step of making: x is made of F, or there is no room for it -/
def mkd (M : zM) (S : Int → Prop) (F : FN) (x : Int) (M' : zM) (S' : Int → Prop) : Prop := agr M M' S ∧ (∀ n : Int, S n → S' n) ∧ plo M' S' ∧ M' 5 8 = M 5 8 ∧ (∀ n : Int, S' n → S n ∨ laid F (lab M' n)) ∧ ((x = -1 ∧ M' 5 8 ≤ M' 5 7 ∧ ∃ y : Lb, laid F y ∧ ∀ n : Int, S' n → ¬ lab M' n = y) ∨ (okN S' x ∧ den M' x = F)) ∧ (M 5 7 ≤ M 5 8 → M' 5 7 ≤ M' 5 8)
def mkE (M : zM) (S : Int → Prop) (F : FN) (x : Int) (M' : zM) : Prop := ∃ S' : Int → Prop, mkd M S F x M' S'
theorem agr_rf {M : zM} {S : Int → Prop} : agr M M S := ⟨⟨rfl, rfl⟩, fun _ _ => ⟨rfl, rfl, rfl⟩⟩
theorem agr_tr {M M1 M2 : zM} {S S1 : Int → Prop} (h1 : agr M M1 S) (hs : ∀ n : Int, S n → S1 n) (h2 : agr M1 M2 S1) : agr M M2 S := ⟨⟨h2.1.1.trans h1.1.1, h2.1.2.trans h1.1.2⟩, fun n hn => by
  obtain ⟨a, b, c⟩ := h1.2 n hn
  obtain ⟨a', b', c'⟩ := h2.2 n (hs n hn)
  exact ⟨a'.trans a, b'.trans b, c'.trans c⟩⟩
/-- nothing is made: F is there -/
theorem mkd_rf {M : zM} {S : Int → Prop} {F : FN} {x : Int} (h : plo M S) (hx : okN S x) (e : den M x = F) : mkd M S F x M S := ⟨agr_rf, fun _ q => q, h, rfl, fun _ q => Or.inl q, Or.inr ⟨hx, e⟩, fun q => q⟩
theorem ndN_58 {M : zM} {x p l h : Int} : ndN M x p l h 5 8 = M 5 8 := by
  unfold ndN
  rw [entz_58, mkz_5, if_neg (by decide)]
theorem ndN_57 {M : zM} {x p l h : Int} : ndN M x p l h 5 7 = M 5 7 + 1 := by
  unfold ndN
  rw [entz_57, mkz_57]
theorem mkd_nd {M M' : zM} {S : Int → Prop} {p l h x : Int} (hS : plo M S) (p0 : 0 ≤ p) (p1 : p < 8) (hl : okN S l) (hh : okN S h) (pl : p < M 6 l) (ph : p < M 6 h) (hh1 : ¬ h = -1) (hq : ndQ2 M S p l h x M') : mkE M S (fun r => if r p = 0 then den M l r else den M h r) x M' := by
  have hdl : dep (den M l) (p + 1) := dep_den hS.1 hl (by omega)
  have hdh : dep (den M h) (p + 1) := dep_den hS.1 hh (by omega)
  have hdF : dep (fun r => if r p = 0 then den M l r else den M h r) p := fun r r' e => by
    dsimp only
    by_cases q : r p = 0
    · rw [if_pos q, if_pos ((e p (Int.le_refl _)).mp q)]
      exact hdl r r' (fun k hk => e k (by omega))
    · rw [if_neg q, if_neg (fun t => q ((e p (Int.le_refl _)).mpr t))]
      exact hdh r r' (fun k hk => e k (by omega))
  rcases hq with ⟨e, -⟩ | ⟨-, e, rfl, rfl⟩ | ⟨-, -, hx, e6, e7, e8, rfl⟩ | ⟨-, hne, hno, ⟨rfl, rfl, hm⟩ | ⟨hx, hlt, rfl, hpl⟩⟩
  · exact absurd e hh1
  · refine ⟨S, mkd_rf hS hh ?_⟩
    funext r
    rw [e]
    split <;> rfl
  · refine ⟨S, mkd_rf hS (Or.inr (Or.inr hx)) ?_⟩
    funext r
    rw [den_n hS.1 hx, e6, e7, e8]
    split <;> rfl
  · refine ⟨S, agr_rf, fun _ q => q, hS, rfl, fun _ q => Or.inl q, Or.inl ⟨rfl, hm, (p, fun r => if r p = 0 then den M' l r else den M' h r), ⟨⟨p0, p1⟩, ⟨fun _ => 0, (dep_mix hdF).symm⟩, ?_⟩, fun n hn e => ?_⟩, fun q => q⟩
    · by_cases z : ∃ r : Int → Int, ¬ den M' l r = den M' h r
      · obtain ⟨r, hr⟩ := z
        refine ⟨r, ?_⟩
        dsimp only
        rw [updI_s, updI_s, if_pos rfl, if_neg (by decide), den_ig hS.1 hl pl, den_ig hS.1 hh ph]
        exact hr
      · exfalso
        refine hne (den_inj hS.1 hl hh ?_)
        funext r
        by_cases w : den M' l r = den M' h r
        · exact w
        · exact absurd ⟨r, w⟩ z
    · have e6 : M' 6 n = p := congrArg Prod.fst e
      have ed : den M' n = fun r => if r p = 0 then den M' l r else den M' h r := congrArg Prod.snd e
      obtain ⟨-, -, -, a, b⟩ := hS.1.2.1 n hn
      refine hno n hn ⟨e6, den_inj hS.1 a.1 hl ?_, den_inj hS.1 b.1 hh ?_⟩
      · funext r
        rw [← den_low hS.1 hn r, ed, e6]
        dsimp only
        rw [updI_s, if_pos rfl, den_ig hS.1 hl pl]
      · funext r
        rw [← den_high hS.1 hn (v := 1) (by decide) r, ed, e6]
        dsimp only
        rw [updI_s, if_neg (by decide), den_ig hS.1 hh ph]
  · have ha := ndN_agr (p := p) (l := l) (h := h) hS.1 hx.1 hx.2.2
    have hxS : nwS S x x := Or.inr rfl
    have ed : den (ndN M x p l h) x = fun r => if r p = 0 then den M l r else den M h r := by
      funext r
      rw [den_n hpl.1 hxS, ndN_6, ndN_7, ndN_8, updI_s, updI_s, updI_s]
      by_cases q : r p = 0
      · rw [if_pos q, if_pos q, den_agr hS.1 ha hl]
      · rw [if_neg q, if_neg q, den_agr hS.1 ha hh]
    refine ⟨nwS S x, ha, fun _ q => Or.inl q, hpl, ndN_58, fun n hn => ?_, Or.inr ⟨Or.inr (Or.inr hxS), ed⟩, fun _ => by rw [ndN_57, ndN_58]; omega⟩
    rcases hn with q | q
    · exact Or.inl q
    · right
      have z := laid_self hpl.1 hxS
      rw [q]
      rw [ed] at z
      exact z
/-- two halves and a node -/
theorem mkd_two {M M1 M2 M3 : zM} {S S1 S2 : Int → Prop} {F : FN} {p low high x : Int} (hS : plo M S) (hd : dep F p) (p0 : 0 ≤ p) (p1 : p < 8) (h1 : mkd M S (fun r => F (updI r p 0)) low M1 S1) (hlow : ¬ low = -1) (h2 : mkd M1 S1 (fun r => F (updI r p 1)) high M2 S2) (h3 : ndQ2 M2 S2 p low high x M3) : mkE M S F x M3 := by
  obtain ⟨a1, s1, q1, l1, n1, r1, u1⟩ := h1
  obtain ⟨a2, s2, q2, l2, n2, r2, u2⟩ := h2
  obtain ⟨ok1, e1⟩ := r1.resolve_left (fun z => hlow z.1)
  have c1 : ∀ {y : Lb}, laid (fun r => F (updI r p 0)) y → laid F y := fun {y} q => laid_cof hd q
  have c2 : ∀ {y : Lb}, laid (fun r => F (updI r p 1)) y → laid F y := fun {y} q => laid_cof hd q
  have nw : ∀ n : Int, S2 n → S n ∨ laid F (lab M2 n) := fun n hn => by
    rcases n2 n hn with z | z
    · rcases n1 n z with w | w
      · exact Or.inl w
      · right
        rw [lab_agr q1.1 a2 z]
        exact c1 w
    · exact Or.inr (c2 z)
  rcases r2 with ⟨hm, ho, y, hy, hny⟩ | ⟨ok2, e2⟩
  · rcases h3 with ⟨-, rfl, rfl⟩ | ⟨z, -⟩ | ⟨z, -⟩ | ⟨z, -⟩
    · exact ⟨S2, agr_tr a1 s1 a2, fun n hn => s2 n (s1 n hn), q2, l2.trans l1, nw, Or.inl ⟨rfl, ho, y, c2 hy, hny⟩, fun q => u2 (u1 q)⟩
    · exact absurd hm z
    · exact absurd hm z
    · exact absurd hm z
  · have ok1' : okN S2 low := okN_mono s2 ok1
    have e1' : den M2 low = fun r => F (updI r p 0) := by rw [den_agr q1.1 a2 ok1]; exact e1
    have pl : p < M2 6 low := pl_gt q2.1 ok1' p1 (by rw [e1']; exact dep_up hd)
    have ph : p < M2 6 high := pl_gt q2.1 ok2 p1 (by rw [e2]; exact dep_up hd)
    have hh1 : ¬ high = -1 := fun z => by have := okN_in q2.1 ok2; omega
    obtain ⟨S3, a3, s3, q3, l3, n3, r3, u3⟩ := mkd_nd q2 p0 p1 ok1' ok2 pl ph hh1 h3
    have eF : (fun r => if r p = 0 then den M2 low r else den M2 high r) = F := by
      funext r
      rw [e1', e2, dep_sp hd r]
    rw [eF] at n3 r3
    refine ⟨S3, agr_tr (agr_tr a1 s1 a2) (fun n hn => s2 n (s1 n hn)) a3, fun n hn => s3 n (s2 n (s1 n hn)), q3, l3.trans (l2.trans l1), fun n hn => ?_, r3, fun q => u3 (u2 (u1 q))⟩
    rcases n3 n hn with z | z
    · rcases nw n z with w | w
      · exact Or.inl w
      · right
        rw [lab_agr q2.1 a3 z]
        exact w
    · exact Or.inr z
/-- the first half has no room -/
theorem mkd_one {M M1 : zM} {S S1 : Int → Prop} {F : FN} {p v : Int} (hd : dep F p) (h1 : mkd M S (fun r => F (updI r p v)) (-1) M1 S1) : mkE M S F (-1) M1 := by
  obtain ⟨a1, s1, q1, l1, n1, r1, u1⟩ := h1
  refine ⟨S1, a1, s1, q1, l1, fun n hn => (n1 n hn).imp_right (fun z => laid_cof hd z), Or.inl ?_, u1⟩
  rcases r1 with ⟨-, ho, y, hy, hny⟩ | ⟨ok, -⟩
  · exact ⟨rfl, ho, y, laid_cof hd hy, hny⟩
  · have := okN_in q1.1 ok
    omega
