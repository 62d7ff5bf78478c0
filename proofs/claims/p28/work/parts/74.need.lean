/-! ===== which gates are needed; a gate's function ===== -/
def isop (kd : Int → Int) (od : Int → Int → Int) (k x : Int) : Prop := ∃ c : Int, (0 ≤ c ∧ c < opF (kd k)) ∧ od k c = x
/-- L x: the last gate that needs x, -1 if none does; the output's own gate: itself -/
def lnS (kd : Int → Int) (od : Int → Int → Int) (g : Int) (L : Int → Int) : Prop := L g = g ∧ ∀ x : Int, 0 ≤ x → x < 40 → x ≠ g → (L x = -1 ∧ ∀ k : Int, x < k → k ≤ g → ¬ L k = -1 → ¬ isop kd od k x) ∨ ((x < L x ∧ L x ≤ g) ∧ ¬ L (L x) = -1 ∧ isop kd od (L x) x ∧ ∀ k : Int, L x < k → k ≤ g → ¬ L k = -1 → ¬ isop kd od k x)
theorem lnS_uniq {kd kd' : Int → Int} {od od' : Int → Int → Int} {g : Int} {L L' : Int → Int} (g1 : g < 40) (hi : ∀ k x : Int, 0 ≤ k → k ≤ g → (isop kd od k x ↔ isop kd' od' k x)) (h : lnS kd od g L) (h' : lnS kd' od' g L') : ∀ x : Int, 0 ≤ x → x < 40 → L' x = L x := by
  have key : ∀ N : Nat, ∀ x : Int, 0 ≤ x → x < 40 → 40 - x ≤ N → L' x = L x := by
    intro N
    induction N with
    | zero => intro x a b c; omega
    | succ N ih =>
      intro x a b c
      by_cases e : x = g
      · rw [e, h.1, h'.1]
      · have up : ∀ k : Int, x < k → k ≤ g → L' k = L k := fun k k0 k1 => ih k (by omega) (by omega) (by omega)
        rcases h.2 x a b e with ⟨p, q⟩ | ⟨p, q, r, s⟩
        · rcases h'.2 x a b e with ⟨p', q'⟩ | ⟨p', q', r', s'⟩
          · rw [p, p']
          · exfalso
            refine q (L' x) p'.1 p'.2 ?_ ((hi _ _ (by omega) p'.2).mpr r')
            rw [← up (L' x) p'.1 p'.2]
            exact q'
        · rcases h'.2 x a b e with ⟨p', q'⟩ | ⟨p', q', r', s'⟩
          · exfalso
            refine q' (L x) p.1 p.2 ?_ ((hi _ _ (by omega) p.2).mp r)
            rw [up (L x) p.1 p.2]
            exact q
          · rcases Int.lt_trichotomy (L x) (L' x) with w | w | w
            · exfalso
              refine s (L' x) w p'.2 ?_ ((hi _ _ (by omega) p'.2).mpr r')
              rw [← up (L' x) p'.1 p'.2]
              exact q'
            · exact w.symm
            · exfalso
              refine s' (L x) w p.2 ?_ ((hi _ _ (by omega) p.2).mp r)
              rw [up (L x) p.1 p.2]
              exact q
  exact fun x a b => key (40 - x).toNat x a b (by omega)
/-- a gate's function out of those before it -/
def gst (kd : Int → Int) (od : Int → Int → Int) (pl : Int → Int) (F : Int → FN) (k : Int) : FN := if kd k = 0 then (fun r => bz (r (pl (od k 0)))) else fun r => tbl (tabF (kd k)) (if 0 < opF (kd k) then F (od k 0) r else 0) (if 1 < opF (kd k) then F (od k 1) r else 0) (if 2 < opF (kd k) then F (od k 2) r else 0)
def gfn (kd : Int → Int) (od : Int → Int → Int) (pl : Int → Int) : Nat → Int → FN
  | 0, _ => fun _ => 0
  | n + 1, k => gst kd od pl (gfn kd od pl n) k
/-- the function of gate k -/
def gF (kd : Int → Int) (od : Int → Int → Int) (pl : Int → Int) (k : Int) : FN := gfn kd od pl (k.toNat + 1) k
theorem gst_cg {kd kd' : Int → Int} {od od' : Int → Int → Int} {pl pl' : Int → Int} {F F' : Int → FN} {k : Int} (hk : kd' k = kd k) (ho : ∀ c : Int, 0 ≤ c → c < 3 → od' k c = od k c) (hp : kd k = 0 → pl' (od k 0) = pl (od k 0)) (hF : ∀ c : Int, 0 ≤ c → c < opF (kd k) → F' (od k c) = F (od k c)) : gst kd' od' pl' F' k = gst kd od pl F k := by
  unfold gst
  rw [hk, ho 0 (by decide) (by decide), ho 1 (by decide) (by decide), ho 2 (by decide) (by decide)]
  by_cases e : kd k = 0
  · rw [if_pos e, if_pos e, hp e]
  · rw [if_neg e, if_neg e]
    funext r
    have a : (if 0 < opF (kd k) then F' (od k 0) r else 0) = (if 0 < opF (kd k) then F (od k 0) r else 0) := by
      by_cases q : 0 < opF (kd k)
      · rw [if_pos q, if_pos q, hF 0 (by decide) q]
      · rw [if_neg q, if_neg q]
    have b : (if 1 < opF (kd k) then F' (od k 1) r else 0) = (if 1 < opF (kd k) then F (od k 1) r else 0) := by
      by_cases q : 1 < opF (kd k)
      · rw [if_pos q, if_pos q, hF 1 (by decide) q]
      · rw [if_neg q, if_neg q]
    have c : (if 2 < opF (kd k) then F' (od k 2) r else 0) = (if 2 < opF (kd k) then F (od k 2) r else 0) := by
      by_cases q : 2 < opF (kd k)
      · rw [if_pos q, if_pos q, hF 2 (by decide) q]
      · rw [if_neg q, if_neg q]
    rw [a, b, c]
theorem gfn_fuel {kd : Int → Int} {od : Int → Int → Int} {pl : Int → Int} {m : Int} (hb : odB kd od m) : ∀ (n n' : Nat) (k : Int), 0 ≤ k → k < m → k < n → k < n' → gfn kd od pl n k = gfn kd od pl n' k := by
  intro n
  induction n with
  | zero => intro n' k a b c d; omega
  | succ n ih =>
    intro n' k a b c d
    cases n' with
    | zero => omega
    | succ n' =>
      show gst kd od pl (gfn kd od pl n) k = gst kd od pl (gfn kd od pl n') k
      exact gst_cg rfl (fun _ _ _ => rfl) (fun _ => rfl) (fun i i0 i1 => by
        have q := hb k a b i i0 i1
        exact ih n' _ q.1 (by omega) (by omega) (by omega))
theorem gF_eq {kd : Int → Int} {od : Int → Int → Int} {pl : Int → Int} {m : Int} (hb : odB kd od m) {k : Int} (k0 : 0 ≤ k) (k1 : k < m) : gF kd od pl k = gst kd od pl (gF kd od pl) k := by
  show gst kd od pl (gfn kd od pl k.toNat) k = _
  exact gst_cg rfl (fun _ _ _ => rfl) (fun _ => rfl) (fun i i0 i1 => by
    have q := hb k k0 k1 i i0 i1
    exact gfn_fuel hb _ _ _ q.1 (by omega) (by omega) (by omega))
theorem gF_cg {kd kd' : Int → Int} {od od' : Int → Int → Int} {pl pl' : Int → Int} {m : Int} (hb : odB kd od m) (hk : ∀ k : Int, 0 ≤ k → k < m → kd' k = kd k ∧ ∀ c : Int, 0 ≤ c → c < 3 → od' k c = od k c) (hp : ∀ k : Int, 0 ≤ k → k < m → kd k = 0 → pl' (od k 0) = pl (od k 0)) : ∀ k : Int, 0 ≤ k → k < m → gF kd' od' pl' k = gF kd od pl k := by
  have hb' : odB kd' od' m := fun k a b c c0 c1 => by
    obtain ⟨e1, e2⟩ := hk k a b
    rw [e1] at c1
    have := opF_in (kd k)
    rw [e2 c c0 (by omega)]
    exact hb k a b c c0 c1
  have key : ∀ N : Nat, ∀ k : Int, 0 ≤ k → k < N → k < m → gF kd' od' pl' k = gF kd od pl k := by
    intro N
    induction N with
    | zero => intro k a b; omega
    | succ N ih =>
      intro k a b c
      rw [gF_eq hb' a c, gF_eq hb a c]
      exact gst_cg (hk k a c).1 (hk k a c).2 (hp k a c) (fun i i0 i1 => by
        have q := hb k a c i i0 i1
        exact ih _ q.1 (by omega) (by omega))
  exact fun k a b => key (k.toNat + 1) k a (by omega) b
/-- at hand before gate k is made -/
def hnd (L : Int → Int) (g k x : Int) : Prop := (0 ≤ x ∧ x < k) ∧ ¬ L x = -1 ∧ (x = g ∨ k ≤ L x)
/-- the labels at hand before gate k is made -/
def EH (E : Lb → Prop) (F : Int → FN) (H : Int → Prop) (y : Lb) : Prop := E y ∨ ∃ x : Int, H x ∧ laid (F x) y
/-- while the needs are found: gates above k are done, and c operands of k -/
def lnP (kd : Int → Int) (od : Int → Int → Int) (g : Int) (L : Int → Int) (k c : Int) : Prop := L g = g ∧ ∀ x : Int, 0 ≤ x → x < 40 → x ≠ g → (L x = -1 ∧ (∀ j : Int, k < j → j ≤ g → ¬ L j = -1 → ¬ isop kd od j x) ∧ (¬ L k = -1 → ∀ i : Int, 0 ≤ i → i < c → i < opF (kd k) → od k i ≠ x)) ∨ ((x < L x ∧ L x ≤ g ∧ k ≤ L x) ∧ ¬ L (L x) = -1 ∧ isop kd od (L x) x ∧ ∀ j : Int, L x < j → j ≤ g → ¬ L j = -1 → ¬ isop kd od j x)
theorem lnP_0 {kd : Int → Int} {od : Int → Int → Int} {g : Int} {L : Int → Int} (h0 : L g = g) (h1 : ∀ x : Int, 0 ≤ x → x < 40 → x ≠ g → L x = -1) : lnP kd od g L g 0 :=
  ⟨h0, fun x a b e => Or.inl ⟨h1 x a b e, fun j c d => absurd d (by omega), fun _ i c d => absurd d (by omega)⟩⟩
theorem lnP_cg {kd : Int → Int} {od : Int → Int → Int} {g k c : Int} {L L' : Int → Int} (g0 : 0 ≤ g) (g1 : g < 40) (k0 : 0 ≤ k) (k1 : k ≤ g) (e : ∀ x : Int, 0 ≤ x → x < 40 → L' x = L x) (h : lnP kd od g L k c) : lnP kd od g L' k c := by
  refine ⟨(e g g0 g1).trans h.1, fun x a b q => ?_⟩
  rcases h.2 x a b q with ⟨p1, p2, p3⟩ | ⟨p1, p2, p3, p4⟩
  · left
    refine ⟨(e x a b).trans p1, fun j j0 j1 => ?_, ?_⟩
    · rw [e j (by omega) (by omega)]; exact p2 j j0 j1
    · rw [e k k0 (by omega)]; exact p3
  · right
    rw [e x a b, e (L x) (by omega) (by omega)]
    refine ⟨p1, p2, p3, fun j j0 j1 => ?_⟩
    rw [e j (by omega) (by omega)]
    exact p4 j j0 j1
/-- one operand more -/
theorem lnP_st {kd : Int → Int} {od : Int → Int → Int} {g k c x0 : Int} {L L' : Int → Int} (h : lnP kd od g L k c) (hk : ¬ L k = -1) (kg : k ≤ g) (c0 : 0 ≤ c) (c1 : c < opF (kd k)) (hx : od k c = x0) (x00 : 0 ≤ x0) (x01 : x0 < k) (g1 : g < 40) (hL : (L x0 = -1 ∧ L' = updI L x0 k) ∨ (¬ L x0 = -1 ∧ L' = L)) : lnP kd od g L' k (c + 1) := by
  rcases hL with ⟨q, e⟩ | ⟨q, e⟩
  · have up : ∀ j : Int, j ≠ x0 → L' j = L j := fun j hj => by rw [e]; exact updI_n hj
    have es : L' x0 = k := by rw [e]; exact updI_s
    refine ⟨(up g (by omega)).trans h.1, fun x a b w => ?_⟩
    by_cases ex : x = x0
    · right
      rw [ex, es, up k (by omega)]
      rcases h.2 x0 x00 (by omega) (by omega) with ⟨p1, p2, p3⟩ | ⟨p1, p2, p3, p4⟩
      · refine ⟨⟨x01, kg, Int.le_refl _⟩, hk, ⟨c, ⟨c0, c1⟩, hx⟩, fun j j0 j1 => ?_⟩
        rw [up j (by omega)]
        exact p2 j j0 j1
      · omega
    · rw [up x ex]
      rcases h.2 x a b w with ⟨p1, p2, p3⟩ | ⟨p1, p2, p3, p4⟩
      · left
        refine ⟨p1, fun j j0 j1 => ?_, fun _ i i0 i1 i2 => ?_⟩
        · rw [up j (by omega)]; exact p2 j j0 j1
        · by_cases ei : i = c
          · rw [ei, hx]; exact fun t => ex t.symm
          · exact p3 hk i i0 (by omega) i2
      · right
        rw [up (L x) (by omega)]
        refine ⟨p1, p2, p3, fun j j0 j1 => ?_⟩
        rw [up j (by omega)]
        exact p4 j j0 j1
  · rw [e]
    refine ⟨h.1, fun x a b w => ?_⟩
    rcases h.2 x a b w with ⟨p1, p2, p3⟩ | p
    · left
      refine ⟨p1, p2, fun _ i i0 i1 i2 => ?_⟩
      by_cases ei : i = c
      · rw [ei, hx]
        intro t
        rw [t] at q
        exact q p1
      · exact p3 hk i i0 (by omega) i2
    · exact Or.inr p
/-- gate k is done -/
theorem lnP_dn {kd : Int → Int} {od : Int → Int → Int} {g k c : Int} {L : Int → Int} (h : lnP kd od g L k c) (hc : L k = -1 ∨ opF (kd k) ≤ c) : lnP kd od g L (k - 1) 0 := by
  refine ⟨h.1, fun x a b w => ?_⟩
  rcases h.2 x a b w with ⟨p1, p2, p3⟩ | ⟨p1, p2, p3, p4⟩
  · left
    refine ⟨p1, fun j j0 j1 hj hi => ?_, fun _ i i0 i1 => by omega⟩
    by_cases e : j = k
    · rw [e] at hj hi
      obtain ⟨i, ⟨i0, i1⟩, hi⟩ := hi
      rcases hc with z | z
      · exact hj z
      · exact p3 hj i i0 (by omega) i1 hi
    · exact p2 j (by omega) j1 hj hi
  · right
    exact ⟨⟨p1.1, p1.2.1, by omega⟩, p2, p3, p4⟩
theorem lnP_end {kd : Int → Int} {od : Int → Int → Int} {g : Int} {L : Int → Int} (h : lnP kd od g L (-1) 0) : lnS kd od g L := by
  refine ⟨h.1, fun x a b w => ?_⟩
  rcases h.2 x a b w with ⟨p1, p2, -⟩ | ⟨p1, p2, p3, p4⟩
  · exact Or.inl ⟨p1, fun k k0 k1 => p2 k (by omega) k1⟩
  · exact Or.inr ⟨⟨p1.1, p1.2.1⟩, p2, p3, p4⟩
/-- what the last need says of the next gate -/
theorem lnS_in {kd : Int → Int} {od : Int → Int → Int} {g : Int} {L : Int → Int} (h : lnS kd od g L) {x : Int} (x0 : 0 ≤ x) (x1 : x < 40) (hx : ¬ L x = -1) : x ≤ L x ∧ L x ≤ g ∧ (x = g ∨ x < L x) := by
  by_cases e : x = g
  · rw [e, h.1]; exact ⟨Int.le_refl _, Int.le_refl _, Or.inl rfl⟩
  · rcases h.2 x x0 x1 e with ⟨p, -⟩ | ⟨p, -⟩
    · exact absurd p hx
    · exact ⟨by omega, p.2, Or.inr p.1⟩
/-- a needed gate's operands are at hand -/
theorem lnS_op {kd : Int → Int} {od : Int → Int → Int} {g : Int} {L : Int → Int} (h : lnS kd od g L) (g1 : g < 40) {k x : Int} (k1 : k ≤ g) (hk : ¬ L k = -1) (x0 : 0 ≤ x) (xk : x < k) (hi : isop kd od k x) : hnd L g k x := by
  rcases h.2 x x0 (by omega) (by omega) with ⟨p, q⟩ | ⟨p, q, r, s⟩
  · exact absurd hi (q k xk k1 hk)
  · refine ⟨⟨x0, xk⟩, by omega, Or.inr ?_⟩
    by_cases w : k ≤ L x
    · exact w
    · exact absurd hi (s k (by omega) k1 hk)
theorem hn_skip {kd : Int → Int} {od : Int → Int → Int} {g k : Int} {L : Int → Int} (h : lnS kd od g L) (g1 : g < 40) (k1 : k ≤ g) (hk : L k = -1) (z : Int) : hnd L g (k + 1) z ↔ hnd L g k z := by
  constructor
  · rintro ⟨a, b, c⟩
    have e : z ≠ k := fun e => b (by rw [e]; exact hk)
    exact ⟨by omega, b, by omega⟩
  · rintro ⟨a, b, c⟩
    refine ⟨by omega, b, ?_⟩
    rcases c with c | c
    · exact Or.inl c
    · by_cases e : z = g
      · exact Or.inl e
      · right
        rcases h.2 z a.1 (by omega) e with ⟨p, -⟩ | ⟨-, q, -⟩
        · exact absurd p b
        · by_cases w : L z = k
          · rw [w] at q; exact absurd hk q
          · omega
theorem hn_step {kd : Int → Int} {od : Int → Int → Int} {g k : Int} {L : Int → Int} (h : lnS kd od g L) (g1 : g < 40) (k0 : 0 ≤ k) (k1 : k ≤ g) (hk : ¬ L k = -1) (ho : ∀ z, isop kd od k z → z < k) (z : Int) : hnd L g (k + 1) z ↔ ((hnd L g k z ∨ z = k) ∧ ¬ (isop kd od k z ∧ L z = k)) := by
  constructor
  · rintro ⟨a, b, c⟩
    by_cases e : z = k
    · refine ⟨Or.inr e, fun q => ?_⟩
      have := ho z q.1
      omega
    · refine ⟨Or.inl ⟨by omega, b, by omega⟩, fun q => ?_⟩
      omega
  · rintro ⟨a | a, b⟩
    · obtain ⟨a1, a2, a3⟩ := a
      refine ⟨by omega, a2, ?_⟩
      rcases a3 with c | c
      · exact Or.inl c
      · by_cases e : z = g
        · exact Or.inl e
        · right
          rcases h.2 z a1.1 (by omega) e with ⟨p, -⟩ | ⟨-, -, q, -⟩
          · exact absurd p a2
          · by_cases w : L z = k
            · rw [w] at q; exact absurd ⟨q, w⟩ b
            · omega
    · have q := lnS_in h (x := z) (by omega) (by omega) (by rw [a]; exact hk)
      exact ⟨by omega, by rw [a]; exact hk, by omega⟩
theorem hn_end {kd : Int → Int} {od : Int → Int → Int} {g : Int} {L : Int → Int} (h : lnS kd od g L) (g0 : 0 ≤ g) (g1 : g < 40) (z : Int) : hnd L g (g + 1) z ↔ z = g := by
  constructor
  · rintro ⟨a, b, c⟩
    have q := lnS_in h a.1 (by omega) b
    omega
  · intro e
    have := h.1
    refine ⟨by omega, ?_, Or.inl e⟩
    rw [e]
    omega
theorem hn_0 {g : Int} {L : Int → Int} (z : Int) : hnd L g 0 z ↔ False := ⟨fun q => by have := q.1; omega, False.elim⟩
