/-! ===== functions of places, their parts, counting ===== -/
abbrev FN : Type := (Int → Int) → Int
abbrev Lb : Type := Int × FN
/-- the first d places as s has them -/
def mix (d : Int) (s r : Int → Int) : Int → Int := fun k => if k < d then s k else r k
theorem mix_lt {d k : Int} {s r : Int → Int} (h : k < d) : mix d s r k = s k := by unfold mix; rw [if_pos h]
theorem mix_ge {d k : Int} {s r : Int → Int} (h : d ≤ k) : mix d s r k = r k := by unfold mix; rw [if_neg (by omega)]
/-- a part of F at depth x.1 that hangs on that place -/
def laid (F : FN) (x : Lb) : Prop := (0 ≤ x.1 ∧ x.1 < 8) ∧ (∃ s : Int → Int, x.2 = fun r => F (mix x.1 s r)) ∧ ∃ r : Int → Int, ¬ x.2 (updI r x.1 0) = x.2 (updI r x.1 1)
/-- P has just c labels -/
def cnt (P : Lb → Prop) (c : Int) : Prop := ∃ L : List Lb, L.Nodup ∧ (∀ x, x ∈ L ↔ P x) ∧ (L.length : Int) = c
/-- P has more than c -/
def over (P : Lb → Prop) (c : Int) : Prop := ∃ L : List Lb, L.Nodup ∧ (∀ x ∈ L, P x) ∧ c < (L.length : Int)
theorem nodup_len {α : Type} : ∀ {l l' : List α}, l.Nodup → (∀ x ∈ l, x ∈ l') → l.length ≤ l'.length
  | [], l', _, _ => Nat.zero_le _
  | a :: t, l', hn, hs => by
    obtain ⟨s, u, e⟩ := List.append_of_mem (hs a List.mem_cons_self)
    subst e
    have hn' := List.nodup_cons.mp hn
    have h := nodup_len (l := t) (l' := s ++ u) hn'.2 (fun x hx => by
      have q := hs x (List.mem_cons_of_mem _ hx)
      rcases List.mem_append.mp q with q | q
      · exact List.mem_append_left _ q
      · rcases List.mem_cons.mp q with q | q
        · exact absurd (q ▸ hx) hn'.1
        · exact List.mem_append_right _ q)
    simp only [List.length_append, List.length_cons] at h ⊢
    omega
theorem cnt_uniq {P Q : Lb → Prop} {c d : Int} (h : ∀ x, P x ↔ Q x) (h1 : cnt P c) (h2 : cnt Q d) : c = d := by
  obtain ⟨L, n1, m1, e1⟩ := h1
  obtain ⟨K, n2, m2, e2⟩ := h2
  have a := nodup_len n1 (fun x hx => (m2 x).mpr ((h x).mp ((m1 x).mp hx)))
  have b := nodup_len n2 (fun x hx => (m1 x).mpr ((h x).mpr ((m2 x).mp hx)))
  omega
theorem cnt_over {P Q : Lb → Prop} {c d : Int} (h : ∀ x, Q x → P x) (h1 : cnt P c) (h2 : over Q d) : d < c := by
  obtain ⟨L, n1, m1, e1⟩ := h1
  obtain ⟨K, n2, m2, e2⟩ := h2
  have b := nodup_len n2 (fun x hx => (m1 x).mpr (h x (m2 x hx)))
  omega
theorem cnt_congr {P Q : Lb → Prop} {c : Int} (h : ∀ x, P x ↔ Q x) (h1 : cnt P c) : cnt Q c := by
  obtain ⟨L, n1, m1, e1⟩ := h1
  exact ⟨L, n1, fun x => (m1 x).trans (h x), e1⟩
theorem over_mono {P Q : Lb → Prop} {c : Int} (h : ∀ x, P x → Q x) (h1 : over P c) : over Q c := by
  obtain ⟨L, n1, m1, e1⟩ := h1
  exact ⟨L, n1, fun x hx => h x (m1 x hx), e1⟩
theorem cnt_gt {P : Lb → Prop} {c d : Int} (h : cnt P c) (hd : d < c) : over P d := by
  obtain ⟨L, n1, m1, e1⟩ := h
  exact ⟨L, n1, fun x hx => (m1 x).mp hx, by omega⟩
theorem nodup_map_on {α β : Type} {g : α → β} : ∀ {l : List α}, l.Nodup → (∀ a ∈ l, ∀ b ∈ l, g a = g b → a = b) → (l.map g).Nodup
  | [], _, _ => List.nodup_nil
  | a :: t, hn, hi => by
    have hn' := List.nodup_cons.mp hn
    rw [List.map_cons]
    refine List.nodup_cons.mpr ⟨fun h => ?_, nodup_map_on hn'.2 (fun x hx y hy e => hi x (List.mem_cons_of_mem _ hx) y (List.mem_cons_of_mem _ hy) e)⟩
    obtain ⟨b, hb, e⟩ := List.mem_map.mp h
    have q := hi b (List.mem_cons_of_mem _ hb) a List.mem_cons_self e
    exact hn'.1 (q ▸ hb)
/-- the places where f is not 0 -/
def lv (f : Int → Int) : Nat → List Int
  | 0 => []
  | n + 1 => if f (n : Int) = 0 then lv f n else (n : Int) :: lv f n
theorem lv_mem {f : Int → Int} : ∀ {n : Nat} {k : Int}, k ∈ lv f n ↔ (0 ≤ k ∧ k < n ∧ ¬ f k = 0)
  | 0, k => by
    constructor
    · intro h; cases h
    · rintro ⟨a, b, -⟩; omega
  | n + 1, k => by
    unfold lv
    by_cases e : f (n : Int) = 0
    · rw [if_pos e, lv_mem (n := n)]
      constructor
      · rintro ⟨a, b, c⟩; exact ⟨a, by omega, c⟩
      · rintro ⟨a, b, c⟩
        refine ⟨a, ?_, c⟩
        by_cases q : k = n
        · exact absurd (q ▸ e) c
        · omega
    · rw [if_neg e, List.mem_cons, lv_mem (n := n)]
      constructor
      · rintro (q | ⟨a, b, c⟩)
        · exact ⟨by omega, by omega, by rw [q]; exact e⟩
        · exact ⟨a, by omega, c⟩
      · rintro ⟨a, b, c⟩
        by_cases q : k = n
        · exact Or.inl q
        · exact Or.inr ⟨a, by omega, c⟩
theorem lv_nodup {f : Int → Int} : ∀ n : Nat, (lv f n).Nodup
  | 0 => List.nodup_nil
  | n + 1 => by
    unfold lv
    by_cases e : f (n : Int) = 0
    · rw [if_pos e]; exact lv_nodup n
    · rw [if_neg e]
      refine List.nodup_cons.mpr ⟨fun h => ?_, lv_nodup n⟩
      have := (lv_mem.mp h).2.1
      omega
theorem lv_len {f : Int → Int} : ∀ n : Nat, ((lv f n).length : Int) = hr f n
  | 0 => rfl
  | n + 1 => by
    unfold lv hr
    by_cases e : f (n : Int) = 0
    · rw [if_pos e, if_pos e, lv_len n]; omega
    · rw [if_neg e, if_neg e, List.length_cons, ← lv_len n]; omega
/-- labels of the nodes where f is not 0, counted -/
theorem cnt_hr {f : Int → Int} {g : Int → Lb} {n : Nat} {P : Lb → Prop} (hi : ∀ a b : Int, 0 ≤ a → a < n → 0 ≤ b → b < n → ¬ f a = 0 → ¬ f b = 0 → g a = g b → a = b) (h1 : ∀ a : Int, 0 ≤ a → a < n → ¬ f a = 0 → P (g a)) (h2 : ∀ x, P x → ∃ a : Int, 0 ≤ a ∧ a < n ∧ ¬ f a = 0 ∧ g a = x) : cnt P (hr f n) := by
  refine ⟨(lv f n).map g, nodup_map_on (lv_nodup n) (fun a ha b hb e => ?_), fun x => ?_, by rw [List.length_map]; exact lv_len n⟩
  · obtain ⟨a0, a1, a2⟩ := lv_mem.mp ha
    obtain ⟨b0, b1, b2⟩ := lv_mem.mp hb
    exact hi a b a0 a1 b0 b1 a2 b2 e
  · rw [List.mem_map]
    constructor
    · rintro ⟨a, ha, rfl⟩
      obtain ⟨a0, a1, a2⟩ := lv_mem.mp ha
      exact h1 a a0 a1 a2
    · intro hx
      obtain ⟨a, a0, a1, a2, e⟩ := h2 x hx
      exact ⟨a, lv_mem.mpr ⟨a0, a1, a2⟩, e⟩
/-- and one more that is none of them -/
theorem over_hr {f : Int → Int} {g : Int → Lb} {n : Nat} {P : Lb → Prop} {y : Lb} (hi : ∀ a b : Int, 0 ≤ a → a < n → 0 ≤ b → b < n → ¬ f a = 0 → ¬ f b = 0 → g a = g b → a = b) (h1 : ∀ a : Int, 0 ≤ a → a < n → ¬ f a = 0 → P (g a)) (hy : P y) (hn : ∀ a : Int, 0 ≤ a → a < n → ¬ f a = 0 → ¬ g a = y) {c : Int} (hc : c ≤ hr f n) : over P c := by
  refine ⟨y :: (lv f n).map g, List.nodup_cons.mpr ⟨fun h => ?_, nodup_map_on (lv_nodup n) (fun a ha b hb e => ?_)⟩, fun x hx => ?_, ?_⟩
  · obtain ⟨a, ha, e⟩ := List.mem_map.mp h
    obtain ⟨a0, a1, a2⟩ := lv_mem.mp ha
    exact hn a a0 a1 a2 e
  · obtain ⟨a0, a1, a2⟩ := lv_mem.mp ha
    obtain ⟨b0, b1, b2⟩ := lv_mem.mp hb
    exact hi a b a0 a1 b0 b1 a2 b2 e
  · rcases List.mem_cons.mp hx with q | q
    · rw [q]; exact hy
    · obtain ⟨a, ha, e⟩ := List.mem_map.mp q
      obtain ⟨a0, a1, a2⟩ := lv_mem.mp ha
      rw [← e]
      exact h1 a a0 a1 a2
  · have := lv_len (f := f) n
    rw [List.length_cons, List.length_map]
    omega
/-! ===== the class's nodes as functions ===== -/
def dn (M : zM) : Nat → Int → FN
  | 0, n, _ => if n = 1 then 1 else 0
  | k + 1, n, r => if n < 2 then (if n = 1 then 1 else 0) else dn M k (if r (M 6 n) = 0 then M 7 n else M 8 n) r
def den (M : zM) (n : Int) : FN := dn M 8 n
def okN (S : Int → Prop) (n : Int) : Prop := n = 0 ∨ n = 1 ∨ S n
/-- the nodes of S are well made -/
def pst (M : zM) (S : Int → Prop) : Prop := (M 6 0 = 8 ∧ M 6 1 = 8) ∧ (∀ n : Int, S n → (2 ≤ n ∧ n < 252) ∧ (0 ≤ M 6 n ∧ M 6 n < 8) ∧ M 7 n ≠ M 8 n ∧ (okN S (M 7 n) ∧ M 6 n < M 6 (M 7 n)) ∧ (okN S (M 8 n) ∧ M 6 n < M 6 (M 8 n))) ∧ ∀ n m : Int, S n → S m → M 6 n = M 6 m → M 7 n = M 7 m → M 8 n = M 8 m → n = m
section PST
variable {M : zM} {S : Int → Prop}
theorem pst_pl (h : pst M S) {n : Int} (hn : okN S n) : 0 ≤ M 6 n ∧ M 6 n ≤ 8 := by
  rcases hn with rfl | rfl | hn
  · have := h.1.1; omega
  · have := h.1.2; omega
  · have := (h.2.1 n hn).2.1; omega
theorem pst_t (h : pst M S) {n : Int} (hn : okN S n) (hp : 8 ≤ M 6 n) : n = 0 ∨ n = 1 := by
  rcases hn with e | e | hn
  · exact Or.inl e
  · exact Or.inr e
  · have := (h.2.1 n hn).2.1; omega
theorem pst_2 (h : pst M S) {n : Int} (hn : okN S n) : n < 2 ∨ S n := by
  rcases hn with e | e | hn
  · left; omega
  · left; omega
  · exact Or.inr hn
theorem okN_2 (h : pst M S) {n : Int} (hn : okN S n) (h2 : 2 ≤ n) : S n := by
  rcases hn with e | e | hn
  · omega
  · omega
  · exact hn
theorem okN_in (h : pst M S) {n : Int} (hn : okN S n) : 0 ≤ n ∧ n < 252 := by
  rcases hn with e | e | hn
  · omega
  · omega
  · have := (h.2.1 n hn).1; omega
/-- the child that r goes to -/
theorem pst_ch (h : pst M S) {n : Int} (hn : S n) (r : Int → Int) : okN S (if r (M 6 n) = 0 then M 7 n else M 8 n) ∧ M 6 n < M 6 (if r (M 6 n) = 0 then M 7 n else M 8 n) := by
  obtain ⟨-, -, -, a, b⟩ := h.2.1 n hn
  by_cases e : r (M 6 n) = 0
  · rw [if_pos e]; exact a
  · rw [if_neg e]; exact b
theorem dn_lt {k : Nat} {n : Int} {r : Int → Int} (h : n < 2) : dn M k n r = if n = 1 then 1 else 0 := by
  cases k with
  | zero => rfl
  | succ k => unfold dn; rw [if_pos h]
theorem dn_up (h : pst M S) : ∀ (k : Nat) (n : Int), okN S n → 8 - M 6 n ≤ k → dn M (k + 1) n = dn M k n
  | 0, n, hn, hp => by
    funext r
    rcases pst_t h hn (by omega) with e | e
    · rw [dn_lt (by omega), dn_lt (by omega)]
    · rw [dn_lt (by omega), dn_lt (by omega)]
  | k + 1, n, hn, hp => by
    funext r
    rcases pst_2 h hn with e | hs
    · rw [dn_lt e, dn_lt e]
    · have h2 := (h.2.1 n hs).1
      obtain ⟨c1, c2⟩ := pst_ch h hs r
      show (if n < 2 then _ else dn M (k + 1) _ r) = (if n < 2 then _ else dn M k _ r)
      rw [if_neg (show ¬ n < 2 by omega), if_neg (show ¬ n < 2 by omega), dn_up h k _ c1 (by omega)]
theorem den_n (h : pst M S) {n : Int} (hn : S n) (r : Int → Int) : den M n r = den M (if r (M 6 n) = 0 then M 7 n else M 8 n) r := by
  have h2 := (h.2.1 n hn).1
  have hp := (h.2.1 n hn).2.1
  obtain ⟨c1, c2⟩ := pst_ch h hn r
  show (if n < 2 then _ else dn M 7 _ r) = dn M 8 _ r
  rw [if_neg (show ¬ n < 2 by omega), dn_up h 7 _ c1 (by omega)]
theorem den_lt {n : Int} {r : Int → Int} (h : n < 2) : den M n r = if n = 1 then 1 else 0 := dn_lt h
theorem den_0 {r : Int → Int} : den M 0 r = 0 := by rw [den_lt (by decide)]; rfl
theorem den_1 {r : Int → Int} : den M 1 r = 1 := by rw [den_lt (by decide)]; rfl
/-- downwards over the places -/
theorem pst_ind (h : pst M S) {P : Int → Prop} (hP : ∀ n : Int, okN S n → (∀ c : Int, okN S c → M 6 n < M 6 c → P c) → P n) : ∀ n : Int, okN S n → P n := by
  have key : ∀ (k : Nat) (n : Int), okN S n → 8 - M 6 n ≤ k → P n := by
    intro k
    induction k with
    | zero => intro n hn hk; exact hP n hn (fun c hc q => by have := pst_pl h hc; omega)
    | succ k ih => intro n hn hk; exact hP n hn (fun c hc q => ih c hc (by omega))
  intro n hn
  have := pst_pl h hn
  exact key 8 n hn (by omega)
theorem den_ag (h : pst M S) {n : Int} (hn : okN S n) : ∀ {r r' : Int → Int}, (∀ k : Int, M 6 n ≤ k → (r k = 0 ↔ r' k = 0)) → den M n r = den M n r' := by
  refine pst_ind h (P := fun n => ∀ {r r' : Int → Int}, (∀ k : Int, M 6 n ≤ k → (r k = 0 ↔ r' k = 0)) → den M n r = den M n r') ?_ n hn
  intro n hn ih r r' e
  rcases pst_2 h hn with q | hs
  · rw [den_lt q, den_lt q]
  · have z : (if r (M 6 n) = 0 then M 7 n else M 8 n) = (if r' (M 6 n) = 0 then M 7 n else M 8 n) := by
      have w := e (M 6 n) (Int.le_refl _)
      by_cases q : r (M 6 n) = 0
      · rw [if_pos q, if_pos (w.mp q)]
      · rw [if_neg q, if_neg (fun t => q (w.mpr t))]
    rw [den_n h hs r, den_n h hs r', z]
    obtain ⟨c1, c2⟩ := pst_ch h hs r'
    exact ih _ c1 c2 (fun k hk => e k (by omega))
theorem den_ig (h : pst M S) {n d v : Int} (hn : okN S n) (hd : d < M 6 n) (r : Int → Int) : den M n (updI r d v) = den M n r := den_ag h hn (fun k hk => by rw [updI_n (by omega)])
theorem den_bool (h : pst M S) {n : Int} (hn : okN S n) : ∀ r : Int → Int, den M n r = 0 ∨ den M n r = 1 := by
  refine pst_ind h (P := fun n => ∀ r : Int → Int, den M n r = 0 ∨ den M n r = 1) ?_ n hn
  intro n hn ih r
  rcases pst_2 h hn with q | hs
  · rw [den_lt q]
    split
    · exact Or.inr rfl
    · exact Or.inl rfl
  · rw [den_n h hs r]
    obtain ⟨c1, c2⟩ := pst_ch h hs r
    exact ih _ c1 c2 r
theorem den_low (h : pst M S) {n : Int} (hn : S n) (r : Int → Int) : den M n (updI r (M 6 n) 0) = den M (M 7 n) r := by
  obtain ⟨-, -, -, a, b⟩ := h.2.1 n hn
  rw [den_n h hn, updI_s, if_pos rfl]
  exact den_ig h a.1 a.2 r
theorem den_high (h : pst M S) {n v : Int} (hn : S n) (hv : ¬ v = 0) (r : Int → Int) : den M n (updI r (M 6 n) v) = den M (M 8 n) r := by
  obtain ⟨-, -, -, a, b⟩ := h.2.1 n hn
  rw [den_n h hn, updI_s, if_neg hv]
  exact den_ig h b.1 b.2 r
/-- canonicity -/
theorem den_inj (h : pst M S) {x y : Int} (hx : okN S x) (hy : okN S y) (e : den M x = den M y) : x = y := by
  have key : ∀ (k : Nat) (x y : Int), okN S x → okN S y → 8 - (k : Int) ≤ M 6 x → 8 - (k : Int) ≤ M 6 y → den M x = den M y → x = y := by
    intro k
    induction k with
    | zero =>
      intro x y hx hy px py e
      have e0 := congrFun e (fun _ => 0)
      rcases pst_t h hx (by omega) with a | a <;> rcases pst_t h hy (by omega) with b | b
      · rw [a, b]
      · rw [a, b, den_0, den_1] at e0; cases e0
      · rw [a, b, den_0, den_1] at e0; cases e0
      · rw [a, b]
    | succ k ih =>
      intro x y hx hy px py e
      have side : ∀ (x y : Int), okN S x → okN S y → 8 - ((k + 1 : Nat) : Int) ≤ M 6 y → M 6 x = 7 - (k : Int) → den M x = den M y → M 6 y = 7 - (k : Int) := by
        intro x y hx hy py q e
        by_cases q2 : M 6 y = 7 - (k : Int)
        · exact q2
        · exfalso
          have hs : S x := by
            rcases hx with a | a | a
            · rw [a, h.1.1] at q; omega
            · rw [a, h.1.2] at q; omega
            · exact a
          obtain ⟨-, -, ne, a, b⟩ := h.2.1 x hs
          refine ne (ih _ _ a.1 b.1 (by omega) (by omega) ?_)
          funext r
          rw [← den_low h hs r, ← den_high h hs (v := 1) (by decide) r, e, den_ig h hy (by omega), den_ig h hy (by omega)]
      by_cases q : M 6 x = 7 - (k : Int)
      · have q2 := side x y hx hy py q e
        have hsx : S x := by
          rcases hx with a | a | a
          · rw [a, h.1.1] at q; omega
          · rw [a, h.1.2] at q; omega
          · exact a
        have hsy : S y := by
          rcases hy with a | a | a
          · rw [a, h.1.1] at q2; omega
          · rw [a, h.1.2] at q2; omega
          · exact a
        obtain ⟨-, -, -, a, b⟩ := h.2.1 x hsx
        obtain ⟨-, -, -, a', b'⟩ := h.2.1 y hsy
        refine h.2.2 x y hsx hsy (by omega) (ih _ _ a.1 a'.1 (by omega) (by omega) ?_) (ih _ _ b.1 b'.1 (by omega) (by omega) ?_)
        · funext r
          rw [← den_low h hsx r, ← den_low h hsy r, e, q, q2]
        · funext r
          rw [← den_high h hsx (v := 1) (by decide) r, ← den_high h hsy (v := 1) (by decide) r, e, q, q2]
      · by_cases q2 : M 6 y = 7 - (k : Int)
        · exact absurd (side y x hy hx px q2 e.symm) q
        · exact ih x y hx hy (by omega) (by omega) e
  have a := pst_pl h hx
  have b := pst_pl h hy
  exact key 8 x y hx hy (by omega) (by omega) e
def lab (M : zM) (n : Int) : Lb := (M 6 n, den M n)
theorem lab_inj (h : pst M S) {n m : Int} (hn : S n) (hm : S m) (e : lab M n = lab M m) : n = m := den_inj h (Or.inr (Or.inr hn)) (Or.inr (Or.inr hm)) (congrArg Prod.snd e)
theorem den_mix (h : pst M S) {n d : Int} {s : Int → Int} (hn : okN S n) (hd : d ≤ M 6 n) : (fun r => den M n (mix d s r)) = den M n := by
  funext r
  exact den_ag h hn (fun k hk => by rw [mix_ge (by omega)])
/-- a node is a part of itself -/
theorem laid_self (h : pst M S) {n : Int} (hn : S n) : laid (den M n) (lab M n) := by
  obtain ⟨-, p, ne, a, b⟩ := h.2.1 n hn
  refine ⟨p, ⟨fun _ => 0, (den_mix h (Or.inr (Or.inr hn)) (Int.le_refl _)).symm⟩, ?_⟩
  by_cases q : ∃ r : Int → Int, ¬ den M n (updI r (M 6 n) 0) = den M n (updI r (M 6 n) 1)
  · exact q
  · exfalso
    refine ne (den_inj h a.1 b.1 ?_)
    funext r
    by_cases z : den M (M 7 n) r = den M (M 8 n) r
    · exact z
    · exfalso
      refine q ⟨r, ?_⟩
      rw [den_low h hn, den_high h hn (by decide)]
      exact z
/-- a laid part of a node's function is at or below its place -/
theorem laid_pl (h : pst M S) {n : Int} {y : Lb} (hn : okN S n) (hy : laid (den M n) y) : M 6 n ≤ y.1 := by
  obtain ⟨-, ⟨s, e⟩, r, q⟩ := hy
  by_cases z : M 6 n ≤ y.1
  · exact z
  · exfalso
    rw [den_mix h hn (by omega)] at e
    rw [e, den_ig h hn (by omega), den_ig h hn (by omega)] at q
    exact q rfl
/-- in a set that is closed, all laid parts of its nodes have their nodes -/
theorem laid_in (h : pst M S) {C : Int → Prop} (hC : ∀ n : Int, C n → S n ∧ okN C (M 7 n) ∧ okN C (M 8 n)) {x : Int} {y : Lb} (hx : okN C x) (hy : laid (den M x) y) : ∃ n : Int, C n ∧ lab M n = y := by
  have hCS : ∀ {n : Int}, okN C n → okN S n := fun {n} q => by
    rcases q with q | q | q
    · exact Or.inl q
    · exact Or.inr (Or.inl q)
    · exact Or.inr (Or.inr (hC n q).1)
  have key : ∀ x : Int, okN S x → okN C x → laid (den M x) y → ∃ n : Int, C n ∧ lab M n = y := by
    refine pst_ind h ?_
    intro x hs ih hc hl
    have hpl := laid_pl h hs hl
    obtain ⟨yb, ⟨s, e⟩, r, q⟩ := hl
    rcases pst_2 h hs with t | hS
    · have := pst_pl h hs
      rcases hs with z | z | z
      · rw [z, h.1.1] at hpl; omega
      · rw [z, h.1.2] at hpl; omega
      · have := (h.2.1 x z).1; omega
    · have hcx : C x := by
        have := (h.2.1 x hS).1
        rcases hc with z | z | z
        · omega
        · omega
        · exact z
      by_cases z : y.1 = M 6 x
      · refine ⟨x, hcx, ?_⟩
        unfold lab
        rw [← z]
        have w := den_mix h hs (d := y.1) (s := s) (by omega)
        rw [w] at e
        rw [← e]
      · have hlt : M 6 x < y.1 := by omega
        obtain ⟨c1, c2⟩ := pst_ch h hS s
        have hcc : okN C (if s (M 6 x) = 0 then M 7 x else M 8 x) := by
          by_cases w : s (M 6 x) = 0
          · rw [if_pos w]; exact (hC x hcx).2.1
          · rw [if_neg w]; exact (hC x hcx).2.2
        refine ih _ c1 c2 hcc ⟨yb, ⟨s, ?_⟩, r, q⟩
        rw [e]
        funext r'
        rw [den_n h hS, mix_lt hlt]
  exact key x (hCS hx) hx hy
/-- parts of a child are parts of the node -/
theorem laid_sub (h : pst M S) {x c : Int} {y : Lb} (hx : S x) (hc : c = M 7 x ∨ c = M 8 x) (hy : laid (den M c) y) : laid (den M x) y := by
  obtain ⟨-, p, -, a, b⟩ := h.2.1 x hx
  have hok : okN S c ∧ M 6 x < M 6 c := by
    rcases hc with e | e
    · rw [e]; exact a
    · rw [e]; exact b
  have hpl := laid_pl h hok.1 hy
  obtain ⟨yb, ⟨s, e⟩, hq⟩ := hy
  have side : ∀ v : Int, (if v = 0 then M 7 x else M 8 x) = c → y.2 = fun r => den M x (mix y.1 (updI s (M 6 x) v) r) := by
    intro v hv
    rw [e]
    funext r
    rw [den_n h hx, mix_lt (by omega), updI_s, hv]
    refine den_ag h hok.1 (fun k hk => ?_)
    by_cases q : k < y.1
    · rw [mix_lt q, mix_lt q, updI_n (by omega)]
    · rw [mix_ge (by omega), mix_ge (by omega)]
  rcases hc with q | q
  · exact ⟨yb, ⟨_, side 0 (by rw [if_pos rfl]; exact q.symm)⟩, hq⟩
  · exact ⟨yb, ⟨_, side 1 (by rw [if_neg (by decide)]; exact q.symm)⟩, hq⟩
/-- memories alike on S -/
def agr (M M' : zM) (S : Int → Prop) : Prop := (M' 6 0 = M 6 0 ∧ M' 6 1 = M 6 1) ∧ ∀ n : Int, S n → M' 6 n = M 6 n ∧ M' 7 n = M 7 n ∧ M' 8 n = M 8 n
theorem agr_pl {M' : zM} (h : agr M M' S) {n : Int} (hn : okN S n) : M' 6 n = M 6 n := by
  rcases hn with e | e | e
  · rw [e]; exact h.1.1
  · rw [e]; exact h.1.2
  · exact (h.2 n e).1
theorem dn_agr {M' : zM} (h : pst M S) (ha : agr M M' S) : ∀ (k : Nat) (n : Int), okN S n → dn M' k n = dn M k n
  | 0, n, _ => rfl
  | k + 1, n, hn => by
    funext r
    rcases pst_2 h hn with q | hs
    · rw [dn_lt q, dn_lt q]
    · have h2 := (h.2.1 n hs).1
      obtain ⟨c1, -⟩ := pst_ch h hs r
      obtain ⟨e6, e7, e8⟩ := ha.2 n hs
      show (if n < 2 then _ else dn M' k (if r (M' 6 n) = 0 then M' 7 n else M' 8 n) r) = (if n < 2 then _ else dn M k (if r (M 6 n) = 0 then M 7 n else M 8 n) r)
      rw [if_neg (show ¬ n < 2 by omega), if_neg (show ¬ n < 2 by omega), e6, e7, e8, dn_agr h ha k _ c1]
theorem den_agr {M' : zM} (h : pst M S) (ha : agr M M' S) {n : Int} (hn : okN S n) : den M' n = den M n := dn_agr h ha 8 n hn
theorem lab_agr {M' : zM} (h : pst M S) (ha : agr M M' S) {n : Int} (hn : S n) : lab M' n = lab M n := by
  unfold lab
  rw [(ha.2 n hn).1, den_agr h ha (Or.inr (Or.inr hn))]
theorem pst_agr {M' : zM} (h : pst M S) (ha : agr M M' S) : pst M' S := by
  refine ⟨⟨ha.1.1.trans h.1.1, ha.1.2.trans h.1.2⟩, fun n hn => ?_, fun n m hn hm a b c => ?_⟩
  · obtain ⟨h1, h2, h3, h4, h5⟩ := h.2.1 n hn
    obtain ⟨e6, e7, e8⟩ := ha.2 n hn
    rw [e6, e7, e8, agr_pl ha h4.1, agr_pl ha h5.1]
    exact ⟨h1, h2, h3, h4, h5⟩
  · rw [(ha.2 n hn).1, (ha.2 m hm).1] at a
    rw [(ha.2 n hn).2.1, (ha.2 m hm).2.1] at b
    rw [(ha.2 n hn).2.2, (ha.2 m hm).2.2] at c
    exact h.2.2 n m hn hm a b c
end PST
theorem okN_mono {S C : Int → Prop} (h : ∀ n, C n → S n) {n : Int} (hn : okN C n) : okN S n := by
  rcases hn with e | e | e
  · exact Or.inl e
  · exact Or.inr (Or.inl e)
  · exact Or.inr (Or.inr (h n e))
/-- fewer nodes, closed -/
theorem pst_less {M : zM} {S C : Int → Prop} (h : pst M S) (hC : ∀ n : Int, C n → S n ∧ okN C (M 7 n) ∧ okN C (M 8 n)) : pst M C := by
  refine ⟨h.1, fun n hn => ?_, fun n m hn hm => h.2.2 n m (hC n hn).1 (hC m hm).1⟩
  obtain ⟨h1, h2, h3, h4, h5⟩ := h.2.1 n (hC n hn).1
  exact ⟨h1, h2, h3, ⟨(hC n hn).2.1, h4.2⟩, (hC n hn).2.2, h5.2⟩
