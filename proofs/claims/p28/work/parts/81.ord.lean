/-! ===== the order: how gates are gone into ===== -/
/-- seen, place of a variable, variable at a place, how many were met -/
abbrev oS := (Int → Int) × (Int → Int) × (Int → Int) × Int
def mt (v : Int) (s : oS) : oS := if s.2.1 v = -1 then (s.1, updI s.2.1 v s.2.2.2, updI s.2.2.1 s.2.2.2 v, s.2.2.2 + 1) else s
def ent (kd : Int → Int) (od : Int → Int → Int) (g : Int) (s : oS) : oS := if kd g = 0 then mt (od g 0) (updI s.1 g 1, s.2) else (updI s.1 g 1, s.2)
/-- n operands from c on -/
def vr (f : Int → oS → oS) (od : Int → Int) : Nat → Int → oS → oS
  | 0, _, s => s
  | n + 1, c, s => vr f od n (c + 1) (f (od c) s)
def vs (kd : Int → Int) (od : Int → Int → Int) : Nat → Int → oS → oS
  | 0, _, s => s
  | n + 1, g, s => if s.1 g = 0 then vr (vs kd od n) (od g) (opF (kd g)).toNat 0 (ent kd od g s) else s
/-- gate g is gone into -/
def vG (kd : Int → Int) (od : Int → Int → Int) (g : Int) : oS → oS := vs kd od (g.toNat + 1) g
theorem vr_cg {f f' : Int → oS → oS} {od : Int → Int} : ∀ {n : Nat} {c : Int} {s : oS}, (∀ i : Int, c ≤ i → i < c + n → ∀ s, f (od i) s = f' (od i) s) → vr f od n c s = vr f' od n c s
  | 0, _, _, _ => rfl
  | n + 1, c, s, h => by
    show vr f od n (c + 1) (f (od c) s) = vr f' od n (c + 1) (f' (od c) s)
    rw [h c (by omega) (by omega) s]
    exact vr_cg (fun i a b => h i (by omega) (by omega))
theorem vr_sn {f : Int → oS → oS} {od : Int → Int} : ∀ {n : Nat} {c : Int} {s : oS}, vr f od (n + 1) c s = f (od (c + n)) (vr f od n c s)
  | 0, c, s => by
    show f (od c) s = f (od (c + ((0 : Nat) : Int))) s
    rw [show c + ((0 : Nat) : Int) = c by omega]
  | n + 1, c, s => by
    show vr f od (n + 1) (c + 1) (f (od c) s) = f (od (c + ((n + 1 : Nat) : Int))) (vr f od n (c + 1) (f (od c) s))
    rw [vr_sn (n := n) (c := c + 1), show c + 1 + (n : Int) = c + ((n + 1 : Nat) : Int) by omega]
theorem vs_fuel {kd : Int → Int} {od : Int → Int → Int} {m : Int} (hb : odB kd od m) : ∀ (n n' : Nat) (g : Int) (s : oS), 0 ≤ g → g < m → g < n → g < n' → vs kd od n g s = vs kd od n' g s := by
  intro n
  induction n with
  | zero => intro n' g s a b c d; omega
  | succ n ih =>
    intro n' g s a b c d
    cases n' with
    | zero => omega
    | succ n' =>
      show (if s.1 g = 0 then vr (vs kd od n) (od g) (opF (kd g)).toNat 0 (ent kd od g s) else s) = (if s.1 g = 0 then vr (vs kd od n') (od g) (opF (kd g)).toNat 0 (ent kd od g s) else s)
      by_cases q : s.1 g = 0
      · rw [if_pos q, if_pos q]
        have := opF_in (kd g)
        refine vr_cg (fun i i0 i1 t => ?_)
        have z := hb g a b i (by omega) (by omega)
        exact ih n' _ t z.1 (by omega) (by omega) (by omega)
      · rw [if_neg q, if_neg q]
theorem vG_eq {kd : Int → Int} {od : Int → Int → Int} {m : Int} (hb : odB kd od m) {g : Int} (g0 : 0 ≤ g) (g1 : g < m) (s : oS) : vG kd od g s = if s.1 g = 0 then vr (vG kd od) (od g) (opF (kd g)).toNat 0 (ent kd od g s) else s := by
  show (if s.1 g = 0 then vr (vs kd od g.toNat) (od g) (opF (kd g)).toNat 0 (ent kd od g s) else s) = _
  by_cases q : s.1 g = 0
  · rw [if_pos q, if_pos q]
    have := opF_in (kd g)
    refine vr_cg (fun i i0 i1 t => ?_)
    have z := hb g g0 g1 i (by omega) (by omega)
    exact vs_fuel hb _ _ _ t z.1 (by omega) (by omega) (by omega)
  · rw [if_neg q, if_neg q]
/-- what is on the pile is gone through to its end -/
def cmpl (kd : Int → Int) (od : Int → Int → Int) (pg pc : Int → Int) : Nat → oS → oS
  | 0, s => s
  | p + 1, s => cmpl kd od pg pc p (vr (vG kd od) (od (pg (p : Int))) (opF (kd (pg (p : Int))) - pc (p : Int)).toNat (pc (p : Int)) s)
theorem cmpl_cg {kd : Int → Int} {od : Int → Int → Int} {pg pg' pc pc' : Int → Int} : ∀ {p : Nat} {s : oS}, (∀ j : Int, 0 ≤ j → j < p → pg' j = pg j ∧ pc' j = pc j) → cmpl kd od pg' pc' p s = cmpl kd od pg pc p s
  | 0, _, _ => rfl
  | p + 1, s, h => by
    have e := h (p : Int) (by omega) (by omega)
    show cmpl kd od pg' pc' p (vr _ (od (pg' (p : Int))) (opF (kd (pg' (p : Int))) - pc' (p : Int)).toNat (pc' (p : Int)) s) = _
    rw [e.1, e.2]
    exact cmpl_cg (fun j a b => h j a (by omega))
theorem cmpl_pop {kd : Int → Int} {od : Int → Int → Int} {pg pc : Int → Int} {p : Nat} {s : oS} (h : opF (kd (pg (p : Int))) ≤ pc (p : Int)) : cmpl kd od pg pc (p + 1) s = cmpl kd od pg pc p s := by
  show cmpl kd od pg pc p (vr _ _ (opF (kd (pg (p : Int))) - pc (p : Int)).toNat _ s) = _
  rw [show (opF (kd (pg (p : Int))) - pc (p : Int)).toNat = 0 by omega]
  rfl
theorem cmpl_ch {kd : Int → Int} {od : Int → Int → Int} {pg pc : Int → Int} {p : Nat} {s : oS} (h : pc (p : Int) < opF (kd (pg (p : Int)))) : cmpl kd od pg pc (p + 1) s = cmpl kd od pg (updI pc (p : Int) (pc (p : Int) + 1)) (p + 1) (vG kd od (od (pg (p : Int)) (pc (p : Int))) s) := by
  show cmpl kd od pg pc p (vr _ _ (opF (kd (pg (p : Int))) - pc (p : Int)).toNat _ s) = cmpl kd od pg (updI pc (p : Int) (pc (p : Int) + 1)) p (vr _ _ (opF (kd (pg (p : Int))) - updI pc (p : Int) (pc (p : Int) + 1) (p : Int)).toNat (updI pc (p : Int) (pc (p : Int) + 1) (p : Int)) _)
  rw [updI_s, cmpl_cg (pc' := updI pc (p : Int) (pc (p : Int) + 1)) (pg' := pg) (pg := pg) (pc := pc) (fun j a b => ⟨rfl, updI_n (by omega)⟩), show (opF (kd (pg (p : Int))) - pc (p : Int)).toNat = (opF (kd (pg (p : Int))) - (pc (p : Int) + 1)).toNat + 1 by omega]
  rfl
theorem cmpl_go {kd : Int → Int} {od : Int → Int → Int} {pg pc : Int → Int} {p : Nat} {s : oS} {m x : Int} (hb : odB kd od m) (x0 : 0 ≤ x) (x1 : x < m) (h : s.1 x = 0) : cmpl kd od (updI pg (p : Int) x) (updI pc (p : Int) 0) (p + 1) (ent kd od x s) = cmpl kd od pg pc p (vG kd od x s) := by
  show cmpl kd od (updI pg (p : Int) x) (updI pc (p : Int) 0) p (vr _ (od (updI pg (p : Int) x (p : Int))) (opF (kd (updI pg (p : Int) x (p : Int))) - updI pc (p : Int) 0 (p : Int)).toNat (updI pc (p : Int) 0 (p : Int)) _) = _
  rw [updI_s, updI_s, cmpl_cg (pg' := updI pg (p : Int) x) (pc' := updI pc (p : Int) 0) (pg := pg) (pc := pc) (fun j a b => ⟨updI_n (by omega), updI_n (by omega)⟩), vG_eq hb x0 x1 s, if_pos h, Int.sub_zero]
theorem vG_seen {kd : Int → Int} {od : Int → Int → Int} {x : Int} {s : oS} (h : ¬ s.1 x = 0) : vG kd od x s = s := if_neg h
/-- an array on 0 .. n - 1 alone -/
def rs (n : Int) (f : Int → Int) : Int → Int := fun j => if 0 ≤ j ∧ j < n then f j else 0
theorem rs_in {n j : Int} {f : Int → Int} (h0 : 0 ≤ j) (h1 : j < n) : rs n f j = f j := if_pos ⟨h0, h1⟩
theorem rs_up {n j v : Int} {f : Int → Int} (h0 : 0 ≤ j) (h1 : j < n) : rs n (updI f j v) = updI (rs n f) j v := by
  funext k
  unfold rs updI
  by_cases e : k = j
  · rw [if_pos (show 0 ≤ k ∧ k < n by omega), if_pos e, if_pos e]
  · by_cases q : 0 ≤ k ∧ k < n
    · rw [if_pos q, if_neg e, if_neg e]; exact (if_pos q).symm
    · rw [if_neg q, if_neg e]; exact (if_neg q).symm
theorem rs_cg {n : Int} {f f' : Int → Int} (h : ∀ j : Int, 0 ≤ j → j < n → f' j = f j) : rs n f' = rs n f := by
  funext k
  unfold rs
  by_cases q : 0 ≤ k ∧ k < n
  · rw [if_pos q, if_pos q, h k q.1 q.2]
  · rw [if_neg q, if_neg q]
