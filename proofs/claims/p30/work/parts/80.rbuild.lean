section
/-! ===== the reference: build ===== -/
theorem okR_cg {M M0 : zM} {J : zJ} {E : Lb → Prop} {F : FN} (e43 : M0 43 = M 43) (e8 : M0 31 8 = M 31 8) : okR M0 J E F ↔ okR M J E F := by
  unfold okR
  rw [e8, over_cg (fun y => or_congr (or_congr (lbr_c e43 y) Iff.rfl) Iff.rfl)]
theorem okBr_cg {M M0 : zM} {J : zJ} {F : Int → FN} {L : Int → Int} {g : Int} (e43 : M0 43 = M 43) (e8 : M0 31 8 = M 31 8) : okBr M0 J F L g ↔ okBr M J F L g := by
  unfold okBr
  constructor
  · intro h k a b c
    exact (okR_cg e43 e8).mp (h k a b c)
  · intro h k a b c
    exact (okR_cg e43 e8).mpr (h k a b c)
def brX (M : zM) (J : zJ) (h : Int) (kd : Int → Int) (od : Int → Int → Int) (pl : Int → Int) (g x : Int) (M' : zM) (J' : zJ) : Prop := ∃ L : Int → Int, lnS kd od g L ∧ finR M J h (okBr M J (gF kd od pl) L g) (gF kd od pl g) x M' J'
set_option maxRecDepth 20000 in
theorem zX4_build_g {G : tl_G} {M : zM} {J : zJ} {h net o : Int} (hr : RI M J) (hk : M 31 27 ≤ 2000000000) (hW : whOK J) : ZN G yX4_build mX4_build 6 kRg [vR 31, vI h, vI net, vI o] F1 M J (qI (fun x M' J' => RI M' J' ∧ M' 31 27 ≤ M 31 27 + 400 ∧ (((h < 0 ∨ 12 ≤ h ∨ net < 0 ∨ 3 ≤ net ∨ o < 0 ∨ M 33 net ≤ o) ∧ x = -1 ∧ M' = M ∧ J' = J) ∨ (¬ (h < 0 ∨ 12 ≤ h ∨ net < 0 ∨ 3 ≤ net ∨ o < 0 ∨ M 33 net ≤ o) ∧ brX M J h (fun k => M 34 (40 * net + k)) (fun k c => M 35 (3 * (40 * net + k) + c)) (M 39) (M 36 (4 * net + o)) x M' J')))) := by
  refine ZN_of (L := [_, _, _, _, _]) (by decide) rfl rfl (Nat.le_of_ble_eq_true rfl) rfl (fun hav => ?_)
  refine Z_ok (fun ok0 => ?_)
  refine Z_rg 33 net rfl (fun g33 g33b => ?_)
  refine Z_iload_n (n := 1) dX4_build_0 rfl rfl ?_
  refine Z_callSi (n := 4) [_] _ dX4_build_1 rfl cwX4_210 rfl rfl (Nat.le_of_ble_eq_true rfl) (by refine ⟨?_, ?_, ?_, ?_⟩ <;> exact Nat.le_of_ble_eq_true rfl) (fun _ _ => trivial) (zX4_isHandle  ) ?_
  intro x1 M1 J1 z1 f1 q1
  obtain ⟨e1_1, e1_2, h1⟩ := q1
  replace e1_1 := e1_1.symm; subst e1_1
  replace e1_2 := e1_2.symm; subst e1_2
  refine Z_if_eq (n := 7) (t := 16) dX4_build_4 rfl (by decide) (fun c4 => ?_) (fun c4 => ?_)
  · refine Z_iconst (n := 17) dX4_build_16 rfl (by decide) ?_
    refine Z_iret dX4_build_17 rfl ?_
    exact ⟨hr, by omega, Or.inl ⟨by omega, rfl, rfl, rfl⟩⟩
  · refine Z_aload_n (n := 8) dX4_build_7 rfl rfl ?_
    refine Z_iload_n (n := 9) dX4_build_8 rfl rfl ?_
    refine Z_iload_n (n := 10) dX4_build_9 rfl rfl ?_
    refine Z_callVi (n := 13) [_, _] _ dX4_build_10 rfl cwX4_128 rfl rfl rfl (Nat.le_of_ble_eq_true rfl) (by refine ⟨?_, ?_, ?_, ?_⟩ <;> exact Nat.le_of_ble_eq_true rfl) (fun _ _ => trivial) (zX4_isOutput  ) ?_
    intro x10 M10 J10 z10 f10 q10
    obtain ⟨e10_1, e10_2, h10⟩ := q10
    replace e10_1 := e10_1.symm; subst e10_1
    replace e10_2 := e10_2.symm; subst e10_2
    refine Z_if_ne (n := 16) (t := 18) dX4_build_13 rfl (by decide) (fun c13 => ?_) (fun c13 => ?_)
    · refine Z_aload_n (n := 19) dX4_build_18 rfl rfl ?_
      refine Z_callVv (n := 22) [] _ dX4_build_19 rfl cwX4_213 rfl rfl rfl (Nat.le_of_ble_eq_true rfl) (by refine ⟨?_, ?_, ?_, ?_⟩ <;> exact Nat.le_of_ble_eq_true rfl) (fun _ h => h) (zX4_begin  (by decide)) ?_
      intro M19 J19 f19 q19
      obtain ⟨e19_1, e19_2⟩ := q19
      replace e19_1 := e19_1.symm; subst e19_1
      replace e19_2 := e19_2.symm; subst e19_2
      obtain ⟨tb, hb, ub, mb, db, ob⟩ := begin_ok hr
      refine Z_nm (fun M19 e19 => ?_)
      rw [← e19] at tb hb ub mb db ob
      have oB : ∀ a : Nat, ¬ a = 31 → M19 a = M a := fun a ha => by rw [e19]; exact uz_o ha
      have e8 : M19 31 8 = M 31 8 := by rw [e19]; exact uz_n (by decide)
      clear e19
      refine Z_rg 31 8 rfl (fun gb8 gb8b => ?_)
      refine Z_fr (fun frB => ?_)
      refine Z_aload_n (n := 23) dX4_build_22 rfl rfl ?_
      refine Z_getA (n := 26) dX4_build_23 rfl ffX4_22 rfl rfl ?_
      refine Z_iconst (n := 27) dX4_build_26 rfl (by decide) ?_
      refine Z_iload_n (n := 28) dX4_build_27 rfl rfl ?_
      refine Z_imul (n := 29) dX4_build_28 rfl (by omega) ?_
      refine Z_iload_n (n := 30) dX4_build_29 rfl rfl ?_
      refine Z_iadd (n := 31) dX4_build_30 rfl (by omega) ?_
      refine Z_iald (n := 32) dX4_build_31 rfl rfl rfl (by first | decide | assumption) (by omega) (by omega) (fun r31 s31 => ?_)
      refine Z_istore (L' := [_, _, _, _, _]) (n := 34) dX4_build_32 rfl (by decide) rfl rfl ?_
      refine Z_aload_n (n := 35) dX4_build_34 rfl rfl ?_
      refine Z_iload_n (n := 36) dX4_build_35 rfl rfl ?_
      refine Z_bipush (n := 38) dX4_build_36 rfl (by decide) (by decide) ?_
      refine Z_iload (n := 40) dX4_build_38 rfl rfl ?_
      refine Z_iadd (n := 41) dX4_build_40 rfl (by omega) ?_
      refine Z_aload_n (n := 42) dX4_build_41 rfl rfl ?_
      refine Z_iload_n (n := 43) dX4_build_42 rfl rfl ?_
      refine Z_iload (n := 45) dX4_build_43 rfl rfl ?_
      have hNb : rNt M19 net := rNt_fr (hr.2.2.2.2 net (by omega) (by omega)) (frB 32 (by decide)).1 (frB 33 (by decide)).1 (frB 34 (by decide)).1 (frB 35 (by decide)).1 (frB 36 (by decide)).1
      have e33 : M19 33 net = M 33 net := congrFun (frB 33 (by decide)).1 net
      have hg1 := hNb.2 o (by omega) (by omega)
      refine Z_rg 32 net rfl (fun g32 g32b => ?_)
      refine Z_callVi (n := 48) [_, _] _ dX4_build_45 rfl cwX4_216 rfl rfl rfl (Nat.le_of_ble_eq_true rfl) (by refine ⟨?_, ?_, ?_, ?_⟩ <;> exact Nat.le_of_ble_eq_true rfl) (fun _ h => h) (zX4_builds_g  (by omega) (by omega) (by omega) (by exact hg1) (by exact hNb) (by exact tb) (by exact fun y a b => hb (12 + y) (by omega) (by omega)) (by exact ub) (by omega) (by exact hW) (by exact ob)) ?_
      intro x45 M45 J45 z45 f45 q45
      obtain ⟨ti45, hd45, mk45, hi45, bi45, bx45, rb45⟩ := q45
      have e36 : M19 36 (4 * net + o) = (M 36 (4 * net + o)) := congrFun (frB 36 (by decide)).1 _
      rw [(frB 34 (by decide)).1, (frB 35 (by decide)).1, (frB 39 (by decide)).1, e36] at rb45
      obtain ⟨L, ls45, rq45⟩ := rb45
      have yo : (x45 = 1 ∧ okBr M J (gF (fun k => M 34 (40 * net + k)) (fun k c => M 35 (3 * (40 * net + k) + c)) (M 39)) L (M 36 (4 * net + o)) ∧ phi J45 (12 + M19 36 (4 * net + o)) = gF (fun k => M 34 (40 * net + k)) (fun k c => M 35 (3 * (40 * net + k) + c)) (M 39) (M 36 (4 * net + o))) ∨ (x45 = 0 ∧ ¬ okBr M J (gF (fun k => M 34 (40 * net + k)) (fun k c => M 35 (3 * (40 * net + k) + c)) (M 39)) L (M 36 (4 * net + o))) := by
        rw [e36]
        rw [okBr_cg (oB 43 (by decide)) e8] at rq45
        exact rq45
      refine Z_rg 31 8 rfl (fun gs8 gs8b => ?_)
      have hq45 : x45 = 1 → ¬ M45 43 (12 + M19 36 (4 * net + o)) = 0 ∧ M45 31 24 ≤ 250 := fun q => by
        rcases bx45 with ⟨-, a, b, -⟩ | a
        · exact ⟨b, by omega⟩
        · omega
      have hy45 : x45 = 0 ∨ x45 = 1 := by
        rcases bx45 with ⟨a, -⟩ | a
        · exact Or.inr a
        · exact Or.inl a
      have hw45 : x45 = 1 → M45 31 24 ≤ M45 31 8 := fun q => by
        rcases bx45 with ⟨-, a, -⟩ | a
        · exact a
        · omega
      clear bx45
      refine Z_callVi (n := 51) [_, _, _] _ dX4_build_48 rfl cwX4_219 rfl rfl rfl (Nat.le_of_ble_eq_true rfl) (by refine ⟨?_, ?_, ?_, ?_⟩ <;> exact Nat.le_of_ble_eq_true rfl) (fun a h => by unfold kRg at h; unfold kTk; omega) (zX4_gets  (by omega) (by omega) (by omega) (by omega) (by omega) (by exact ti45) (by exact fun q => hq45 q) (by omega)) ?_
      intro x48 M48 J48 z48 f48 q48
      obtain ⟨ti48, hn48, am48, gx48⟩ := q48
      refine Z_fr (fun frR => ?_)
      refine Z_ok (fun okG => ?_)
      have fq := fin_r (F := gF (fun k => M 34 (40 * net + k)) (fun k c => M 35 (3 * (40 * net + k) + c)) (M 39) (M 36 (4 * net + o))) (by omega) (by omega) (hdl_t db hd45) (fun j hj => bi45 j (Or.inl hj)) yo ti48 okG gx48
      refine Z_iret dX4_build_51 rfl ?_
      exact ⟨RI_gets hr ok0 (hdl_t db hd45) hw45 frR ti48 hn48 gx48, by omega, Or.inr ⟨by omega, L, ls45, fq⟩⟩
    · refine Z_iconst (n := 17) dX4_build_16 rfl (by decide) ?_
      refine Z_iret dX4_build_17 rfl ?_
      exact ⟨hr, by omega, Or.inl ⟨by omega, rfl, rfl, rfl⟩⟩
end
section
/-! ===== the order: how gates are gone into ===== -/
/-- seen, place of a variable, variable at a place, how many were met -/
abbrev oS := (Int → Int) × (Int → Int) × (Int → Int) × Int
def mt (v : Int) (s : oS) : oS := if s.2.1 v = -1 then (s.1, updI s.2.1 v s.2.2.2, updI s.2.2.1 s.2.2.2 v, s.2.2.2 + 1) else s
def ent (kd : Int → Int) (od : Int → Int → Int) (g : Int) (s : oS) : oS := if kd g = 0 then mt (od g 0) (updI s.1 g 1, s.2) else (updI s.1 g 1, s.2)
/-- n operands from c on -/
def vr (f : Int → oS → oS) (od : Int → Int) : Nat → Int → oS → oS
  | 0, _, s => s
  | n + 1, c, s => vr f od n (c + 1) (f (od c) s)
def vs (kd : Int → Int) (od : Int → Int → Int) : Nat → Int → oS → oS
  | 0, _, s => s
  | n + 1, g, s => if s.1 g = 0 then vr (vs kd od n) (od g) (opF (kd g)).toNat 0 (ent kd od g s) else s
/-- gate g is gone into -/
def vG (kd : Int → Int) (od : Int → Int → Int) (g : Int) : oS → oS := vs kd od (g.toNat + 1) g
theorem vr_cg {f f' : Int → oS → oS} {od : Int → Int} : ∀ {n : Nat} {c : Int} {s : oS}, (∀ i : Int, c ≤ i → i < c + n → ∀ s, f (od i) s = f' (od i) s) → vr f od n c s = vr f' od n c s
  | 0, _, _, _ => rfl
  | n + 1, c, s, h => by
    show vr f od n (c + 1) (f (od c) s) = vr f' od n (c + 1) (f' (od c) s)
    rw [h c (by omega) (by omega) s]
    exact vr_cg (fun i a b => h i (by omega) (by omega))
theorem vr_sn {f : Int → oS → oS} {od : Int → Int} : ∀ {n : Nat} {c : Int} {s : oS}, vr f od (n + 1) c s = f (od (c + n)) (vr f od n c s)
  | 0, c, s => by
    show f (od c) s = f (od (c + ((0 : Nat) : Int))) s
    rw [show c + ((0 : Nat) : Int) = c by omega]
  | n + 1, c, s => by
    show vr f od (n + 1) (c + 1) (f (od c) s) = f (od (c + ((n + 1 : Nat) : Int))) (vr f od n (c + 1) (f (od c) s))
    rw [vr_sn (n := n) (c := c + 1), show c + 1 + (n : Int) = c + ((n + 1 : Nat) : Int) by omega]
theorem vs_fuel {kd : Int → Int} {od : Int → Int → Int} {m : Int} (hb : odB kd od m) : ∀ (n n' : Nat) (g : Int) (s : oS), 0 ≤ g → g < m → g < n → g < n' → vs kd od n g s = vs kd od n' g s := by
  intro n
  induction n with
  | zero => intro n' g s a b c d; omega
  | succ n ih =>
    intro n' g s a b c d
    cases n' with
    | zero => omega
    | succ n' =>
      show (if s.1 g = 0 then vr (vs kd od n) (od g) (opF (kd g)).toNat 0 (ent kd od g s) else s) = (if s.1 g = 0 then vr (vs kd od n') (od g) (opF (kd g)).toNat 0 (ent kd od g s) else s)
      by_cases q : s.1 g = 0
      · rw [if_pos q, if_pos q]
        have := opF_in (kd g)
        refine vr_cg (fun i i0 i1 t => ?_)
        have z := hb g a b i (by omega) (by omega)
        exact ih n' _ t z.1 (by omega) (by omega) (by omega)
      · rw [if_neg q, if_neg q]
theorem vG_eq {kd : Int → Int} {od : Int → Int → Int} {m : Int} (hb : odB kd od m) {g : Int} (g0 : 0 ≤ g) (g1 : g < m) (s : oS) : vG kd od g s = if s.1 g = 0 then vr (vG kd od) (od g) (opF (kd g)).toNat 0 (ent kd od g s) else s := by
  show (if s.1 g = 0 then vr (vs kd od g.toNat) (od g) (opF (kd g)).toNat 0 (ent kd od g s) else s) = _
  by_cases q : s.1 g = 0
  · rw [if_pos q, if_pos q]
    have := opF_in (kd g)
    refine vr_cg (fun i i0 i1 t => ?_)
    have z := hb g g0 g1 i (by omega) (by omega)
    exact vs_fuel hb _ _ _ t z.1 (by omega) (by omega) (by omega)
  · rw [if_neg q, if_neg q]
/-- what is on the pile is gone through to its end -/
def cmpl (kd : Int → Int) (od : Int → Int → Int) (pg pc : Int → Int) : Nat → oS → oS
  | 0, s => s
  | p + 1, s => cmpl kd od pg pc p (vr (vG kd od) (od (pg (p : Int))) (opF (kd (pg (p : Int))) - pc (p : Int)).toNat (pc (p : Int)) s)
theorem cmpl_cg {kd : Int → Int} {od : Int → Int → Int} {pg pg' pc pc' : Int → Int} : ∀ {p : Nat} {s : oS}, (∀ j : Int, 0 ≤ j → j < p → pg' j = pg j ∧ pc' j = pc j) → cmpl kd od pg' pc' p s = cmpl kd od pg pc p s
  | 0, _, _ => rfl
  | p + 1, s, h => by
    have e := h (p : Int) (by omega) (by omega)
    show cmpl kd od pg' pc' p (vr _ (od (pg' (p : Int))) (opF (kd (pg' (p : Int))) - pc' (p : Int)).toNat (pc' (p : Int)) s) = _
    rw [e.1, e.2]
    exact cmpl_cg (fun j a b => h j a (by omega))
theorem cmpl_pop {kd : Int → Int} {od : Int → Int → Int} {pg pc : Int → Int} {p : Nat} {s : oS} (h : opF (kd (pg (p : Int))) ≤ pc (p : Int)) : cmpl kd od pg pc (p + 1) s = cmpl kd od pg pc p s := by
  show cmpl kd od pg pc p (vr _ _ (opF (kd (pg (p : Int))) - pc (p : Int)).toNat _ s) = _
  rw [show (opF (kd (pg (p : Int))) - pc (p : Int)).toNat = 0 by omega]
  rfl
theorem cmpl_ch {kd : Int → Int} {od : Int → Int → Int} {pg pc : Int → Int} {p : Nat} {s : oS} (h : pc (p : Int) < opF (kd (pg (p : Int)))) : cmpl kd od pg pc (p + 1) s = cmpl kd od pg (updI pc (p : Int) (pc (p : Int) + 1)) (p + 1) (vG kd od (od (pg (p : Int)) (pc (p : Int))) s) := by
  show cmpl kd od pg pc p (vr _ _ (opF (kd (pg (p : Int))) - pc (p : Int)).toNat _ s) = cmpl kd od pg (updI pc (p : Int) (pc (p : Int) + 1)) p (vr _ _ (opF (kd (pg (p : Int))) - updI pc (p : Int) (pc (p : Int) + 1) (p : Int)).toNat (updI pc (p : Int) (pc (p : Int) + 1) (p : Int)) _)
  rw [updI_s, cmpl_cg (pc' := updI pc (p : Int) (pc (p : Int) + 1)) (pg' := pg) (pg := pg) (pc := pc) (fun j a b => ⟨rfl, updI_n (by omega)⟩), show (opF (kd (pg (p : Int))) - pc (p : Int)).toNat = (opF (kd (pg (p : Int))) - (pc (p : Int) + 1)).toNat + 1 by omega]
  rfl
theorem cmpl_go {kd : Int → Int} {od : Int → Int → Int} {pg pc : Int → Int} {p : Nat} {s : oS} {m x : Int} (hb : odB kd od m) (x0 : 0 ≤ x) (x1 : x < m) (h : s.1 x = 0) : cmpl kd od (updI pg (p : Int) x) (updI pc (p : Int) 0) (p + 1) (ent kd od x s) = cmpl kd od pg pc p (vG kd od x s) := by
  show cmpl kd od (updI pg (p : Int) x) (updI pc (p : Int) 0) p (vr _ (od (updI pg (p : Int) x (p : Int))) (opF (kd (updI pg (p : Int) x (p : Int))) - updI pc (p : Int) 0 (p : Int)).toNat (updI pc (p : Int) 0 (p : Int)) _) = _
  rw [updI_s, updI_s, cmpl_cg (pg' := updI pg (p : Int) x) (pc' := updI pc (p : Int) 0) (pg := pg) (pc := pc) (fun j a b => ⟨updI_n (by omega), updI_n (by omega)⟩), vG_eq hb x0 x1 s, if_pos h, Int.sub_zero]
theorem vG_seen {kd : Int → Int} {od : Int → Int → Int} {x : Int} {s : oS} (h : ¬ s.1 x = 0) : vG kd od x s = s := if_neg h
/-- an array on 0 .. n - 1 alone -/
def rs (n : Int) (f : Int → Int) : Int → Int := fun j => if 0 ≤ j ∧ j < n then f j else 0
theorem rs_in {n j : Int} {f : Int → Int} (h0 : 0 ≤ j) (h1 : j < n) : rs n f j = f j := if_pos ⟨h0, h1⟩
theorem rs_up {n j v : Int} {f : Int → Int} (h0 : 0 ≤ j) (h1 : j < n) : rs n (updI f j v) = updI (rs n f) j v := by
  funext k
  unfold rs updI
  by_cases e : k = j
  · rw [if_pos (show 0 ≤ k ∧ k < n by omega), if_pos e, if_pos e]
  · by_cases q : 0 ≤ k ∧ k < n
    · rw [if_pos q, if_neg e, if_neg e]; exact (if_pos q).symm
    · rw [if_neg q, if_neg e]; exact (if_neg q).symm
theorem rs_cg {n : Int} {f f' : Int → Int} (h : ∀ j : Int, 0 ≤ j → j < n → f' j = f j) : rs n f' = rs n f := by
  funext k
  unfold rs
  by_cases q : 0 ≤ k ∧ k < n
  · rw [if_pos q, if_pos q, h k q.1 q.2]
  · rw [if_neg q, if_neg q]
end
section
/-! ===== the class: readers that mark, equal ===== -/
set_option maxRecDepth 20000 in
theorem zX3_nodes_k {G : tl_G} {M : zM} {J : zJ} {f : Int} (hc : cI M) : ZN G yX3_nodes mX3_nodes 11 kMarks [vR 0, vI f] F1 M J (qI (fun x M' J' => J' = J)) := by
  refine ZN_of (L := [_, _]) (by decide) rfl rfl (Nat.le_of_ble_eq_true rfl) rfl (fun hav => ?_)
  refine Z_aload_n (n := 1) dX3_nodes_0 rfl rfl ?_
  refine Z_iload_n (n := 2) dX3_nodes_1 rfl rfl ?_
  refine Z_callVi (n := 5) [_] _ dX3_nodes_2 rfl cwX3_139 rfl rfl (by first | rfl | exact nS0 (nA_at (by omega) (by omega))) (Nat.le_of_ble_eq_true rfl) (by refine ⟨?_, ?_, ?_, ?_⟩ <;> exact Nat.le_of_ble_eq_true rfl) (fun _ _ => trivial) (zX3_hasFunction  ) ?_
  intro x2 M2 J2 z2 f2 q2
  obtain ⟨e2_1, e2_2, h2⟩ := q2
  replace e2_1 := e2_1.symm; subst e2_1
  replace e2_2 := e2_2.symm; subst e2_2
  refine Z_if_ne (n := 8) (t := 10) dX3_nodes_5 rfl (by decide) (fun c5 => ?_) (fun c5 => ?_)
  · refine Z_aload_n (n := 11) dX3_nodes_10 rfl rfl ?_
    refine Z_getO (n := 14) dX3_nodes_11 rfl ffX3_25 (by first | rfl | exact nS0 (nA_at (by omega) (by omega))) (by first | rfl | exact nS0 (nA_at (by omega) (by omega))) ?_
    refine Z_aload_n (n := 15) dX3_nodes_14 rfl rfl ?_
    refine Z_getA (n := 18) dX3_nodes_15 rfl ffX3_29 (by first | rfl | exact nS0 (nA_at (by omega) (by omega))) (by first | rfl | exact nS0 (nA_at (by omega) (by omega))) ?_
    refine Z_iload_n (n := 19) dX3_nodes_18 rfl rfl ?_
    refine Z_iald (n := 20) dX3_nodes_19 rfl (by first | rfl | exact nS0 (nA_at (by omega) (by omega))) rfl (by first | decide | assumption) (by omega) (by omega) (fun r19 s19 => ?_)
    refine Z_callVi (n := 23) [_] _ dX3_nodes_20 rfl cwX3_152 rfl rfl (by first | rfl | exact nS0 (nA_at (by omega) (by omega))) (Nat.le_of_ble_eq_true rfl) (by refine ⟨?_, ?_, ?_, ?_⟩ <;> exact Nat.le_of_ble_eq_true rfl) (fun _ h => h) (zX2_nodeCount  (by first | assumption | omega | decide) (by first | assumption | omega | decide)) ?_
    intro x20 M20 J20 z20 f20 q20
    obtain ⟨e20_1, h20⟩ := q20
    replace e20_1 := e20_1.symm; subst e20_1
    refine Z_iret dX3_nodes_23 rfl ?_
    exact rfl
  · refine Z_iconst (n := 9) dX3_nodes_8 rfl (by decide) ?_
    refine Z_iret dX3_nodes_9 rfl ?_
    exact rfl
set_option maxRecDepth 20000 in
theorem zX3_common_k {G : tl_G} {M : zM} {J : zJ} {f g : Int} (hc : cI M) : ZN G yX3_common mX3_common 11 kMarks [vR 0, vI f, vI g] F1 M J (qI (fun x M' J' => J' = J)) := by
  refine ZN_of (L := [_, _, _]) (by decide) rfl rfl (Nat.le_of_ble_eq_true rfl) rfl (fun hav => ?_)
  refine Z_aload_n (n := 1) dX3_common_0 rfl rfl ?_
  refine Z_iload_n (n := 2) dX3_common_1 rfl rfl ?_
  refine Z_callVi (n := 5) [_] _ dX3_common_2 rfl cwX3_139 rfl rfl (by first | rfl | exact nS0 (nA_at (by omega) (by omega))) (Nat.le_of_ble_eq_true rfl) (by refine ⟨?_, ?_, ?_, ?_⟩ <;> exact Nat.le_of_ble_eq_true rfl) (fun _ _ => trivial) (zX3_hasFunction  ) ?_
  intro x2 M2 J2 z2 f2 q2
  obtain ⟨e2_1, e2_2, h2⟩ := q2
  replace e2_1 := e2_1.symm; subst e2_1
  replace e2_2 := e2_2.symm; subst e2_2
  refine Z_if_eq (n := 8) (t := 16) dX3_common_5 rfl (by decide) (fun c5 => ?_) (fun c5 => ?_)
  · refine Z_iconst (n := 17) dX3_common_16 rfl (by decide) ?_
    refine Z_iret dX3_common_17 rfl ?_
    exact rfl
  · refine Z_aload_n (n := 9) dX3_common_8 rfl rfl ?_
    refine Z_iload_n (n := 10) dX3_common_9 rfl rfl ?_
    refine Z_callVi (n := 13) [_] _ dX3_common_10 rfl cwX3_139 rfl rfl (by first | rfl | exact nS0 (nA_at (by omega) (by omega))) (Nat.le_of_ble_eq_true rfl) (by refine ⟨?_, ?_, ?_, ?_⟩ <;> exact Nat.le_of_ble_eq_true rfl) (fun _ _ => trivial) (zX3_hasFunction  ) ?_
    intro x10 M10 J10 z10 f10 q10
    obtain ⟨e10_1, e10_2, h10⟩ := q10
    replace e10_1 := e10_1.symm; subst e10_1
    replace e10_2 := e10_2.symm; subst e10_2
    refine Z_if_ne (n := 16) (t := 18) dX3_common_13 rfl (by decide) (fun c13 => ?_) (fun c13 => ?_)
    · refine Z_aload_n (n := 19) dX3_common_18 rfl rfl ?_
      refine Z_getO (n := 22) dX3_common_19 rfl ffX3_25 (by first | rfl | exact nS0 (nA_at (by omega) (by omega))) (by first | rfl | exact nS0 (nA_at (by omega) (by omega))) ?_
      refine Z_aload_n (n := 23) dX3_common_22 rfl rfl ?_
      refine Z_getA (n := 26) dX3_common_23 rfl ffX3_29 (by first | rfl | exact nS0 (nA_at (by omega) (by omega))) (by first | rfl | exact nS0 (nA_at (by omega) (by omega))) ?_
      refine Z_iload_n (n := 27) dX3_common_26 rfl rfl ?_
      refine Z_iald (n := 28) dX3_common_27 rfl (by first | rfl | exact nS0 (nA_at (by omega) (by omega))) rfl (by first | decide | assumption) (by omega) (by omega) (fun r27 s27 => ?_)
      refine Z_aload_n (n := 29) dX3_common_28 rfl rfl ?_
      refine Z_getA (n := 32) dX3_common_29 rfl ffX3_29 (by first | rfl | exact nS0 (nA_at (by omega) (by omega))) (by first | rfl | exact nS0 (nA_at (by omega) (by omega))) ?_
      refine Z_iload_n (n := 33) dX3_common_32 rfl rfl ?_
      refine Z_iald (n := 34) dX3_common_33 rfl (by first | rfl | exact nS0 (nA_at (by omega) (by omega))) rfl (by first | decide | assumption) (by omega) (by omega) (fun r33 s33 => ?_)
      refine Z_callVi (n := 37) [_, _] _ dX3_common_34 rfl cwX3_161 rfl rfl (by first | rfl | exact nS0 (nA_at (by omega) (by omega))) (Nat.le_of_ble_eq_true rfl) (by refine ⟨?_, ?_, ?_, ?_⟩ <;> exact Nat.le_of_ble_eq_true rfl) (fun _ h => h) (zX2_commonCount  (by first | assumption | omega | decide) (by first | assumption | omega | decide) (by first | assumption | omega | decide) (by first | assumption | omega | decide)) ?_
      intro x34 M34 J34 z34 f34 q34
      obtain ⟨e34_1, h34⟩ := q34
      replace e34_1 := e34_1.symm; subst e34_1
      refine Z_iret dX3_common_37 rfl ?_
      exact rfl
    · refine Z_iconst (n := 17) dX3_common_16 rfl (by decide) ?_
      refine Z_iret dX3_common_17 rfl ?_
      exact rfl
set_option maxRecDepth 20000 in
theorem zX3_level_k {G : tl_G} {M : zM} {J : zJ} {f v : Int} (hc : cI M) : ZN G yX3_level mX3_level 11 kMarks [vR 0, vI f, vI v] F1 M J (qI (fun x M' J' => J' = J)) := by
  refine ZN_of (L := [_, _, _]) (by decide) rfl rfl (Nat.le_of_ble_eq_true rfl) rfl (fun hav => ?_)
  refine Z_aload_n (n := 1) dX3_level_0 rfl rfl ?_
  refine Z_iload_n (n := 2) dX3_level_1 rfl rfl ?_
  refine Z_callVi (n := 5) [_] _ dX3_level_2 rfl cwX3_139 rfl rfl (by first | rfl | exact nS0 (nA_at (by omega) (by omega))) (Nat.le_of_ble_eq_true rfl) (by refine ⟨?_, ?_, ?_, ?_⟩ <;> exact Nat.le_of_ble_eq_true rfl) (fun _ _ => trivial) (zX3_hasFunction  ) ?_
  intro x2 M2 J2 z2 f2 q2
  obtain ⟨e2_1, e2_2, h2⟩ := q2
  replace e2_1 := e2_1.symm; subst e2_1
  replace e2_2 := e2_2.symm; subst e2_2
  refine Z_if_ne (n := 8) (t := 10) dX3_level_5 rfl (by decide) (fun c5 => ?_) (fun c5 => ?_)
  · refine Z_iload_n (n := 11) dX3_level_10 rfl rfl ?_
    refine Z_callSi (n := 14) [_] _ dX3_level_11 rfl cwX3_70 rfl rfl (Nat.le_of_ble_eq_true rfl) (by refine ⟨?_, ?_, ?_, ?_⟩ <;> exact Nat.le_of_ble_eq_true rfl) (fun _ _ => trivial) (zX3_isVariable  ) ?_
    intro x11 M11 J11 z11 f11 q11
    obtain ⟨e11_1, e11_2, h11⟩ := q11
    replace e11_1 := e11_1.symm; subst e11_1
    replace e11_2 := e11_2.symm; subst e11_2
    refine Z_if_ne (n := 17) (t := 20) dX3_level_14 rfl (by decide) (fun c14 => ?_) (fun c14 => ?_)
    · refine Z_aload_n (n := 21) dX3_level_20 rfl rfl ?_
      refine Z_getO (n := 24) dX3_level_21 rfl ffX3_25 (by first | rfl | exact nS0 (nA_at (by omega) (by omega))) (by first | rfl | exact nS0 (nA_at (by omega) (by omega))) ?_
      refine Z_aload_n (n := 25) dX3_level_24 rfl rfl ?_
      refine Z_getA (n := 28) dX3_level_25 rfl ffX3_29 (by first | rfl | exact nS0 (nA_at (by omega) (by omega))) (by first | rfl | exact nS0 (nA_at (by omega) (by omega))) ?_
      refine Z_iload_n (n := 29) dX3_level_28 rfl rfl ?_
      refine Z_iald (n := 30) dX3_level_29 rfl (by first | rfl | exact nS0 (nA_at (by omega) (by omega))) rfl (by first | decide | assumption) (by omega) (by omega) (fun r29 s29 => ?_)
      refine Z_aload_n (n := 31) dX3_level_30 rfl rfl ?_
      refine Z_getO (n := 34) dX3_level_31 rfl ffX3_18 (by first | rfl | exact nS0 (nA_at (by omega) (by omega))) (by first | rfl | exact nS0 (nA_at (by omega) (by omega))) ?_
      refine Z_iload_n (n := 35) dX3_level_34 rfl rfl ?_
      refine Z_callVi (n := 38) [_] _ dX3_level_35 rfl cwX3_174 rfl rfl (by first | rfl | exact nS0 (nA_at (by omega) (by omega))) (Nat.le_of_ble_eq_true rfl) (by refine ⟨?_, ?_, ?_, ?_⟩ <;> exact Nat.le_of_ble_eq_true rfl) (fun _ _ => trivial) (zX1_placeOf  (by first | assumption | omega | decide) (by first | assumption | omega | decide)) ?_
      intro x35 M35 J35 z35 f35 q35
      obtain ⟨e35_1, e35_2, h35⟩ := q35
      replace e35_1 := e35_1.symm; subst e35_1
      replace e35_2 := e35_2.symm; subst e35_2
      refine Z_callVi (n := 41) [_, _] _ dX3_level_38 rfl cwX3_168 rfl rfl (by first | rfl | exact nS0 (nA_at (by omega) (by omega))) (Nat.le_of_ble_eq_true rfl) (by refine ⟨?_, ?_, ?_, ?_⟩ <;> exact Nat.le_of_ble_eq_true rfl) (fun _ h => h) (zX2_nodeCountAt  (by first | assumption | omega | decide) (by first | assumption | omega | decide)) ?_
      intro x38 M38 J38 z38 f38 q38
      obtain ⟨e38_1, h38⟩ := q38
      replace e38_1 := e38_1.symm; subst e38_1
      refine Z_iret dX3_level_41 rfl ?_
      exact rfl
    · refine Z_bipush (n := 19) dX3_level_17 rfl (by decide) (by decide) ?_
      refine Z_iret dX3_level_19 rfl ?_
      exact rfl
  · refine Z_iconst (n := 9) dX3_level_8 rfl (by decide) ?_
    refine Z_iret dX3_level_9 rfl ?_
    exact rfl
set_option maxRecDepth 20000 in
theorem zX3_support_k {G : tl_G} {M : zM} {J : zJ} {f : Int} (hc : cI M) : ZN G yX3_support mX3_support 11 kMarks [vR 0, vI f] F1 M J (qI (fun x M' J' => J' = J)) := by
  refine ZN_of (L := [_, _, _, _]) (by decide) rfl rfl (Nat.le_of_ble_eq_true rfl) rfl (fun hav => ?_)
  refine Z_aload_n (n := 1) dX3_support_0 rfl rfl ?_
  refine Z_iload_n (n := 2) dX3_support_1 rfl rfl ?_
  refine Z_callVi (n := 5) [_] _ dX3_support_2 rfl cwX3_139 rfl rfl (by first | rfl | exact nS0 (nA_at (by omega) (by omega))) (Nat.le_of_ble_eq_true rfl) (by refine ⟨?_, ?_, ?_, ?_⟩ <;> exact Nat.le_of_ble_eq_true rfl) (fun _ _ => trivial) (zX3_hasFunction  ) ?_
  intro x2 M2 J2 z2 f2 q2
  obtain ⟨e2_1, e2_2, h2⟩ := q2
  replace e2_1 := e2_1.symm; subst e2_1
  replace e2_2 := e2_2.symm; subst e2_2
  refine Z_if_ne (n := 8) (t := 10) dX3_support_5 rfl (by decide) (fun c5 => ?_) (fun c5 => ?_)
  · refine Z_iconst (n := 11) dX3_support_10 rfl (by decide) ?_
    refine Z_istore_n (L' := [_, _, _, _]) (n := 12) dX3_support_11 rfl (by decide) rfl rfl ?_
    refine Z_iconst (n := 13) dX3_support_12 rfl (by decide) ?_
    refine Z_istore_n (L' := [_, _, _, _]) (n := 14) dX3_support_13 rfl (by decide) rfl rfl ?_
    have lp14 : ∀ (N14 : Nat) (n p : Int) (M14 : zM) (J14 : zJ), ((8 - p).toNat) < N14 → (J14 = J) → (0 ≤ p) → (p ≤ 8) → (pI M14) → (M14 12 = M 12) → TZ G mX3_support (tl_rm 11 0 0) 0 0 kMarks M J 14 [some (vR 0), some (vI f), some (vI n), some (vI p)] [] F1 M14 J14 (ZM G (zPost G kMarks F1 M J (qI (fun x M' J' => J' = J))) 0 0) := by
      intro N14
      induction N14 with
      | zero => intro n p M14 J14 hN; omega
      | succ N14 ih14 =>
        intro n p M14 J14 hN14 i14_0 i14_1 i14_2 i14_3 i14_4
        refine Z_iload_n (n := 15) dX3_support_14 rfl rfl ?_
        refine Z_bipush (n := 17) dX3_support_15 rfl (by decide) (by decide) ?_
        refine Z_icmp_ge (n := 20) (t := 56) dX3_support_17 rfl (by decide) (fun c17 => ?_) (fun c17 => ?_)
        · refine Z_iload_n (n := 57) dX3_support_56 rfl rfl ?_
          refine Z_iret dX3_support_57 rfl ?_
          exact i14_0
        · refine Z_aload_n (n := 21) dX3_support_20 rfl rfl ?_
          refine Z_getO (n := 24) dX3_support_21 rfl ffX3_25 (by first | rfl | exact nS0 (nA_at (by omega) (by omega))) (by first | rfl | exact nS0 (nA_at (by omega) (by omega))) ?_
          refine Z_aload_n (n := 25) dX3_support_24 rfl rfl ?_
          refine Z_getA (n := 28) dX3_support_25 rfl ffX3_29 (by first | rfl | exact nS0 (nA_at (by omega) (by omega))) (by first | rfl | exact nS0 (nA_at (by omega) (by omega))) ?_
          refine Z_iload_n (n := 29) dX3_support_28 rfl rfl ?_
          refine Z_iald (n := 30) dX3_support_29 rfl (by first | rfl | exact nS0 (nA_at (by omega) (by omega))) rfl (by first | decide | assumption) (by omega) (by omega) (fun r29 s29 => ?_)
          try simp only [i14_4] at r29 s29 ⊢
          refine Z_iload_n (n := 31) dX3_support_30 rfl rfl ?_
          refine Z_callVi (n := 34) [_, _] _ dX3_support_31 rfl cwX3_168 rfl rfl (by first | rfl | exact nS0 (nA_at (by omega) (by omega))) (Nat.le_of_ble_eq_true rfl) (by refine ⟨?_, ?_, ?_, ?_⟩ <;> exact Nat.le_of_ble_eq_true rfl) (fun _ h => h) (zX2_nodeCountAt  (by first | assumption | omega | decide) (by first | assumption | omega | decide)) ?_
          intro x31 M31 J31 z31 f31 q31
          obtain ⟨e31_1, h31⟩ := q31
          replace e31_1 := e31_1.symm; subst e31_1
          refine Z_if_le (n := 37) (t := 50) dX3_support_34 rfl (by decide) (fun c34 => ?_) (fun c34 => ?_)
          · refine Z_iinc (L' := [_, _, _, _]) (n := 53) dX3_support_50 rfl rfl (by decide) rfl rfl (by omega) rfl ?_
            refine Z_goto (t := 14) dX3_support_53 (by decide) ?_
            refine Z_loc (L' := [some _, some _, some _, some _]) (lsub_same (lsub_same (lsub_same (lsub_same lsub_nil)))) ?_
            exact ih14 _ _ _ _ (by omega) (by first | rfl | assumption) (by first | assumption | omega | decide) (by first | assumption | omega | decide) (by first | exact hc.1 | exact pI_fr i14_3 (f31 5 (by decide)).1 (f31 6 (by decide)).1 (f31 10 (by decide)).1 (f31 11 (by decide)).1) (by first | rfl | exact ((f31 12 (by decide)).1).trans i14_4)
          · refine Z_iload_n (n := 38) dX3_support_37 rfl rfl ?_
            refine Z_iconst (n := 39) dX3_support_38 rfl (by decide) ?_
            refine Z_aload_n (n := 40) dX3_support_39 rfl rfl ?_
            refine Z_getO (n := 43) dX3_support_40 rfl ffX3_18 (by first | rfl | exact nS0 (nA_at (by omega) (by omega))) (by first | rfl | exact nS0 (nA_at (by omega) (by omega))) ?_
            refine Z_iload_n (n := 44) dX3_support_43 rfl rfl ?_
            refine Z_callVi (n := 47) [_] _ dX3_support_44 rfl cwX3_114 rfl rfl (by first | rfl | exact nS0 (nA_at (by omega) (by omega))) (Nat.le_of_ble_eq_true rfl) (by refine ⟨?_, ?_, ?_, ?_⟩ <;> exact Nat.le_of_ble_eq_true rfl) (fun _ _ => trivial) (zX1_variableAt  (by first | assumption | omega | decide) (by first | assumption | omega | decide)) ?_
            intro x44 M44 J44 z44 f44 q44
            obtain ⟨e44_1, e44_2, h44⟩ := q44
            replace e44_1 := e44_1.symm; subst e44_1
            replace e44_2 := e44_2.symm; subst e44_2
            refine Z_ishl (n := 48) dX3_support_47 rfl ?_
            refine Z_ior (n := 49) dX3_support_48 rfl ?_
            refine Z_istore_n (L' := [_, _, _, _]) (n := 50) dX3_support_49 rfl (by decide) rfl rfl ?_
            refine Z_iinc (L' := [_, _, _, _]) (n := 53) dX3_support_50 rfl rfl (by decide) rfl rfl (by omega) rfl ?_
            refine Z_goto (t := 14) dX3_support_53 (by decide) ?_
            refine Z_loc (L' := [some _, some _, some _, some _]) (lsub_same (lsub_same (lsub_same (lsub_same lsub_nil)))) ?_
            exact ih14 _ _ _ _ (by omega) (by first | rfl | assumption) (by first | assumption | omega | decide) (by first | assumption | omega | decide) (by first | exact hc.1 | exact pI_fr i14_3 (f31 5 (by decide)).1 (f31 6 (by decide)).1 (f31 10 (by decide)).1 (f31 11 (by decide)).1) (by first | rfl | exact ((f31 12 (by decide)).1).trans i14_4)
    refine Z_loc (L' := [some _, some _, some _, some _]) (lsub_same (lsub_same (lsub_same (lsub_same lsub_nil)))) ?_
    exact lp14 _ _ _ _ _ (Nat.lt_succ_self _) (by first | rfl | assumption) (by first | assumption | omega | decide) (by first | assumption | omega | decide) (by first | exact hc.1 | exact pI_fr i14_3 (f31 5 (by decide)).1 (f31 6 (by decide)).1 (f31 10 (by decide)).1 (f31 11 (by decide)).1) (by first | rfl | exact ((f31 12 (by decide)).1).trans i14_4)
  · refine Z_iconst (n := 9) dX3_support_8 rfl (by decide) ?_
    refine Z_iret dX3_support_9 rfl ?_
    exact rfl
def mdE (M M2 : zM) : Prop := ∃ E : Lb → Prop, mid M M2 E
theorem mid_cg {M M2 M3 : zM} {E : Lb → Prop} (h : mid M M2 E) (o : ∀ a : Nat, ¬ a = 0 → M3 a = M2 a) (h07 : M3 0 7 = M2 0 7) : mid M M3 E := by
  obtain ⟨⟨S, hS, hR⟩, hh, h58, hlb, hno⟩ := h
  have hrt : rt M3 = rt M2 := rt_cg (o 12 (by decide)) (o 13 (by decide)) (o 15 (by decide)) h07
  have hd : den M3 = den M2 := den_cg (o 6 (by decide)) (o 7 (by decide)) (o 8 (by decide))
  refine ⟨⟨S, plo_cg (o 5 (by decide)) (o 6 (by decide)) (o 7 (by decide)) (o 8 (by decide)) (o 10 (by decide)) (o 11 (by decide)) hS, fun x hx => hR x (by rw [← hrt]; exact hx)⟩, fun j a b => ?_, by rw [o 5 (by decide)]; exact h58, fun y => ?_, hno⟩
  · rw [o 12 (by decide), hd]
    exact hh j a b
  · rw [LBc_cg (o 6 (by decide)) (o 7 (by decide)) (o 8 (by decide)) hrt]
    exact hlb y
/-- the end of a call that gives nothing -/
theorem mid_end {M M2 M3 : zM} (h : mdE M M2) (o : ∀ a : Nat, ¬ a = 0 → ¬ a = 13 → M3 a = M2 a) (h13 : ∀ g : Int, 0 ≤ g → g < 40 → M3 13 g = -1) (h07 : M3 0 7 = 0) : hkp M M3 := by
  obtain ⟨E, ⟨S, hS, hR⟩, hh, h58, hlb, hno⟩ := h
  have hd : den M3 = den M2 := den_cg (o 6 (by decide) (by decide)) (o 7 (by decide) (by decide)) (o 8 (by decide) (by decide))
  have e12 : M3 12 = M2 12 := o 12 (by decide) (by decide)
  have e5 : M3 5 = M2 5 := o 5 (by decide) (by decide)
  have hr : ∀ z : Int, rt M3 z → z = -1 ∨ ∃ j : Int, (0 ≤ j ∧ j < 12) ∧ z = M2 12 j := fun z hz => by
    rcases hz with ⟨j, jb, q⟩ | ⟨g, gb, q⟩ | ⟨k, kb, q⟩
    · rw [e12] at q
      exact Or.inr ⟨j, jb, q⟩
    · exact Or.inl (q.trans (h13 g gb.1 gb.2))
    · rw [h07] at kb
      exact absurd (Int.lt_of_le_of_lt kb.1 kb.2) (by decide)
  refine ⟨⟨⟨S, plo_cg e5 (o 6 (by decide) (by decide)) (o 7 (by decide) (by decide)) (o 8 (by decide) (by decide)) (o 10 (by decide) (by decide)) (o 11 (by decide) (by decide)) hS, fun z hz => ?_⟩, ?_, h13, h07⟩, by rw [e5]; exact h58, fun j a b => by rw [e12, hd]; exact hh j a b⟩
  · rcases hr z hz with q | ⟨j, jb, q⟩
    · exact Or.inl q
    · exact hR z (Or.inl ⟨j, jb, q⟩)
  · rw [e5, h58]
    refine fun ho => hno (over_mono (fun y hy => ?_) ho)
    obtain ⟨z, a, b, c⟩ := hy
    obtain ⟨j, jb, q⟩ := (hr z a).resolve_left b
    rw [hd] at c
    exact (hlb y).mp ⟨z, Or.inl ⟨j, jb, q⟩, b, c⟩
def eqI (M M2 : zM) (ap o : Int) : Prop := mdE M M2 ∧ (ap = 0 → (∀ x : Int, 0 ≤ x → x < 40 → M2 13 x = -1) ∧ M2 0 7 ≤ 2 * o)
def eqC (M M2 : zM) (p q o : Int) : Prop := mdE M M2 ∧ ((p = -1 ∧ q = -1) ∨ (¬ p = -1 ∧ rt M2 p ∧ (q = -1 ∨ (¬ q = -1 ∧ rt M2 q ∧ (∀ x : Int, 0 ≤ x → x < 40 → M2 13 x = -1) ∧ M2 0 7 ≤ 2 * o + 2))))
theorem eq_0 {M M2 : zM} (hb : CB M) (o : ∀ a : Nat, ¬ a = 0 → M2 a = M a) (h07 : M2 0 7 = M 0 7) : eqI M M2 0 0 :=
  ⟨⟨_, mid_0 hb o h07⟩, fun _ => ⟨fun x a b => by rw [o 13 (by decide)]; exact hb.2.2.1 x a b, by rw [h07, hb.2.2.2]; decide⟩⟩
theorem eq_cg {M M2 M3 : zM} {ap p : Int} (h : eqI M M2 ap p) (o : ∀ a : Nat, ¬ a = 0 → M3 a = M2 a) (h07 : M3 0 7 = M2 0 7) : eqI M M3 ap p := by
  obtain ⟨⟨E, m⟩, c⟩ := h
  exact ⟨⟨E, mid_cg m o h07⟩, fun t => ⟨fun x a b => by rw [o 13 (by decide)]; exact (c t).1 x a b, by rw [h07]; exact (c t).2⟩⟩
theorem eq_step {M M2 M3 : zM} {F : FN} {p q o x : Int} (h : eqC M M2 p q o) (hq : ((p = -1 ∨ q = -1 ∨ (0 : Int) = -1) ∧ x = -1 ∧ M3 = M2) ∨ ((¬ p = -1 ∧ ¬ q = -1 ∧ ¬ (0 : Int) = -1) ∧ stQ M2 F x M3)) (h12 : M3 12 = M2 12) (h13 : M3 13 = M2 13) (h15 : M3 15 = M2 15) : eqI M M3 x (o + 1) ∧ (-1 ≤ x ∧ x ≤ 251) := by
  obtain ⟨⟨E, md⟩, hc⟩ := h
  rcases hq with ⟨-, e, e3⟩ | ⟨⟨a, b, -⟩, sq⟩
  · rw [e3]
    exact ⟨⟨⟨E, md⟩, fun t => absurd (t.symm.trans e) (by decide)⟩, by omega⟩
  · obtain ⟨md', -, S, hS, -, hx⟩ := mid_st md sq h12 h13 h15
    obtain ⟨-, -, -, k07, -⟩ := sq
    refine ⟨⟨⟨E, md'⟩, fun t => ?_⟩, ?_⟩
    · obtain ⟨-, -, c⟩ := hc.resolve_left (fun w => a w.1)
      obtain ⟨-, -, c1, c2⟩ := c.resolve_left b
      exact ⟨fun z z0 z1 => by rw [h13]; exact c1 z z0 z1, by omega⟩
    · rcases hx with z | z
      · omega
      · have := okN_in hS.1 z
        omega
theorem bdX_md {M0 M' : zM} {E : Lb → Prop} {kd : Int → Int} {od : Int → Int → Int} {pl : Int → Int} {g x : Int} (h : bdX M0 E kd od pl g x M') : mdE M0 M' ∧ (¬ x = -1 → rt M' x ∧ ∀ z : Int, 0 ≤ z → z < 40 → M' 13 z = -1) := by
  obtain ⟨L, -, h⟩ := h
  rcases h with ⟨a, -, b⟩ | ⟨-, -, m, ⟨r, -⟩, c⟩
  · exact ⟨b, fun t => absurd a t⟩
  · exact ⟨⟨_, m⟩, fun _ => ⟨r, c⟩⟩
theorem eq_two {M M1 M2 M3 : zM} {p q o : Int} (k1 : kpQ M1 p M2) (k2 : kpQ M2 q M3) (hp : ¬ p = -1) (h0 : 0 ≤ M1 0 7) (h7 : M1 0 7 ≤ 2 * o) (m : mdE M M3) (b : ¬ q = -1 → rt M3 q ∧ ∀ z : Int, 0 ≤ z → z < 40 → M3 13 z = -1) : eqC M M3 p q o := by
  obtain ⟨a1, a2, a3⟩ := k1
  obtain ⟨b1, b2, b3⟩ := k2
  obtain ⟨c1, c2⟩ := a3 hp
  refine ⟨m, Or.inr ⟨hp, Or.inr (Or.inr ⟨M1 0 7, ⟨h0, by omega⟩, ?_⟩), ?_⟩⟩
  · rw [b2 _ (by omega)]
    exact c2.symm
  · by_cases e : q = -1
    · exact Or.inl e
    · exact Or.inr ⟨e, (b e).1, (b e).2, by omega⟩
theorem eq_C {M M2 : zM} {p q o : Int} (h : eqC M M2 p q o) : (p = -1 ∨ opr M2 p) ∧ (q = -1 ∨ opr M2 q) := by
  rcases h.2 with ⟨a, b⟩ | ⟨a, b, c⟩
  · exact ⟨Or.inl a, Or.inl b⟩
  · refine ⟨Or.inr (Or.inr (Or.inr ⟨b, a⟩)), ?_⟩
    rcases c with c | ⟨c, d, -⟩
    · exact Or.inl c
    · exact Or.inr (Or.inr (Or.inr ⟨d, c⟩))
theorem cI_kp {M M' : zM} {J J' : zJ} (hc : cI M) (h : hkp M M') (fr : ∀ a, kFc a → M' a = M a ∧ J' a = J a) : cI M' := by
  obtain ⟨⟨⟨S, hS, -⟩, -⟩, -⟩ := h
  exact cI_mk hc (fun a ha => fr a (by unfold kPub at ha; unfold kFc; omega)) (plo_pI hS) (ordOK_fr hc.2.1 (fr 4 (by decide)).1)
set_option maxRecDepth 20000 in
theorem zX3_notePart_f {G : tl_G} {M : zM} {J : zJ} {o v : Int} (h0 : -1 ≤ v) (h1 : v ≤ 251) : ZN G yX3_notePart mX3_notePart 2 k0 [vR 0, vI o, vI v] F1 M J (qV (fun M' J' => J' = J ∧ M' 0 7 = M 0 7)) := by
  refine ZN_of (L := [_, _, _]) (by decide) rfl rfl (Nat.le_of_ble_eq_true rfl) rfl (fun hav => ?_)
  refine Z_iload_n (n := 1) dX3_notePart_0 rfl rfl ?_
  refine Z_iconst (n := 2) dX3_notePart_1 rfl (by decide) ?_
  refine Z_icmp_eq (n := 5) (t := 31) dX3_notePart_2 rfl (by decide) (fun c2 => ?_) (fun c2 => ?_)
  · refine Z_vret dX3_notePart_31 rfl ?_
    refine ⟨rfl, ?_⟩
    first
      | rfl
      | (rw [uz_n (by decide), uz_n (by decide)])
  · refine Z_iload_n (n := 6) dX3_notePart_5 rfl rfl ?_
    refine Z_if_eq (n := 9) (t := 31) dX3_notePart_6 rfl (by decide) (fun c6 => ?_) (fun c6 => ?_)
    · refine Z_vret dX3_notePart_31 rfl ?_
      refine ⟨rfl, ?_⟩
      first
        | rfl
        | (rw [uz_n (by decide), uz_n (by decide)])
    · refine Z_aload_n (n := 10) dX3_notePart_9 rfl rfl ?_
      refine Z_iload_n (n := 11) dX3_notePart_10 rfl rfl ?_
      refine Z_putI (n := 14) (ki := 9) dX3_notePart_11 rfl ffX3_49 rfl (by decide) (by first | rfl | exact nS0 (nA_at (by omega) (by omega))) rfl (by first | exact (show zI o from hav (vI o) (by simp)).1 | exact (show zI o from hav (vI o) (by simp)).2) (by first | exact (show zI o from hav (vI o) (by simp)).1 | exact (show zI o from hav (vI o) (by simp)).2) (by decide) ?_
      refine Z_aload_n (n := 15) dX3_notePart_14 rfl rfl ?_
      refine Z_aload_n (n := 16) dX3_notePart_15 rfl rfl ?_
      refine Z_getO (n := 19) dX3_notePart_16 rfl ffX3_25 (by first | rfl | exact nS0 (nA_at (by omega) (by omega))) (by first | rfl | exact nS0 (nA_at (by omega) (by omega))) ?_
      refine Z_iload_n (n := 20) dX3_notePart_19 rfl rfl ?_
      refine Z_iconst (n := 21) dX3_notePart_20 rfl (by decide) ?_
      refine Z_aload_n (n := 22) dX3_notePart_21 rfl rfl ?_
      refine Z_getO (n := 25) dX3_notePart_22 rfl ffX3_18 (by first | rfl | exact nS0 (nA_at (by omega) (by omega))) (by first | rfl | exact nS0 (nA_at (by omega) (by omega))) ?_
      refine Z_callVi (n := 28) [_, _, _] _ dX3_notePart_25 rfl cwX3_175 rfl rfl (by first | rfl | exact nS0 (nA_at (by omega) (by omega))) (Nat.le_of_ble_eq_true rfl) (by refine ⟨?_, ?_, ?_, ?_⟩ <;> exact Nat.le_of_ble_eq_true rfl) (fun _ _ => trivial) (zX2_leastFor  (by first | assumption | omega | decide) (by first | assumption | omega | decide)) ?_
      intro x25 M25 J25 z25 f25 q25
      obtain ⟨e25_1, e25_2⟩ := q25
      replace e25_1 := e25_1.symm; subst e25_1
      replace e25_2 := e25_2.symm; subst e25_2
      refine Z_putI (n := 31) (ki := 10) dX3_notePart_28 rfl ffX3_52 rfl (by decide) (by first | rfl | exact nS0 (nA_at (by omega) (by omega))) rfl (by first | exact z25.1 | exact z25.2) (by first | exact z25.1 | exact z25.2) (by decide) ?_
      refine Z_vret dX3_notePart_31 rfl ?_
      refine ⟨rfl, ?_⟩
      first
        | rfl
        | (rw [uz_n (by decide), uz_n (by decide)])
set_option maxRecDepth 20000 in
theorem zX3_equal_f {G : tl_G} {M : zM} {J : zJ} {net oth : Int} (hc : cI M) (hb : CB M) : ZN G yX3_equal mX3_equal 14 kFc [vR 0, vI net, vI oth] F1 M J (qI (fun x M' J' => J' = J ∧ cI M' ∧ hkp M M')) := by
  refine ZN_of (L := [_, _, _, _, _, _, _, _]) (by decide) rfl rfl (Nat.le_of_ble_eq_true rfl) rfl (fun hav => ?_)
  refine Z_iload_n (n := 1) dX3_equal_0 rfl rfl ?_
  refine Z_callSi (n := 4) [_] _ dX3_equal_1 rfl cwX3_62 rfl rfl (Nat.le_of_ble_eq_true rfl) (by refine ⟨?_, ?_, ?_, ?_⟩ <;> exact Nat.le_of_ble_eq_true rfl) (fun _ _ => trivial) (zX3_isNet  ) ?_
  intro x1 M1 J1 z1 f1 q1
  obtain ⟨e1_1, e1_2, h1⟩ := q1
  replace e1_1 := e1_1.symm; subst e1_1
  replace e1_2 := e1_2.symm; subst e1_2
  refine Z_if_eq (n := 7) (t := 14) dX3_equal_4 rfl (by decide) (fun c4 => ?_) (fun c4 => ?_)
  · refine Z_iconst (n := 15) dX3_equal_14 rfl (by decide) ?_
    refine Z_iret dX3_equal_15 rfl ?_
    exact ⟨rfl, hc, hkp_0 hb⟩
  · refine Z_iload_n (n := 8) dX3_equal_7 rfl rfl ?_
    refine Z_callSi (n := 11) [_] _ dX3_equal_8 rfl cwX3_62 rfl rfl (Nat.le_of_ble_eq_true rfl) (by refine ⟨?_, ?_, ?_, ?_⟩ <;> exact Nat.le_of_ble_eq_true rfl) (fun _ _ => trivial) (zX3_isNet  ) ?_
    intro x8 M8 J8 z8 f8 q8
    obtain ⟨e8_1, e8_2, h8⟩ := q8
    replace e8_1 := e8_1.symm; subst e8_1
    replace e8_2 := e8_2.symm; subst e8_2
    refine Z_if_ne (n := 14) (t := 16) dX3_equal_11 rfl (by decide) (fun c11 => ?_) (fun c11 => ?_)
    · refine Z_aload_n (n := 17) dX3_equal_16 rfl rfl ?_
      refine Z_getA (n := 20) dX3_equal_17 rfl ffX3_11 (by first | rfl | exact nS0 (nA_at (by omega) (by omega))) (by first | rfl | exact nS0 (nA_at (by omega) (by omega))) ?_
      refine Z_iload_n (n := 21) dX3_equal_20 rfl rfl ?_
      refine Z_aald (n := 22) dX3_equal_21 rfl (by first | rfl | exact nS0 (nA_at (by omega) (by omega))) (by decide) (by omega) (by omega) (nA_P (by omega) (by omega)) ?_
      refine Z_callVi (n := 25) [] _ dX3_equal_22 rfl cwX3_181 rfl rfl (by first | rfl | exact nS0 (nA_at (by omega) (by omega))) (Nat.le_of_ble_eq_true rfl) (by refine ⟨?_, ?_, ?_, ?_⟩ <;> exact Nat.le_of_ble_eq_true rfl) (fun _ _ => trivial) (zX0_outputCount  (by exact nA_at (by omega) (by omega))) ?_
      intro x22 M22 J22 z22 f22 q22
      obtain ⟨e22_1, e22_2, h22⟩ := q22
      replace e22_1 := e22_1.symm; subst e22_1
      replace e22_2 := e22_2.symm; subst e22_2
      refine Z_istore_n (L' := [_, _, _, _, _, _, _, _]) (n := 26) dX3_equal_25 rfl (by decide) rfl rfl ?_
      refine Z_iload_n (n := 27) dX3_equal_26 rfl rfl ?_
      refine Z_aload_n (n := 28) dX3_equal_27 rfl rfl ?_
      refine Z_getA (n := 31) dX3_equal_28 rfl ffX3_11 (by first | rfl | exact nS0 (nA_at (by omega) (by omega))) (by first | rfl | exact nS0 (nA_at (by omega) (by omega))) ?_
      refine Z_iload_n (n := 32) dX3_equal_31 rfl rfl ?_
      refine Z_aald (n := 33) dX3_equal_32 rfl (by first | rfl | exact nS0 (nA_at (by omega) (by omega))) (by decide) (by omega) (by omega) (nA_P (by omega) (by omega)) ?_
      refine Z_callVi (n := 36) [] _ dX3_equal_33 rfl cwX3_181 rfl rfl (by first | rfl | exact nS0 (nA_at (by omega) (by omega))) (Nat.le_of_ble_eq_true rfl) (by refine ⟨?_, ?_, ?_, ?_⟩ <;> exact Nat.le_of_ble_eq_true rfl) (fun _ _ => trivial) (zX0_outputCount  (by exact nA_at (by omega) (by omega))) ?_
      intro x33 M33 J33 z33 f33 q33
      obtain ⟨e33_1, e33_2, h33⟩ := q33
      replace e33_1 := e33_1.symm; subst e33_1
      replace e33_2 := e33_2.symm; subst e33_2
      refine Z_icmp_eq (n := 39) (t := 42) dX3_equal_36 rfl (by decide) (fun c36 => ?_) (fun c36 => ?_)
      · refine Z_rg (nA net) 5 (nTo (nA_at (by omega) (by omega))) (fun g5 g5b => ?_)
        refine Z_iload_n (n := 43) dX3_equal_42 rfl rfl ?_
        refine Z_if_le (n := 46) (t := 50) dX3_equal_43 rfl (by decide) (fun c43 => ?_) (fun c43 => ?_)
        · have en5 : M 4 = M 4 := rfl
          have en6 : eqI M M 0 0 := eq_0 hb (fun _ _ => rfl) rfl
          refine Z_iconst (n := 51) dX3_equal_50 rfl (by decide) ?_
          refine Z_istore (L' := [_, _, _, _, _, _, _, _]) (n := 53) dX3_equal_51 rfl (by decide) rfl rfl ?_
          refine Z_iconst (n := 54) dX3_equal_53 rfl (by decide) ?_
          refine Z_istore (L' := [_, _, _, _, _, _, _, _]) (n := 56) dX3_equal_54 rfl (by decide) rfl rfl ?_
          have lp56 : ∀ (N56 : Nat) (ap o : Int) (M56 : zM) (J56 : zJ), ((x22 - o).toNat) < N56 → (J56 = J) → (-1 ≤ ap) → (ap ≤ 251) → (0 ≤ o) → (o ≤ x22) → (M56 4 = M 4) → (eqI M M56 ap o) → TZ G mX3_equal (tl_rm 14 0 0) 0 0 kFc M J 56 [some (vR 0), some (vI net), some (vI oth), some (vI x22), some (vI ap), some (vI o), none, none] [] F1 M56 J56 (ZM G (zPost G kFc F1 M J (qI (fun x M' J' => J' = J ∧ cI M' ∧ hkp M M'))) 0 0) := by
            intro N56
            induction N56 with
            | zero => intro ap o M56 J56 hN; omega
            | succ N56 ih56 =>
              intro ap o M56 J56 hN56 i56_0 i56_1 i56_2 i56_3 i56_4 i56_5 i56_6
              refine Z_iload (n := 58) dX3_equal_56 rfl rfl ?_
              refine Z_iload_n (n := 59) dX3_equal_58 rfl rfl ?_
              refine Z_icmp_ge (n := 62) (t := 132) dX3_equal_59 rfl (by decide) (fun c59 => ?_) (fun c59 => ?_)
              · refine Z_aload_n (n := 133) dX3_equal_132 rfl rfl ?_
                refine Z_callVv (n := 136) [] _ dX3_equal_133 rfl cwX3_188 rfl rfl (by first | rfl | exact nS0 (nA_at (by omega) (by omega))) (Nat.le_of_ble_eq_true rfl) (by refine ⟨?_, ?_, ?_, ?_⟩ <;> exact Nat.le_of_ble_eq_true rfl) (fun _ h => h) (zX3_endSteps  (by decide) (by decide)) ?_
                intro M133 J133 f133 q133
                obtain ⟨e133_1, e133_2⟩ := q133
                replace e133_1 := e133_1.symm; subst e133_1
                replace e133_2 := e133_2.symm; subst e133_2
                refine Z_iload (n := 138) dX3_equal_136 rfl rfl ?_
                refine Z_iconst (n := 139) dX3_equal_138 rfl (by decide) ?_
                refine Z_icmp_ne (n := 142) (t := 147) dX3_equal_139 rfl (by decide) (fun c139 => ?_) (fun c139 => ?_)
                · refine Z_iload (n := 149) dX3_equal_147 rfl rfl ?_
                  refine Z_if_ne (n := 152) (t := 156) dX3_equal_149 rfl (by decide) (fun c149 => ?_) (fun c149 => ?_)
                  · refine Z_iconst (n := 157) dX3_equal_156 rfl (by decide) ?_
                    refine Z_fr (fun frR => ?_)
                    refine Z_iret dX3_equal_157 rfl ?_
                    have hq := mid_end (M3 := fillz (uz M56 0 7 0) 13 40 (-1)) i56_6.1 (fun a h1 h2 => by rw [fillz_o h2, uz_o h1]) (fun g a b => fillz_a a (by omega)) (by rw [fillz_o (by decide), uz_s])
                    exact ⟨i56_0, cI_kp hc hq frR, hq⟩
                  · refine Z_iconst (n := 153) dX3_equal_152 rfl (by decide) ?_
                    refine Z_goto (t := 157) dX3_equal_153 (by decide) ?_
                    refine Z_fr (fun frR => ?_)
                    refine Z_iret dX3_equal_157 rfl ?_
                    have hq := mid_end (M3 := fillz (uz M56 0 7 0) 13 40 (-1)) i56_6.1 (fun a h1 h2 => by rw [fillz_o h2, uz_o h1]) (fun g a b => fillz_a a (by omega)) (by rw [fillz_o (by decide), uz_s])
                    exact ⟨i56_0, cI_kp hc hq frR, hq⟩
                · refine Z_bipush (n := 144) dX3_equal_142 rfl (by decide) (by decide) ?_
                  refine Z_goto (t := 157) dX3_equal_144 (by decide) ?_
                  refine Z_fr (fun frR => ?_)
                  refine Z_iret dX3_equal_157 rfl ?_
                  have hq := mid_end (M3 := fillz (uz M56 0 7 0) 13 40 (-1)) i56_6.1 (fun a h1 h2 => by rw [fillz_o h2, uz_o h1]) (fun g a b => fillz_a a (by omega)) (by rw [fillz_o (by decide), uz_s])
                  exact ⟨i56_0, cI_kp hc hq frR, hq⟩
              · refine Z_iload (n := 64) dX3_equal_62 rfl rfl ?_
                refine Z_if_ne (n := 67) (t := 132) dX3_equal_64 rfl (by decide) (fun c64 => ?_) (fun c64 => ?_)
                · refine Z_aload_n (n := 133) dX3_equal_132 rfl rfl ?_
                  refine Z_callVv (n := 136) [] _ dX3_equal_133 rfl cwX3_188 rfl rfl (by first | rfl | exact nS0 (nA_at (by omega) (by omega))) (Nat.le_of_ble_eq_true rfl) (by refine ⟨?_, ?_, ?_, ?_⟩ <;> exact Nat.le_of_ble_eq_true rfl) (fun _ h => h) (zX3_endSteps  (by decide) (by decide)) ?_
                  intro M133 J133 f133 q133
                  obtain ⟨e133_1, e133_2⟩ := q133
                  replace e133_1 := e133_1.symm; subst e133_1
                  replace e133_2 := e133_2.symm; subst e133_2
                  refine Z_iload (n := 138) dX3_equal_136 rfl rfl ?_
                  refine Z_iconst (n := 139) dX3_equal_138 rfl (by decide) ?_
                  refine Z_icmp_ne (n := 142) (t := 147) dX3_equal_139 rfl (by decide) (fun c139 => ?_) (fun c139 => ?_)
                  · refine Z_iload (n := 149) dX3_equal_147 rfl rfl ?_
                    refine Z_if_ne (n := 152) (t := 156) dX3_equal_149 rfl (by decide) (fun c149 => ?_) (fun c149 => ?_)
                    · refine Z_iconst (n := 157) dX3_equal_156 rfl (by decide) ?_
                      refine Z_fr (fun frR => ?_)
                      refine Z_iret dX3_equal_157 rfl ?_
                      have hq := mid_end (M3 := fillz (uz M56 0 7 0) 13 40 (-1)) i56_6.1 (fun a h1 h2 => by rw [fillz_o h2, uz_o h1]) (fun g a b => fillz_a a (by omega)) (by rw [fillz_o (by decide), uz_s])
                      exact ⟨i56_0, cI_kp hc hq frR, hq⟩
                    · refine Z_iconst (n := 153) dX3_equal_152 rfl (by decide) ?_
                      refine Z_goto (t := 157) dX3_equal_153 (by decide) ?_
                      refine Z_fr (fun frR => ?_)
                      refine Z_iret dX3_equal_157 rfl ?_
                      have hq := mid_end (M3 := fillz (uz M56 0 7 0) 13 40 (-1)) i56_6.1 (fun a h1 h2 => by rw [fillz_o h2, uz_o h1]) (fun g a b => fillz_a a (by omega)) (by rw [fillz_o (by decide), uz_s])
                      exact ⟨i56_0, cI_kp hc hq frR, hq⟩
                  · refine Z_bipush (n := 144) dX3_equal_142 rfl (by decide) (by decide) ?_
                    refine Z_goto (t := 157) dX3_equal_144 (by decide) ?_
                    refine Z_fr (fun frR => ?_)
                    refine Z_iret dX3_equal_157 rfl ?_
                    have hq := mid_end (M3 := fillz (uz M56 0 7 0) 13 40 (-1)) i56_6.1 (fun a h1 h2 => by rw [fillz_o h2, uz_o h1]) (fun g a b => fillz_a a (by omega)) (by rw [fillz_o (by decide), uz_s])
                    exact ⟨i56_0, cI_kp hc hq frR, hq⟩
                · refine Z_fr (fun fr56 => ?_)
                  refine Z_rg 0 7 rfl (fun g07 g07b => ?_)
                  have hN1 : netOK M56 (nA net) := netOK_fr (cI_net hc (nA_at (by omega) (by omega))) (fr56 (nA net) (by unfold kFc nA; omega)).1 (fr56 (nA net + 1) (by unfold kFc nA; omega)).1 (fr56 (nA net + 2) (by unfold kFc nA; omega)).1 (fr56 (nA net + 3) (by unfold kFc nA; omega)).1
                  have hb1 : M56 (nA net) 5 = M (nA net) 5 := congrFun (fr56 (nA net) (by unfold kFc nA; omega)).1 5
                  have hO56 : ordOK M56 := ordOK_fr hc.2.1 i56_5
                  obtain ⟨⟨E56, md56⟩, g56z⟩ := i56_6
                  have g56 := g56z (by omega)
                  have g567 := g56.2
                  clear g56z
                  refine Z_aload_n (n := 68) dX3_equal_67 rfl rfl ?_
                  refine Z_aload_n (n := 69) dX3_equal_68 rfl rfl ?_
                  refine Z_getA (n := 72) dX3_equal_69 rfl ffX3_11 (by first | rfl | exact nS0 (nA_at (by omega) (by omega))) (by first | rfl | exact nS0 (nA_at (by omega) (by omega))) ?_
                  refine Z_iload_n (n := 73) dX3_equal_72 rfl rfl ?_
                  refine Z_aald (n := 74) dX3_equal_73 rfl (by first | rfl | exact nS0 (nA_at (by omega) (by omega))) (by decide) (by omega) (by omega) (nA_P (by omega) (by omega)) ?_
                  refine Z_iload (n := 76) dX3_equal_74 rfl rfl ?_
                  refine Z_callVi (n := 79) [_, _] _ dX3_equal_76 rfl cwX3_129 rfl rfl (by first | rfl | exact nS0 (nA_at (by omega) (by omega))) (Nat.le_of_ble_eq_true rfl) (by refine ⟨?_, ?_, ?_, ?_⟩ <;> exact Nat.le_of_ble_eq_true rfl) (fun a h => by unfold kFc at h; unfold kStep; omega) (zX3_building_f  (by exact nA_at (by omega) (by omega)) (by exact hN1) (by omega) (by omega) (by exact hO56) (by exact hb) (by exact md56) (by exact g56.1) (by omega)) ?_
                  intro x76 M76 J76 z76 f76 q76
                  obtain ⟨e76_1, xb76, k776, bx76⟩ := q76
                  replace e76_1 := e76_1.symm; subst e76_1
                  refine Z_istore (L' := [_, _, _, _, _, _, _, _]) (n := 81) dX3_equal_79 rfl (by decide) rfl rfl ?_
                  have ct103 : ∀ (q : Int) (M103 : zM) (J103 : zJ), (J103 = J) → (-1 ≤ q ∧ q ≤ 251) → (eqC M M103 x76 q o) → (M103 4 = M 4) → TZ G mX3_equal (tl_rm 14 0 0) 0 0 kFc M J 103 [some (vR 0), some (vI net), some (vI oth), some (vI x22), some (vI ap), some (vI o), some (vI x76), none] [vI q] F1 M103 J103 (ZM G (zPost G kFc F1 M J (qI (fun x M' J' => J' = J ∧ cI M' ∧ hkp M M'))) 0 0) := by
                    intro q M103 J103 i103_0 i103_1 i103_2 i103_3
                    refine Z_istore (L' := [_, _, _, _, _, _, _, _]) (n := 105) dX3_equal_103 rfl (by decide) rfl rfl ?_
                    have hpq := eq_C i103_2
                    obtain ⟨E3, md103⟩ := i103_2.1
                    have nb1 := mid_no md103
                    obtain ⟨S1, hS1, hR1⟩ := md103.1
                    refine Z_aload_n (n := 106) dX3_equal_105 rfl rfl ?_
                    refine Z_bipush (n := 108) dX3_equal_106 rfl (by decide) (by decide) ?_
                    refine Z_iload (n := 110) dX3_equal_108 rfl rfl ?_
                    refine Z_iload (n := 112) dX3_equal_110 rfl rfl ?_
                    refine Z_iconst (n := 113) dX3_equal_112 rfl (by decide) ?_
                    refine Z_callVi (n := 116) [_, _, _, _] _ dX3_equal_113 rfl cwX3_142 rfl rfl (by first | rfl | exact nS0 (nA_at (by omega) (by omega))) (Nat.le_of_ble_eq_true rfl) (by refine ⟨?_, ?_, ?_, ?_⟩ <;> exact Nat.le_of_ble_eq_true rfl) (fun a h => by unfold kFc at h; unfold kSt1; omega) (zX3_kindStep_f  (by omega) (by omega) (by exact hpq.1) (by exact hpq.2) (by exact Or.inr (Or.inl rfl)) (by exact hS1) (by exact hR1) (by exact nb1)) ?_
                    intro x113 M113 J113 z113 f113 q113
                    obtain ⟨e113_1, sq113⟩ := q113
                    replace e113_1 := e113_1.symm; subst e113_1
                    obtain ⟨nq, nbd⟩ := eq_step i103_2 sq113 (f113 12 (by decide)).1 (f113 13 (by decide)).1 (f113 15 (by decide)).1
                    refine Z_istore (L' := [_, _, _, _, _, _, _, _]) (n := 118) dX3_equal_116 rfl (by decide) rfl rfl ?_
                    refine Z_aload_n (n := 119) dX3_equal_118 rfl rfl ?_
                    refine Z_iload (n := 121) dX3_equal_119 rfl rfl ?_
                    refine Z_iload (n := 123) dX3_equal_121 rfl rfl ?_
                    refine Z_callVv (n := 126) [_, _] _ dX3_equal_123 rfl cwX3_184 rfl rfl (by first | rfl | exact nS0 (nA_at (by omega) (by omega))) (Nat.le_of_ble_eq_true rfl) (by refine ⟨?_, ?_, ?_, ?_⟩ <;> exact Nat.le_of_ble_eq_true rfl) (fun a h => by unfold kFc at h; unfold k0; omega) (zX3_notePart_f  (by omega) (by omega)) ?_
                    intro M123 J123 f123 q123
                    obtain ⟨e123_1, np123⟩ := q123
                    replace e123_1 := e123_1.symm; subst e123_1
                    have nx6 : eqI M M123 x113 (o + 1) := eq_cg nq (fun a ha => (f123 a ha).1) np123
                    have nx5 : M123 4 = M 4 := ((f123 4 (by decide)).1).trans (((f113 4 (by decide)).1).trans i103_3)
                    refine Z_iinc (L' := [_, _, _, _, _, _, _, _]) (n := 129) dX3_equal_126 rfl rfl (by decide) rfl rfl (by omega) rfl ?_
                    refine Z_goto (t := 56) dX3_equal_129 (by decide) ?_
                    refine Z_loc (L' := [some _, some _, some _, some _, some _, some _, none, none]) (lsub_same (lsub_same (lsub_same (lsub_same (lsub_same (lsub_same (lsub_none (lsub_none lsub_nil)))))))) ?_
                    exact ih56 _ _ _ _ (by omega) (by assumption) (by first | assumption | omega | decide) (by first | assumption | omega | decide) (by first | assumption | omega | decide) (by first | assumption | omega | decide) (by exact nx5) (by exact nx6)
                  have hX := bdX_md bx76
                  clear bx76
                  refine Z_iload (n := 83) dX3_equal_81 rfl rfl ?_
                  refine Z_iconst (n := 84) dX3_equal_83 rfl (by decide) ?_
                  refine Z_icmp_ne (n := 87) (t := 91) dX3_equal_84 rfl (by decide) (fun c84 => ?_) (fun c84 => ?_)
                  · refine Z_fr (fun fr76 => ?_)
                    have hN2 : netOK M76 (nA oth) := netOK_fr (cI_net hc (nA_at (by omega) (by omega))) (fr76 (nA oth) (by unfold kFc nA; omega)).1 (fr76 (nA oth + 1) (by unfold kFc nA; omega)).1 (fr76 (nA oth + 2) (by unfold kFc nA; omega)).1 (fr76 (nA oth + 3) (by unfold kFc nA; omega)).1
                    have hb2 : M76 (nA oth) 5 = M (nA oth) 5 := congrFun (fr76 (nA oth) (by unfold kFc nA; omega)).1 5
                    have hO76 : ordOK M76 := ordOK_fr hO56 (f76 4 (by decide)).1
                    obtain ⟨E76, md76⟩ := hX.1
                    have g76 := hX.2 (by omega)
                    have k76 := k776.1
                    refine Z_aload_n (n := 92) dX3_equal_91 rfl rfl ?_
                    refine Z_aload_n (n := 93) dX3_equal_92 rfl rfl ?_
                    refine Z_getA (n := 96) dX3_equal_93 rfl ffX3_11 (by first | rfl | exact nS0 (nA_at (by omega) (by omega))) (by first | rfl | exact nS0 (nA_at (by omega) (by omega))) ?_
                    refine Z_iload_n (n := 97) dX3_equal_96 rfl rfl ?_
                    refine Z_aald (n := 98) dX3_equal_97 rfl (by first | rfl | exact nS0 (nA_at (by omega) (by omega))) (by decide) (by omega) (by omega) (nA_P (by omega) (by omega)) ?_
                    refine Z_iload (n := 100) dX3_equal_98 rfl rfl ?_
                    refine Z_callVi (n := 103) [_, _] _ dX3_equal_100 rfl cwX3_129 rfl rfl (by first | rfl | exact nS0 (nA_at (by omega) (by omega))) (Nat.le_of_ble_eq_true rfl) (by refine ⟨?_, ?_, ?_, ?_⟩ <;> exact Nat.le_of_ble_eq_true rfl) (fun a h => by unfold kFc at h; unfold kStep; omega) (zX3_building_f  (by exact nA_at (by omega) (by omega)) (by exact hN2) (by omega) (by omega) (by exact hO76) (by exact hb) (by exact md76) (by exact g76.2) (by omega)) ?_
                    intro x100 M100 J100 z100 f100 q100
                    obtain ⟨e100_1, xb100, k7100, bx100⟩ := q100
                    replace e100_1 := e100_1.symm; subst e100_1
                    have hY := bdX_md bx100
                    clear bx100
                    have nq2 : eqC M M100 x76 x100 o := eq_two k776 k7100 (by omega) (by omega) g567 hY.1 hY.2
                    have nq3 : M100 4 = M 4 := ((f100 4 (by decide)).1).trans (((f76 4 (by decide)).1).trans i56_5)
                    refine Z_loc (L' := [some _, some _, some _, some _, some _, some _, some _, none]) (lsub_same (lsub_same (lsub_same (lsub_same (lsub_same (lsub_same (lsub_same (lsub_none lsub_nil)))))))) ?_
                    exact ct103 _ _ _ (by first | rfl | assumption) (by omega) (by exact nq2) (by exact nq3)
                  · have nq2 : eqC M M76 x76 (-1) o := ⟨hX.1, Or.inl ⟨by omega, rfl⟩⟩
                    have nq3 : M76 4 = M 4 := ((f76 4 (by decide)).1).trans i56_5
                    refine Z_iconst (n := 88) dX3_equal_87 rfl (by decide) ?_
                    refine Z_goto (t := 103) dX3_equal_88 (by decide) ?_
                    refine Z_loc (L' := [some _, some _, some _, some _, some _, some _, some _, none]) (lsub_same (lsub_same (lsub_same (lsub_same (lsub_same (lsub_same (lsub_same (lsub_none lsub_nil)))))))) ?_
                    exact ct103 _ _ _ (by first | rfl | assumption) (by omega) (by exact nq2) (by exact nq3)
          refine Z_loc (L' := [some _, some _, some _, some _, some _, some _, none, none]) (lsub_same (lsub_same (lsub_same (lsub_same (lsub_same (lsub_same (lsub_none (lsub_none lsub_nil)))))))) ?_
          exact lp56 _ _ _ _ _ (Nat.lt_succ_self _) (by rfl) (by first | assumption | omega | decide) (by first | assumption | omega | decide) (by first | assumption | omega | decide) (by first | assumption | omega | decide) (by exact en5) (by exact en6)
        · refine Z_aload_n (n := 47) dX3_equal_46 rfl rfl ?_
          refine Z_callVv (n := 50) [] _ dX3_equal_47 rfl cwX3_126 rfl rfl (by first | rfl | exact nS0 (nA_at (by omega) (by omega))) (Nat.le_of_ble_eq_true rfl) (by refine ⟨?_, ?_, ?_, ?_⟩ <;> exact Nat.le_of_ble_eq_true rfl) (fun _ h => h) (zX3_beginSteps  (by decide)) ?_
          intro M47 J47 f47 q47
          obtain ⟨e47_1, e47_2⟩ := q47
          replace e47_1 := e47_1.symm; subst e47_1
          replace e47_2 := e47_2.symm; subst e47_2
          have en5 : uz M 0 8 0 4 = M 4 := uz_o (by decide)
          have en6 : eqI M (uz M 0 8 0) 0 0 := eq_0 hb (fun a ha => uz_o ha) (uz_n (by decide))
          refine Z_iconst (n := 51) dX3_equal_50 rfl (by decide) ?_
          refine Z_istore (L' := [_, _, _, _, _, _, _, _]) (n := 53) dX3_equal_51 rfl (by decide) rfl rfl ?_
          refine Z_iconst (n := 54) dX3_equal_53 rfl (by decide) ?_
          refine Z_istore (L' := [_, _, _, _, _, _, _, _]) (n := 56) dX3_equal_54 rfl (by decide) rfl rfl ?_
          have lp56 : ∀ (N56 : Nat) (ap o : Int) (M56 : zM) (J56 : zJ), ((x22 - o).toNat) < N56 → (J56 = J) → (-1 ≤ ap) → (ap ≤ 251) → (0 ≤ o) → (o ≤ x22) → (M56 4 = M 4) → (eqI M M56 ap o) → TZ G mX3_equal (tl_rm 14 0 0) 0 0 kFc M J 56 [some (vR 0), some (vI net), some (vI oth), some (vI x22), some (vI ap), some (vI o), none, none] [] F1 M56 J56 (ZM G (zPost G kFc F1 M J (qI (fun x M' J' => J' = J ∧ cI M' ∧ hkp M M'))) 0 0) := by
            intro N56
            induction N56 with
            | zero => intro ap o M56 J56 hN; omega
            | succ N56 ih56 =>
              intro ap o M56 J56 hN56 i56_0 i56_1 i56_2 i56_3 i56_4 i56_5 i56_6
              refine Z_iload (n := 58) dX3_equal_56 rfl rfl ?_
              refine Z_iload_n (n := 59) dX3_equal_58 rfl rfl ?_
              refine Z_icmp_ge (n := 62) (t := 132) dX3_equal_59 rfl (by decide) (fun c59 => ?_) (fun c59 => ?_)
              · refine Z_aload_n (n := 133) dX3_equal_132 rfl rfl ?_
                refine Z_callVv (n := 136) [] _ dX3_equal_133 rfl cwX3_188 rfl rfl (by first | rfl | exact nS0 (nA_at (by omega) (by omega))) (Nat.le_of_ble_eq_true rfl) (by refine ⟨?_, ?_, ?_, ?_⟩ <;> exact Nat.le_of_ble_eq_true rfl) (fun _ h => h) (zX3_endSteps  (by decide) (by decide)) ?_
                intro M133 J133 f133 q133
                obtain ⟨e133_1, e133_2⟩ := q133
                replace e133_1 := e133_1.symm; subst e133_1
                replace e133_2 := e133_2.symm; subst e133_2
                refine Z_iload (n := 138) dX3_equal_136 rfl rfl ?_
                refine Z_iconst (n := 139) dX3_equal_138 rfl (by decide) ?_
                refine Z_icmp_ne (n := 142) (t := 147) dX3_equal_139 rfl (by decide) (fun c139 => ?_) (fun c139 => ?_)
                · refine Z_iload (n := 149) dX3_equal_147 rfl rfl ?_
                  refine Z_if_ne (n := 152) (t := 156) dX3_equal_149 rfl (by decide) (fun c149 => ?_) (fun c149 => ?_)
                  · refine Z_iconst (n := 157) dX3_equal_156 rfl (by decide) ?_
                    refine Z_fr (fun frR => ?_)
                    refine Z_iret dX3_equal_157 rfl ?_
                    have hq := mid_end (M3 := fillz (uz M56 0 7 0) 13 40 (-1)) i56_6.1 (fun a h1 h2 => by rw [fillz_o h2, uz_o h1]) (fun g a b => fillz_a a (by omega)) (by rw [fillz_o (by decide), uz_s])
                    exact ⟨i56_0, cI_kp hc hq frR, hq⟩
                  · refine Z_iconst (n := 153) dX3_equal_152 rfl (by decide) ?_
                    refine Z_goto (t := 157) dX3_equal_153 (by decide) ?_
                    refine Z_fr (fun frR => ?_)
                    refine Z_iret dX3_equal_157 rfl ?_
                    have hq := mid_end (M3 := fillz (uz M56 0 7 0) 13 40 (-1)) i56_6.1 (fun a h1 h2 => by rw [fillz_o h2, uz_o h1]) (fun g a b => fillz_a a (by omega)) (by rw [fillz_o (by decide), uz_s])
                    exact ⟨i56_0, cI_kp hc hq frR, hq⟩
                · refine Z_bipush (n := 144) dX3_equal_142 rfl (by decide) (by decide) ?_
                  refine Z_goto (t := 157) dX3_equal_144 (by decide) ?_
                  refine Z_fr (fun frR => ?_)
                  refine Z_iret dX3_equal_157 rfl ?_
                  have hq := mid_end (M3 := fillz (uz M56 0 7 0) 13 40 (-1)) i56_6.1 (fun a h1 h2 => by rw [fillz_o h2, uz_o h1]) (fun g a b => fillz_a a (by omega)) (by rw [fillz_o (by decide), uz_s])
                  exact ⟨i56_0, cI_kp hc hq frR, hq⟩
              · refine Z_iload (n := 64) dX3_equal_62 rfl rfl ?_
                refine Z_if_ne (n := 67) (t := 132) dX3_equal_64 rfl (by decide) (fun c64 => ?_) (fun c64 => ?_)
                · refine Z_aload_n (n := 133) dX3_equal_132 rfl rfl ?_
                  refine Z_callVv (n := 136) [] _ dX3_equal_133 rfl cwX3_188 rfl rfl (by first | rfl | exact nS0 (nA_at (by omega) (by omega))) (Nat.le_of_ble_eq_true rfl) (by refine ⟨?_, ?_, ?_, ?_⟩ <;> exact Nat.le_of_ble_eq_true rfl) (fun _ h => h) (zX3_endSteps  (by decide) (by decide)) ?_
                  intro M133 J133 f133 q133
                  obtain ⟨e133_1, e133_2⟩ := q133
                  replace e133_1 := e133_1.symm; subst e133_1
                  replace e133_2 := e133_2.symm; subst e133_2
                  refine Z_iload (n := 138) dX3_equal_136 rfl rfl ?_
                  refine Z_iconst (n := 139) dX3_equal_138 rfl (by decide) ?_
                  refine Z_icmp_ne (n := 142) (t := 147) dX3_equal_139 rfl (by decide) (fun c139 => ?_) (fun c139 => ?_)
                  · refine Z_iload (n := 149) dX3_equal_147 rfl rfl ?_
                    refine Z_if_ne (n := 152) (t := 156) dX3_equal_149 rfl (by decide) (fun c149 => ?_) (fun c149 => ?_)
                    · refine Z_iconst (n := 157) dX3_equal_156 rfl (by decide) ?_
                      refine Z_fr (fun frR => ?_)
                      refine Z_iret dX3_equal_157 rfl ?_
                      have hq := mid_end (M3 := fillz (uz M56 0 7 0) 13 40 (-1)) i56_6.1 (fun a h1 h2 => by rw [fillz_o h2, uz_o h1]) (fun g a b => fillz_a a (by omega)) (by rw [fillz_o (by decide), uz_s])
                      exact ⟨i56_0, cI_kp hc hq frR, hq⟩
                    · refine Z_iconst (n := 153) dX3_equal_152 rfl (by decide) ?_
                      refine Z_goto (t := 157) dX3_equal_153 (by decide) ?_
                      refine Z_fr (fun frR => ?_)
                      refine Z_iret dX3_equal_157 rfl ?_
                      have hq := mid_end (M3 := fillz (uz M56 0 7 0) 13 40 (-1)) i56_6.1 (fun a h1 h2 => by rw [fillz_o h2, uz_o h1]) (fun g a b => fillz_a a (by omega)) (by rw [fillz_o (by decide), uz_s])
                      exact ⟨i56_0, cI_kp hc hq frR, hq⟩
                  · refine Z_bipush (n := 144) dX3_equal_142 rfl (by decide) (by decide) ?_
                    refine Z_goto (t := 157) dX3_equal_144 (by decide) ?_
                    refine Z_fr (fun frR => ?_)
                    refine Z_iret dX3_equal_157 rfl ?_
                    have hq := mid_end (M3 := fillz (uz M56 0 7 0) 13 40 (-1)) i56_6.1 (fun a h1 h2 => by rw [fillz_o h2, uz_o h1]) (fun g a b => fillz_a a (by omega)) (by rw [fillz_o (by decide), uz_s])
                    exact ⟨i56_0, cI_kp hc hq frR, hq⟩
                · refine Z_fr (fun fr56 => ?_)
                  refine Z_rg 0 7 rfl (fun g07 g07b => ?_)
                  have hN1 : netOK M56 (nA net) := netOK_fr (cI_net hc (nA_at (by omega) (by omega))) (fr56 (nA net) (by unfold kFc nA; omega)).1 (fr56 (nA net + 1) (by unfold kFc nA; omega)).1 (fr56 (nA net + 2) (by unfold kFc nA; omega)).1 (fr56 (nA net + 3) (by unfold kFc nA; omega)).1
                  have hb1 : M56 (nA net) 5 = M (nA net) 5 := congrFun (fr56 (nA net) (by unfold kFc nA; omega)).1 5
                  have hO56 : ordOK M56 := ordOK_fr hc.2.1 i56_5
                  obtain ⟨⟨E56, md56⟩, g56z⟩ := i56_6
                  have g56 := g56z (by omega)
                  have g567 := g56.2
                  clear g56z
                  refine Z_aload_n (n := 68) dX3_equal_67 rfl rfl ?_
                  refine Z_aload_n (n := 69) dX3_equal_68 rfl rfl ?_
                  refine Z_getA (n := 72) dX3_equal_69 rfl ffX3_11 (by first | rfl | exact nS0 (nA_at (by omega) (by omega))) (by first | rfl | exact nS0 (nA_at (by omega) (by omega))) ?_
                  refine Z_iload_n (n := 73) dX3_equal_72 rfl rfl ?_
                  refine Z_aald (n := 74) dX3_equal_73 rfl (by first | rfl | exact nS0 (nA_at (by omega) (by omega))) (by decide) (by omega) (by omega) (nA_P (by omega) (by omega)) ?_
                  refine Z_iload (n := 76) dX3_equal_74 rfl rfl ?_
                  refine Z_callVi (n := 79) [_, _] _ dX3_equal_76 rfl cwX3_129 rfl rfl (by first | rfl | exact nS0 (nA_at (by omega) (by omega))) (Nat.le_of_ble_eq_true rfl) (by refine ⟨?_, ?_, ?_, ?_⟩ <;> exact Nat.le_of_ble_eq_true rfl) (fun a h => by unfold kFc at h; unfold kStep; omega) (zX3_building_f  (by exact nA_at (by omega) (by omega)) (by exact hN1) (by omega) (by omega) (by exact hO56) (by exact hb) (by exact md56) (by exact g56.1) (by omega)) ?_
                  intro x76 M76 J76 z76 f76 q76
                  obtain ⟨e76_1, xb76, k776, bx76⟩ := q76
                  replace e76_1 := e76_1.symm; subst e76_1
                  refine Z_istore (L' := [_, _, _, _, _, _, _, _]) (n := 81) dX3_equal_79 rfl (by decide) rfl rfl ?_
                  have ct103 : ∀ (q : Int) (M103 : zM) (J103 : zJ), (J103 = J) → (-1 ≤ q ∧ q ≤ 251) → (eqC M M103 x76 q o) → (M103 4 = M 4) → TZ G mX3_equal (tl_rm 14 0 0) 0 0 kFc M J 103 [some (vR 0), some (vI net), some (vI oth), some (vI x22), some (vI ap), some (vI o), some (vI x76), none] [vI q] F1 M103 J103 (ZM G (zPost G kFc F1 M J (qI (fun x M' J' => J' = J ∧ cI M' ∧ hkp M M'))) 0 0) := by
                    intro q M103 J103 i103_0 i103_1 i103_2 i103_3
                    refine Z_istore (L' := [_, _, _, _, _, _, _, _]) (n := 105) dX3_equal_103 rfl (by decide) rfl rfl ?_
                    have hpq := eq_C i103_2
                    obtain ⟨E3, md103⟩ := i103_2.1
                    have nb1 := mid_no md103
                    obtain ⟨S1, hS1, hR1⟩ := md103.1
                    refine Z_aload_n (n := 106) dX3_equal_105 rfl rfl ?_
                    refine Z_bipush (n := 108) dX3_equal_106 rfl (by decide) (by decide) ?_
                    refine Z_iload (n := 110) dX3_equal_108 rfl rfl ?_
                    refine Z_iload (n := 112) dX3_equal_110 rfl rfl ?_
                    refine Z_iconst (n := 113) dX3_equal_112 rfl (by decide) ?_
                    refine Z_callVi (n := 116) [_, _, _, _] _ dX3_equal_113 rfl cwX3_142 rfl rfl (by first | rfl | exact nS0 (nA_at (by omega) (by omega))) (Nat.le_of_ble_eq_true rfl) (by refine ⟨?_, ?_, ?_, ?_⟩ <;> exact Nat.le_of_ble_eq_true rfl) (fun a h => by unfold kFc at h; unfold kSt1; omega) (zX3_kindStep_f  (by omega) (by omega) (by exact hpq.1) (by exact hpq.2) (by exact Or.inr (Or.inl rfl)) (by exact hS1) (by exact hR1) (by exact nb1)) ?_
                    intro x113 M113 J113 z113 f113 q113
                    obtain ⟨e113_1, sq113⟩ := q113
                    replace e113_1 := e113_1.symm; subst e113_1
                    obtain ⟨nq, nbd⟩ := eq_step i103_2 sq113 (f113 12 (by decide)).1 (f113 13 (by decide)).1 (f113 15 (by decide)).1
                    refine Z_istore (L' := [_, _, _, _, _, _, _, _]) (n := 118) dX3_equal_116 rfl (by decide) rfl rfl ?_
                    refine Z_aload_n (n := 119) dX3_equal_118 rfl rfl ?_
                    refine Z_iload (n := 121) dX3_equal_119 rfl rfl ?_
                    refine Z_iload (n := 123) dX3_equal_121 rfl rfl ?_
                    refine Z_callVv (n := 126) [_, _] _ dX3_equal_123 rfl cwX3_184 rfl rfl (by first | rfl | exact nS0 (nA_at (by omega) (by omega))) (Nat.le_of_ble_eq_true rfl) (by refine ⟨?_, ?_, ?_, ?_⟩ <;> exact Nat.le_of_ble_eq_true rfl) (fun a h => by unfold kFc at h; unfold k0; omega) (zX3_notePart_f  (by omega) (by omega)) ?_
                    intro M123 J123 f123 q123
                    obtain ⟨e123_1, np123⟩ := q123
                    replace e123_1 := e123_1.symm; subst e123_1
                    have nx6 : eqI M M123 x113 (o + 1) := eq_cg nq (fun a ha => (f123 a ha).1) np123
                    have nx5 : M123 4 = M 4 := ((f123 4 (by decide)).1).trans (((f113 4 (by decide)).1).trans i103_3)
                    refine Z_iinc (L' := [_, _, _, _, _, _, _, _]) (n := 129) dX3_equal_126 rfl rfl (by decide) rfl rfl (by omega) rfl ?_
                    refine Z_goto (t := 56) dX3_equal_129 (by decide) ?_
                    refine Z_loc (L' := [some _, some _, some _, some _, some _, some _, none, none]) (lsub_same (lsub_same (lsub_same (lsub_same (lsub_same (lsub_same (lsub_none (lsub_none lsub_nil)))))))) ?_
                    exact ih56 _ _ _ _ (by omega) (by assumption) (by first | assumption | omega | decide) (by first | assumption | omega | decide) (by first | assumption | omega | decide) (by first | assumption | omega | decide) (by exact nx5) (by exact nx6)
                  have hX := bdX_md bx76
                  clear bx76
                  refine Z_iload (n := 83) dX3_equal_81 rfl rfl ?_
                  refine Z_iconst (n := 84) dX3_equal_83 rfl (by decide) ?_
                  refine Z_icmp_ne (n := 87) (t := 91) dX3_equal_84 rfl (by decide) (fun c84 => ?_) (fun c84 => ?_)
                  · refine Z_fr (fun fr76 => ?_)
                    have hN2 : netOK M76 (nA oth) := netOK_fr (cI_net hc (nA_at (by omega) (by omega))) (fr76 (nA oth) (by unfold kFc nA; omega)).1 (fr76 (nA oth + 1) (by unfold kFc nA; omega)).1 (fr76 (nA oth + 2) (by unfold kFc nA; omega)).1 (fr76 (nA oth + 3) (by unfold kFc nA; omega)).1
                    have hb2 : M76 (nA oth) 5 = M (nA oth) 5 := congrFun (fr76 (nA oth) (by unfold kFc nA; omega)).1 5
                    have hO76 : ordOK M76 := ordOK_fr hO56 (f76 4 (by decide)).1
                    obtain ⟨E76, md76⟩ := hX.1
                    have g76 := hX.2 (by omega)
                    have k76 := k776.1
                    refine Z_aload_n (n := 92) dX3_equal_91 rfl rfl ?_
                    refine Z_aload_n (n := 93) dX3_equal_92 rfl rfl ?_
                    refine Z_getA (n := 96) dX3_equal_93 rfl ffX3_11 (by first | rfl | exact nS0 (nA_at (by omega) (by omega))) (by first | rfl | exact nS0 (nA_at (by omega) (by omega))) ?_
                    refine Z_iload_n (n := 97) dX3_equal_96 rfl rfl ?_
                    refine Z_aald (n := 98) dX3_equal_97 rfl (by first | rfl | exact nS0 (nA_at (by omega) (by omega))) (by decide) (by omega) (by omega) (nA_P (by omega) (by omega)) ?_
                    refine Z_iload (n := 100) dX3_equal_98 rfl rfl ?_
                    refine Z_callVi (n := 103) [_, _] _ dX3_equal_100 rfl cwX3_129 rfl rfl (by first | rfl | exact nS0 (nA_at (by omega) (by omega))) (Nat.le_of_ble_eq_true rfl) (by refine ⟨?_, ?_, ?_, ?_⟩ <;> exact Nat.le_of_ble_eq_true rfl) (fun a h => by unfold kFc at h; unfold kStep; omega) (zX3_building_f  (by exact nA_at (by omega) (by omega)) (by exact hN2) (by omega) (by omega) (by exact hO76) (by exact hb) (by exact md76) (by exact g76.2) (by omega)) ?_
                    intro x100 M100 J100 z100 f100 q100
                    obtain ⟨e100_1, xb100, k7100, bx100⟩ := q100
                    replace e100_1 := e100_1.symm; subst e100_1
                    have hY := bdX_md bx100
                    clear bx100
                    have nq2 : eqC M M100 x76 x100 o := eq_two k776 k7100 (by omega) (by omega) g567 hY.1 hY.2
                    have nq3 : M100 4 = M 4 := ((f100 4 (by decide)).1).trans (((f76 4 (by decide)).1).trans i56_5)
                    refine Z_loc (L' := [some _, some _, some _, some _, some _, some _, some _, none]) (lsub_same (lsub_same (lsub_same (lsub_same (lsub_same (lsub_same (lsub_same (lsub_none lsub_nil)))))))) ?_
                    exact ct103 _ _ _ (by first | rfl | assumption) (by omega) (by exact nq2) (by exact nq3)
                  · have nq2 : eqC M M76 x76 (-1) o := ⟨hX.1, Or.inl ⟨by omega, rfl⟩⟩
                    have nq3 : M76 4 = M 4 := ((f76 4 (by decide)).1).trans i56_5
                    refine Z_iconst (n := 88) dX3_equal_87 rfl (by decide) ?_
                    refine Z_goto (t := 103) dX3_equal_88 (by decide) ?_
                    refine Z_loc (L' := [some _, some _, some _, some _, some _, some _, some _, none]) (lsub_same (lsub_same (lsub_same (lsub_same (lsub_same (lsub_same (lsub_same (lsub_none lsub_nil)))))))) ?_
                    exact ct103 _ _ _ (by first | rfl | assumption) (by omega) (by exact nq2) (by exact nq3)
          refine Z_loc (L' := [some _, some _, some _, some _, some _, some _, none, none]) (lsub_same (lsub_same (lsub_same (lsub_same (lsub_same (lsub_same (lsub_none (lsub_none lsub_nil)))))))) ?_
          exact lp56 _ _ _ _ _ (Nat.lt_succ_self _) (by rfl) (by first | assumption | omega | decide) (by first | assumption | omega | decide) (by first | assumption | omega | decide) (by first | assumption | omega | decide) (by exact en5) (by exact en6)
      · refine Z_bipush (n := 41) dX3_equal_39 rfl (by decide) (by decide) ?_
        refine Z_iret dX3_equal_41 rfl ?_
        exact ⟨rfl, hc, hkp_0 hb⟩
    · refine Z_iconst (n := 15) dX3_equal_14 rfl (by decide) ?_
      refine Z_iret dX3_equal_15 rfl ?_
      exact ⟨rfl, hc, hkp_0 hb⟩
end
section
/-! ===== the reference: equal keeps the handles ===== -/
def eqR (M : zM) (J : zJ) (M' : zM) (J' : zJ) : Prop := (∀ j : Int, j < 12 → M' 43 j = M 43 j) ∧ (∀ j : Int, j < 48 → J' 44 j = J 44 j) ∧ M' 31 8 = M 31 8
theorem eqR_h {M M' : zM} {J J' : zJ} (h : hdl M M') (b : ∀ j : Int, j < 48 → J' 44 j = J 44 j) : eqR M J M' J' := ⟨fun j hj => (h.1 j hj).2, b, h.2.2 8 (by decide) (by decide) (by decide) (by decide)⟩
theorem eqR_u {M M' : zM} {J J' : zJ} {v w : Int} (h : eqR M J M' J') : eqR M J (uz (uz M' 31 33 v) 31 34 w) J' := ⟨fun j hj => by rw [uz_oo (by decide), uz_oo (by decide)]; exact h.1 j hj, h.2.1, by rw [uz_n (by decide), uz_n (by decide)]; exact h.2.2⟩
set_option maxRecDepth 20000 in
theorem zX4_equal_g {G : tl_G} {M : zM} {J : zJ} {net oth : Int} (hr : RI M J) (hk : M 31 27 ≤ 2000000000) (hW : whOK J) : ZN G yX4_equal mX4_equal 6 kRg [vR 31, vI net, vI oth] F1 M J (qI (fun x M' J' => RI M' J' ∧ M' 31 27 ≤ M 31 27 + 400 ∧ eqR M J M' J')) := by
  refine ZN_of (L := [_, _, _, _, _, _, _, _]) (by decide) rfl rfl (Nat.le_of_ble_eq_true rfl) rfl (fun hav => ?_)
  refine Z_ok (fun ok0 => ?_)
  refine Z_iload_n (n := 1) dX4_equal_0 rfl rfl ?_
  refine Z_callSi (n := 4) [_] _ dX4_equal_1 rfl cwX4_116 rfl rfl (Nat.le_of_ble_eq_true rfl) (by refine ⟨?_, ?_, ?_, ?_⟩ <;> exact Nat.le_of_ble_eq_true rfl) (fun _ _ => trivial) (zX4_isNet  ) ?_
  intro x1 M1 J1 z1 f1 q1
  obtain ⟨e1_1, e1_2, h1⟩ := q1
  replace e1_1 := e1_1.symm; subst e1_1
  replace e1_2 := e1_2.symm; subst e1_2
  refine Z_if_eq (n := 7) (t := 14) dX4_equal_4 rfl (by decide) (fun c4 => ?_) (fun c4 => ?_)
  · refine Z_iconst (n := 15) dX4_equal_14 rfl (by decide) ?_
    refine Z_iret dX4_equal_15 rfl ?_
    exact ⟨hr, by omega, eqR_h hdl_0 (fun _ _ => rfl)⟩
  · refine Z_iload_n (n := 8) dX4_equal_7 rfl rfl ?_
    refine Z_callSi (n := 11) [_] _ dX4_equal_8 rfl cwX4_116 rfl rfl (Nat.le_of_ble_eq_true rfl) (by refine ⟨?_, ?_, ?_, ?_⟩ <;> exact Nat.le_of_ble_eq_true rfl) (fun _ _ => trivial) (zX4_isNet  ) ?_
    intro x8 M8 J8 z8 f8 q8
    obtain ⟨e8_1, e8_2, h8⟩ := q8
    replace e8_1 := e8_1.symm; subst e8_1
    replace e8_2 := e8_2.symm; subst e8_2
    refine Z_if_ne (n := 14) (t := 16) dX4_equal_11 rfl (by decide) (fun c11 => ?_) (fun c11 => ?_)
    · refine Z_aload_n (n := 17) dX4_equal_16 rfl rfl ?_
      refine Z_getA (n := 20) dX4_equal_17 rfl ffX4_13 rfl rfl ?_
      refine Z_iload_n (n := 21) dX4_equal_20 rfl rfl ?_
      refine Z_iald (n := 22) dX4_equal_21 rfl rfl rfl (by first | decide | assumption) (by omega) (by omega) (fun r21 s21 => ?_)
      refine Z_aload_n (n := 23) dX4_equal_22 rfl rfl ?_
      refine Z_getA (n := 26) dX4_equal_23 rfl ffX4_13 rfl rfl ?_
      refine Z_iload_n (n := 27) dX4_equal_26 rfl rfl ?_
      refine Z_iald (n := 28) dX4_equal_27 rfl rfl rfl (by first | decide | assumption) (by omega) (by omega) (fun r27 s27 => ?_)
      refine Z_icmp_eq (n := 31) (t := 34) dX4_equal_28 rfl (by decide) (fun c28 => ?_) (fun c28 => ?_)
      · refine Z_rg 33 net rfl (fun g33 g33b => ?_)
        refine Z_rg 33 oth rfl (fun o33 o33b => ?_)
        refine Z_aload_n (n := 35) dX4_equal_34 rfl rfl ?_
        refine Z_getA (n := 38) dX4_equal_35 rfl ffX4_13 rfl rfl ?_
        refine Z_iload_n (n := 39) dX4_equal_38 rfl rfl ?_
        refine Z_iald (n := 40) dX4_equal_39 rfl rfl rfl (by first | decide | assumption) (by omega) (by omega) (fun r39 s39 => ?_)
        refine Z_if_le (n := 43) (t := 47) dX4_equal_40 rfl (by decide) (fun c40 => ?_) (fun c40 => ?_)
        · have t49 := hr.1
          have d49 := hdl_0 (M := M)
          have m49 : M 31 27 ≤ M 31 27 + 82 * 0 := by omega
          have h49 := hr.2.1
          refine Z_iconst (n := 48) dX4_equal_47 rfl (by decide) ?_
          refine Z_istore_n (L' := [_, _, _, _, _, _, _, _]) (n := 49) dX4_equal_48 rfl (by decide) rfl rfl ?_
          have lp49 : ∀ (N49 : Nat) (o : Int) (M49 : zM) (J49 : zJ), ((4 - o).toNat) < N49 → (0 ≤ o) → (o ≤ 4) → (TI M49 J49) → (hdl M M49) → (M49 31 27 ≤ M 31 27 + 82 * o) → (∀ j : Int, j < 48 → J49 44 j = J 44 j) → (hnd0 M49) → TZ G mX4_equal (tl_rm 6 0 0) 0 0 kRg M J 49 [some (vR 31), some (vI net), some (vI oth), some (vI o), none, none, none, none] [] F1 M49 J49 (ZM G (zPost G kRg F1 M J (qI (fun x M' J' => RI M' J' ∧ M' 31 27 ≤ M 31 27 + 400 ∧ eqR M J M' J'))) 0 0) := by
            intro N49
            induction N49 with
            | zero => intro o M49 J49 hN; omega
            | succ N49 ih49 =>
              intro o M49 J49 hN49 i49_0 i49_1 i49_2 i49_3 i49_4 i49_5 i49_6
              refine Z_iload_n (n := 50) dX4_equal_49 rfl rfl ?_
              refine Z_aload_n (n := 51) dX4_equal_50 rfl rfl ?_
              refine Z_getA (n := 54) dX4_equal_51 rfl ffX4_13 rfl rfl ?_
              refine Z_iload_n (n := 55) dX4_equal_54 rfl rfl ?_
              refine Z_iald (n := 56) dX4_equal_55 rfl rfl rfl (by first | decide | assumption) (by omega) (by omega) (fun r55 s55 => ?_)
              refine Z_icmp_ge (n := 59) (t := 212) dX4_equal_56 rfl (by decide) (fun c56 => ?_) (fun c56 => ?_)
              · refine Z_iconst (n := 213) dX4_equal_212 rfl (by decide) ?_
                refine Z_fr (fun frR => ?_)
                refine Z_iret dX4_equal_213 rfl ?_
                have u49 : M49 31 24 = M 31 24 := use_det hr.1 i49_2 hr.2.1 i49_6 i49_3 ok0
                have r49 : M49 31 8 = M 31 8 := i49_3.2.2 8 (by decide) (by decide) (by decide) (by decide)
                have u0 := hr.2.2.1
                exact ⟨RI_mk hr frR i49_2 i49_6 (by omega), by omega, eqR_h i49_3 i49_5⟩
              · have ct172 : ∀ (a b y p : Int) (M172 : zM) (J172 : zJ), (TI M172 J172) → (hdl M M172) → (M172 31 27 ≤ M 31 27 + (82 * o + 82)) → (∀ j : Int, j < 48 → J172 44 j = J 44 j) → TZ G mX4_equal (tl_rm 6 0 0) 0 0 kRg M J 172 [some (vR 31), some (vI net), some (vI oth), some (vI o), some (vI a), some (vI b), some (vI y), some (vI p)] [] F1 M172 J172 (ZM G (zPost G kRg F1 M J (qI (fun x M' J' => RI M' J' ∧ M' 31 27 ≤ M 31 27 + 400 ∧ eqR M J M' J'))) 0 0) := by
                  intro a b y p M172 J172 i172_0 i172_1 i172_2 i172_3
                  refine Z_aload_n (n := 173) dX4_equal_172 rfl rfl ?_
                  refine Z_callVv (n := 176) [] _ dX4_equal_173 rfl cwX4_185 rfl rfl rfl (Nat.le_of_ble_eq_true rfl) (by refine ⟨?_, ?_, ?_, ?_⟩ <;> exact Nat.le_of_ble_eq_true rfl) (fun a h => by unfold kRg at h; unfold kRv; omega) (zX4_clearHand  (by exact i172_0)) ?_
                  intro M173 J173 f173 q173
                  obtain ⟨ti173, hn173, am173, au173, hd173⟩ := q173
                  have hd2 := hdl_t i172_1 hd173
                  have b173 : ∀ j : Int, j < 48 → J173 44 j = J 44 j := fun j hj => (congrFun (f173 44 (by decide)).2 j).trans (i172_3 j hj)
                  have u173 : M173 31 24 = M 31 24 := use_det hr.1 ti173 hr.2.1 hn173 hd2 ok0
                  have r173 : M173 31 8 = M 31 8 := hd2.2.2 8 (by decide) (by decide) (by decide) (by decide)
                  have u0 := hr.2.2.1
                  refine Z_iload (n := 178) dX4_equal_176 rfl rfl ?_
                  refine Z_if_ne (n := 181) (t := 184) dX4_equal_178 rfl (by decide) (fun c178 => ?_) (fun c178 => ?_)
                  · refine Z_iload (n := 186) dX4_equal_184 rfl rfl ?_
                    refine Z_if_lt (n := 189) (t := 206) dX4_equal_186 rfl (by decide) (fun c186 => ?_) (fun c186 => ?_)
                    · refine Z_iinc (L' := [_, _, _, _, _, _, _, _]) (n := 209) dX4_equal_206 rfl rfl (by decide) rfl rfl (by omega) rfl ?_
                      refine Z_goto (t := 49) dX4_equal_209 (by decide) ?_
                      refine Z_loc (L' := [some _, some _, some _, some _, none, none, none, none]) (lsub_same (lsub_same (lsub_same (lsub_same (lsub_none (lsub_none (lsub_none (lsub_none lsub_nil)))))))) ?_
                      exact ih49 _ _ _ (by omega) (by first | assumption | omega | decide) (by first | assumption | omega | decide) (by exact ti173) (by exact hd2) (by omega) (by exact b173) (by exact hn173)
                    · refine Z_aload_n (n := 190) dX4_equal_189 rfl rfl ?_
                      refine Z_iload_n (n := 191) dX4_equal_190 rfl rfl ?_
                      refine Z_putI (n := 194) (ki := 33) dX4_equal_191 rfl ffX4_106 rfl (by decide) rfl rfl (by first | omega | exact (show zI o from by omega).1) (by first | omega | exact (show zI o from by omega).1) (by decide) ?_
                      refine Z_aload_n (n := 195) dX4_equal_194 rfl rfl ?_
                      refine Z_aload_n (n := 196) dX4_equal_195 rfl rfl ?_
                      refine Z_iload (n := 198) dX4_equal_196 rfl rfl ?_
                      refine Z_callVi (n := 201) [_] _ dX4_equal_198 rfl cwX4_250 rfl rfl rfl (Nat.le_of_ble_eq_true rfl) (by refine ⟨?_, ?_, ?_, ?_⟩ <;> exact Nat.le_of_ble_eq_true rfl) (fun _ _ => trivial) (zX4_assignmentAt  ) ?_
                      intro x198 M198 J198 z198 f198 q198
                      obtain ⟨e198_1, e198_2, h198⟩ := q198
                      replace e198_1 := e198_1.symm; subst e198_1
                      replace e198_2 := e198_2.symm; subst e198_2
                      refine Z_putI (n := 204) (ki := 34) dX4_equal_201 rfl ffX4_109 rfl (by decide) rfl rfl (by first | exact z198.1 | exact z198.2) (by first | exact z198.1 | exact z198.2) (by decide) ?_
                      refine Z_iconst (n := 205) dX4_equal_204 rfl (by decide) ?_
                      refine Z_fr (fun frR => ?_)
                      refine Z_iret dX4_equal_205 rfl ?_
                      exact ⟨RI_mk hr frR (TI_31 (TI_31 ti173 (by decide) (by decide) (by decide)) (by decide) (by decide) (by decide)) (fun g a b => by rw [uz_oo (by decide), uz_oo (by decide)]; exact hn173 g a b) (by rw [uz_n (by decide), uz_n (by decide), uz_n (by decide), uz_n (by decide)]; omega), by rw [uz_n (by decide), uz_n (by decide)]; omega, eqR_u (eqR_h hd2 b173)⟩
                  · refine Z_bipush (n := 183) dX4_equal_181 rfl (by decide) (by decide) ?_
                    refine Z_fr (fun frR => ?_)
                    refine Z_iret dX4_equal_183 rfl ?_
                    exact ⟨RI_mk hr frR ti173 hn173 (by omega), by omega, eqR_h hd2 b173⟩
                have ct154 : ∀ (a b y : Int) (M154 : zM) (J154 : zJ), (TI M154 J154) → (hdl M M154) → (M154 31 27 ≤ M 31 27 + (82 * o + 82)) → (∀ j : Int, j < 48 → J154 44 j = J 44 j) → TZ G mX4_equal (tl_rm 6 0 0) 0 0 kRg M J 154 [some (vR 31), some (vI net), some (vI oth), some (vI o), some (vI a), some (vI b), some (vI y), none] [] F1 M154 J154 (ZM G (zPost G kRg F1 M J (qI (fun x M' J' => RI M' J' ∧ M' 31 27 ≤ M 31 27 + 400 ∧ eqR M J M' J'))) 0 0) := by
                  intro a b y M154 J154 i154_0 i154_1 i154_2 i154_3
                  refine Z_iload (n := 156) dX4_equal_154 rfl rfl ?_
                  refine Z_if_eq (n := 159) (t := 169) dX4_equal_156 rfl (by decide) (fun c156 => ?_) (fun c156 => ?_)
                  · have q0 := i154_0
                    have q1 := i154_1
                    have q3 := i154_3
                    refine Z_iconst (n := 170) dX4_equal_169 rfl (by decide) ?_
                    refine Z_istore (L' := [_, _, _, _, _, _, _, _]) (n := 172) dX4_equal_170 rfl (by decide) rfl rfl ?_
                    refine Z_loc (L' := [some _, some _, some _, some _, some _, some _, some _, some _]) (lsub_same (lsub_same (lsub_same (lsub_same (lsub_same (lsub_same (lsub_same (lsub_same lsub_nil)))))))) ?_
                    exact ct172 _ _ _ _ _ _ (by exact q0) (by exact q1) (by omega) (by exact q3)
                  · have q0 := i154_0
                    have q1 := i154_1
                    have q3 := i154_3
                    refine Z_aload_n (n := 160) dX4_equal_159 rfl rfl ?_
                    refine Z_bipush (n := 162) dX4_equal_160 rfl (by decide) (by decide) ?_
                    refine Z_iconst (n := 163) dX4_equal_162 rfl (by decide) ?_
                    refine Z_callVi (n := 166) [_, _] _ dX4_equal_163 rfl cwX4_246 rfl rfl rfl (Nat.le_of_ble_eq_true rfl) (by refine ⟨?_, ?_, ?_, ?_⟩ <;> exact Nat.le_of_ble_eq_true rfl) (fun _ _ => trivial) (zX4_leastOf  (by omega) (by omega)) ?_
                    intro x163 M163 J163 z163 f163 q163
                    obtain ⟨e163_1, e163_2, h163⟩ := q163
                    replace e163_1 := e163_1.symm; subst e163_1
                    replace e163_2 := e163_2.symm; subst e163_2
                    refine Z_goto (t := 170) dX4_equal_166 (by decide) ?_
                    refine Z_istore (L' := [_, _, _, _, _, _, _, _]) (n := 172) dX4_equal_170 rfl (by decide) rfl rfl ?_
                    refine Z_loc (L' := [some _, some _, some _, some _, some _, some _, some _, some _]) (lsub_same (lsub_same (lsub_same (lsub_same (lsub_same (lsub_same (lsub_same (lsub_same lsub_nil)))))))) ?_
                    exact ct172 _ _ _ _ _ _ (by exact q0) (by exact q1) (by omega) (by exact q3)
                have ct126 : ∀ (a b y : Int) (M126 : zM) (J126 : zJ), (TI M126 J126) → (hdl M M126) → (M126 31 27 ≤ M 31 27 + (82 * o + 81)) → (∀ j : Int, j < 48 → J126 44 j = J 44 j) → (0 ≤ b ∧ b < 40) → (y = 0 ∨ (M126 43 55 = 0 ∧ M126 31 24 ≤ M126 31 8)) → TZ G mX4_equal (tl_rm 6 0 0) 0 0 kRg M J 126 [some (vR 31), some (vI net), some (vI oth), some (vI o), some (vI a), some (vI b), some (vI y), none] [] F1 M126 J126 (ZM G (zPost G kRg F1 M J (qI (fun x M' J' => RI M' J' ∧ M' 31 27 ≤ M 31 27 + 400 ∧ eqR M J M' J'))) 0 0) := by
                  intro a b y M126 J126 i126_0 i126_1 i126_2 i126_3 i126_4 i126_5
                  
                  refine Z_iload (n := 128) dX4_equal_126 rfl rfl ?_
                  refine Z_if_eq (n := 131) (t := 154) dX4_equal_128 rfl (by decide) (fun c128 => ?_) (fun c128 => ?_)
                  · have q0 := i126_0
                    have q1 := i126_1
                    have q3 := i126_3
                    refine Z_loc (L' := [some _, some _, some _, some _, some _, some _, some _, none]) (lsub_same (lsub_same (lsub_same (lsub_same (lsub_same (lsub_same (lsub_same (lsub_none lsub_nil)))))))) ?_
                    exact ct154 _ _ _ _ _ (by exact q0) (by exact q1) (by omega) (by exact q3)
                  · have hy := i126_5.resolve_left c128
                    have hyb := hy.2
                    refine Z_rg 31 8 rfl (fun g8d g8db => ?_)
                    refine Z_aload_n (n := 132) dX4_equal_131 rfl rfl ?_
                    refine Z_bipush (n := 134) dX4_equal_132 rfl (by decide) (by decide) ?_
                    refine Z_bipush (n := 136) dX4_equal_134 rfl (by decide) (by decide) ?_
                    refine Z_bipush (n := 138) dX4_equal_136 rfl (by decide) (by decide) ?_
                    refine Z_bipush (n := 140) dX4_equal_138 rfl (by decide) (by decide) ?_
                    refine Z_iload (n := 142) dX4_equal_140 rfl rfl ?_
                    refine Z_iadd (n := 143) dX4_equal_142 rfl (by omega) ?_
                    refine Z_callVv (n := 146) [_, _, _, _] _ dX4_equal_143 rfl cwX4_204 rfl rfl rfl (Nat.le_of_ble_eq_true rfl) (by refine ⟨?_, ?_, ?_, ?_⟩ <;> exact Nat.le_of_ble_eq_true rfl) (fun a h => by unfold kRg at h; unfold kBits; omega) (zX4_makeOf  (by omega) (by omega) (by omega) (by omega) (by omega) (by omega)) ?_
                    intro M143 J143 f143 q143
                    obtain ⟨e143_1, mo143, mb143, vo143⟩ := q143
                    replace e143_1 := e143_1.symm; subst e143_1
                    refine Z_aload_n (n := 147) dX4_equal_146 rfl rfl ?_
                    refine Z_bipush (n := 149) dX4_equal_147 rfl (by decide) (by decide) ?_
                    refine Z_callVi (n := 152) [_] _ dX4_equal_149 rfl cwX4_207 rfl rfl rfl (Nat.le_of_ble_eq_true rfl) (by refine ⟨?_, ?_, ?_, ?_⟩ <;> exact Nat.le_of_ble_eq_true rfl) (fun a h => by unfold kRg at h; unfold kAd; omega) (zX4_steps  (by omega) (by omega) (by exact TI_bits i126_0 hy.1 (f143 48 (by decide)).2 vo143) (by exact hy.1) (by omega) (by omega)) ?_
                    intro x149 M149 J149 z149 f149 q149
                    obtain ⟨ti149, ah149, am149, au149, af149, xs149⟩ := q149
                    have q0 := ti149
                    have q1 := hdl_t i126_1 (hdl_a af149 (by decide))
                    have q3 : ∀ j : Int, j < 48 → J149 44 j = J 44 j := fun j hj => (congrFun (f149 44 (by decide)).2 j).trans ((vo143 j (by omega)).trans (i126_3 j hj))
                    refine Z_istore (L' := [_, _, _, _, _, _, _, _]) (n := 154) dX4_equal_152 rfl (by decide) rfl rfl ?_
                    refine Z_loc (L' := [some _, some _, some _, some _, some _, some _, some _, none]) (lsub_same (lsub_same (lsub_same (lsub_same (lsub_same (lsub_same (lsub_same (lsub_none lsub_nil)))))))) ?_
                    exact ct154 _ _ _ _ _ (by exact q0) (by exact q1) (by omega) (by exact q3)
                refine Z_fr (fun fr49 => ?_)
                refine Z_rg 31 8 rfl (fun g8 g8b => ?_)
                have e33n : M49 33 net = M 33 net := congrFun (fr49 33 (by decide)).1 net
                have e33o : M49 33 oth = M 33 oth := congrFun (fr49 33 (by decide)).1 oth
                have u49 : M49 31 24 = M 31 24 := use_det hr.1 i49_2 hr.2.1 i49_6 i49_3 ok0
                have r49 : M49 31 8 = M 31 8 := i49_3.2.2 8 (by decide) (by decide) (by decide) (by decide)
                have u0 := hr.2.2.1
                have hN1 : rNt M49 net := rNt_fr (hr.2.2.2.2 net (by omega) (by omega)) (fr49 32 (by decide)).1 (fr49 33 (by decide)).1 (fr49 34 (by decide)).1 (fr49 35 (by decide)).1 (fr49 36 (by decide)).1
                have hN2z : rNt M49 oth := rNt_fr (hr.2.2.2.2 oth (by omega) (by omega)) (fr49 32 (by decide)).1 (fr49 33 (by decide)).1 (fr49 34 (by decide)).1 (fr49 35 (by decide)).1 (fr49 36 (by decide)).1
                have ha1 := hN1.2 o (by omega) (by omega)
                have hb1z := hN2z.2 o (by omega) (by omega)
                have hW49 : whOK J49 := fun q a b => by rw [(fr49 54 (by decide)).2]; exact hW q a b
                have ob49 : rOrd M49 := rOrd_fr hr.2.2.2.1 (fr49 39 (by decide)).1
                refine Z_aload_n (n := 60) dX4_equal_59 rfl rfl ?_
                refine Z_getA (n := 63) dX4_equal_60 rfl ffX4_22 rfl rfl ?_
                refine Z_iconst (n := 64) dX4_equal_63 rfl (by decide) ?_
                refine Z_iload_n (n := 65) dX4_equal_64 rfl rfl ?_
                refine Z_imul (n := 66) dX4_equal_65 rfl (by omega) ?_
                refine Z_iload_n (n := 67) dX4_equal_66 rfl rfl ?_
                refine Z_iadd (n := 68) dX4_equal_67 rfl (by omega) ?_
                refine Z_iald (n := 69) dX4_equal_68 rfl rfl rfl (by first | decide | assumption) (by omega) (by omega) (fun r68 s68 => ?_)
                refine Z_istore (L' := [_, _, _, _, _, _, _, _]) (n := 71) dX4_equal_69 rfl (by decide) rfl rfl ?_
                refine Z_aload_n (n := 72) dX4_equal_71 rfl rfl ?_
                refine Z_getA (n := 75) dX4_equal_72 rfl ffX4_22 rfl rfl ?_
                refine Z_iconst (n := 76) dX4_equal_75 rfl (by decide) ?_
                refine Z_iload_n (n := 77) dX4_equal_76 rfl rfl ?_
                refine Z_imul (n := 78) dX4_equal_77 rfl (by omega) ?_
                refine Z_iload_n (n := 79) dX4_equal_78 rfl rfl ?_
                refine Z_iadd (n := 80) dX4_equal_79 rfl (by omega) ?_
                refine Z_iald (n := 81) dX4_equal_80 rfl rfl rfl (by first | decide | assumption) (by omega) (by omega) (fun r80 s80 => ?_)
                refine Z_istore (L' := [_, _, _, _, _, _, _, _]) (n := 83) dX4_equal_81 rfl (by decide) rfl rfl ?_
                refine Z_rg 32 net rfl (fun g32 g32b => ?_)
                refine Z_rg 32 oth rfl (fun o32 o32b => ?_)
                refine Z_rg 36 (4 * net + o) rfl (fun g36 g36b => ?_)
                refine Z_rg 36 (4 * oth + o) rfl (fun o36 o36b => ?_)
                refine Z_aload_n (n := 84) dX4_equal_83 rfl rfl ?_
                refine Z_iload_n (n := 85) dX4_equal_84 rfl rfl ?_
                refine Z_iload (n := 87) dX4_equal_85 rfl rfl ?_
                refine Z_callVi (n := 90) [_, _] _ dX4_equal_87 rfl cwX4_216 rfl rfl rfl (Nat.le_of_ble_eq_true rfl) (by refine ⟨?_, ?_, ?_, ?_⟩ <;> exact Nat.le_of_ble_eq_true rfl) (fun _ h => h) (zX4_builds_g  (by omega) (by omega) (by omega) (by exact ha1) (by exact hN1) (by exact i49_2) (by exact fun y a b => i49_6 (12 + y) (by omega) (by omega)) (by omega) (by omega) (by exact hW49) (by exact ob49)) ?_
                intro x87 M87 J87 z87 f87 q87
                obtain ⟨ti87, hd87, mk87, hi87, bi87, bx87, rb87⟩ := q87
                have bj87 : ∀ j : Int, j < 48 → J87 44 j = J 44 j := fun j hj => (bi87 j (Or.inl hj)).trans (i49_5 j hj)
                refine Z_istore (L' := [_, _, _, _, _, _, _, _]) (n := 92) dX4_equal_90 rfl (by decide) rfl rfl ?_
                refine Z_iload (n := 94) dX4_equal_92 rfl rfl ?_
                refine Z_if_eq (n := 97) (t := 126) dX4_equal_94 rfl (by decide) (fun c94 => ?_) (fun c94 => ?_)
                · have q0 := ti87
                  have q1 := hdl_t i49_3 hd87
                  have q3 := bj87
                  have q4 : x87 = 0 ∨ (M87 43 55 = 0 ∧ M87 31 24 ≤ M87 31 8) := Or.inl c94
                  refine Z_loc (L' := [some _, some _, some _, some _, some _, some _, some _, none]) (lsub_same (lsub_same (lsub_same (lsub_same (lsub_same (lsub_same (lsub_same (lsub_none lsub_nil)))))))) ?_
                  exact ct126 _ _ _ _ _ (by exact q0) (by exact q1) (by omega) (by exact q3) (by omega) (by exact q4)
                · obtain ⟨-, b87⟩ := bx87.resolve_right (by omega)
                  clear bx87
                  refine Z_rg 31 8 rfl (fun g8c g8cb => ?_)
                  have b87a := b87.1
                  refine Z_aload_n (n := 98) dX4_equal_97 rfl rfl ?_
                  refine Z_bipush (n := 100) dX4_equal_98 rfl (by decide) (by decide) ?_
                  refine Z_iload (n := 102) dX4_equal_100 rfl rfl ?_
                  refine Z_iadd (n := 103) dX4_equal_102 rfl (by omega) ?_
                  refine Z_bipush (n := 105) dX4_equal_103 rfl (by decide) (by decide) ?_
                  refine Z_callVv (n := 108) [_, _] _ dX4_equal_105 rfl cwX4_182 rfl rfl rfl (Nat.le_of_ble_eq_true rfl) (by refine ⟨?_, ?_, ?_, ?_⟩ <;> exact Nat.le_of_ble_eq_true rfl) (fun a h => by unfold kRg at h; unfold kTk; omega) (zX4_take  (by omega) (by omega) (by omega) (by omega) (by omega) (by exact ti87) (by exact b87.2.1) (by omega) (by omega)) ?_
                  intro M105 J105 f105 q105
                  obtain ⟨ti105, ah105, am105, au105, af105, b1105, b2105⟩ := q105
                  
                  refine Z_aload_n (n := 109) dX4_equal_108 rfl rfl ?_
                  refine Z_bipush (n := 111) dX4_equal_109 rfl (by decide) (by decide) ?_
                  refine Z_iload (n := 113) dX4_equal_111 rfl rfl ?_
                  refine Z_iadd (n := 114) dX4_equal_113 rfl (by omega) ?_
                  refine Z_callVv (n := 117) [_] _ dX4_equal_114 rfl cwX4_179 rfl rfl rfl (Nat.le_of_ble_eq_true rfl) (by refine ⟨?_, ?_, ?_, ?_⟩ <;> exact Nat.le_of_ble_eq_true rfl) (fun a h => by unfold kRg at h; unfold kRv; omega) (zX4_remove  (by omega) (by omega) (by exact ti105)) ?_
                  intro M114 J114 f114 q114
                  obtain ⟨ti114, ah114, am114, au114, af114⟩ := q114
                  have hd114 : hdl M M114 := hdl_t i49_3 (hdl_t hd87 (hdl_t (hdl_a af105 (by decide)) (hdl_a af114 (by omega))))
                  have bj114 : ∀ j : Int, j < 48 → J114 44 j = J 44 j := fun j hj => (congrFun (f114 44 (by decide)).2 j).trans ((b2105 j (by omega)).trans (bj87 j hj))
                  have e114 : ∀ a : Nat, kRg a → M114 a = M87 a := fun a ha => ((f114 a (by unfold kRg at ha; unfold kRv; omega)).1).trans (f105 a (by unfold kRg at ha; unfold kTk; omega)).1
                  have hN2 : rNt M114 oth := rNt_fr hN2z ((e114 32 (by decide)).trans (f87 32 (by decide)).1) ((e114 33 (by decide)).trans (f87 33 (by decide)).1) ((e114 34 (by decide)).trans (f87 34 (by decide)).1) ((e114 35 (by decide)).trans (f87 35 (by decide)).1) ((e114 36 (by decide)).trans (f87 36 (by decide)).1)
                  have hb1 : M49 36 (4 * oth + o) < M114 32 oth := by rw [e114 32 (by decide), (f87 32 (by decide)).1]; exact hb1z
                  have hh114 : ∀ y : Int, 0 ≤ y → y < 40 → M114 43 (12 + y) = 0 := fun y a b => by
                    by_cases e : y = M49 36 (4 * net + o)
                    · rw [e]; exact ah114
                    · rw [(af114.1 _ (by omega)).2, (af105.1 _ (by omega)).2]; exact b87.2.2 y a b e
                  have h55 : M114 43 55 = 0 := by
                    rw [(af114.1 55 (by omega)).2, (af105.1 55 (by decide)).2, hi87 55 (by decide) (by decide)]
                    exact i49_6 55 (by decide) (by decide)
                  have hW114 : whOK J114 := fun q a b => by rw [(f114 54 (by decide)).2, (f105 54 (by decide)).2, (f87 54 (by decide)).2]; exact hW49 q a b
                  have ob114 : rOrd M114 := rOrd_fr ob49 ((e114 39 (by decide)).trans (f87 39 (by decide)).1)
                  have r114 : M114 31 8 = M87 31 8 := (af114.2.2 8 (by decide) (by decide) (by decide) (by decide)).trans (af105.2.2 8 (by decide) (by decide) (by decide) (by decide))
                  refine Z_aload_n (n := 118) dX4_equal_117 rfl rfl ?_
                  refine Z_iload_n (n := 119) dX4_equal_118 rfl rfl ?_
                  refine Z_iload (n := 121) dX4_equal_119 rfl rfl ?_
                  refine Z_callVi (n := 124) [_, _] _ dX4_equal_121 rfl cwX4_216 rfl rfl rfl (Nat.le_of_ble_eq_true rfl) (by refine ⟨?_, ?_, ?_, ?_⟩ <;> exact Nat.le_of_ble_eq_true rfl) (fun _ h => h) (zX4_builds_g  (by omega) (by omega) (by omega) (by exact hb1) (by exact hN2) (by exact ti114) (by exact hh114) (by omega) (by omega) (by exact hW114) (by exact ob114)) ?_
                  intro x121 M121 J121 z121 f121 q121
                  obtain ⟨ti121, hd121, mk121, hi121, bi121, bx121, rb121⟩ := q121
                  have q0 := ti121
                  have q1 := hdl_t hd114 hd121
                  have q3 : ∀ j : Int, j < 48 → J121 44 j = J 44 j := fun j hj => (bi121 j (Or.inl hj)).trans (bj114 j hj)
                  have q4 : x121 = 0 ∨ (M121 43 55 = 0 ∧ M121 31 24 ≤ M121 31 8) := by
                    rcases bx121 with ⟨-, a, -⟩ | a
                    · exact Or.inr ⟨(hi121 55 (by decide) (by decide)).trans h55, a⟩
                    · exact Or.inl a
                  clear bx121
                  refine Z_istore (L' := [_, _, _, _, _, _, _, _]) (n := 126) dX4_equal_124 rfl (by decide) rfl rfl ?_
                  refine Z_loc (L' := [some _, some _, some _, some _, some _, some _, some _, none]) (lsub_same (lsub_same (lsub_same (lsub_same (lsub_same (lsub_same (lsub_same (lsub_none lsub_nil)))))))) ?_
                  exact ct126 _ _ _ _ _ (by exact q0) (by exact q1) (by omega) (by exact q3) (by omega) (by exact q4)
          refine Z_loc (L' := [some _, some _, some _, some _, none, none, none, none]) (lsub_same (lsub_same (lsub_same (lsub_same (lsub_none (lsub_none (lsub_none (lsub_none lsub_nil)))))))) ?_
          exact lp49 _ _ _ _ (Nat.lt_succ_self _) (by first | assumption | omega | decide) (by first | assumption | omega | decide) (by exact t49) (by exact d49) (by exact m49) (by exact fun _ _ => rfl) (by exact h49)
        · refine Z_aload_n (n := 44) dX4_equal_43 rfl rfl ?_
          refine Z_callVv (n := 47) [] _ dX4_equal_44 rfl cwX4_213 rfl rfl rfl (Nat.le_of_ble_eq_true rfl) (by refine ⟨?_, ?_, ?_, ?_⟩ <;> exact Nat.le_of_ble_eq_true rfl) (fun _ h => h) (zX4_begin  (by decide)) ?_
          intro M44 J44 f44 q44
          obtain ⟨e44_1, e44_2⟩ := q44
          replace e44_1 := e44_1.symm; subst e44_1
          replace e44_2 := e44_2.symm; subst e44_2
          obtain ⟨tb, hb, ub, mb, db, ob⟩ := begin_ok hr
          refine Z_nm (fun M44 e44 => ?_)
          rw [← e44] at tb hb ub mb db ob
          clear e44
          refine Z_rg 31 8 rfl (fun gb8 gb8b => ?_)
          have t49 := tb
          have d49 := db
          have m49 : M44 31 27 ≤ M 31 27 + 82 * 0 := by omega
          have h49 := hb
          refine Z_iconst (n := 48) dX4_equal_47 rfl (by decide) ?_
          refine Z_istore_n (L' := [_, _, _, _, _, _, _, _]) (n := 49) dX4_equal_48 rfl (by decide) rfl rfl ?_
          have lp49 : ∀ (N49 : Nat) (o : Int) (M49 : zM) (J49 : zJ), ((4 - o).toNat) < N49 → (0 ≤ o) → (o ≤ 4) → (TI M49 J49) → (hdl M M49) → (M49 31 27 ≤ M 31 27 + 82 * o) → (∀ j : Int, j < 48 → J49 44 j = J 44 j) → (hnd0 M49) → TZ G mX4_equal (tl_rm 6 0 0) 0 0 kRg M J 49 [some (vR 31), some (vI net), some (vI oth), some (vI o), none, none, none, none] [] F1 M49 J49 (ZM G (zPost G kRg F1 M J (qI (fun x M' J' => RI M' J' ∧ M' 31 27 ≤ M 31 27 + 400 ∧ eqR M J M' J'))) 0 0) := by
            intro N49
            induction N49 with
            | zero => intro o M49 J49 hN; omega
            | succ N49 ih49 =>
              intro o M49 J49 hN49 i49_0 i49_1 i49_2 i49_3 i49_4 i49_5 i49_6
              refine Z_iload_n (n := 50) dX4_equal_49 rfl rfl ?_
              refine Z_aload_n (n := 51) dX4_equal_50 rfl rfl ?_
              refine Z_getA (n := 54) dX4_equal_51 rfl ffX4_13 rfl rfl ?_
              refine Z_iload_n (n := 55) dX4_equal_54 rfl rfl ?_
              refine Z_iald (n := 56) dX4_equal_55 rfl rfl rfl (by first | decide | assumption) (by omega) (by omega) (fun r55 s55 => ?_)
              refine Z_icmp_ge (n := 59) (t := 212) dX4_equal_56 rfl (by decide) (fun c56 => ?_) (fun c56 => ?_)
              · refine Z_iconst (n := 213) dX4_equal_212 rfl (by decide) ?_
                refine Z_fr (fun frR => ?_)
                refine Z_iret dX4_equal_213 rfl ?_
                have u49 : M49 31 24 = M 31 24 := use_det hr.1 i49_2 hr.2.1 i49_6 i49_3 ok0
                have r49 : M49 31 8 = M 31 8 := i49_3.2.2 8 (by decide) (by decide) (by decide) (by decide)
                have u0 := hr.2.2.1
                exact ⟨RI_mk hr frR i49_2 i49_6 (by omega), by omega, eqR_h i49_3 i49_5⟩
              · have ct172 : ∀ (a b y p : Int) (M172 : zM) (J172 : zJ), (TI M172 J172) → (hdl M M172) → (M172 31 27 ≤ M 31 27 + (82 * o + 82)) → (∀ j : Int, j < 48 → J172 44 j = J 44 j) → TZ G mX4_equal (tl_rm 6 0 0) 0 0 kRg M J 172 [some (vR 31), some (vI net), some (vI oth), some (vI o), some (vI a), some (vI b), some (vI y), some (vI p)] [] F1 M172 J172 (ZM G (zPost G kRg F1 M J (qI (fun x M' J' => RI M' J' ∧ M' 31 27 ≤ M 31 27 + 400 ∧ eqR M J M' J'))) 0 0) := by
                  intro a b y p M172 J172 i172_0 i172_1 i172_2 i172_3
                  refine Z_aload_n (n := 173) dX4_equal_172 rfl rfl ?_
                  refine Z_callVv (n := 176) [] _ dX4_equal_173 rfl cwX4_185 rfl rfl rfl (Nat.le_of_ble_eq_true rfl) (by refine ⟨?_, ?_, ?_, ?_⟩ <;> exact Nat.le_of_ble_eq_true rfl) (fun a h => by unfold kRg at h; unfold kRv; omega) (zX4_clearHand  (by exact i172_0)) ?_
                  intro M173 J173 f173 q173
                  obtain ⟨ti173, hn173, am173, au173, hd173⟩ := q173
                  have hd2 := hdl_t i172_1 hd173
                  have b173 : ∀ j : Int, j < 48 → J173 44 j = J 44 j := fun j hj => (congrFun (f173 44 (by decide)).2 j).trans (i172_3 j hj)
                  have u173 : M173 31 24 = M 31 24 := use_det hr.1 ti173 hr.2.1 hn173 hd2 ok0
                  have r173 : M173 31 8 = M 31 8 := hd2.2.2 8 (by decide) (by decide) (by decide) (by decide)
                  have u0 := hr.2.2.1
                  refine Z_iload (n := 178) dX4_equal_176 rfl rfl ?_
                  refine Z_if_ne (n := 181) (t := 184) dX4_equal_178 rfl (by decide) (fun c178 => ?_) (fun c178 => ?_)
                  · refine Z_iload (n := 186) dX4_equal_184 rfl rfl ?_
                    refine Z_if_lt (n := 189) (t := 206) dX4_equal_186 rfl (by decide) (fun c186 => ?_) (fun c186 => ?_)
                    · refine Z_iinc (L' := [_, _, _, _, _, _, _, _]) (n := 209) dX4_equal_206 rfl rfl (by decide) rfl rfl (by omega) rfl ?_
                      refine Z_goto (t := 49) dX4_equal_209 (by decide) ?_
                      refine Z_loc (L' := [some _, some _, some _, some _, none, none, none, none]) (lsub_same (lsub_same (lsub_same (lsub_same (lsub_none (lsub_none (lsub_none (lsub_none lsub_nil)))))))) ?_
                      exact ih49 _ _ _ (by omega) (by first | assumption | omega | decide) (by first | assumption | omega | decide) (by exact ti173) (by exact hd2) (by omega) (by exact b173) (by exact hn173)
                    · refine Z_aload_n (n := 190) dX4_equal_189 rfl rfl ?_
                      refine Z_iload_n (n := 191) dX4_equal_190 rfl rfl ?_
                      refine Z_putI (n := 194) (ki := 33) dX4_equal_191 rfl ffX4_106 rfl (by decide) rfl rfl (by first | omega | exact (show zI o from by omega).1) (by first | omega | exact (show zI o from by omega).1) (by decide) ?_
                      refine Z_aload_n (n := 195) dX4_equal_194 rfl rfl ?_
                      refine Z_aload_n (n := 196) dX4_equal_195 rfl rfl ?_
                      refine Z_iload (n := 198) dX4_equal_196 rfl rfl ?_
                      refine Z_callVi (n := 201) [_] _ dX4_equal_198 rfl cwX4_250 rfl rfl rfl (Nat.le_of_ble_eq_true rfl) (by refine ⟨?_, ?_, ?_, ?_⟩ <;> exact Nat.le_of_ble_eq_true rfl) (fun _ _ => trivial) (zX4_assignmentAt  ) ?_
                      intro x198 M198 J198 z198 f198 q198
                      obtain ⟨e198_1, e198_2, h198⟩ := q198
                      replace e198_1 := e198_1.symm; subst e198_1
                      replace e198_2 := e198_2.symm; subst e198_2
                      refine Z_putI (n := 204) (ki := 34) dX4_equal_201 rfl ffX4_109 rfl (by decide) rfl rfl (by first | exact z198.1 | exact z198.2) (by first | exact z198.1 | exact z198.2) (by decide) ?_
                      refine Z_iconst (n := 205) dX4_equal_204 rfl (by decide) ?_
                      refine Z_fr (fun frR => ?_)
                      refine Z_iret dX4_equal_205 rfl ?_
                      exact ⟨RI_mk hr frR (TI_31 (TI_31 ti173 (by decide) (by decide) (by decide)) (by decide) (by decide) (by decide)) (fun g a b => by rw [uz_oo (by decide), uz_oo (by decide)]; exact hn173 g a b) (by rw [uz_n (by decide), uz_n (by decide), uz_n (by decide), uz_n (by decide)]; omega), by rw [uz_n (by decide), uz_n (by decide)]; omega, eqR_u (eqR_h hd2 b173)⟩
                  · refine Z_bipush (n := 183) dX4_equal_181 rfl (by decide) (by decide) ?_
                    refine Z_fr (fun frR => ?_)
                    refine Z_iret dX4_equal_183 rfl ?_
                    exact ⟨RI_mk hr frR ti173 hn173 (by omega), by omega, eqR_h hd2 b173⟩
                have ct154 : ∀ (a b y : Int) (M154 : zM) (J154 : zJ), (TI M154 J154) → (hdl M M154) → (M154 31 27 ≤ M 31 27 + (82 * o + 82)) → (∀ j : Int, j < 48 → J154 44 j = J 44 j) → TZ G mX4_equal (tl_rm 6 0 0) 0 0 kRg M J 154 [some (vR 31), some (vI net), some (vI oth), some (vI o), some (vI a), some (vI b), some (vI y), none] [] F1 M154 J154 (ZM G (zPost G kRg F1 M J (qI (fun x M' J' => RI M' J' ∧ M' 31 27 ≤ M 31 27 + 400 ∧ eqR M J M' J'))) 0 0) := by
                  intro a b y M154 J154 i154_0 i154_1 i154_2 i154_3
                  refine Z_iload (n := 156) dX4_equal_154 rfl rfl ?_
                  refine Z_if_eq (n := 159) (t := 169) dX4_equal_156 rfl (by decide) (fun c156 => ?_) (fun c156 => ?_)
                  · have q0 := i154_0
                    have q1 := i154_1
                    have q3 := i154_3
                    refine Z_iconst (n := 170) dX4_equal_169 rfl (by decide) ?_
                    refine Z_istore (L' := [_, _, _, _, _, _, _, _]) (n := 172) dX4_equal_170 rfl (by decide) rfl rfl ?_
                    refine Z_loc (L' := [some _, some _, some _, some _, some _, some _, some _, some _]) (lsub_same (lsub_same (lsub_same (lsub_same (lsub_same (lsub_same (lsub_same (lsub_same lsub_nil)))))))) ?_
                    exact ct172 _ _ _ _ _ _ (by exact q0) (by exact q1) (by omega) (by exact q3)
                  · have q0 := i154_0
                    have q1 := i154_1
                    have q3 := i154_3
                    refine Z_aload_n (n := 160) dX4_equal_159 rfl rfl ?_
                    refine Z_bipush (n := 162) dX4_equal_160 rfl (by decide) (by decide) ?_
                    refine Z_iconst (n := 163) dX4_equal_162 rfl (by decide) ?_
                    refine Z_callVi (n := 166) [_, _] _ dX4_equal_163 rfl cwX4_246 rfl rfl rfl (Nat.le_of_ble_eq_true rfl) (by refine ⟨?_, ?_, ?_, ?_⟩ <;> exact Nat.le_of_ble_eq_true rfl) (fun _ _ => trivial) (zX4_leastOf  (by omega) (by omega)) ?_
                    intro x163 M163 J163 z163 f163 q163
                    obtain ⟨e163_1, e163_2, h163⟩ := q163
                    replace e163_1 := e163_1.symm; subst e163_1
                    replace e163_2 := e163_2.symm; subst e163_2
                    refine Z_goto (t := 170) dX4_equal_166 (by decide) ?_
                    refine Z_istore (L' := [_, _, _, _, _, _, _, _]) (n := 172) dX4_equal_170 rfl (by decide) rfl rfl ?_
                    refine Z_loc (L' := [some _, some _, some _, some _, some _, some _, some _, some _]) (lsub_same (lsub_same (lsub_same (lsub_same (lsub_same (lsub_same (lsub_same (lsub_same lsub_nil)))))))) ?_
                    exact ct172 _ _ _ _ _ _ (by exact q0) (by exact q1) (by omega) (by exact q3)
                have ct126 : ∀ (a b y : Int) (M126 : zM) (J126 : zJ), (TI M126 J126) → (hdl M M126) → (M126 31 27 ≤ M 31 27 + (82 * o + 81)) → (∀ j : Int, j < 48 → J126 44 j = J 44 j) → (0 ≤ b ∧ b < 40) → (y = 0 ∨ (M126 43 55 = 0 ∧ M126 31 24 ≤ M126 31 8)) → TZ G mX4_equal (tl_rm 6 0 0) 0 0 kRg M J 126 [some (vR 31), some (vI net), some (vI oth), some (vI o), some (vI a), some (vI b), some (vI y), none] [] F1 M126 J126 (ZM G (zPost G kRg F1 M J (qI (fun x M' J' => RI M' J' ∧ M' 31 27 ≤ M 31 27 + 400 ∧ eqR M J M' J'))) 0 0) := by
                  intro a b y M126 J126 i126_0 i126_1 i126_2 i126_3 i126_4 i126_5
                  
                  refine Z_iload (n := 128) dX4_equal_126 rfl rfl ?_
                  refine Z_if_eq (n := 131) (t := 154) dX4_equal_128 rfl (by decide) (fun c128 => ?_) (fun c128 => ?_)
                  · have q0 := i126_0
                    have q1 := i126_1
                    have q3 := i126_3
                    refine Z_loc (L' := [some _, some _, some _, some _, some _, some _, some _, none]) (lsub_same (lsub_same (lsub_same (lsub_same (lsub_same (lsub_same (lsub_same (lsub_none lsub_nil)))))))) ?_
                    exact ct154 _ _ _ _ _ (by exact q0) (by exact q1) (by omega) (by exact q3)
                  · have hy := i126_5.resolve_left c128
                    have hyb := hy.2
                    refine Z_rg 31 8 rfl (fun g8d g8db => ?_)
                    refine Z_aload_n (n := 132) dX4_equal_131 rfl rfl ?_
                    refine Z_bipush (n := 134) dX4_equal_132 rfl (by decide) (by decide) ?_
                    refine Z_bipush (n := 136) dX4_equal_134 rfl (by decide) (by decide) ?_
                    refine Z_bipush (n := 138) dX4_equal_136 rfl (by decide) (by decide) ?_
                    refine Z_bipush (n := 140) dX4_equal_138 rfl (by decide) (by decide) ?_
                    refine Z_iload (n := 142) dX4_equal_140 rfl rfl ?_
                    refine Z_iadd (n := 143) dX4_equal_142 rfl (by omega) ?_
                    refine Z_callVv (n := 146) [_, _, _, _] _ dX4_equal_143 rfl cwX4_204 rfl rfl rfl (Nat.le_of_ble_eq_true rfl) (by refine ⟨?_, ?_, ?_, ?_⟩ <;> exact Nat.le_of_ble_eq_true rfl) (fun a h => by unfold kRg at h; unfold kBits; omega) (zX4_makeOf  (by omega) (by omega) (by omega) (by omega) (by omega) (by omega)) ?_
                    intro M143 J143 f143 q143
                    obtain ⟨e143_1, mo143, mb143, vo143⟩ := q143
                    replace e143_1 := e143_1.symm; subst e143_1
                    refine Z_aload_n (n := 147) dX4_equal_146 rfl rfl ?_
                    refine Z_bipush (n := 149) dX4_equal_147 rfl (by decide) (by decide) ?_
                    refine Z_callVi (n := 152) [_] _ dX4_equal_149 rfl cwX4_207 rfl rfl rfl (Nat.le_of_ble_eq_true rfl) (by refine ⟨?_, ?_, ?_, ?_⟩ <;> exact Nat.le_of_ble_eq_true rfl) (fun a h => by unfold kRg at h; unfold kAd; omega) (zX4_steps  (by omega) (by omega) (by exact TI_bits i126_0 hy.1 (f143 48 (by decide)).2 vo143) (by exact hy.1) (by omega) (by omega)) ?_
                    intro x149 M149 J149 z149 f149 q149
                    obtain ⟨ti149, ah149, am149, au149, af149, xs149⟩ := q149
                    have q0 := ti149
                    have q1 := hdl_t i126_1 (hdl_a af149 (by decide))
                    have q3 : ∀ j : Int, j < 48 → J149 44 j = J 44 j := fun j hj => (congrFun (f149 44 (by decide)).2 j).trans ((vo143 j (by omega)).trans (i126_3 j hj))
                    refine Z_istore (L' := [_, _, _, _, _, _, _, _]) (n := 154) dX4_equal_152 rfl (by decide) rfl rfl ?_
                    refine Z_loc (L' := [some _, some _, some _, some _, some _, some _, some _, none]) (lsub_same (lsub_same (lsub_same (lsub_same (lsub_same (lsub_same (lsub_same (lsub_none lsub_nil)))))))) ?_
                    exact ct154 _ _ _ _ _ (by exact q0) (by exact q1) (by omega) (by exact q3)
                refine Z_fr (fun fr49 => ?_)
                refine Z_rg 31 8 rfl (fun g8 g8b => ?_)
                have e33n : M49 33 net = M 33 net := congrFun (fr49 33 (by decide)).1 net
                have e33o : M49 33 oth = M 33 oth := congrFun (fr49 33 (by decide)).1 oth
                have u49 : M49 31 24 = M 31 24 := use_det hr.1 i49_2 hr.2.1 i49_6 i49_3 ok0
                have r49 : M49 31 8 = M 31 8 := i49_3.2.2 8 (by decide) (by decide) (by decide) (by decide)
                have u0 := hr.2.2.1
                have hN1 : rNt M49 net := rNt_fr (hr.2.2.2.2 net (by omega) (by omega)) (fr49 32 (by decide)).1 (fr49 33 (by decide)).1 (fr49 34 (by decide)).1 (fr49 35 (by decide)).1 (fr49 36 (by decide)).1
                have hN2z : rNt M49 oth := rNt_fr (hr.2.2.2.2 oth (by omega) (by omega)) (fr49 32 (by decide)).1 (fr49 33 (by decide)).1 (fr49 34 (by decide)).1 (fr49 35 (by decide)).1 (fr49 36 (by decide)).1
                have ha1 := hN1.2 o (by omega) (by omega)
                have hb1z := hN2z.2 o (by omega) (by omega)
                have hW49 : whOK J49 := fun q a b => by rw [(fr49 54 (by decide)).2]; exact hW q a b
                have ob49 : rOrd M49 := rOrd_fr hr.2.2.2.1 (fr49 39 (by decide)).1
                refine Z_aload_n (n := 60) dX4_equal_59 rfl rfl ?_
                refine Z_getA (n := 63) dX4_equal_60 rfl ffX4_22 rfl rfl ?_
                refine Z_iconst (n := 64) dX4_equal_63 rfl (by decide) ?_
                refine Z_iload_n (n := 65) dX4_equal_64 rfl rfl ?_
                refine Z_imul (n := 66) dX4_equal_65 rfl (by omega) ?_
                refine Z_iload_n (n := 67) dX4_equal_66 rfl rfl ?_
                refine Z_iadd (n := 68) dX4_equal_67 rfl (by omega) ?_
                refine Z_iald (n := 69) dX4_equal_68 rfl rfl rfl (by first | decide | assumption) (by omega) (by omega) (fun r68 s68 => ?_)
                refine Z_istore (L' := [_, _, _, _, _, _, _, _]) (n := 71) dX4_equal_69 rfl (by decide) rfl rfl ?_
                refine Z_aload_n (n := 72) dX4_equal_71 rfl rfl ?_
                refine Z_getA (n := 75) dX4_equal_72 rfl ffX4_22 rfl rfl ?_
                refine Z_iconst (n := 76) dX4_equal_75 rfl (by decide) ?_
                refine Z_iload_n (n := 77) dX4_equal_76 rfl rfl ?_
                refine Z_imul (n := 78) dX4_equal_77 rfl (by omega) ?_
                refine Z_iload_n (n := 79) dX4_equal_78 rfl rfl ?_
                refine Z_iadd (n := 80) dX4_equal_79 rfl (by omega) ?_
                refine Z_iald (n := 81) dX4_equal_80 rfl rfl rfl (by first | decide | assumption) (by omega) (by omega) (fun r80 s80 => ?_)
                refine Z_istore (L' := [_, _, _, _, _, _, _, _]) (n := 83) dX4_equal_81 rfl (by decide) rfl rfl ?_
                refine Z_rg 32 net rfl (fun g32 g32b => ?_)
                refine Z_rg 32 oth rfl (fun o32 o32b => ?_)
                refine Z_rg 36 (4 * net + o) rfl (fun g36 g36b => ?_)
                refine Z_rg 36 (4 * oth + o) rfl (fun o36 o36b => ?_)
                refine Z_aload_n (n := 84) dX4_equal_83 rfl rfl ?_
                refine Z_iload_n (n := 85) dX4_equal_84 rfl rfl ?_
                refine Z_iload (n := 87) dX4_equal_85 rfl rfl ?_
                refine Z_callVi (n := 90) [_, _] _ dX4_equal_87 rfl cwX4_216 rfl rfl rfl (Nat.le_of_ble_eq_true rfl) (by refine ⟨?_, ?_, ?_, ?_⟩ <;> exact Nat.le_of_ble_eq_true rfl) (fun _ h => h) (zX4_builds_g  (by omega) (by omega) (by omega) (by exact ha1) (by exact hN1) (by exact i49_2) (by exact fun y a b => i49_6 (12 + y) (by omega) (by omega)) (by omega) (by omega) (by exact hW49) (by exact ob49)) ?_
                intro x87 M87 J87 z87 f87 q87
                obtain ⟨ti87, hd87, mk87, hi87, bi87, bx87, rb87⟩ := q87
                have bj87 : ∀ j : Int, j < 48 → J87 44 j = J 44 j := fun j hj => (bi87 j (Or.inl hj)).trans (i49_5 j hj)
                refine Z_istore (L' := [_, _, _, _, _, _, _, _]) (n := 92) dX4_equal_90 rfl (by decide) rfl rfl ?_
                refine Z_iload (n := 94) dX4_equal_92 rfl rfl ?_
                refine Z_if_eq (n := 97) (t := 126) dX4_equal_94 rfl (by decide) (fun c94 => ?_) (fun c94 => ?_)
                · have q0 := ti87
                  have q1 := hdl_t i49_3 hd87
                  have q3 := bj87
                  have q4 : x87 = 0 ∨ (M87 43 55 = 0 ∧ M87 31 24 ≤ M87 31 8) := Or.inl c94
                  refine Z_loc (L' := [some _, some _, some _, some _, some _, some _, some _, none]) (lsub_same (lsub_same (lsub_same (lsub_same (lsub_same (lsub_same (lsub_same (lsub_none lsub_nil)))))))) ?_
                  exact ct126 _ _ _ _ _ (by exact q0) (by exact q1) (by omega) (by exact q3) (by omega) (by exact q4)
                · obtain ⟨-, b87⟩ := bx87.resolve_right (by omega)
                  clear bx87
                  refine Z_rg 31 8 rfl (fun g8c g8cb => ?_)
                  have b87a := b87.1
                  refine Z_aload_n (n := 98) dX4_equal_97 rfl rfl ?_
                  refine Z_bipush (n := 100) dX4_equal_98 rfl (by decide) (by decide) ?_
                  refine Z_iload (n := 102) dX4_equal_100 rfl rfl ?_
                  refine Z_iadd (n := 103) dX4_equal_102 rfl (by omega) ?_
                  refine Z_bipush (n := 105) dX4_equal_103 rfl (by decide) (by decide) ?_
                  refine Z_callVv (n := 108) [_, _] _ dX4_equal_105 rfl cwX4_182 rfl rfl rfl (Nat.le_of_ble_eq_true rfl) (by refine ⟨?_, ?_, ?_, ?_⟩ <;> exact Nat.le_of_ble_eq_true rfl) (fun a h => by unfold kRg at h; unfold kTk; omega) (zX4_take  (by omega) (by omega) (by omega) (by omega) (by omega) (by exact ti87) (by exact b87.2.1) (by omega) (by omega)) ?_
                  intro M105 J105 f105 q105
                  obtain ⟨ti105, ah105, am105, au105, af105, b1105, b2105⟩ := q105
                  
                  refine Z_aload_n (n := 109) dX4_equal_108 rfl rfl ?_
                  refine Z_bipush (n := 111) dX4_equal_109 rfl (by decide) (by decide) ?_
                  refine Z_iload (n := 113) dX4_equal_111 rfl rfl ?_
                  refine Z_iadd (n := 114) dX4_equal_113 rfl (by omega) ?_
                  refine Z_callVv (n := 117) [_] _ dX4_equal_114 rfl cwX4_179 rfl rfl rfl (Nat.le_of_ble_eq_true rfl) (by refine ⟨?_, ?_, ?_, ?_⟩ <;> exact Nat.le_of_ble_eq_true rfl) (fun a h => by unfold kRg at h; unfold kRv; omega) (zX4_remove  (by omega) (by omega) (by exact ti105)) ?_
                  intro M114 J114 f114 q114
                  obtain ⟨ti114, ah114, am114, au114, af114⟩ := q114
                  have hd114 : hdl M M114 := hdl_t i49_3 (hdl_t hd87 (hdl_t (hdl_a af105 (by decide)) (hdl_a af114 (by omega))))
                  have bj114 : ∀ j : Int, j < 48 → J114 44 j = J 44 j := fun j hj => (congrFun (f114 44 (by decide)).2 j).trans ((b2105 j (by omega)).trans (bj87 j hj))
                  have e114 : ∀ a : Nat, kRg a → M114 a = M87 a := fun a ha => ((f114 a (by unfold kRg at ha; unfold kRv; omega)).1).trans (f105 a (by unfold kRg at ha; unfold kTk; omega)).1
                  have hN2 : rNt M114 oth := rNt_fr hN2z ((e114 32 (by decide)).trans (f87 32 (by decide)).1) ((e114 33 (by decide)).trans (f87 33 (by decide)).1) ((e114 34 (by decide)).trans (f87 34 (by decide)).1) ((e114 35 (by decide)).trans (f87 35 (by decide)).1) ((e114 36 (by decide)).trans (f87 36 (by decide)).1)
                  have hb1 : M49 36 (4 * oth + o) < M114 32 oth := by rw [e114 32 (by decide), (f87 32 (by decide)).1]; exact hb1z
                  have hh114 : ∀ y : Int, 0 ≤ y → y < 40 → M114 43 (12 + y) = 0 := fun y a b => by
                    by_cases e : y = M49 36 (4 * net + o)
                    · rw [e]; exact ah114
                    · rw [(af114.1 _ (by omega)).2, (af105.1 _ (by omega)).2]; exact b87.2.2 y a b e
                  have h55 : M114 43 55 = 0 := by
                    rw [(af114.1 55 (by omega)).2, (af105.1 55 (by decide)).2, hi87 55 (by decide) (by decide)]
                    exact i49_6 55 (by decide) (by decide)
                  have hW114 : whOK J114 := fun q a b => by rw [(f114 54 (by decide)).2, (f105 54 (by decide)).2, (f87 54 (by decide)).2]; exact hW49 q a b
                  have ob114 : rOrd M114 := rOrd_fr ob49 ((e114 39 (by decide)).trans (f87 39 (by decide)).1)
                  have r114 : M114 31 8 = M87 31 8 := (af114.2.2 8 (by decide) (by decide) (by decide) (by decide)).trans (af105.2.2 8 (by decide) (by decide) (by decide) (by decide))
                  refine Z_aload_n (n := 118) dX4_equal_117 rfl rfl ?_
                  refine Z_iload_n (n := 119) dX4_equal_118 rfl rfl ?_
                  refine Z_iload (n := 121) dX4_equal_119 rfl rfl ?_
                  refine Z_callVi (n := 124) [_, _] _ dX4_equal_121 rfl cwX4_216 rfl rfl rfl (Nat.le_of_ble_eq_true rfl) (by refine ⟨?_, ?_, ?_, ?_⟩ <;> exact Nat.le_of_ble_eq_true rfl) (fun _ h => h) (zX4_builds_g  (by omega) (by omega) (by omega) (by exact hb1) (by exact hN2) (by exact ti114) (by exact hh114) (by omega) (by omega) (by exact hW114) (by exact ob114)) ?_
                  intro x121 M121 J121 z121 f121 q121
                  obtain ⟨ti121, hd121, mk121, hi121, bi121, bx121, rb121⟩ := q121
                  have q0 := ti121
                  have q1 := hdl_t hd114 hd121
                  have q3 : ∀ j : Int, j < 48 → J121 44 j = J 44 j := fun j hj => (bi121 j (Or.inl hj)).trans (bj114 j hj)
                  have q4 : x121 = 0 ∨ (M121 43 55 = 0 ∧ M121 31 24 ≤ M121 31 8) := by
                    rcases bx121 with ⟨-, a, -⟩ | a
                    · exact Or.inr ⟨(hi121 55 (by decide) (by decide)).trans h55, a⟩
                    · exact Or.inl a
                  clear bx121
                  refine Z_istore (L' := [_, _, _, _, _, _, _, _]) (n := 126) dX4_equal_124 rfl (by decide) rfl rfl ?_
                  refine Z_loc (L' := [some _, some _, some _, some _, some _, some _, some _, none]) (lsub_same (lsub_same (lsub_same (lsub_same (lsub_same (lsub_same (lsub_same (lsub_none lsub_nil)))))))) ?_
                  exact ct126 _ _ _ _ _ (by exact q0) (by exact q1) (by omega) (by exact q3) (by omega) (by exact q4)
          refine Z_loc (L' := [some _, some _, some _, some _, none, none, none, none]) (lsub_same (lsub_same (lsub_same (lsub_same (lsub_none (lsub_none (lsub_none (lsub_none lsub_nil)))))))) ?_
          exact lp49 _ _ _ _ (Nat.lt_succ_self _) (by first | assumption | omega | decide) (by first | assumption | omega | decide) (by exact t49) (by exact d49) (by exact m49) (by exact fun _ _ => rfl) (by exact h49)
      · refine Z_bipush (n := 33) dX4_equal_31 rfl (by decide) (by decide) ?_
        refine Z_iret dX4_equal_33 rfl ?_
        exact ⟨hr, by omega, eqR_h hdl_0 (fun _ _ => rfl)⟩
    · refine Z_iconst (n := 15) dX4_equal_14 rfl (by decide) ?_
      refine Z_iret dX4_equal_15 rfl ?_
      exact ⟨hr, by omega, eqR_h hdl_0 (fun _ _ => rfl)⟩
end
