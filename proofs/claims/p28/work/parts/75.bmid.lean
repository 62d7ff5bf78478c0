/-! ===== the class: a building on its way ===== -/
/-- labels of what is kept -/
def kpL (M : zM) (y : Lb) : Prop := ∃ k : Int, (0 ≤ k ∧ k < M 0 7) ∧ ¬ M 15 k = -1 ∧ laid (den M (M 15 k)) y
/-- gates H at hand -/
def gtI (M0 M : zM) (E : Lb → Prop) (F : Int → FN) (H : Int → Prop) : Prop := (∃ S : Int → Prop, plo M S ∧ rtO M S) ∧ (∀ j : Int, 0 ≤ j → j < 12 → M 12 j = M0 12 j ∧ (M0 12 j = -1 ∨ den M (M0 12 j) = den M0 (M0 12 j))) ∧ M 5 8 = M0 5 8 ∧ (∀ y, (LBc M0 y ∨ kpL M y) ↔ (LBc M0 y ∨ E y)) ∧ (∀ x : Int, 0 ≤ x → x < 40 → (H x ∧ ¬ M 13 x = -1 ∧ den M (M 13 x) = F x) ∨ (¬ H x ∧ M 13 x = -1)) ∧ ¬ over (fun y => LBc M0 y ∨ EH E F H y) (M0 5 8)
/-- between calls the handles alone are roots -/
theorem CB_rt {M : zM} (h : CB M) {y : Lb} (hy : LBc M y) : ∃ j : Int, (0 ≤ j ∧ j < 12) ∧ ¬ M 12 j = -1 ∧ laid (den M (M 12 j)) y := by
  obtain ⟨z, a, b, c⟩ := hy
  rcases a with ⟨j, jb, q⟩ | ⟨g, gb, q⟩ | ⟨k, kb, q⟩
  · exact ⟨j, jb, by rw [← q]; exact b, by rw [← q]; exact c⟩
  · exact absurd (q.trans (h.2.2.1 g gb.1 gb.2)) b
  · rw [h.2.2.2] at kb; omega
theorem gt_mid {M0 M : zM} {E : Lb → Prop} {F : Int → FN} {H : Int → Prop} (hb : CB M0) (h : gtI M0 M E F H) (hH : ∀ x, H x → 0 ≤ x ∧ x < 40) : mid M0 M (EH E F H) := by
  obtain ⟨h1, h2, h3, h4, h5, h6⟩ := h
  refine ⟨h1, h2, h3, fun y => ?_, h6⟩
  constructor
  · rintro ⟨z, a, b, c⟩
    rcases a with ⟨j, jb, q⟩ | ⟨g, gb, q⟩ | ⟨k, kb, q⟩
    · obtain ⟨e, w⟩ := h2 j jb.1 jb.2
      rw [q, e] at b c
      rw [w.resolve_left b] at c
      exact Or.inl ⟨M0 12 j, Or.inl ⟨j, jb, rfl⟩, b, c⟩
    · rw [q] at b c
      rcases h5 g gb.1 gb.2 with ⟨w1, w2, w3⟩ | ⟨w1, w2⟩
      · rw [w3] at c
        exact Or.inr (Or.inr ⟨g, w1, c⟩)
      · exact absurd w2 b
    · rw [q] at b c
      rcases (h4 y).mp (Or.inr ⟨k, kb, b, c⟩) with w | w
      · exact Or.inl w
      · exact Or.inr (Or.inl w)
  · have up : (LBc M0 y ∨ kpL M y) → LBc M y := by
      rintro (w | ⟨k, kb, b, c⟩)
      · obtain ⟨j, jb, b, c⟩ := CB_rt hb w
        obtain ⟨e, v⟩ := h2 j jb.1 jb.2
        exact ⟨M 12 j, Or.inl ⟨j, jb, rfl⟩, by rw [e]; exact b, by rw [e, v.resolve_left b]; exact c⟩
      · exact ⟨M 15 k, Or.inr (Or.inr ⟨k, kb, rfl⟩), b, c⟩
    rintro (w | w | ⟨x, w1, w2⟩)
    · exact up (Or.inl w)
    · exact up ((h4 y).mpr (Or.inr w))
    · have xb := hH x w1
      rcases h5 x xb.1 xb.2 with ⟨-, v2, v3⟩ | ⟨v1, -⟩
      · exact ⟨M 13 x, Or.inr (Or.inl ⟨x, xb, rfl⟩), v2, by rw [v3]; exact w2⟩
      · exact absurd w1 v1
theorem mid_gt {M0 M : zM} {E : Lb → Prop} {F : Int → FN} (h : mid M0 M E) (hg : ∀ x : Int, 0 ≤ x → x < 40 → M 13 x = -1) : gtI M0 M E F (fun _ => False) := by
  obtain ⟨h1, h2, h3, h4, h5⟩ := h
  refine ⟨h1, h2, h3, fun y => ?_, fun x a b => Or.inr ⟨id, hg x a b⟩, ?_⟩
  · constructor
    · rintro (w | ⟨k, kb, b, c⟩)
      · exact Or.inl w
      · exact (h4 y).mp ⟨M 15 k, Or.inr (Or.inr ⟨k, kb, rfl⟩), b, c⟩
    · intro w
      obtain ⟨z, a, b, c⟩ := (h4 y).mpr w
      rcases a with ⟨j, jb, q⟩ | ⟨g, gb, q⟩ | ⟨k, kb, q⟩
      · obtain ⟨e, v⟩ := h2 j jb.1 jb.2
        rw [q, e] at b c
        rw [v.resolve_left b] at c
        exact Or.inl ⟨M0 12 j, Or.inl ⟨j, jb, rfl⟩, b, c⟩
      · exact absurd (q.trans (hg g gb.1 gb.2)) b
      · rw [q] at b c
        exact Or.inr ⟨k, kb, b, c⟩
  · refine fun ho => h5 (over_mono (fun y hy => ?_) ho)
    rcases hy with w | w | ⟨_, w, _⟩
    · exact Or.inl w
    · exact Or.inr w
    · exact w.elim
/-- the same, other words for H -/
theorem gt_H {M0 M : zM} {E : Lb → Prop} {F : Int → FN} {H H' : Int → Prop} (h : gtI M0 M E F H) (e : ∀ x, H' x ↔ H x) : gtI M0 M E F H' := by
  rw [show H' = H from funext (fun x => propext (e x))]
  exact h
/-- where nothing that counts has changed -/
theorem gt_cg {M0 M M1 : zM} {E : Lb → Prop} {F : Int → FN} {H : Int → Prop} (h07 : M1 0 7 = M 0 7) (h5 : M1 5 = M 5) (h6 : M1 6 = M 6) (h7 : M1 7 = M 7) (h8 : M1 8 = M 8) (h10 : M1 10 = M 10) (h11 : M1 11 = M 11) (h12 : M1 12 = M 12) (h13 : M1 13 = M 13) (h15 : M1 15 = M 15) (h : gtI M0 M E F H) : gtI M0 M1 E F H := by
  obtain ⟨⟨S, hS, hR⟩, g2, g3, g4, g5, g6⟩ := h
  have hrt : rt M1 = rt M := rt_cg h12 h13 h15 h07
  have hd : den M1 = den M := den_cg h6 h7 h8
  have hk : kpL M1 = kpL M := by
    funext y
    unfold kpL
    rw [h07, h15, hd]
  refine ⟨⟨S, plo_cg h5 h6 h7 h8 h10 h11 hS, fun x hx => hR x (by rw [← hrt]; exact hx)⟩, by rw [h12, hd]; exact g2, by rw [h5]; exact g3, by rw [hk]; exact g4, by rw [h13, hd]; exact g5, g6⟩
/-- behind a step -/
theorem gt_st {M0 M M3 : zM} {E : Lb → Prop} {F : Int → FN} {H : Int → Prop} {Fk : FN} {x : Int} (hb : CB M0) (h : gtI M0 M E F H) (hH : ∀ x, H x → 0 ≤ x ∧ x < 40) (hq : stQ M Fk x M3) (h12 : M3 12 = M 12) (h13 : M3 13 = M 13) (h15 : M3 15 = M 15) : ((x = -1 ∧ ¬ okP M0 (EH E F H) Fk ∧ mid M0 M3 (EH E F H)) ∨ (¬ x = -1 ∧ okP M0 (EH E F H) Fk ∧ den M3 x = Fk ∧ gtI M0 M3 E F H)) ∧ ∃ S : Int → Prop, plo M3 S ∧ rtO M3 S ∧ (x = -1 ∨ okN S x) := by
  obtain ⟨md, rs, S, hS, hR, hx⟩ := mid_st (gt_mid hb h hH) hq h12 h13 h15
  refine ⟨?_, S, hS, hR, hx⟩
  obtain ⟨o1, o2⟩ := rs_ok rs
  by_cases e : x = -1
  · exact Or.inl ⟨e, fun t => o1.mp t e, md⟩
  · obtain ⟨d, ok⟩ := o2 e
    refine Or.inr ⟨e, ok, d, ⟨S, hS, hR⟩, md.2.1, md.2.2.1, fun y => ?_, fun z a b => ?_, h.2.2.2.2.2⟩
    · rw [← h.2.2.2.1 y]
      refine or_congr Iff.rfl ?_
      unfold kpL
      rw [hq.2.2.2.1, h15]
      constructor
      · rintro ⟨k, kb, p, q⟩
        have w := (hq.2.1 (M 15 k) (Or.inr (Or.inr ⟨k, kb, rfl⟩))).resolve_left p
        rw [w] at q
        exact ⟨k, kb, p, q⟩
      · rintro ⟨k, kb, p, q⟩
        have w := (hq.2.1 (M 15 k) (Or.inr (Or.inr ⟨k, kb, rfl⟩))).resolve_left p
        exact ⟨k, kb, p, by rw [w]; exact q⟩
    · rw [h13]
      rcases h.2.2.2.2.1 z a b with ⟨p, q, r⟩ | p
      · exact Or.inl ⟨p, q, ((hq.2.1 (M 13 z) (Or.inr (Or.inl ⟨z, ⟨a, b⟩, rfl⟩))).resolve_left q).trans r⟩
      · exact Or.inr p
/-- what was made becomes gate k's -/
theorem gt_add {M0 M M1 : zM} {E : Lb → Prop} {F : Int → FN} {H : Int → Prop} {S : Int → Prop} {k x : Int} (h : gtI M0 M E F H) (hS : plo M S) (hR : rtO M S) (hx : okN S x) (hd : den M x = F k) (k0 : 0 ≤ k) (k1 : k < 40) (ok : okP M0 (EH E F H) (F k)) (e : M1 = uz M 13 k x) : gtI M0 M1 E F (fun z => H z ∨ z = k) := by
  have o : ∀ a : Nat, ¬ a = 13 → M1 a = M a := fun a ha => by rw [e]; exact uz_o ha
  have hdn : den M1 = den M := den_cg (o 6 (by decide)) (o 7 (by decide)) (o 8 (by decide))
  have e13 : M1 13 = updI (M 13) k x := by rw [e, uz_fn]
  have hx1 : ¬ x = -1 := fun z => by have := okN_in hS.1 hx; omega
  have hk : kpL M1 = kpL M := by
    funext y
    unfold kpL
    rw [o 0 (by decide), o 15 (by decide), hdn]
  refine ⟨⟨S, plo_cg (o 5 (by decide)) (o 6 (by decide)) (o 7 (by decide)) (o 8 (by decide)) (o 10 (by decide)) (o 11 (by decide)) hS, fun z hz => ?_⟩, by rw [o 12 (by decide), hdn]; exact h.2.1, by rw [o 5 (by decide)]; exact h.2.2.1, by rw [hk]; exact h.2.2.2.1, fun z a b => ?_, ?_⟩
  · rcases hz with ⟨j, jb, q⟩ | ⟨g, gb, q⟩ | ⟨j, jb, q⟩
    · rw [o 12 (by decide)] at q; exact hR z (Or.inl ⟨j, jb, q⟩)
    · rw [e13] at q
      by_cases w : g = k
      · rw [w, updI_s] at q; rw [q]; exact Or.inr hx
      · rw [updI_n w] at q; exact hR z (Or.inr (Or.inl ⟨g, gb, q⟩))
    · rw [o 15 (by decide)] at q; rw [o 0 (by decide)] at jb; exact hR z (Or.inr (Or.inr ⟨j, jb, q⟩))
  · rw [e13, hdn]
    by_cases w : z = k
    · rw [w, updI_s]; exact Or.inl ⟨Or.inr rfl, hx1, hd⟩
    · rw [updI_n w]
      rcases h.2.2.2.2.1 z a b with ⟨p, q⟩ | ⟨p, q⟩
      · exact Or.inl ⟨Or.inl p, q⟩
      · exact Or.inr ⟨fun t => t.elim p w, q⟩
  · refine fun ho => ok (over_mono (fun y hy => ?_) ho)
    rcases hy with w | w | ⟨z, w | w, v⟩
    · exact Or.inl (Or.inl w)
    · exact Or.inl (Or.inr (Or.inl w))
    · exact Or.inl (Or.inr (Or.inr ⟨z, w, v⟩))
    · rw [w] at v; exact Or.inr v
/-- some are let go -/
theorem gt_let {M0 M M1 : zM} {E : Lb → Prop} {F : Int → FN} {H D : Int → Prop} (h : gtI M0 M E F H) (o : ∀ a : Nat, ¬ a = 13 → M1 a = M a) (e : ∀ z : Int, 0 ≤ z → z < 40 → (D z ∧ M1 13 z = -1) ∨ (¬ D z ∧ M1 13 z = M 13 z)) : gtI M0 M1 E F (fun z => H z ∧ ¬ D z) := by
  have hdn : den M1 = den M := den_cg (o 6 (by decide)) (o 7 (by decide)) (o 8 (by decide))
  have hk : kpL M1 = kpL M := by
    funext y
    unfold kpL
    rw [o 0 (by decide), o 15 (by decide), hdn]
  obtain ⟨⟨S, hS, hR⟩, g2, g3, g4, g5, g6⟩ := h
  refine ⟨⟨S, plo_cg (o 5 (by decide)) (o 6 (by decide)) (o 7 (by decide)) (o 8 (by decide)) (o 10 (by decide)) (o 11 (by decide)) hS, fun z hz => ?_⟩, by rw [o 12 (by decide), hdn]; exact g2, by rw [o 5 (by decide)]; exact g3, by rw [hk]; exact g4, fun z a b => ?_, ?_⟩
  · rcases hz with ⟨j, jb, q⟩ | ⟨g, gb, q⟩ | ⟨j, jb, q⟩
    · rw [o 12 (by decide)] at q; exact hR z (Or.inl ⟨j, jb, q⟩)
    · rcases e g gb.1 gb.2 with ⟨-, w⟩ | ⟨-, w⟩
      · exact Or.inl (q.trans w)
      · rw [w] at q; exact hR z (Or.inr (Or.inl ⟨g, gb, q⟩))
    · rw [o 15 (by decide)] at q; rw [o 0 (by decide)] at jb; exact hR z (Or.inr (Or.inr ⟨j, jb, q⟩))
  · rw [hdn]
    rcases e z a b with ⟨w, v⟩ | ⟨w, v⟩
    · exact Or.inr ⟨fun t => t.2 w, v⟩
    · rw [v]
      rcases g5 z a b with ⟨p, q⟩ | ⟨p, q⟩
      · exact Or.inl ⟨⟨p, w⟩, q⟩
      · exact Or.inr ⟨fun t => p t.1, q⟩
  · refine fun ho => g6 (over_mono (fun y hy => ?_) ho)
    rcases hy with w | w | ⟨z, w, v⟩
    · exact Or.inl w
    · exact Or.inr (Or.inl w)
    · exact Or.inr (Or.inr ⟨z, w.1, v⟩)
/-- the output's own is kept, and let go as a gate's -/
theorem gt_kp {M0 M M1 M2 : zM} {E : Lb → Prop} {F : Int → FN} {g : Int} (hb : CB M0) (h : gtI M0 M E F (fun z => z = g)) (g0 : 0 ≤ g) (g1 : g < 40) (h7 : 0 ≤ M 0 7) (e1 : M1 = uz (uz M 15 (M 0 7) (M 13 g)) 0 7 (M 0 7 + 1)) (e2 : M2 = uz M1 13 g (-1)) : mid M0 M2 (fun y => E y ∨ laid (F g) y) ∧ rt M2 (M 13 g) ∧ ¬ M 13 g = -1 ∧ den M2 (M 13 g) = F g ∧ ∀ x : Int, 0 ≤ x → x < 40 → M2 13 x = -1 := by
  obtain ⟨-, hn, hd⟩ := (h.2.2.2.2.1 g g0 g1).resolve_right (fun t => t.1 rfl)
  have hm := gt_mid hb h (fun x hx => by omega)
  obtain ⟨S, hS, hR⟩ := hm.1
  have hx : okN S (M 13 g) := (hR _ (Or.inr (Or.inl ⟨g, ⟨g0, g1⟩, rfl⟩))).resolve_left hn
  have o : ∀ a : Nat, ¬ a = 0 → ¬ a = 13 → ¬ a = 15 → M2 a = M a := fun a p q r => by rw [e2, uz_o q, e1, uz_o p, uz_o r]
  have hdn : den M2 = den M := den_cg (o 6 (by decide) (by decide) (by decide)) (o 7 (by decide) (by decide) (by decide)) (o 8 (by decide) (by decide) (by decide))
  have e07 : M2 0 7 = M 0 7 + 1 := by rw [e2, uz_oo (by decide), e1, uz_s]
  have e15 : M2 15 = updI (M 15) (M 0 7) (M 13 g) := by rw [e2, uz_o (by decide), e1, uz_o (by decide), uz_fn]
  have e13 : ∀ x : Int, 0 ≤ x → x < 40 → M2 13 x = -1 := fun x a b => by
    rw [e2, uz_a]
    by_cases w : x = g
    · rw [if_pos w]
    · rw [if_neg w, e1, uz_oo (by decide), uz_oo (by decide)]
      exact ((h.2.2.2.2.1 x a b).resolve_left (fun t => w t.1)).2
  have hrt : ∀ z, rt M2 z → z = -1 ∨ rt M z := fun z hz => by
    rcases hz with ⟨j, jb, q⟩ | ⟨x, xb, q⟩ | ⟨k, kb, q⟩
    · rw [o 12 (by decide) (by decide) (by decide)] at q; exact Or.inr (Or.inl ⟨j, jb, q⟩)
    · exact Or.inl (q.trans (e13 x xb.1 xb.2))
    · rw [e15] at q
      rw [e07] at kb
      by_cases w : k = M 0 7
      · rw [w, updI_s] at q; exact Or.inr (Or.inr (Or.inl ⟨g, ⟨g0, g1⟩, q⟩))
      · rw [updI_n w] at q; exact Or.inr (Or.inr (Or.inr ⟨k, by omega, q⟩))
  have hrt2 : ∀ z, ¬ z = -1 → rt M z → rt M2 z := fun z hz1 hz => by
    rcases hz with ⟨j, jb, q⟩ | ⟨x, xb, q⟩ | ⟨k, kb, q⟩
    · exact Or.inl ⟨j, jb, by rw [o 12 (by decide) (by decide) (by decide)]; exact q⟩
    · by_cases w : x = g
      · exact Or.inr (Or.inr ⟨M 0 7, by omega, by rw [e15, updI_s, q, w]⟩)
      · exact absurd (q.trans ((h.2.2.2.2.1 x xb.1 xb.2).resolve_left (fun t => w t.1)).2) hz1
    · exact Or.inr (Or.inr ⟨k, by omega, by rw [e15, updI_n (by omega)]; exact q⟩)
  have hEq : ∀ y, EH E F (fun z => z = g) y ↔ (E y ∨ laid (F g) y) := fun y => or_congr Iff.rfl ⟨fun ⟨z, a, b⟩ => by rw [a] at b; exact b, fun b => ⟨g, rfl, b⟩⟩
  have hl : ∀ y, LBc M2 y ↔ LBc M y := fun y => by
    unfold LBc
    rw [hdn]
    constructor
    · rintro ⟨z, a, b, c⟩
      exact ⟨z, (hrt z a).resolve_left b, b, c⟩
    · rintro ⟨z, a, b, c⟩
      exact ⟨z, hrt2 z b a, b, c⟩
  refine ⟨⟨⟨S, plo_cg (o 5 (by decide) (by decide) (by decide)) (o 6 (by decide) (by decide) (by decide)) (o 7 (by decide) (by decide) (by decide)) (o 8 (by decide) (by decide) (by decide)) (o 10 (by decide) (by decide) (by decide)) (o 11 (by decide) (by decide) (by decide)) hS, fun z hz => ?_⟩, by rw [o 12 (by decide) (by decide) (by decide), hdn]; exact hm.2.1, by rw [o 5 (by decide) (by decide) (by decide)]; exact hm.2.2.1, fun y => ?_, ?_⟩, hrt2 _ hn (Or.inr (Or.inl ⟨g, ⟨g0, g1⟩, rfl⟩)), hn, by rw [hdn]; exact hd, e13⟩
  · rcases hrt z hz with w | w
    · exact Or.inl w
    · exact hR z w
  · rw [hl y, hm.2.2.2.1 y]
    exact or_congr Iff.rfl (hEq y)
  · rw [← over_cg (fun y => or_congr Iff.rfl (hEq y))]
    exact hm.2.2.2.2
/-- every gate that is needed finds room -/
def okB (M0 : zM) (E : Lb → Prop) (F : Int → FN) (L : Int → Int) (g : Int) : Prop := ∀ k : Int, 0 ≤ k → k ≤ g → ¬ L k = -1 → okP M0 (EH E F (hnd L g k)) (F k)
def bdQ (M0 : zM) (E : Lb → Prop) (F : Int → FN) (L : Int → Int) (g x : Int) (M' : zM) : Prop := (x = -1 ∧ ¬ okB M0 E F L g ∧ ∃ E' : Lb → Prop, mid M0 M' E') ∨ (¬ x = -1 ∧ okB M0 E F L g ∧ mid M0 M' (fun y => E y ∨ laid (F g) y) ∧ (rt M' x ∧ den M' x = F g) ∧ ∀ z : Int, 0 ≤ z → z < 40 → M' 13 z = -1)
