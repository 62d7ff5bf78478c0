section
/-! ===== readers: what is read of a function ===== -/
theorem bz_01 (x : Int) : bz x = 0 ∨ bz x = 1 := bz_in x
/-- it hangs on a place -/
def hgF (F : FN) (d : Int) : Prop := ∃ r : Int → Int, ¬ F (updI r d 0) = F (updI r d 1)
theorem mix_upd {d v : Int} {s r : Int → Int} : mix d s (updI r d v) = updI (mix d s r) d v := by
  funext k
  by_cases e : k = d
  · rw [e, mix_ge (Int.le_refl d), updI_s, updI_s]
  · rw [updI_n e]
    by_cases q : k < d
    · rw [mix_lt q, mix_lt q]
    · rw [mix_ge (by omega), mix_ge (by omega), updI_n e]
theorem mix_self {d : Int} {r : Int → Int} : mix d r r = r := by
  funext k
  unfold mix
  split <;> rfl
theorem hg_laid {F : FN} {d : Int} (d0 : 0 ≤ d) (d1 : d < 8) : hgF F d ↔ ∃ p : FN, laid F (d, p) := by
  constructor
  · rintro ⟨r, q⟩
    refine ⟨fun r' => F (mix d r r'), ⟨d0, d1⟩, ⟨r, rfl⟩, r, ?_⟩
    show ¬ F (mix d r (updI r d 0)) = F (mix d r (updI r d 1))
    rw [mix_upd, mix_upd, mix_self]
    exact q
  · rintro ⟨p, -, ⟨s, e⟩, r, q⟩
    have e' : p = fun r => F (mix d s r) := e
    have q' : ¬ p (updI r d 0) = p (updI r d 1) := q
    refine ⟨mix d s r, fun w => q' ?_⟩
    rw [e']
    show F (mix d s (updI r d 0)) = F (mix d s (updI r d 1))
    rw [mix_upd, mix_upd]
    exact w
/-- the bit of a place in the row -/
theorem pos_at (r : Int → Int) {k : Nat} (hk : k ≤ 7) : ∃ a b : Int, (0 ≤ b ∧ b < pw2 k) ∧ 0 ≤ a ∧ pos r = a * pw2 (k + 1) + bz (r (7 - (k : Int))) * pw2 k + b ∧ ∀ v : Int, pos (updI r (7 - (k : Int)) v) = a * pw2 (k + 1) + bz v * pw2 k + b := by
  have m : ∀ r' : Int → Int, pos r' = ihd r' (7 - k) * pw2 (k + 1) + pd r' (k + 1) := fun r' => by
    have h := pd_mix (s := r') (d := 7 - k) (k := k + 1) (r := r') (by omega)
    rw [mix_self] at h
    exact h
  refine ⟨ihd r (7 - k), pd r k, pd_in r k, (ihd_in r (7 - k)).1, ?_, fun v => ?_⟩
  · rw [m r]
    show ihd r (7 - k) * pw2 (k + 1) + (bz (r (7 - (k : Int))) * pw2 k + pd r k) = _
    omega
  · rw [m (updI r (7 - (k : Int)) v), pd_up, ihd_ag (s := updI r (7 - (k : Int)) v) (s' := r) (fun j hj => updI_n (by omega))]
    omega
theorem zx_ok : ∀ (p : Fin 256) (e : Fin 8), zxor (p.val : Int) (zshl 1 (e.val : Int)) = if (p.val : Int) / pw2 e.val % 2 = 0 then (p.val : Int) + pw2 e.val else (p.val : Int) - pw2 e.val := by decide +kernel
theorem pw2_cs {k : Nat} (hk : k ≤ 7) : pw2 k = 1 ∨ pw2 k = 2 ∨ pw2 k = 4 ∨ pw2 k = 8 ∨ pw2 k = 16 ∨ pw2 k = 32 ∨ pw2 k = 64 ∨ pw2 k = 128 := by
  rcases (show k = 0 ∨ k = 1 ∨ k = 2 ∨ k = 3 ∨ k = 4 ∨ k = 5 ∨ k = 6 ∨ k = 7 by omega) with e | e | e | e | e | e | e | e <;> rw [e] <;> decide
theorem zx_bit {p a b : Int} {k : Nat} (hk : k ≤ 7) (b0 : 0 ≤ b) (b1 : b < pw2 k) (h : p = a * pw2 (k + 1) + b) (p0 : 0 ≤ p) (p1 : p + pw2 k < 256) : zxor p (zshl 1 (k : Int)) = p + pw2 k ∧ zxor (p + pw2 k) (zshl 1 (k : Int)) = p := by
  have hw := pw2_cs hk
  have w1 := pw2_pos k
  have z1 := zx_ok ⟨p.toNat, by omega⟩ ⟨k, by omega⟩
  have z2 := zx_ok ⟨(p + pw2 k).toNat, by omega⟩ ⟨k, by omega⟩
  have e1 : ((p.toNat : Nat) : Int) = p := Int.toNat_of_nonneg p0
  have e2 : (((p + pw2 k).toNat : Nat) : Int) = p + pw2 k := Int.toNat_of_nonneg (by omega)
  dsimp only at z1 z2
  rw [e1] at z1
  rw [e2] at z2
  have hh : pw2 (k + 1) = 2 * pw2 k := rfl
  rw [hh] at h
  have c1 : p / pw2 k % 2 = 0 := by
    rcases hw with e | e | e | e | e | e | e | e <;> rw [e] at h b1 ⊢ <;> omega
  have c2 : ¬ (p + pw2 k) / pw2 k % 2 = 0 := by
    rcases hw with e | e | e | e | e | e | e | e <;> rw [e] at h b1 ⊢ <;> omega
  rw [if_pos c1] at z1
  rw [if_neg c2] at z2
  exact ⟨z1, by omega⟩
def hgP (B : Int → Int64) (d : Int) : Prop := ∃ p : Int, (0 ≤ p ∧ p < 256) ∧ ¬ btF B p = btF B (zxor p (zshl 1 (7 - d)))
theorem hg_pos {B : Int → Int64} {d : Int} (d0 : 0 ≤ d) (d1 : d < 8) : hgP B d ↔ hgF (fun r => btF B (pos r)) d := by
  obtain ⟨k, ek⟩ : ∃ k : Nat, d = 7 - (k : Int) := ⟨(7 - d).toNat, by omega⟩
  have hk : k ≤ 7 := by omega
  have e7 : (7 : Int) - d = (k : Int) := by omega
  have key : ∀ r : Int → Int, zxor (pos (updI r d 0)) (zshl 1 (7 - d)) = pos (updI r d 1) ∧ zxor (pos (updI r d 1)) (zshl 1 (7 - d)) = pos (updI r d 0) := fun r => by
    obtain ⟨a, b, ⟨b0, b1⟩, a0, -, ev⟩ := pos_at r hk
    have q0 := ev 0
    have q1 := ev 1
    rw [← ek] at q0 q1
    rw [bz_0] at q0
    rw [bz_1] at q1
    have i0 := pos_in (updI r d 0)
    have i1 := pos_in (updI r d 1)
    have e1 : pos (updI r d 1) = pos (updI r d 0) + pw2 k := by omega
    have z := zx_bit (p := pos (updI r d 0)) (a := a) hk b0 b1 (by omega) i0.1 (by omega)
    rw [e7, e1]
    exact z
  constructor
  · rintro ⟨p, pb, q⟩
    obtain ⟨r, er⟩ := pd_onto 8 p pb.1 (by have := pw2_v; omega)
    have er' : pos r = p := er
    obtain ⟨a, b, ⟨b0, b1⟩, a0, e, ev⟩ := pos_at r hk
    have q0 := ev 0
    have q1 := ev 1
    rw [← ek] at q0 q1 e
    rw [bz_0] at q0
    rw [bz_1] at q1
    obtain ⟨k1, k2⟩ := key r
    refine ⟨r, fun w => q ?_⟩
    rcases bz_01 (r d) with v | v
    · rw [v] at e
      have ep : p = pos (updI r d 0) := by omega
      rw [ep, k1]
      exact w
    · rw [v] at e
      have ep : p = pos (updI r d 1) := by omega
      rw [ep, k2]
      exact w.symm
  · rintro ⟨r, q⟩
    refine ⟨pos (updI r d 0), pos_in _, ?_⟩
    rw [(key r).1]
    exact q
/-! counts over places -/
noncomputable def ncF (w pl : Int → Int) (p k : Int) : Int := ind ((2 ≤ k ∧ ¬ w k = 0) ∧ pl k = p)
theorem cnt_at {M : zM} {S : Int → Prop} {n x p : Int} {w w' : Int → Int} (hp : pst M S) (hn : n = -1 ∨ okN S n) (h0 : ∀ m : Int, 0 ≤ m → m < 252 → w m = 0) (hm : mkR M S 1 n 0 w w') (hx : x = hr (ncF w' (M 6) p) 252) : cnt (fun y => laid (den M n) y ∧ y.1 = p) x := by
  obtain ⟨h1, h2⟩ := mk_one hp hn h0 hm
  rw [hx]
  have key : ∀ a : Int, a < 252 → ¬ ncF w' (M 6) p a = 0 → S a ∧ laid (den M n) (lab M a) ∧ M 6 a = p := fun a a1 ha => by
    have q := ind_nz.mp ha
    rcases h1 a q.1.1 a1 with z | z
    · exact absurd z q.1.2
    · exact ⟨z.2.1, z.2.2, q.2⟩
  refine cnt_hr (g := lab M) (fun a b a0 a1 b0 b1 ha hb e => lab_inj hp (key a (by omega) ha).1 (key b (by omega) hb).1 e) (fun a a0 a1 ha => ?_) (fun y hy => ?_)
  · have q := key a (by omega) ha
    exact ⟨q.2.1, q.2.2⟩
  · obtain ⟨m, q, e⟩ := h2 y hy.1
    refine ⟨m, by omega, by omega, ind_nz.mpr ⟨⟨q.1.1, by rw [q.2]; decide⟩, ?_⟩, e⟩
    have e2 : (lab M m).1 = y.1 := by rw [e]
    exact e2.trans hy.2
/-! the reference's nodes of a function -/
end
section
/-! ===== readers: their answers ===== -/
theorem zor_0 {x : Int} (h0 : 0 ≤ x) (h1 : x < 65536) : zor x 0 = x := by
  rw [zor_nat h0 (by omega) (Int.le_refl 0) (by decide)]
  show ((x.toNat ||| 0 : Nat) : Int) = x
  rw [Nat.or_zero]
  exact Int.toNat_of_nonneg h0
set_option maxRecDepth 20000 in
theorem zX4_hangs_f {G : tl_G} {M : zM} {J : zJ} {f pl : Int} (f0 : 0 ≤ f) (f1 : f < 56) (p0 : 0 ≤ pl) (p1 : pl < 8) : ZN G yX4_hangs mX4_hangs 1 kAll [vR 31, vI f, vI pl] F1 M J (qI (fun x M' J' => M' = M ∧ J' = J ∧ ((x = 1 ∧ hgF (phi J f) pl) ∨ (x = 0 ∧ ¬ hgF (phi J f) pl)))) := by
  refine ZN_of (L := [_, _, _, _, _, _]) (by decide) rfl rfl (Nat.le_of_ble_eq_true rfl) rfl (fun hav => ?_)
  have hz7 := zshl1 (d := 7 - pl) (by omega) (by omega)
  refine Z_iconst (n := 1) dX4_hangs_0 rfl (by decide) ?_
  refine Z_istore_n (L' := [_, _, _, _, _, _]) (n := 2) dX4_hangs_1 rfl (by decide) rfl rfl ?_
  refine Z_iconst (n := 3) dX4_hangs_2 rfl (by decide) ?_
  refine Z_bipush (n := 5) dX4_hangs_3 rfl (by decide) (by decide) ?_
  refine Z_iload_n (n := 6) dX4_hangs_5 rfl rfl ?_
  refine Z_isub (n := 7) dX4_hangs_6 rfl (by omega) ?_
  refine Z_ishl (n := 8) dX4_hangs_7 rfl ?_
  refine Z_istore (L' := [_, _, _, _, _, _]) (n := 10) dX4_hangs_8 rfl (by decide) rfl rfl ?_
  refine Z_iconst (n := 11) dX4_hangs_10 rfl (by decide) ?_
  refine Z_istore (L' := [_, _, _, _, _, _]) (n := 13) dX4_hangs_11 rfl (by decide) rfl rfl ?_
  have lp13 : ∀ (N13 : Nat) (e p : Int) , ((256 - p).toNat) < N13 → (0 ≤ p) → (p ≤ 256) → ((e = 1 ∧ hgP (bitF J f) pl) ∨ (e = 0 ∧ ∀ q : Int, 0 ≤ q → q < p → btF (bitF J f) q = btF (bitF J f) (zxor q (zshl 1 (7 - pl))))) → TZ G mX4_hangs (tl_rm 1 0 0) 0 0 kAll M J 13 [some (vR 31), some (vI f), some (vI pl), some (vI e), some (vI (zshl 1 (7 - pl))), some (vI p)] [] F1 M J (ZM G (zPost G kAll F1 M J (qI (fun x M' J' => M' = M ∧ J' = J ∧ ((x = 1 ∧ hgF (phi J f) pl) ∨ (x = 0 ∧ ¬ hgF (phi J f) pl))))) 0 0) := by
    intro N13
    induction N13 with
    | zero => intro e p  hN; omega
    | succ N13 ih13 =>
      intro e p  hN13 i13_0 i13_1 i13_2
      refine Z_iload (n := 15) dX4_hangs_13 rfl rfl ?_
      refine Z_sipush (n := 18) dX4_hangs_15 rfl (by decide) (by decide) ?_
      refine Z_icmp_ge (n := 21) (t := 57) dX4_hangs_18 rfl (by decide) (fun c18 => ?_) (fun c18 => ?_)
      · refine Z_iload_n (n := 58) dX4_hangs_57 rfl rfl ?_
        refine Z_zret dX4_hangs_58 rfl (by omega) (by omega) ?_
        refine ⟨rfl, rfl, ?_⟩
        rcases i13_2 with ⟨a, b⟩ | ⟨a, b⟩
        · exact Or.inl ⟨a, (hg_pos p0 p1).mp b⟩
        · refine Or.inr ⟨a, fun t => ?_⟩
          obtain ⟨q, qb, w⟩ := (hg_pos p0 p1).mpr t
          exact w (b q qb.1 (by omega))
      · refine Z_iload_n (n := 22) dX4_hangs_21 rfl rfl ?_
        refine Z_if_ne (n := 25) (t := 45) dX4_hangs_22 rfl (by decide) (fun c22 => ?_) (fun c22 => ?_)
        · have nx : ((1 : Int) = 1 ∧ hgP (bitF J f) pl) ∨ ((1 : Int) = 0 ∧ ∀ q : Int, 0 ≤ q → q < p + 1 → btF (bitF J f) q = btF (bitF J f) (zxor q (zshl 1 (7 - pl)))) := Or.inl ⟨rfl, (i13_2.resolve_right (fun t => c22 t.1)).2⟩
          refine Z_iconst (n := 46) dX4_hangs_45 rfl (by decide) ?_
          refine Z_goto (t := 50) dX4_hangs_46 (by decide) ?_
          refine Z_istore_n (L' := [_, _, _, _, _, _]) (n := 51) dX4_hangs_50 rfl (by decide) rfl rfl ?_
          refine Z_iinc (L' := [_, _, _, _, _, _]) (n := 54) dX4_hangs_51 rfl rfl (by decide) rfl rfl (by omega) rfl ?_
          refine Z_goto (t := 13) dX4_hangs_54 (by decide) ?_
          refine Z_loc (L' := [some _, some _, some _, some _, some _, some _]) (lsub_same (lsub_same (lsub_same (lsub_same (lsub_same (lsub_same lsub_nil)))))) ?_
          exact ih13 _ _  (by omega) (by first | assumption | omega | decide) (by first | assumption | omega | decide) (by exact nx)
        · refine Z_aload_n (n := 26) dX4_hangs_25 rfl rfl ?_
          refine Z_iload_n (n := 27) dX4_hangs_26 rfl rfl ?_
          refine Z_iload (n := 29) dX4_hangs_27 rfl rfl ?_
          refine Z_callVi (n := 32) [_, _] _ dX4_hangs_29 rfl cwX4_240 rfl rfl rfl (Nat.le_of_ble_eq_true rfl) (by refine ⟨?_, ?_, ?_, ?_⟩ <;> exact Nat.le_of_ble_eq_true rfl) (fun _ h => h) (zX4_bit  (by first | assumption | omega | decide) (by first | assumption | omega | decide) (by first | assumption | omega | decide) (by first | assumption | omega | decide)) ?_
          intro x29 M29 J29 z29 f29 q29
          obtain ⟨e29_1, e29_2, h29⟩ := q29
          replace e29_1 := e29_1.symm; subst e29_1
          replace e29_2 := e29_2.symm; subst e29_2
          refine Z_aload_n (n := 33) dX4_hangs_32 rfl rfl ?_
          refine Z_iload_n (n := 34) dX4_hangs_33 rfl rfl ?_
          refine Z_iload (n := 36) dX4_hangs_34 rfl rfl ?_
          refine Z_iload (n := 38) dX4_hangs_36 rfl rfl ?_
          refine Z_ixor (n := 39) dX4_hangs_38 rfl ?_
          have hzx := zxor_in (x := p) (y := zshl 1 (7 - pl)) (by omega) (by omega) (by omega) (by omega)
          refine Z_callVi (n := 42) [_, _] _ dX4_hangs_39 rfl cwX4_240 rfl rfl rfl (Nat.le_of_ble_eq_true rfl) (by refine ⟨?_, ?_, ?_, ?_⟩ <;> exact Nat.le_of_ble_eq_true rfl) (fun _ h => h) (zX4_bit  (by first | assumption | omega | decide) (by first | assumption | omega | decide) (by first | assumption | omega | decide) (by first | assumption | omega | decide)) ?_
          intro x39 M39 J39 z39 f39 q39
          obtain ⟨e39_1, e39_2, h39⟩ := q39
          replace e39_1 := e39_1.symm; subst e39_1
          replace e39_2 := e39_2.symm; subst e39_2
          refine Z_icmp_eq (n := 45) (t := 49) dX4_hangs_42 rfl (by decide) (fun c42 => ?_) (fun c42 => ?_)
          · have nx : ((0 : Int) = 1 ∧ hgP (bitF J f) pl) ∨ ((0 : Int) = 0 ∧ ∀ q : Int, 0 ≤ q → q < p + 1 → btF (bitF J f) q = btF (bitF J f) (zxor q (zshl 1 (7 - pl)))) := Or.inr ⟨rfl, fun q a b => by
              have z := (i13_2.resolve_left (fun t => by omega)).2
              by_cases w : q = p
              · rw [w, ← h29, ← h39]; exact c42
              · exact z q a (by omega)⟩
            refine Z_iconst (n := 50) dX4_hangs_49 rfl (by decide) ?_
            refine Z_istore_n (L' := [_, _, _, _, _, _]) (n := 51) dX4_hangs_50 rfl (by decide) rfl rfl ?_
            refine Z_iinc (L' := [_, _, _, _, _, _]) (n := 54) dX4_hangs_51 rfl rfl (by decide) rfl rfl (by omega) rfl ?_
            refine Z_goto (t := 13) dX4_hangs_54 (by decide) ?_
            refine Z_loc (L' := [some _, some _, some _, some _, some _, some _]) (lsub_same (lsub_same (lsub_same (lsub_same (lsub_same (lsub_same lsub_nil)))))) ?_
            exact ih13 _ _  (by omega) (by first | assumption | omega | decide) (by first | assumption | omega | decide) (by exact nx)
          · have nx : ((1 : Int) = 1 ∧ hgP (bitF J f) pl) ∨ ((1 : Int) = 0 ∧ ∀ q : Int, 0 ≤ q → q < p + 1 → btF (bitF J f) q = btF (bitF J f) (zxor q (zshl 1 (7 - pl)))) := Or.inl ⟨rfl, p, ⟨by omega, by omega⟩, fun t => c42 (by rw [h29, h39]; exact t)⟩
            refine Z_iconst (n := 46) dX4_hangs_45 rfl (by decide) ?_
            refine Z_goto (t := 50) dX4_hangs_46 (by decide) ?_
            refine Z_istore_n (L' := [_, _, _, _, _, _]) (n := 51) dX4_hangs_50 rfl (by decide) rfl rfl ?_
            refine Z_iinc (L' := [_, _, _, _, _, _]) (n := 54) dX4_hangs_51 rfl rfl (by decide) rfl rfl (by omega) rfl ?_
            refine Z_goto (t := 13) dX4_hangs_54 (by decide) ?_
            refine Z_loc (L' := [some _, some _, some _, some _, some _, some _]) (lsub_same (lsub_same (lsub_same (lsub_same (lsub_same (lsub_same lsub_nil)))))) ?_
            exact ih13 _ _  (by omega) (by first | assumption | omega | decide) (by first | assumption | omega | decide) (by exact nx)
  refine Z_loc (L' := [some _, some _, some _, some _, some _, some _]) (lsub_same (lsub_same (lsub_same (lsub_same (lsub_same (lsub_same lsub_nil)))))) ?_
  exact lp13 _ _ _  (Nat.lt_succ_self _) (by first | assumption | omega | decide) (by first | assumption | omega | decide) (by exact Or.inr ⟨rfl, fun q a b => by omega⟩)
set_option maxRecDepth 20000 in
theorem zX2_nodeCountAt_f {G : tl_G} {M : zM} {J : zJ} {S : Int → Prop} {n p : Int} (hp : pst M S) (hn : n = -1 ∨ okN S n) : ZN G yX2_nodeCountAt mX2_nodeCountAt 10 kMarks [vR 5, vI n, vI p] F1 M J (qI (fun x M' J' => J' = J ∧ cnt (fun y => laid (den M n) y ∧ y.1 = p) x)) := by
  refine ZN_of (L := [_, _, _, _, _]) (by decide) rfl rfl (Nat.le_of_ble_eq_true rfl) rfl (fun hav => ?_)
  refine Z_aload_n (n := 1) dX2_nodeCountAt_0 rfl rfl ?_
  refine Z_callVv (n := 4) [] _ dX2_nodeCountAt_1 rfl cwX2_53 rfl rfl rfl (Nat.le_of_ble_eq_true rfl) (by refine ⟨?_, ?_, ?_, ?_⟩ <;> exact Nat.le_of_ble_eq_true rfl) (fun _ h => h) (zX2_unmark  (by decide)) ?_
  intro M1 J1 f1 q1
  obtain ⟨e1_1, e1_2⟩ := q1
  replace e1_1 := e1_1.symm; subst e1_1
  replace e1_2 := e1_2.symm; subst e1_2
  have o1 : ∀ a : Nat, ¬ a = 9 → fillz M 9 252 0 a = M a := fun a ha => fillz_o ha
  have z1 : ∀ m : Int, 0 ≤ m → m < 252 → fillz M 9 252 0 9 m = 0 := fun m a b => fillz_a a (by omega)
  have hp1 : pst (fillz M 9 252 0) S := pst_cg (o1 6 (by decide)) (o1 7 (by decide)) (o1 8 (by decide)) hp
  refine Z_aload_n (n := 5) dX2_nodeCountAt_4 rfl rfl ?_
  refine Z_iload_n (n := 6) dX2_nodeCountAt_5 rfl rfl ?_
  refine Z_callVv (n := 9) [_] _ dX2_nodeCountAt_6 rfl cwX2_56 rfl rfl rfl (Nat.le_of_ble_eq_true rfl) (by refine ⟨?_, ?_, ?_, ?_⟩ <;> exact Nat.le_of_ble_eq_true rfl) (fun _ h => h) (zX2_mark_f  (by exact hp1) (by exact hn) (by exact (c3_0 hp1 z1).2)) ?_
  intro M6 J6 f6 q6
  obtain ⟨e6_1, mr6⟩ := q6
  replace e6_1 := e6_1.symm; subst e6_1
  refine Z_iconst (n := 10) dX2_nodeCountAt_9 rfl (by decide) ?_
  refine Z_istore_n (L' := [_, _, _, _, _]) (n := 11) dX2_nodeCountAt_10 rfl (by decide) rfl rfl ?_
  refine Z_iconst (n := 12) dX2_nodeCountAt_11 rfl (by decide) ?_
  refine Z_istore (L' := [_, _, _, _, _]) (n := 14) dX2_nodeCountAt_12 rfl (by decide) rfl rfl ?_
  have lp14 : ∀ (N14 : Nat) (c i : Int) , ((252 - i).toNat) < N14 → (2 ≤ i) → (i ≤ 252) → (c = hr (ncF (M6 9) (M6 6) p) i.toNat) → (0 ≤ c) → (c ≤ i - 2) → TZ G mX2_nodeCountAt (tl_rm 10 0 0) 0 0 kMarks M J 14 [some (vR 5), some (vI n), some (vI p), some (vI c), some (vI i)] [] F1 M6 J (ZM G (zPost G kMarks F1 M J (qI (fun x M' J' => J' = J ∧ cnt (fun y => laid (den M n) y ∧ y.1 = p) x))) 0 0) := by
    intro N14
    induction N14 with
    | zero => intro c i  hN; omega
    | succ N14 ih14 =>
      intro c i  hN14 i14_0 i14_1 i14_2 i14_3 i14_4
      refine Z_iload (n := 16) dX2_nodeCountAt_14 rfl rfl ?_
      refine Z_sipush (n := 19) dX2_nodeCountAt_16 rfl (by decide) (by decide) ?_
      refine Z_icmp_ge (n := 22) (t := 52) dX2_nodeCountAt_19 rfl (by decide) (fun c19 => ?_) (fun c19 => ?_)
      · refine Z_iload_n (n := 53) dX2_nodeCountAt_52 rfl rfl ?_
        refine Z_iret dX2_nodeCountAt_53 rfl ?_
        have o6 : M6 6 = M 6 := ((f6 6 (by decide)).1).trans (o1 6 (by decide))
        refine ⟨rfl, cnt_at hp hn z1 (mkR_cg (o1 6 (by decide)) (o1 7 (by decide)) (o1 8 (by decide)) mr6) ?_⟩
        rw [i14_2, o6, show i = 252 by omega]
        rfl
      · refine Z_aload_n (n := 23) dX2_nodeCountAt_22 rfl rfl ?_
        refine Z_getA (n := 26) dX2_nodeCountAt_23 rfl ffX2_21 rfl rfl ?_
        refine Z_iload (n := 28) dX2_nodeCountAt_26 rfl rfl ?_
        refine Z_iald (n := 29) dX2_nodeCountAt_28 rfl rfl rfl (by first | decide | assumption) (by omega) (by omega) (fun r28 s28 => ?_)
        refine Z_if_eq (n := 32) (t := 46) dX2_nodeCountAt_29 rfl (by decide) (fun c29 => ?_) (fun c29 => ?_)
        · have nx : c = hr (ncF (M6 9) (M6 6) p) (i + 1).toNat := by
            have z := hr_up (ncF (M6 9) (M6 6) p) (i := i) (by omega)
            have nz : ncF (M6 9) (M6 6) p i = 0 := ind_f (fun q => q.1.2 c29)
            rw [if_pos nz] at z
            omega
          refine Z_iinc (L' := [_, _, _, _, _]) (n := 49) dX2_nodeCountAt_46 rfl rfl (by decide) rfl rfl (by omega) rfl ?_
          refine Z_goto (t := 14) dX2_nodeCountAt_49 (by decide) ?_
          refine Z_loc (L' := [some _, some _, some _, some _, some _]) (lsub_same (lsub_same (lsub_same (lsub_same (lsub_same lsub_nil))))) ?_
          exact ih14 _ _  (by omega) (by first | assumption | omega | decide) (by first | assumption | omega | decide) (by exact nx) (by first | assumption | omega | decide) (by first | assumption | omega | decide)
        · refine Z_aload_n (n := 33) dX2_nodeCountAt_32 rfl rfl ?_
          refine Z_getA (n := 36) dX2_nodeCountAt_33 rfl ffX2_11 rfl rfl ?_
          refine Z_iload (n := 38) dX2_nodeCountAt_36 rfl rfl ?_
          refine Z_iald (n := 39) dX2_nodeCountAt_38 rfl rfl rfl (by first | decide | assumption) (by omega) (by omega) (fun r38 s38 => ?_)
          refine Z_iload_n (n := 40) dX2_nodeCountAt_39 rfl rfl ?_
          refine Z_icmp_ne (n := 43) (t := 46) dX2_nodeCountAt_40 rfl (by decide) (fun c40 => ?_) (fun c40 => ?_)
          · have nx : c = hr (ncF (M6 9) (M6 6) p) (i + 1).toNat := by
              have z := hr_up (ncF (M6 9) (M6 6) p) (i := i) (by omega)
              have nz : ncF (M6 9) (M6 6) p i = 0 := ind_f (fun q => c40 q.2)
              rw [if_pos nz] at z
              omega
            refine Z_iinc (L' := [_, _, _, _, _]) (n := 49) dX2_nodeCountAt_46 rfl rfl (by decide) rfl rfl (by omega) rfl ?_
            refine Z_goto (t := 14) dX2_nodeCountAt_49 (by decide) ?_
            refine Z_loc (L' := [some _, some _, some _, some _, some _]) (lsub_same (lsub_same (lsub_same (lsub_same (lsub_same lsub_nil))))) ?_
            exact ih14 _ _  (by omega) (by first | assumption | omega | decide) (by first | assumption | omega | decide) (by exact nx) (by first | assumption | omega | decide) (by first | assumption | omega | decide)
          · have nx : c + 1 = hr (ncF (M6 9) (M6 6) p) (i + 1).toNat := by
              have z := hr_up (ncF (M6 9) (M6 6) p) (i := i) (by omega)
              have nz : ¬ ncF (M6 9) (M6 6) p i = 0 := ind_nz.mpr ⟨⟨by omega, c29⟩, c40⟩
              rw [if_neg nz] at z
              omega
            refine Z_iinc (L' := [_, _, _, _, _]) (n := 46) dX2_nodeCountAt_43 rfl rfl (by decide) rfl rfl (by omega) rfl ?_
            refine Z_iinc (L' := [_, _, _, _, _]) (n := 49) dX2_nodeCountAt_46 rfl rfl (by decide) rfl rfl (by omega) rfl ?_
            refine Z_goto (t := 14) dX2_nodeCountAt_49 (by decide) ?_
            refine Z_loc (L' := [some _, some _, some _, some _, some _]) (lsub_same (lsub_same (lsub_same (lsub_same (lsub_same lsub_nil))))) ?_
            exact ih14 _ _  (by omega) (by first | assumption | omega | decide) (by first | assumption | omega | decide) (by exact nx) (by first | assumption | omega | decide) (by first | assumption | omega | decide)
  refine Z_loc (L' := [some _, some _, some _, some _, some _]) (lsub_same (lsub_same (lsub_same (lsub_same (lsub_same lsub_nil))))) ?_
  exact lp14 _ _ _  (Nat.lt_succ_self _) (by first | assumption | omega | decide) (by first | assumption | omega | decide) (by exact (hr_zero (fun k a b => ind_f (fun q => by omega))).symm) (by first | assumption | omega | decide) (by first | assumption | omega | decide)
/-- the variables of the places that are hung on -/
noncomputable def spF (F : FN) (o : Int → Int) : Nat → Int
  | 0 => 0
  | n + 1 => zor (spF F o n) (if ind (hgF F (n : Int)) = 0 then 0 else zshl 1 (o (n : Int)))
theorem spF_up (F : FN) (o : Int → Int) {i : Int} (h : 0 ≤ i) : spF F o (i + 1).toNat = zor (spF F o i.toNat) (if ind (hgF F i) = 0 then 0 else zshl 1 (o i)) := by
  rw [show (i + 1).toNat = i.toNat + 1 by omega]
  show zor (spF F o i.toNat) (if ind (hgF F (i.toNat : Int)) = 0 then 0 else zshl 1 (o (i.toNat : Int))) = _
  rw [Int.toNat_of_nonneg h]
theorem spF_cg {F : FN} {o o' : Int → Int} : ∀ {n : Nat}, (∀ j : Int, 0 ≤ j → j < n → o' j = o j) → spF F o' n = spF F o n
  | 0, _ => rfl
  | n + 1, h => by
    show zor (spF F o' n) (if ind (hgF F (n : Int)) = 0 then 0 else zshl 1 (o' (n : Int))) = zor (spF F o n) (if ind (hgF F (n : Int)) = 0 then 0 else zshl 1 (o (n : Int)))
    rw [spF_cg (n := n) (fun j a b => h j a (by omega)), h n (by omega) (by omega)]
theorem cnt_hg {F : FN} {p x : Int} (p0 : 0 ≤ p) (p1 : p < 8) (h : cnt (fun y => laid F y ∧ y.1 = p) x) : (0 < x ↔ hgF F p) ∧ 0 ≤ x := by
  obtain ⟨L, -, h2, h3⟩ := h
  refine ⟨⟨fun q => ?_, fun q => ?_⟩, by omega⟩
  · cases L with
    | nil => rw [← h3] at q; exact absurd q (by decide)
    | cons z t =>
      obtain ⟨a, b⟩ := (h2 z).mp List.mem_cons_self
      refine (hg_laid p0 p1).mpr ⟨z.2, ?_⟩
      rw [← b]
      exact a
  · obtain ⟨s, hs⟩ := (hg_laid p0 p1).mp q
    have m := (h2 (p, s)).mpr ⟨hs, rfl⟩
    cases L with
    | nil => cases m
    | cons z t => rw [← h3, List.length_cons]; omega
set_option maxRecDepth 20000 in
theorem zX3_support_f {G : tl_G} {M : zM} {J : zJ} {f : Int} (hb : CB M) : ZN G yX3_support mX3_support 11 kMarks [vR 0, vI f] F1 M J (qI (fun x M' J' => J' = J ∧ (((f < 0 ∨ 12 ≤ f ∨ M 12 f = -1) ∧ x = -1) ∨ (¬ (f < 0 ∨ 12 ≤ f ∨ M 12 f = -1) ∧ x = (spF (den M (M 12 f)) (M 3) 8))))) := by
  refine ZN_of (L := [_, _, _, _]) (by decide) rfl rfl (Nat.le_of_ble_eq_true rfl) rfl (fun hav => ?_)
  obtain ⟨⟨Sb, hSb, hRb⟩, -⟩ := hb
  refine Z_aload_n (n := 1) dX3_support_0 rfl rfl ?_
  refine Z_iload_n (n := 2) dX3_support_1 rfl rfl ?_
  refine Z_callVi (n := 5) [_] _ dX3_support_2 rfl cwX3_139 rfl rfl (by first | rfl | exact nS0 (nA_at (by omega) (by omega))) (Nat.le_of_ble_eq_true rfl) (by refine ⟨?_, ?_, ?_, ?_⟩ <;> exact Nat.le_of_ble_eq_true rfl) (fun _ _ => trivial) (zX3_hasFunction  ) ?_
  intro x2 M2 J2 z2 f2 q2
  obtain ⟨e2_1, e2_2, h2⟩ := q2
  replace e2_1 := e2_1.symm; subst e2_1
  replace e2_2 := e2_2.symm; subst e2_2
  refine Z_if_ne (n := 8) (t := 10) dX3_support_5 rfl (by decide) (fun c5 => ?_) (fun c5 => ?_)
  · have okf : okN Sb (M 12 f) := (hRb _ (Or.inl ⟨f, ⟨by omega, by omega⟩, rfl⟩)).resolve_left (by omega)
    refine Z_iconst (n := 11) dX3_support_10 rfl (by decide) ?_
    refine Z_istore_n (L' := [_, _, _, _]) (n := 12) dX3_support_11 rfl (by decide) rfl rfl ?_
    refine Z_iconst (n := 13) dX3_support_12 rfl (by decide) ?_
    refine Z_istore_n (L' := [_, _, _, _]) (n := 14) dX3_support_13 rfl (by decide) rfl rfl ?_
    have lp14 : ∀ (N14 : Nat) (n p : Int) (M14 : zM) (J14 : zJ), ((8 - p).toNat) < N14 → (J14 = J) → (0 ≤ p) → (p ≤ 8) → (n = (spF (den M (M 12 f)) (M 3) p.toNat)) → (0 ≤ n ∧ n < 256) → TZ G mX3_support (tl_rm 11 0 0) 0 0 kMarks M J 14 [some (vR 0), some (vI f), some (vI n), some (vI p)] [] F1 M14 J14 (ZM G (zPost G kMarks F1 M J (qI (fun x M' J' => J' = J ∧ (((f < 0 ∨ 12 ≤ f ∨ M 12 f = -1) ∧ x = -1) ∨ (¬ (f < 0 ∨ 12 ≤ f ∨ M 12 f = -1) ∧ x = (spF (den M (M 12 f)) (M 3) 8)))))) 0 0) := by
      intro N14
      induction N14 with
      | zero => intro n p M14 J14 hN; omega
      | succ N14 ih14 =>
        intro n p M14 J14 hN14 i14_0 i14_1 i14_2 i14_3 i14_4
        refine Z_iload_n (n := 15) dX3_support_14 rfl rfl ?_
        refine Z_bipush (n := 17) dX3_support_15 rfl (by decide) (by decide) ?_
        refine Z_icmp_ge (n := 20) (t := 56) dX3_support_17 rfl (by decide) (fun c17 => ?_) (fun c17 => ?_)
        · refine Z_iload_n (n := 57) dX3_support_56 rfl rfl ?_
          refine Z_iret dX3_support_57 rfl ?_
          refine ⟨i14_0, Or.inr ⟨by omega, ?_⟩⟩
          rw [i14_3, show p = 8 by omega]
          rfl
        · refine Z_fr (fun fr14 => ?_)
          have e12 : M14 12 = M 12 := (fr14 12 (by decide)).1
          have hp14 : pst M14 Sb := pst_cg (fr14 6 (by decide)).1 (fr14 7 (by decide)).1 (fr14 8 (by decide)).1 hSb.1
          have hd14 : den M14 = den M := den_cg (fr14 6 (by decide)).1 (fr14 7 (by decide)).1 (fr14 8 (by decide)).1
          refine Z_rg 3 p rfl (fun g3 g3b => ?_)
          rw [(fr14 3 (by decide)).1] at g3 g3b
          refine Z_aload_n (n := 21) dX3_support_20 rfl rfl ?_
          refine Z_getO (n := 24) dX3_support_21 rfl ffX3_25 (by first | rfl | exact nS0 (nA_at (by omega) (by omega))) (by first | rfl | exact nS0 (nA_at (by omega) (by omega))) ?_
          refine Z_aload_n (n := 25) dX3_support_24 rfl rfl ?_
          refine Z_getA (n := 28) dX3_support_25 rfl ffX3_29 (by first | rfl | exact nS0 (nA_at (by omega) (by omega))) (by first | rfl | exact nS0 (nA_at (by omega) (by omega))) ?_
          refine Z_iload_n (n := 29) dX3_support_28 rfl rfl ?_
          refine Z_iald (n := 30) dX3_support_29 rfl (by first | rfl | exact nS0 (nA_at (by omega) (by omega))) rfl (by first | decide | assumption) (by omega) (by omega) (fun r29 s29 => ?_)
          try simp only [e12] at r29 s29 ⊢
          refine Z_iload_n (n := 31) dX3_support_30 rfl rfl ?_
          refine Z_callVi (n := 34) [_, _] _ dX3_support_31 rfl cwX3_168 rfl rfl (by first | rfl | exact nS0 (nA_at (by omega) (by omega))) (Nat.le_of_ble_eq_true rfl) (by refine ⟨?_, ?_, ?_, ?_⟩ <;> exact Nat.le_of_ble_eq_true rfl) (fun _ h => h) (zX2_nodeCountAt_f  (by exact hp14) (by exact Or.inr okf)) ?_
          intro x31 M31 J31 z31 f31 q31
          obtain ⟨e31_1, cn31⟩ := q31
          replace e31_1 := e31_1.symm; subst e31_1
          have hx31 := cnt_hg (F := den M (M 12 f)) (p := p) (by omega) (by omega) (by rw [hd14] at cn31; exact cn31)
          refine Z_if_le (n := 37) (t := 50) dX3_support_34 rfl (by decide) (fun c34 => ?_) (fun c34 => ?_)
          · have nx3 : n = (spF (den M (M 12 f)) (M 3) (p + 1).toNat) := by
              have nz : ind (hgF (den M (M 12 f)) p) = 0 := ind_f (fun t => absurd (hx31.1.mpr t) (by omega))
              rw [spF_up _ _ (by omega), ← i14_3, if_pos nz]
              exact (zor_0 (by omega) (by omega)).symm
            have nx4 := i14_4
            refine Z_iinc (L' := [_, _, _, _]) (n := 53) dX3_support_50 rfl rfl (by decide) rfl rfl (by omega) rfl ?_
            refine Z_goto (t := 14) dX3_support_53 (by decide) ?_
            refine Z_loc (L' := [some _, some _, some _, some _]) (lsub_same (lsub_same (lsub_same (lsub_same lsub_nil)))) ?_
            exact ih14 _ _ _ _ (by omega) (by assumption) (by first | assumption | omega | decide) (by first | assumption | omega | decide) (by exact nx3) (by exact nx4)
          · refine Z_iload_n (n := 38) dX3_support_37 rfl rfl ?_
            refine Z_iconst (n := 39) dX3_support_38 rfl (by decide) ?_
            refine Z_aload_n (n := 40) dX3_support_39 rfl rfl ?_
            refine Z_getO (n := 43) dX3_support_40 rfl ffX3_18 (by first | rfl | exact nS0 (nA_at (by omega) (by omega))) (by first | rfl | exact nS0 (nA_at (by omega) (by omega))) ?_
            refine Z_iload_n (n := 44) dX3_support_43 rfl rfl ?_
            refine Z_callVi (n := 47) [_] _ dX3_support_44 rfl cwX3_114 rfl rfl (by first | rfl | exact nS0 (nA_at (by omega) (by omega))) (Nat.le_of_ble_eq_true rfl) (by refine ⟨?_, ?_, ?_, ?_⟩ <;> exact Nat.le_of_ble_eq_true rfl) (fun _ _ => trivial) (zX1_variableAt  (by first | assumption | omega | decide) (by first | assumption | omega | decide)) ?_
            intro x44 M44 J44 z44 f44 q44
            obtain ⟨e44_1, e44_2, h44⟩ := q44
            replace e44_1 := e44_1.symm; subst e44_1
            replace e44_2 := e44_2.symm; subst e44_2
            have e3 : M31 3 = M 3 := ((f31 3 (by decide)).1).trans (fr14 3 (by decide)).1
            have e3p : x44 = M 3 p := by rw [h44, e3]
            refine Z_ishl (n := 48) dX3_support_47 rfl ?_
            refine Z_ior (n := 49) dX3_support_48 rfl ?_
            have nx3 : zor n (zshl 1 x44) = (spF (den M (M 12 f)) (M 3) (p + 1).toNat) := by
              have nz : ¬ ind (hgF (den M (M 12 f)) p) = 0 := ind_nz.mpr (hx31.1.mp (by omega))
              rw [spF_up _ _ (by omega), ← i14_3, if_neg nz, e3p]
            have nx4 : 0 ≤ zor n (zshl 1 x44) ∧ zor n (zshl 1 x44) < 256 := by
              have z := zshl1 (d := x44) (by omega) (by omega)
              rw [zor_nat (by omega) (by omega) (by omega) (by omega)]
              have w : n.toNat ||| (zshl 1 x44).toNat < 2 ^ 8 := Nat.or_lt_two_pow (by omega) (by omega)
              omega
            refine Z_istore_n (L' := [_, _, _, _]) (n := 50) dX3_support_49 rfl (by decide) rfl rfl ?_
            refine Z_iinc (L' := [_, _, _, _]) (n := 53) dX3_support_50 rfl rfl (by decide) rfl rfl (by omega) rfl ?_
            refine Z_goto (t := 14) dX3_support_53 (by decide) ?_
            refine Z_loc (L' := [some _, some _, some _, some _]) (lsub_same (lsub_same (lsub_same (lsub_same lsub_nil)))) ?_
            exact ih14 _ _ _ _ (by omega) (by assumption) (by first | assumption | omega | decide) (by first | assumption | omega | decide) (by exact nx3) (by exact nx4)
    refine Z_loc (L' := [some _, some _, some _, some _]) (lsub_same (lsub_same (lsub_same (lsub_same lsub_nil)))) ?_
    exact lp14 _ _ _ _ _ (Nat.lt_succ_self _) (by rfl) (by first | assumption | omega | decide) (by first | assumption | omega | decide) (by rfl) (by decide)
  · refine Z_iconst (n := 9) dX3_support_8 rfl (by decide) ?_
    refine Z_iret dX3_support_9 rfl ?_
    exact ⟨rfl, Or.inl ⟨by omega, rfl⟩⟩
set_option maxRecDepth 20000 in
theorem zX4_support_g {G : tl_G} {M : zM} {J : zJ} {f : Int}  : ZN G yX4_support mX4_support 3 kAll [vR 31, vI f] F1 M J (qI (fun x M' J' => M' = M ∧ J' = J ∧ (((f < 0 ∨ 12 ≤ f ∨ M 43 f = 0) ∧ x = -1) ∨ (¬ (f < 0 ∨ 12 ≤ f ∨ M 43 f = 0) ∧ x = (spF (phi J f) (M 38) 8))))) := by
  refine ZN_of (L := [_, _, _, _]) (by decide) rfl rfl (Nat.le_of_ble_eq_true rfl) rfl (fun hav => ?_)
  refine Z_aload_n (n := 1) dX4_support_0 rfl rfl ?_
  refine Z_iload_n (n := 2) dX4_support_1 rfl rfl ?_
  refine Z_callVi (n := 5) [_] _ dX4_support_2 rfl cwX4_223 rfl rfl rfl (Nat.le_of_ble_eq_true rfl) (by refine ⟨?_, ?_, ?_, ?_⟩ <;> exact Nat.le_of_ble_eq_true rfl) (fun _ h => h) (zX4_isFunction  ) ?_
  intro x2 M2 J2 z2 f2 q2
  obtain ⟨e2_1, e2_2, h2⟩ := q2
  replace e2_1 := e2_1.symm; subst e2_1
  replace e2_2 := e2_2.symm; subst e2_2
  refine Z_if_ne (n := 8) (t := 10) dX4_support_5 rfl (by decide) (fun c5 => ?_) (fun c5 => ?_)
  · refine Z_iconst (n := 11) dX4_support_10 rfl (by decide) ?_
    refine Z_istore_n (L' := [_, _, _, _]) (n := 12) dX4_support_11 rfl (by decide) rfl rfl ?_
    refine Z_iconst (n := 13) dX4_support_12 rfl (by decide) ?_
    refine Z_istore_n (L' := [_, _, _, _]) (n := 14) dX4_support_13 rfl (by decide) rfl rfl ?_
    have lp14 : ∀ (N14 : Nat) (n k : Int) , ((8 - k).toNat) < N14 → (0 ≤ k) → (k ≤ 8) → (n = (spF (phi J f) (M 38) k.toNat)) → TZ G mX4_support (tl_rm 3 0 0) 0 0 kAll M J 14 [some (vR 31), some (vI f), some (vI n), some (vI k)] [] F1 M J (ZM G (zPost G kAll F1 M J (qI (fun x M' J' => M' = M ∧ J' = J ∧ (((f < 0 ∨ 12 ≤ f ∨ M 43 f = 0) ∧ x = -1) ∨ (¬ (f < 0 ∨ 12 ≤ f ∨ M 43 f = 0) ∧ x = (spF (phi J f) (M 38) 8)))))) 0 0) := by
      intro N14
      induction N14 with
      | zero => intro n k  hN; omega
      | succ N14 ih14 =>
        intro n k  hN14 i14_0 i14_1 i14_2
        refine Z_iload_n (n := 15) dX4_support_14 rfl rfl ?_
        refine Z_bipush (n := 17) dX4_support_15 rfl (by decide) (by decide) ?_
        refine Z_icmp_ge (n := 20) (t := 50) dX4_support_17 rfl (by decide) (fun c17 => ?_) (fun c17 => ?_)
        · refine Z_iload_n (n := 51) dX4_support_50 rfl rfl ?_
          refine Z_iret dX4_support_51 rfl ?_
          refine ⟨rfl, rfl, Or.inr ⟨by omega, ?_⟩⟩
          rw [i14_2, show k = 8 by omega]
          rfl
        · refine Z_iload_n (n := 21) dX4_support_20 rfl rfl ?_
          refine Z_aload_n (n := 22) dX4_support_21 rfl rfl ?_
          refine Z_iload_n (n := 23) dX4_support_22 rfl rfl ?_
          refine Z_iload_n (n := 24) dX4_support_23 rfl rfl ?_
          refine Z_callVi (n := 27) [_, _] _ dX4_support_24 rfl cwX4_243 rfl rfl rfl (Nat.le_of_ble_eq_true rfl) (by refine ⟨?_, ?_, ?_, ?_⟩ <;> exact Nat.le_of_ble_eq_true rfl) (fun _ h => h) (zX4_hangs_f  (by first | assumption | omega | decide) (by first | assumption | omega | decide) (by first | assumption | omega | decide) (by first | assumption | omega | decide)) ?_
          intro x24 M24 J24 z24 f24 q24
          obtain ⟨e24_1, e24_2, hg24⟩ := q24
          replace e24_1 := e24_1.symm; subst e24_1
          replace e24_2 := e24_2.symm; subst e24_2
          refine Z_if_eq (n := 30) (t := 41) dX4_support_27 rfl (by decide) (fun c27 => ?_) (fun c27 => ?_)
          · have nx : zor n 0 = (spF (phi J f) (M 38) (k + 1).toNat) := by
              have nz : ind (hgF (phi J f) k) = 0 := ind_f (hg24.resolve_left (fun t => by omega)).2
              rw [spF_up _ _ (by omega), ← i14_2, if_pos nz]
            refine Z_iconst (n := 42) dX4_support_41 rfl (by decide) ?_
            refine Z_ior (n := 43) dX4_support_42 rfl ?_
            refine Z_istore_n (L' := [_, _, _, _]) (n := 44) dX4_support_43 rfl (by decide) rfl rfl ?_
            refine Z_iinc (L' := [_, _, _, _]) (n := 47) dX4_support_44 rfl rfl (by decide) rfl rfl (by omega) rfl ?_
            refine Z_goto (t := 14) dX4_support_47 (by decide) ?_
            refine Z_loc (L' := [some _, some _, some _, some _]) (lsub_same (lsub_same (lsub_same (lsub_same lsub_nil)))) ?_
            exact ih14 _ _  (by omega) (by first | assumption | omega | decide) (by first | assumption | omega | decide) (by exact nx)
          · have nx : zor n (zshl 1 (M 38 k)) = (spF (phi J f) (M 38) (k + 1).toNat) := by
              have nz : ¬ ind (hgF (phi J f) k) = 0 := ind_nz.mpr (hg24.resolve_right (fun t => by omega)).2
              rw [spF_up _ _ (by omega), ← i14_2, if_neg nz]
            refine Z_iconst (n := 31) dX4_support_30 rfl (by decide) ?_
            refine Z_aload_n (n := 32) dX4_support_31 rfl rfl ?_
            refine Z_getA (n := 35) dX4_support_32 rfl ffX4_29 rfl rfl ?_
            refine Z_iload_n (n := 36) dX4_support_35 rfl rfl ?_
            refine Z_iald (n := 37) dX4_support_36 rfl rfl rfl (by first | decide | assumption) (by omega) (by omega) (fun r36 s36 => ?_)
            refine Z_ishl (n := 38) dX4_support_37 rfl ?_
            refine Z_goto (t := 42) dX4_support_38 (by decide) ?_
            refine Z_ior (n := 43) dX4_support_42 rfl ?_
            refine Z_istore_n (L' := [_, _, _, _]) (n := 44) dX4_support_43 rfl (by decide) rfl rfl ?_
            refine Z_iinc (L' := [_, _, _, _]) (n := 47) dX4_support_44 rfl rfl (by decide) rfl rfl (by omega) rfl ?_
            refine Z_goto (t := 14) dX4_support_47 (by decide) ?_
            refine Z_loc (L' := [some _, some _, some _, some _]) (lsub_same (lsub_same (lsub_same (lsub_same lsub_nil)))) ?_
            exact ih14 _ _  (by omega) (by first | assumption | omega | decide) (by first | assumption | omega | decide) (by exact nx)
    refine Z_loc (L' := [some _, some _, some _, some _]) (lsub_same (lsub_same (lsub_same (lsub_same lsub_nil)))) ?_
    exact lp14 _ _ _  (Nat.lt_succ_self _) (by first | assumption | omega | decide) (by first | assumption | omega | decide) (by rfl)
  · refine Z_iconst (n := 9) dX4_support_8 rfl (by decide) ?_
    refine Z_iret dX4_support_9 rfl ?_
    exact ⟨rfl, rfl, Or.inl ⟨by omega, rfl⟩⟩
end
section
/-! ===== readers on both sides ===== -/
section RDS
variable {M M1 : zM} {J : zJ} {x y : Int}
theorem ls_k (h : LSy M J) (fr : ∀ a : Nat, 31 ≤ a → M1 a = M a) (f : Int) : f < 0 ∨ 12 ≤ f ∨ (M 12 f = -1 ∧ M1 43 f = 0) ∨ (¬ M 12 f = -1 ∧ ¬ M1 43 f = 0) := hs_k h.2.2.2.2.2 (fr 43 (by decide)) f
theorem ls_d (h : LSy M J) {f : Int} (f0 : 0 ≤ f) (f1 : f < 12) (q : ¬ M 12 f = -1) : den M (M 12 f) = phi J f := (h.2.2.2.2.2 f f0 f1).2.resolve_left q
theorem sim_support {f : Int} (h : LSy M J) (fr : ∀ a : Nat, 31 ≤ a → M1 a = M a) (hc : ((f < 0 ∨ 12 ≤ f ∨ M 12 f = -1) ∧ x = -1) ∨ (¬ (f < 0 ∨ 12 ≤ f ∨ M 12 f = -1) ∧ x = spF (den M (M 12 f)) (M 3) 8)) (hq : ((f < 0 ∨ 12 ≤ f ∨ M1 43 f = 0) ∧ y = -1) ∨ (¬ (f < 0 ∨ 12 ≤ f ∨ M1 43 f = 0) ∧ y = spF (phi J f) (M1 38) 8)) : x = y := by
  have kf := ls_k h fr f
  rcases hc with ⟨a, b⟩ | ⟨a, b⟩
  · rcases hq with ⟨a', b'⟩ | ⟨a', b'⟩
    · exact b.trans b'.symm
    · exfalso; omega
  · rcases hq with ⟨a', b'⟩ | ⟨a', b'⟩
    · exfalso; omega
    · have e43 : M1 43 = M 43 := fr 43 (by decide)
      have df := ls_d h (f := f) (by omega) (by omega) (by omega)
      have nf : ¬ M 43 f = 0 := by rw [← e43]; omega
      rw [b, b', df, fr 38 (by decide)]
      exact (spF_cg (fun j j0 j1 => (h.2.2.2.1.1 j j0 (by omega)).1.symm)).symm
end RDS
end
