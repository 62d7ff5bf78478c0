section
/-! ===== readers: what is read of a function ===== -/
theorem bz_01 (x : Int) : bz x = 0 ∨ bz x = 1 := bz_in x
/-- it hangs on a place -/
def hgF (F : FN) (d : Int) : Prop := ∃ r : Int → Int, ¬ F (updI r d 0) = F (updI r d 1)
theorem mix_upd {d v : Int} {s r : Int → Int} : mix d s (updI r d v) = updI (mix d s r) d v := by
  funext k
  by_cases e : k = d
  · rw [e, mix_ge (Int.le_refl d), updI_s, updI_s]
  · rw [updI_n e]
    by_cases q : k < d
    · rw [mix_lt q, mix_lt q]
    · rw [mix_ge (by omega), mix_ge (by omega), updI_n e]
theorem mix_self {d : Int} {r : Int → Int} : mix d r r = r := by
  funext k
  unfold mix
  split <;> rfl
theorem hg_laid {F : FN} {d : Int} (d0 : 0 ≤ d) (d1 : d < 8) : hgF F d ↔ ∃ p : FN, laid F (d, p) := by
  constructor
  · rintro ⟨r, q⟩
    refine ⟨fun r' => F (mix d r r'), ⟨d0, d1⟩, ⟨r, rfl⟩, r, ?_⟩
    show ¬ F (mix d r (updI r d 0)) = F (mix d r (updI r d 1))
    rw [mix_upd, mix_upd, mix_self]
    exact q
  · rintro ⟨p, -, ⟨s, e⟩, r, q⟩
    have e' : p = fun r => F (mix d s r) := e
    have q' : ¬ p (updI r d 0) = p (updI r d 1) := q
    refine ⟨mix d s r, fun w => q' ?_⟩
    rw [e']
    show F (mix d s (updI r d 0)) = F (mix d s (updI r d 1))
    rw [mix_upd, mix_upd]
    exact w
/-- the bit of a place in the row -/
theorem pos_at (r : Int → Int) {k : Nat} (hk : k ≤ 7) : ∃ a b : Int, (0 ≤ b ∧ b < pw2 k) ∧ 0 ≤ a ∧ pos r = a * pw2 (k + 1) + bz (r (7 - (k : Int))) * pw2 k + b ∧ ∀ v : Int, pos (updI r (7 - (k : Int)) v) = a * pw2 (k + 1) + bz v * pw2 k + b := by
  have m : ∀ r' : Int → Int, pos r' = ihd r' (7 - k) * pw2 (k + 1) + pd r' (k + 1) := fun r' => by
    have h := pd_mix (s := r') (d := 7 - k) (k := k + 1) (r := r') (by omega)
    rw [mix_self] at h
    exact h
  refine ⟨ihd r (7 - k), pd r k, pd_in r k, (ihd_in r (7 - k)).1, ?_, fun v => ?_⟩
  · rw [m r]
    show ihd r (7 - k) * pw2 (k + 1) + (bz (r (7 - (k : Int))) * pw2 k + pd r k) = _
    omega
  · rw [m (updI r (7 - (k : Int)) v), pd_up, ihd_ag (s := updI r (7 - (k : Int)) v) (s' := r) (fun j hj => updI_n (by omega))]
    omega
theorem zx_ok : ∀ (p : Fin 256) (e : Fin 8), zxor (p.val : Int) (zshl 1 (e.val : Int)) = if (p.val : Int) / pw2 e.val % 2 = 0 then (p.val : Int) + pw2 e.val else (p.val : Int) - pw2 e.val := by decide +kernel
theorem pw2_cs {k : Nat} (hk : k ≤ 7) : pw2 k = 1 ∨ pw2 k = 2 ∨ pw2 k = 4 ∨ pw2 k = 8 ∨ pw2 k = 16 ∨ pw2 k = 32 ∨ pw2 k = 64 ∨ pw2 k = 128 := by
  rcases (show k = 0 ∨ k = 1 ∨ k = 2 ∨ k = 3 ∨ k = 4 ∨ k = 5 ∨ k = 6 ∨ k = 7 by omega) with e | e | e | e | e | e | e | e <;> rw [e] <;> decide
theorem zx_bit {p a b : Int} {k : Nat} (hk : k ≤ 7) (b0 : 0 ≤ b) (b1 : b < pw2 k) (h : p = a * pw2 (k + 1) + b) (p0 : 0 ≤ p) (p1 : p + pw2 k < 256) : zxor p (zshl 1 (k : Int)) = p + pw2 k ∧ zxor (p + pw2 k) (zshl 1 (k : Int)) = p := by
  have hw := pw2_cs hk
  have w1 := pw2_pos k
  have z1 := zx_ok ⟨p.toNat, by omega⟩ ⟨k, by omega⟩
  have z2 := zx_ok ⟨(p + pw2 k).toNat, by omega⟩ ⟨k, by omega⟩
  have e1 : ((p.toNat : Nat) : Int) = p := Int.toNat_of_nonneg p0
  have e2 : (((p + pw2 k).toNat : Nat) : Int) = p + pw2 k := Int.toNat_of_nonneg (by omega)
  dsimp only at z1 z2
  rw [e1] at z1
  rw [e2] at z2
  have hh : pw2 (k + 1) = 2 * pw2 k := rfl
  rw [hh] at h
  have c1 : p / pw2 k % 2 = 0 := by
    rcases hw with e | e | e | e | e | e | e | e <;> rw [e] at h b1 ⊢ <;> omega
  have c2 : ¬ (p + pw2 k) / pw2 k % 2 = 0 := by
    rcases hw with e | e | e | e | e | e | e | e <;> rw [e] at h b1 ⊢ <;> omega
  rw [if_pos c1] at z1
  rw [if_neg c2] at z2
  exact ⟨z1, by omega⟩
def hgP (B : Int → Int64) (d : Int) : Prop := ∃ p : Int, (0 ≤ p ∧ p < 256) ∧ ¬ btF B p = btF B (zxor p (zshl 1 (7 - d)))
theorem hg_pos {B : Int → Int64} {d : Int} (d0 : 0 ≤ d) (d1 : d < 8) : hgP B d ↔ hgF (fun r => btF B (pos r)) d := by
  obtain ⟨k, ek⟩ : ∃ k : Nat, d = 7 - (k : Int) := ⟨(7 - d).toNat, by omega⟩
  have hk : k ≤ 7 := by omega
  have e7 : (7 : Int) - d = (k : Int) := by omega
  have key : ∀ r : Int → Int, zxor (pos (updI r d 0)) (zshl 1 (7 - d)) = pos (updI r d 1) ∧ zxor (pos (updI r d 1)) (zshl 1 (7 - d)) = pos (updI r d 0) := fun r => by
    obtain ⟨a, b, ⟨b0, b1⟩, a0, -, ev⟩ := pos_at r hk
    have q0 := ev 0
    have q1 := ev 1
    rw [← ek] at q0 q1
    rw [bz_0] at q0
    rw [bz_1] at q1
    have i0 := pos_in (updI r d 0)
    have i1 := pos_in (updI r d 1)
    have e1 : pos (updI r d 1) = pos (updI r d 0) + pw2 k := by omega
    have z := zx_bit (p := pos (updI r d 0)) (a := a) hk b0 b1 (by omega) i0.1 (by omega)
    rw [e7, e1]
    exact z
  constructor
  · rintro ⟨p, pb, q⟩
    obtain ⟨r, er⟩ := pd_onto 8 p pb.1 (by have := pw2_v; omega)
    have er' : pos r = p := er
    obtain ⟨a, b, ⟨b0, b1⟩, a0, e, ev⟩ := pos_at r hk
    have q0 := ev 0
    have q1 := ev 1
    rw [← ek] at q0 q1 e
    rw [bz_0] at q0
    rw [bz_1] at q1
    obtain ⟨k1, k2⟩ := key r
    refine ⟨r, fun w => q ?_⟩
    rcases bz_01 (r d) with v | v
    · rw [v] at e
      have ep : p = pos (updI r d 0) := by omega
      rw [ep, k1]
      exact w
    · rw [v] at e
      have ep : p = pos (updI r d 1) := by omega
      rw [ep, k2]
      exact w.symm
  · rintro ⟨r, q⟩
    refine ⟨pos (updI r d 0), pos_in _, ?_⟩
    rw [(key r).1]
    exact q
/-! counts over places -/
/-! the reference's nodes of a function -/
end
section
/-! ===== readers: their answers ===== -/
set_option maxRecDepth 20000 in
theorem zX4_hangs_f {G : tl_G} {M : zM} {J : zJ} {f pl : Int} (f0 : 0 ≤ f) (f1 : f < 56) (p0 : 0 ≤ pl) (p1 : pl < 8) : ZN G yX4_hangs mX4_hangs 1 kAll [vR 31, vI f, vI pl] F1 M J (qI (fun x M' J' => M' = M ∧ J' = J ∧ ((x = 1 ∧ hgF (phi J f) pl) ∨ (x = 0 ∧ ¬ hgF (phi J f) pl)))) := by
  refine ZN_of (L := [_, _, _, _, _, _]) (by decide) rfl rfl (Nat.le_of_ble_eq_true rfl) rfl (fun hav => ?_)
  have hz7 := zshl1 (d := 7 - pl) (by omega) (by omega)
  refine Z_iconst (n := 1) dX4_hangs_0 rfl (by decide) ?_
  refine Z_istore_n (L' := [_, _, _, _, _, _]) (n := 2) dX4_hangs_1 rfl (by decide) rfl rfl ?_
  refine Z_iconst (n := 3) dX4_hangs_2 rfl (by decide) ?_
  refine Z_bipush (n := 5) dX4_hangs_3 rfl (by decide) (by decide) ?_
  refine Z_iload_n (n := 6) dX4_hangs_5 rfl rfl ?_
  refine Z_isub (n := 7) dX4_hangs_6 rfl (by omega) ?_
  refine Z_ishl (n := 8) dX4_hangs_7 rfl ?_
  refine Z_istore (L' := [_, _, _, _, _, _]) (n := 10) dX4_hangs_8 rfl (by decide) rfl rfl ?_
  refine Z_iconst (n := 11) dX4_hangs_10 rfl (by decide) ?_
  refine Z_istore (L' := [_, _, _, _, _, _]) (n := 13) dX4_hangs_11 rfl (by decide) rfl rfl ?_
  have lp13 : ∀ (N13 : Nat) (e p : Int) , ((256 - p).toNat) < N13 → (0 ≤ p) → (p ≤ 256) → ((e = 1 ∧ hgP (bitF J f) pl) ∨ (e = 0 ∧ ∀ q : Int, 0 ≤ q → q < p → btF (bitF J f) q = btF (bitF J f) (zxor q (zshl 1 (7 - pl))))) → TZ G mX4_hangs (tl_rm 1 0 0) 0 0 kAll M J 13 [some (vR 31), some (vI f), some (vI pl), some (vI e), some (vI (zshl 1 (7 - pl))), some (vI p)] [] F1 M J (ZM G (zPost G kAll F1 M J (qI (fun x M' J' => M' = M ∧ J' = J ∧ ((x = 1 ∧ hgF (phi J f) pl) ∨ (x = 0 ∧ ¬ hgF (phi J f) pl))))) 0 0) := by
    intro N13
    induction N13 with
    | zero => intro e p  hN; omega
    | succ N13 ih13 =>
      intro e p  hN13 i13_0 i13_1 i13_2
      refine Z_iload (n := 15) dX4_hangs_13 rfl rfl ?_
      refine Z_sipush (n := 18) dX4_hangs_15 rfl (by decide) (by decide) ?_
      refine Z_icmp_ge (n := 21) (t := 57) dX4_hangs_18 rfl (by decide) (fun c18 => ?_) (fun c18 => ?_)
      · refine Z_iload_n (n := 58) dX4_hangs_57 rfl rfl ?_
        refine Z_zret dX4_hangs_58 rfl (by omega) (by omega) ?_
        refine ⟨rfl, rfl, ?_⟩
        rcases i13_2 with ⟨a, b⟩ | ⟨a, b⟩
        · exact Or.inl ⟨a, (hg_pos p0 p1).mp b⟩
        · refine Or.inr ⟨a, fun t => ?_⟩
          obtain ⟨q, qb, w⟩ := (hg_pos p0 p1).mpr t
          exact w (b q qb.1 (by omega))
      · refine Z_iload_n (n := 22) dX4_hangs_21 rfl rfl ?_
        refine Z_if_ne (n := 25) (t := 45) dX4_hangs_22 rfl (by decide) (fun c22 => ?_) (fun c22 => ?_)
        · have nx : ((1 : Int) = 1 ∧ hgP (bitF J f) pl) ∨ ((1 : Int) = 0 ∧ ∀ q : Int, 0 ≤ q → q < p + 1 → btF (bitF J f) q = btF (bitF J f) (zxor q (zshl 1 (7 - pl)))) := Or.inl ⟨rfl, (i13_2.resolve_right (fun t => c22 t.1)).2⟩
          refine Z_iconst (n := 46) dX4_hangs_45 rfl (by decide) ?_
          refine Z_goto (t := 50) dX4_hangs_46 (by decide) ?_
          refine Z_istore_n (L' := [_, _, _, _, _, _]) (n := 51) dX4_hangs_50 rfl (by decide) rfl rfl ?_
          refine Z_iinc (L' := [_, _, _, _, _, _]) (n := 54) dX4_hangs_51 rfl rfl (by decide) rfl rfl (by omega) rfl ?_
          refine Z_goto (t := 13) dX4_hangs_54 (by decide) ?_
          refine Z_loc (L' := [some _, some _, some _, some _, some _, some _]) (lsub_same (lsub_same (lsub_same (lsub_same (lsub_same (lsub_same lsub_nil)))))) ?_
          exact ih13 _ _  (by omega) (by first | assumption | omega | decide) (by first | assumption | omega | decide) (by exact nx)
        · refine Z_aload_n (n := 26) dX4_hangs_25 rfl rfl ?_
          refine Z_iload_n (n := 27) dX4_hangs_26 rfl rfl ?_
          refine Z_iload (n := 29) dX4_hangs_27 rfl rfl ?_
          refine Z_callVi (n := 32) [_, _] _ dX4_hangs_29 rfl cwX4_240 rfl rfl rfl (Nat.le_of_ble_eq_true rfl) (by refine ⟨?_, ?_, ?_, ?_⟩ <;> exact Nat.le_of_ble_eq_true rfl) (fun _ h => h) (zX4_bit  (by first | assumption | omega | decide) (by first | assumption | omega | decide) (by first | assumption | omega | decide) (by first | assumption | omega | decide)) ?_
          intro x29 M29 J29 z29 f29 q29
          obtain ⟨e29_1, e29_2, h29⟩ := q29
          replace e29_1 := e29_1.symm; subst e29_1
          replace e29_2 := e29_2.symm; subst e29_2
          refine Z_aload_n (n := 33) dX4_hangs_32 rfl rfl ?_
          refine Z_iload_n (n := 34) dX4_hangs_33 rfl rfl ?_
          refine Z_iload (n := 36) dX4_hangs_34 rfl rfl ?_
          refine Z_iload (n := 38) dX4_hangs_36 rfl rfl ?_
          refine Z_ixor (n := 39) dX4_hangs_38 rfl ?_
          have hzx := zxor_in (x := p) (y := zshl 1 (7 - pl)) (by omega) (by omega) (by omega) (by omega)
          refine Z_callVi (n := 42) [_, _] _ dX4_hangs_39 rfl cwX4_240 rfl rfl rfl (Nat.le_of_ble_eq_true rfl) (by refine ⟨?_, ?_, ?_, ?_⟩ <;> exact Nat.le_of_ble_eq_true rfl) (fun _ h => h) (zX4_bit  (by first | assumption | omega | decide) (by first | assumption | omega | decide) (by first | assumption | omega | decide) (by first | assumption | omega | decide)) ?_
          intro x39 M39 J39 z39 f39 q39
          obtain ⟨e39_1, e39_2, h39⟩ := q39
          replace e39_1 := e39_1.symm; subst e39_1
          replace e39_2 := e39_2.symm; subst e39_2
          refine Z_icmp_eq (n := 45) (t := 49) dX4_hangs_42 rfl (by decide) (fun c42 => ?_) (fun c42 => ?_)
          · have nx : ((0 : Int) = 1 ∧ hgP (bitF J f) pl) ∨ ((0 : Int) = 0 ∧ ∀ q : Int, 0 ≤ q → q < p + 1 → btF (bitF J f) q = btF (bitF J f) (zxor q (zshl 1 (7 - pl)))) := Or.inr ⟨rfl, fun q a b => by
              have z := (i13_2.resolve_left (fun t => by omega)).2
              by_cases w : q = p
              · rw [w, ← h29, ← h39]; exact c42
              · exact z q a (by omega)⟩
            refine Z_iconst (n := 50) dX4_hangs_49 rfl (by decide) ?_
            refine Z_istore_n (L' := [_, _, _, _, _, _]) (n := 51) dX4_hangs_50 rfl (by decide) rfl rfl ?_
            refine Z_iinc (L' := [_, _, _, _, _, _]) (n := 54) dX4_hangs_51 rfl rfl (by decide) rfl rfl (by omega) rfl ?_
            refine Z_goto (t := 13) dX4_hangs_54 (by decide) ?_
            refine Z_loc (L' := [some _, some _, some _, some _, some _, some _]) (lsub_same (lsub_same (lsub_same (lsub_same (lsub_same (lsub_same lsub_nil)))))) ?_
            exact ih13 _ _  (by omega) (by first | assumption | omega | decide) (by first | assumption | omega | decide) (by exact nx)
          · have nx : ((1 : Int) = 1 ∧ hgP (bitF J f) pl) ∨ ((1 : Int) = 0 ∧ ∀ q : Int, 0 ≤ q → q < p + 1 → btF (bitF J f) q = btF (bitF J f) (zxor q (zshl 1 (7 - pl)))) := Or.inl ⟨rfl, p, ⟨by omega, by omega⟩, fun t => c42 (by rw [h29, h39]; exact t)⟩
            refine Z_iconst (n := 46) dX4_hangs_45 rfl (by decide) ?_
            refine Z_goto (t := 50) dX4_hangs_46 (by decide) ?_
            refine Z_istore_n (L' := [_, _, _, _, _, _]) (n := 51) dX4_hangs_50 rfl (by decide) rfl rfl ?_
            refine Z_iinc (L' := [_, _, _, _, _, _]) (n := 54) dX4_hangs_51 rfl rfl (by decide) rfl rfl (by omega) rfl ?_
            refine Z_goto (t := 13) dX4_hangs_54 (by decide) ?_
            refine Z_loc (L' := [some _, some _, some _, some _, some _, some _]) (lsub_same (lsub_same (lsub_same (lsub_same (lsub_same (lsub_same lsub_nil)))))) ?_
            exact ih13 _ _  (by omega) (by first | assumption | omega | decide) (by first | assumption | omega | decide) (by exact nx)
  refine Z_loc (L' := [some _, some _, some _, some _, some _, some _]) (lsub_same (lsub_same (lsub_same (lsub_same (lsub_same (lsub_same lsub_nil)))))) ?_
  exact lp13 _ _ _  (Nat.lt_succ_self _) (by first | assumption | omega | decide) (by first | assumption | omega | decide) (by exact Or.inr ⟨rfl, fun q a b => by omega⟩)
set_option maxRecDepth 20000 in
theorem zX3_top_f {G : tl_G} {M : zM} {J : zJ} {f : Int}  : ZN G yX3_top mX3_top 2 kAll [vR 0, vI f] F1 M J (qI (fun x M' J' => M' = M ∧ J' = J ∧ (((f < 0 ∨ 12 ≤ f ∨ M 12 f = -1) ∧ x = -1) ∨ (¬ (f < 0 ∨ 12 ≤ f ∨ M 12 f = -1) ∧ ((M 6 (M 12 f) < 8 ∧ x = M 3 (M 6 (M 12 f))) ∨ (8 ≤ M 6 (M 12 f) ∧ x = -9)))))) := by
  refine ZN_of (L := [_, _, _]) (by decide) rfl rfl (Nat.le_of_ble_eq_true rfl) rfl (fun hav => ?_)
  refine Z_aload_n (n := 1) dX3_top_0 rfl rfl ?_
  refine Z_iload_n (n := 2) dX3_top_1 rfl rfl ?_
  refine Z_callVi (n := 5) [_] _ dX3_top_2 rfl cwX3_139 rfl rfl (by first | rfl | exact nS0 (nA_at (by omega) (by omega))) (Nat.le_of_ble_eq_true rfl) (by refine ⟨?_, ?_, ?_, ?_⟩ <;> exact Nat.le_of_ble_eq_true rfl) (fun _ h => h) (zX3_hasFunction  ) ?_
  intro x2 M2 J2 z2 f2 q2
  obtain ⟨e2_1, e2_2, h2⟩ := q2
  replace e2_1 := e2_1.symm; subst e2_1
  replace e2_2 := e2_2.symm; subst e2_2
  refine Z_if_ne (n := 8) (t := 10) dX3_top_5 rfl (by decide) (fun c5 => ?_) (fun c5 => ?_)
  · refine Z_aload_n (n := 11) dX3_top_10 rfl rfl ?_
    refine Z_getO (n := 14) dX3_top_11 rfl ffX3_25 (by first | rfl | exact nS0 (nA_at (by omega) (by omega))) (by first | rfl | exact nS0 (nA_at (by omega) (by omega))) ?_
    refine Z_aload_n (n := 15) dX3_top_14 rfl rfl ?_
    refine Z_getA (n := 18) dX3_top_15 rfl ffX3_29 (by first | rfl | exact nS0 (nA_at (by omega) (by omega))) (by first | rfl | exact nS0 (nA_at (by omega) (by omega))) ?_
    refine Z_iload_n (n := 19) dX3_top_18 rfl rfl ?_
    refine Z_iald (n := 20) dX3_top_19 rfl (by first | rfl | exact nS0 (nA_at (by omega) (by omega))) rfl (by first | decide | assumption) (by omega) (by omega) (fun r19 s19 => ?_)
    refine Z_callVi (n := 23) [_] _ dX3_top_20 rfl cwX3_171 rfl rfl (by first | rfl | exact nS0 (nA_at (by omega) (by omega))) (Nat.le_of_ble_eq_true rfl) (by refine ⟨?_, ?_, ?_, ?_⟩ <;> exact Nat.le_of_ble_eq_true rfl) (fun _ h => h) (zX2_placeOf  (by first | assumption | omega | decide) (by first | assumption | omega | decide)) ?_
    intro x20 M20 J20 z20 f20 q20
    obtain ⟨e20_1, e20_2, h20⟩ := q20
    replace e20_1 := e20_1.symm; subst e20_1
    replace e20_2 := e20_2.symm; subst e20_2
    refine Z_istore_n (L' := [_, _, _]) (n := 24) dX3_top_23 rfl (by decide) rfl rfl ?_
    refine Z_iload_n (n := 25) dX3_top_24 rfl rfl ?_
    refine Z_bipush (n := 27) dX3_top_25 rfl (by decide) (by decide) ?_
    refine Z_icmp_ge (n := 30) (t := 41) dX3_top_27 rfl (by decide) (fun c27 => ?_) (fun c27 => ?_)
    · refine Z_bipush (n := 43) dX3_top_41 rfl (by decide) (by decide) ?_
      refine Z_iret dX3_top_43 rfl ?_
      first
        | exact ⟨rfl, rfl, Or.inr ⟨by omega, Or.inl ⟨by omega, by rw [h35, h20]⟩⟩⟩
        | exact ⟨rfl, rfl, Or.inr ⟨by omega, Or.inr ⟨by omega, rfl⟩⟩⟩
    · refine Z_aload_n (n := 31) dX3_top_30 rfl rfl ?_
      refine Z_getO (n := 34) dX3_top_31 rfl ffX3_18 (by first | rfl | exact nS0 (nA_at (by omega) (by omega))) (by first | rfl | exact nS0 (nA_at (by omega) (by omega))) ?_
      refine Z_iload_n (n := 35) dX3_top_34 rfl rfl ?_
      refine Z_rg 6 (M 12 f) rfl (fun g6 g6b => ?_)
      refine Z_callVi (n := 38) [_] _ dX3_top_35 rfl cwX3_114 rfl rfl (by first | rfl | exact nS0 (nA_at (by omega) (by omega))) (Nat.le_of_ble_eq_true rfl) (by refine ⟨?_, ?_, ?_, ?_⟩ <;> exact Nat.le_of_ble_eq_true rfl) (fun _ h => h) (zX1_variableAt  (by first | assumption | omega | decide) (by first | assumption | omega | decide)) ?_
      intro x35 M35 J35 z35 f35 q35
      obtain ⟨e35_1, e35_2, h35⟩ := q35
      replace e35_1 := e35_1.symm; subst e35_1
      replace e35_2 := e35_2.symm; subst e35_2
      refine Z_goto (t := 43) dX3_top_38 (by decide) ?_
      refine Z_iret dX3_top_43 rfl ?_
      first
        | exact ⟨rfl, rfl, Or.inr ⟨by omega, Or.inl ⟨by omega, by rw [h35, h20]⟩⟩⟩
        | exact ⟨rfl, rfl, Or.inr ⟨by omega, Or.inr ⟨by omega, rfl⟩⟩⟩
  · refine Z_iconst (n := 9) dX3_top_8 rfl (by decide) ?_
    refine Z_iret dX3_top_9 rfl ?_
    exact ⟨rfl, rfl, Or.inl ⟨by omega, rfl⟩⟩
def tpQ (F : FN) (o : Int → Int) (x : Int) : Prop := (∃ k : Int, (0 ≤ k ∧ k < 8) ∧ hgF F k ∧ (∀ j : Int, 0 ≤ j → j < k → ¬ hgF F j) ∧ x = o k) ∨ ((∀ j : Int, 0 ≤ j → j < 8 → ¬ hgF F j) ∧ x = -9)
set_option maxRecDepth 20000 in
theorem zX4_top_g {G : tl_G} {M : zM} {J : zJ} {f : Int}  : ZN G yX4_top mX4_top 3 kAll [vR 31, vI f] F1 M J (qI (fun x M' J' => M' = M ∧ J' = J ∧ (((f < 0 ∨ 12 ≤ f ∨ M 43 f = 0) ∧ x = -1) ∨ (¬ (f < 0 ∨ 12 ≤ f ∨ M 43 f = 0) ∧ tpQ (phi J f) (M 38) x)))) := by
  refine ZN_of (L := [_, _, _]) (by decide) rfl rfl (Nat.le_of_ble_eq_true rfl) rfl (fun hav => ?_)
  refine Z_aload_n (n := 1) dX4_top_0 rfl rfl ?_
  refine Z_iload_n (n := 2) dX4_top_1 rfl rfl ?_
  refine Z_callVi (n := 5) [_] _ dX4_top_2 rfl cwX4_223 rfl rfl rfl (Nat.le_of_ble_eq_true rfl) (by refine ⟨?_, ?_, ?_, ?_⟩ <;> exact Nat.le_of_ble_eq_true rfl) (fun _ h => h) (zX4_isFunction  ) ?_
  intro x2 M2 J2 z2 f2 q2
  obtain ⟨e2_1, e2_2, h2⟩ := q2
  replace e2_1 := e2_1.symm; subst e2_1
  replace e2_2 := e2_2.symm; subst e2_2
  refine Z_if_ne (n := 8) (t := 10) dX4_top_5 rfl (by decide) (fun c5 => ?_) (fun c5 => ?_)
  · refine Z_iconst (n := 11) dX4_top_10 rfl (by decide) ?_
    refine Z_istore_n (L' := [_, _, _]) (n := 12) dX4_top_11 rfl (by decide) rfl rfl ?_
    have lp12 : ∀ (N12 : Nat) (k : Int) , ((8 - k).toNat) < N12 → (0 ≤ k) → (k ≤ 8) → (∀ j : Int, 0 ≤ j → j < k → ¬ hgF (phi J f) j) → TZ G mX4_top (tl_rm 3 0 0) 0 0 kAll M J 12 [some (vR 31), some (vI f), some (vI k)] [] F1 M J (ZM G (zPost G kAll F1 M J (qI (fun x M' J' => M' = M ∧ J' = J ∧ (((f < 0 ∨ 12 ≤ f ∨ M 43 f = 0) ∧ x = -1) ∨ (¬ (f < 0 ∨ 12 ≤ f ∨ M 43 f = 0) ∧ tpQ (phi J f) (M 38) x))))) 0 0) := by
      intro N12
      induction N12 with
      | zero => intro k  hN; omega
      | succ N12 ih12 =>
        intro k  hN12 i12_0 i12_1 i12_2
        refine Z_iload_n (n := 13) dX4_top_12 rfl rfl ?_
        refine Z_bipush (n := 15) dX4_top_13 rfl (by decide) (by decide) ?_
        refine Z_icmp_ge (n := 18) (t := 40) dX4_top_15 rfl (by decide) (fun c15 => ?_) (fun c15 => ?_)
        · refine Z_bipush (n := 42) dX4_top_40 rfl (by decide) (by decide) ?_
          refine Z_iret dX4_top_42 rfl ?_
          exact ⟨rfl, rfl, Or.inr ⟨by omega, Or.inr ⟨fun j a b => i12_2 j a (by omega), rfl⟩⟩⟩
        · refine Z_aload_n (n := 19) dX4_top_18 rfl rfl ?_
          refine Z_iload_n (n := 20) dX4_top_19 rfl rfl ?_
          refine Z_iload_n (n := 21) dX4_top_20 rfl rfl ?_
          refine Z_callVi (n := 24) [_, _] _ dX4_top_21 rfl cwX4_243 rfl rfl rfl (Nat.le_of_ble_eq_true rfl) (by refine ⟨?_, ?_, ?_, ?_⟩ <;> exact Nat.le_of_ble_eq_true rfl) (fun _ h => h) (zX4_hangs_f  (by first | assumption | omega | decide) (by first | assumption | omega | decide) (by first | assumption | omega | decide) (by first | assumption | omega | decide)) ?_
          intro x21 M21 J21 z21 f21 q21
          obtain ⟨e21_1, e21_2, hg21⟩ := q21
          replace e21_1 := e21_1.symm; subst e21_1
          replace e21_2 := e21_2.symm; subst e21_2
          refine Z_if_eq (n := 27) (t := 34) dX4_top_24 rfl (by decide) (fun c24 => ?_) (fun c24 => ?_)
          · have nx : ∀ j : Int, 0 ≤ j → j < k + 1 → ¬ hgF (phi J f) j := fun j a b => by
              by_cases w : j = k
              · rw [w]; exact (hg21.resolve_left (fun t => by omega)).2
              · exact i12_2 j a (by omega)
            refine Z_iinc (L' := [_, _, _]) (n := 37) dX4_top_34 rfl rfl (by decide) rfl rfl (by omega) rfl ?_
            refine Z_goto (t := 12) dX4_top_37 (by decide) ?_
            refine Z_loc (L' := [some _, some _, some _]) (lsub_same (lsub_same (lsub_same lsub_nil))) ?_
            exact ih12 _  (by omega) (by first | assumption | omega | decide) (by first | assumption | omega | decide) (by exact nx)
          · refine Z_aload_n (n := 28) dX4_top_27 rfl rfl ?_
            refine Z_getA (n := 31) dX4_top_28 rfl ffX4_29 rfl rfl ?_
            refine Z_iload_n (n := 32) dX4_top_31 rfl rfl ?_
            refine Z_iald (n := 33) dX4_top_32 rfl rfl rfl (by first | decide | assumption) (by omega) (by omega) (fun r32 s32 => ?_)
            refine Z_iret dX4_top_33 rfl ?_
            exact ⟨rfl, rfl, Or.inr ⟨by omega, Or.inl ⟨k, ⟨by omega, by omega⟩, (hg21.resolve_right (fun t => by omega)).2, i12_2, rfl⟩⟩⟩
    refine Z_loc (L' := [some _, some _, some _]) (lsub_same (lsub_same (lsub_same lsub_nil))) ?_
    exact lp12 _ _  (Nat.lt_succ_self _) (by first | assumption | omega | decide) (by first | assumption | omega | decide) (by exact fun j a b => by omega)
  · refine Z_iconst (n := 9) dX4_top_8 rfl (by decide) ?_
    refine Z_iret dX4_top_9 rfl ?_
    exact ⟨rfl, rfl, Or.inl ⟨by omega, rfl⟩⟩
end
section
/-! ===== readers on both sides ===== -/
section RDS
variable {M M1 : zM} {J : zJ} {x y : Int}
theorem ls_k (h : LSy M J) (fr : ∀ a : Nat, 31 ≤ a → M1 a = M a) (f : Int) : f < 0 ∨ 12 ≤ f ∨ (M 12 f = -1 ∧ M1 43 f = 0) ∨ (¬ M 12 f = -1 ∧ ¬ M1 43 f = 0) := hs_k h.2.2.2.2.2 (fr 43 (by decide)) f
theorem ls_d (h : LSy M J) {f : Int} (f0 : 0 ≤ f) (f1 : f < 12) (q : ¬ M 12 f = -1) : den M (M 12 f) = phi J f := (h.2.2.2.2.2 f f0 f1).2.resolve_left q
theorem ls_n (h : LSy M J) {f : Int} (f0 : 0 ≤ f) (f1 : f < 12) (q : ¬ M 12 f = -1) : ∃ S : Int → Prop, pst M S ∧ ∀ g : Int, 0 ≤ g → g < 12 → ¬ M 12 g = -1 → okN S (M 12 g) := by
  obtain ⟨⟨S, hS, hR⟩, -⟩ := h.2.1
  exact ⟨S, hS.1, fun g g0 g1 n => (hR _ (Or.inl ⟨g, ⟨g0, g1⟩, rfl⟩)).resolve_left n⟩
theorem sim_top {f : Int} (h : LSy M J) (fr : ∀ a : Nat, 31 ≤ a → M1 a = M a) (hc : ((f < 0 ∨ 12 ≤ f ∨ M 12 f = -1) ∧ x = -1) ∨ (¬ (f < 0 ∨ 12 ≤ f ∨ M 12 f = -1) ∧ ((M 6 (M 12 f) < 8 ∧ x = M 3 (M 6 (M 12 f))) ∨ (8 ≤ M 6 (M 12 f) ∧ x = -9)))) (hq : ((f < 0 ∨ 12 ≤ f ∨ M1 43 f = 0) ∧ y = -1) ∨ (¬ (f < 0 ∨ 12 ≤ f ∨ M1 43 f = 0) ∧ tpQ (phi J f) (M1 38) y)) : x = y := by
  have kf := ls_k h fr f
  rcases hc with ⟨a, b⟩ | ⟨a, b⟩
  · rcases hq with ⟨a', b'⟩ | ⟨a', b'⟩
    · exact b.trans b'.symm
    · exfalso; omega
  · rcases hq with ⟨a', b'⟩ | ⟨a', b'⟩
    · exfalso; omega
    · have e43 : M1 43 = M 43 := fr 43 (by decide)
      have df := ls_d h (f := f) (by omega) (by omega) (by omega)
      have nf : ¬ M 43 f = 0 := by rw [← e43]; omega
      obtain ⟨S, hS, hN⟩ := ls_n h (f := f) (by omega) (by omega) (by omega)
      have okn := hN f (by omega) (by omega) (by omega)
      have pl := pst_pl hS okn
      rw [← df, fr 38 (by decide)] at b'
      have lt : ∀ j : Int, 0 ≤ j → j < 8 → hgF (den M (M 12 f)) j → M 6 (M 12 f) ≤ j := fun j j0 j1 q => by
        obtain ⟨s, hs⟩ := (hg_laid j0 j1).mp q
        exact laid_pl hS okn hs
      rcases b with ⟨c, e⟩ | ⟨c, e⟩
      · have sn : S (M 12 f) := by
          rcases okn with w | w | w
          · rw [w, hS.1.1] at c; omega
          · rw [w, hS.1.2] at c; omega
          · exact w
        have hg : hgF (den M (M 12 f)) (M 6 (M 12 f)) := (hg_laid pl.1 c).mpr ⟨_, laid_self hS sn⟩
        rcases b' with ⟨k, kb, k1, k2, k3⟩ | ⟨k1, -⟩
        · have l1 := lt k kb.1 kb.2 k1
          have ek : k = M 6 (M 12 f) := by
            by_cases w : M 6 (M 12 f) < k
            · exact absurd hg (k2 _ pl.1 w)
            · omega
          rw [e, k3, ek]
          exact (h.2.2.2.1.1 _ pl.1 c).1
        · exact absurd hg (k1 _ pl.1 c)
      · rcases b' with ⟨k, kb, k1, -⟩ | ⟨-, k2⟩
        · have l1 := lt k kb.1 kb.2 k1
          omega
        · exact e.trans k2.symm
end RDS
end
