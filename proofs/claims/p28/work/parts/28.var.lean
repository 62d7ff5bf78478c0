/-! ===== the reference on a fresh object: variable, combine, drop ===== -/
/-- the reference's fresh state -/
def rF (M : zM) (J : zJ) : Prop := (noHr M ∧ noOutR M ∧ emptyT M ∧ (∀ g : Int, 0 ≤ g → g < 56 → M 45 g = 0) ∧ M 31 8 = 250 ∧ M 31 27 = 0 ∧ M 52 0 = 0) ∧ (∀ p : Int, 2 ≤ p → p ≤ 7 → J 54 p = whF p) ∧ (∀ v : Int, 0 ≤ v → v < 8 → M 39 v = v ∧ M 38 v = v) ∧ (M 31 25 = 0 ∧ M 31 33 = -9 ∧ M 31 34 = -9) ∧ ∀ j : Int, 0 ≤ j → j < 3 → M 32 j = 0
theorem vbF_congr {W : Int → Int64} (h : ∀ p : Int, 2 ≤ p → p ≤ 7 → W p = whF p) {p k : Int} (p1 : p ≤ 7) : vbF W p k = vbF whF p k := by
  unfold vbF
  by_cases e : 1 < p
  · rw [if_pos e, if_pos e, h p (by omega) p1]
  · rw [if_neg e, if_neg e]
theorem emptyT_25 {M : zM} {v : Int} (h : emptyT M) : emptyT (uz M 31 25 v) := by
  obtain ⟨h1, h2, h3, h4⟩ := h
  refine ⟨fun b b0 b1 => ?_, ?_, ?_, ?_⟩
  · rw [uz_oo (by decide)]; exact h1 b b0 b1
  · rw [uz_n (by decide)]; exact h2
  · rw [uz_oo (by decide)]; exact h3
  · rw [uz_n (by decide)]; exact h4
set_option maxRecDepth 20000 in
theorem zX4_variable_1 {G : tl_G} {M : zM} {J : zJ} {h v : Int} (hF : rF M J) : ZN G yX4_variable mX4_variable 5 kF [vR 31, vI h, vI v] F1 M J (qI (fun x M' J' => ((h < 0 ∨ 12 ≤ h) ∧ x = -1) ∨ (0 ≤ h ∧ h < 12 ∧ (v < 0 ∨ 8 ≤ v) ∧ x = -2) ∨ (0 ≤ h ∧ h < 12 ∧ 0 ≤ v ∧ v < 8 ∧ x = 1))) := by
  refine ZN_of (L := [_, _, _]) (by decide) rfl rfl (Nat.le_of_ble_eq_true rfl) rfl (fun hav => ?_)
  refine Z_iload_n (n := 1) dX4_variable_0 rfl rfl ?_
  refine Z_callSi (n := 4) [_] _ dX4_variable_1 rfl cwX4_210 rfl rfl (Nat.le_of_ble_eq_true rfl) (by refine ⟨?_, ?_, ?_, ?_⟩ <;> exact Nat.le_of_ble_eq_true rfl) (fun _ _ => trivial) (zX4_isHandle  ) ?_
  intro x1 M1 J1 z1 f1 q1
  obtain ⟨e1_1, e1_2, h1⟩ := q1
  replace e1_1 := e1_1.symm; subst e1_1
  replace e1_2 := e1_2.symm; subst e1_2
  refine Z_if_ne (n := 7) (t := 9) dX4_variable_4 rfl (by decide) (fun c4 => ?_) (fun c4 => ?_)
  · refine Z_iload_n (n := 10) dX4_variable_9 rfl rfl ?_
    refine Z_iconst (n := 11) dX4_variable_10 rfl (by decide) ?_
    refine Z_bipush (n := 13) dX4_variable_11 rfl (by decide) (by decide) ?_
    refine Z_callSi (n := 16) [_, _, _] _ dX4_variable_13 rfl cwX4_112 rfl rfl (Nat.le_of_ble_eq_true rfl) (by refine ⟨?_, ?_, ?_, ?_⟩ <;> exact Nat.le_of_ble_eq_true rfl) (fun _ _ => trivial) (zX4_in  ) ?_
    intro x13 M13 J13 z13 f13 q13
    obtain ⟨e13_1, e13_2, h13⟩ := q13
    replace e13_1 := e13_1.symm; subst e13_1
    replace e13_2 := e13_2.symm; subst e13_2
    refine Z_if_ne (n := 19) (t := 22) dX4_variable_16 rfl (by decide) (fun c16 => ?_) (fun c16 => ?_)
    · refine Z_aload_n (n := 23) dX4_variable_22 rfl rfl ?_
      refine Z_callVv (n := 26) [] _ dX4_variable_23 rfl cwX4_213 rfl rfl rfl (Nat.le_of_ble_eq_true rfl) (by refine ⟨?_, ?_, ?_, ?_⟩ <;> exact Nat.le_of_ble_eq_true rfl) (fun _ h => h) (zX4_begin  (by exact fun h => h)) ?_
      intro M23 J23 f23 q23
      obtain ⟨e23_1, e23_2⟩ := q23
      replace e23_1 := e23_1.symm; subst e23_1
      replace e23_2 := e23_2.symm; subst e23_2
      refine Z_aload_n (n := 27) dX4_variable_26 rfl rfl ?_
      refine Z_bipush (n := 29) dX4_variable_27 rfl (by decide) (by decide) ?_
      refine Z_iload_n (n := 30) dX4_variable_29 rfl rfl ?_
      refine Z_callVv (n := 33) [_, _] _ dX4_variable_30 rfl cwX4_197 rfl rfl rfl (Nat.le_of_ble_eq_true rfl) (by refine ⟨?_, ?_, ?_, ?_⟩ <;> exact Nat.le_of_ble_eq_true rfl) (fun a h => h.elim) (zX4_makeVariable  (by omega) (by omega) (by omega) (by omega)) ?_
      intro M30 J30 f30 q30
      obtain ⟨e30_1, vb30, vo30⟩ := q30
      replace e30_1 := e30_1.symm; subst e30_1
      refine Z_aload_n (n := 34) dX4_variable_33 rfl rfl ?_
      refine Z_iload_n (n := 35) dX4_variable_34 rfl rfl ?_
      refine Z_bipush (n := 37) dX4_variable_35 rfl (by decide) (by decide) ?_
      refine Z_aload_n (n := 38) dX4_variable_37 rfl rfl ?_
      refine Z_bipush (n := 40) dX4_variable_38 rfl (by decide) (by decide) ?_
      refine Z_callVi (n := 43) [_] _ dX4_variable_40 rfl cwX4_207 rfl rfl rfl (Nat.le_of_ble_eq_true rfl) (by refine ⟨?_, ?_, ?_, ?_⟩ <;> exact Nat.le_of_ble_eq_true rfl) (fun a h => h.elim) (zX4_steps_var (p := v) (by omega) (by omega) (by omega) (by omega) (by exact fun k k0 k1 => by rw [show bitF J30 55 k = J30 44 (4 * 55 + k) from rfl, vb30 k k0 k1, uz_oo (by decide), (hF.2.2.1 v (by omega) (by omega)).1]; exact vbF_congr hF.2.1 (by omega)) (by exact emptyT_25 hF.1.2.2.1) (by rw [uz_oo (by decide), uz_n (by decide), hF.1.2.2.2.2.2.1, hF.1.2.2.2.2.2.2]; decide) (by rw [uz_n (by decide), hF.1.2.2.2.2.2.1]; decide) (by rw [uz_n (by decide), hF.1.2.2.2.2.1]; decide)) ?_
      intro x40 M40 J40 z40 f40 q40
      obtain ⟨sx40, cm40, pb40⟩ := q40
      refine Z_callVi (n := 46) [_, _, _] _ dX4_variable_43 rfl cwX4_219 rfl rfl rfl (Nat.le_of_ble_eq_true rfl) (by refine ⟨?_, ?_, ?_, ?_⟩ <;> exact Nat.le_of_ble_eq_true rfl) (fun _ h => h) (zX4_gets_var (p := v) (by omega) (by omega) (by omega) (by omega) (by omega) (by omega) (by exact fun g a b => by rw [(cm40.2.2.1 g (by omega)).1, uz_oo (by decide)]; exact hF.1.2.2.2.1 g (by omega) (by omega)) (by exact fun k k0 k1 => by rw [show bitF J40 55 k = J40 44 (4 * 55 + k) from rfl, (f40 44 (by decide)).2, vb30 k k0 k1, uz_oo (by decide), (hF.2.2.1 v (by omega) (by omega)).1]; exact vbF_congr hF.2.1 (by omega)) (by exact Or.inr ⟨rfl, pb40.1⟩) (by exact pb40.2.2.1) (by exact pb40.2.1) (by rw [pb40.2.2.2, cm40.1]; omega) (by rw [cm40.1, uz_n (by decide), hF.1.2.2.2.2.2.1]; decide)) ?_
      intro x43 M43 J43 z43 f43 q43
      have h43 := q43
      refine Z_iret dX4_variable_46 rfl ?_
      omega
    · refine Z_bipush (n := 21) dX4_variable_19 rfl (by decide) (by decide) ?_
      refine Z_iret dX4_variable_21 rfl ?_
      omega
  · refine Z_iconst (n := 8) dX4_variable_7 rfl (by decide) ?_
    refine Z_iret dX4_variable_8 rfl ?_
    omega
set_option maxRecDepth 20000 in
theorem zX4_combine_1 {G : tl_G} {M : zM} {J : zJ} {h t f g : Int} (hF : rF M J) : ZN G yX4_combine mX4_combine 5 kF [vR 31, vI h, vI t, vI f, vI g] F1 M J (qI (fun x M' J' => ((h < 0 ∨ 12 ≤ h) ∧ x = -1) ∨ (0 ≤ h ∧ h < 12 ∧ (t ≤ 0 ∨ 9 < t) ∧ x = -2) ∨ (0 ≤ h ∧ h < 12 ∧ 3 ≤ t ∧ t ≤ 9 ∧ x = -1) ∨ (0 ≤ h ∧ h < 12 ∧ (t = 1 ∨ t = 2) ∧ x = 0))) := by
  refine ZN_of (L := [_, _, _, _, _]) (by decide) rfl rfl (Nat.le_of_ble_eq_true rfl) rfl (fun hav => ?_)
  refine Z_iload_n (n := 1) dX4_combine_0 rfl rfl ?_
  refine Z_callSi (n := 4) [_] _ dX4_combine_1 rfl cwX4_210 rfl rfl (Nat.le_of_ble_eq_true rfl) (by refine ⟨?_, ?_, ?_, ?_⟩ <;> exact Nat.le_of_ble_eq_true rfl) (fun _ _ => trivial) (zX4_isHandle  ) ?_
  intro x1 M1 J1 z1 f1 q1
  obtain ⟨e1_1, e1_2, h1⟩ := q1
  replace e1_1 := e1_1.symm; subst e1_1
  replace e1_2 := e1_2.symm; subst e1_2
  refine Z_if_eq (n := 7) (t := 39) dX4_combine_4 rfl (by decide) (fun c4 => ?_) (fun c4 => ?_)
  · refine Z_iconst (n := 40) dX4_combine_39 rfl (by decide) ?_
    refine Z_iret dX4_combine_40 rfl ?_
    omega
  · refine Z_iload_n (n := 8) dX4_combine_7 rfl rfl ?_
    refine Z_iconst (n := 9) dX4_combine_8 rfl (by decide) ?_
    refine Z_bipush (n := 11) dX4_combine_9 rfl (by decide) (by decide) ?_
    refine Z_callSi (n := 14) [_, _, _] _ dX4_combine_11 rfl cwX4_112 rfl rfl (Nat.le_of_ble_eq_true rfl) (by refine ⟨?_, ?_, ?_, ?_⟩ <;> exact Nat.le_of_ble_eq_true rfl) (fun _ _ => trivial) (zX4_in  ) ?_
    intro x11 M11 J11 z11 f11 q11
    obtain ⟨e11_1, e11_2, h11⟩ := q11
    replace e11_1 := e11_1.symm; subst e11_1
    replace e11_2 := e11_2.symm; subst e11_2
    refine Z_if_eq (n := 17) (t := 41) dX4_combine_14 rfl (by decide) (fun c14 => ?_) (fun c14 => ?_)
    · refine Z_iload_n (n := 42) dX4_combine_41 rfl rfl ?_
      refine Z_iconst (n := 43) dX4_combine_42 rfl (by decide) ?_
      refine Z_bipush (n := 45) dX4_combine_43 rfl (by decide) (by decide) ?_
      refine Z_callSi (n := 48) [_, _, _] _ dX4_combine_45 rfl cwX4_112 rfl rfl (Nat.le_of_ble_eq_true rfl) (by refine ⟨?_, ?_, ?_, ?_⟩ <;> exact Nat.le_of_ble_eq_true rfl) (fun _ _ => trivial) (zX4_in  ) ?_
      intro x45 M45 J45 z45 f45 q45
      obtain ⟨e45_1, e45_2, h45⟩ := q45
      replace e45_1 := e45_1.symm; subst e45_1
      replace e45_2 := e45_2.symm; subst e45_2
      refine Z_if_ne (n := 51) (t := 54) dX4_combine_48 rfl (by decide) (fun c48 => ?_) (fun c48 => ?_)
      · refine Z_aload_n (n := 55) dX4_combine_54 rfl rfl ?_
        refine Z_callVv (n := 58) [] _ dX4_combine_55 rfl cwX4_213 rfl rfl rfl (Nat.le_of_ble_eq_true rfl) (by refine ⟨?_, ?_, ?_, ?_⟩ <;> exact Nat.le_of_ble_eq_true rfl) (fun _ h => h) (zX4_begin  (by exact fun h => h)) ?_
        intro M55 J55 f55 q55
        obtain ⟨e55_1, e55_2⟩ := q55
        replace e55_1 := e55_1.symm; subst e55_1
        replace e55_2 := e55_2.symm; subst e55_2
        refine Z_aload_n (n := 59) dX4_combine_58 rfl rfl ?_
        refine Z_bipush (n := 61) dX4_combine_59 rfl (by decide) (by decide) ?_
        refine Z_iload_n (n := 62) dX4_combine_61 rfl rfl ?_
        refine Z_iload_n (n := 63) dX4_combine_62 rfl rfl ?_
        refine Z_iconst (n := 64) dX4_combine_63 rfl (by decide) ?_
        refine Z_icmp_le (n := 67) (t := 71) dX4_combine_64 rfl (by decide) (fun c64 => ?_) (fun c64 => ?_)
        · refine Z_iconst (n := 72) dX4_combine_71 rfl (by decide) ?_
          refine Z_iload_n (n := 73) dX4_combine_72 rfl rfl ?_
          refine Z_iconst (n := 74) dX4_combine_73 rfl (by decide) ?_
          refine Z_icmp_le (n := 77) (t := 82) dX4_combine_74 rfl (by decide) (fun c74 => ?_) (fun c74 => ?_)
          · refine Z_iconst (n := 83) dX4_combine_82 rfl (by decide) ?_
            refine Z_callVv (n := 86) [_, _, _, _] _ dX4_combine_83 rfl cwX4_204 rfl rfl rfl (Nat.le_of_ble_eq_true rfl) (by refine ⟨?_, ?_, ?_, ?_⟩ <;> exact Nat.le_of_ble_eq_true rfl) (fun a h => h.elim) (zX4_makeOf  (by omega) (by omega) (by omega) (by omega) (by omega) (by omega)) ?_
            intro M83 J83 f83 q83
            obtain ⟨e83_1, B83, bq83, bo83⟩ := q83
            replace e83_1 := e83_1.symm; subst e83_1
            have hfl : flat (bitF J83 55) := by
              rcases (show t = 1 ∨ t = 2 by omega) with e | e
              · exact flat_congr (B' := fun _ => 0) (fun k k0 k1 => by rw [show bitF J83 55 k = J83 44 (4 * 55 + k) from rfl, (bq83 k k0 k1).1]; exact (bq83 k k0 k1).2.1 e) (fun d i a b c e => (con_ly a b c e).1)
              · exact flat_congr (B' := fun _ => -1) (fun k k0 k1 => by rw [show bitF J83 55 k = J83 44 (4 * 55 + k) from rfl, (bq83 k k0 k1).1]; exact (bq83 k k0 k1).2.2 e) (fun d i a b c e => (con_ly a b c e).2)
            refine Z_aload_n (n := 87) dX4_combine_86 rfl rfl ?_
            refine Z_iload_n (n := 88) dX4_combine_87 rfl rfl ?_
            refine Z_bipush (n := 90) dX4_combine_88 rfl (by decide) (by decide) ?_
            refine Z_aload_n (n := 91) dX4_combine_90 rfl rfl ?_
            refine Z_bipush (n := 93) dX4_combine_91 rfl (by decide) (by decide) ?_
            refine Z_callVi (n := 96) [_] _ dX4_combine_93 rfl cwX4_207 rfl rfl rfl (Nat.le_of_ble_eq_true rfl) (by refine ⟨?_, ?_, ?_, ?_⟩ <;> exact Nat.le_of_ble_eq_true rfl) (fun a h => h.elim) (zX4_steps_flat  (by omega) (by omega) (by exact hfl) (by rw [uz_n (by decide), hF.1.2.2.2.2.2.1]; decide) (by rw [uz_n (by decide), uz_n (by decide), hF.1.2.2.2.2.1, hF.1.2.2.1.2.2.2]; decide)) ?_
            intro x93 M93 J93 z93 f93 q93
            obtain ⟨sx93, sv93, sm93⟩ := q93
            have hz93 : ∀ g : Int, 0 ≤ g → g < 56 → M93 45 g = 0 := fun g a b => by
              rw [sm93, uz_oo (by decide)]
              unfold ad0
              rw [uz_oo (by decide), uz_a]
              split
              · rfl
              · rw [uz_oo (by decide), uz_oo (by decide)]; exact hF.1.2.2.2.1 g a b
            have hfl93 : flat (bitF J93 55) := by rw [bitF_congr (f93 44 (by decide)).2 55]; exact hfl
            refine Z_callVi (n := 99) [_, _, _] _ dX4_combine_96 rfl cwX4_219 rfl rfl rfl (Nat.le_of_ble_eq_true rfl) (by refine ⟨?_, ?_, ?_, ?_⟩ <;> exact Nat.le_of_ble_eq_true rfl) (fun _ h => h) (zX4_gets_flat  (by omega) (by omega) (by omega) (by omega) (by exact hz93) (by exact hfl93) (by rw [sm93, uz_n (by decide)]; unfold ad0; rw [uz_s, uz_n (by decide), hF.1.2.2.2.2.2.1]; decide)) ?_
            intro x96 M96 J96 z96 f96 q96
            have h96 := q96
            refine Z_iret dX4_combine_99 rfl ?_
            omega
          · omega
        · omega
      · refine Z_bipush (n := 53) dX4_combine_51 rfl (by decide) (by decide) ?_
        refine Z_iret dX4_combine_53 rfl ?_
        omega
    · refine Z_aload_n (n := 18) dX4_combine_17 rfl rfl ?_
      refine Z_iload_n (n := 19) dX4_combine_18 rfl rfl ?_
      refine Z_callVi (n := 22) [_] _ dX4_combine_19 rfl cwX4_223 rfl rfl rfl (Nat.le_of_ble_eq_true rfl) (by refine ⟨?_, ?_, ?_, ?_⟩ <;> exact Nat.le_of_ble_eq_true rfl) (fun _ _ => trivial) (zX4_isFunction  ) ?_
      intro x19 M19 J19 z19 f19 q19
      obtain ⟨e19_1, e19_2, h19⟩ := q19
      replace e19_1 := e19_1.symm; subst e19_1
      replace e19_2 := e19_2.symm; subst e19_2
      refine Z_if_eq (n := 25) (t := 39) dX4_combine_22 rfl (by decide) (fun c22 => ?_) (fun c22 => ?_)
      · refine Z_iconst (n := 40) dX4_combine_39 rfl (by decide) ?_
        refine Z_iret dX4_combine_40 rfl ?_
        omega
      · have := hF.1.1 f (by omega) (by omega); omega
set_option maxRecDepth 20000 in
theorem zX4_drop_1 {G : tl_G} {M : zM} {J : zJ} {h : Int} (hF : rF M J) : ZN G yX4_drop mX4_drop 2 kF [vR 31, vI h] F1 M J (qI (fun x M' J' => ((h < 0 ∨ 12 ≤ h) ∧ x = -1) ∨ (0 ≤ h ∧ h < 12 ∧ x = 0))) := by
  refine ZN_of (L := [_, _, _]) (by decide) rfl rfl (Nat.le_of_ble_eq_true rfl) rfl (fun hav => ?_)
  refine Z_iload_n (n := 1) dX4_drop_0 rfl rfl ?_
  refine Z_callSi (n := 4) [_] _ dX4_drop_1 rfl cwX4_210 rfl rfl (Nat.le_of_ble_eq_true rfl) (by refine ⟨?_, ?_, ?_, ?_⟩ <;> exact Nat.le_of_ble_eq_true rfl) (fun _ _ => trivial) (zX4_isHandle  ) ?_
  intro x1 M1 J1 z1 f1 q1
  obtain ⟨e1_1, e1_2, h1⟩ := q1
  replace e1_1 := e1_1.symm; subst e1_1
  replace e1_2 := e1_2.symm; subst e1_2
  refine Z_if_ne (n := 7) (t := 9) dX4_drop_4 rfl (by decide) (fun c4 => ?_) (fun c4 => ?_)
  · refine Z_aload_n (n := 10) dX4_drop_9 rfl rfl ?_
    refine Z_getA (n := 13) dX4_drop_10 rfl ffX4_44 rfl rfl ?_
    refine Z_iload_n (n := 14) dX4_drop_13 rfl rfl ?_
    refine Z_zald (n := 15) dX4_drop_14 rfl rfl rfl (by first | decide | assumption) (by omega) (by omega) (fun r14 s14 => ?_)
    refine Z_if_eq (n := 18) (t := 22) dX4_drop_15 rfl (by decide) (fun c15 => ?_) (fun c15 => ?_)
    · refine Z_iconst (n := 23) dX4_drop_22 rfl (by decide) ?_
      refine Z_istore_n (L' := [_, _, _]) (n := 24) dX4_drop_23 rfl (by decide) rfl rfl ?_
      refine Z_aload_n (n := 25) dX4_drop_24 rfl rfl ?_
      refine Z_iload_n (n := 26) dX4_drop_25 rfl rfl ?_
      refine Z_callVv (n := 29) [_] _ dX4_drop_26 rfl cwX4_179 rfl rfl rfl (Nat.le_of_ble_eq_true rfl) (by refine ⟨?_, ?_, ?_, ?_⟩ <;> exact Nat.le_of_ble_eq_true rfl) (fun a h => h.elim) (zX4_remove_1  (by omega) (by omega) (by exact Or.inl (hF.1.2.2.2.1 h (by omega) (by omega)))) ?_
      intro M26 J26 f26 q26
      obtain ⟨e26_1, rz26, ro26, r4926⟩ := q26
      replace e26_1 := e26_1.symm; subst e26_1
      refine Z_iload_n (n := 30) dX4_drop_29 rfl rfl ?_
      refine Z_iret dX4_drop_30 rfl ?_
      omega
    · have := hF.1.1 h (by omega) (by omega); omega
  · refine Z_iconst (n := 8) dX4_drop_7 rfl (by decide) ?_
    refine Z_iret dX4_drop_8 rfl ?_
    omega
