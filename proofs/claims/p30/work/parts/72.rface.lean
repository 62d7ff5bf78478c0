section
/-! ===== the reference: its face on functions ===== -/
def whOK (J : zJ) : Prop := ∀ q : Int, 2 ≤ q → q ≤ 7 → J 54 q = whF q
theorem lbr_b {M : zM} {J J0 : zJ} {t : Int} (ht : M 43 t = 0) (vo : ∀ j : Int, (j < 4 * t ∨ 4 * t + 4 ≤ j) → J0 44 j = J 44 j) (y : Lb) : LBr M J0 y ↔ LBr M J y := by
  have key : ∀ g : Int, ¬ M 43 g = 0 → phi J0 g = phi J g := fun g hg => by
    have e : g ≠ t := fun z => hg (by rw [z]; exact ht)
    exact phi_cg (fun k k0 k1 => vo _ (by omega))
  unfold LBr
  constructor
  · rintro ⟨g, gb, a, b⟩
    rw [key g a] at b
    exact ⟨g, gb, a, b⟩
  · rintro ⟨g, gb, a, b⟩
    exact ⟨g, gb, a, by rw [key g a]; exact b⟩
theorem lbr_c {M M0 : zM} {J : zJ} (e : M0 43 = M 43) (y : Lb) : LBr M0 J y ↔ LBr M J y := by
  unfold LBr
  rw [e]
theorem or_E0 {A Q : Prop} {y : Lb} : (A ∨ Q) ↔ ((A ∨ E0 y) ∨ Q) := or_congr ⟨Or.inl, fun q => q.resolve_right id⟩ Iff.rfl
set_option maxRecDepth 20000 in
theorem zX4_variable_g {G : tl_G} {M : zM} {J : zJ} {h v : Int} (hr : RI M J) (hk : M 31 27 ≤ 2000000000) (hW : whOK J) : ZN G yX4_variable mX4_variable 5 kRg [vR 31, vI h, vI v] F1 M J (qI (fun x M' J' => RI M' J' ∧ M' 31 27 ≤ M 31 27 + 400 ∧ (((h < 0 ∨ 12 ≤ h) ∧ x = -1 ∧ M' = M ∧ J' = J) ∨ (0 ≤ h ∧ h < 12 ∧ (v < 0 ∨ 8 ≤ v) ∧ x = -2 ∧ M' = M ∧ J' = J) ∨ (0 ≤ h ∧ h < 12 ∧ 0 ≤ v ∧ v < 8 ∧ finR M J h (okR M J E0 (fun r => bz (r (M 39 v)))) (fun r => bz (r (M 39 v))) x M' J')))) := by
  refine ZN_of (L := [_, _, _]) (by decide) rfl rfl (Nat.le_of_ble_eq_true rfl) rfl (fun hav => ?_)
  refine Z_ok (fun ok0 => ?_)
  refine Z_iload_n (n := 1) dX4_variable_0 rfl rfl ?_
  refine Z_callSi (n := 4) [_] _ dX4_variable_1 rfl cwX4_210 rfl rfl (Nat.le_of_ble_eq_true rfl) (by refine ⟨?_, ?_, ?_, ?_⟩ <;> exact Nat.le_of_ble_eq_true rfl) (fun _ _ => trivial) (zX4_isHandle  ) ?_
  intro x1 M1 J1 z1 f1 q1
  obtain ⟨e1_1, e1_2, h1⟩ := q1
  replace e1_1 := e1_1.symm; subst e1_1
  replace e1_2 := e1_2.symm; subst e1_2
  refine Z_if_ne (n := 7) (t := 9) dX4_variable_4 rfl (by decide) (fun c4 => ?_) (fun c4 => ?_)
  · refine Z_iload_n (n := 10) dX4_variable_9 rfl rfl ?_
    refine Z_iconst (n := 11) dX4_variable_10 rfl (by decide) ?_
    refine Z_bipush (n := 13) dX4_variable_11 rfl (by decide) (by decide) ?_
    refine Z_callSi (n := 16) [_, _, _] _ dX4_variable_13 rfl cwX4_112 rfl rfl (Nat.le_of_ble_eq_true rfl) (by refine ⟨?_, ?_, ?_, ?_⟩ <;> exact Nat.le_of_ble_eq_true rfl) (fun _ _ => trivial) (zX4_in  ) ?_
    intro x13 M13 J13 z13 f13 q13
    obtain ⟨e13_1, e13_2, h13⟩ := q13
    replace e13_1 := e13_1.symm; subst e13_1
    replace e13_2 := e13_2.symm; subst e13_2
    refine Z_if_ne (n := 19) (t := 22) dX4_variable_16 rfl (by decide) (fun c16 => ?_) (fun c16 => ?_)
    · refine Z_aload_n (n := 23) dX4_variable_22 rfl rfl ?_
      refine Z_callVv (n := 26) [] _ dX4_variable_23 rfl cwX4_213 rfl rfl rfl (Nat.le_of_ble_eq_true rfl) (by refine ⟨?_, ?_, ?_, ?_⟩ <;> exact Nat.le_of_ble_eq_true rfl) (fun _ h => h) (zX4_begin  (by decide)) ?_
      intro M23 J23 f23 q23
      obtain ⟨e23_1, e23_2⟩ := q23
      replace e23_1 := e23_1.symm; subst e23_1
      replace e23_2 := e23_2.symm; subst e23_2
      obtain ⟨tb, hb, ub, mb, db, ob⟩ := begin_ok hr
      refine Z_nm (fun M23 e23 => ?_)
      rw [← e23] at tb hb ub mb db ob
      have oB : ∀ a : Nat, ¬ a = 31 → M23 a = M a := fun a ha => by rw [e23]; exact uz_o ha
      have e8 : M23 31 8 = M 31 8 := by rw [e23]; exact uz_n (by decide)
      clear e23
      refine Z_rg 31 8 rfl (fun gb8 gb8b => ?_)
      refine Z_aload_n (n := 27) dX4_variable_26 rfl rfl ?_
      refine Z_bipush (n := 29) dX4_variable_27 rfl (by decide) (by decide) ?_
      refine Z_iload_n (n := 30) dX4_variable_29 rfl rfl ?_
      refine Z_callVv (n := 33) [_, _] _ dX4_variable_30 rfl cwX4_197 rfl rfl rfl (Nat.le_of_ble_eq_true rfl) (by refine ⟨?_, ?_, ?_, ?_⟩ <;> exact Nat.le_of_ble_eq_true rfl) (fun a h => by unfold kRg at h; unfold kBits; omega) (zX4_makeVariable  (by omega) (by omega) (by omega) (by omega)) ?_
      intro M30 J30 f30 q30
      obtain ⟨e30_1, vb30, vo30⟩ := q30
      replace e30_1 := e30_1.symm; subst e30_1
      refine Z_aload_n (n := 34) dX4_variable_33 rfl rfl ?_
      refine Z_iload_n (n := 35) dX4_variable_34 rfl rfl ?_
      refine Z_bipush (n := 37) dX4_variable_35 rfl (by decide) (by decide) ?_
      refine Z_aload_n (n := 38) dX4_variable_37 rfl rfl ?_
      refine Z_bipush (n := 40) dX4_variable_38 rfl (by decide) (by decide) ?_
      refine Z_callVi (n := 43) [_] _ dX4_variable_40 rfl cwX4_207 rfl rfl rfl (Nat.le_of_ble_eq_true rfl) (by refine ⟨?_, ?_, ?_, ?_⟩ <;> exact Nat.le_of_ble_eq_true rfl) (fun a h => by unfold kRg at h; unfold kAd; omega) (zX4_steps  (by omega) (by omega) (by exact TI_bits tb (hb 55 (by decide) (by decide)) (f30 48 (by decide)).2 vo30) (by exact hb 55 (by decide) (by decide)) (by omega) (by omega)) ?_
      intro x40 M40 J40 z40 f40 q40
      obtain ⟨ti40, ah40, am40, au40, af40, xs40⟩ := q40
      refine Z_ok (fun okS => ?_)
      have hF : phi J30 55 = (fun r => bz (r (M 39 v))) := by
        have hp : 0 ≤ M 39 v ∧ M 39 v ≤ 7 := by
          have w : -1 ≤ M 39 v ∧ M 39 v ≤ 7 := ok0 39 v
          exact ⟨hr.2.2.2.1 v (by omega) (by omega), w.2⟩
        have vbX := vb30
        rw [oB 39 (by decide)] at vbX
        exact phi_var hp.1 hp.2 hW vbX
      have hL : ∀ y, (LBr M23 J30 y ∨ laid (phi J30 55) y) ↔ ((LBr M J y ∨ E0 y) ∨ laid (phi J30 55) y) := fun y => (or_congr ((lbr_b (hb 55 (by decide) (by decide)) vo30 y).trans (lbr_c (oB 43 (by decide)) y)) Iff.rfl).trans or_E0
      obtain ⟨so, -⟩ := st_ok (E := E0) (by decide) (by decide) ti40 okS ah40 af40 (f40 44 (by decide)).2 e8 hL xs40
      rw [hF] at so
      have yo : (x40 = 1 ∧ okR M J E0 (fun r => bz (r (M 39 v))) ∧ phi J40 55 = (fun r => bz (r (M 39 v)))) ∨ (x40 = 0 ∧ ¬ okR M J E0 (fun r => bz (r (M 39 v)))) := so.imp_left (fun q => ⟨q.1, q.2, (phi_cg (fun k _ _ => by rw [(f40 44 (by decide)).2])).trans hF⟩)
      clear so hL
      refine Z_rg 31 8 rfl (fun gs8 gs8b => ?_)
      refine Z_callVi (n := 46) [_, _, _] _ dX4_variable_43 rfl cwX4_219 rfl rfl rfl (Nat.le_of_ble_eq_true rfl) (by refine ⟨?_, ?_, ?_, ?_⟩ <;> exact Nat.le_of_ble_eq_true rfl) (fun a h => by unfold kRg at h; unfold kTk; omega) (zX4_gets  (by omega) (by omega) (by omega) (by omega) (by omega) (by exact ti40) (by exact fun q => ⟨ah40, by omega⟩) (by omega)) ?_
      intro x43 M43 J43 z43 f43 q43
      obtain ⟨ti43, hn43, am43, gx43⟩ := q43
      refine Z_fr (fun frR => ?_)
      refine Z_ok (fun okG => ?_)
      have fq := fin_r (by omega) (by omega) (hdl_t db (hdl_a af40 (by decide))) (fun j hj => (congrFun (f40 44 (by decide)).2 j).trans (vo30 j (by omega))) yo ti43 okG gx43
      clear yo
      refine Z_iret dX4_variable_46 rfl ?_
      exact ⟨RI_gets hr ok0 (hdl_t db (hdl_a af40 (by decide))) (fun q => by omega) frR ti43 hn43 gx43, by omega, Or.inr (Or.inr ⟨by omega, by omega, by omega, by omega, fq⟩)⟩
    · refine Z_bipush (n := 21) dX4_variable_19 rfl (by decide) (by decide) ?_
      refine Z_iret dX4_variable_21 rfl ?_
      exact ⟨hr, by omega, Or.inr (Or.inl ⟨by omega, by omega, by omega, rfl, rfl, rfl⟩)⟩
  · refine Z_iconst (n := 8) dX4_variable_7 rfl (by decide) ?_
    refine Z_iret dX4_variable_8 rfl ?_
    exact ⟨hr, by omega, Or.inl ⟨by omega, rfl, rfl, rfl⟩⟩
set_option maxRecDepth 20000 in
theorem zX4_combine_g {G : tl_G} {M : zM} {J : zJ} {h k f g : Int} (hr : RI M J) (hk : M 31 27 ≤ 2000000000) (hW : whOK J) : ZN G yX4_combine mX4_combine 5 kRg [vR 31, vI h, vI k, vI f, vI g] F1 M J (qI (fun x M' J' => RI M' J' ∧ M' 31 27 ≤ M 31 27 + 400 ∧ (((h < 0 ∨ 12 ≤ h) ∧ x = -1 ∧ M' = M ∧ J' = J) ∨ (0 ≤ h ∧ h < 12 ∧ (k ≤ 0 ∨ 9 < k) ∧ x = -2 ∧ M' = M ∧ J' = J) ∨ (0 ≤ h ∧ h < 12 ∧ 0 < k ∧ k ≤ 9 ∧ ((3 ≤ k ∧ (f < 0 ∨ 12 ≤ f ∨ M 43 f = 0)) ∨ (3 < k ∧ (g < 0 ∨ 12 ≤ g ∨ M 43 g = 0))) ∧ x = -1 ∧ M' = M ∧ J' = J) ∨ (0 ≤ h ∧ h < 12 ∧ 0 < k ∧ k ≤ 9 ∧ ¬ ((3 ≤ k ∧ (f < 0 ∨ 12 ≤ f ∨ M 43 f = 0)) ∨ (3 < k ∧ (g < 0 ∨ 12 ≤ g ∨ M 43 g = 0))) ∧ finR M J h (okR M J E0 (fun r => tbl (tabF k) (if k < 3 then 0 else phi J f r) (if k ≤ 3 then 0 else phi J g r) 0)) (fun r => tbl (tabF k) (if k < 3 then 0 else phi J f r) (if k ≤ 3 then 0 else phi J g r) 0) x M' J')))) := by
  refine ZN_of (L := [_, _, _, _, _]) (by decide) rfl rfl (Nat.le_of_ble_eq_true rfl) rfl (fun hav => ?_)
  refine Z_ok (fun ok0 => ?_)
  refine Z_iload_n (n := 1) dX4_combine_0 rfl rfl ?_
  refine Z_callSi (n := 4) [_] _ dX4_combine_1 rfl cwX4_210 rfl rfl (Nat.le_of_ble_eq_true rfl) (by refine ⟨?_, ?_, ?_, ?_⟩ <;> exact Nat.le_of_ble_eq_true rfl) (fun _ _ => trivial) (zX4_isHandle  ) ?_
  intro x1 M1 J1 z1 f1 q1
  obtain ⟨e1_1, e1_2, h1⟩ := q1
  replace e1_1 := e1_1.symm; subst e1_1
  replace e1_2 := e1_2.symm; subst e1_2
  refine Z_if_eq (n := 7) (t := 39) dX4_combine_4 rfl (by decide) (fun c4 => ?_) (fun c4 => ?_)
  · refine Z_iconst (n := 40) dX4_combine_39 rfl (by decide) ?_
    refine Z_iret dX4_combine_40 rfl ?_
    first
      | exact ⟨hr, by omega, Or.inl ⟨by omega, rfl, rfl, rfl⟩⟩
      | exact ⟨hr, by omega, Or.inr (Or.inr (Or.inl ⟨by omega, by omega, by omega, by omega, by omega, rfl, rfl, rfl⟩))⟩
      | (exfalso; omega)
  · refine Z_iload_n (n := 8) dX4_combine_7 rfl rfl ?_
    refine Z_iconst (n := 9) dX4_combine_8 rfl (by decide) ?_
    refine Z_bipush (n := 11) dX4_combine_9 rfl (by decide) (by decide) ?_
    refine Z_callSi (n := 14) [_, _, _] _ dX4_combine_11 rfl cwX4_112 rfl rfl (Nat.le_of_ble_eq_true rfl) (by refine ⟨?_, ?_, ?_, ?_⟩ <;> exact Nat.le_of_ble_eq_true rfl) (fun _ _ => trivial) (zX4_in  ) ?_
    intro x11 M11 J11 z11 f11 q11
    obtain ⟨e11_1, e11_2, h11⟩ := q11
    replace e11_1 := e11_1.symm; subst e11_1
    replace e11_2 := e11_2.symm; subst e11_2
    refine Z_if_eq (n := 17) (t := 41) dX4_combine_14 rfl (by decide) (fun c14 => ?_) (fun c14 => ?_)
    · refine Z_iload_n (n := 42) dX4_combine_41 rfl rfl ?_
      refine Z_iconst (n := 43) dX4_combine_42 rfl (by decide) ?_
      refine Z_bipush (n := 45) dX4_combine_43 rfl (by decide) (by decide) ?_
      refine Z_callSi (n := 48) [_, _, _] _ dX4_combine_45 rfl cwX4_112 rfl rfl (Nat.le_of_ble_eq_true rfl) (by refine ⟨?_, ?_, ?_, ?_⟩ <;> exact Nat.le_of_ble_eq_true rfl) (fun _ _ => trivial) (zX4_in  ) ?_
      intro x45 M45 J45 z45 f45 q45
      obtain ⟨e45_1, e45_2, h45⟩ := q45
      replace e45_1 := e45_1.symm; subst e45_1
      replace e45_2 := e45_2.symm; subst e45_2
      refine Z_if_ne (n := 51) (t := 54) dX4_combine_48 rfl (by decide) (fun c48 => ?_) (fun c48 => ?_)
      · refine Z_aload_n (n := 55) dX4_combine_54 rfl rfl ?_
        refine Z_callVv (n := 58) [] _ dX4_combine_55 rfl cwX4_213 rfl rfl rfl (Nat.le_of_ble_eq_true rfl) (by refine ⟨?_, ?_, ?_, ?_⟩ <;> exact Nat.le_of_ble_eq_true rfl) (fun _ h => h) (zX4_begin  (by decide)) ?_
        intro M55 J55 f55 q55
        obtain ⟨e55_1, e55_2⟩ := q55
        replace e55_1 := e55_1.symm; subst e55_1
        replace e55_2 := e55_2.symm; subst e55_2
        obtain ⟨tb, hb, ub, mb, db, ob⟩ := begin_ok hr
        refine Z_nm (fun M55 e55 => ?_)
        rw [← e55] at tb hb ub mb db ob
        have oB : ∀ a : Nat, ¬ a = 31 → M55 a = M a := fun a ha => by rw [e55]; exact uz_o ha
        have e8 : M55 31 8 = M 31 8 := by rw [e55]; exact uz_n (by decide)
        clear e55
        refine Z_rg 31 8 rfl (fun gb8 gb8b => ?_)
        have gd : 0 ≤ h ∧ h < 12 ∧ 0 < k ∧ k ≤ 9 ∧ (k < 3 ∨ (0 ≤ f ∧ f < 12 ∧ ¬ M 43 f = 0)) ∧ (k ≤ 3 ∨ (0 ≤ g ∧ g < 12 ∧ ¬ M 43 g = 0)) := by omega
        try clear c4
        try clear c14
        try clear c22
        try clear c27
        try clear c36
        try clear c48
        try clear h1
        try clear h11
        try clear h19
        try clear h33
        try clear h45
        refine Z_aload_n (n := 59) dX4_combine_58 rfl rfl ?_
        refine Z_bipush (n := 61) dX4_combine_59 rfl (by decide) (by decide) ?_
        refine Z_iload_n (n := 62) dX4_combine_61 rfl rfl ?_
        refine Z_iload_n (n := 63) dX4_combine_62 rfl rfl ?_
        refine Z_iconst (n := 64) dX4_combine_63 rfl (by decide) ?_
        refine Z_icmp_le (n := 67) (t := 71) dX4_combine_64 rfl (by decide) (fun c64 => ?_) (fun c64 => ?_)
        · refine Z_iconst (n := 72) dX4_combine_71 rfl (by decide) ?_
          refine Z_iload_n (n := 73) dX4_combine_72 rfl rfl ?_
          refine Z_iconst (n := 74) dX4_combine_73 rfl (by decide) ?_
          refine Z_icmp_le (n := 77) (t := 82) dX4_combine_74 rfl (by decide) (fun c74 => ?_) (fun c74 => ?_)
          · refine Z_iconst (n := 83) dX4_combine_82 rfl (by decide) ?_
            refine Z_callVv (n := 86) [_, _, _, _] _ dX4_combine_83 rfl cwX4_204 rfl rfl rfl (Nat.le_of_ble_eq_true rfl) (by refine ⟨?_, ?_, ?_, ?_⟩ <;> exact Nat.le_of_ble_eq_true rfl) (fun a h => by unfold kRg at h; unfold kBits; omega) (zX4_makeOf_f  (by omega) (by omega) (by omega) (by omega) (by omega) (by omega)) ?_
            intro M83 J83 f83 q83
            obtain ⟨e83_1, vb83, vo83⟩ := q83
            replace e83_1 := e83_1.symm; subst e83_1
            refine Z_aload_n (n := 87) dX4_combine_86 rfl rfl ?_
            refine Z_iload_n (n := 88) dX4_combine_87 rfl rfl ?_
            refine Z_bipush (n := 90) dX4_combine_88 rfl (by decide) (by decide) ?_
            refine Z_aload_n (n := 91) dX4_combine_90 rfl rfl ?_
            refine Z_bipush (n := 93) dX4_combine_91 rfl (by decide) (by decide) ?_
            refine Z_callVi (n := 96) [_] _ dX4_combine_93 rfl cwX4_207 rfl rfl rfl (Nat.le_of_ble_eq_true rfl) (by refine ⟨?_, ?_, ?_, ?_⟩ <;> exact Nat.le_of_ble_eq_true rfl) (fun a h => by unfold kRg at h; unfold kAd; omega) (zX4_steps  (by omega) (by omega) (by exact TI_bits tb (hb 55 (by decide) (by decide)) (f83 48 (by decide)).2 vo83) (by exact hb 55 (by decide) (by decide)) (by omega) (by omega)) ?_
            intro x93 M93 J93 z93 f93 q93
            obtain ⟨ti93, ah93, am93, au93, af93, xs93⟩ := q93
            refine Z_ok (fun okS => ?_)
            have hF : phi J83 55 = (fun r => tbl (tabF k) (if k < 3 then 0 else phi J f r) (if k ≤ 3 then 0 else phi J g r) 0) := by
              refine (phi_of (by omega) (by omega) vb83).trans ?_
              first
                | rfl
                | (funext r; simp only [if_pos (show k < 3 by omega), if_pos (show k ≤ 3 by omega)])
                | (funext r; simp only [if_neg (show ¬ k < 3 by omega), if_pos (show k ≤ 3 by omega)])
                | (exfalso; omega)
            have hL : ∀ y, (LBr M55 J83 y ∨ laid (phi J83 55) y) ↔ ((LBr M J y ∨ E0 y) ∨ laid (phi J83 55) y) := fun y => (or_congr ((lbr_b (hb 55 (by decide) (by decide)) vo83 y).trans (lbr_c (oB 43 (by decide)) y)) Iff.rfl).trans or_E0
            obtain ⟨so, -⟩ := st_ok (E := E0) (by decide) (by decide) ti93 okS ah93 af93 (f93 44 (by decide)).2 e8 hL xs93
            rw [hF] at so
            have yo : (x93 = 1 ∧ okR M J E0 (fun r => tbl (tabF k) (if k < 3 then 0 else phi J f r) (if k ≤ 3 then 0 else phi J g r) 0) ∧ phi J93 55 = (fun r => tbl (tabF k) (if k < 3 then 0 else phi J f r) (if k ≤ 3 then 0 else phi J g r) 0)) ∨ (x93 = 0 ∧ ¬ okR M J E0 (fun r => tbl (tabF k) (if k < 3 then 0 else phi J f r) (if k ≤ 3 then 0 else phi J g r) 0)) := so.imp_left (fun q => ⟨q.1, q.2, (phi_cg (fun k _ _ => by rw [(f93 44 (by decide)).2])).trans hF⟩)
            clear so hL
            refine Z_rg 31 8 rfl (fun gs8 gs8b => ?_)
            refine Z_callVi (n := 99) [_, _, _] _ dX4_combine_96 rfl cwX4_219 rfl rfl rfl (Nat.le_of_ble_eq_true rfl) (by refine ⟨?_, ?_, ?_, ?_⟩ <;> exact Nat.le_of_ble_eq_true rfl) (fun a h => by unfold kRg at h; unfold kTk; omega) (zX4_gets  (by omega) (by omega) (by omega) (by omega) (by omega) (by exact ti93) (by exact fun q => ⟨ah93, by omega⟩) (by omega)) ?_
            intro x96 M96 J96 z96 f96 q96
            obtain ⟨ti96, hn96, am96, gx96⟩ := q96
            refine Z_fr (fun frR => ?_)
            refine Z_ok (fun okG => ?_)
            have fq := fin_r (by omega) (by omega) (hdl_t db (hdl_a af93 (by decide))) (fun j hj => (congrFun (f93 44 (by decide)).2 j).trans (vo83 j (by omega))) yo ti96 okG gx96
            clear yo
            refine Z_iret dX4_combine_99 rfl ?_
            exact ⟨RI_gets hr ok0 (hdl_t db (hdl_a af93 (by decide))) (fun q => by omega) frR ti96 hn96 gx96, by omega, Or.inr (Or.inr (Or.inr ⟨by omega, by omega, by omega, by omega, by omega, fq⟩))⟩
          · refine Z_iload (n := 79) dX4_combine_77 rfl rfl ?_
            refine Z_goto (t := 83) dX4_combine_79 (by decide) ?_
            refine Z_callVv (n := 86) [_, _, _, _] _ dX4_combine_83 rfl cwX4_204 rfl rfl rfl (Nat.le_of_ble_eq_true rfl) (by refine ⟨?_, ?_, ?_, ?_⟩ <;> exact Nat.le_of_ble_eq_true rfl) (fun a h => by unfold kRg at h; unfold kBits; omega) (zX4_makeOf_f  (by omega) (by omega) (by omega) (by omega) (by omega) (by omega)) ?_
            intro M83 J83 f83 q83
            obtain ⟨e83_1, vb83, vo83⟩ := q83
            replace e83_1 := e83_1.symm; subst e83_1
            refine Z_aload_n (n := 87) dX4_combine_86 rfl rfl ?_
            refine Z_iload_n (n := 88) dX4_combine_87 rfl rfl ?_
            refine Z_bipush (n := 90) dX4_combine_88 rfl (by decide) (by decide) ?_
            refine Z_aload_n (n := 91) dX4_combine_90 rfl rfl ?_
            refine Z_bipush (n := 93) dX4_combine_91 rfl (by decide) (by decide) ?_
            refine Z_callVi (n := 96) [_] _ dX4_combine_93 rfl cwX4_207 rfl rfl rfl (Nat.le_of_ble_eq_true rfl) (by refine ⟨?_, ?_, ?_, ?_⟩ <;> exact Nat.le_of_ble_eq_true rfl) (fun a h => by unfold kRg at h; unfold kAd; omega) (zX4_steps  (by omega) (by omega) (by exact TI_bits tb (hb 55 (by decide) (by decide)) (f83 48 (by decide)).2 vo83) (by exact hb 55 (by decide) (by decide)) (by omega) (by omega)) ?_
            intro x93 M93 J93 z93 f93 q93
            obtain ⟨ti93, ah93, am93, au93, af93, xs93⟩ := q93
            refine Z_ok (fun okS => ?_)
            have hF : phi J83 55 = (fun r => tbl (tabF k) (if k < 3 then 0 else phi J f r) (if k ≤ 3 then 0 else phi J g r) 0) := by
              refine (phi_of (by omega) (by omega) vb83).trans ?_
              first
                | rfl
                | (funext r; simp only [if_pos (show k < 3 by omega), if_pos (show k ≤ 3 by omega)])
                | (funext r; simp only [if_neg (show ¬ k < 3 by omega), if_pos (show k ≤ 3 by omega)])
                | (exfalso; omega)
            have hL : ∀ y, (LBr M55 J83 y ∨ laid (phi J83 55) y) ↔ ((LBr M J y ∨ E0 y) ∨ laid (phi J83 55) y) := fun y => (or_congr ((lbr_b (hb 55 (by decide) (by decide)) vo83 y).trans (lbr_c (oB 43 (by decide)) y)) Iff.rfl).trans or_E0
            obtain ⟨so, -⟩ := st_ok (E := E0) (by decide) (by decide) ti93 okS ah93 af93 (f93 44 (by decide)).2 e8 hL xs93
            rw [hF] at so
            have yo : (x93 = 1 ∧ okR M J E0 (fun r => tbl (tabF k) (if k < 3 then 0 else phi J f r) (if k ≤ 3 then 0 else phi J g r) 0) ∧ phi J93 55 = (fun r => tbl (tabF k) (if k < 3 then 0 else phi J f r) (if k ≤ 3 then 0 else phi J g r) 0)) ∨ (x93 = 0 ∧ ¬ okR M J E0 (fun r => tbl (tabF k) (if k < 3 then 0 else phi J f r) (if k ≤ 3 then 0 else phi J g r) 0)) := so.imp_left (fun q => ⟨q.1, q.2, (phi_cg (fun k _ _ => by rw [(f93 44 (by decide)).2])).trans hF⟩)
            clear so hL
            refine Z_rg 31 8 rfl (fun gs8 gs8b => ?_)
            refine Z_callVi (n := 99) [_, _, _] _ dX4_combine_96 rfl cwX4_219 rfl rfl rfl (Nat.le_of_ble_eq_true rfl) (by refine ⟨?_, ?_, ?_, ?_⟩ <;> exact Nat.le_of_ble_eq_true rfl) (fun a h => by unfold kRg at h; unfold kTk; omega) (zX4_gets  (by omega) (by omega) (by omega) (by omega) (by omega) (by exact ti93) (by exact fun q => ⟨ah93, by omega⟩) (by omega)) ?_
            intro x96 M96 J96 z96 f96 q96
            obtain ⟨ti96, hn96, am96, gx96⟩ := q96
            refine Z_fr (fun frR => ?_)
            refine Z_ok (fun okG => ?_)
            have fq := fin_r (by omega) (by omega) (hdl_t db (hdl_a af93 (by decide))) (fun j hj => (congrFun (f93 44 (by decide)).2 j).trans (vo83 j (by omega))) yo ti96 okG gx96
            clear yo
            refine Z_iret dX4_combine_99 rfl ?_
            exact ⟨RI_gets hr ok0 (hdl_t db (hdl_a af93 (by decide))) (fun q => by omega) frR ti96 hn96 gx96, by omega, Or.inr (Or.inr (Or.inr ⟨by omega, by omega, by omega, by omega, by omega, fq⟩))⟩
        · refine Z_iload_n (n := 68) dX4_combine_67 rfl rfl ?_
          refine Z_goto (t := 72) dX4_combine_68 (by decide) ?_
          refine Z_iload_n (n := 73) dX4_combine_72 rfl rfl ?_
          refine Z_iconst (n := 74) dX4_combine_73 rfl (by decide) ?_
          refine Z_icmp_le (n := 77) (t := 82) dX4_combine_74 rfl (by decide) (fun c74 => ?_) (fun c74 => ?_)
          · refine Z_iconst (n := 83) dX4_combine_82 rfl (by decide) ?_
            refine Z_callVv (n := 86) [_, _, _, _] _ dX4_combine_83 rfl cwX4_204 rfl rfl rfl (Nat.le_of_ble_eq_true rfl) (by refine ⟨?_, ?_, ?_, ?_⟩ <;> exact Nat.le_of_ble_eq_true rfl) (fun a h => by unfold kRg at h; unfold kBits; omega) (zX4_makeOf_f  (by omega) (by omega) (by omega) (by omega) (by omega) (by omega)) ?_
            intro M83 J83 f83 q83
            obtain ⟨e83_1, vb83, vo83⟩ := q83
            replace e83_1 := e83_1.symm; subst e83_1
            refine Z_aload_n (n := 87) dX4_combine_86 rfl rfl ?_
            refine Z_iload_n (n := 88) dX4_combine_87 rfl rfl ?_
            refine Z_bipush (n := 90) dX4_combine_88 rfl (by decide) (by decide) ?_
            refine Z_aload_n (n := 91) dX4_combine_90 rfl rfl ?_
            refine Z_bipush (n := 93) dX4_combine_91 rfl (by decide) (by decide) ?_
            refine Z_callVi (n := 96) [_] _ dX4_combine_93 rfl cwX4_207 rfl rfl rfl (Nat.le_of_ble_eq_true rfl) (by refine ⟨?_, ?_, ?_, ?_⟩ <;> exact Nat.le_of_ble_eq_true rfl) (fun a h => by unfold kRg at h; unfold kAd; omega) (zX4_steps  (by omega) (by omega) (by exact TI_bits tb (hb 55 (by decide) (by decide)) (f83 48 (by decide)).2 vo83) (by exact hb 55 (by decide) (by decide)) (by omega) (by omega)) ?_
            intro x93 M93 J93 z93 f93 q93
            obtain ⟨ti93, ah93, am93, au93, af93, xs93⟩ := q93
            refine Z_ok (fun okS => ?_)
            have hF : phi J83 55 = (fun r => tbl (tabF k) (if k < 3 then 0 else phi J f r) (if k ≤ 3 then 0 else phi J g r) 0) := by
              refine (phi_of (by omega) (by omega) vb83).trans ?_
              first
                | rfl
                | (funext r; simp only [if_pos (show k < 3 by omega), if_pos (show k ≤ 3 by omega)])
                | (funext r; simp only [if_neg (show ¬ k < 3 by omega), if_pos (show k ≤ 3 by omega)])
                | (exfalso; omega)
            have hL : ∀ y, (LBr M55 J83 y ∨ laid (phi J83 55) y) ↔ ((LBr M J y ∨ E0 y) ∨ laid (phi J83 55) y) := fun y => (or_congr ((lbr_b (hb 55 (by decide) (by decide)) vo83 y).trans (lbr_c (oB 43 (by decide)) y)) Iff.rfl).trans or_E0
            obtain ⟨so, -⟩ := st_ok (E := E0) (by decide) (by decide) ti93 okS ah93 af93 (f93 44 (by decide)).2 e8 hL xs93
            rw [hF] at so
            have yo : (x93 = 1 ∧ okR M J E0 (fun r => tbl (tabF k) (if k < 3 then 0 else phi J f r) (if k ≤ 3 then 0 else phi J g r) 0) ∧ phi J93 55 = (fun r => tbl (tabF k) (if k < 3 then 0 else phi J f r) (if k ≤ 3 then 0 else phi J g r) 0)) ∨ (x93 = 0 ∧ ¬ okR M J E0 (fun r => tbl (tabF k) (if k < 3 then 0 else phi J f r) (if k ≤ 3 then 0 else phi J g r) 0)) := so.imp_left (fun q => ⟨q.1, q.2, (phi_cg (fun k _ _ => by rw [(f93 44 (by decide)).2])).trans hF⟩)
            clear so hL
            refine Z_rg 31 8 rfl (fun gs8 gs8b => ?_)
            refine Z_callVi (n := 99) [_, _, _] _ dX4_combine_96 rfl cwX4_219 rfl rfl rfl (Nat.le_of_ble_eq_true rfl) (by refine ⟨?_, ?_, ?_, ?_⟩ <;> exact Nat.le_of_ble_eq_true rfl) (fun a h => by unfold kRg at h; unfold kTk; omega) (zX4_gets  (by omega) (by omega) (by omega) (by omega) (by omega) (by exact ti93) (by exact fun q => ⟨ah93, by omega⟩) (by omega)) ?_
            intro x96 M96 J96 z96 f96 q96
            obtain ⟨ti96, hn96, am96, gx96⟩ := q96
            refine Z_fr (fun frR => ?_)
            refine Z_ok (fun okG => ?_)
            have fq := fin_r (by omega) (by omega) (hdl_t db (hdl_a af93 (by decide))) (fun j hj => (congrFun (f93 44 (by decide)).2 j).trans (vo83 j (by omega))) yo ti96 okG gx96
            clear yo
            refine Z_iret dX4_combine_99 rfl ?_
            exact ⟨RI_gets hr ok0 (hdl_t db (hdl_a af93 (by decide))) (fun q => by omega) frR ti96 hn96 gx96, by omega, Or.inr (Or.inr (Or.inr ⟨by omega, by omega, by omega, by omega, by omega, fq⟩))⟩
          · refine Z_iload (n := 79) dX4_combine_77 rfl rfl ?_
            refine Z_goto (t := 83) dX4_combine_79 (by decide) ?_
            refine Z_callVv (n := 86) [_, _, _, _] _ dX4_combine_83 rfl cwX4_204 rfl rfl rfl (Nat.le_of_ble_eq_true rfl) (by refine ⟨?_, ?_, ?_, ?_⟩ <;> exact Nat.le_of_ble_eq_true rfl) (fun a h => by unfold kRg at h; unfold kBits; omega) (zX4_makeOf_f  (by omega) (by omega) (by omega) (by omega) (by omega) (by omega)) ?_
            intro M83 J83 f83 q83
            obtain ⟨e83_1, vb83, vo83⟩ := q83
            replace e83_1 := e83_1.symm; subst e83_1
            refine Z_aload_n (n := 87) dX4_combine_86 rfl rfl ?_
            refine Z_iload_n (n := 88) dX4_combine_87 rfl rfl ?_
            refine Z_bipush (n := 90) dX4_combine_88 rfl (by decide) (by decide) ?_
            refine Z_aload_n (n := 91) dX4_combine_90 rfl rfl ?_
            refine Z_bipush (n := 93) dX4_combine_91 rfl (by decide) (by decide) ?_
            refine Z_callVi (n := 96) [_] _ dX4_combine_93 rfl cwX4_207 rfl rfl rfl (Nat.le_of_ble_eq_true rfl) (by refine ⟨?_, ?_, ?_, ?_⟩ <;> exact Nat.le_of_ble_eq_true rfl) (fun a h => by unfold kRg at h; unfold kAd; omega) (zX4_steps  (by omega) (by omega) (by exact TI_bits tb (hb 55 (by decide) (by decide)) (f83 48 (by decide)).2 vo83) (by exact hb 55 (by decide) (by decide)) (by omega) (by omega)) ?_
            intro x93 M93 J93 z93 f93 q93
            obtain ⟨ti93, ah93, am93, au93, af93, xs93⟩ := q93
            refine Z_ok (fun okS => ?_)
            have hF : phi J83 55 = (fun r => tbl (tabF k) (if k < 3 then 0 else phi J f r) (if k ≤ 3 then 0 else phi J g r) 0) := by
              refine (phi_of (by omega) (by omega) vb83).trans ?_
              first
                | rfl
                | (funext r; simp only [if_pos (show k < 3 by omega), if_pos (show k ≤ 3 by omega)])
                | (funext r; simp only [if_neg (show ¬ k < 3 by omega), if_pos (show k ≤ 3 by omega)])
                | (exfalso; omega)
            have hL : ∀ y, (LBr M55 J83 y ∨ laid (phi J83 55) y) ↔ ((LBr M J y ∨ E0 y) ∨ laid (phi J83 55) y) := fun y => (or_congr ((lbr_b (hb 55 (by decide) (by decide)) vo83 y).trans (lbr_c (oB 43 (by decide)) y)) Iff.rfl).trans or_E0
            obtain ⟨so, -⟩ := st_ok (E := E0) (by decide) (by decide) ti93 okS ah93 af93 (f93 44 (by decide)).2 e8 hL xs93
            rw [hF] at so
            have yo : (x93 = 1 ∧ okR M J E0 (fun r => tbl (tabF k) (if k < 3 then 0 else phi J f r) (if k ≤ 3 then 0 else phi J g r) 0) ∧ phi J93 55 = (fun r => tbl (tabF k) (if k < 3 then 0 else phi J f r) (if k ≤ 3 then 0 else phi J g r) 0)) ∨ (x93 = 0 ∧ ¬ okR M J E0 (fun r => tbl (tabF k) (if k < 3 then 0 else phi J f r) (if k ≤ 3 then 0 else phi J g r) 0)) := so.imp_left (fun q => ⟨q.1, q.2, (phi_cg (fun k _ _ => by rw [(f93 44 (by decide)).2])).trans hF⟩)
            clear so hL
            refine Z_rg 31 8 rfl (fun gs8 gs8b => ?_)
            refine Z_callVi (n := 99) [_, _, _] _ dX4_combine_96 rfl cwX4_219 rfl rfl rfl (Nat.le_of_ble_eq_true rfl) (by refine ⟨?_, ?_, ?_, ?_⟩ <;> exact Nat.le_of_ble_eq_true rfl) (fun a h => by unfold kRg at h; unfold kTk; omega) (zX4_gets  (by omega) (by omega) (by omega) (by omega) (by omega) (by exact ti93) (by exact fun q => ⟨ah93, by omega⟩) (by omega)) ?_
            intro x96 M96 J96 z96 f96 q96
            obtain ⟨ti96, hn96, am96, gx96⟩ := q96
            refine Z_fr (fun frR => ?_)
            refine Z_ok (fun okG => ?_)
            have fq := fin_r (by omega) (by omega) (hdl_t db (hdl_a af93 (by decide))) (fun j hj => (congrFun (f93 44 (by decide)).2 j).trans (vo83 j (by omega))) yo ti96 okG gx96
            clear yo
            refine Z_iret dX4_combine_99 rfl ?_
            exact ⟨RI_gets hr ok0 (hdl_t db (hdl_a af93 (by decide))) (fun q => by omega) frR ti96 hn96 gx96, by omega, Or.inr (Or.inr (Or.inr ⟨by omega, by omega, by omega, by omega, by omega, fq⟩))⟩
      · refine Z_bipush (n := 53) dX4_combine_51 rfl (by decide) (by decide) ?_
        refine Z_iret dX4_combine_53 rfl ?_
        first
          | exact ⟨hr, by omega, Or.inr (Or.inl ⟨by omega, by omega, by omega, rfl, rfl, rfl⟩)⟩
          | (exfalso; omega)
    · refine Z_aload_n (n := 18) dX4_combine_17 rfl rfl ?_
      refine Z_iload_n (n := 19) dX4_combine_18 rfl rfl ?_
      refine Z_callVi (n := 22) [_] _ dX4_combine_19 rfl cwX4_223 rfl rfl rfl (Nat.le_of_ble_eq_true rfl) (by refine ⟨?_, ?_, ?_, ?_⟩ <;> exact Nat.le_of_ble_eq_true rfl) (fun _ _ => trivial) (zX4_isFunction  ) ?_
      intro x19 M19 J19 z19 f19 q19
      obtain ⟨e19_1, e19_2, h19⟩ := q19
      replace e19_1 := e19_1.symm; subst e19_1
      replace e19_2 := e19_2.symm; subst e19_2
      refine Z_if_eq (n := 25) (t := 39) dX4_combine_22 rfl (by decide) (fun c22 => ?_) (fun c22 => ?_)
      · refine Z_iconst (n := 40) dX4_combine_39 rfl (by decide) ?_
        refine Z_iret dX4_combine_40 rfl ?_
        first
          | exact ⟨hr, by omega, Or.inl ⟨by omega, rfl, rfl, rfl⟩⟩
          | exact ⟨hr, by omega, Or.inr (Or.inr (Or.inl ⟨by omega, by omega, by omega, by omega, by omega, rfl, rfl, rfl⟩))⟩
          | (exfalso; omega)
      · refine Z_iload_n (n := 26) dX4_combine_25 rfl rfl ?_
        refine Z_iconst (n := 27) dX4_combine_26 rfl (by decide) ?_
        refine Z_icmp_eq (n := 30) (t := 41) dX4_combine_27 rfl (by decide) (fun c27 => ?_) (fun c27 => ?_)
        · refine Z_iload_n (n := 42) dX4_combine_41 rfl rfl ?_
          refine Z_iconst (n := 43) dX4_combine_42 rfl (by decide) ?_
          refine Z_bipush (n := 45) dX4_combine_43 rfl (by decide) (by decide) ?_
          refine Z_callSi (n := 48) [_, _, _] _ dX4_combine_45 rfl cwX4_112 rfl rfl (Nat.le_of_ble_eq_true rfl) (by refine ⟨?_, ?_, ?_, ?_⟩ <;> exact Nat.le_of_ble_eq_true rfl) (fun _ _ => trivial) (zX4_in  ) ?_
          intro x45 M45 J45 z45 f45 q45
          obtain ⟨e45_1, e45_2, h45⟩ := q45
          replace e45_1 := e45_1.symm; subst e45_1
          replace e45_2 := e45_2.symm; subst e45_2
          refine Z_if_ne (n := 51) (t := 54) dX4_combine_48 rfl (by decide) (fun c48 => ?_) (fun c48 => ?_)
          · refine Z_aload_n (n := 55) dX4_combine_54 rfl rfl ?_
            refine Z_callVv (n := 58) [] _ dX4_combine_55 rfl cwX4_213 rfl rfl rfl (Nat.le_of_ble_eq_true rfl) (by refine ⟨?_, ?_, ?_, ?_⟩ <;> exact Nat.le_of_ble_eq_true rfl) (fun _ h => h) (zX4_begin  (by decide)) ?_
            intro M55 J55 f55 q55
            obtain ⟨e55_1, e55_2⟩ := q55
            replace e55_1 := e55_1.symm; subst e55_1
            replace e55_2 := e55_2.symm; subst e55_2
            obtain ⟨tb, hb, ub, mb, db, ob⟩ := begin_ok hr
            refine Z_nm (fun M55 e55 => ?_)
            rw [← e55] at tb hb ub mb db ob
            have oB : ∀ a : Nat, ¬ a = 31 → M55 a = M a := fun a ha => by rw [e55]; exact uz_o ha
            have e8 : M55 31 8 = M 31 8 := by rw [e55]; exact uz_n (by decide)
            clear e55
            refine Z_rg 31 8 rfl (fun gb8 gb8b => ?_)
            have gd : 0 ≤ h ∧ h < 12 ∧ 0 < k ∧ k ≤ 9 ∧ (k < 3 ∨ (0 ≤ f ∧ f < 12 ∧ ¬ M 43 f = 0)) ∧ (k ≤ 3 ∨ (0 ≤ g ∧ g < 12 ∧ ¬ M 43 g = 0)) := by omega
            try clear c4
            try clear c14
            try clear c22
            try clear c27
            try clear c36
            try clear c48
            try clear h1
            try clear h11
            try clear h19
            try clear h33
            try clear h45
            refine Z_aload_n (n := 59) dX4_combine_58 rfl rfl ?_
            refine Z_bipush (n := 61) dX4_combine_59 rfl (by decide) (by decide) ?_
            refine Z_iload_n (n := 62) dX4_combine_61 rfl rfl ?_
            refine Z_iload_n (n := 63) dX4_combine_62 rfl rfl ?_
            refine Z_iconst (n := 64) dX4_combine_63 rfl (by decide) ?_
            refine Z_icmp_le (n := 67) (t := 71) dX4_combine_64 rfl (by decide) (fun c64 => ?_) (fun c64 => ?_)
            · refine Z_iconst (n := 72) dX4_combine_71 rfl (by decide) ?_
              refine Z_iload_n (n := 73) dX4_combine_72 rfl rfl ?_
              refine Z_iconst (n := 74) dX4_combine_73 rfl (by decide) ?_
              refine Z_icmp_le (n := 77) (t := 82) dX4_combine_74 rfl (by decide) (fun c74 => ?_) (fun c74 => ?_)
              · refine Z_iconst (n := 83) dX4_combine_82 rfl (by decide) ?_
                refine Z_callVv (n := 86) [_, _, _, _] _ dX4_combine_83 rfl cwX4_204 rfl rfl rfl (Nat.le_of_ble_eq_true rfl) (by refine ⟨?_, ?_, ?_, ?_⟩ <;> exact Nat.le_of_ble_eq_true rfl) (fun a h => by unfold kRg at h; unfold kBits; omega) (zX4_makeOf_f  (by omega) (by omega) (by omega) (by omega) (by omega) (by omega)) ?_
                intro M83 J83 f83 q83
                obtain ⟨e83_1, vb83, vo83⟩ := q83
                replace e83_1 := e83_1.symm; subst e83_1
                refine Z_aload_n (n := 87) dX4_combine_86 rfl rfl ?_
                refine Z_iload_n (n := 88) dX4_combine_87 rfl rfl ?_
                refine Z_bipush (n := 90) dX4_combine_88 rfl (by decide) (by decide) ?_
                refine Z_aload_n (n := 91) dX4_combine_90 rfl rfl ?_
                refine Z_bipush (n := 93) dX4_combine_91 rfl (by decide) (by decide) ?_
                refine Z_callVi (n := 96) [_] _ dX4_combine_93 rfl cwX4_207 rfl rfl rfl (Nat.le_of_ble_eq_true rfl) (by refine ⟨?_, ?_, ?_, ?_⟩ <;> exact Nat.le_of_ble_eq_true rfl) (fun a h => by unfold kRg at h; unfold kAd; omega) (zX4_steps  (by omega) (by omega) (by exact TI_bits tb (hb 55 (by decide) (by decide)) (f83 48 (by decide)).2 vo83) (by exact hb 55 (by decide) (by decide)) (by omega) (by omega)) ?_
                intro x93 M93 J93 z93 f93 q93
                obtain ⟨ti93, ah93, am93, au93, af93, xs93⟩ := q93
                refine Z_ok (fun okS => ?_)
                have hF : phi J83 55 = (fun r => tbl (tabF k) (if k < 3 then 0 else phi J f r) (if k ≤ 3 then 0 else phi J g r) 0) := by
                  refine (phi_of (by omega) (by omega) vb83).trans ?_
                  first
                    | rfl
                    | (funext r; simp only [if_pos (show k < 3 by omega), if_pos (show k ≤ 3 by omega)])
                    | (funext r; simp only [if_neg (show ¬ k < 3 by omega), if_pos (show k ≤ 3 by omega)])
                    | (exfalso; omega)
                have hL : ∀ y, (LBr M55 J83 y ∨ laid (phi J83 55) y) ↔ ((LBr M J y ∨ E0 y) ∨ laid (phi J83 55) y) := fun y => (or_congr ((lbr_b (hb 55 (by decide) (by decide)) vo83 y).trans (lbr_c (oB 43 (by decide)) y)) Iff.rfl).trans or_E0
                obtain ⟨so, -⟩ := st_ok (E := E0) (by decide) (by decide) ti93 okS ah93 af93 (f93 44 (by decide)).2 e8 hL xs93
                rw [hF] at so
                have yo : (x93 = 1 ∧ okR M J E0 (fun r => tbl (tabF k) (if k < 3 then 0 else phi J f r) (if k ≤ 3 then 0 else phi J g r) 0) ∧ phi J93 55 = (fun r => tbl (tabF k) (if k < 3 then 0 else phi J f r) (if k ≤ 3 then 0 else phi J g r) 0)) ∨ (x93 = 0 ∧ ¬ okR M J E0 (fun r => tbl (tabF k) (if k < 3 then 0 else phi J f r) (if k ≤ 3 then 0 else phi J g r) 0)) := so.imp_left (fun q => ⟨q.1, q.2, (phi_cg (fun k _ _ => by rw [(f93 44 (by decide)).2])).trans hF⟩)
                clear so hL
                refine Z_rg 31 8 rfl (fun gs8 gs8b => ?_)
                refine Z_callVi (n := 99) [_, _, _] _ dX4_combine_96 rfl cwX4_219 rfl rfl rfl (Nat.le_of_ble_eq_true rfl) (by refine ⟨?_, ?_, ?_, ?_⟩ <;> exact Nat.le_of_ble_eq_true rfl) (fun a h => by unfold kRg at h; unfold kTk; omega) (zX4_gets  (by omega) (by omega) (by omega) (by omega) (by omega) (by exact ti93) (by exact fun q => ⟨ah93, by omega⟩) (by omega)) ?_
                intro x96 M96 J96 z96 f96 q96
                obtain ⟨ti96, hn96, am96, gx96⟩ := q96
                refine Z_fr (fun frR => ?_)
                refine Z_ok (fun okG => ?_)
                have fq := fin_r (by omega) (by omega) (hdl_t db (hdl_a af93 (by decide))) (fun j hj => (congrFun (f93 44 (by decide)).2 j).trans (vo83 j (by omega))) yo ti96 okG gx96
                clear yo
                refine Z_iret dX4_combine_99 rfl ?_
                exact ⟨RI_gets hr ok0 (hdl_t db (hdl_a af93 (by decide))) (fun q => by omega) frR ti96 hn96 gx96, by omega, Or.inr (Or.inr (Or.inr ⟨by omega, by omega, by omega, by omega, by omega, fq⟩))⟩
              · refine Z_iload (n := 79) dX4_combine_77 rfl rfl ?_
                refine Z_goto (t := 83) dX4_combine_79 (by decide) ?_
                refine Z_callVv (n := 86) [_, _, _, _] _ dX4_combine_83 rfl cwX4_204 rfl rfl rfl (Nat.le_of_ble_eq_true rfl) (by refine ⟨?_, ?_, ?_, ?_⟩ <;> exact Nat.le_of_ble_eq_true rfl) (fun a h => by unfold kRg at h; unfold kBits; omega) (zX4_makeOf_f  (by omega) (by omega) (by omega) (by omega) (by omega) (by omega)) ?_
                intro M83 J83 f83 q83
                obtain ⟨e83_1, vb83, vo83⟩ := q83
                replace e83_1 := e83_1.symm; subst e83_1
                refine Z_aload_n (n := 87) dX4_combine_86 rfl rfl ?_
                refine Z_iload_n (n := 88) dX4_combine_87 rfl rfl ?_
                refine Z_bipush (n := 90) dX4_combine_88 rfl (by decide) (by decide) ?_
                refine Z_aload_n (n := 91) dX4_combine_90 rfl rfl ?_
                refine Z_bipush (n := 93) dX4_combine_91 rfl (by decide) (by decide) ?_
                refine Z_callVi (n := 96) [_] _ dX4_combine_93 rfl cwX4_207 rfl rfl rfl (Nat.le_of_ble_eq_true rfl) (by refine ⟨?_, ?_, ?_, ?_⟩ <;> exact Nat.le_of_ble_eq_true rfl) (fun a h => by unfold kRg at h; unfold kAd; omega) (zX4_steps  (by omega) (by omega) (by exact TI_bits tb (hb 55 (by decide) (by decide)) (f83 48 (by decide)).2 vo83) (by exact hb 55 (by decide) (by decide)) (by omega) (by omega)) ?_
                intro x93 M93 J93 z93 f93 q93
                obtain ⟨ti93, ah93, am93, au93, af93, xs93⟩ := q93
                refine Z_ok (fun okS => ?_)
                have hF : phi J83 55 = (fun r => tbl (tabF k) (if k < 3 then 0 else phi J f r) (if k ≤ 3 then 0 else phi J g r) 0) := by
                  refine (phi_of (by omega) (by omega) vb83).trans ?_
                  first
                    | rfl
                    | (funext r; simp only [if_pos (show k < 3 by omega), if_pos (show k ≤ 3 by omega)])
                    | (funext r; simp only [if_neg (show ¬ k < 3 by omega), if_pos (show k ≤ 3 by omega)])
                    | (exfalso; omega)
                have hL : ∀ y, (LBr M55 J83 y ∨ laid (phi J83 55) y) ↔ ((LBr M J y ∨ E0 y) ∨ laid (phi J83 55) y) := fun y => (or_congr ((lbr_b (hb 55 (by decide) (by decide)) vo83 y).trans (lbr_c (oB 43 (by decide)) y)) Iff.rfl).trans or_E0
                obtain ⟨so, -⟩ := st_ok (E := E0) (by decide) (by decide) ti93 okS ah93 af93 (f93 44 (by decide)).2 e8 hL xs93
                rw [hF] at so
                have yo : (x93 = 1 ∧ okR M J E0 (fun r => tbl (tabF k) (if k < 3 then 0 else phi J f r) (if k ≤ 3 then 0 else phi J g r) 0) ∧ phi J93 55 = (fun r => tbl (tabF k) (if k < 3 then 0 else phi J f r) (if k ≤ 3 then 0 else phi J g r) 0)) ∨ (x93 = 0 ∧ ¬ okR M J E0 (fun r => tbl (tabF k) (if k < 3 then 0 else phi J f r) (if k ≤ 3 then 0 else phi J g r) 0)) := so.imp_left (fun q => ⟨q.1, q.2, (phi_cg (fun k _ _ => by rw [(f93 44 (by decide)).2])).trans hF⟩)
                clear so hL
                refine Z_rg 31 8 rfl (fun gs8 gs8b => ?_)
                refine Z_callVi (n := 99) [_, _, _] _ dX4_combine_96 rfl cwX4_219 rfl rfl rfl (Nat.le_of_ble_eq_true rfl) (by refine ⟨?_, ?_, ?_, ?_⟩ <;> exact Nat.le_of_ble_eq_true rfl) (fun a h => by unfold kRg at h; unfold kTk; omega) (zX4_gets  (by omega) (by omega) (by omega) (by omega) (by omega) (by exact ti93) (by exact fun q => ⟨ah93, by omega⟩) (by omega)) ?_
                intro x96 M96 J96 z96 f96 q96
                obtain ⟨ti96, hn96, am96, gx96⟩ := q96
                refine Z_fr (fun frR => ?_)
                refine Z_ok (fun okG => ?_)
                have fq := fin_r (by omega) (by omega) (hdl_t db (hdl_a af93 (by decide))) (fun j hj => (congrFun (f93 44 (by decide)).2 j).trans (vo83 j (by omega))) yo ti96 okG gx96
                clear yo
                refine Z_iret dX4_combine_99 rfl ?_
                exact ⟨RI_gets hr ok0 (hdl_t db (hdl_a af93 (by decide))) (fun q => by omega) frR ti96 hn96 gx96, by omega, Or.inr (Or.inr (Or.inr ⟨by omega, by omega, by omega, by omega, by omega, fq⟩))⟩
            · refine Z_iload_n (n := 68) dX4_combine_67 rfl rfl ?_
              refine Z_goto (t := 72) dX4_combine_68 (by decide) ?_
              refine Z_iload_n (n := 73) dX4_combine_72 rfl rfl ?_
              refine Z_iconst (n := 74) dX4_combine_73 rfl (by decide) ?_
              refine Z_icmp_le (n := 77) (t := 82) dX4_combine_74 rfl (by decide) (fun c74 => ?_) (fun c74 => ?_)
              · refine Z_iconst (n := 83) dX4_combine_82 rfl (by decide) ?_
                refine Z_callVv (n := 86) [_, _, _, _] _ dX4_combine_83 rfl cwX4_204 rfl rfl rfl (Nat.le_of_ble_eq_true rfl) (by refine ⟨?_, ?_, ?_, ?_⟩ <;> exact Nat.le_of_ble_eq_true rfl) (fun a h => by unfold kRg at h; unfold kBits; omega) (zX4_makeOf_f  (by omega) (by omega) (by omega) (by omega) (by omega) (by omega)) ?_
                intro M83 J83 f83 q83
                obtain ⟨e83_1, vb83, vo83⟩ := q83
                replace e83_1 := e83_1.symm; subst e83_1
                refine Z_aload_n (n := 87) dX4_combine_86 rfl rfl ?_
                refine Z_iload_n (n := 88) dX4_combine_87 rfl rfl ?_
                refine Z_bipush (n := 90) dX4_combine_88 rfl (by decide) (by decide) ?_
                refine Z_aload_n (n := 91) dX4_combine_90 rfl rfl ?_
                refine Z_bipush (n := 93) dX4_combine_91 rfl (by decide) (by decide) ?_
                refine Z_callVi (n := 96) [_] _ dX4_combine_93 rfl cwX4_207 rfl rfl rfl (Nat.le_of_ble_eq_true rfl) (by refine ⟨?_, ?_, ?_, ?_⟩ <;> exact Nat.le_of_ble_eq_true rfl) (fun a h => by unfold kRg at h; unfold kAd; omega) (zX4_steps  (by omega) (by omega) (by exact TI_bits tb (hb 55 (by decide) (by decide)) (f83 48 (by decide)).2 vo83) (by exact hb 55 (by decide) (by decide)) (by omega) (by omega)) ?_
                intro x93 M93 J93 z93 f93 q93
                obtain ⟨ti93, ah93, am93, au93, af93, xs93⟩ := q93
                refine Z_ok (fun okS => ?_)
                have hF : phi J83 55 = (fun r => tbl (tabF k) (if k < 3 then 0 else phi J f r) (if k ≤ 3 then 0 else phi J g r) 0) := by
                  refine (phi_of (by omega) (by omega) vb83).trans ?_
                  first
                    | rfl
                    | (funext r; simp only [if_pos (show k < 3 by omega), if_pos (show k ≤ 3 by omega)])
                    | (funext r; simp only [if_neg (show ¬ k < 3 by omega), if_pos (show k ≤ 3 by omega)])
                    | (exfalso; omega)
                have hL : ∀ y, (LBr M55 J83 y ∨ laid (phi J83 55) y) ↔ ((LBr M J y ∨ E0 y) ∨ laid (phi J83 55) y) := fun y => (or_congr ((lbr_b (hb 55 (by decide) (by decide)) vo83 y).trans (lbr_c (oB 43 (by decide)) y)) Iff.rfl).trans or_E0
                obtain ⟨so, -⟩ := st_ok (E := E0) (by decide) (by decide) ti93 okS ah93 af93 (f93 44 (by decide)).2 e8 hL xs93
                rw [hF] at so
                have yo : (x93 = 1 ∧ okR M J E0 (fun r => tbl (tabF k) (if k < 3 then 0 else phi J f r) (if k ≤ 3 then 0 else phi J g r) 0) ∧ phi J93 55 = (fun r => tbl (tabF k) (if k < 3 then 0 else phi J f r) (if k ≤ 3 then 0 else phi J g r) 0)) ∨ (x93 = 0 ∧ ¬ okR M J E0 (fun r => tbl (tabF k) (if k < 3 then 0 else phi J f r) (if k ≤ 3 then 0 else phi J g r) 0)) := so.imp_left (fun q => ⟨q.1, q.2, (phi_cg (fun k _ _ => by rw [(f93 44 (by decide)).2])).trans hF⟩)
                clear so hL
                refine Z_rg 31 8 rfl (fun gs8 gs8b => ?_)
                refine Z_callVi (n := 99) [_, _, _] _ dX4_combine_96 rfl cwX4_219 rfl rfl rfl (Nat.le_of_ble_eq_true rfl) (by refine ⟨?_, ?_, ?_, ?_⟩ <;> exact Nat.le_of_ble_eq_true rfl) (fun a h => by unfold kRg at h; unfold kTk; omega) (zX4_gets  (by omega) (by omega) (by omega) (by omega) (by omega) (by exact ti93) (by exact fun q => ⟨ah93, by omega⟩) (by omega)) ?_
                intro x96 M96 J96 z96 f96 q96
                obtain ⟨ti96, hn96, am96, gx96⟩ := q96
                refine Z_fr (fun frR => ?_)
                refine Z_ok (fun okG => ?_)
                have fq := fin_r (by omega) (by omega) (hdl_t db (hdl_a af93 (by decide))) (fun j hj => (congrFun (f93 44 (by decide)).2 j).trans (vo83 j (by omega))) yo ti96 okG gx96
                clear yo
                refine Z_iret dX4_combine_99 rfl ?_
                exact ⟨RI_gets hr ok0 (hdl_t db (hdl_a af93 (by decide))) (fun q => by omega) frR ti96 hn96 gx96, by omega, Or.inr (Or.inr (Or.inr ⟨by omega, by omega, by omega, by omega, by omega, fq⟩))⟩
              · refine Z_iload (n := 79) dX4_combine_77 rfl rfl ?_
                refine Z_goto (t := 83) dX4_combine_79 (by decide) ?_
                refine Z_callVv (n := 86) [_, _, _, _] _ dX4_combine_83 rfl cwX4_204 rfl rfl rfl (Nat.le_of_ble_eq_true rfl) (by refine ⟨?_, ?_, ?_, ?_⟩ <;> exact Nat.le_of_ble_eq_true rfl) (fun a h => by unfold kRg at h; unfold kBits; omega) (zX4_makeOf_f  (by omega) (by omega) (by omega) (by omega) (by omega) (by omega)) ?_
                intro M83 J83 f83 q83
                obtain ⟨e83_1, vb83, vo83⟩ := q83
                replace e83_1 := e83_1.symm; subst e83_1
                refine Z_aload_n (n := 87) dX4_combine_86 rfl rfl ?_
                refine Z_iload_n (n := 88) dX4_combine_87 rfl rfl ?_
                refine Z_bipush (n := 90) dX4_combine_88 rfl (by decide) (by decide) ?_
                refine Z_aload_n (n := 91) dX4_combine_90 rfl rfl ?_
                refine Z_bipush (n := 93) dX4_combine_91 rfl (by decide) (by decide) ?_
                refine Z_callVi (n := 96) [_] _ dX4_combine_93 rfl cwX4_207 rfl rfl rfl (Nat.le_of_ble_eq_true rfl) (by refine ⟨?_, ?_, ?_, ?_⟩ <;> exact Nat.le_of_ble_eq_true rfl) (fun a h => by unfold kRg at h; unfold kAd; omega) (zX4_steps  (by omega) (by omega) (by exact TI_bits tb (hb 55 (by decide) (by decide)) (f83 48 (by decide)).2 vo83) (by exact hb 55 (by decide) (by decide)) (by omega) (by omega)) ?_
                intro x93 M93 J93 z93 f93 q93
                obtain ⟨ti93, ah93, am93, au93, af93, xs93⟩ := q93
                refine Z_ok (fun okS => ?_)
                have hF : phi J83 55 = (fun r => tbl (tabF k) (if k < 3 then 0 else phi J f r) (if k ≤ 3 then 0 else phi J g r) 0) := by
                  refine (phi_of (by omega) (by omega) vb83).trans ?_
                  first
                    | rfl
                    | (funext r; simp only [if_pos (show k < 3 by omega), if_pos (show k ≤ 3 by omega)])
                    | (funext r; simp only [if_neg (show ¬ k < 3 by omega), if_pos (show k ≤ 3 by omega)])
                    | (exfalso; omega)
                have hL : ∀ y, (LBr M55 J83 y ∨ laid (phi J83 55) y) ↔ ((LBr M J y ∨ E0 y) ∨ laid (phi J83 55) y) := fun y => (or_congr ((lbr_b (hb 55 (by decide) (by decide)) vo83 y).trans (lbr_c (oB 43 (by decide)) y)) Iff.rfl).trans or_E0
                obtain ⟨so, -⟩ := st_ok (E := E0) (by decide) (by decide) ti93 okS ah93 af93 (f93 44 (by decide)).2 e8 hL xs93
                rw [hF] at so
                have yo : (x93 = 1 ∧ okR M J E0 (fun r => tbl (tabF k) (if k < 3 then 0 else phi J f r) (if k ≤ 3 then 0 else phi J g r) 0) ∧ phi J93 55 = (fun r => tbl (tabF k) (if k < 3 then 0 else phi J f r) (if k ≤ 3 then 0 else phi J g r) 0)) ∨ (x93 = 0 ∧ ¬ okR M J E0 (fun r => tbl (tabF k) (if k < 3 then 0 else phi J f r) (if k ≤ 3 then 0 else phi J g r) 0)) := so.imp_left (fun q => ⟨q.1, q.2, (phi_cg (fun k _ _ => by rw [(f93 44 (by decide)).2])).trans hF⟩)
                clear so hL
                refine Z_rg 31 8 rfl (fun gs8 gs8b => ?_)
                refine Z_callVi (n := 99) [_, _, _] _ dX4_combine_96 rfl cwX4_219 rfl rfl rfl (Nat.le_of_ble_eq_true rfl) (by refine ⟨?_, ?_, ?_, ?_⟩ <;> exact Nat.le_of_ble_eq_true rfl) (fun a h => by unfold kRg at h; unfold kTk; omega) (zX4_gets  (by omega) (by omega) (by omega) (by omega) (by omega) (by exact ti93) (by exact fun q => ⟨ah93, by omega⟩) (by omega)) ?_
                intro x96 M96 J96 z96 f96 q96
                obtain ⟨ti96, hn96, am96, gx96⟩ := q96
                refine Z_fr (fun frR => ?_)
                refine Z_ok (fun okG => ?_)
                have fq := fin_r (by omega) (by omega) (hdl_t db (hdl_a af93 (by decide))) (fun j hj => (congrFun (f93 44 (by decide)).2 j).trans (vo83 j (by omega))) yo ti96 okG gx96
                clear yo
                refine Z_iret dX4_combine_99 rfl ?_
                exact ⟨RI_gets hr ok0 (hdl_t db (hdl_a af93 (by decide))) (fun q => by omega) frR ti96 hn96 gx96, by omega, Or.inr (Or.inr (Or.inr ⟨by omega, by omega, by omega, by omega, by omega, fq⟩))⟩
          · refine Z_bipush (n := 53) dX4_combine_51 rfl (by decide) (by decide) ?_
            refine Z_iret dX4_combine_53 rfl ?_
            first
              | exact ⟨hr, by omega, Or.inr (Or.inl ⟨by omega, by omega, by omega, rfl, rfl, rfl⟩)⟩
              | (exfalso; omega)
        · refine Z_aload_n (n := 31) dX4_combine_30 rfl rfl ?_
          refine Z_iload (n := 33) dX4_combine_31 rfl rfl ?_
          refine Z_callVi (n := 36) [_] _ dX4_combine_33 rfl cwX4_223 rfl rfl rfl (Nat.le_of_ble_eq_true rfl) (by refine ⟨?_, ?_, ?_, ?_⟩ <;> exact Nat.le_of_ble_eq_true rfl) (fun _ _ => trivial) (zX4_isFunction  ) ?_
          intro x33 M33 J33 z33 f33 q33
          obtain ⟨e33_1, e33_2, h33⟩ := q33
          replace e33_1 := e33_1.symm; subst e33_1
          replace e33_2 := e33_2.symm; subst e33_2
          refine Z_if_ne (n := 39) (t := 41) dX4_combine_36 rfl (by decide) (fun c36 => ?_) (fun c36 => ?_)
          · refine Z_iload_n (n := 42) dX4_combine_41 rfl rfl ?_
            refine Z_iconst (n := 43) dX4_combine_42 rfl (by decide) ?_
            refine Z_bipush (n := 45) dX4_combine_43 rfl (by decide) (by decide) ?_
            refine Z_callSi (n := 48) [_, _, _] _ dX4_combine_45 rfl cwX4_112 rfl rfl (Nat.le_of_ble_eq_true rfl) (by refine ⟨?_, ?_, ?_, ?_⟩ <;> exact Nat.le_of_ble_eq_true rfl) (fun _ _ => trivial) (zX4_in  ) ?_
            intro x45 M45 J45 z45 f45 q45
            obtain ⟨e45_1, e45_2, h45⟩ := q45
            replace e45_1 := e45_1.symm; subst e45_1
            replace e45_2 := e45_2.symm; subst e45_2
            refine Z_if_ne (n := 51) (t := 54) dX4_combine_48 rfl (by decide) (fun c48 => ?_) (fun c48 => ?_)
            · refine Z_aload_n (n := 55) dX4_combine_54 rfl rfl ?_
              refine Z_callVv (n := 58) [] _ dX4_combine_55 rfl cwX4_213 rfl rfl rfl (Nat.le_of_ble_eq_true rfl) (by refine ⟨?_, ?_, ?_, ?_⟩ <;> exact Nat.le_of_ble_eq_true rfl) (fun _ h => h) (zX4_begin  (by decide)) ?_
              intro M55 J55 f55 q55
              obtain ⟨e55_1, e55_2⟩ := q55
              replace e55_1 := e55_1.symm; subst e55_1
              replace e55_2 := e55_2.symm; subst e55_2
              obtain ⟨tb, hb, ub, mb, db, ob⟩ := begin_ok hr
              refine Z_nm (fun M55 e55 => ?_)
              rw [← e55] at tb hb ub mb db ob
              have oB : ∀ a : Nat, ¬ a = 31 → M55 a = M a := fun a ha => by rw [e55]; exact uz_o ha
              have e8 : M55 31 8 = M 31 8 := by rw [e55]; exact uz_n (by decide)
              clear e55
              refine Z_rg 31 8 rfl (fun gb8 gb8b => ?_)
              have gd : 0 ≤ h ∧ h < 12 ∧ 0 < k ∧ k ≤ 9 ∧ (k < 3 ∨ (0 ≤ f ∧ f < 12 ∧ ¬ M 43 f = 0)) ∧ (k ≤ 3 ∨ (0 ≤ g ∧ g < 12 ∧ ¬ M 43 g = 0)) := by omega
              try clear c4
              try clear c14
              try clear c22
              try clear c27
              try clear c36
              try clear c48
              try clear h1
              try clear h11
              try clear h19
              try clear h33
              try clear h45
              refine Z_aload_n (n := 59) dX4_combine_58 rfl rfl ?_
              refine Z_bipush (n := 61) dX4_combine_59 rfl (by decide) (by decide) ?_
              refine Z_iload_n (n := 62) dX4_combine_61 rfl rfl ?_
              refine Z_iload_n (n := 63) dX4_combine_62 rfl rfl ?_
              refine Z_iconst (n := 64) dX4_combine_63 rfl (by decide) ?_
              refine Z_icmp_le (n := 67) (t := 71) dX4_combine_64 rfl (by decide) (fun c64 => ?_) (fun c64 => ?_)
              · refine Z_iconst (n := 72) dX4_combine_71 rfl (by decide) ?_
                refine Z_iload_n (n := 73) dX4_combine_72 rfl rfl ?_
                refine Z_iconst (n := 74) dX4_combine_73 rfl (by decide) ?_
                refine Z_icmp_le (n := 77) (t := 82) dX4_combine_74 rfl (by decide) (fun c74 => ?_) (fun c74 => ?_)
                · refine Z_iconst (n := 83) dX4_combine_82 rfl (by decide) ?_
                  refine Z_callVv (n := 86) [_, _, _, _] _ dX4_combine_83 rfl cwX4_204 rfl rfl rfl (Nat.le_of_ble_eq_true rfl) (by refine ⟨?_, ?_, ?_, ?_⟩ <;> exact Nat.le_of_ble_eq_true rfl) (fun a h => by unfold kRg at h; unfold kBits; omega) (zX4_makeOf_f  (by omega) (by omega) (by omega) (by omega) (by omega) (by omega)) ?_
                  intro M83 J83 f83 q83
                  obtain ⟨e83_1, vb83, vo83⟩ := q83
                  replace e83_1 := e83_1.symm; subst e83_1
                  refine Z_aload_n (n := 87) dX4_combine_86 rfl rfl ?_
                  refine Z_iload_n (n := 88) dX4_combine_87 rfl rfl ?_
                  refine Z_bipush (n := 90) dX4_combine_88 rfl (by decide) (by decide) ?_
                  refine Z_aload_n (n := 91) dX4_combine_90 rfl rfl ?_
                  refine Z_bipush (n := 93) dX4_combine_91 rfl (by decide) (by decide) ?_
                  refine Z_callVi (n := 96) [_] _ dX4_combine_93 rfl cwX4_207 rfl rfl rfl (Nat.le_of_ble_eq_true rfl) (by refine ⟨?_, ?_, ?_, ?_⟩ <;> exact Nat.le_of_ble_eq_true rfl) (fun a h => by unfold kRg at h; unfold kAd; omega) (zX4_steps  (by omega) (by omega) (by exact TI_bits tb (hb 55 (by decide) (by decide)) (f83 48 (by decide)).2 vo83) (by exact hb 55 (by decide) (by decide)) (by omega) (by omega)) ?_
                  intro x93 M93 J93 z93 f93 q93
                  obtain ⟨ti93, ah93, am93, au93, af93, xs93⟩ := q93
                  refine Z_ok (fun okS => ?_)
                  have hF : phi J83 55 = (fun r => tbl (tabF k) (if k < 3 then 0 else phi J f r) (if k ≤ 3 then 0 else phi J g r) 0) := by
                    refine (phi_of (by omega) (by omega) vb83).trans ?_
                    first
                      | rfl
                      | (funext r; simp only [if_pos (show k < 3 by omega), if_pos (show k ≤ 3 by omega)])
                      | (funext r; simp only [if_neg (show ¬ k < 3 by omega), if_pos (show k ≤ 3 by omega)])
                      | (exfalso; omega)
                  have hL : ∀ y, (LBr M55 J83 y ∨ laid (phi J83 55) y) ↔ ((LBr M J y ∨ E0 y) ∨ laid (phi J83 55) y) := fun y => (or_congr ((lbr_b (hb 55 (by decide) (by decide)) vo83 y).trans (lbr_c (oB 43 (by decide)) y)) Iff.rfl).trans or_E0
                  obtain ⟨so, -⟩ := st_ok (E := E0) (by decide) (by decide) ti93 okS ah93 af93 (f93 44 (by decide)).2 e8 hL xs93
                  rw [hF] at so
                  have yo : (x93 = 1 ∧ okR M J E0 (fun r => tbl (tabF k) (if k < 3 then 0 else phi J f r) (if k ≤ 3 then 0 else phi J g r) 0) ∧ phi J93 55 = (fun r => tbl (tabF k) (if k < 3 then 0 else phi J f r) (if k ≤ 3 then 0 else phi J g r) 0)) ∨ (x93 = 0 ∧ ¬ okR M J E0 (fun r => tbl (tabF k) (if k < 3 then 0 else phi J f r) (if k ≤ 3 then 0 else phi J g r) 0)) := so.imp_left (fun q => ⟨q.1, q.2, (phi_cg (fun k _ _ => by rw [(f93 44 (by decide)).2])).trans hF⟩)
                  clear so hL
                  refine Z_rg 31 8 rfl (fun gs8 gs8b => ?_)
                  refine Z_callVi (n := 99) [_, _, _] _ dX4_combine_96 rfl cwX4_219 rfl rfl rfl (Nat.le_of_ble_eq_true rfl) (by refine ⟨?_, ?_, ?_, ?_⟩ <;> exact Nat.le_of_ble_eq_true rfl) (fun a h => by unfold kRg at h; unfold kTk; omega) (zX4_gets  (by omega) (by omega) (by omega) (by omega) (by omega) (by exact ti93) (by exact fun q => ⟨ah93, by omega⟩) (by omega)) ?_
                  intro x96 M96 J96 z96 f96 q96
                  obtain ⟨ti96, hn96, am96, gx96⟩ := q96
                  refine Z_fr (fun frR => ?_)
                  refine Z_ok (fun okG => ?_)
                  have fq := fin_r (by omega) (by omega) (hdl_t db (hdl_a af93 (by decide))) (fun j hj => (congrFun (f93 44 (by decide)).2 j).trans (vo83 j (by omega))) yo ti96 okG gx96
                  clear yo
                  refine Z_iret dX4_combine_99 rfl ?_
                  exact ⟨RI_gets hr ok0 (hdl_t db (hdl_a af93 (by decide))) (fun q => by omega) frR ti96 hn96 gx96, by omega, Or.inr (Or.inr (Or.inr ⟨by omega, by omega, by omega, by omega, by omega, fq⟩))⟩
                · refine Z_iload (n := 79) dX4_combine_77 rfl rfl ?_
                  refine Z_goto (t := 83) dX4_combine_79 (by decide) ?_
                  refine Z_callVv (n := 86) [_, _, _, _] _ dX4_combine_83 rfl cwX4_204 rfl rfl rfl (Nat.le_of_ble_eq_true rfl) (by refine ⟨?_, ?_, ?_, ?_⟩ <;> exact Nat.le_of_ble_eq_true rfl) (fun a h => by unfold kRg at h; unfold kBits; omega) (zX4_makeOf_f  (by omega) (by omega) (by omega) (by omega) (by omega) (by omega)) ?_
                  intro M83 J83 f83 q83
                  obtain ⟨e83_1, vb83, vo83⟩ := q83
                  replace e83_1 := e83_1.symm; subst e83_1
                  refine Z_aload_n (n := 87) dX4_combine_86 rfl rfl ?_
                  refine Z_iload_n (n := 88) dX4_combine_87 rfl rfl ?_
                  refine Z_bipush (n := 90) dX4_combine_88 rfl (by decide) (by decide) ?_
                  refine Z_aload_n (n := 91) dX4_combine_90 rfl rfl ?_
                  refine Z_bipush (n := 93) dX4_combine_91 rfl (by decide) (by decide) ?_
                  refine Z_callVi (n := 96) [_] _ dX4_combine_93 rfl cwX4_207 rfl rfl rfl (Nat.le_of_ble_eq_true rfl) (by refine ⟨?_, ?_, ?_, ?_⟩ <;> exact Nat.le_of_ble_eq_true rfl) (fun a h => by unfold kRg at h; unfold kAd; omega) (zX4_steps  (by omega) (by omega) (by exact TI_bits tb (hb 55 (by decide) (by decide)) (f83 48 (by decide)).2 vo83) (by exact hb 55 (by decide) (by decide)) (by omega) (by omega)) ?_
                  intro x93 M93 J93 z93 f93 q93
                  obtain ⟨ti93, ah93, am93, au93, af93, xs93⟩ := q93
                  refine Z_ok (fun okS => ?_)
                  have hF : phi J83 55 = (fun r => tbl (tabF k) (if k < 3 then 0 else phi J f r) (if k ≤ 3 then 0 else phi J g r) 0) := by
                    refine (phi_of (by omega) (by omega) vb83).trans ?_
                    first
                      | rfl
                      | (funext r; simp only [if_pos (show k < 3 by omega), if_pos (show k ≤ 3 by omega)])
                      | (funext r; simp only [if_neg (show ¬ k < 3 by omega), if_pos (show k ≤ 3 by omega)])
                      | (exfalso; omega)
                  have hL : ∀ y, (LBr M55 J83 y ∨ laid (phi J83 55) y) ↔ ((LBr M J y ∨ E0 y) ∨ laid (phi J83 55) y) := fun y => (or_congr ((lbr_b (hb 55 (by decide) (by decide)) vo83 y).trans (lbr_c (oB 43 (by decide)) y)) Iff.rfl).trans or_E0
                  obtain ⟨so, -⟩ := st_ok (E := E0) (by decide) (by decide) ti93 okS ah93 af93 (f93 44 (by decide)).2 e8 hL xs93
                  rw [hF] at so
                  have yo : (x93 = 1 ∧ okR M J E0 (fun r => tbl (tabF k) (if k < 3 then 0 else phi J f r) (if k ≤ 3 then 0 else phi J g r) 0) ∧ phi J93 55 = (fun r => tbl (tabF k) (if k < 3 then 0 else phi J f r) (if k ≤ 3 then 0 else phi J g r) 0)) ∨ (x93 = 0 ∧ ¬ okR M J E0 (fun r => tbl (tabF k) (if k < 3 then 0 else phi J f r) (if k ≤ 3 then 0 else phi J g r) 0)) := so.imp_left (fun q => ⟨q.1, q.2, (phi_cg (fun k _ _ => by rw [(f93 44 (by decide)).2])).trans hF⟩)
                  clear so hL
                  refine Z_rg 31 8 rfl (fun gs8 gs8b => ?_)
                  refine Z_callVi (n := 99) [_, _, _] _ dX4_combine_96 rfl cwX4_219 rfl rfl rfl (Nat.le_of_ble_eq_true rfl) (by refine ⟨?_, ?_, ?_, ?_⟩ <;> exact Nat.le_of_ble_eq_true rfl) (fun a h => by unfold kRg at h; unfold kTk; omega) (zX4_gets  (by omega) (by omega) (by omega) (by omega) (by omega) (by exact ti93) (by exact fun q => ⟨ah93, by omega⟩) (by omega)) ?_
                  intro x96 M96 J96 z96 f96 q96
                  obtain ⟨ti96, hn96, am96, gx96⟩ := q96
                  refine Z_fr (fun frR => ?_)
                  refine Z_ok (fun okG => ?_)
                  have fq := fin_r (by omega) (by omega) (hdl_t db (hdl_a af93 (by decide))) (fun j hj => (congrFun (f93 44 (by decide)).2 j).trans (vo83 j (by omega))) yo ti96 okG gx96
                  clear yo
                  refine Z_iret dX4_combine_99 rfl ?_
                  exact ⟨RI_gets hr ok0 (hdl_t db (hdl_a af93 (by decide))) (fun q => by omega) frR ti96 hn96 gx96, by omega, Or.inr (Or.inr (Or.inr ⟨by omega, by omega, by omega, by omega, by omega, fq⟩))⟩
              · refine Z_iload_n (n := 68) dX4_combine_67 rfl rfl ?_
                refine Z_goto (t := 72) dX4_combine_68 (by decide) ?_
                refine Z_iload_n (n := 73) dX4_combine_72 rfl rfl ?_
                refine Z_iconst (n := 74) dX4_combine_73 rfl (by decide) ?_
                refine Z_icmp_le (n := 77) (t := 82) dX4_combine_74 rfl (by decide) (fun c74 => ?_) (fun c74 => ?_)
                · refine Z_iconst (n := 83) dX4_combine_82 rfl (by decide) ?_
                  refine Z_callVv (n := 86) [_, _, _, _] _ dX4_combine_83 rfl cwX4_204 rfl rfl rfl (Nat.le_of_ble_eq_true rfl) (by refine ⟨?_, ?_, ?_, ?_⟩ <;> exact Nat.le_of_ble_eq_true rfl) (fun a h => by unfold kRg at h; unfold kBits; omega) (zX4_makeOf_f  (by omega) (by omega) (by omega) (by omega) (by omega) (by omega)) ?_
                  intro M83 J83 f83 q83
                  obtain ⟨e83_1, vb83, vo83⟩ := q83
                  replace e83_1 := e83_1.symm; subst e83_1
                  refine Z_aload_n (n := 87) dX4_combine_86 rfl rfl ?_
                  refine Z_iload_n (n := 88) dX4_combine_87 rfl rfl ?_
                  refine Z_bipush (n := 90) dX4_combine_88 rfl (by decide) (by decide) ?_
                  refine Z_aload_n (n := 91) dX4_combine_90 rfl rfl ?_
                  refine Z_bipush (n := 93) dX4_combine_91 rfl (by decide) (by decide) ?_
                  refine Z_callVi (n := 96) [_] _ dX4_combine_93 rfl cwX4_207 rfl rfl rfl (Nat.le_of_ble_eq_true rfl) (by refine ⟨?_, ?_, ?_, ?_⟩ <;> exact Nat.le_of_ble_eq_true rfl) (fun a h => by unfold kRg at h; unfold kAd; omega) (zX4_steps  (by omega) (by omega) (by exact TI_bits tb (hb 55 (by decide) (by decide)) (f83 48 (by decide)).2 vo83) (by exact hb 55 (by decide) (by decide)) (by omega) (by omega)) ?_
                  intro x93 M93 J93 z93 f93 q93
                  obtain ⟨ti93, ah93, am93, au93, af93, xs93⟩ := q93
                  refine Z_ok (fun okS => ?_)
                  have hF : phi J83 55 = (fun r => tbl (tabF k) (if k < 3 then 0 else phi J f r) (if k ≤ 3 then 0 else phi J g r) 0) := by
                    refine (phi_of (by omega) (by omega) vb83).trans ?_
                    first
                      | rfl
                      | (funext r; simp only [if_pos (show k < 3 by omega), if_pos (show k ≤ 3 by omega)])
                      | (funext r; simp only [if_neg (show ¬ k < 3 by omega), if_pos (show k ≤ 3 by omega)])
                      | (exfalso; omega)
                  have hL : ∀ y, (LBr M55 J83 y ∨ laid (phi J83 55) y) ↔ ((LBr M J y ∨ E0 y) ∨ laid (phi J83 55) y) := fun y => (or_congr ((lbr_b (hb 55 (by decide) (by decide)) vo83 y).trans (lbr_c (oB 43 (by decide)) y)) Iff.rfl).trans or_E0
                  obtain ⟨so, -⟩ := st_ok (E := E0) (by decide) (by decide) ti93 okS ah93 af93 (f93 44 (by decide)).2 e8 hL xs93
                  rw [hF] at so
                  have yo : (x93 = 1 ∧ okR M J E0 (fun r => tbl (tabF k) (if k < 3 then 0 else phi J f r) (if k ≤ 3 then 0 else phi J g r) 0) ∧ phi J93 55 = (fun r => tbl (tabF k) (if k < 3 then 0 else phi J f r) (if k ≤ 3 then 0 else phi J g r) 0)) ∨ (x93 = 0 ∧ ¬ okR M J E0 (fun r => tbl (tabF k) (if k < 3 then 0 else phi J f r) (if k ≤ 3 then 0 else phi J g r) 0)) := so.imp_left (fun q => ⟨q.1, q.2, (phi_cg (fun k _ _ => by rw [(f93 44 (by decide)).2])).trans hF⟩)
                  clear so hL
                  refine Z_rg 31 8 rfl (fun gs8 gs8b => ?_)
                  refine Z_callVi (n := 99) [_, _, _] _ dX4_combine_96 rfl cwX4_219 rfl rfl rfl (Nat.le_of_ble_eq_true rfl) (by refine ⟨?_, ?_, ?_, ?_⟩ <;> exact Nat.le_of_ble_eq_true rfl) (fun a h => by unfold kRg at h; unfold kTk; omega) (zX4_gets  (by omega) (by omega) (by omega) (by omega) (by omega) (by exact ti93) (by exact fun q => ⟨ah93, by omega⟩) (by omega)) ?_
                  intro x96 M96 J96 z96 f96 q96
                  obtain ⟨ti96, hn96, am96, gx96⟩ := q96
                  refine Z_fr (fun frR => ?_)
                  refine Z_ok (fun okG => ?_)
                  have fq := fin_r (by omega) (by omega) (hdl_t db (hdl_a af93 (by decide))) (fun j hj => (congrFun (f93 44 (by decide)).2 j).trans (vo83 j (by omega))) yo ti96 okG gx96
                  clear yo
                  refine Z_iret dX4_combine_99 rfl ?_
                  exact ⟨RI_gets hr ok0 (hdl_t db (hdl_a af93 (by decide))) (fun q => by omega) frR ti96 hn96 gx96, by omega, Or.inr (Or.inr (Or.inr ⟨by omega, by omega, by omega, by omega, by omega, fq⟩))⟩
                · refine Z_iload (n := 79) dX4_combine_77 rfl rfl ?_
                  refine Z_goto (t := 83) dX4_combine_79 (by decide) ?_
                  refine Z_callVv (n := 86) [_, _, _, _] _ dX4_combine_83 rfl cwX4_204 rfl rfl rfl (Nat.le_of_ble_eq_true rfl) (by refine ⟨?_, ?_, ?_, ?_⟩ <;> exact Nat.le_of_ble_eq_true rfl) (fun a h => by unfold kRg at h; unfold kBits; omega) (zX4_makeOf_f  (by omega) (by omega) (by omega) (by omega) (by omega) (by omega)) ?_
                  intro M83 J83 f83 q83
                  obtain ⟨e83_1, vb83, vo83⟩ := q83
                  replace e83_1 := e83_1.symm; subst e83_1
                  refine Z_aload_n (n := 87) dX4_combine_86 rfl rfl ?_
                  refine Z_iload_n (n := 88) dX4_combine_87 rfl rfl ?_
                  refine Z_bipush (n := 90) dX4_combine_88 rfl (by decide) (by decide) ?_
                  refine Z_aload_n (n := 91) dX4_combine_90 rfl rfl ?_
                  refine Z_bipush (n := 93) dX4_combine_91 rfl (by decide) (by decide) ?_
                  refine Z_callVi (n := 96) [_] _ dX4_combine_93 rfl cwX4_207 rfl rfl rfl (Nat.le_of_ble_eq_true rfl) (by refine ⟨?_, ?_, ?_, ?_⟩ <;> exact Nat.le_of_ble_eq_true rfl) (fun a h => by unfold kRg at h; unfold kAd; omega) (zX4_steps  (by omega) (by omega) (by exact TI_bits tb (hb 55 (by decide) (by decide)) (f83 48 (by decide)).2 vo83) (by exact hb 55 (by decide) (by decide)) (by omega) (by omega)) ?_
                  intro x93 M93 J93 z93 f93 q93
                  obtain ⟨ti93, ah93, am93, au93, af93, xs93⟩ := q93
                  refine Z_ok (fun okS => ?_)
                  have hF : phi J83 55 = (fun r => tbl (tabF k) (if k < 3 then 0 else phi J f r) (if k ≤ 3 then 0 else phi J g r) 0) := by
                    refine (phi_of (by omega) (by omega) vb83).trans ?_
                    first
                      | rfl
                      | (funext r; simp only [if_pos (show k < 3 by omega), if_pos (show k ≤ 3 by omega)])
                      | (funext r; simp only [if_neg (show ¬ k < 3 by omega), if_pos (show k ≤ 3 by omega)])
                      | (exfalso; omega)
                  have hL : ∀ y, (LBr M55 J83 y ∨ laid (phi J83 55) y) ↔ ((LBr M J y ∨ E0 y) ∨ laid (phi J83 55) y) := fun y => (or_congr ((lbr_b (hb 55 (by decide) (by decide)) vo83 y).trans (lbr_c (oB 43 (by decide)) y)) Iff.rfl).trans or_E0
                  obtain ⟨so, -⟩ := st_ok (E := E0) (by decide) (by decide) ti93 okS ah93 af93 (f93 44 (by decide)).2 e8 hL xs93
                  rw [hF] at so
                  have yo : (x93 = 1 ∧ okR M J E0 (fun r => tbl (tabF k) (if k < 3 then 0 else phi J f r) (if k ≤ 3 then 0 else phi J g r) 0) ∧ phi J93 55 = (fun r => tbl (tabF k) (if k < 3 then 0 else phi J f r) (if k ≤ 3 then 0 else phi J g r) 0)) ∨ (x93 = 0 ∧ ¬ okR M J E0 (fun r => tbl (tabF k) (if k < 3 then 0 else phi J f r) (if k ≤ 3 then 0 else phi J g r) 0)) := so.imp_left (fun q => ⟨q.1, q.2, (phi_cg (fun k _ _ => by rw [(f93 44 (by decide)).2])).trans hF⟩)
                  clear so hL
                  refine Z_rg 31 8 rfl (fun gs8 gs8b => ?_)
                  refine Z_callVi (n := 99) [_, _, _] _ dX4_combine_96 rfl cwX4_219 rfl rfl rfl (Nat.le_of_ble_eq_true rfl) (by refine ⟨?_, ?_, ?_, ?_⟩ <;> exact Nat.le_of_ble_eq_true rfl) (fun a h => by unfold kRg at h; unfold kTk; omega) (zX4_gets  (by omega) (by omega) (by omega) (by omega) (by omega) (by exact ti93) (by exact fun q => ⟨ah93, by omega⟩) (by omega)) ?_
                  intro x96 M96 J96 z96 f96 q96
                  obtain ⟨ti96, hn96, am96, gx96⟩ := q96
                  refine Z_fr (fun frR => ?_)
                  refine Z_ok (fun okG => ?_)
                  have fq := fin_r (by omega) (by omega) (hdl_t db (hdl_a af93 (by decide))) (fun j hj => (congrFun (f93 44 (by decide)).2 j).trans (vo83 j (by omega))) yo ti96 okG gx96
                  clear yo
                  refine Z_iret dX4_combine_99 rfl ?_
                  exact ⟨RI_gets hr ok0 (hdl_t db (hdl_a af93 (by decide))) (fun q => by omega) frR ti96 hn96 gx96, by omega, Or.inr (Or.inr (Or.inr ⟨by omega, by omega, by omega, by omega, by omega, fq⟩))⟩
            · refine Z_bipush (n := 53) dX4_combine_51 rfl (by decide) (by decide) ?_
              refine Z_iret dX4_combine_53 rfl ?_
              first
                | exact ⟨hr, by omega, Or.inr (Or.inl ⟨by omega, by omega, by omega, rfl, rfl, rfl⟩)⟩
                | (exfalso; omega)
          · refine Z_iconst (n := 40) dX4_combine_39 rfl (by decide) ?_
            refine Z_iret dX4_combine_40 rfl ?_
            first
              | exact ⟨hr, by omega, Or.inl ⟨by omega, rfl, rfl, rfl⟩⟩
              | exact ⟨hr, by omega, Or.inr (Or.inr (Or.inl ⟨by omega, by omega, by omega, by omega, by omega, rfl, rfl, rfl⟩))⟩
              | (exfalso; omega)
set_option maxRecDepth 20000 in
theorem zX4_choose_g {G : tl_G} {M : zM} {J : zJ} {h f g k : Int} (hr : RI M J) (hk : M 31 27 ≤ 2000000000) (hW : whOK J) : ZN G yX4_choose mX4_choose 5 kRg [vR 31, vI h, vI f, vI g, vI k] F1 M J (qI (fun x M' J' => RI M' J' ∧ M' 31 27 ≤ M 31 27 + 400 ∧ (((h < 0 ∨ 12 ≤ h ∨ f < 0 ∨ 12 ≤ f ∨ M 43 f = 0 ∨ g < 0 ∨ 12 ≤ g ∨ M 43 g = 0 ∨ k < 0 ∨ 12 ≤ k ∨ M 43 k = 0) ∧ x = -1 ∧ M' = M ∧ J' = J) ∨ (¬ (h < 0 ∨ 12 ≤ h ∨ f < 0 ∨ 12 ≤ f ∨ M 43 f = 0 ∨ g < 0 ∨ 12 ≤ g ∨ M 43 g = 0 ∨ k < 0 ∨ 12 ≤ k ∨ M 43 k = 0) ∧ finR M J h (okR M J E0 (fun r => tbl (tabF 10) (phi J f r) (phi J g r) (phi J k r))) (fun r => tbl (tabF 10) (phi J f r) (phi J g r) (phi J k r)) x M' J')))) := by
  refine ZN_of (L := [_, _, _, _, _]) (by decide) rfl rfl (Nat.le_of_ble_eq_true rfl) rfl (fun hav => ?_)
  refine Z_ok (fun ok0 => ?_)
  refine Z_iload_n (n := 1) dX4_choose_0 rfl rfl ?_
  refine Z_callSi (n := 4) [_] _ dX4_choose_1 rfl cwX4_210 rfl rfl (Nat.le_of_ble_eq_true rfl) (by refine ⟨?_, ?_, ?_, ?_⟩ <;> exact Nat.le_of_ble_eq_true rfl) (fun _ _ => trivial) (zX4_isHandle  ) ?_
  intro x1 M1 J1 z1 f1 q1
  obtain ⟨e1_1, e1_2, h1⟩ := q1
  replace e1_1 := e1_1.symm; subst e1_1
  replace e1_2 := e1_2.symm; subst e1_2
  refine Z_if_eq (n := 7) (t := 32) dX4_choose_4 rfl (by decide) (fun c4 => ?_) (fun c4 => ?_)
  · refine Z_iconst (n := 33) dX4_choose_32 rfl (by decide) ?_
    refine Z_iret dX4_choose_33 rfl ?_
    exact ⟨hr, by omega, Or.inl ⟨by omega, rfl, rfl, rfl⟩⟩
  · refine Z_aload_n (n := 8) dX4_choose_7 rfl rfl ?_
    refine Z_iload_n (n := 9) dX4_choose_8 rfl rfl ?_
    refine Z_callVi (n := 12) [_] _ dX4_choose_9 rfl cwX4_223 rfl rfl rfl (Nat.le_of_ble_eq_true rfl) (by refine ⟨?_, ?_, ?_, ?_⟩ <;> exact Nat.le_of_ble_eq_true rfl) (fun _ _ => trivial) (zX4_isFunction  ) ?_
    intro x9 M9 J9 z9 f9 q9
    obtain ⟨e9_1, e9_2, h9⟩ := q9
    replace e9_1 := e9_1.symm; subst e9_1
    replace e9_2 := e9_2.symm; subst e9_2
    refine Z_if_eq (n := 15) (t := 32) dX4_choose_12 rfl (by decide) (fun c12 => ?_) (fun c12 => ?_)
    · refine Z_iconst (n := 33) dX4_choose_32 rfl (by decide) ?_
      refine Z_iret dX4_choose_33 rfl ?_
      exact ⟨hr, by omega, Or.inl ⟨by omega, rfl, rfl, rfl⟩⟩
    · refine Z_aload_n (n := 16) dX4_choose_15 rfl rfl ?_
      refine Z_iload_n (n := 17) dX4_choose_16 rfl rfl ?_
      refine Z_callVi (n := 20) [_] _ dX4_choose_17 rfl cwX4_223 rfl rfl rfl (Nat.le_of_ble_eq_true rfl) (by refine ⟨?_, ?_, ?_, ?_⟩ <;> exact Nat.le_of_ble_eq_true rfl) (fun _ _ => trivial) (zX4_isFunction  ) ?_
      intro x17 M17 J17 z17 f17 q17
      obtain ⟨e17_1, e17_2, h17⟩ := q17
      replace e17_1 := e17_1.symm; subst e17_1
      replace e17_2 := e17_2.symm; subst e17_2
      refine Z_if_eq (n := 23) (t := 32) dX4_choose_20 rfl (by decide) (fun c20 => ?_) (fun c20 => ?_)
      · refine Z_iconst (n := 33) dX4_choose_32 rfl (by decide) ?_
        refine Z_iret dX4_choose_33 rfl ?_
        exact ⟨hr, by omega, Or.inl ⟨by omega, rfl, rfl, rfl⟩⟩
      · refine Z_aload_n (n := 24) dX4_choose_23 rfl rfl ?_
        refine Z_iload (n := 26) dX4_choose_24 rfl rfl ?_
        refine Z_callVi (n := 29) [_] _ dX4_choose_26 rfl cwX4_223 rfl rfl rfl (Nat.le_of_ble_eq_true rfl) (by refine ⟨?_, ?_, ?_, ?_⟩ <;> exact Nat.le_of_ble_eq_true rfl) (fun _ _ => trivial) (zX4_isFunction  ) ?_
        intro x26 M26 J26 z26 f26 q26
        obtain ⟨e26_1, e26_2, h26⟩ := q26
        replace e26_1 := e26_1.symm; subst e26_1
        replace e26_2 := e26_2.symm; subst e26_2
        refine Z_if_ne (n := 32) (t := 34) dX4_choose_29 rfl (by decide) (fun c29 => ?_) (fun c29 => ?_)
        · refine Z_aload_n (n := 35) dX4_choose_34 rfl rfl ?_
          refine Z_callVv (n := 38) [] _ dX4_choose_35 rfl cwX4_213 rfl rfl rfl (Nat.le_of_ble_eq_true rfl) (by refine ⟨?_, ?_, ?_, ?_⟩ <;> exact Nat.le_of_ble_eq_true rfl) (fun _ h => h) (zX4_begin  (by decide)) ?_
          intro M35 J35 f35 q35
          obtain ⟨e35_1, e35_2⟩ := q35
          replace e35_1 := e35_1.symm; subst e35_1
          replace e35_2 := e35_2.symm; subst e35_2
          obtain ⟨tb, hb, ub, mb, db, ob⟩ := begin_ok hr
          refine Z_nm (fun M35 e35 => ?_)
          rw [← e35] at tb hb ub mb db ob
          have oB : ∀ a : Nat, ¬ a = 31 → M35 a = M a := fun a ha => by rw [e35]; exact uz_o ha
          have e8 : M35 31 8 = M 31 8 := by rw [e35]; exact uz_n (by decide)
          clear e35
          refine Z_rg 31 8 rfl (fun gb8 gb8b => ?_)
          refine Z_aload_n (n := 39) dX4_choose_38 rfl rfl ?_
          refine Z_bipush (n := 41) dX4_choose_39 rfl (by decide) (by decide) ?_
          refine Z_iload_n (n := 42) dX4_choose_41 rfl rfl ?_
          refine Z_iload_n (n := 43) dX4_choose_42 rfl rfl ?_
          refine Z_iload (n := 45) dX4_choose_43 rfl rfl ?_
          refine Z_callVv (n := 48) [_, _, _, _] _ dX4_choose_45 rfl cwX4_200 rfl rfl rfl (Nat.le_of_ble_eq_true rfl) (by refine ⟨?_, ?_, ?_, ?_⟩ <;> exact Nat.le_of_ble_eq_true rfl) (fun a h => by unfold kRg at h; unfold kBits; omega) (zX4_makeChoice  (by omega) (by omega) (by omega) (by omega) (by omega) (by omega) (by omega) (by omega)) ?_
          intro M45 J45 f45 q45
          obtain ⟨e45_1, vb45, vo45⟩ := q45
          replace e45_1 := e45_1.symm; subst e45_1
          refine Z_aload_n (n := 49) dX4_choose_48 rfl rfl ?_
          refine Z_iload_n (n := 50) dX4_choose_49 rfl rfl ?_
          refine Z_bipush (n := 52) dX4_choose_50 rfl (by decide) (by decide) ?_
          refine Z_aload_n (n := 53) dX4_choose_52 rfl rfl ?_
          refine Z_bipush (n := 55) dX4_choose_53 rfl (by decide) (by decide) ?_
          refine Z_callVi (n := 58) [_] _ dX4_choose_55 rfl cwX4_207 rfl rfl rfl (Nat.le_of_ble_eq_true rfl) (by refine ⟨?_, ?_, ?_, ?_⟩ <;> exact Nat.le_of_ble_eq_true rfl) (fun a h => by unfold kRg at h; unfold kAd; omega) (zX4_steps  (by omega) (by omega) (by exact TI_bits tb (hb 55 (by decide) (by decide)) (f45 48 (by decide)).2 vo45) (by exact hb 55 (by decide) (by decide)) (by omega) (by omega)) ?_
          intro x55 M55 J55 z55 f55 q55
          obtain ⟨ti55, ah55, am55, au55, af55, xs55⟩ := q55
          refine Z_ok (fun okS => ?_)
          have hF : phi J45 55 = (fun r => tbl (tabF 10) (phi J f r) (phi J g r) (phi J k r)) := by
            exact phi_ch vb45
          have hL : ∀ y, (LBr M35 J45 y ∨ laid (phi J45 55) y) ↔ ((LBr M J y ∨ E0 y) ∨ laid (phi J45 55) y) := fun y => (or_congr ((lbr_b (hb 55 (by decide) (by decide)) vo45 y).trans (lbr_c (oB 43 (by decide)) y)) Iff.rfl).trans or_E0
          obtain ⟨so, -⟩ := st_ok (E := E0) (by decide) (by decide) ti55 okS ah55 af55 (f55 44 (by decide)).2 e8 hL xs55
          rw [hF] at so
          have yo : (x55 = 1 ∧ okR M J E0 (fun r => tbl (tabF 10) (phi J f r) (phi J g r) (phi J k r)) ∧ phi J55 55 = (fun r => tbl (tabF 10) (phi J f r) (phi J g r) (phi J k r))) ∨ (x55 = 0 ∧ ¬ okR M J E0 (fun r => tbl (tabF 10) (phi J f r) (phi J g r) (phi J k r))) := so.imp_left (fun q => ⟨q.1, q.2, (phi_cg (fun k _ _ => by rw [(f55 44 (by decide)).2])).trans hF⟩)
          clear so hL
          refine Z_rg 31 8 rfl (fun gs8 gs8b => ?_)
          refine Z_callVi (n := 61) [_, _, _] _ dX4_choose_58 rfl cwX4_219 rfl rfl rfl (Nat.le_of_ble_eq_true rfl) (by refine ⟨?_, ?_, ?_, ?_⟩ <;> exact Nat.le_of_ble_eq_true rfl) (fun a h => by unfold kRg at h; unfold kTk; omega) (zX4_gets  (by omega) (by omega) (by omega) (by omega) (by omega) (by exact ti55) (by exact fun q => ⟨ah55, by omega⟩) (by omega)) ?_
          intro x58 M58 J58 z58 f58 q58
          obtain ⟨ti58, hn58, am58, gx58⟩ := q58
          refine Z_fr (fun frR => ?_)
          refine Z_ok (fun okG => ?_)
          have fq := fin_r (by omega) (by omega) (hdl_t db (hdl_a af55 (by decide))) (fun j hj => (congrFun (f55 44 (by decide)).2 j).trans (vo45 j (by omega))) yo ti58 okG gx58
          clear yo
          refine Z_iret dX4_choose_61 rfl ?_
          exact ⟨RI_gets hr ok0 (hdl_t db (hdl_a af55 (by decide))) (fun q => by omega) frR ti58 hn58 gx58, by omega, Or.inr ⟨by omega, fq⟩⟩
        · refine Z_iconst (n := 33) dX4_choose_32 rfl (by decide) ?_
          refine Z_iret dX4_choose_33 rfl ?_
          exact ⟨hr, by omega, Or.inl ⟨by omega, rfl, rfl, rfl⟩⟩
set_option maxRecDepth 20000 in
theorem zX4_restrict_g {G : tl_G} {M : zM} {J : zJ} {h f v y : Int} (hr : RI M J) (hk : M 31 27 ≤ 2000000000) (hW : whOK J) : ZN G yX4_restrict mX4_restrict 5 kRg [vR 31, vI h, vI f, vI v, vI y] F1 M J (qI (fun x M' J' => RI M' J' ∧ M' 31 27 ≤ M 31 27 + 400 ∧ (((h < 0 ∨ 12 ≤ h ∨ f < 0 ∨ 12 ≤ f ∨ M 43 f = 0) ∧ x = -1 ∧ M' = M ∧ J' = J) ∨ (¬ (h < 0 ∨ 12 ≤ h ∨ f < 0 ∨ 12 ≤ f ∨ M 43 f = 0) ∧ (v < 0 ∨ 8 ≤ v) ∧ x = -2 ∧ M' = M ∧ J' = J) ∨ (¬ (h < 0 ∨ 12 ≤ h ∨ f < 0 ∨ 12 ≤ f ∨ M 43 f = 0) ∧ 0 ≤ v ∧ v < 8 ∧ finR M J h (okR M J E0 (fun r => phi J f (updI r (M 39 v) (if y = 0 then 0 else 1)))) (fun r => phi J f (updI r (M 39 v) (if y = 0 then 0 else 1))) x M' J')))) := by
  refine ZN_of (L := [_, _, _, _, _]) (by decide) rfl rfl (Nat.le_of_ble_eq_true rfl) rfl (fun hav => ?_)
  refine Z_ok (fun ok0 => ?_)
  refine Z_aload_n (n := 1) dX4_restrict_0 rfl rfl ?_
  refine Z_iload_n (n := 2) dX4_restrict_1 rfl rfl ?_
  refine Z_iload_n (n := 3) dX4_restrict_2 rfl rfl ?_
  refine Z_iload_n (n := 4) dX4_restrict_3 rfl rfl ?_
  refine Z_callVi (n := 7) [_, _, _] _ dX4_restrict_4 rfl cwX4_226 rfl rfl rfl (Nat.le_of_ble_eq_true rfl) (by refine ⟨?_, ?_, ?_, ?_⟩ <;> exact Nat.le_of_ble_eq_true rfl) (fun _ _ => trivial) (zX4_noHalf  ) ?_
  intro x4 M4 J4 z4 f4 q4
  obtain ⟨e4_1, e4_2, h4⟩ := q4
  replace e4_1 := e4_1.symm; subst e4_1
  replace e4_2 := e4_2.symm; subst e4_2
  refine Z_if_ge (n := 10) (t := 18) dX4_restrict_7 rfl (by decide) (fun c7 => ?_) (fun c7 => ?_)
  · refine Z_aload_n (n := 19) dX4_restrict_18 rfl rfl ?_
    refine Z_callVv (n := 22) [] _ dX4_restrict_19 rfl cwX4_213 rfl rfl rfl (Nat.le_of_ble_eq_true rfl) (by refine ⟨?_, ?_, ?_, ?_⟩ <;> exact Nat.le_of_ble_eq_true rfl) (fun _ h => h) (zX4_begin  (by decide)) ?_
    intro M19 J19 f19 q19
    obtain ⟨e19_1, e19_2⟩ := q19
    replace e19_1 := e19_1.symm; subst e19_1
    replace e19_2 := e19_2.symm; subst e19_2
    obtain ⟨tb, hb, ub, mb, db, ob⟩ := begin_ok hr
    refine Z_nm (fun M19 e19 => ?_)
    rw [← e19] at tb hb ub mb db ob
    have oB : ∀ a : Nat, ¬ a = 31 → M19 a = M a := fun a ha => by rw [e19]; exact uz_o ha
    have e8 : M19 31 8 = M 31 8 := by rw [e19]; exact uz_n (by decide)
    clear e19
    refine Z_rg 31 8 rfl (fun gb8 gb8b => ?_)
    refine Z_aload_n (n := 23) dX4_restrict_22 rfl rfl ?_
    refine Z_bipush (n := 25) dX4_restrict_23 rfl (by decide) (by decide) ?_
    refine Z_iload_n (n := 26) dX4_restrict_25 rfl rfl ?_
    refine Z_iload_n (n := 27) dX4_restrict_26 rfl rfl ?_
    refine Z_iload (n := 29) dX4_restrict_27 rfl rfl ?_
    refine Z_callVv (n := 32) [_, _, _, _] _ dX4_restrict_29 rfl cwX4_230 rfl rfl rfl (Nat.le_of_ble_eq_true rfl) (by refine ⟨?_, ?_, ?_, ?_⟩ <;> exact Nat.le_of_ble_eq_true rfl) (fun a h => by unfold kRg at h; unfold kBits; omega) (zX4_makeHalf_f  (by omega) (by omega) (by omega) (by omega) (by omega) (by omega) (by exact ob) (by omega)) ?_
    intro M29 J29 f29 q29
    obtain ⟨e29_1, vb29, vo29⟩ := q29
    replace e29_1 := e29_1.symm; subst e29_1
    refine Z_aload_n (n := 33) dX4_restrict_32 rfl rfl ?_
    refine Z_iload_n (n := 34) dX4_restrict_33 rfl rfl ?_
    refine Z_bipush (n := 36) dX4_restrict_34 rfl (by decide) (by decide) ?_
    refine Z_aload_n (n := 37) dX4_restrict_36 rfl rfl ?_
    refine Z_bipush (n := 39) dX4_restrict_37 rfl (by decide) (by decide) ?_
    refine Z_callVi (n := 42) [_] _ dX4_restrict_39 rfl cwX4_207 rfl rfl rfl (Nat.le_of_ble_eq_true rfl) (by refine ⟨?_, ?_, ?_, ?_⟩ <;> exact Nat.le_of_ble_eq_true rfl) (fun a h => by unfold kRg at h; unfold kAd; omega) (zX4_steps  (by omega) (by omega) (by exact TI_bits tb (hb 55 (by decide) (by decide)) (f29 48 (by decide)).2 vo29) (by exact hb 55 (by decide) (by decide)) (by omega) (by omega)) ?_
    intro x39 M39 J39 z39 f39 q39
    obtain ⟨ti39, ah39, am39, au39, af39, xs39⟩ := q39
    refine Z_ok (fun okS => ?_)
    have hF : phi J29 55 = (fun r => phi J f (updI r (M 39 v) (if y = 0 then 0 else 1))) := by
      have hp : 0 ≤ M 39 v ∧ M 39 v ≤ 7 := by
        have w : -1 ≤ M 39 v ∧ M 39 v ≤ 7 := ok0 39 v
        exact ⟨hr.2.2.2.1 v (by omega) (by omega), w.2⟩
      have vbX := vb29
      rw [oB 39 (by decide)] at vbX
      exact phi_half hp.1 hp.2 hW vbX
    have hL : ∀ y, (LBr M19 J29 y ∨ laid (phi J29 55) y) ↔ ((LBr M J y ∨ E0 y) ∨ laid (phi J29 55) y) := fun y => (or_congr ((lbr_b (hb 55 (by decide) (by decide)) vo29 y).trans (lbr_c (oB 43 (by decide)) y)) Iff.rfl).trans or_E0
    obtain ⟨so, -⟩ := st_ok (E := E0) (by decide) (by decide) ti39 okS ah39 af39 (f39 44 (by decide)).2 e8 hL xs39
    rw [hF] at so
    have yo : (x39 = 1 ∧ okR M J E0 (fun r => phi J f (updI r (M 39 v) (if y = 0 then 0 else 1))) ∧ phi J39 55 = (fun r => phi J f (updI r (M 39 v) (if y = 0 then 0 else 1)))) ∨ (x39 = 0 ∧ ¬ okR M J E0 (fun r => phi J f (updI r (M 39 v) (if y = 0 then 0 else 1)))) := so.imp_left (fun q => ⟨q.1, q.2, (phi_cg (fun k _ _ => by rw [(f39 44 (by decide)).2])).trans hF⟩)
    clear so hL
    refine Z_rg 31 8 rfl (fun gs8 gs8b => ?_)
    refine Z_callVi (n := 45) [_, _, _] _ dX4_restrict_42 rfl cwX4_219 rfl rfl rfl (Nat.le_of_ble_eq_true rfl) (by refine ⟨?_, ?_, ?_, ?_⟩ <;> exact Nat.le_of_ble_eq_true rfl) (fun a h => by unfold kRg at h; unfold kTk; omega) (zX4_gets  (by omega) (by omega) (by omega) (by omega) (by omega) (by exact ti39) (by exact fun q => ⟨ah39, by omega⟩) (by omega)) ?_
    intro x42 M42 J42 z42 f42 q42
    obtain ⟨ti42, hn42, am42, gx42⟩ := q42
    refine Z_fr (fun frR => ?_)
    refine Z_ok (fun okG => ?_)
    have fq := fin_r (by omega) (by omega) (hdl_t db (hdl_a af39 (by decide))) (fun j hj => (congrFun (f39 44 (by decide)).2 j).trans (vo29 j (by omega))) yo ti42 okG gx42
    clear yo
    refine Z_iret dX4_restrict_45 rfl ?_
    exact ⟨RI_gets hr ok0 (hdl_t db (hdl_a af39 (by decide))) (fun q => by omega) frR ti42 hn42 gx42, by omega, Or.inr (Or.inr ⟨by omega, by omega, by omega, fq⟩)⟩
  · refine Z_aload_n (n := 11) dX4_restrict_10 rfl rfl ?_
    refine Z_iload_n (n := 12) dX4_restrict_11 rfl rfl ?_
    refine Z_iload_n (n := 13) dX4_restrict_12 rfl rfl ?_
    refine Z_iload_n (n := 14) dX4_restrict_13 rfl rfl ?_
    refine Z_callVi (n := 17) [_, _, _] _ dX4_restrict_14 rfl cwX4_226 rfl rfl rfl (Nat.le_of_ble_eq_true rfl) (by refine ⟨?_, ?_, ?_, ?_⟩ <;> exact Nat.le_of_ble_eq_true rfl) (fun _ _ => trivial) (zX4_noHalf  ) ?_
    intro x14 M14 J14 z14 f14 q14
    obtain ⟨e14_1, e14_2, h14⟩ := q14
    replace e14_1 := e14_1.symm; subst e14_1
    replace e14_2 := e14_2.symm; subst e14_2
    refine Z_iret dX4_restrict_17 rfl ?_
    by_cases hz : h < 0 ∨ 12 ≤ h ∨ f < 0 ∨ 12 ≤ f ∨ M 43 f = 0
    · exact ⟨hr, by omega, Or.inl ⟨hz, by omega, rfl, rfl⟩⟩
    · exact ⟨hr, by omega, Or.inr (Or.inl ⟨hz, by omega, by omega, rfl, rfl⟩)⟩
def hlQ (M : zM) (J : zJ) (F0 F1 : FN) (x : Int) (M' : zM) (J' : zJ) : Prop := (∀ j : Int, j < 48 → J' 44 j = J 44 j) ∧ M' 31 8 = M 31 8 ∧ ((x = 1 ∧ (okR M J E0 F0 ∧ okR M J (E1 F0) F1) ∧ (phi J' 53 = F0 ∧ phi J' 54 = F1) ∧ ∀ y, LBr M' J' y ↔ (LBr M J y ∨ E2 F0 F1 y)) ∨ (x = 0 ∧ ¬ (okR M J E0 F0 ∧ okR M J (E1 F0) F1)))
theorem or_E1 {A Q : Prop} {F : FN} {y : Lb} : (((A ∨ E0 y) ∨ laid F y) ∨ Q) ↔ ((A ∨ E1 F y) ∨ Q) := or_congr or_assoc Iff.rfl
theorem or_E2 {A : Prop} {F F1 : FN} {y : Lb} : ((A ∨ E1 F y) ∨ laid F1 y) ↔ (A ∨ E2 F F1 y) := or_assoc
set_option maxRecDepth 20000 in
theorem zX4_halves_g {G : tl_G} {M : zM} {J : zJ} {f v : Int} (f0 : 0 ≤ f) (f1 : f < 12) (v0 : 0 ≤ v) (v1 : v < 8) (hr : RI M J) (hk : M 31 27 ≤ 2000000000) (hW : whOK J) : ZN G yX4_halves mX4_halves 4 kRg [vR 31, vI f, vI v] F1 M J (qI (fun x M' J' => TI M' J' ∧ hdl M M' ∧ M' 31 27 ≤ M 31 27 + 2 ∧ M' 43 55 = 0 ∧ ((x = 1 ∧ M' 31 24 ≤ M' 31 8) ∨ x = 0) ∧ hlQ M J (fun r => phi J f (updI r (M 39 v) (if (0 : Int) = 0 then 0 else 1))) (fun r => phi J f (updI r (M 39 v) (if (1 : Int) = 0 then 0 else 1))) x M' J')) := by
  refine ZN_of (L := [_, _, _]) (by decide) rfl rfl (Nat.le_of_ble_eq_true rfl) rfl (fun hav => ?_)
  refine Z_ok (fun ok0 => ?_)
  refine Z_aload_n (n := 1) dX4_halves_0 rfl rfl ?_
  refine Z_callVv (n := 4) [] _ dX4_halves_1 rfl cwX4_213 rfl rfl rfl (Nat.le_of_ble_eq_true rfl) (by refine ⟨?_, ?_, ?_, ?_⟩ <;> exact Nat.le_of_ble_eq_true rfl) (fun _ h => h) (zX4_begin  (by decide)) ?_
  intro M1 J1 f1 q1
  obtain ⟨e1_1, e1_2⟩ := q1
  replace e1_1 := e1_1.symm; subst e1_1
  replace e1_2 := e1_2.symm; subst e1_2
  obtain ⟨tb, hb, ub, mb, db, ob⟩ := begin_ok hr
  refine Z_nm (fun M1 e1 => ?_)
  rw [← e1] at tb hb ub mb db ob
  have oB : ∀ a : Nat, ¬ a = 31 → M1 a = M a := fun a ha => by rw [e1]; exact uz_o ha
  have e8 : M1 31 8 = M 31 8 := by rw [e1]; exact uz_n (by decide)
  clear e1
  refine Z_rg 31 8 rfl (fun gb8 gb8b => ?_)
  refine Z_aload_n (n := 5) dX4_halves_4 rfl rfl ?_
  refine Z_bipush (n := 7) dX4_halves_5 rfl (by decide) (by decide) ?_
  refine Z_iload_n (n := 8) dX4_halves_7 rfl rfl ?_
  refine Z_iload_n (n := 9) dX4_halves_8 rfl rfl ?_
  refine Z_iconst (n := 10) dX4_halves_9 rfl (by decide) ?_
  refine Z_callVv (n := 13) [_, _, _, _] _ dX4_halves_10 rfl cwX4_230 rfl rfl rfl (Nat.le_of_ble_eq_true rfl) (by refine ⟨?_, ?_, ?_, ?_⟩ <;> exact Nat.le_of_ble_eq_true rfl) (fun a h => by unfold kRg at h; unfold kBits; omega) (zX4_makeHalf_f  (by omega) (by omega) (by omega) (by omega) (by omega) (by omega) (by exact ob) (by omega)) ?_
  intro M10 J10 f10 q10
  obtain ⟨e10_1, vb10, vo10⟩ := q10
  replace e10_1 := e10_1.symm; subst e10_1
  refine Z_aload_n (n := 14) dX4_halves_13 rfl rfl ?_
  refine Z_bipush (n := 16) dX4_halves_14 rfl (by decide) (by decide) ?_
  refine Z_callVi (n := 19) [_] _ dX4_halves_16 rfl cwX4_207 rfl rfl rfl (Nat.le_of_ble_eq_true rfl) (by refine ⟨?_, ?_, ?_, ?_⟩ <;> exact Nat.le_of_ble_eq_true rfl) (fun a h => by unfold kRg at h; unfold kAd; omega) (zX4_steps  (by omega) (by omega) (by exact TI_bits tb (hb 53 (by decide) (by decide)) (f10 48 (by decide)).2 vo10) (by exact hb 53 (by decide) (by decide)) (by omega) (by omega)) ?_
  intro x16 M16 J16 z16 f16 q16
  obtain ⟨ti16, ah16, am16, au16, af16, xs16⟩ := q16
  have ob16 : rOrd M16 := by unfold rOrd; rw [(f16 39 (by decide)).1]; exact ob
  have h54 : M16 43 54 = 0 := ((af16.1 54 (by decide)).2).trans (hb 54 (by decide) (by decide))
  have h55 : M16 43 55 = 0 := ((af16.1 55 (by decide)).2).trans (hb 55 (by decide) (by decide))
  have hd16 : hdl M M16 := hdl_t db (hdl_a af16 (by decide))
  have e82 : M16 31 8 = M 31 8 := (af16.2.2 8 (by decide) (by decide) (by decide) (by decide)).trans e8
  have j16 : ∀ j : Int, j < 48 → J16 44 j = J 44 j := fun j hj => (congrFun (f16 44 (by decide)).2 j).trans (vo10 j (by omega))
  refine Z_rg 31 8 rfl (fun gs8 gs8b => ?_)
  refine Z_ok (fun okS1 => ?_)
  have hF1 : phi J10 53 = (fun r => phi J f (updI r (M 39 v) (if (0 : Int) = 0 then 0 else 1))) := by
    have hp : 0 ≤ M 39 v ∧ M 39 v ≤ 7 := by
      have w : -1 ≤ M 39 v ∧ M 39 v ≤ 7 := ok0 39 v
      exact ⟨hr.2.2.2.1 v (by omega) (by omega), w.2⟩
    have vbX := vb10
    rw [oB 39 (by decide)] at vbX
    exact phi_half hp.1 hp.2 hW vbX
  have hL1 : ∀ y, (LBr M1 J10 y ∨ laid (phi J10 53) y) ↔ ((LBr M J y ∨ E0 y) ∨ laid (phi J10 53) y) := fun y => (or_congr ((lbr_b (hb 53 (by decide) (by decide)) vo10 y).trans (lbr_c (oB 43 (by decide)) y)) Iff.rfl).trans or_E0
  obtain ⟨so1, sl1⟩ := st_ok (E := E0) (by decide) (by decide) ti16 okS1 ah16 af16 (f16 44 (by decide)).2 e8 hL1 xs16
  rw [hF1] at so1 sl1
  clear hL1
  refine Z_if_ne (n := 22) (t := 24) dX4_halves_19 rfl (by decide) (fun c19 => ?_) (fun c19 => ?_)
  · refine Z_aload_n (n := 25) dX4_halves_24 rfl rfl ?_
    refine Z_bipush (n := 27) dX4_halves_25 rfl (by decide) (by decide) ?_
    refine Z_iload_n (n := 28) dX4_halves_27 rfl rfl ?_
    refine Z_iload_n (n := 29) dX4_halves_28 rfl rfl ?_
    refine Z_iconst (n := 30) dX4_halves_29 rfl (by decide) ?_
    refine Z_callVv (n := 33) [_, _, _, _] _ dX4_halves_30 rfl cwX4_230 rfl rfl rfl (Nat.le_of_ble_eq_true rfl) (by refine ⟨?_, ?_, ?_, ?_⟩ <;> exact Nat.le_of_ble_eq_true rfl) (fun a h => by unfold kRg at h; unfold kBits; omega) (zX4_makeHalf_f  (by omega) (by omega) (by omega) (by omega) (by omega) (by omega) (by exact ob16) (by omega)) ?_
    intro M30 J30 f30 q30
    obtain ⟨e30_1, vb30, vo30⟩ := q30
    replace e30_1 := e30_1.symm; subst e30_1
    refine Z_aload_n (n := 34) dX4_halves_33 rfl rfl ?_
    refine Z_bipush (n := 36) dX4_halves_34 rfl (by decide) (by decide) ?_
    refine Z_callVi (n := 39) [_] _ dX4_halves_36 rfl cwX4_207 rfl rfl rfl (Nat.le_of_ble_eq_true rfl) (by refine ⟨?_, ?_, ?_, ?_⟩ <;> exact Nat.le_of_ble_eq_true rfl) (fun a h => by unfold kRg at h; unfold kAd; omega) (zX4_steps  (by omega) (by omega) (by exact TI_bits ti16 h54 (f30 48 (by decide)).2 vo30) (by exact h54) (by omega) (by omega)) ?_
    intro x36 M36 J36 z36 f36 q36
    obtain ⟨ti36, ah36, am36, au36, af36, xs36⟩ := q36
    have hw16 : ∀ q : Int, 2 ≤ q → q ≤ 7 → J16 54 q = whF q := fun q a b => by rw [(f16 54 (by decide)).2, (f10 54 (by decide)).2]; exact hW q a b
    refine Z_ok (fun okS2 => ?_)
    have hF2 : phi J30 54 = (fun r => phi J f (updI r (M 39 v) (if (1 : Int) = 0 then 0 else 1))) := by
      have hp : 0 ≤ M 39 v ∧ M 39 v ≤ 7 := by
        have w : -1 ≤ M 39 v ∧ M 39 v ≤ 7 := ok0 39 v
        exact ⟨hr.2.2.2.1 v (by omega) (by omega), w.2⟩
      have vbX := vb30
      rw [(f16 39 (by decide)).1, oB 39 (by decide)] at vbX
      refine (phi_half hp.1 hp.2 hw16 vbX).trans ?_
      rw [phi_cg (J := J) (g := f) (fun k k0 k1 => j16 _ (by omega))]
    have hL2 : ∀ y, (LBr M16 J30 y ∨ laid (phi J30 54) y) ↔ ((LBr M J y ∨ (E1 (fun r => phi J f (updI r (M 39 v) (if (0 : Int) = 0 then 0 else 1)))) y) ∨ laid (phi J30 54) y) := fun y => (or_congr ((lbr_b h54 vo30 y).trans (sl1 y)) Iff.rfl).trans or_E1
    obtain ⟨so2, sl2⟩ := st_ok (E := E1 (fun r => phi J f (updI r (M 39 v) (if (0 : Int) = 0 then 0 else 1)))) (by decide) (by decide) ti36 okS2 ah36 af36 (f36 44 (by decide)).2 e82 hL2 xs36
    rw [hF2] at so2 sl2
    clear hL2
    refine Z_zret dX4_halves_39 rfl (by omega) (by omega) ?_
    have k1 := so1.resolve_right (fun q => by omega)
    refine ⟨ti36, hdl_t hd16 (hdl_a af36 (by decide)), by omega, ((af36.1 55 (by decide)).2).trans h55, by omega, fun j hj => (congrFun (f36 44 (by decide)).2 j).trans ((vo30 j (by omega)).trans (j16 j hj)), (af36.2.2 8 (by decide) (by decide) (by decide) (by decide)).trans e82, ?_⟩
    rcases so2 with ⟨q, q2⟩ | ⟨q, q2⟩
    · refine Or.inl ⟨q, ⟨k1.2, q2⟩, ⟨?_, ?_⟩, fun y => (sl2 y).trans or_E2⟩
      · refine (phi_cg (fun k k0 k1 => ?_)).trans hF1
        rw [(f36 44 (by decide)).2, vo30 _ (by omega), (f16 44 (by decide)).2]
      · exact (phi_cg (fun k _ _ => by rw [(f36 44 (by decide)).2])).trans hF2
    · exact Or.inr ⟨q, fun t => q2 t.2⟩
  · refine Z_iconst (n := 23) dX4_halves_22 rfl (by decide) ?_
    refine Z_zret dX4_halves_23 rfl (by omega) (by omega) ?_
    refine ⟨ti16, hd16, by omega, h55, Or.inr rfl, j16, e82, Or.inr ⟨rfl, fun t => ?_⟩⟩
    rcases so1 with ⟨q, -⟩ | ⟨-, q⟩
    · omega
    · exact q t.1
set_option maxRecDepth 20000 in
theorem zX4_quantify_g {G : tl_G} {M : zM} {J : zJ} {h f v y : Int} (hr : RI M J) (hk : M 31 27 ≤ 2000000000) (hW : whOK J) : ZN G yX4_quantify mX4_quantify 5 kRg [vR 31, vI h, vI f, vI v, vI y] F1 M J (qI (fun x M' J' => RI M' J' ∧ M' 31 27 ≤ M 31 27 + 400 ∧ (((h < 0 ∨ 12 ≤ h ∨ f < 0 ∨ 12 ≤ f ∨ M 43 f = 0) ∧ x = -1 ∧ M' = M ∧ J' = J) ∨ (¬ (h < 0 ∨ 12 ≤ h ∨ f < 0 ∨ 12 ≤ f ∨ M 43 f = 0) ∧ (v < 0 ∨ 8 ≤ v) ∧ x = -2 ∧ M' = M ∧ J' = J) ∨ (¬ (h < 0 ∨ 12 ≤ h ∨ f < 0 ∨ 12 ≤ f ∨ M 43 f = 0) ∧ 0 ≤ v ∧ v < 8 ∧ finR M J h (okR M J E0 (fun r => phi J f (updI r (M 39 v) (if (0 : Int) = 0 then 0 else 1))) ∧ okR M J (E1 (fun r => phi J f (updI r (M 39 v) (if (0 : Int) = 0 then 0 else 1)))) (fun r => phi J f (updI r (M 39 v) (if (1 : Int) = 0 then 0 else 1))) ∧ okR M J (E2 (fun r => phi J f (updI r (M 39 v) (if (0 : Int) = 0 then 0 else 1))) (fun r => phi J f (updI r (M 39 v) (if (1 : Int) = 0 then 0 else 1)))) (fun r => tbl (tabF (if y = 0 then 5 else 4)) ((fun r => phi J f (updI r (M 39 v) (if (0 : Int) = 0 then 0 else 1))) r) ((fun r => phi J f (updI r (M 39 v) (if (1 : Int) = 0 then 0 else 1))) r) 0)) (fun r => tbl (tabF (if y = 0 then 5 else 4)) ((fun r => phi J f (updI r (M 39 v) (if (0 : Int) = 0 then 0 else 1))) r) ((fun r => phi J f (updI r (M 39 v) (if (1 : Int) = 0 then 0 else 1))) r) 0) x M' J')))) := by
  refine ZN_of (L := [_, _, _, _, _, _]) (by decide) rfl rfl (Nat.le_of_ble_eq_true rfl) rfl (fun hav => ?_)
  refine Z_ok (fun ok0 => ?_)
  refine Z_aload_n (n := 1) dX4_quantify_0 rfl rfl ?_
  refine Z_iload_n (n := 2) dX4_quantify_1 rfl rfl ?_
  refine Z_iload_n (n := 3) dX4_quantify_2 rfl rfl ?_
  refine Z_iload_n (n := 4) dX4_quantify_3 rfl rfl ?_
  refine Z_callVi (n := 7) [_, _, _] _ dX4_quantify_4 rfl cwX4_226 rfl rfl rfl (Nat.le_of_ble_eq_true rfl) (by refine ⟨?_, ?_, ?_, ?_⟩ <;> exact Nat.le_of_ble_eq_true rfl) (fun _ _ => trivial) (zX4_noHalf  ) ?_
  intro x4 M4 J4 z4 f4 q4
  obtain ⟨e4_1, e4_2, h4⟩ := q4
  replace e4_1 := e4_1.symm; subst e4_1
  replace e4_2 := e4_2.symm; subst e4_2
  refine Z_if_ge (n := 10) (t := 18) dX4_quantify_7 rfl (by decide) (fun c7 => ?_) (fun c7 => ?_)
  · have ct59 : ∀ (w : Int) (M59 : zM) (J59 : zJ), (TI M59 J59) → (hdl M M59) → (M59 31 27 ≤ M 31 27 + 3) → (w = 0 ∨ w = 1) → (w = 1 → ¬ M59 43 55 = 0 ∧ M59 31 24 ≤ M59 31 8) → (∀ j : Int, j < 48 → J59 44 j = J 44 j) → (((w = 1 ∧ (okR M J E0 (fun r => phi J f (updI r (M 39 v) (if (0 : Int) = 0 then 0 else 1))) ∧ okR M J (E1 (fun r => phi J f (updI r (M 39 v) (if (0 : Int) = 0 then 0 else 1)))) (fun r => phi J f (updI r (M 39 v) (if (1 : Int) = 0 then 0 else 1))) ∧ okR M J (E2 (fun r => phi J f (updI r (M 39 v) (if (0 : Int) = 0 then 0 else 1))) (fun r => phi J f (updI r (M 39 v) (if (1 : Int) = 0 then 0 else 1)))) (fun r => tbl (tabF (if y = 0 then 5 else 4)) ((fun r => phi J f (updI r (M 39 v) (if (0 : Int) = 0 then 0 else 1))) r) ((fun r => phi J f (updI r (M 39 v) (if (1 : Int) = 0 then 0 else 1))) r) 0)) ∧ phi J59 55 = (fun r => tbl (tabF (if y = 0 then 5 else 4)) ((fun r => phi J f (updI r (M 39 v) (if (0 : Int) = 0 then 0 else 1))) r) ((fun r => phi J f (updI r (M 39 v) (if (1 : Int) = 0 then 0 else 1))) r) 0)) ∨ (w = 0 ∧ ¬ (okR M J E0 (fun r => phi J f (updI r (M 39 v) (if (0 : Int) = 0 then 0 else 1))) ∧ okR M J (E1 (fun r => phi J f (updI r (M 39 v) (if (0 : Int) = 0 then 0 else 1)))) (fun r => phi J f (updI r (M 39 v) (if (1 : Int) = 0 then 0 else 1))) ∧ okR M J (E2 (fun r => phi J f (updI r (M 39 v) (if (0 : Int) = 0 then 0 else 1))) (fun r => phi J f (updI r (M 39 v) (if (1 : Int) = 0 then 0 else 1)))) (fun r => tbl (tabF (if y = 0 then 5 else 4)) ((fun r => phi J f (updI r (M 39 v) (if (0 : Int) = 0 then 0 else 1))) r) ((fun r => phi J f (updI r (M 39 v) (if (1 : Int) = 0 then 0 else 1))) r) 0))))) → TZ G mX4_quantify (tl_rm 5 0 0) 0 0 kRg M J 59 [some (vR 31), some (vI h), some (vI f), some (vI v), some (vI y), some (vI w)] [] F1 M59 J59 (ZM G (zPost G kRg F1 M J (qI (fun x M' J' => RI M' J' ∧ M' 31 27 ≤ M 31 27 + 400 ∧ (((h < 0 ∨ 12 ≤ h ∨ f < 0 ∨ 12 ≤ f ∨ M 43 f = 0) ∧ x = -1 ∧ M' = M ∧ J' = J) ∨ (¬ (h < 0 ∨ 12 ≤ h ∨ f < 0 ∨ 12 ≤ f ∨ M 43 f = 0) ∧ (v < 0 ∨ 8 ≤ v) ∧ x = -2 ∧ M' = M ∧ J' = J) ∨ (¬ (h < 0 ∨ 12 ≤ h ∨ f < 0 ∨ 12 ≤ f ∨ M 43 f = 0) ∧ 0 ≤ v ∧ v < 8 ∧ finR M J h (okR M J E0 (fun r => phi J f (updI r (M 39 v) (if (0 : Int) = 0 then 0 else 1))) ∧ okR M J (E1 (fun r => phi J f (updI r (M 39 v) (if (0 : Int) = 0 then 0 else 1)))) (fun r => phi J f (updI r (M 39 v) (if (1 : Int) = 0 then 0 else 1))) ∧ okR M J (E2 (fun r => phi J f (updI r (M 39 v) (if (0 : Int) = 0 then 0 else 1))) (fun r => phi J f (updI r (M 39 v) (if (1 : Int) = 0 then 0 else 1)))) (fun r => tbl (tabF (if y = 0 then 5 else 4)) ((fun r => phi J f (updI r (M 39 v) (if (0 : Int) = 0 then 0 else 1))) r) ((fun r => phi J f (updI r (M 39 v) (if (1 : Int) = 0 then 0 else 1))) r) 0)) (fun r => tbl (tabF (if y = 0 then 5 else 4)) ((fun r => phi J f (updI r (M 39 v) (if (0 : Int) = 0 then 0 else 1))) r) ((fun r => phi J f (updI r (M 39 v) (if (1 : Int) = 0 then 0 else 1))) r) 0) x M' J'))))) 0 0) := by
      intro w M59 J59 i59_0 i59_1 i59_2 i59_3 i59_4 i59_5 i59_6
      refine Z_aload_n (n := 60) dX4_quantify_59 rfl rfl ?_
      refine Z_iload_n (n := 61) dX4_quantify_60 rfl rfl ?_
      refine Z_bipush (n := 63) dX4_quantify_61 rfl (by decide) (by decide) ?_
      refine Z_iload (n := 65) dX4_quantify_63 rfl rfl ?_
      refine Z_rg 31 8 rfl (fun gs8 gs8b => ?_)
      have i_u : w = 1 → M59 31 24 ≤ M59 31 8 := fun q => (i59_4 q).2
      refine Z_callVi (n := 68) [_, _, _] _ dX4_quantify_65 rfl cwX4_219 rfl rfl rfl (Nat.le_of_ble_eq_true rfl) (by refine ⟨?_, ?_, ?_, ?_⟩ <;> exact Nat.le_of_ble_eq_true rfl) (fun a h => by unfold kRg at h; unfold kTk; omega) (zX4_gets  (by omega) (by omega) (by omega) (by omega) (by omega) (by exact i59_0) (by exact fun q => ⟨(i59_4 q).1, by omega⟩) (by omega)) ?_
      intro x65 M65 J65 z65 f65 q65
      obtain ⟨ti65, hn65, am65, gx65⟩ := q65
      refine Z_fr (fun frR => ?_)
      refine Z_ok (fun okG => ?_)
      have fq := fin_r (by omega) (by omega) i59_1 i59_5 i59_6 ti65 okG gx65
      refine Z_iret dX4_quantify_68 rfl ?_
      exact ⟨RI_gets hr ok0 i59_1 (fun q => (i59_4 q).2) frR ti65 hn65 gx65, by omega, Or.inr (Or.inr ⟨by omega, by omega, by omega, fq⟩)⟩
    refine Z_aload_n (n := 19) dX4_quantify_18 rfl rfl ?_
    refine Z_iload_n (n := 20) dX4_quantify_19 rfl rfl ?_
    refine Z_iload_n (n := 21) dX4_quantify_20 rfl rfl ?_
    refine Z_callVi (n := 24) [_, _] _ dX4_quantify_21 rfl cwX4_234 rfl rfl rfl (Nat.le_of_ble_eq_true rfl) (by refine ⟨?_, ?_, ?_, ?_⟩ <;> exact Nat.le_of_ble_eq_true rfl) (fun _ h => h) (zX4_halves_g  (by omega) (by omega) (by omega) (by omega) (by exact hr) (by omega) (by exact hW)) ?_
    intro x21 M21 J21 z21 f21 q21
    obtain ⟨ti21, hd21, mk21, h5521, hx21, hl21⟩ := q21
    refine Z_rg 31 8 rfl (fun gh8 gh8b => ?_)
    refine Z_istore (L' := [_, _, _, _, _, _]) (n := 26) dX4_quantify_24 rfl (by decide) rfl rfl ?_
    refine Z_iload (n := 28) dX4_quantify_26 rfl rfl ?_
    refine Z_if_eq (n := 31) (t := 59) dX4_quantify_28 rfl (by decide) (fun c28 => ?_) (fun c28 => ?_)
    · have q0 := ti21
      have q1 := hd21
      have q4 : x21 = 1 → ¬ M21 43 55 = 0 ∧ M21 31 24 ≤ M21 31 8 := fun q => by omega
      have q5 := hl21.1
      have q6 : (x21 = 1 ∧ (okR M J E0 (fun r => phi J f (updI r (M 39 v) (if (0 : Int) = 0 then 0 else 1))) ∧ okR M J (E1 (fun r => phi J f (updI r (M 39 v) (if (0 : Int) = 0 then 0 else 1)))) (fun r => phi J f (updI r (M 39 v) (if (1 : Int) = 0 then 0 else 1))) ∧ okR M J (E2 (fun r => phi J f (updI r (M 39 v) (if (0 : Int) = 0 then 0 else 1))) (fun r => phi J f (updI r (M 39 v) (if (1 : Int) = 0 then 0 else 1)))) (fun r => tbl (tabF (if y = 0 then 5 else 4)) ((fun r => phi J f (updI r (M 39 v) (if (0 : Int) = 0 then 0 else 1))) r) ((fun r => phi J f (updI r (M 39 v) (if (1 : Int) = 0 then 0 else 1))) r) 0)) ∧ phi J21 55 = (fun r => tbl (tabF (if y = 0 then 5 else 4)) ((fun r => phi J f (updI r (M 39 v) (if (0 : Int) = 0 then 0 else 1))) r) ((fun r => phi J f (updI r (M 39 v) (if (1 : Int) = 0 then 0 else 1))) r) 0)) ∨ (x21 = 0 ∧ ¬ (okR M J E0 (fun r => phi J f (updI r (M 39 v) (if (0 : Int) = 0 then 0 else 1))) ∧ okR M J (E1 (fun r => phi J f (updI r (M 39 v) (if (0 : Int) = 0 then 0 else 1)))) (fun r => phi J f (updI r (M 39 v) (if (1 : Int) = 0 then 0 else 1))) ∧ okR M J (E2 (fun r => phi J f (updI r (M 39 v) (if (0 : Int) = 0 then 0 else 1))) (fun r => phi J f (updI r (M 39 v) (if (1 : Int) = 0 then 0 else 1)))) (fun r => tbl (tabF (if y = 0 then 5 else 4)) ((fun r => phi J f (updI r (M 39 v) (if (0 : Int) = 0 then 0 else 1))) r) ((fun r => phi J f (updI r (M 39 v) (if (1 : Int) = 0 then 0 else 1))) r) 0))) := by
        rcases hl21.2.2 with ⟨a, -⟩ | ⟨a, b⟩
        · omega
        · exact Or.inr ⟨a, fun t => b ⟨t.1, t.2.1⟩⟩
      refine Z_loc (L' := [some _, some _, some _, some _, some _, some _]) (lsub_same (lsub_same (lsub_same (lsub_same (lsub_same (lsub_same lsub_nil)))))) ?_
      exact ct59 _ _ _ (by exact q0) (by exact q1) (by omega) (by omega) (by exact q4) (by exact q5) (by exact q6)
    · refine Z_aload_n (n := 32) dX4_quantify_31 rfl rfl ?_
      refine Z_bipush (n := 34) dX4_quantify_32 rfl (by decide) (by decide) ?_
      refine Z_iload (n := 36) dX4_quantify_34 rfl rfl ?_
      refine Z_if_eq (n := 39) (t := 43) dX4_quantify_36 rfl (by decide) (fun c36 => ?_) (fun c36 => ?_)
      · refine Z_iconst (n := 44) dX4_quantify_43 rfl (by decide) ?_
        refine Z_bipush (n := 46) dX4_quantify_44 rfl (by decide) (by decide) ?_
        refine Z_bipush (n := 48) dX4_quantify_46 rfl (by decide) (by decide) ?_
        refine Z_callVv (n := 51) [_, _, _, _] _ dX4_quantify_48 rfl cwX4_204 rfl rfl rfl (Nat.le_of_ble_eq_true rfl) (by refine ⟨?_, ?_, ?_, ?_⟩ <;> exact Nat.le_of_ble_eq_true rfl) (fun a h => by unfold kRg at h; unfold kBits; omega) (zX4_makeOf_f  (by omega) (by omega) (by omega) (by omega) (by omega) (by omega)) ?_
        intro M48 J48 f48 q48
        obtain ⟨e48_1, vb48, vo48⟩ := q48
        replace e48_1 := e48_1.symm; subst e48_1
        refine Z_aload_n (n := 52) dX4_quantify_51 rfl rfl ?_
        refine Z_bipush (n := 54) dX4_quantify_52 rfl (by decide) (by decide) ?_
        refine Z_callVi (n := 57) [_] _ dX4_quantify_54 rfl cwX4_207 rfl rfl rfl (Nat.le_of_ble_eq_true rfl) (by refine ⟨?_, ?_, ?_, ?_⟩ <;> exact Nat.le_of_ble_eq_true rfl) (fun a h => by unfold kRg at h; unfold kAd; omega) (zX4_steps  (by omega) (by omega) (by exact TI_bits ti21 h5521 (f48 48 (by decide)).2 vo48) (by exact h5521) (by omega) (by omega)) ?_
        intro x54 M54 J54 z54 f54 q54
        obtain ⟨ti54, ah54, am54, au54, af54, xs54⟩ := q54
        refine Z_ok (fun okS => ?_)
        have q0 := ti54
        have q1 : hdl M M54 := hdl_t hd21 (hdl_a af54 (by decide))
        have q4 : x54 = 1 → ¬ M54 43 55 = 0 ∧ M54 31 24 ≤ M54 31 8 := fun q => ⟨ah54, by omega⟩
        obtain ⟨jh, e8h, hh⟩ := hl21
        obtain ⟨-, okh, ⟨p53, p54⟩, lh⟩ := hh.resolve_right (fun q => by omega)
        have hF : phi J48 55 = (fun r => tbl (tabF (if y = 0 then 5 else 4)) ((fun r => phi J f (updI r (M 39 v) (if (0 : Int) = 0 then 0 else 1))) r) ((fun r => phi J f (updI r (M 39 v) (if (1 : Int) = 0 then 0 else 1))) r) 0) := by
          refine (phi_of (by omega) (by omega) vb48).trans ?_
          rw [p53, p54]
          first
            | (rw [if_pos (show y = 0 by omega)]; rfl)
            | (rw [if_neg (show ¬ y = 0 by omega)]; rfl)
        have hL : ∀ y, (LBr M21 J48 y ∨ laid (phi J48 55) y) ↔ ((LBr M J y ∨ (E2 (fun r => phi J f (updI r (M 39 v) (if (0 : Int) = 0 then 0 else 1))) (fun r => phi J f (updI r (M 39 v) (if (1 : Int) = 0 then 0 else 1)))) y) ∨ laid (phi J48 55) y) := fun y => or_congr ((lbr_b h5521 vo48 y).trans (lh y)) Iff.rfl
        obtain ⟨so, -⟩ := st_ok (E := E2 (fun r => phi J f (updI r (M 39 v) (if (0 : Int) = 0 then 0 else 1))) (fun r => phi J f (updI r (M 39 v) (if (1 : Int) = 0 then 0 else 1)))) (by decide) (by decide) ti54 okS ah54 af54 (f54 44 (by decide)).2 e8h hL xs54
        rw [hF] at so
        have q5 : ∀ j : Int, j < 48 → J54 44 j = J 44 j := fun j hj => (congrFun (f54 44 (by decide)).2 j).trans ((vo48 j (by omega)).trans (jh j hj))
        have q6 : (x54 = 1 ∧ (okR M J E0 (fun r => phi J f (updI r (M 39 v) (if (0 : Int) = 0 then 0 else 1))) ∧ okR M J (E1 (fun r => phi J f (updI r (M 39 v) (if (0 : Int) = 0 then 0 else 1)))) (fun r => phi J f (updI r (M 39 v) (if (1 : Int) = 0 then 0 else 1))) ∧ okR M J (E2 (fun r => phi J f (updI r (M 39 v) (if (0 : Int) = 0 then 0 else 1))) (fun r => phi J f (updI r (M 39 v) (if (1 : Int) = 0 then 0 else 1)))) (fun r => tbl (tabF (if y = 0 then 5 else 4)) ((fun r => phi J f (updI r (M 39 v) (if (0 : Int) = 0 then 0 else 1))) r) ((fun r => phi J f (updI r (M 39 v) (if (1 : Int) = 0 then 0 else 1))) r) 0)) ∧ phi J54 55 = (fun r => tbl (tabF (if y = 0 then 5 else 4)) ((fun r => phi J f (updI r (M 39 v) (if (0 : Int) = 0 then 0 else 1))) r) ((fun r => phi J f (updI r (M 39 v) (if (1 : Int) = 0 then 0 else 1))) r) 0)) ∨ (x54 = 0 ∧ ¬ (okR M J E0 (fun r => phi J f (updI r (M 39 v) (if (0 : Int) = 0 then 0 else 1))) ∧ okR M J (E1 (fun r => phi J f (updI r (M 39 v) (if (0 : Int) = 0 then 0 else 1)))) (fun r => phi J f (updI r (M 39 v) (if (1 : Int) = 0 then 0 else 1))) ∧ okR M J (E2 (fun r => phi J f (updI r (M 39 v) (if (0 : Int) = 0 then 0 else 1))) (fun r => phi J f (updI r (M 39 v) (if (1 : Int) = 0 then 0 else 1)))) (fun r => tbl (tabF (if y = 0 then 5 else 4)) ((fun r => phi J f (updI r (M 39 v) (if (0 : Int) = 0 then 0 else 1))) r) ((fun r => phi J f (updI r (M 39 v) (if (1 : Int) = 0 then 0 else 1))) r) 0))) := by
          rcases so with ⟨a, b⟩ | ⟨a, b⟩
          · exact Or.inl ⟨a, ⟨okh.1, okh.2, b⟩, (phi_cg (fun k _ _ => by rw [(f54 44 (by decide)).2])).trans hF⟩
          · exact Or.inr ⟨a, fun t => b t.2.2⟩
        clear so hL hh
        refine Z_istore (L' := [_, _, _, _, _, _]) (n := 59) dX4_quantify_57 rfl (by decide) rfl rfl ?_
        refine Z_loc (L' := [some _, some _, some _, some _, some _, some _]) (lsub_same (lsub_same (lsub_same (lsub_same (lsub_same (lsub_same lsub_nil)))))) ?_
        exact ct59 _ _ _ (by exact q0) (by exact q1) (by omega) (by omega) (by exact q4) (by exact q5) (by exact q6)
      · refine Z_iconst (n := 40) dX4_quantify_39 rfl (by decide) ?_
        refine Z_goto (t := 44) dX4_quantify_40 (by decide) ?_
        refine Z_bipush (n := 46) dX4_quantify_44 rfl (by decide) (by decide) ?_
        refine Z_bipush (n := 48) dX4_quantify_46 rfl (by decide) (by decide) ?_
        refine Z_callVv (n := 51) [_, _, _, _] _ dX4_quantify_48 rfl cwX4_204 rfl rfl rfl (Nat.le_of_ble_eq_true rfl) (by refine ⟨?_, ?_, ?_, ?_⟩ <;> exact Nat.le_of_ble_eq_true rfl) (fun a h => by unfold kRg at h; unfold kBits; omega) (zX4_makeOf_f  (by omega) (by omega) (by omega) (by omega) (by omega) (by omega)) ?_
        intro M48 J48 f48 q48
        obtain ⟨e48_1, vb48, vo48⟩ := q48
        replace e48_1 := e48_1.symm; subst e48_1
        refine Z_aload_n (n := 52) dX4_quantify_51 rfl rfl ?_
        refine Z_bipush (n := 54) dX4_quantify_52 rfl (by decide) (by decide) ?_
        refine Z_callVi (n := 57) [_] _ dX4_quantify_54 rfl cwX4_207 rfl rfl rfl (Nat.le_of_ble_eq_true rfl) (by refine ⟨?_, ?_, ?_, ?_⟩ <;> exact Nat.le_of_ble_eq_true rfl) (fun a h => by unfold kRg at h; unfold kAd; omega) (zX4_steps  (by omega) (by omega) (by exact TI_bits ti21 h5521 (f48 48 (by decide)).2 vo48) (by exact h5521) (by omega) (by omega)) ?_
        intro x54 M54 J54 z54 f54 q54
        obtain ⟨ti54, ah54, am54, au54, af54, xs54⟩ := q54
        refine Z_ok (fun okS => ?_)
        have q0 := ti54
        have q1 : hdl M M54 := hdl_t hd21 (hdl_a af54 (by decide))
        have q4 : x54 = 1 → ¬ M54 43 55 = 0 ∧ M54 31 24 ≤ M54 31 8 := fun q => ⟨ah54, by omega⟩
        obtain ⟨jh, e8h, hh⟩ := hl21
        obtain ⟨-, okh, ⟨p53, p54⟩, lh⟩ := hh.resolve_right (fun q => by omega)
        have hF : phi J48 55 = (fun r => tbl (tabF (if y = 0 then 5 else 4)) ((fun r => phi J f (updI r (M 39 v) (if (0 : Int) = 0 then 0 else 1))) r) ((fun r => phi J f (updI r (M 39 v) (if (1 : Int) = 0 then 0 else 1))) r) 0) := by
          refine (phi_of (by omega) (by omega) vb48).trans ?_
          rw [p53, p54]
          first
            | (rw [if_pos (show y = 0 by omega)]; rfl)
            | (rw [if_neg (show ¬ y = 0 by omega)]; rfl)
        have hL : ∀ y, (LBr M21 J48 y ∨ laid (phi J48 55) y) ↔ ((LBr M J y ∨ (E2 (fun r => phi J f (updI r (M 39 v) (if (0 : Int) = 0 then 0 else 1))) (fun r => phi J f (updI r (M 39 v) (if (1 : Int) = 0 then 0 else 1)))) y) ∨ laid (phi J48 55) y) := fun y => or_congr ((lbr_b h5521 vo48 y).trans (lh y)) Iff.rfl
        obtain ⟨so, -⟩ := st_ok (E := E2 (fun r => phi J f (updI r (M 39 v) (if (0 : Int) = 0 then 0 else 1))) (fun r => phi J f (updI r (M 39 v) (if (1 : Int) = 0 then 0 else 1)))) (by decide) (by decide) ti54 okS ah54 af54 (f54 44 (by decide)).2 e8h hL xs54
        rw [hF] at so
        have q5 : ∀ j : Int, j < 48 → J54 44 j = J 44 j := fun j hj => (congrFun (f54 44 (by decide)).2 j).trans ((vo48 j (by omega)).trans (jh j hj))
        have q6 : (x54 = 1 ∧ (okR M J E0 (fun r => phi J f (updI r (M 39 v) (if (0 : Int) = 0 then 0 else 1))) ∧ okR M J (E1 (fun r => phi J f (updI r (M 39 v) (if (0 : Int) = 0 then 0 else 1)))) (fun r => phi J f (updI r (M 39 v) (if (1 : Int) = 0 then 0 else 1))) ∧ okR M J (E2 (fun r => phi J f (updI r (M 39 v) (if (0 : Int) = 0 then 0 else 1))) (fun r => phi J f (updI r (M 39 v) (if (1 : Int) = 0 then 0 else 1)))) (fun r => tbl (tabF (if y = 0 then 5 else 4)) ((fun r => phi J f (updI r (M 39 v) (if (0 : Int) = 0 then 0 else 1))) r) ((fun r => phi J f (updI r (M 39 v) (if (1 : Int) = 0 then 0 else 1))) r) 0)) ∧ phi J54 55 = (fun r => tbl (tabF (if y = 0 then 5 else 4)) ((fun r => phi J f (updI r (M 39 v) (if (0 : Int) = 0 then 0 else 1))) r) ((fun r => phi J f (updI r (M 39 v) (if (1 : Int) = 0 then 0 else 1))) r) 0)) ∨ (x54 = 0 ∧ ¬ (okR M J E0 (fun r => phi J f (updI r (M 39 v) (if (0 : Int) = 0 then 0 else 1))) ∧ okR M J (E1 (fun r => phi J f (updI r (M 39 v) (if (0 : Int) = 0 then 0 else 1)))) (fun r => phi J f (updI r (M 39 v) (if (1 : Int) = 0 then 0 else 1))) ∧ okR M J (E2 (fun r => phi J f (updI r (M 39 v) (if (0 : Int) = 0 then 0 else 1))) (fun r => phi J f (updI r (M 39 v) (if (1 : Int) = 0 then 0 else 1)))) (fun r => tbl (tabF (if y = 0 then 5 else 4)) ((fun r => phi J f (updI r (M 39 v) (if (0 : Int) = 0 then 0 else 1))) r) ((fun r => phi J f (updI r (M 39 v) (if (1 : Int) = 0 then 0 else 1))) r) 0))) := by
          rcases so with ⟨a, b⟩ | ⟨a, b⟩
          · exact Or.inl ⟨a, ⟨okh.1, okh.2, b⟩, (phi_cg (fun k _ _ => by rw [(f54 44 (by decide)).2])).trans hF⟩
          · exact Or.inr ⟨a, fun t => b t.2.2⟩
        clear so hL hh
        refine Z_istore (L' := [_, _, _, _, _, _]) (n := 59) dX4_quantify_57 rfl (by decide) rfl rfl ?_
        refine Z_loc (L' := [some _, some _, some _, some _, some _, some _]) (lsub_same (lsub_same (lsub_same (lsub_same (lsub_same (lsub_same lsub_nil)))))) ?_
        exact ct59 _ _ _ (by exact q0) (by exact q1) (by omega) (by omega) (by exact q4) (by exact q5) (by exact q6)
  · refine Z_aload_n (n := 11) dX4_quantify_10 rfl rfl ?_
    refine Z_iload_n (n := 12) dX4_quantify_11 rfl rfl ?_
    refine Z_iload_n (n := 13) dX4_quantify_12 rfl rfl ?_
    refine Z_iload_n (n := 14) dX4_quantify_13 rfl rfl ?_
    refine Z_callVi (n := 17) [_, _, _] _ dX4_quantify_14 rfl cwX4_226 rfl rfl rfl (Nat.le_of_ble_eq_true rfl) (by refine ⟨?_, ?_, ?_, ?_⟩ <;> exact Nat.le_of_ble_eq_true rfl) (fun _ _ => trivial) (zX4_noHalf  ) ?_
    intro x14 M14 J14 z14 f14 q14
    obtain ⟨e14_1, e14_2, h14⟩ := q14
    replace e14_1 := e14_1.symm; subst e14_1
    replace e14_2 := e14_2.symm; subst e14_2
    refine Z_iret dX4_quantify_17 rfl ?_
    by_cases hz : h < 0 ∨ 12 ≤ h ∨ f < 0 ∨ 12 ≤ f ∨ M 43 f = 0
    · exact ⟨hr, by omega, Or.inl ⟨hz, by omega, rfl, rfl⟩⟩
    · exact ⟨hr, by omega, Or.inr (Or.inl ⟨hz, by omega, by omega, rfl, rfl⟩)⟩
set_option maxRecDepth 20000 in
theorem zX4_compose_g {G : tl_G} {M : zM} {J : zJ} {h f v g : Int} (hr : RI M J) (hk : M 31 27 ≤ 2000000000) (hW : whOK J) : ZN G yX4_compose mX4_compose 5 kRg [vR 31, vI h, vI f, vI v, vI g] F1 M J (qI (fun x M' J' => RI M' J' ∧ M' 31 27 ≤ M 31 27 + 400 ∧ (((h < 0 ∨ 12 ≤ h ∨ f < 0 ∨ 12 ≤ f ∨ M 43 f = 0 ∨ g < 0 ∨ 12 ≤ g ∨ M 43 g = 0) ∧ x = -1 ∧ M' = M ∧ J' = J) ∨ (¬ (h < 0 ∨ 12 ≤ h ∨ f < 0 ∨ 12 ≤ f ∨ M 43 f = 0 ∨ g < 0 ∨ 12 ≤ g ∨ M 43 g = 0) ∧ (v < 0 ∨ 8 ≤ v) ∧ x = -2 ∧ M' = M ∧ J' = J) ∨ (¬ (h < 0 ∨ 12 ≤ h ∨ f < 0 ∨ 12 ≤ f ∨ M 43 f = 0 ∨ g < 0 ∨ 12 ≤ g ∨ M 43 g = 0) ∧ 0 ≤ v ∧ v < 8 ∧ finR M J h (okR M J E0 (fun r => phi J f (updI r (M 39 v) (if (0 : Int) = 0 then 0 else 1))) ∧ okR M J (E1 (fun r => phi J f (updI r (M 39 v) (if (0 : Int) = 0 then 0 else 1)))) (fun r => phi J f (updI r (M 39 v) (if (1 : Int) = 0 then 0 else 1))) ∧ okR M J (E2 (fun r => phi J f (updI r (M 39 v) (if (0 : Int) = 0 then 0 else 1))) (fun r => phi J f (updI r (M 39 v) (if (1 : Int) = 0 then 0 else 1)))) (fun r => tbl (tabF 10) (phi J g r) ((fun r => phi J f (updI r (M 39 v) (if (1 : Int) = 0 then 0 else 1))) r) ((fun r => phi J f (updI r (M 39 v) (if (0 : Int) = 0 then 0 else 1))) r))) (fun r => tbl (tabF 10) (phi J g r) ((fun r => phi J f (updI r (M 39 v) (if (1 : Int) = 0 then 0 else 1))) r) ((fun r => phi J f (updI r (M 39 v) (if (0 : Int) = 0 then 0 else 1))) r)) x M' J')))) := by
  refine ZN_of (L := [_, _, _, _, _, _]) (by decide) rfl rfl (Nat.le_of_ble_eq_true rfl) rfl (fun hav => ?_)
  refine Z_ok (fun ok0 => ?_)
  refine Z_aload_n (n := 1) dX4_compose_0 rfl rfl ?_
  refine Z_iload_n (n := 2) dX4_compose_1 rfl rfl ?_
  refine Z_iload_n (n := 3) dX4_compose_2 rfl rfl ?_
  refine Z_iload_n (n := 4) dX4_compose_3 rfl rfl ?_
  refine Z_callVi (n := 7) [_, _, _] _ dX4_compose_4 rfl cwX4_226 rfl rfl rfl (Nat.le_of_ble_eq_true rfl) (by refine ⟨?_, ?_, ?_, ?_⟩ <;> exact Nat.le_of_ble_eq_true rfl) (fun _ _ => trivial) (zX4_noHalf  ) ?_
  intro x4 M4 J4 z4 f4 q4
  obtain ⟨e4_1, e4_2, h4⟩ := q4
  replace e4_1 := e4_1.symm; subst e4_1
  replace e4_2 := e4_2.symm; subst e4_2
  refine Z_iconst (n := 8) dX4_compose_7 rfl (by decide) ?_
  refine Z_icmp_eq (n := 11) (t := 20) dX4_compose_8 rfl (by decide) (fun c8 => ?_) (fun c8 => ?_)
  · refine Z_iconst (n := 21) dX4_compose_20 rfl (by decide) ?_
    refine Z_iret dX4_compose_21 rfl ?_
    exact ⟨hr, by omega, Or.inl ⟨by omega, rfl, rfl, rfl⟩⟩
  · refine Z_aload_n (n := 12) dX4_compose_11 rfl rfl ?_
    refine Z_iload (n := 14) dX4_compose_12 rfl rfl ?_
    refine Z_callVi (n := 17) [_] _ dX4_compose_14 rfl cwX4_223 rfl rfl rfl (Nat.le_of_ble_eq_true rfl) (by refine ⟨?_, ?_, ?_, ?_⟩ <;> exact Nat.le_of_ble_eq_true rfl) (fun _ _ => trivial) (zX4_isFunction  ) ?_
    intro x14 M14 J14 z14 f14 q14
    obtain ⟨e14_1, e14_2, h14⟩ := q14
    replace e14_1 := e14_1.symm; subst e14_1
    replace e14_2 := e14_2.symm; subst e14_2
    refine Z_if_ne (n := 20) (t := 22) dX4_compose_17 rfl (by decide) (fun c17 => ?_) (fun c17 => ?_)
    · refine Z_iload_n (n := 23) dX4_compose_22 rfl rfl ?_
      refine Z_iconst (n := 24) dX4_compose_23 rfl (by decide) ?_
      refine Z_bipush (n := 26) dX4_compose_24 rfl (by decide) (by decide) ?_
      refine Z_callSi (n := 29) [_, _, _] _ dX4_compose_26 rfl cwX4_112 rfl rfl (Nat.le_of_ble_eq_true rfl) (by refine ⟨?_, ?_, ?_, ?_⟩ <;> exact Nat.le_of_ble_eq_true rfl) (fun _ _ => trivial) (zX4_in  ) ?_
      intro x26 M26 J26 z26 f26 q26
      obtain ⟨e26_1, e26_2, h26⟩ := q26
      replace e26_1 := e26_1.symm; subst e26_1
      replace e26_2 := e26_2.symm; subst e26_2
      refine Z_if_ne (n := 32) (t := 35) dX4_compose_29 rfl (by decide) (fun c29 => ?_) (fun c29 => ?_)
      · have ct68 : ∀ (w : Int) (M68 : zM) (J68 : zJ), (TI M68 J68) → (hdl M M68) → (M68 31 27 ≤ M 31 27 + 3) → (w = 0 ∨ w = 1) → (w = 1 → ¬ M68 43 55 = 0 ∧ M68 31 24 ≤ M68 31 8) → (∀ j : Int, j < 48 → J68 44 j = J 44 j) → (((w = 1 ∧ (okR M J E0 (fun r => phi J f (updI r (M 39 v) (if (0 : Int) = 0 then 0 else 1))) ∧ okR M J (E1 (fun r => phi J f (updI r (M 39 v) (if (0 : Int) = 0 then 0 else 1)))) (fun r => phi J f (updI r (M 39 v) (if (1 : Int) = 0 then 0 else 1))) ∧ okR M J (E2 (fun r => phi J f (updI r (M 39 v) (if (0 : Int) = 0 then 0 else 1))) (fun r => phi J f (updI r (M 39 v) (if (1 : Int) = 0 then 0 else 1)))) (fun r => tbl (tabF 10) (phi J g r) ((fun r => phi J f (updI r (M 39 v) (if (1 : Int) = 0 then 0 else 1))) r) ((fun r => phi J f (updI r (M 39 v) (if (0 : Int) = 0 then 0 else 1))) r))) ∧ phi J68 55 = (fun r => tbl (tabF 10) (phi J g r) ((fun r => phi J f (updI r (M 39 v) (if (1 : Int) = 0 then 0 else 1))) r) ((fun r => phi J f (updI r (M 39 v) (if (0 : Int) = 0 then 0 else 1))) r))) ∨ (w = 0 ∧ ¬ (okR M J E0 (fun r => phi J f (updI r (M 39 v) (if (0 : Int) = 0 then 0 else 1))) ∧ okR M J (E1 (fun r => phi J f (updI r (M 39 v) (if (0 : Int) = 0 then 0 else 1)))) (fun r => phi J f (updI r (M 39 v) (if (1 : Int) = 0 then 0 else 1))) ∧ okR M J (E2 (fun r => phi J f (updI r (M 39 v) (if (0 : Int) = 0 then 0 else 1))) (fun r => phi J f (updI r (M 39 v) (if (1 : Int) = 0 then 0 else 1)))) (fun r => tbl (tabF 10) (phi J g r) ((fun r => phi J f (updI r (M 39 v) (if (1 : Int) = 0 then 0 else 1))) r) ((fun r => phi J f (updI r (M 39 v) (if (0 : Int) = 0 then 0 else 1))) r)))))) → TZ G mX4_compose (tl_rm 5 0 0) 0 0 kRg M J 68 [some (vR 31), some (vI h), some (vI f), some (vI v), some (vI g), some (vI w)] [] F1 M68 J68 (ZM G (zPost G kRg F1 M J (qI (fun x M' J' => RI M' J' ∧ M' 31 27 ≤ M 31 27 + 400 ∧ (((h < 0 ∨ 12 ≤ h ∨ f < 0 ∨ 12 ≤ f ∨ M 43 f = 0 ∨ g < 0 ∨ 12 ≤ g ∨ M 43 g = 0) ∧ x = -1 ∧ M' = M ∧ J' = J) ∨ (¬ (h < 0 ∨ 12 ≤ h ∨ f < 0 ∨ 12 ≤ f ∨ M 43 f = 0 ∨ g < 0 ∨ 12 ≤ g ∨ M 43 g = 0) ∧ (v < 0 ∨ 8 ≤ v) ∧ x = -2 ∧ M' = M ∧ J' = J) ∨ (¬ (h < 0 ∨ 12 ≤ h ∨ f < 0 ∨ 12 ≤ f ∨ M 43 f = 0 ∨ g < 0 ∨ 12 ≤ g ∨ M 43 g = 0) ∧ 0 ≤ v ∧ v < 8 ∧ finR M J h (okR M J E0 (fun r => phi J f (updI r (M 39 v) (if (0 : Int) = 0 then 0 else 1))) ∧ okR M J (E1 (fun r => phi J f (updI r (M 39 v) (if (0 : Int) = 0 then 0 else 1)))) (fun r => phi J f (updI r (M 39 v) (if (1 : Int) = 0 then 0 else 1))) ∧ okR M J (E2 (fun r => phi J f (updI r (M 39 v) (if (0 : Int) = 0 then 0 else 1))) (fun r => phi J f (updI r (M 39 v) (if (1 : Int) = 0 then 0 else 1)))) (fun r => tbl (tabF 10) (phi J g r) ((fun r => phi J f (updI r (M 39 v) (if (1 : Int) = 0 then 0 else 1))) r) ((fun r => phi J f (updI r (M 39 v) (if (0 : Int) = 0 then 0 else 1))) r))) (fun r => tbl (tabF 10) (phi J g r) ((fun r => phi J f (updI r (M 39 v) (if (1 : Int) = 0 then 0 else 1))) r) ((fun r => phi J f (updI r (M 39 v) (if (0 : Int) = 0 then 0 else 1))) r)) x M' J'))))) 0 0) := by
          intro w M68 J68 i68_0 i68_1 i68_2 i68_3 i68_4 i68_5 i68_6
          refine Z_aload_n (n := 69) dX4_compose_68 rfl rfl ?_
          refine Z_iload_n (n := 70) dX4_compose_69 rfl rfl ?_
          refine Z_bipush (n := 72) dX4_compose_70 rfl (by decide) (by decide) ?_
          refine Z_iload (n := 74) dX4_compose_72 rfl rfl ?_
          refine Z_rg 31 8 rfl (fun gs8 gs8b => ?_)
          have i_u : w = 1 → M68 31 24 ≤ M68 31 8 := fun q => (i68_4 q).2
          refine Z_callVi (n := 77) [_, _, _] _ dX4_compose_74 rfl cwX4_219 rfl rfl rfl (Nat.le_of_ble_eq_true rfl) (by refine ⟨?_, ?_, ?_, ?_⟩ <;> exact Nat.le_of_ble_eq_true rfl) (fun a h => by unfold kRg at h; unfold kTk; omega) (zX4_gets  (by omega) (by omega) (by omega) (by omega) (by omega) (by exact i68_0) (by exact fun q => ⟨(i68_4 q).1, by omega⟩) (by omega)) ?_
          intro x74 M74 J74 z74 f74 q74
          obtain ⟨ti74, hn74, am74, gx74⟩ := q74
          refine Z_fr (fun frR => ?_)
          refine Z_ok (fun okG => ?_)
          have fq := fin_r (by omega) (by omega) i68_1 i68_5 i68_6 ti74 okG gx74
          refine Z_iret dX4_compose_77 rfl ?_
          exact ⟨RI_gets hr ok0 i68_1 (fun q => (i68_4 q).2) frR ti74 hn74 gx74, by omega, Or.inr (Or.inr ⟨by omega, by omega, by omega, fq⟩)⟩
        refine Z_aload_n (n := 36) dX4_compose_35 rfl rfl ?_
        refine Z_iload_n (n := 37) dX4_compose_36 rfl rfl ?_
        refine Z_iload_n (n := 38) dX4_compose_37 rfl rfl ?_
        refine Z_callVi (n := 41) [_, _] _ dX4_compose_38 rfl cwX4_234 rfl rfl rfl (Nat.le_of_ble_eq_true rfl) (by refine ⟨?_, ?_, ?_, ?_⟩ <;> exact Nat.le_of_ble_eq_true rfl) (fun _ h => h) (zX4_halves_g  (by omega) (by omega) (by omega) (by omega) (by exact hr) (by omega) (by exact hW)) ?_
        intro x38 M38 J38 z38 f38 q38
        obtain ⟨ti38, hd38, mk38, h5538, hx38, hl38⟩ := q38
        refine Z_rg 31 8 rfl (fun gh8 gh8b => ?_)
        refine Z_istore (L' := [_, _, _, _, _, _]) (n := 43) dX4_compose_41 rfl (by decide) rfl rfl ?_
        refine Z_iload (n := 45) dX4_compose_43 rfl rfl ?_
        refine Z_if_eq (n := 48) (t := 68) dX4_compose_45 rfl (by decide) (fun c45 => ?_) (fun c45 => ?_)
        · have q0 := ti38
          have q1 := hd38
          have q4 : x38 = 1 → ¬ M38 43 55 = 0 ∧ M38 31 24 ≤ M38 31 8 := fun q => by omega
          have q5 := hl38.1
          have q6 : (x38 = 1 ∧ (okR M J E0 (fun r => phi J f (updI r (M 39 v) (if (0 : Int) = 0 then 0 else 1))) ∧ okR M J (E1 (fun r => phi J f (updI r (M 39 v) (if (0 : Int) = 0 then 0 else 1)))) (fun r => phi J f (updI r (M 39 v) (if (1 : Int) = 0 then 0 else 1))) ∧ okR M J (E2 (fun r => phi J f (updI r (M 39 v) (if (0 : Int) = 0 then 0 else 1))) (fun r => phi J f (updI r (M 39 v) (if (1 : Int) = 0 then 0 else 1)))) (fun r => tbl (tabF 10) (phi J g r) ((fun r => phi J f (updI r (M 39 v) (if (1 : Int) = 0 then 0 else 1))) r) ((fun r => phi J f (updI r (M 39 v) (if (0 : Int) = 0 then 0 else 1))) r))) ∧ phi J38 55 = (fun r => tbl (tabF 10) (phi J g r) ((fun r => phi J f (updI r (M 39 v) (if (1 : Int) = 0 then 0 else 1))) r) ((fun r => phi J f (updI r (M 39 v) (if (0 : Int) = 0 then 0 else 1))) r))) ∨ (x38 = 0 ∧ ¬ (okR M J E0 (fun r => phi J f (updI r (M 39 v) (if (0 : Int) = 0 then 0 else 1))) ∧ okR M J (E1 (fun r => phi J f (updI r (M 39 v) (if (0 : Int) = 0 then 0 else 1)))) (fun r => phi J f (updI r (M 39 v) (if (1 : Int) = 0 then 0 else 1))) ∧ okR M J (E2 (fun r => phi J f (updI r (M 39 v) (if (0 : Int) = 0 then 0 else 1))) (fun r => phi J f (updI r (M 39 v) (if (1 : Int) = 0 then 0 else 1)))) (fun r => tbl (tabF 10) (phi J g r) ((fun r => phi J f (updI r (M 39 v) (if (1 : Int) = 0 then 0 else 1))) r) ((fun r => phi J f (updI r (M 39 v) (if (0 : Int) = 0 then 0 else 1))) r)))) := by
            rcases hl38.2.2 with ⟨a, -⟩ | ⟨a, b⟩
            · omega
            · exact Or.inr ⟨a, fun t => b ⟨t.1, t.2.1⟩⟩
          refine Z_loc (L' := [some _, some _, some _, some _, some _, some _]) (lsub_same (lsub_same (lsub_same (lsub_same (lsub_same (lsub_same lsub_nil)))))) ?_
          exact ct68 _ _ _ (by exact q0) (by exact q1) (by omega) (by omega) (by exact q4) (by exact q5) (by exact q6)
        · refine Z_aload_n (n := 49) dX4_compose_48 rfl rfl ?_
          refine Z_bipush (n := 51) dX4_compose_49 rfl (by decide) (by decide) ?_
          refine Z_iload (n := 53) dX4_compose_51 rfl rfl ?_
          refine Z_bipush (n := 55) dX4_compose_53 rfl (by decide) (by decide) ?_
          refine Z_bipush (n := 57) dX4_compose_55 rfl (by decide) (by decide) ?_
          refine Z_callVv (n := 60) [_, _, _, _] _ dX4_compose_57 rfl cwX4_200 rfl rfl rfl (Nat.le_of_ble_eq_true rfl) (by refine ⟨?_, ?_, ?_, ?_⟩ <;> exact Nat.le_of_ble_eq_true rfl) (fun a h => by unfold kRg at h; unfold kBits; omega) (zX4_makeChoice  (by omega) (by omega) (by omega) (by omega) (by omega) (by omega) (by omega) (by omega)) ?_
          intro M57 J57 f57 q57
          obtain ⟨e57_1, vb57, vo57⟩ := q57
          replace e57_1 := e57_1.symm; subst e57_1
          refine Z_aload_n (n := 61) dX4_compose_60 rfl rfl ?_
          refine Z_bipush (n := 63) dX4_compose_61 rfl (by decide) (by decide) ?_
          refine Z_callVi (n := 66) [_] _ dX4_compose_63 rfl cwX4_207 rfl rfl rfl (Nat.le_of_ble_eq_true rfl) (by refine ⟨?_, ?_, ?_, ?_⟩ <;> exact Nat.le_of_ble_eq_true rfl) (fun a h => by unfold kRg at h; unfold kAd; omega) (zX4_steps  (by omega) (by omega) (by exact TI_bits ti38 h5538 (f57 48 (by decide)).2 vo57) (by exact h5538) (by omega) (by omega)) ?_
          intro x63 M63 J63 z63 f63 q63
          obtain ⟨ti63, ah63, am63, au63, af63, xs63⟩ := q63
          refine Z_ok (fun okS => ?_)
          have q0 := ti63
          have q1 : hdl M M63 := hdl_t hd38 (hdl_a af63 (by decide))
          have q4 : x63 = 1 → ¬ M63 43 55 = 0 ∧ M63 31 24 ≤ M63 31 8 := fun q => ⟨ah63, by omega⟩
          obtain ⟨jh, e8h, hh⟩ := hl38
          obtain ⟨-, okh, ⟨p53, p54⟩, lh⟩ := hh.resolve_right (fun q => by omega)
          have hF : phi J57 55 = (fun r => tbl (tabF 10) (phi J g r) ((fun r => phi J f (updI r (M 39 v) (if (1 : Int) = 0 then 0 else 1))) r) ((fun r => phi J f (updI r (M 39 v) (if (0 : Int) = 0 then 0 else 1))) r)) := by
            refine (phi_ch vb57).trans ?_
            rw [p53, p54, phi_cg (J := J) (g := g) (fun k k0 k1 => jh _ (by omega))]
          have hL : ∀ y, (LBr M38 J57 y ∨ laid (phi J57 55) y) ↔ ((LBr M J y ∨ (E2 (fun r => phi J f (updI r (M 39 v) (if (0 : Int) = 0 then 0 else 1))) (fun r => phi J f (updI r (M 39 v) (if (1 : Int) = 0 then 0 else 1)))) y) ∨ laid (phi J57 55) y) := fun y => or_congr ((lbr_b h5538 vo57 y).trans (lh y)) Iff.rfl
          obtain ⟨so, -⟩ := st_ok (E := E2 (fun r => phi J f (updI r (M 39 v) (if (0 : Int) = 0 then 0 else 1))) (fun r => phi J f (updI r (M 39 v) (if (1 : Int) = 0 then 0 else 1)))) (by decide) (by decide) ti63 okS ah63 af63 (f63 44 (by decide)).2 e8h hL xs63
          rw [hF] at so
          have q5 : ∀ j : Int, j < 48 → J63 44 j = J 44 j := fun j hj => (congrFun (f63 44 (by decide)).2 j).trans ((vo57 j (by omega)).trans (jh j hj))
          have q6 : (x63 = 1 ∧ (okR M J E0 (fun r => phi J f (updI r (M 39 v) (if (0 : Int) = 0 then 0 else 1))) ∧ okR M J (E1 (fun r => phi J f (updI r (M 39 v) (if (0 : Int) = 0 then 0 else 1)))) (fun r => phi J f (updI r (M 39 v) (if (1 : Int) = 0 then 0 else 1))) ∧ okR M J (E2 (fun r => phi J f (updI r (M 39 v) (if (0 : Int) = 0 then 0 else 1))) (fun r => phi J f (updI r (M 39 v) (if (1 : Int) = 0 then 0 else 1)))) (fun r => tbl (tabF 10) (phi J g r) ((fun r => phi J f (updI r (M 39 v) (if (1 : Int) = 0 then 0 else 1))) r) ((fun r => phi J f (updI r (M 39 v) (if (0 : Int) = 0 then 0 else 1))) r))) ∧ phi J63 55 = (fun r => tbl (tabF 10) (phi J g r) ((fun r => phi J f (updI r (M 39 v) (if (1 : Int) = 0 then 0 else 1))) r) ((fun r => phi J f (updI r (M 39 v) (if (0 : Int) = 0 then 0 else 1))) r))) ∨ (x63 = 0 ∧ ¬ (okR M J E0 (fun r => phi J f (updI r (M 39 v) (if (0 : Int) = 0 then 0 else 1))) ∧ okR M J (E1 (fun r => phi J f (updI r (M 39 v) (if (0 : Int) = 0 then 0 else 1)))) (fun r => phi J f (updI r (M 39 v) (if (1 : Int) = 0 then 0 else 1))) ∧ okR M J (E2 (fun r => phi J f (updI r (M 39 v) (if (0 : Int) = 0 then 0 else 1))) (fun r => phi J f (updI r (M 39 v) (if (1 : Int) = 0 then 0 else 1)))) (fun r => tbl (tabF 10) (phi J g r) ((fun r => phi J f (updI r (M 39 v) (if (1 : Int) = 0 then 0 else 1))) r) ((fun r => phi J f (updI r (M 39 v) (if (0 : Int) = 0 then 0 else 1))) r)))) := by
            rcases so with ⟨a, b⟩ | ⟨a, b⟩
            · exact Or.inl ⟨a, ⟨okh.1, okh.2, b⟩, (phi_cg (fun k _ _ => by rw [(f63 44 (by decide)).2])).trans hF⟩
            · exact Or.inr ⟨a, fun t => b t.2.2⟩
          clear so hL hh
          refine Z_istore (L' := [_, _, _, _, _, _]) (n := 68) dX4_compose_66 rfl (by decide) rfl rfl ?_
          refine Z_loc (L' := [some _, some _, some _, some _, some _, some _]) (lsub_same (lsub_same (lsub_same (lsub_same (lsub_same (lsub_same lsub_nil)))))) ?_
          exact ct68 _ _ _ (by exact q0) (by exact q1) (by omega) (by omega) (by exact q4) (by exact q5) (by exact q6)
      · refine Z_bipush (n := 34) dX4_compose_32 rfl (by decide) (by decide) ?_
        refine Z_iret dX4_compose_34 rfl ?_
        exact ⟨hr, by omega, Or.inr (Or.inl ⟨by omega, by omega, rfl, rfl, rfl⟩)⟩
    · refine Z_iconst (n := 21) dX4_compose_20 rfl (by decide) ?_
      refine Z_iret dX4_compose_21 rfl ?_
      exact ⟨hr, by omega, Or.inl ⟨by omega, rfl, rfl, rfl⟩⟩
set_option maxRecDepth 20000 in
theorem zX4_share_g {G : tl_G} {M : zM} {J : zJ} {h f : Int} (hr : RI M J) (hk : M 31 27 ≤ 2000000000) : ZN G yX4_share mX4_share 5 kRg [vR 31, vI h, vI f] F1 M J (qI (fun x M' J' => RI M' J' ∧ M' 31 27 ≤ M 31 27 + 400 ∧ (((h < 0 ∨ 12 ≤ h ∨ f < 0 ∨ 12 ≤ f ∨ M 43 f = 0) ∧ x = -1 ∧ M' = M ∧ J' = J) ∨ (¬ (h < 0 ∨ 12 ≤ h ∨ f < 0 ∨ 12 ≤ f ∨ M 43 f = 0) ∧ x = 1 ∧ M' 31 8 = M 31 8 ∧ (¬ M' 43 h = 0 ∧ phi J' h = phi J f) ∧ ∀ j : Int, 0 ≤ j → j < 12 → j ≠ h → (M' 43 j = M 43 j ∧ phi J' j = phi J j))))) := by
  refine ZN_of (L := [_, _, _]) (by decide) rfl rfl (Nat.le_of_ble_eq_true rfl) rfl (fun hav => ?_)
  refine Z_iload_n (n := 1) dX4_share_0 rfl rfl ?_
  refine Z_callSi (n := 4) [_] _ dX4_share_1 rfl cwX4_210 rfl rfl (Nat.le_of_ble_eq_true rfl) (by refine ⟨?_, ?_, ?_, ?_⟩ <;> exact Nat.le_of_ble_eq_true rfl) (fun _ _ => trivial) (zX4_isHandle  ) ?_
  intro x1 M1 J1 z1 f1 q1
  obtain ⟨e1_1, e1_2, h1⟩ := q1
  replace e1_1 := e1_1.symm; subst e1_1
  replace e1_2 := e1_2.symm; subst e1_2
  refine Z_if_eq (n := 7) (t := 15) dX4_share_4 rfl (by decide) (fun c4 => ?_) (fun c4 => ?_)
  · refine Z_iconst (n := 16) dX4_share_15 rfl (by decide) ?_
    refine Z_iret dX4_share_16 rfl ?_
    exact ⟨hr, by omega, Or.inl ⟨by omega, rfl, rfl, rfl⟩⟩
  · refine Z_aload_n (n := 8) dX4_share_7 rfl rfl ?_
    refine Z_iload_n (n := 9) dX4_share_8 rfl rfl ?_
    refine Z_callVi (n := 12) [_] _ dX4_share_9 rfl cwX4_223 rfl rfl rfl (Nat.le_of_ble_eq_true rfl) (by refine ⟨?_, ?_, ?_, ?_⟩ <;> exact Nat.le_of_ble_eq_true rfl) (fun _ _ => trivial) (zX4_isFunction  ) ?_
    intro x9 M9 J9 z9 f9 q9
    obtain ⟨e9_1, e9_2, h9⟩ := q9
    replace e9_1 := e9_1.symm; subst e9_1
    replace e9_2 := e9_2.symm; subst e9_2
    refine Z_if_ne (n := 15) (t := 17) dX4_share_12 rfl (by decide) (fun c12 => ?_) (fun c12 => ?_)
    · refine Z_iload_n (n := 18) dX4_share_17 rfl rfl ?_
      refine Z_iload_n (n := 19) dX4_share_18 rfl rfl ?_
      refine Z_icmp_eq (n := 22) (t := 28) dX4_share_19 rfl (by decide) (fun c19 => ?_) (fun c19 => ?_)
      · have fin : RI M J ∧ M 31 27 ≤ M 31 27 + 400 ∧ M 31 8 = M 31 8 ∧ (¬ M 43 h = 0 ∧ phi J h = phi J f) ∧ ∀ j : Int, 0 ≤ j → j < 12 → j ≠ h → (M 43 j = M 43 j ∧ phi J j = phi J j) := ⟨hr, by omega, rfl, ⟨by rw [c19]; omega, by rw [c19]⟩, fun _ _ _ _ => ⟨rfl, rfl⟩⟩
        refine Z_iconst (n := 29) dX4_share_28 rfl (by decide) ?_
        refine Z_iret dX4_share_29 rfl ?_
        exact ⟨fin.1, fin.2.1, Or.inr ⟨by omega, rfl, fin.2.2⟩⟩
      · refine Z_aload_n (n := 23) dX4_share_22 rfl rfl ?_
        refine Z_iload_n (n := 24) dX4_share_23 rfl rfl ?_
        refine Z_iload_n (n := 25) dX4_share_24 rfl rfl ?_
        refine Z_rg 31 8 rfl (fun gs8 gs8b => ?_)
        have u0 := hr.2.2.1
        refine Z_callVv (n := 28) [_, _] _ dX4_share_25 rfl cwX4_182 rfl rfl rfl (Nat.le_of_ble_eq_true rfl) (by refine ⟨?_, ?_, ?_, ?_⟩ <;> exact Nat.le_of_ble_eq_true rfl) (fun a h => by unfold kRg at h; unfold kTk; omega) (zX4_take  (by omega) (by omega) (by omega) (by omega) (by omega) (by exact hr.1) (by omega) (by omega) (by omega)) ?_
        intro M25 J25 f25 q25
        obtain ⟨ti25, ah25, am25, au25, af25, b125, b225⟩ := q25
        refine Z_fr (fun frR => ?_)
        have e8 : M25 31 8 = M 31 8 := af25.2.2 8 (by decide) (by decide) (by decide) (by decide)
        have fin : RI M25 J25 ∧ M25 31 27 ≤ M 31 27 + 400 ∧ M25 31 8 = M 31 8 ∧ (¬ M25 43 h = 0 ∧ phi J25 h = phi J f) ∧ ∀ j : Int, 0 ≤ j → j < 12 → j ≠ h → (M25 43 j = M 43 j ∧ phi J25 j = phi J j) := ⟨RI_mk hr frR ti25 (fun g a b => ((af25.1 g (by omega)).2).trans (hr.2.1 g a b)) (by rw [e8]; omega), by omega, e8, ⟨ah25, phi_cg (fun k k0 k1 => b125 k k0 k1)⟩, fun j _ _ hj => ⟨(af25.1 j hj).2, phi_cg (fun k k0 k1 => b225 _ (by omega))⟩⟩
        refine Z_iconst (n := 29) dX4_share_28 rfl (by decide) ?_
        refine Z_iret dX4_share_29 rfl ?_
        exact ⟨fin.1, fin.2.1, Or.inr ⟨by omega, rfl, fin.2.2⟩⟩
    · refine Z_iconst (n := 16) dX4_share_15 rfl (by decide) ?_
      refine Z_iret dX4_share_16 rfl ?_
      exact ⟨hr, by omega, Or.inl ⟨by omega, rfl, rfl, rfl⟩⟩
set_option maxRecDepth 20000 in
theorem zX4_drop_g {G : tl_G} {M : zM} {J : zJ} {h : Int} (hr : RI M J) (hk : M 31 27 ≤ 2000000000) : ZN G yX4_drop mX4_drop 3 kRg [vR 31, vI h] F1 M J (qI (fun x M' J' => RI M' J' ∧ M' 31 27 ≤ M 31 27 + 400 ∧ (((h < 0 ∨ 12 ≤ h) ∧ x = -1 ∧ M' = M ∧ J' = J) ∨ (0 ≤ h ∧ h < 12 ∧ ((M 43 h = 0 ∧ x = 0) ∨ (¬ M 43 h = 0 ∧ x = 1)) ∧ M' 31 8 = M 31 8 ∧ M' 43 h = 0 ∧ ∀ j : Int, 0 ≤ j → j < 12 → j ≠ h → (M' 43 j = M 43 j ∧ phi J' j = phi J j))))) := by
  refine ZN_of (L := [_, _, _]) (by decide) rfl rfl (Nat.le_of_ble_eq_true rfl) rfl (fun hav => ?_)
  refine Z_iload_n (n := 1) dX4_drop_0 rfl rfl ?_
  refine Z_callSi (n := 4) [_] _ dX4_drop_1 rfl cwX4_210 rfl rfl (Nat.le_of_ble_eq_true rfl) (by refine ⟨?_, ?_, ?_, ?_⟩ <;> exact Nat.le_of_ble_eq_true rfl) (fun _ _ => trivial) (zX4_isHandle  ) ?_
  intro x1 M1 J1 z1 f1 q1
  obtain ⟨e1_1, e1_2, h1⟩ := q1
  replace e1_1 := e1_1.symm; subst e1_1
  replace e1_2 := e1_2.symm; subst e1_2
  refine Z_if_ne (n := 7) (t := 9) dX4_drop_4 rfl (by decide) (fun c4 => ?_) (fun c4 => ?_)
  · refine Z_aload_n (n := 10) dX4_drop_9 rfl rfl ?_
    refine Z_getA (n := 13) dX4_drop_10 rfl ffX4_44 rfl rfl ?_
    refine Z_iload_n (n := 14) dX4_drop_13 rfl rfl ?_
    refine Z_zald (n := 15) dX4_drop_14 rfl rfl rfl (by first | decide | assumption) (by omega) (by omega) (fun r14 s14 => ?_)
    refine Z_if_eq (n := 18) (t := 22) dX4_drop_15 rfl (by decide) (fun c15 => ?_) (fun c15 => ?_)
    · refine Z_iconst (n := 23) dX4_drop_22 rfl (by decide) ?_
      refine Z_istore_n (L' := [_, _, _]) (n := 24) dX4_drop_23 rfl (by decide) rfl rfl ?_
      refine Z_aload_n (n := 25) dX4_drop_24 rfl rfl ?_
      refine Z_iload_n (n := 26) dX4_drop_25 rfl rfl ?_
      refine Z_callVv (n := 29) [_] _ dX4_drop_26 rfl cwX4_179 rfl rfl rfl (Nat.le_of_ble_eq_true rfl) (by refine ⟨?_, ?_, ?_, ?_⟩ <;> exact Nat.le_of_ble_eq_true rfl) (fun a h => by unfold kRg at h; unfold kRv; omega) (zX4_remove  (by omega) (by omega) (by exact hr.1)) ?_
      intro M26 J26 f26 q26
      obtain ⟨ti26, ah26, am26, au26, af26⟩ := q26
      refine Z_iload_n (n := 30) dX4_drop_29 rfl rfl ?_
      refine Z_fr (fun frR => ?_)
      have u0 := hr.2.2.1
      have e8 : M26 31 8 = M 31 8 := af26.2.2 8 (by decide) (by decide) (by decide) (by decide)
      refine Z_iret dX4_drop_30 rfl ?_
      exact ⟨RI_mk hr frR ti26 (fun g a b => ((af26.1 g (by omega)).2).trans (hr.2.1 g a b)) (by rw [e8]; omega), by omega, Or.inr ⟨by omega, by omega, by omega, e8, ah26, fun j _ _ hj => ⟨(af26.1 j hj).2, phi_cg (fun k _ _ => by rw [(f26 44 (by decide)).2])⟩⟩⟩
    · refine Z_iconst (n := 19) dX4_drop_18 rfl (by decide) ?_
      refine Z_goto (t := 23) dX4_drop_19 (by decide) ?_
      refine Z_istore_n (L' := [_, _, _]) (n := 24) dX4_drop_23 rfl (by decide) rfl rfl ?_
      refine Z_aload_n (n := 25) dX4_drop_24 rfl rfl ?_
      refine Z_iload_n (n := 26) dX4_drop_25 rfl rfl ?_
      refine Z_callVv (n := 29) [_] _ dX4_drop_26 rfl cwX4_179 rfl rfl rfl (Nat.le_of_ble_eq_true rfl) (by refine ⟨?_, ?_, ?_, ?_⟩ <;> exact Nat.le_of_ble_eq_true rfl) (fun a h => by unfold kRg at h; unfold kRv; omega) (zX4_remove  (by omega) (by omega) (by exact hr.1)) ?_
      intro M26 J26 f26 q26
      obtain ⟨ti26, ah26, am26, au26, af26⟩ := q26
      refine Z_iload_n (n := 30) dX4_drop_29 rfl rfl ?_
      refine Z_fr (fun frR => ?_)
      have u0 := hr.2.2.1
      have e8 : M26 31 8 = M 31 8 := af26.2.2 8 (by decide) (by decide) (by decide) (by decide)
      refine Z_iret dX4_drop_30 rfl ?_
      exact ⟨RI_mk hr frR ti26 (fun g a b => ((af26.1 g (by omega)).2).trans (hr.2.1 g a b)) (by rw [e8]; omega), by omega, Or.inr ⟨by omega, by omega, by omega, e8, ah26, fun j _ _ hj => ⟨(af26.1 j hj).2, phi_cg (fun k _ _ => by rw [(f26 44 (by decide)).2])⟩⟩⟩
  · refine Z_iconst (n := 8) dX4_drop_7 rfl (by decide) ?_
    refine Z_iret dX4_drop_8 rfl ?_
    exact ⟨hr, by omega, Or.inl ⟨by omega, rfl, rfl, rfl⟩⟩
end
section
/-! ===== the class: share, drop, inUse, room ===== -/
/-- handles and room as they were -/
def hkp (M M' : zM) : Prop := CB M' ∧ M' 5 8 = M 5 8 ∧ ∀ j : Int, 0 ≤ j → j < 12 → (M' 12 j = M 12 j ∧ (M 12 j = -1 ∨ den M' (M 12 j) = den M (M 12 j)))
theorem hkp_0 {M : zM} (h : CB M) : hkp M M := ⟨h, rfl, fun _ _ _ => ⟨rfl, Or.inr rfl⟩⟩
/-- where only what does not count has changed -/
theorem CB_cg {M M1 : zM} (h07 : M1 0 7 = M 0 7) (h5 : M1 5 = M 5) (h6 : M1 6 = M 6) (h7 : M1 7 = M 7) (h8 : M1 8 = M 8) (h10 : M1 10 = M 10) (h11 : M1 11 = M 11) (h12 : M1 12 = M 12) (h13 : M1 13 = M 13) (h15 : M1 15 = M 15) (h : CB M) : CB M1 := by
  obtain ⟨⟨S, hS, hR⟩, hno, ng, n7⟩ := h
  have hrt : rt M1 = rt M := rt_cg h12 h13 h15 h07
  refine ⟨⟨S, plo_cg h5 h6 h7 h8 h10 h11 hS, fun x hx => hR x (by rw [← hrt]; exact hx)⟩, ?_, by rw [h13]; exact ng, by rw [h07]; exact n7⟩
  rw [LBc_cg h6 h7 h8 hrt, h5]
  exact hno
/-- a handle is set to what another one has, or to nothing -/
theorem CB_12 {M : zM} {h v : Int} (hb : CB M) (hv : v = -1 ∨ ∃ f : Int, (0 ≤ f ∧ f < 12) ∧ v = M 12 f) : CB (uz M 12 h v) := by
  obtain ⟨⟨S, hS, hR⟩, hno, ng, n7⟩ := hb
  have o : ∀ a : Nat, ¬ a = 12 → uz M 12 h v a = M a := fun a ha => uz_o ha
  have hd : den (uz M 12 h v) = den M := den_cg (o 6 (by decide)) (o 7 (by decide)) (o 8 (by decide))
  have hrt : ∀ z, rt (uz M 12 h v) z → z = -1 ∨ rt M z := fun z hz => by
    rcases hz with ⟨j, jb, q⟩ | ⟨g, gb, q⟩ | ⟨k, kb, q⟩
    · rw [uz_a] at q
      by_cases e : j = h
      · rw [if_pos e] at q
        rcases hv with w | ⟨f, fb, w⟩
        · exact Or.inl (q.trans w)
        · exact Or.inr (Or.inl ⟨f, fb, q.trans w⟩)
      · rw [if_neg e] at q
        exact Or.inr (Or.inl ⟨j, jb, q⟩)
    · rw [o 13 (by decide)] at q
      exact Or.inr (Or.inr (Or.inl ⟨g, gb, q⟩))
    · rw [o 0 (by decide)] at kb
      rw [o 15 (by decide)] at q
      exact Or.inr (Or.inr (Or.inr ⟨k, kb, q⟩))
  refine ⟨⟨S, plo_cg (o 5 (by decide)) (o 6 (by decide)) (o 7 (by decide)) (o 8 (by decide)) (o 10 (by decide)) (o 11 (by decide)) hS, fun z hz => ?_⟩, ?_, by rw [o 13 (by decide)]; exact ng, by rw [o 0 (by decide)]; exact n7⟩
  · rcases hrt z hz with q | q
    · exact Or.inl q
    · exact hR z q
  · rw [o 5 (by decide)]
    refine fun ho => hno (over_mono (fun y hy => ?_) ho)
    obtain ⟨z, a, b, c⟩ := hy
    rw [hd] at c
    exact ⟨z, (hrt z a).resolve_left b, b, c⟩
theorem plo_58 {M : zM} {S : Int → Prop} {n : Int} (h : plo M S) : plo (uz M 5 8 n) S := by
  obtain ⟨h1, ch, fl, h2⟩ := h
  refine ⟨pst_cg (uz_o (by decide)) (uz_o (by decide)) (uz_o (by decide)) h1, ch, fl, ?_⟩
  unfold tbC at *
  rw [uz_n (show (6 : Int) ≠ 8 by decide), uz_n (show (7 : Int) ≠ 8 by decide), uz_o (show (10 : Nat) ≠ 5 by decide), uz_o (show (11 : Nat) ≠ 5 by decide), uz_o (show (7 : Nat) ≠ 5 by decide), uz_o (show (8 : Nat) ≠ 5 by decide)]
  exact h2
def rmQ (M : zM) (n x : Int) (M' : zM) : Prop := ∃ u : Int, cnt (LBc M) u ∧ ((n < u ∧ x = -3 ∧ M' 5 8 = M 5 8) ∨ (u ≤ n ∧ x = M 5 8 ∧ M' 5 8 = n))
def hkr (M M' : zM) : Prop := CB M' ∧ M' 12 = M 12 ∧ den M' = den M
set_option maxRecDepth 20000 in
theorem zX3_share_f {G : tl_G} {M : zM} {J : zJ} {h f : Int} (hc : cI M) (hb : CB M) : ZN G yX3_share mX3_share 2 kPub [vR 0, vI h, vI f] F1 M J (qI (fun x M' J' => J' = J ∧ cI M' ∧ (((h < 0 ∨ 12 ≤ h ∨ f < 0 ∨ 12 ≤ f ∨ M 12 f = -1) ∧ x = -1 ∧ M' = M) ∨ (¬ (h < 0 ∨ 12 ≤ h ∨ f < 0 ∨ 12 ≤ f ∨ M 12 f = -1) ∧ x = 1 ∧ CB M' ∧ M' = uz M 12 h (M 12 f))))) := by
  refine ZN_of (L := [_, _, _]) (by decide) rfl rfl (Nat.le_of_ble_eq_true rfl) rfl (fun hav => ?_)
  refine Z_iload_n (n := 1) dX3_share_0 rfl rfl ?_
  refine Z_callSi (n := 4) [_] _ dX3_share_1 rfl cwX3_123 rfl rfl (Nat.le_of_ble_eq_true rfl) (by refine ⟨?_, ?_, ?_, ?_⟩ <;> exact Nat.le_of_ble_eq_true rfl) (fun _ _ => trivial) (zX3_isHandle  ) ?_
  intro x1 M1 J1 z1 f1 q1
  obtain ⟨e1_1, e1_2, h1⟩ := q1
  replace e1_1 := e1_1.symm; subst e1_1
  replace e1_2 := e1_2.symm; subst e1_2
  refine Z_if_eq (n := 7) (t := 15) dX3_share_4 rfl (by decide) (fun c4 => ?_) (fun c4 => ?_)
  · refine Z_iconst (n := 16) dX3_share_15 rfl (by decide) ?_
    refine Z_iret dX3_share_16 rfl ?_
    exact ⟨rfl, hc, Or.inl ⟨by omega, rfl, rfl⟩⟩
  · refine Z_aload_n (n := 8) dX3_share_7 rfl rfl ?_
    refine Z_iload_n (n := 9) dX3_share_8 rfl rfl ?_
    refine Z_callVi (n := 12) [_] _ dX3_share_9 rfl cwX3_139 rfl rfl (by first | rfl | exact nS0 (nA_at (by omega) (by omega))) (Nat.le_of_ble_eq_true rfl) (by refine ⟨?_, ?_, ?_, ?_⟩ <;> exact Nat.le_of_ble_eq_true rfl) (fun _ _ => trivial) (zX3_hasFunction  ) ?_
    intro x9 M9 J9 z9 f9 q9
    obtain ⟨e9_1, e9_2, h9⟩ := q9
    replace e9_1 := e9_1.symm; subst e9_1
    replace e9_2 := e9_2.symm; subst e9_2
    refine Z_if_ne (n := 15) (t := 17) dX3_share_12 rfl (by decide) (fun c12 => ?_) (fun c12 => ?_)
    · refine Z_aload_n (n := 18) dX3_share_17 rfl rfl ?_
      refine Z_getA (n := 21) dX3_share_18 rfl ffX3_29 (by first | rfl | exact nS0 (nA_at (by omega) (by omega))) (by first | rfl | exact nS0 (nA_at (by omega) (by omega))) ?_
      refine Z_iload_n (n := 22) dX3_share_21 rfl rfl ?_
      refine Z_aload_n (n := 23) dX3_share_22 rfl rfl ?_
      refine Z_getA (n := 26) dX3_share_23 rfl ffX3_29 (by first | rfl | exact nS0 (nA_at (by omega) (by omega))) (by first | rfl | exact nS0 (nA_at (by omega) (by omega))) ?_
      refine Z_iload_n (n := 27) dX3_share_26 rfl rfl ?_
      refine Z_iald (n := 28) dX3_share_27 rfl (by first | rfl | exact nS0 (nA_at (by omega) (by omega))) rfl (by first | decide | assumption) (by omega) (by omega) (fun r27 s27 => ?_)
      refine Z_iast (n := 29) dX3_share_28 rfl (by first | rfl | exact nS0 (nA_at (by omega) (by omega))) rfl (by first | decide | assumption) (by omega) (by omega) (by first | assumption | omega | decide) (by first | assumption | omega | decide) (by decide) ?_
      refine Z_iconst (n := 30) dX3_share_29 rfl (by decide) ?_
      refine Z_fr (fun frR => ?_)
      refine Z_iret dX3_share_30 rfl ?_
      exact ⟨rfl, cI_mk hc frR (pI_fr hc.1 (uz_o (by decide)) (uz_o (by decide)) (uz_o (by decide)) (uz_o (by decide))) (ordOK_fr hc.2.1 (uz_o (by decide))), Or.inr ⟨by omega, rfl, CB_12 hb (Or.inr ⟨f, ⟨by omega, by omega⟩, rfl⟩), rfl⟩⟩
    · refine Z_iconst (n := 16) dX3_share_15 rfl (by decide) ?_
      refine Z_iret dX3_share_16 rfl ?_
      exact ⟨rfl, hc, Or.inl ⟨by omega, rfl, rfl⟩⟩
set_option maxRecDepth 20000 in
theorem zX3_drop_f {G : tl_G} {M : zM} {J : zJ} {h : Int} (hc : cI M) (hb : CB M) : ZN G yX3_drop mX3_drop 1 kPub [vR 0, vI h] F1 M J (qI (fun x M' J' => J' = J ∧ cI M' ∧ (((h < 0 ∨ 12 ≤ h) ∧ x = -1 ∧ M' = M) ∨ (0 ≤ h ∧ h < 12 ∧ ((M 12 h = -1 ∧ x = 0) ∨ (¬ M 12 h = -1 ∧ x = 1)) ∧ CB M' ∧ M' = uz M 12 h (-1))))) := by
  refine ZN_of (L := [_, _, _]) (by decide) rfl rfl (Nat.le_of_ble_eq_true rfl) rfl (fun hav => ?_)
  refine Z_iload_n (n := 1) dX3_drop_0 rfl rfl ?_
  refine Z_callSi (n := 4) [_] _ dX3_drop_1 rfl cwX3_123 rfl rfl (Nat.le_of_ble_eq_true rfl) (by refine ⟨?_, ?_, ?_, ?_⟩ <;> exact Nat.le_of_ble_eq_true rfl) (fun _ _ => trivial) (zX3_isHandle  ) ?_
  intro x1 M1 J1 z1 f1 q1
  obtain ⟨e1_1, e1_2, h1⟩ := q1
  replace e1_1 := e1_1.symm; subst e1_1
  replace e1_2 := e1_2.symm; subst e1_2
  refine Z_if_ne (n := 7) (t := 9) dX3_drop_4 rfl (by decide) (fun c4 => ?_) (fun c4 => ?_)
  · refine Z_aload_n (n := 10) dX3_drop_9 rfl rfl ?_
    refine Z_getA (n := 13) dX3_drop_10 rfl ffX3_29 (by first | rfl | exact nS0 (nA_at (by omega) (by omega))) (by first | rfl | exact nS0 (nA_at (by omega) (by omega))) ?_
    refine Z_iload_n (n := 14) dX3_drop_13 rfl rfl ?_
    refine Z_iald (n := 15) dX3_drop_14 rfl (by first | rfl | exact nS0 (nA_at (by omega) (by omega))) rfl (by first | decide | assumption) (by omega) (by omega) (fun r14 s14 => ?_)
    refine Z_iconst (n := 16) dX3_drop_15 rfl (by decide) ?_
    refine Z_icmp_ne (n := 19) (t := 23) dX3_drop_16 rfl (by decide) (fun c16 => ?_) (fun c16 => ?_)
    · refine Z_iconst (n := 24) dX3_drop_23 rfl (by decide) ?_
      refine Z_istore_n (L' := [_, _, _]) (n := 25) dX3_drop_24 rfl (by decide) rfl rfl ?_
      refine Z_aload_n (n := 26) dX3_drop_25 rfl rfl ?_
      refine Z_getA (n := 29) dX3_drop_26 rfl ffX3_29 (by first | rfl | exact nS0 (nA_at (by omega) (by omega))) (by first | rfl | exact nS0 (nA_at (by omega) (by omega))) ?_
      refine Z_iload_n (n := 30) dX3_drop_29 rfl rfl ?_
      refine Z_iconst (n := 31) dX3_drop_30 rfl (by decide) ?_
      refine Z_iast (n := 32) dX3_drop_31 rfl (by first | rfl | exact nS0 (nA_at (by omega) (by omega))) rfl (by first | decide | assumption) (by omega) (by omega) (by first | assumption | omega | decide) (by first | assumption | omega | decide) (by decide) ?_
      refine Z_iload_n (n := 33) dX3_drop_32 rfl rfl ?_
      refine Z_fr (fun frR => ?_)
      refine Z_iret dX3_drop_33 rfl ?_
      exact ⟨rfl, cI_mk hc frR (pI_fr hc.1 (uz_o (by decide)) (uz_o (by decide)) (uz_o (by decide)) (uz_o (by decide))) (ordOK_fr hc.2.1 (uz_o (by decide))), Or.inr ⟨by omega, by omega, by omega, CB_12 hb (Or.inl rfl), rfl⟩⟩
    · refine Z_iconst (n := 20) dX3_drop_19 rfl (by decide) ?_
      refine Z_goto (t := 24) dX3_drop_20 (by decide) ?_
      refine Z_istore_n (L' := [_, _, _]) (n := 25) dX3_drop_24 rfl (by decide) rfl rfl ?_
      refine Z_aload_n (n := 26) dX3_drop_25 rfl rfl ?_
      refine Z_getA (n := 29) dX3_drop_26 rfl ffX3_29 (by first | rfl | exact nS0 (nA_at (by omega) (by omega))) (by first | rfl | exact nS0 (nA_at (by omega) (by omega))) ?_
      refine Z_iload_n (n := 30) dX3_drop_29 rfl rfl ?_
      refine Z_iconst (n := 31) dX3_drop_30 rfl (by decide) ?_
      refine Z_iast (n := 32) dX3_drop_31 rfl (by first | rfl | exact nS0 (nA_at (by omega) (by omega))) rfl (by first | decide | assumption) (by omega) (by omega) (by first | assumption | omega | decide) (by first | assumption | omega | decide) (by decide) ?_
      refine Z_iload_n (n := 33) dX3_drop_32 rfl rfl ?_
      refine Z_fr (fun frR => ?_)
      refine Z_iret dX3_drop_33 rfl ?_
      exact ⟨rfl, cI_mk hc frR (pI_fr hc.1 (uz_o (by decide)) (uz_o (by decide)) (uz_o (by decide)) (uz_o (by decide))) (ordOK_fr hc.2.1 (uz_o (by decide))), Or.inr ⟨by omega, by omega, by omega, CB_12 hb (Or.inl rfl), rfl⟩⟩
  · refine Z_iconst (n := 8) dX3_drop_7 rfl (by decide) ?_
    refine Z_iret dX3_drop_8 rfl ?_
    exact ⟨rfl, hc, Or.inl ⟨by omega, rfl, rfl⟩⟩
set_option maxRecDepth 20000 in
theorem zX3_inUse_f {G : tl_G} {M : zM} {J : zJ}  (hb : CB M) : ZN G yX3_inUse mX3_inUse 11 kColl [vR 0] F1 M J (qI (fun x M' J' => J' = J ∧ pI M' ∧ M' 5 8 = M 5 8 ∧ cnt (LBc M) x ∧ hkr M M')) := by
  refine ZN_of (L := [_]) (by decide) rfl rfl (Nat.le_of_ble_eq_true rfl) rfl (fun hav => ?_)
  obtain ⟨⟨Sb, hSb, hRb⟩, hno, ng⟩ := hb
  refine Z_aload_n (n := 1) dX3_inUse_0 rfl rfl ?_
  refine Z_callVv (n := 4) [] _ dX3_inUse_1 rfl cwX3_155 rfl rfl rfl (Nat.le_of_ble_eq_true rfl) (by refine ⟨?_, ?_, ?_, ?_⟩ <;> exact Nat.le_of_ble_eq_true rfl) (fun _ h => h) (zX3_collect_f  (by exact hSb) (by exact hRb)) ?_
  intro M1 J1 f1 q1
  obtain ⟨e1_1, cq1⟩ := q1
  replace e1_1 := e1_1.symm; subst e1_1
  refine Z_aload_n (n := 5) dX3_inUse_4 rfl rfl ?_
  refine Z_getO (n := 8) dX3_inUse_5 rfl ffX3_25 rfl rfl ?_
  refine Z_callVi (n := 11) [] _ dX3_inUse_8 rfl cwX3_158 rfl rfl rfl (Nat.le_of_ble_eq_true rfl) (by refine ⟨?_, ?_, ?_, ?_⟩ <;> exact Nat.le_of_ble_eq_true rfl) (fun _ _ => trivial) (zX2_usedCount  ) ?_
  intro x8 M8 J8 z8 f8 q8
  obtain ⟨e8_1, e8_2, h8⟩ := q8
  replace e8_1 := e8_1.symm; subst e8_1
  replace e8_2 := e8_2.symm; subst e8_2
  refine Z_iret dX3_inUse_11 rfl ?_
  obtain ⟨S', h1', h2', h3', h4'⟩ := cq1
  have hrt : rt M1 = rt M := rt_cg (f1 12 (by decide)).1 (f1 13 (by decide)).1 (f1 15 (by decide)).1 (congrFun (f1 0 (by decide)).1 7)
  have hl := LBc_cg (f1 6 (by decide)).1 (f1 7 (by decide)).1 (f1 8 (by decide)).1 hrt
  exact ⟨rfl, plo_pI h1', h4', by rw [← hl, h8]; exact cl_cnt h1' h2' h3', ⟨⟨S', h1', h2'⟩, by rw [hl, h4']; exact hno, by rw [(f1 13 (by decide)).1]; exact ng.1, by rw [(f1 0 (by decide)).1]; exact ng.2⟩, (f1 12 (by decide)).1, den_cg (f1 6 (by decide)).1 (f1 7 (by decide)).1 (f1 8 (by decide)).1⟩
end
section
/-! ===== which gates are needed; a gate's function ===== -/
def isop (kd : Int → Int) (od : Int → Int → Int) (k x : Int) : Prop := ∃ c : Int, (0 ≤ c ∧ c < opF (kd k)) ∧ od k c = x
/-- L x: the last gate that needs x, -1 if none does; the output's own gate: itself -/
def lnS (kd : Int → Int) (od : Int → Int → Int) (g : Int) (L : Int → Int) : Prop := L g = g ∧ ∀ x : Int, 0 ≤ x → x < 40 → x ≠ g → (L x = -1 ∧ ∀ k : Int, x < k → k ≤ g → ¬ L k = -1 → ¬ isop kd od k x) ∨ ((x < L x ∧ L x ≤ g) ∧ ¬ L (L x) = -1 ∧ isop kd od (L x) x ∧ ∀ k : Int, L x < k → k ≤ g → ¬ L k = -1 → ¬ isop kd od k x)
theorem lnS_uniq {kd kd' : Int → Int} {od od' : Int → Int → Int} {g : Int} {L L' : Int → Int} (g1 : g < 40) (hi : ∀ k x : Int, 0 ≤ k → k ≤ g → (isop kd od k x ↔ isop kd' od' k x)) (h : lnS kd od g L) (h' : lnS kd' od' g L') : ∀ x : Int, 0 ≤ x → x < 40 → L' x = L x := by
  have key : ∀ N : Nat, ∀ x : Int, 0 ≤ x → x < 40 → 40 - x ≤ N → L' x = L x := by
    intro N
    induction N with
    | zero => intro x a b c; omega
    | succ N ih =>
      intro x a b c
      by_cases e : x = g
      · rw [e, h.1, h'.1]
      · have up : ∀ k : Int, x < k → k ≤ g → L' k = L k := fun k k0 k1 => ih k (by omega) (by omega) (by omega)
        rcases h.2 x a b e with ⟨p, q⟩ | ⟨p, q, r, s⟩
        · rcases h'.2 x a b e with ⟨p', q'⟩ | ⟨p', q', r', s'⟩
          · rw [p, p']
          · exfalso
            refine q (L' x) p'.1 p'.2 ?_ ((hi _ _ (by omega) p'.2).mpr r')
            rw [← up (L' x) p'.1 p'.2]
            exact q'
        · rcases h'.2 x a b e with ⟨p', q'⟩ | ⟨p', q', r', s'⟩
          · exfalso
            refine q' (L x) p.1 p.2 ?_ ((hi _ _ (by omega) p.2).mp r)
            rw [up (L x) p.1 p.2]
            exact q
          · rcases Int.lt_trichotomy (L x) (L' x) with w | w | w
            · exfalso
              refine s (L' x) w p'.2 ?_ ((hi _ _ (by omega) p'.2).mpr r')
              rw [← up (L' x) p'.1 p'.2]
              exact q'
            · exact w.symm
            · exfalso
              refine s' (L x) w p.2 ?_ ((hi _ _ (by omega) p.2).mp r)
              rw [up (L x) p.1 p.2]
              exact q
  exact fun x a b => key (40 - x).toNat x a b (by omega)
/-- a gate's function out of those before it -/
def gst (kd : Int → Int) (od : Int → Int → Int) (pl : Int → Int) (F : Int → FN) (k : Int) : FN := if kd k = 0 then (fun r => bz (r (pl (od k 0)))) else fun r => tbl (tabF (kd k)) (if 0 < opF (kd k) then F (od k 0) r else 0) (if 1 < opF (kd k) then F (od k 1) r else 0) (if 2 < opF (kd k) then F (od k 2) r else 0)
def gfn (kd : Int → Int) (od : Int → Int → Int) (pl : Int → Int) : Nat → Int → FN
  | 0, _ => fun _ => 0
  | n + 1, k => gst kd od pl (gfn kd od pl n) k
/-- the function of gate k -/
def gF (kd : Int → Int) (od : Int → Int → Int) (pl : Int → Int) (k : Int) : FN := gfn kd od pl (k.toNat + 1) k
theorem gst_cg {kd kd' : Int → Int} {od od' : Int → Int → Int} {pl pl' : Int → Int} {F F' : Int → FN} {k : Int} (hk : kd' k = kd k) (ho : ∀ c : Int, 0 ≤ c → c < 3 → od' k c = od k c) (hp : kd k = 0 → pl' (od k 0) = pl (od k 0)) (hF : ∀ c : Int, 0 ≤ c → c < opF (kd k) → F' (od k c) = F (od k c)) : gst kd' od' pl' F' k = gst kd od pl F k := by
  unfold gst
  rw [hk, ho 0 (by decide) (by decide), ho 1 (by decide) (by decide), ho 2 (by decide) (by decide)]
  by_cases e : kd k = 0
  · rw [if_pos e, if_pos e, hp e]
  · rw [if_neg e, if_neg e]
    funext r
    have a : (if 0 < opF (kd k) then F' (od k 0) r else 0) = (if 0 < opF (kd k) then F (od k 0) r else 0) := by
      by_cases q : 0 < opF (kd k)
      · rw [if_pos q, if_pos q, hF 0 (by decide) q]
      · rw [if_neg q, if_neg q]
    have b : (if 1 < opF (kd k) then F' (od k 1) r else 0) = (if 1 < opF (kd k) then F (od k 1) r else 0) := by
      by_cases q : 1 < opF (kd k)
      · rw [if_pos q, if_pos q, hF 1 (by decide) q]
      · rw [if_neg q, if_neg q]
    have c : (if 2 < opF (kd k) then F' (od k 2) r else 0) = (if 2 < opF (kd k) then F (od k 2) r else 0) := by
      by_cases q : 2 < opF (kd k)
      · rw [if_pos q, if_pos q, hF 2 (by decide) q]
      · rw [if_neg q, if_neg q]
    rw [a, b, c]
theorem gfn_fuel {kd : Int → Int} {od : Int → Int → Int} {pl : Int → Int} {m : Int} (hb : odB kd od m) : ∀ (n n' : Nat) (k : Int), 0 ≤ k → k < m → k < n → k < n' → gfn kd od pl n k = gfn kd od pl n' k := by
  intro n
  induction n with
  | zero => intro n' k a b c d; omega
  | succ n ih =>
    intro n' k a b c d
    cases n' with
    | zero => omega
    | succ n' =>
      show gst kd od pl (gfn kd od pl n) k = gst kd od pl (gfn kd od pl n') k
      exact gst_cg rfl (fun _ _ _ => rfl) (fun _ => rfl) (fun i i0 i1 => by
        have q := hb k a b i i0 i1
        exact ih n' _ q.1 (by omega) (by omega) (by omega))
theorem gF_eq {kd : Int → Int} {od : Int → Int → Int} {pl : Int → Int} {m : Int} (hb : odB kd od m) {k : Int} (k0 : 0 ≤ k) (k1 : k < m) : gF kd od pl k = gst kd od pl (gF kd od pl) k := by
  show gst kd od pl (gfn kd od pl k.toNat) k = _
  exact gst_cg rfl (fun _ _ _ => rfl) (fun _ => rfl) (fun i i0 i1 => by
    have q := hb k k0 k1 i i0 i1
    exact gfn_fuel hb _ _ _ q.1 (by omega) (by omega) (by omega))
theorem gF_cg {kd kd' : Int → Int} {od od' : Int → Int → Int} {pl pl' : Int → Int} {m : Int} (hb : odB kd od m) (hk : ∀ k : Int, 0 ≤ k → k < m → kd' k = kd k ∧ ∀ c : Int, 0 ≤ c → c < 3 → od' k c = od k c) (hp : ∀ k : Int, 0 ≤ k → k < m → kd k = 0 → pl' (od k 0) = pl (od k 0)) : ∀ k : Int, 0 ≤ k → k < m → gF kd' od' pl' k = gF kd od pl k := by
  have hb' : odB kd' od' m := fun k a b c c0 c1 => by
    obtain ⟨e1, e2⟩ := hk k a b
    rw [e1] at c1
    have := opF_in (kd k)
    rw [e2 c c0 (by omega)]
    exact hb k a b c c0 c1
  have key : ∀ N : Nat, ∀ k : Int, 0 ≤ k → k < N → k < m → gF kd' od' pl' k = gF kd od pl k := by
    intro N
    induction N with
    | zero => intro k a b; omega
    | succ N ih =>
      intro k a b c
      rw [gF_eq hb' a c, gF_eq hb a c]
      exact gst_cg (hk k a c).1 (hk k a c).2 (hp k a c) (fun i i0 i1 => by
        have q := hb k a c i i0 i1
        exact ih _ q.1 (by omega) (by omega))
  exact fun k a b => key (k.toNat + 1) k a (by omega) b
/-- at hand before gate k is made -/
def hnd (L : Int → Int) (g k x : Int) : Prop := (0 ≤ x ∧ x < k) ∧ ¬ L x = -1 ∧ (x = g ∨ k ≤ L x)
/-- the labels at hand before gate k is made -/
def EH (E : Lb → Prop) (F : Int → FN) (H : Int → Prop) (y : Lb) : Prop := E y ∨ ∃ x : Int, H x ∧ laid (F x) y
/-- while the needs are found: gates above k are done, and c operands of k -/
def lnP (kd : Int → Int) (od : Int → Int → Int) (g : Int) (L : Int → Int) (k c : Int) : Prop := L g = g ∧ ∀ x : Int, 0 ≤ x → x < 40 → x ≠ g → (L x = -1 ∧ (∀ j : Int, k < j → j ≤ g → ¬ L j = -1 → ¬ isop kd od j x) ∧ (¬ L k = -1 → ∀ i : Int, 0 ≤ i → i < c → i < opF (kd k) → od k i ≠ x)) ∨ ((x < L x ∧ L x ≤ g ∧ k ≤ L x) ∧ ¬ L (L x) = -1 ∧ isop kd od (L x) x ∧ ∀ j : Int, L x < j → j ≤ g → ¬ L j = -1 → ¬ isop kd od j x)
theorem lnP_0 {kd : Int → Int} {od : Int → Int → Int} {g : Int} {L : Int → Int} (h0 : L g = g) (h1 : ∀ x : Int, 0 ≤ x → x < 40 → x ≠ g → L x = -1) : lnP kd od g L g 0 :=
  ⟨h0, fun x a b e => Or.inl ⟨h1 x a b e, fun j c d => absurd d (by omega), fun _ i c d => absurd d (by omega)⟩⟩
/-- one operand more -/
theorem lnP_st {kd : Int → Int} {od : Int → Int → Int} {g k c x0 : Int} {L L' : Int → Int} (h : lnP kd od g L k c) (hk : ¬ L k = -1) (kg : k ≤ g) (c0 : 0 ≤ c) (c1 : c < opF (kd k)) (hx : od k c = x0) (x00 : 0 ≤ x0) (x01 : x0 < k) (g1 : g < 40) (hL : (L x0 = -1 ∧ L' = updI L x0 k) ∨ (¬ L x0 = -1 ∧ L' = L)) : lnP kd od g L' k (c + 1) := by
  rcases hL with ⟨q, e⟩ | ⟨q, e⟩
  · have up : ∀ j : Int, j ≠ x0 → L' j = L j := fun j hj => by rw [e]; exact updI_n hj
    have es : L' x0 = k := by rw [e]; exact updI_s
    refine ⟨(up g (by omega)).trans h.1, fun x a b w => ?_⟩
    by_cases ex : x = x0
    · right
      rw [ex, es, up k (by omega)]
      rcases h.2 x0 x00 (by omega) (by omega) with ⟨p1, p2, p3⟩ | ⟨p1, p2, p3, p4⟩
      · refine ⟨⟨x01, kg, Int.le_refl _⟩, hk, ⟨c, ⟨c0, c1⟩, hx⟩, fun j j0 j1 => ?_⟩
        rw [up j (by omega)]
        exact p2 j j0 j1
      · omega
    · rw [up x ex]
      rcases h.2 x a b w with ⟨p1, p2, p3⟩ | ⟨p1, p2, p3, p4⟩
      · left
        refine ⟨p1, fun j j0 j1 => ?_, fun _ i i0 i1 i2 => ?_⟩
        · rw [up j (by omega)]; exact p2 j j0 j1
        · by_cases ei : i = c
          · rw [ei, hx]; exact fun t => ex t.symm
          · exact p3 hk i i0 (by omega) i2
      · right
        rw [up (L x) (by omega)]
        refine ⟨p1, p2, p3, fun j j0 j1 => ?_⟩
        rw [up j (by omega)]
        exact p4 j j0 j1
  · rw [e]
    refine ⟨h.1, fun x a b w => ?_⟩
    rcases h.2 x a b w with ⟨p1, p2, p3⟩ | p
    · left
      refine ⟨p1, p2, fun _ i i0 i1 i2 => ?_⟩
      by_cases ei : i = c
      · rw [ei, hx]
        intro t
        rw [t] at q
        exact q p1
      · exact p3 hk i i0 (by omega) i2
    · exact Or.inr p
/-- gate k is done -/
theorem lnP_dn {kd : Int → Int} {od : Int → Int → Int} {g k c : Int} {L : Int → Int} (h : lnP kd od g L k c) (hc : L k = -1 ∨ opF (kd k) ≤ c) : lnP kd od g L (k - 1) 0 := by
  refine ⟨h.1, fun x a b w => ?_⟩
  rcases h.2 x a b w with ⟨p1, p2, p3⟩ | ⟨p1, p2, p3, p4⟩
  · left
    refine ⟨p1, fun j j0 j1 hj hi => ?_, fun _ i i0 i1 => by omega⟩
    by_cases e : j = k
    · rw [e] at hj hi
      obtain ⟨i, ⟨i0, i1⟩, hi⟩ := hi
      rcases hc with z | z
      · exact hj z
      · exact p3 hj i i0 (by omega) i1 hi
    · exact p2 j (by omega) j1 hj hi
  · right
    exact ⟨⟨p1.1, p1.2.1, by omega⟩, p2, p3, p4⟩
theorem lnP_end {kd : Int → Int} {od : Int → Int → Int} {g : Int} {L : Int → Int} (h : lnP kd od g L (-1) 0) : lnS kd od g L := by
  refine ⟨h.1, fun x a b w => ?_⟩
  rcases h.2 x a b w with ⟨p1, p2, -⟩ | ⟨p1, p2, p3, p4⟩
  · exact Or.inl ⟨p1, fun k k0 k1 => p2 k (by omega) k1⟩
  · exact Or.inr ⟨⟨p1.1, p1.2.1⟩, p2, p3, p4⟩
/-- what the last need says of the next gate -/
theorem lnS_in {kd : Int → Int} {od : Int → Int → Int} {g : Int} {L : Int → Int} (h : lnS kd od g L) {x : Int} (x0 : 0 ≤ x) (x1 : x < 40) (hx : ¬ L x = -1) : x ≤ L x ∧ L x ≤ g ∧ (x = g ∨ x < L x) := by
  by_cases e : x = g
  · rw [e, h.1]; exact ⟨Int.le_refl _, Int.le_refl _, Or.inl rfl⟩
  · rcases h.2 x x0 x1 e with ⟨p, -⟩ | ⟨p, -⟩
    · exact absurd p hx
    · exact ⟨by omega, p.2, Or.inr p.1⟩
/-- a needed gate's operands are at hand -/
theorem lnS_op {kd : Int → Int} {od : Int → Int → Int} {g : Int} {L : Int → Int} (h : lnS kd od g L) (g1 : g < 40) {k x : Int} (k1 : k ≤ g) (hk : ¬ L k = -1) (x0 : 0 ≤ x) (xk : x < k) (hi : isop kd od k x) : hnd L g k x := by
  rcases h.2 x x0 (by omega) (by omega) with ⟨p, q⟩ | ⟨p, q, r, s⟩
  · exact absurd hi (q k xk k1 hk)
  · refine ⟨⟨x0, xk⟩, by omega, Or.inr ?_⟩
    by_cases w : k ≤ L x
    · exact w
    · exact absurd hi (s k (by omega) k1 hk)
theorem hn_skip {kd : Int → Int} {od : Int → Int → Int} {g k : Int} {L : Int → Int} (h : lnS kd od g L) (g1 : g < 40) (k1 : k ≤ g) (hk : L k = -1) (z : Int) : hnd L g (k + 1) z ↔ hnd L g k z := by
  constructor
  · rintro ⟨a, b, c⟩
    have e : z ≠ k := fun e => b (by rw [e]; exact hk)
    exact ⟨by omega, b, by omega⟩
  · rintro ⟨a, b, c⟩
    refine ⟨by omega, b, ?_⟩
    rcases c with c | c
    · exact Or.inl c
    · by_cases e : z = g
      · exact Or.inl e
      · right
        rcases h.2 z a.1 (by omega) e with ⟨p, -⟩ | ⟨-, q, -⟩
        · exact absurd p b
        · by_cases w : L z = k
          · rw [w] at q; exact absurd hk q
          · omega
theorem hn_step {kd : Int → Int} {od : Int → Int → Int} {g k : Int} {L : Int → Int} (h : lnS kd od g L) (g1 : g < 40) (k0 : 0 ≤ k) (k1 : k ≤ g) (hk : ¬ L k = -1) (ho : ∀ z, isop kd od k z → z < k) (z : Int) : hnd L g (k + 1) z ↔ ((hnd L g k z ∨ z = k) ∧ ¬ (isop kd od k z ∧ L z = k)) := by
  constructor
  · rintro ⟨a, b, c⟩
    by_cases e : z = k
    · refine ⟨Or.inr e, fun q => ?_⟩
      have := ho z q.1
      omega
    · refine ⟨Or.inl ⟨by omega, b, by omega⟩, fun q => ?_⟩
      omega
  · rintro ⟨a | a, b⟩
    · obtain ⟨a1, a2, a3⟩ := a
      refine ⟨by omega, a2, ?_⟩
      rcases a3 with c | c
      · exact Or.inl c
      · by_cases e : z = g
        · exact Or.inl e
        · right
          rcases h.2 z a1.1 (by omega) e with ⟨p, -⟩ | ⟨-, -, q, -⟩
          · exact absurd p a2
          · by_cases w : L z = k
            · rw [w] at q; exact absurd ⟨q, w⟩ b
            · omega
    · have q := lnS_in h (x := z) (by omega) (by omega) (by rw [a]; exact hk)
      exact ⟨by omega, by rw [a]; exact hk, by omega⟩
theorem hn_end {kd : Int → Int} {od : Int → Int → Int} {g : Int} {L : Int → Int} (h : lnS kd od g L) (g0 : 0 ≤ g) (g1 : g < 40) (z : Int) : hnd L g (g + 1) z ↔ z = g := by
  constructor
  · rintro ⟨a, b, c⟩
    have q := lnS_in h a.1 (by omega) b
    omega
  · intro e
    have := h.1
    refine ⟨by omega, ?_, Or.inl e⟩
    rw [e]
    omega
theorem hn_0 {g : Int} {L : Int → Int} (z : Int) : hnd L g 0 z ↔ False := ⟨fun q => by have := q.1; omega, False.elim⟩
end
section
/-! ===== the class: a building on its way ===== -/
/-- labels of what is kept -/
def kpL (M : zM) (y : Lb) : Prop := ∃ k : Int, (0 ≤ k ∧ k < M 0 7) ∧ ¬ M 15 k = -1 ∧ laid (den M (M 15 k)) y
/-- gates H at hand -/
def gtI (M0 M : zM) (E : Lb → Prop) (F : Int → FN) (H : Int → Prop) : Prop := (∃ S : Int → Prop, plo M S ∧ rtO M S) ∧ (∀ j : Int, 0 ≤ j → j < 12 → M 12 j = M0 12 j ∧ (M0 12 j = -1 ∨ den M (M0 12 j) = den M0 (M0 12 j))) ∧ M 5 8 = M0 5 8 ∧ (∀ y, (LBc M0 y ∨ kpL M y) ↔ (LBc M0 y ∨ E y)) ∧ (∀ x : Int, 0 ≤ x → x < 40 → (H x ∧ ¬ M 13 x = -1 ∧ den M (M 13 x) = F x) ∨ (¬ H x ∧ M 13 x = -1)) ∧ ¬ over (fun y => LBc M0 y ∨ EH E F H y) (M0 5 8)
/-- between calls the handles alone are roots -/
theorem CB_rt {M : zM} (h : CB M) {y : Lb} (hy : LBc M y) : ∃ j : Int, (0 ≤ j ∧ j < 12) ∧ ¬ M 12 j = -1 ∧ laid (den M (M 12 j)) y := by
  obtain ⟨z, a, b, c⟩ := hy
  rcases a with ⟨j, jb, q⟩ | ⟨g, gb, q⟩ | ⟨k, kb, q⟩
  · exact ⟨j, jb, by rw [← q]; exact b, by rw [← q]; exact c⟩
  · exact absurd (q.trans (h.2.2.1 g gb.1 gb.2)) b
  · rw [h.2.2.2] at kb; omega
theorem gt_mid {M0 M : zM} {E : Lb → Prop} {F : Int → FN} {H : Int → Prop} (hb : CB M0) (h : gtI M0 M E F H) (hH : ∀ x, H x → 0 ≤ x ∧ x < 40) : mid M0 M (EH E F H) := by
  obtain ⟨h1, h2, h3, h4, h5, h6⟩ := h
  refine ⟨h1, h2, h3, fun y => ?_, h6⟩
  constructor
  · rintro ⟨z, a, b, c⟩
    rcases a with ⟨j, jb, q⟩ | ⟨g, gb, q⟩ | ⟨k, kb, q⟩
    · obtain ⟨e, w⟩ := h2 j jb.1 jb.2
      rw [q, e] at b c
      rw [w.resolve_left b] at c
      exact Or.inl ⟨M0 12 j, Or.inl ⟨j, jb, rfl⟩, b, c⟩
    · rw [q] at b c
      rcases h5 g gb.1 gb.2 with ⟨w1, w2, w3⟩ | ⟨w1, w2⟩
      · rw [w3] at c
        exact Or.inr (Or.inr ⟨g, w1, c⟩)
      · exact absurd w2 b
    · rw [q] at b c
      rcases (h4 y).mp (Or.inr ⟨k, kb, b, c⟩) with w | w
      · exact Or.inl w
      · exact Or.inr (Or.inl w)
  · have up : (LBc M0 y ∨ kpL M y) → LBc M y := by
      rintro (w | ⟨k, kb, b, c⟩)
      · obtain ⟨j, jb, b, c⟩ := CB_rt hb w
        obtain ⟨e, v⟩ := h2 j jb.1 jb.2
        exact ⟨M 12 j, Or.inl ⟨j, jb, rfl⟩, by rw [e]; exact b, by rw [e, v.resolve_left b]; exact c⟩
      · exact ⟨M 15 k, Or.inr (Or.inr ⟨k, kb, rfl⟩), b, c⟩
    rintro (w | w | ⟨x, w1, w2⟩)
    · exact up (Or.inl w)
    · exact up ((h4 y).mpr (Or.inr w))
    · have xb := hH x w1
      rcases h5 x xb.1 xb.2 with ⟨-, v2, v3⟩ | ⟨v1, -⟩
      · exact ⟨M 13 x, Or.inr (Or.inl ⟨x, xb, rfl⟩), v2, by rw [v3]; exact w2⟩
      · exact absurd w1 v1
theorem mid_gt {M0 M : zM} {E : Lb → Prop} {F : Int → FN} (h : mid M0 M E) (hg : ∀ x : Int, 0 ≤ x → x < 40 → M 13 x = -1) : gtI M0 M E F (fun _ => False) := by
  obtain ⟨h1, h2, h3, h4, h5⟩ := h
  refine ⟨h1, h2, h3, fun y => ?_, fun x a b => Or.inr ⟨id, hg x a b⟩, ?_⟩
  · constructor
    · rintro (w | ⟨k, kb, b, c⟩)
      · exact Or.inl w
      · exact (h4 y).mp ⟨M 15 k, Or.inr (Or.inr ⟨k, kb, rfl⟩), b, c⟩
    · intro w
      obtain ⟨z, a, b, c⟩ := (h4 y).mpr w
      rcases a with ⟨j, jb, q⟩ | ⟨g, gb, q⟩ | ⟨k, kb, q⟩
      · obtain ⟨e, v⟩ := h2 j jb.1 jb.2
        rw [q, e] at b c
        rw [v.resolve_left b] at c
        exact Or.inl ⟨M0 12 j, Or.inl ⟨j, jb, rfl⟩, b, c⟩
      · exact absurd (q.trans (hg g gb.1 gb.2)) b
      · rw [q] at b c
        exact Or.inr ⟨k, kb, b, c⟩
  · refine fun ho => h5 (over_mono (fun y hy => ?_) ho)
    rcases hy with w | w | ⟨_, w, _⟩
    · exact Or.inl w
    · exact Or.inr w
    · exact w.elim
/-- the same, other words for H -/
theorem gt_H {M0 M : zM} {E : Lb → Prop} {F : Int → FN} {H H' : Int → Prop} (h : gtI M0 M E F H) (e : ∀ x, H' x ↔ H x) : gtI M0 M E F H' := by
  rw [show H' = H from funext (fun x => propext (e x))]
  exact h
/-- where nothing that counts has changed -/
theorem gt_cg {M0 M M1 : zM} {E : Lb → Prop} {F : Int → FN} {H : Int → Prop} (h07 : M1 0 7 = M 0 7) (h5 : M1 5 = M 5) (h6 : M1 6 = M 6) (h7 : M1 7 = M 7) (h8 : M1 8 = M 8) (h10 : M1 10 = M 10) (h11 : M1 11 = M 11) (h12 : M1 12 = M 12) (h13 : M1 13 = M 13) (h15 : M1 15 = M 15) (h : gtI M0 M E F H) : gtI M0 M1 E F H := by
  obtain ⟨⟨S, hS, hR⟩, g2, g3, g4, g5, g6⟩ := h
  have hrt : rt M1 = rt M := rt_cg h12 h13 h15 h07
  have hd : den M1 = den M := den_cg h6 h7 h8
  have hk : kpL M1 = kpL M := by
    funext y
    unfold kpL
    rw [h07, h15, hd]
  refine ⟨⟨S, plo_cg h5 h6 h7 h8 h10 h11 hS, fun x hx => hR x (by rw [← hrt]; exact hx)⟩, by rw [h12, hd]; exact g2, by rw [h5]; exact g3, by rw [hk]; exact g4, by rw [h13, hd]; exact g5, g6⟩
/-- behind a step -/
theorem gt_st {M0 M M3 : zM} {E : Lb → Prop} {F : Int → FN} {H : Int → Prop} {Fk : FN} {x : Int} (hb : CB M0) (h : gtI M0 M E F H) (hH : ∀ x, H x → 0 ≤ x ∧ x < 40) (hq : stQ M Fk x M3) (h12 : M3 12 = M 12) (h13 : M3 13 = M 13) (h15 : M3 15 = M 15) : ((x = -1 ∧ ¬ okP M0 (EH E F H) Fk ∧ mid M0 M3 (EH E F H)) ∨ (¬ x = -1 ∧ okP M0 (EH E F H) Fk ∧ den M3 x = Fk ∧ gtI M0 M3 E F H)) ∧ ∃ S : Int → Prop, plo M3 S ∧ rtO M3 S ∧ (x = -1 ∨ okN S x) := by
  obtain ⟨md, rs, S, hS, hR, hx⟩ := mid_st (gt_mid hb h hH) hq h12 h13 h15
  refine ⟨?_, S, hS, hR, hx⟩
  obtain ⟨o1, o2⟩ := rs_ok rs
  by_cases e : x = -1
  · exact Or.inl ⟨e, fun t => o1.mp t e, md⟩
  · obtain ⟨d, ok⟩ := o2 e
    refine Or.inr ⟨e, ok, d, ⟨S, hS, hR⟩, md.2.1, md.2.2.1, fun y => ?_, fun z a b => ?_, h.2.2.2.2.2⟩
    · rw [← h.2.2.2.1 y]
      refine or_congr Iff.rfl ?_
      unfold kpL
      rw [hq.2.2.2.1, h15]
      constructor
      · rintro ⟨k, kb, p, q⟩
        have w := (hq.2.1 (M 15 k) (Or.inr (Or.inr ⟨k, kb, rfl⟩))).resolve_left p
        rw [w] at q
        exact ⟨k, kb, p, q⟩
      · rintro ⟨k, kb, p, q⟩
        have w := (hq.2.1 (M 15 k) (Or.inr (Or.inr ⟨k, kb, rfl⟩))).resolve_left p
        exact ⟨k, kb, p, by rw [w]; exact q⟩
    · rw [h13]
      rcases h.2.2.2.2.1 z a b with ⟨p, q, r⟩ | p
      · exact Or.inl ⟨p, q, ((hq.2.1 (M 13 z) (Or.inr (Or.inl ⟨z, ⟨a, b⟩, rfl⟩))).resolve_left q).trans r⟩
      · exact Or.inr p
/-- what was made becomes gate k's -/
theorem gt_add {M0 M M1 : zM} {E : Lb → Prop} {F : Int → FN} {H : Int → Prop} {S : Int → Prop} {k x : Int} (h : gtI M0 M E F H) (hS : plo M S) (hR : rtO M S) (hx : okN S x) (hd : den M x = F k) (k0 : 0 ≤ k) (k1 : k < 40) (ok : okP M0 (EH E F H) (F k)) (e : M1 = uz M 13 k x) : gtI M0 M1 E F (fun z => H z ∨ z = k) := by
  have o : ∀ a : Nat, ¬ a = 13 → M1 a = M a := fun a ha => by rw [e]; exact uz_o ha
  have hdn : den M1 = den M := den_cg (o 6 (by decide)) (o 7 (by decide)) (o 8 (by decide))
  have e13 : M1 13 = updI (M 13) k x := by rw [e, uz_fn]
  have hx1 : ¬ x = -1 := fun z => by have := okN_in hS.1 hx; omega
  have hk : kpL M1 = kpL M := by
    funext y
    unfold kpL
    rw [o 0 (by decide), o 15 (by decide), hdn]
  refine ⟨⟨S, plo_cg (o 5 (by decide)) (o 6 (by decide)) (o 7 (by decide)) (o 8 (by decide)) (o 10 (by decide)) (o 11 (by decide)) hS, fun z hz => ?_⟩, by rw [o 12 (by decide), hdn]; exact h.2.1, by rw [o 5 (by decide)]; exact h.2.2.1, by rw [hk]; exact h.2.2.2.1, fun z a b => ?_, ?_⟩
  · rcases hz with ⟨j, jb, q⟩ | ⟨g, gb, q⟩ | ⟨j, jb, q⟩
    · rw [o 12 (by decide)] at q; exact hR z (Or.inl ⟨j, jb, q⟩)
    · rw [e13] at q
      by_cases w : g = k
      · rw [w, updI_s] at q; rw [q]; exact Or.inr hx
      · rw [updI_n w] at q; exact hR z (Or.inr (Or.inl ⟨g, gb, q⟩))
    · rw [o 15 (by decide)] at q; rw [o 0 (by decide)] at jb; exact hR z (Or.inr (Or.inr ⟨j, jb, q⟩))
  · rw [e13, hdn]
    by_cases w : z = k
    · rw [w, updI_s]; exact Or.inl ⟨Or.inr rfl, hx1, hd⟩
    · rw [updI_n w]
      rcases h.2.2.2.2.1 z a b with ⟨p, q⟩ | ⟨p, q⟩
      · exact Or.inl ⟨Or.inl p, q⟩
      · exact Or.inr ⟨fun t => t.elim p w, q⟩
  · refine fun ho => ok (over_mono (fun y hy => ?_) ho)
    rcases hy with w | w | ⟨z, w | w, v⟩
    · exact Or.inl (Or.inl w)
    · exact Or.inl (Or.inr (Or.inl w))
    · exact Or.inl (Or.inr (Or.inr ⟨z, w, v⟩))
    · rw [w] at v; exact Or.inr v
/-- some are let go -/
theorem gt_let {M0 M M1 : zM} {E : Lb → Prop} {F : Int → FN} {H D : Int → Prop} (h : gtI M0 M E F H) (o : ∀ a : Nat, ¬ a = 13 → M1 a = M a) (e : ∀ z : Int, 0 ≤ z → z < 40 → (D z ∧ M1 13 z = -1) ∨ (¬ D z ∧ M1 13 z = M 13 z)) : gtI M0 M1 E F (fun z => H z ∧ ¬ D z) := by
  have hdn : den M1 = den M := den_cg (o 6 (by decide)) (o 7 (by decide)) (o 8 (by decide))
  have hk : kpL M1 = kpL M := by
    funext y
    unfold kpL
    rw [o 0 (by decide), o 15 (by decide), hdn]
  obtain ⟨⟨S, hS, hR⟩, g2, g3, g4, g5, g6⟩ := h
  refine ⟨⟨S, plo_cg (o 5 (by decide)) (o 6 (by decide)) (o 7 (by decide)) (o 8 (by decide)) (o 10 (by decide)) (o 11 (by decide)) hS, fun z hz => ?_⟩, by rw [o 12 (by decide), hdn]; exact g2, by rw [o 5 (by decide)]; exact g3, by rw [hk]; exact g4, fun z a b => ?_, ?_⟩
  · rcases hz with ⟨j, jb, q⟩ | ⟨g, gb, q⟩ | ⟨j, jb, q⟩
    · rw [o 12 (by decide)] at q; exact hR z (Or.inl ⟨j, jb, q⟩)
    · rcases e g gb.1 gb.2 with ⟨-, w⟩ | ⟨-, w⟩
      · exact Or.inl (q.trans w)
      · rw [w] at q; exact hR z (Or.inr (Or.inl ⟨g, gb, q⟩))
    · rw [o 15 (by decide)] at q; rw [o 0 (by decide)] at jb; exact hR z (Or.inr (Or.inr ⟨j, jb, q⟩))
  · rw [hdn]
    rcases e z a b with ⟨w, v⟩ | ⟨w, v⟩
    · exact Or.inr ⟨fun t => t.2 w, v⟩
    · rw [v]
      rcases g5 z a b with ⟨p, q⟩ | ⟨p, q⟩
      · exact Or.inl ⟨⟨p, w⟩, q⟩
      · exact Or.inr ⟨fun t => p t.1, q⟩
  · refine fun ho => g6 (over_mono (fun y hy => ?_) ho)
    rcases hy with w | w | ⟨z, w, v⟩
    · exact Or.inl w
    · exact Or.inr (Or.inl w)
    · exact Or.inr (Or.inr ⟨z, w.1, v⟩)
/-- the output's own is kept, and let go as a gate's -/
theorem gt_kp {M0 M M1 M2 : zM} {E : Lb → Prop} {F : Int → FN} {g : Int} (hb : CB M0) (h : gtI M0 M E F (fun z => z = g)) (g0 : 0 ≤ g) (g1 : g < 40) (h7 : 0 ≤ M 0 7) (e1 : M1 = uz (uz M 15 (M 0 7) (M 13 g)) 0 7 (M 0 7 + 1)) (e2 : M2 = uz M1 13 g (-1)) : mid M0 M2 (fun y => E y ∨ laid (F g) y) ∧ rt M2 (M 13 g) ∧ ¬ M 13 g = -1 ∧ den M2 (M 13 g) = F g ∧ ∀ x : Int, 0 ≤ x → x < 40 → M2 13 x = -1 := by
  obtain ⟨-, hn, hd⟩ := (h.2.2.2.2.1 g g0 g1).resolve_right (fun t => t.1 rfl)
  have hm := gt_mid hb h (fun x hx => by omega)
  obtain ⟨S, hS, hR⟩ := hm.1
  have hx : okN S (M 13 g) := (hR _ (Or.inr (Or.inl ⟨g, ⟨g0, g1⟩, rfl⟩))).resolve_left hn
  have o : ∀ a : Nat, ¬ a = 0 → ¬ a = 13 → ¬ a = 15 → M2 a = M a := fun a p q r => by rw [e2, uz_o q, e1, uz_o p, uz_o r]
  have hdn : den M2 = den M := den_cg (o 6 (by decide) (by decide) (by decide)) (o 7 (by decide) (by decide) (by decide)) (o 8 (by decide) (by decide) (by decide))
  have e07 : M2 0 7 = M 0 7 + 1 := by rw [e2, uz_oo (by decide), e1, uz_s]
  have e15 : M2 15 = updI (M 15) (M 0 7) (M 13 g) := by rw [e2, uz_o (by decide), e1, uz_o (by decide), uz_fn]
  have e13 : ∀ x : Int, 0 ≤ x → x < 40 → M2 13 x = -1 := fun x a b => by
    rw [e2, uz_a]
    by_cases w : x = g
    · rw [if_pos w]
    · rw [if_neg w, e1, uz_oo (by decide), uz_oo (by decide)]
      exact ((h.2.2.2.2.1 x a b).resolve_left (fun t => w t.1)).2
  have hrt : ∀ z, rt M2 z → z = -1 ∨ rt M z := fun z hz => by
    rcases hz with ⟨j, jb, q⟩ | ⟨x, xb, q⟩ | ⟨k, kb, q⟩
    · rw [o 12 (by decide) (by decide) (by decide)] at q; exact Or.inr (Or.inl ⟨j, jb, q⟩)
    · exact Or.inl (q.trans (e13 x xb.1 xb.2))
    · rw [e15] at q
      rw [e07] at kb
      by_cases w : k = M 0 7
      · rw [w, updI_s] at q; exact Or.inr (Or.inr (Or.inl ⟨g, ⟨g0, g1⟩, q⟩))
      · rw [updI_n w] at q; exact Or.inr (Or.inr (Or.inr ⟨k, by omega, q⟩))
  have hrt2 : ∀ z, ¬ z = -1 → rt M z → rt M2 z := fun z hz1 hz => by
    rcases hz with ⟨j, jb, q⟩ | ⟨x, xb, q⟩ | ⟨k, kb, q⟩
    · exact Or.inl ⟨j, jb, by rw [o 12 (by decide) (by decide) (by decide)]; exact q⟩
    · by_cases w : x = g
      · exact Or.inr (Or.inr ⟨M 0 7, by omega, by rw [e15, updI_s, q, w]⟩)
      · exact absurd (q.trans ((h.2.2.2.2.1 x xb.1 xb.2).resolve_left (fun t => w t.1)).2) hz1
    · exact Or.inr (Or.inr ⟨k, by omega, by rw [e15, updI_n (by omega)]; exact q⟩)
  have hEq : ∀ y, EH E F (fun z => z = g) y ↔ (E y ∨ laid (F g) y) := fun y => or_congr Iff.rfl ⟨fun ⟨z, a, b⟩ => by rw [a] at b; exact b, fun b => ⟨g, rfl, b⟩⟩
  have hl : ∀ y, LBc M2 y ↔ LBc M y := fun y => by
    unfold LBc
    rw [hdn]
    constructor
    · rintro ⟨z, a, b, c⟩
      exact ⟨z, (hrt z a).resolve_left b, b, c⟩
    · rintro ⟨z, a, b, c⟩
      exact ⟨z, hrt2 z b a, b, c⟩
  refine ⟨⟨⟨S, plo_cg (o 5 (by decide) (by decide) (by decide)) (o 6 (by decide) (by decide) (by decide)) (o 7 (by decide) (by decide) (by decide)) (o 8 (by decide) (by decide) (by decide)) (o 10 (by decide) (by decide) (by decide)) (o 11 (by decide) (by decide) (by decide)) hS, fun z hz => ?_⟩, by rw [o 12 (by decide) (by decide) (by decide), hdn]; exact hm.2.1, by rw [o 5 (by decide) (by decide) (by decide)]; exact hm.2.2.1, fun y => ?_, ?_⟩, hrt2 _ hn (Or.inr (Or.inl ⟨g, ⟨g0, g1⟩, rfl⟩)), hn, by rw [hdn]; exact hd, e13⟩
  · rcases hrt z hz with w | w
    · exact Or.inl w
    · exact hR z w
  · rw [hl y, hm.2.2.2.1 y]
    exact or_congr Iff.rfl (hEq y)
  · rw [← over_cg (fun y => or_congr Iff.rfl (hEq y))]
    exact hm.2.2.2.2
/-- every gate that is needed finds room -/
def okB (M0 : zM) (E : Lb → Prop) (F : Int → FN) (L : Int → Int) (g : Int) : Prop := ∀ k : Int, 0 ≤ k → k ≤ g → ¬ L k = -1 → okP M0 (EH E F (hnd L g k)) (F k)
def bdQ (M0 : zM) (E : Lb → Prop) (F : Int → FN) (L : Int → Int) (g x : Int) (M' : zM) : Prop := (x = -1 ∧ ¬ okB M0 E F L g ∧ ∃ E' : Lb → Prop, mid M0 M' E') ∨ (¬ x = -1 ∧ okB M0 E F L g ∧ mid M0 M' (fun y => E y ∨ laid (F g) y) ∧ (rt M' x ∧ den M' x = F g) ∧ ∀ z : Int, 0 ≤ z → z < 40 → M' 13 z = -1)
end
