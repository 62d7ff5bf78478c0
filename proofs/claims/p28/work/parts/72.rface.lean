/-! ===== the reference: its face on functions ===== -/
def whOK (J : zJ) : Prop := ∀ q : Int, 2 ≤ q → q ≤ 7 → J 54 q = whF q
theorem lbr_b {M : zM} {J J0 : zJ} {t : Int} (ht : M 43 t = 0) (vo : ∀ j : Int, (j < 4 * t ∨ 4 * t + 4 ≤ j) → J0 44 j = J 44 j) (y : Lb) : LBr M J0 y ↔ LBr M J y := by
  have key : ∀ g : Int, ¬ M 43 g = 0 → phi J0 g = phi J g := fun g hg => by
    have e : g ≠ t := fun z => hg (by rw [z]; exact ht)
    exact phi_cg (fun k k0 k1 => vo _ (by omega))
  unfold LBr
  constructor
  · rintro ⟨g, gb, a, b⟩
    rw [key g a] at b
    exact ⟨g, gb, a, b⟩
  · rintro ⟨g, gb, a, b⟩
    exact ⟨g, gb, a, by rw [key g a]; exact b⟩
theorem lbr_c {M M0 : zM} {J : zJ} (e : M0 43 = M 43) (y : Lb) : LBr M0 J y ↔ LBr M J y := by
  unfold LBr
  rw [e]
theorem or_E0 {A Q : Prop} {y : Lb} : (A ∨ Q) ↔ ((A ∨ E0 y) ∨ Q) := or_congr ⟨Or.inl, fun q => q.resolve_right id⟩ Iff.rfl
set_option maxRecDepth 20000 in
theorem zX4_variable_g {G : tl_G} {M : zM} {J : zJ} {h v : Int} (hr : RI M J) (hk : M 31 27 ≤ 2000000000) (hW : whOK J) : ZN G yX4_variable mX4_variable 5 kRg [vR 31, vI h, vI v] F1 M J (qI (fun x M' J' => RI M' J' ∧ M' 31 27 ≤ M 31 27 + 400 ∧ (((h < 0 ∨ 12 ≤ h) ∧ x = -1 ∧ M' = M ∧ J' = J) ∨ (0 ≤ h ∧ h < 12 ∧ (v < 0 ∨ 8 ≤ v) ∧ x = -2 ∧ M' = M ∧ J' = J) ∨ (0 ≤ h ∧ h < 12 ∧ 0 ≤ v ∧ v < 8 ∧ finR M J h (okR M J E0 (fun r => bz (r (M 39 v)))) (fun r => bz (r (M 39 v))) x M' J')))) := by
  refine ZN_of (L := [_, _, _]) (by decide) rfl rfl (Nat.le_of_ble_eq_true rfl) rfl (fun hav => ?_)
  refine Z_ok (fun ok0 => ?_)
  refine Z_iload_n (n := 1) dX4_variable_0 rfl rfl ?_
  refine Z_callSi (n := 4) [_] _ dX4_variable_1 rfl cwX4_210 rfl rfl (Nat.le_of_ble_eq_true rfl) (by refine ⟨?_, ?_, ?_, ?_⟩ <;> exact Nat.le_of_ble_eq_true rfl) (fun _ _ => trivial) (zX4_isHandle  ) ?_
  intro x1 M1 J1 z1 f1 q1
  obtain ⟨e1_1, e1_2, h1⟩ := q1
  replace e1_1 := e1_1.symm; subst e1_1
  replace e1_2 := e1_2.symm; subst e1_2
  refine Z_if_ne (n := 7) (t := 9) dX4_variable_4 rfl (by decide) (fun c4 => ?_) (fun c4 => ?_)
  · refine Z_iload_n (n := 10) dX4_variable_9 rfl rfl ?_
    refine Z_iconst (n := 11) dX4_variable_10 rfl (by decide) ?_
    refine Z_bipush (n := 13) dX4_variable_11 rfl (by decide) (by decide) ?_
    refine Z_callSi (n := 16) [_, _, _] _ dX4_variable_13 rfl cwX4_112 rfl rfl (Nat.le_of_ble_eq_true rfl) (by refine ⟨?_, ?_, ?_, ?_⟩ <;> exact Nat.le_of_ble_eq_true rfl) (fun _ _ => trivial) (zX4_in  ) ?_
    intro x13 M13 J13 z13 f13 q13
    obtain ⟨e13_1, e13_2, h13⟩ := q13
    replace e13_1 := e13_1.symm; subst e13_1
    replace e13_2 := e13_2.symm; subst e13_2
    refine Z_if_ne (n := 19) (t := 22) dX4_variable_16 rfl (by decide) (fun c16 => ?_) (fun c16 => ?_)
    · refine Z_aload_n (n := 23) dX4_variable_22 rfl rfl ?_
      refine Z_callVv (n := 26) [] _ dX4_variable_23 rfl cwX4_213 rfl rfl rfl (Nat.le_of_ble_eq_true rfl) (by refine ⟨?_, ?_, ?_, ?_⟩ <;> exact Nat.le_of_ble_eq_true rfl) (fun _ h => h) (zX4_begin  (by decide)) ?_
      intro M23 J23 f23 q23
      obtain ⟨e23_1, e23_2⟩ := q23
      replace e23_1 := e23_1.symm; subst e23_1
      replace e23_2 := e23_2.symm; subst e23_2
      obtain ⟨tb, hb, ub, mb, db, ob⟩ := begin_ok hr
      refine Z_nm (fun M23 e23 => ?_)
      rw [← e23] at tb hb ub mb db ob
      have oB : ∀ a : Nat, ¬ a = 31 → M23 a = M a := fun a ha => by rw [e23]; exact uz_o ha
      have e8 : M23 31 8 = M 31 8 := by rw [e23]; exact uz_n (by decide)
      clear e23
      refine Z_rg 31 8 rfl (fun gb8 gb8b => ?_)
      refine Z_aload_n (n := 27) dX4_variable_26 rfl rfl ?_
      refine Z_bipush (n := 29) dX4_variable_27 rfl (by decide) (by decide) ?_
      refine Z_iload_n (n := 30) dX4_variable_29 rfl rfl ?_
      refine Z_callVv (n := 33) [_, _] _ dX4_variable_30 rfl cwX4_197 rfl rfl rfl (Nat.le_of_ble_eq_true rfl) (by refine ⟨?_, ?_, ?_, ?_⟩ <;> exact Nat.le_of_ble_eq_true rfl) (fun a h => by unfold kRg at h; unfold kBits; omega) (zX4_makeVariable  (by omega) (by omega) (by omega) (by omega)) ?_
      intro M30 J30 f30 q30
      obtain ⟨e30_1, vb30, vo30⟩ := q30
      replace e30_1 := e30_1.symm; subst e30_1
      refine Z_aload_n (n := 34) dX4_variable_33 rfl rfl ?_
      refine Z_iload_n (n := 35) dX4_variable_34 rfl rfl ?_
      refine Z_bipush (n := 37) dX4_variable_35 rfl (by decide) (by decide) ?_
      refine Z_aload_n (n := 38) dX4_variable_37 rfl rfl ?_
      refine Z_bipush (n := 40) dX4_variable_38 rfl (by decide) (by decide) ?_
      refine Z_callVi (n := 43) [_] _ dX4_variable_40 rfl cwX4_207 rfl rfl rfl (Nat.le_of_ble_eq_true rfl) (by refine ⟨?_, ?_, ?_, ?_⟩ <;> exact Nat.le_of_ble_eq_true rfl) (fun a h => by unfold kRg at h; unfold kAd; omega) (zX4_steps  (by omega) (by omega) (by exact TI_bits tb (hb 55 (by decide) (by decide)) (f30 48 (by decide)).2 vo30) (by exact hb 55 (by decide) (by decide)) (by omega) (by omega)) ?_
      intro x40 M40 J40 z40 f40 q40
      obtain ⟨ti40, ah40, am40, au40, af40, xs40⟩ := q40
      refine Z_ok (fun okS => ?_)
      have hF : phi J30 55 = (fun r => bz (r (M 39 v))) := by
        have hp : 0 ≤ M 39 v ∧ M 39 v ≤ 7 := by
          have w : -1 ≤ M 39 v ∧ M 39 v ≤ 7 := ok0 39 v
          exact ⟨hr.2.2.2.1 v (by omega) (by omega), w.2⟩
        have vbX := vb30
        rw [oB 39 (by decide)] at vbX
        exact phi_var hp.1 hp.2 hW vbX
      have hL : ∀ y, (LBr M23 J30 y ∨ laid (phi J30 55) y) ↔ ((LBr M J y ∨ E0 y) ∨ laid (phi J30 55) y) := fun y => (or_congr ((lbr_b (hb 55 (by decide) (by decide)) vo30 y).trans (lbr_c (oB 43 (by decide)) y)) Iff.rfl).trans or_E0
      obtain ⟨so, -⟩ := st_ok (E := E0) (by decide) (by decide) ti40 okS ah40 af40 (f40 44 (by decide)).2 e8 hL xs40
      rw [hF] at so
      have yo : (x40 = 1 ∧ okR M J E0 (fun r => bz (r (M 39 v))) ∧ phi J40 55 = (fun r => bz (r (M 39 v)))) ∨ (x40 = 0 ∧ ¬ okR M J E0 (fun r => bz (r (M 39 v)))) := so.imp_left (fun q => ⟨q.1, q.2, (phi_cg (fun k _ _ => by rw [(f40 44 (by decide)).2])).trans hF⟩)
      clear so hL
      refine Z_rg 31 8 rfl (fun gs8 gs8b => ?_)
      refine Z_callVi (n := 46) [_, _, _] _ dX4_variable_43 rfl cwX4_219 rfl rfl rfl (Nat.le_of_ble_eq_true rfl) (by refine ⟨?_, ?_, ?_, ?_⟩ <;> exact Nat.le_of_ble_eq_true rfl) (fun a h => by unfold kRg at h; unfold kTk; omega) (zX4_gets  (by omega) (by omega) (by omega) (by omega) (by omega) (by exact ti40) (by exact fun q => ⟨ah40, by omega⟩) (by omega)) ?_
      intro x43 M43 J43 z43 f43 q43
      obtain ⟨ti43, hn43, am43, gx43⟩ := q43
      refine Z_fr (fun frR => ?_)
      refine Z_ok (fun okG => ?_)
      have fq := fin_r (by omega) (by omega) (hdl_t db (hdl_a af40 (by decide))) (fun j hj => (congrFun (f40 44 (by decide)).2 j).trans (vo30 j (by omega))) yo ti43 okG gx43
      clear yo
      refine Z_iret dX4_variable_46 rfl ?_
      exact ⟨RI_gets hr ok0 (hdl_t db (hdl_a af40 (by decide))) (fun q => by omega) frR ti43 hn43 gx43, by omega, Or.inr (Or.inr ⟨by omega, by omega, by omega, by omega, fq⟩)⟩
    · refine Z_bipush (n := 21) dX4_variable_19 rfl (by decide) (by decide) ?_
      refine Z_iret dX4_variable_21 rfl ?_
      exact ⟨hr, by omega, Or.inr (Or.inl ⟨by omega, by omega, by omega, rfl, rfl, rfl⟩)⟩
  · refine Z_iconst (n := 8) dX4_variable_7 rfl (by decide) ?_
    refine Z_iret dX4_variable_8 rfl ?_
    exact ⟨hr, by omega, Or.inl ⟨by omega, rfl, rfl, rfl⟩⟩
set_option maxRecDepth 20000 in
theorem zX4_combine_g {G : tl_G} {M : zM} {J : zJ} {h k f g : Int} (hr : RI M J) (hk : M 31 27 ≤ 2000000000) (hW : whOK J) : ZN G yX4_combine mX4_combine 5 kRg [vR 31, vI h, vI k, vI f, vI g] F1 M J (qI (fun x M' J' => RI M' J' ∧ M' 31 27 ≤ M 31 27 + 400 ∧ (((h < 0 ∨ 12 ≤ h) ∧ x = -1 ∧ M' = M ∧ J' = J) ∨ (0 ≤ h ∧ h < 12 ∧ (k ≤ 0 ∨ 9 < k) ∧ x = -2 ∧ M' = M ∧ J' = J) ∨ (0 ≤ h ∧ h < 12 ∧ 0 < k ∧ k ≤ 9 ∧ ((3 ≤ k ∧ (f < 0 ∨ 12 ≤ f ∨ M 43 f = 0)) ∨ (3 < k ∧ (g < 0 ∨ 12 ≤ g ∨ M 43 g = 0))) ∧ x = -1 ∧ M' = M ∧ J' = J) ∨ (0 ≤ h ∧ h < 12 ∧ 0 < k ∧ k ≤ 9 ∧ ¬ ((3 ≤ k ∧ (f < 0 ∨ 12 ≤ f ∨ M 43 f = 0)) ∨ (3 < k ∧ (g < 0 ∨ 12 ≤ g ∨ M 43 g = 0))) ∧ finR M J h (okR M J E0 (fun r => tbl (tabF k) (if k < 3 then 0 else phi J f r) (if k ≤ 3 then 0 else phi J g r) 0)) (fun r => tbl (tabF k) (if k < 3 then 0 else phi J f r) (if k ≤ 3 then 0 else phi J g r) 0) x M' J')))) := by
  refine ZN_of (L := [_, _, _, _, _]) (by decide) rfl rfl (Nat.le_of_ble_eq_true rfl) rfl (fun hav => ?_)
  refine Z_ok (fun ok0 => ?_)
  refine Z_iload_n (n := 1) dX4_combine_0 rfl rfl ?_
  refine Z_callSi (n := 4) [_] _ dX4_combine_1 rfl cwX4_210 rfl rfl (Nat.le_of_ble_eq_true rfl) (by refine ⟨?_, ?_, ?_, ?_⟩ <;> exact Nat.le_of_ble_eq_true rfl) (fun _ _ => trivial) (zX4_isHandle  ) ?_
  intro x1 M1 J1 z1 f1 q1
  obtain ⟨e1_1, e1_2, h1⟩ := q1
  replace e1_1 := e1_1.symm; subst e1_1
  replace e1_2 := e1_2.symm; subst e1_2
  refine Z_if_eq (n := 7) (t := 39) dX4_combine_4 rfl (by decide) (fun c4 => ?_) (fun c4 => ?_)
  · refine Z_iconst (n := 40) dX4_combine_39 rfl (by decide) ?_
    refine Z_iret dX4_combine_40 rfl ?_
    first
      | exact ⟨hr, by omega, Or.inl ⟨by omega, rfl, rfl, rfl⟩⟩
      | exact ⟨hr, by omega, Or.inr (Or.inr (Or.inl ⟨by omega, by omega, by omega, by omega, by omega, rfl, rfl, rfl⟩))⟩
      | (exfalso; omega)
  · refine Z_iload_n (n := 8) dX4_combine_7 rfl rfl ?_
    refine Z_iconst (n := 9) dX4_combine_8 rfl (by decide) ?_
    refine Z_bipush (n := 11) dX4_combine_9 rfl (by decide) (by decide) ?_
    refine Z_callSi (n := 14) [_, _, _] _ dX4_combine_11 rfl cwX4_112 rfl rfl (Nat.le_of_ble_eq_true rfl) (by refine ⟨?_, ?_, ?_, ?_⟩ <;> exact Nat.le_of_ble_eq_true rfl) (fun _ _ => trivial) (zX4_in  ) ?_
    intro x11 M11 J11 z11 f11 q11
    obtain ⟨e11_1, e11_2, h11⟩ := q11
    replace e11_1 := e11_1.symm; subst e11_1
    replace e11_2 := e11_2.symm; subst e11_2
    refine Z_if_eq (n := 17) (t := 41) dX4_combine_14 rfl (by decide) (fun c14 => ?_) (fun c14 => ?_)
    · refine Z_iload_n (n := 42) dX4_combine_41 rfl rfl ?_
      refine Z_iconst (n := 43) dX4_combine_42 rfl (by decide) ?_
      refine Z_bipush (n := 45) dX4_combine_43 rfl (by decide) (by decide) ?_
      refine Z_callSi (n := 48) [_, _, _] _ dX4_combine_45 rfl cwX4_112 rfl rfl (Nat.le_of_ble_eq_true rfl) (by refine ⟨?_, ?_, ?_, ?_⟩ <;> exact Nat.le_of_ble_eq_true rfl) (fun _ _ => trivial) (zX4_in  ) ?_
      intro x45 M45 J45 z45 f45 q45
      obtain ⟨e45_1, e45_2, h45⟩ := q45
      replace e45_1 := e45_1.symm; subst e45_1
      replace e45_2 := e45_2.symm; subst e45_2
      refine Z_if_ne (n := 51) (t := 54) dX4_combine_48 rfl (by decide) (fun c48 => ?_) (fun c48 => ?_)
      · refine Z_aload_n (n := 55) dX4_combine_54 rfl rfl ?_
        refine Z_callVv (n := 58) [] _ dX4_combine_55 rfl cwX4_213 rfl rfl rfl (Nat.le_of_ble_eq_true rfl) (by refine ⟨?_, ?_, ?_, ?_⟩ <;> exact Nat.le_of_ble_eq_true rfl) (fun _ h => h) (zX4_begin  (by decide)) ?_
        intro M55 J55 f55 q55
        obtain ⟨e55_1, e55_2⟩ := q55
        replace e55_1 := e55_1.symm; subst e55_1
        replace e55_2 := e55_2.symm; subst e55_2
        obtain ⟨tb, hb, ub, mb, db, ob⟩ := begin_ok hr
        refine Z_nm (fun M55 e55 => ?_)
        rw [← e55] at tb hb ub mb db ob
        have oB : ∀ a : Nat, ¬ a = 31 → M55 a = M a := fun a ha => by rw [e55]; exact uz_o ha
        have e8 : M55 31 8 = M 31 8 := by rw [e55]; exact uz_n (by decide)
        clear e55
        refine Z_rg 31 8 rfl (fun gb8 gb8b => ?_)
        have gd : 0 ≤ h ∧ h < 12 ∧ 0 < k ∧ k ≤ 9 ∧ (k < 3 ∨ (0 ≤ f ∧ f < 12 ∧ ¬ M 43 f = 0)) ∧ (k ≤ 3 ∨ (0 ≤ g ∧ g < 12 ∧ ¬ M 43 g = 0)) := by omega
        try clear c4
        try clear c14
        try clear c22
        try clear c27
        try clear c36
        try clear c48
        try clear h1
        try clear h11
        try clear h19
        try clear h33
        try clear h45
        refine Z_aload_n (n := 59) dX4_combine_58 rfl rfl ?_
        refine Z_bipush (n := 61) dX4_combine_59 rfl (by decide) (by decide) ?_
        refine Z_iload_n (n := 62) dX4_combine_61 rfl rfl ?_
        refine Z_iload_n (n := 63) dX4_combine_62 rfl rfl ?_
        refine Z_iconst (n := 64) dX4_combine_63 rfl (by decide) ?_
        refine Z_icmp_le (n := 67) (t := 71) dX4_combine_64 rfl (by decide) (fun c64 => ?_) (fun c64 => ?_)
        · refine Z_iconst (n := 72) dX4_combine_71 rfl (by decide) ?_
          refine Z_iload_n (n := 73) dX4_combine_72 rfl rfl ?_
          refine Z_iconst (n := 74) dX4_combine_73 rfl (by decide) ?_
          refine Z_icmp_le (n := 77) (t := 82) dX4_combine_74 rfl (by decide) (fun c74 => ?_) (fun c74 => ?_)
          · refine Z_iconst (n := 83) dX4_combine_82 rfl (by decide) ?_
            refine Z_callVv (n := 86) [_, _, _, _] _ dX4_combine_83 rfl cwX4_204 rfl rfl rfl (Nat.le_of_ble_eq_true rfl) (by refine ⟨?_, ?_, ?_, ?_⟩ <;> exact Nat.le_of_ble_eq_true rfl) (fun a h => by unfold kRg at h; unfold kBits; omega) (zX4_makeOf_f  (by omega) (by omega) (by omega) (by omega) (by omega) (by omega)) ?_
            intro M83 J83 f83 q83
            obtain ⟨e83_1, vb83, vo83⟩ := q83
            replace e83_1 := e83_1.symm; subst e83_1
            refine Z_aload_n (n := 87) dX4_combine_86 rfl rfl ?_
            refine Z_iload_n (n := 88) dX4_combine_87 rfl rfl ?_
            refine Z_bipush (n := 90) dX4_combine_88 rfl (by decide) (by decide) ?_
            refine Z_aload_n (n := 91) dX4_combine_90 rfl rfl ?_
            refine Z_bipush (n := 93) dX4_combine_91 rfl (by decide) (by decide) ?_
            refine Z_callVi (n := 96) [_] _ dX4_combine_93 rfl cwX4_207 rfl rfl rfl (Nat.le_of_ble_eq_true rfl) (by refine ⟨?_, ?_, ?_, ?_⟩ <;> exact Nat.le_of_ble_eq_true rfl) (fun a h => by unfold kRg at h; unfold kAd; omega) (zX4_steps  (by omega) (by omega) (by exact TI_bits tb (hb 55 (by decide) (by decide)) (f83 48 (by decide)).2 vo83) (by exact hb 55 (by decide) (by decide)) (by omega) (by omega)) ?_
            intro x93 M93 J93 z93 f93 q93
            obtain ⟨ti93, ah93, am93, au93, af93, xs93⟩ := q93
            refine Z_ok (fun okS => ?_)
            have hF : phi J83 55 = (fun r => tbl (tabF k) (if k < 3 then 0 else phi J f r) (if k ≤ 3 then 0 else phi J g r) 0) := by
              refine (phi_of (by omega) (by omega) vb83).trans ?_
              first
                | rfl
                | (funext r; simp only [if_pos (show k < 3 by omega), if_pos (show k ≤ 3 by omega)])
                | (funext r; simp only [if_neg (show ¬ k < 3 by omega), if_pos (show k ≤ 3 by omega)])
                | (exfalso; omega)
            have hL : ∀ y, (LBr M55 J83 y ∨ laid (phi J83 55) y) ↔ ((LBr M J y ∨ E0 y) ∨ laid (phi J83 55) y) := fun y => (or_congr ((lbr_b (hb 55 (by decide) (by decide)) vo83 y).trans (lbr_c (oB 43 (by decide)) y)) Iff.rfl).trans or_E0
            obtain ⟨so, -⟩ := st_ok (E := E0) (by decide) (by decide) ti93 okS ah93 af93 (f93 44 (by decide)).2 e8 hL xs93
            rw [hF] at so
            have yo : (x93 = 1 ∧ okR M J E0 (fun r => tbl (tabF k) (if k < 3 then 0 else phi J f r) (if k ≤ 3 then 0 else phi J g r) 0) ∧ phi J93 55 = (fun r => tbl (tabF k) (if k < 3 then 0 else phi J f r) (if k ≤ 3 then 0 else phi J g r) 0)) ∨ (x93 = 0 ∧ ¬ okR M J E0 (fun r => tbl (tabF k) (if k < 3 then 0 else phi J f r) (if k ≤ 3 then 0 else phi J g r) 0)) := so.imp_left (fun q => ⟨q.1, q.2, (phi_cg (fun k _ _ => by rw [(f93 44 (by decide)).2])).trans hF⟩)
            clear so hL
            refine Z_rg 31 8 rfl (fun gs8 gs8b => ?_)
            refine Z_callVi (n := 99) [_, _, _] _ dX4_combine_96 rfl cwX4_219 rfl rfl rfl (Nat.le_of_ble_eq_true rfl) (by refine ⟨?_, ?_, ?_, ?_⟩ <;> exact Nat.le_of_ble_eq_true rfl) (fun a h => by unfold kRg at h; unfold kTk; omega) (zX4_gets  (by omega) (by omega) (by omega) (by omega) (by omega) (by exact ti93) (by exact fun q => ⟨ah93, by omega⟩) (by omega)) ?_
            intro x96 M96 J96 z96 f96 q96
            obtain ⟨ti96, hn96, am96, gx96⟩ := q96
            refine Z_fr (fun frR => ?_)
            refine Z_ok (fun okG => ?_)
            have fq := fin_r (by omega) (by omega) (hdl_t db (hdl_a af93 (by decide))) (fun j hj => (congrFun (f93 44 (by decide)).2 j).trans (vo83 j (by omega))) yo ti96 okG gx96
            clear yo
            refine Z_iret dX4_combine_99 rfl ?_
            exact ⟨RI_gets hr ok0 (hdl_t db (hdl_a af93 (by decide))) (fun q => by omega) frR ti96 hn96 gx96, by omega, Or.inr (Or.inr (Or.inr ⟨by omega, by omega, by omega, by omega, by omega, fq⟩))⟩
          · refine Z_iload (n := 79) dX4_combine_77 rfl rfl ?_
            refine Z_goto (t := 83) dX4_combine_79 (by decide) ?_
            refine Z_callVv (n := 86) [_, _, _, _] _ dX4_combine_83 rfl cwX4_204 rfl rfl rfl (Nat.le_of_ble_eq_true rfl) (by refine ⟨?_, ?_, ?_, ?_⟩ <;> exact Nat.le_of_ble_eq_true rfl) (fun a h => by unfold kRg at h; unfold kBits; omega) (zX4_makeOf_f  (by omega) (by omega) (by omega) (by omega) (by omega) (by omega)) ?_
            intro M83 J83 f83 q83
            obtain ⟨e83_1, vb83, vo83⟩ := q83
            replace e83_1 := e83_1.symm; subst e83_1
            refine Z_aload_n (n := 87) dX4_combine_86 rfl rfl ?_
            refine Z_iload_n (n := 88) dX4_combine_87 rfl rfl ?_
            refine Z_bipush (n := 90) dX4_combine_88 rfl (by decide) (by decide) ?_
            refine Z_aload_n (n := 91) dX4_combine_90 rfl rfl ?_
            refine Z_bipush (n := 93) dX4_combine_91 rfl (by decide) (by decide) ?_
            refine Z_callVi (n := 96) [_] _ dX4_combine_93 rfl cwX4_207 rfl rfl rfl (Nat.le_of_ble_eq_true rfl) (by refine ⟨?_, ?_, ?_, ?_⟩ <;> exact Nat.le_of_ble_eq_true rfl) (fun a h => by unfold kRg at h; unfold kAd; omega) (zX4_steps  (by omega) (by omega) (by exact TI_bits tb (hb 55 (by decide) (by decide)) (f83 48 (by decide)).2 vo83) (by exact hb 55 (by decide) (by decide)) (by omega) (by omega)) ?_
            intro x93 M93 J93 z93 f93 q93
            obtain ⟨ti93, ah93, am93, au93, af93, xs93⟩ := q93
            refine Z_ok (fun okS => ?_)
            have hF : phi J83 55 = (fun r => tbl (tabF k) (if k < 3 then 0 else phi J f r) (if k ≤ 3 then 0 else phi J g r) 0) := by
              refine (phi_of (by omega) (by omega) vb83).trans ?_
              first
                | rfl
                | (funext r; simp only [if_pos (show k < 3 by omega), if_pos (show k ≤ 3 by omega)])
                | (funext r; simp only [if_neg (show ¬ k < 3 by omega), if_pos (show k ≤ 3 by omega)])
                | (exfalso; omega)
            have hL : ∀ y, (LBr M55 J83 y ∨ laid (phi J83 55) y) ↔ ((LBr M J y ∨ E0 y) ∨ laid (phi J83 55) y) := fun y => (or_congr ((lbr_b (hb 55 (by decide) (by decide)) vo83 y).trans (lbr_c (oB 43 (by decide)) y)) Iff.rfl).trans or_E0
            obtain ⟨so, -⟩ := st_ok (E := E0) (by decide) (by decide) ti93 okS ah93 af93 (f93 44 (by decide)).2 e8 hL xs93
            rw [hF] at so
            have yo : (x93 = 1 ∧ okR M J E0 (fun r => tbl (tabF k) (if k < 3 then 0 else phi J f r) (if k ≤ 3 then 0 else phi J g r) 0) ∧ phi J93 55 = (fun r => tbl (tabF k) (if k < 3 then 0 else phi J f r) (if k ≤ 3 then 0 else phi J g r) 0)) ∨ (x93 = 0 ∧ ¬ okR M J E0 (fun r => tbl (tabF k) (if k < 3 then 0 else phi J f r) (if k ≤ 3 then 0 else phi J g r) 0)) := so.imp_left (fun q => ⟨q.1, q.2, (phi_cg (fun k _ _ => by rw [(f93 44 (by decide)).2])).trans hF⟩)
            clear so hL
            refine Z_rg 31 8 rfl (fun gs8 gs8b => ?_)
            refine Z_callVi (n := 99) [_, _, _] _ dX4_combine_96 rfl cwX4_219 rfl rfl rfl (Nat.le_of_ble_eq_true rfl) (by refine ⟨?_, ?_, ?_, ?_⟩ <;> exact Nat.le_of_ble_eq_true rfl) (fun a h => by unfold kRg at h; unfold kTk; omega) (zX4_gets  (by omega) (by omega) (by omega) (by omega) (by omega) (by exact ti93) (by exact fun q => ⟨ah93, by omega⟩) (by omega)) ?_
            intro x96 M96 J96 z96 f96 q96
            obtain ⟨ti96, hn96, am96, gx96⟩ := q96
            refine Z_fr (fun frR => ?_)
            refine Z_ok (fun okG => ?_)
            have fq := fin_r (by omega) (by omega) (hdl_t db (hdl_a af93 (by decide))) (fun j hj => (congrFun (f93 44 (by decide)).2 j).trans (vo83 j (by omega))) yo ti96 okG gx96
            clear yo
            refine Z_iret dX4_combine_99 rfl ?_
            exact ⟨RI_gets hr ok0 (hdl_t db (hdl_a af93 (by decide))) (fun q => by omega) frR ti96 hn96 gx96, by omega, Or.inr (Or.inr (Or.inr ⟨by omega, by omega, by omega, by omega, by omega, fq⟩))⟩
        · refine Z_iload_n (n := 68) dX4_combine_67 rfl rfl ?_
          refine Z_goto (t := 72) dX4_combine_68 (by decide) ?_
          refine Z_iload_n (n := 73) dX4_combine_72 rfl rfl ?_
          refine Z_iconst (n := 74) dX4_combine_73 rfl (by decide) ?_
          refine Z_icmp_le (n := 77) (t := 82) dX4_combine_74 rfl (by decide) (fun c74 => ?_) (fun c74 => ?_)
          · refine Z_iconst (n := 83) dX4_combine_82 rfl (by decide) ?_
            refine Z_callVv (n := 86) [_, _, _, _] _ dX4_combine_83 rfl cwX4_204 rfl rfl rfl (Nat.le_of_ble_eq_true rfl) (by refine ⟨?_, ?_, ?_, ?_⟩ <;> exact Nat.le_of_ble_eq_true rfl) (fun a h => by unfold kRg at h; unfold kBits; omega) (zX4_makeOf_f  (by omega) (by omega) (by omega) (by omega) (by omega) (by omega)) ?_
            intro M83 J83 f83 q83
            obtain ⟨e83_1, vb83, vo83⟩ := q83
            replace e83_1 := e83_1.symm; subst e83_1
            refine Z_aload_n (n := 87) dX4_combine_86 rfl rfl ?_
            refine Z_iload_n (n := 88) dX4_combine_87 rfl rfl ?_
            refine Z_bipush (n := 90) dX4_combine_88 rfl (by decide) (by decide) ?_
            refine Z_aload_n (n := 91) dX4_combine_90 rfl rfl ?_
            refine Z_bipush (n := 93) dX4_combine_91 rfl (by decide) (by decide) ?_
            refine Z_callVi (n := 96) [_] _ dX4_combine_93 rfl cwX4_207 rfl rfl rfl (Nat.le_of_ble_eq_true rfl) (by refine ⟨?_, ?_, ?_, ?_⟩ <;> exact Nat.le_of_ble_eq_true rfl) (fun a h => by unfold kRg at h; unfold kAd; omega) (zX4_steps  (by omega) (by omega) (by exact TI_bits tb (hb 55 (by decide) (by decide)) (f83 48 (by decide)).2 vo83) (by exact hb 55 (by decide) (by decide)) (by omega) (by omega)) ?_
            intro x93 M93 J93 z93 f93 q93
            obtain ⟨ti93, ah93, am93, au93, af93, xs93⟩ := q93
            refine Z_ok (fun okS => ?_)
            have hF : phi J83 55 = (fun r => tbl (tabF k) (if k < 3 then 0 else phi J f r) (if k ≤ 3 then 0 else phi J g r) 0) := by
              refine (phi_of (by omega) (by omega) vb83).trans ?_
              first
                | rfl
                | (funext r; simp only [if_pos (show k < 3 by omega), if_pos (show k ≤ 3 by omega)])
                | (funext r; simp only [if_neg (show ¬ k < 3 by omega), if_pos (show k ≤ 3 by omega)])
                | (exfalso; omega)
            have hL : ∀ y, (LBr M55 J83 y ∨ laid (phi J83 55) y) ↔ ((LBr M J y ∨ E0 y) ∨ laid (phi J83 55) y) := fun y => (or_congr ((lbr_b (hb 55 (by decide) (by decide)) vo83 y).trans (lbr_c (oB 43 (by decide)) y)) Iff.rfl).trans or_E0
            obtain ⟨so, -⟩ := st_ok (E := E0) (by decide) (by decide) ti93 okS ah93 af93 (f93 44 (by decide)).2 e8 hL xs93
            rw [hF] at so
            have yo : (x93 = 1 ∧ okR M J E0 (fun r => tbl (tabF k) (if k < 3 then 0 else phi J f r) (if k ≤ 3 then 0 else phi J g r) 0) ∧ phi J93 55 = (fun r => tbl (tabF k) (if k < 3 then 0 else phi J f r) (if k ≤ 3 then 0 else phi J g r) 0)) ∨ (x93 = 0 ∧ ¬ okR M J E0 (fun r => tbl (tabF k) (if k < 3 then 0 else phi J f r) (if k ≤ 3 then 0 else phi J g r) 0)) := so.imp_left (fun q => ⟨q.1, q.2, (phi_cg (fun k _ _ => by rw [(f93 44 (by decide)).2])).trans hF⟩)
            clear so hL
            refine Z_rg 31 8 rfl (fun gs8 gs8b => ?_)
            refine Z_callVi (n := 99) [_, _, _] _ dX4_combine_96 rfl cwX4_219 rfl rfl rfl (Nat.le_of_ble_eq_true rfl) (by refine ⟨?_, ?_, ?_, ?_⟩ <;> exact Nat.le_of_ble_eq_true rfl) (fun a h => by unfold kRg at h; unfold kTk; omega) (zX4_gets  (by omega) (by omega) (by omega) (by omega) (by omega) (by exact ti93) (by exact fun q => ⟨ah93, by omega⟩) (by omega)) ?_
            intro x96 M96 J96 z96 f96 q96
            obtain ⟨ti96, hn96, am96, gx96⟩ := q96
            refine Z_fr (fun frR => ?_)
            refine Z_ok (fun okG => ?_)
            have fq := fin_r (by omega) (by omega) (hdl_t db (hdl_a af93 (by decide))) (fun j hj => (congrFun (f93 44 (by decide)).2 j).trans (vo83 j (by omega))) yo ti96 okG gx96
            clear yo
            refine Z_iret dX4_combine_99 rfl ?_
            exact ⟨RI_gets hr ok0 (hdl_t db (hdl_a af93 (by decide))) (fun q => by omega) frR ti96 hn96 gx96, by omega, Or.inr (Or.inr (Or.inr ⟨by omega, by omega, by omega, by omega, by omega, fq⟩))⟩
          · refine Z_iload (n := 79) dX4_combine_77 rfl rfl ?_
            refine Z_goto (t := 83) dX4_combine_79 (by decide) ?_
            refine Z_callVv (n := 86) [_, _, _, _] _ dX4_combine_83 rfl cwX4_204 rfl rfl rfl (Nat.le_of_ble_eq_true rfl) (by refine ⟨?_, ?_, ?_, ?_⟩ <;> exact Nat.le_of_ble_eq_true rfl) (fun a h => by unfold kRg at h; unfold kBits; omega) (zX4_makeOf_f  (by omega) (by omega) (by omega) (by omega) (by omega) (by omega)) ?_
            intro M83 J83 f83 q83
            obtain ⟨e83_1, vb83, vo83⟩ := q83
            replace e83_1 := e83_1.symm; subst e83_1
            refine Z_aload_n (n := 87) dX4_combine_86 rfl rfl ?_
            refine Z_iload_n (n := 88) dX4_combine_87 rfl rfl ?_
            refine Z_bipush (n := 90) dX4_combine_88 rfl (by decide) (by decide) ?_
            refine Z_aload_n (n := 91) dX4_combine_90 rfl rfl ?_
            refine Z_bipush (n := 93) dX4_combine_91 rfl (by decide) (by decide) ?_
            refine Z_callVi (n := 96) [_] _ dX4_combine_93 rfl cwX4_207 rfl rfl rfl (Nat.le_of_ble_eq_true rfl) (by refine ⟨?_, ?_, ?_, ?_⟩ <;> exact Nat.le_of_ble_eq_true rfl) (fun a h => by unfold kRg at h; unfold kAd; omega) (zX4_steps  (by omega) (by omega) (by exact TI_bits tb (hb 55 (by decide) (by decide)) (f83 48 (by decide)).2 vo83) (by exact hb 55 (by decide) (by decide)) (by omega) (by omega)) ?_
            intro x93 M93 J93 z93 f93 q93
            obtain ⟨ti93, ah93, am93, au93, af93, xs93⟩ := q93
            refine Z_ok (fun okS => ?_)
            have hF : phi J83 55 = (fun r => tbl (tabF k) (if k < 3 then 0 else phi J f r) (if k ≤ 3 then 0 else phi J g r) 0) := by
              refine (phi_of (by omega) (by omega) vb83).trans ?_
              first
                | rfl
                | (funext r; simp only [if_pos (show k < 3 by omega), if_pos (show k ≤ 3 by omega)])
                | (funext r; simp only [if_neg (show ¬ k < 3 by omega), if_pos (show k ≤ 3 by omega)])
                | (exfalso; omega)
            have hL : ∀ y, (LBr M55 J83 y ∨ laid (phi J83 55) y) ↔ ((LBr M J y ∨ E0 y) ∨ laid (phi J83 55) y) := fun y => (or_congr ((lbr_b (hb 55 (by decide) (by decide)) vo83 y).trans (lbr_c (oB 43 (by decide)) y)) Iff.rfl).trans or_E0
            obtain ⟨so, -⟩ := st_ok (E := E0) (by decide) (by decide) ti93 okS ah93 af93 (f93 44 (by decide)).2 e8 hL xs93
            rw [hF] at so
            have yo : (x93 = 1 ∧ okR M J E0 (fun r => tbl (tabF k) (if k < 3 then 0 else phi J f r) (if k ≤ 3 then 0 else phi J g r) 0) ∧ phi J93 55 = (fun r => tbl (tabF k) (if k < 3 then 0 else phi J f r) (if k ≤ 3 then 0 else phi J g r) 0)) ∨ (x93 = 0 ∧ ¬ okR M J E0 (fun r => tbl (tabF k) (if k < 3 then 0 else phi J f r) (if k ≤ 3 then 0 else phi J g r) 0)) := so.imp_left (fun q => ⟨q.1, q.2, (phi_cg (fun k _ _ => by rw [(f93 44 (by decide)).2])).trans hF⟩)
            clear so hL
            refine Z_rg 31 8 rfl (fun gs8 gs8b => ?_)
            refine Z_callVi (n := 99) [_, _, _] _ dX4_combine_96 rfl cwX4_219 rfl rfl rfl (Nat.le_of_ble_eq_true rfl) (by refine ⟨?_, ?_, ?_, ?_⟩ <;> exact Nat.le_of_ble_eq_true rfl) (fun a h => by unfold kRg at h; unfold kTk; omega) (zX4_gets  (by omega) (by omega) (by omega) (by omega) (by omega) (by exact ti93) (by exact fun q => ⟨ah93, by omega⟩) (by omega)) ?_
            intro x96 M96 J96 z96 f96 q96
            obtain ⟨ti96, hn96, am96, gx96⟩ := q96
            refine Z_fr (fun frR => ?_)
            refine Z_ok (fun okG => ?_)
            have fq := fin_r (by omega) (by omega) (hdl_t db (hdl_a af93 (by decide))) (fun j hj => (congrFun (f93 44 (by decide)).2 j).trans (vo83 j (by omega))) yo ti96 okG gx96
            clear yo
            refine Z_iret dX4_combine_99 rfl ?_
            exact ⟨RI_gets hr ok0 (hdl_t db (hdl_a af93 (by decide))) (fun q => by omega) frR ti96 hn96 gx96, by omega, Or.inr (Or.inr (Or.inr ⟨by omega, by omega, by omega, by omega, by omega, fq⟩))⟩
      · refine Z_bipush (n := 53) dX4_combine_51 rfl (by decide) (by decide) ?_
        refine Z_iret dX4_combine_53 rfl ?_
        first
          | exact ⟨hr, by omega, Or.inr (Or.inl ⟨by omega, by omega, by omega, rfl, rfl, rfl⟩)⟩
          | (exfalso; omega)
    · refine Z_aload_n (n := 18) dX4_combine_17 rfl rfl ?_
      refine Z_iload_n (n := 19) dX4_combine_18 rfl rfl ?_
      refine Z_callVi (n := 22) [_] _ dX4_combine_19 rfl cwX4_223 rfl rfl rfl (Nat.le_of_ble_eq_true rfl) (by refine ⟨?_, ?_, ?_, ?_⟩ <;> exact Nat.le_of_ble_eq_true rfl) (fun _ _ => trivial) (zX4_isFunction  ) ?_
      intro x19 M19 J19 z19 f19 q19
      obtain ⟨e19_1, e19_2, h19⟩ := q19
      replace e19_1 := e19_1.symm; subst e19_1
      replace e19_2 := e19_2.symm; subst e19_2
      refine Z_if_eq (n := 25) (t := 39) dX4_combine_22 rfl (by decide) (fun c22 => ?_) (fun c22 => ?_)
      · refine Z_iconst (n := 40) dX4_combine_39 rfl (by decide) ?_
        refine Z_iret dX4_combine_40 rfl ?_
        first
          | exact ⟨hr, by omega, Or.inl ⟨by omega, rfl, rfl, rfl⟩⟩
          | exact ⟨hr, by omega, Or.inr (Or.inr (Or.inl ⟨by omega, by omega, by omega, by omega, by omega, rfl, rfl, rfl⟩))⟩
          | (exfalso; omega)
      · refine Z_iload_n (n := 26) dX4_combine_25 rfl rfl ?_
        refine Z_iconst (n := 27) dX4_combine_26 rfl (by decide) ?_
        refine Z_icmp_eq (n := 30) (t := 41) dX4_combine_27 rfl (by decide) (fun c27 => ?_) (fun c27 => ?_)
        · refine Z_iload_n (n := 42) dX4_combine_41 rfl rfl ?_
          refine Z_iconst (n := 43) dX4_combine_42 rfl (by decide) ?_
          refine Z_bipush (n := 45) dX4_combine_43 rfl (by decide) (by decide) ?_
          refine Z_callSi (n := 48) [_, _, _] _ dX4_combine_45 rfl cwX4_112 rfl rfl (Nat.le_of_ble_eq_true rfl) (by refine ⟨?_, ?_, ?_, ?_⟩ <;> exact Nat.le_of_ble_eq_true rfl) (fun _ _ => trivial) (zX4_in  ) ?_
          intro x45 M45 J45 z45 f45 q45
          obtain ⟨e45_1, e45_2, h45⟩ := q45
          replace e45_1 := e45_1.symm; subst e45_1
          replace e45_2 := e45_2.symm; subst e45_2
          refine Z_if_ne (n := 51) (t := 54) dX4_combine_48 rfl (by decide) (fun c48 => ?_) (fun c48 => ?_)
          · refine Z_aload_n (n := 55) dX4_combine_54 rfl rfl ?_
            refine Z_callVv (n := 58) [] _ dX4_combine_55 rfl cwX4_213 rfl rfl rfl (Nat.le_of_ble_eq_true rfl) (by refine ⟨?_, ?_, ?_, ?_⟩ <;> exact Nat.le_of_ble_eq_true rfl) (fun _ h => h) (zX4_begin  (by decide)) ?_
            intro M55 J55 f55 q55
            obtain ⟨e55_1, e55_2⟩ := q55
            replace e55_1 := e55_1.symm; subst e55_1
            replace e55_2 := e55_2.symm; subst e55_2
            obtain ⟨tb, hb, ub, mb, db, ob⟩ := begin_ok hr
            refine Z_nm (fun M55 e55 => ?_)
            rw [← e55] at tb hb ub mb db ob
            have oB : ∀ a : Nat, ¬ a = 31 → M55 a = M a := fun a ha => by rw [e55]; exact uz_o ha
            have e8 : M55 31 8 = M 31 8 := by rw [e55]; exact uz_n (by decide)
            clear e55
            refine Z_rg 31 8 rfl (fun gb8 gb8b => ?_)
            have gd : 0 ≤ h ∧ h < 12 ∧ 0 < k ∧ k ≤ 9 ∧ (k < 3 ∨ (0 ≤ f ∧ f < 12 ∧ ¬ M 43 f = 0)) ∧ (k ≤ 3 ∨ (0 ≤ g ∧ g < 12 ∧ ¬ M 43 g = 0)) := by omega
            try clear c4
            try clear c14
            try clear c22
            try clear c27
            try clear c36
            try clear c48
            try clear h1
            try clear h11
            try clear h19
            try clear h33
            try clear h45
            refine Z_aload_n (n := 59) dX4_combine_58 rfl rfl ?_
            refine Z_bipush (n := 61) dX4_combine_59 rfl (by decide) (by decide) ?_
            refine Z_iload_n (n := 62) dX4_combine_61 rfl rfl ?_
            refine Z_iload_n (n := 63) dX4_combine_62 rfl rfl ?_
            refine Z_iconst (n := 64) dX4_combine_63 rfl (by decide) ?_
            refine Z_icmp_le (n := 67) (t := 71) dX4_combine_64 rfl (by decide) (fun c64 => ?_) (fun c64 => ?_)
            · refine Z_iconst (n := 72) dX4_combine_71 rfl (by decide) ?_
              refine Z_iload_n (n := 73) dX4_combine_72 rfl rfl ?_
              refine Z_iconst (n := 74) dX4_combine_73 rfl (by decide) ?_
              refine Z_icmp_le (n := 77) (t := 82) dX4_combine_74 rfl (by decide) (fun c74 => ?_) (fun c74 => ?_)
              · refine Z_iconst (n := 83) dX4_combine_82 rfl (by decide) ?_
                refine Z_callVv (n := 86) [_, _, _, _] _ dX4_combine_83 rfl cwX4_204 rfl rfl rfl (Nat.le_of_ble_eq_true rfl) (by refine ⟨?_, ?_, ?_, ?_⟩ <;> exact Nat.le_of_ble_eq_true rfl) (fun a h => by unfold kRg at h; unfold kBits; omega) (zX4_makeOf_f  (by omega) (by omega) (by omega) (by omega) (by omega) (by omega)) ?_
                intro M83 J83 f83 q83
                obtain ⟨e83_1, vb83, vo83⟩ := q83
                replace e83_1 := e83_1.symm; subst e83_1
                refine Z_aload_n (n := 87) dX4_combine_86 rfl rfl ?_
                refine Z_iload_n (n := 88) dX4_combine_87 rfl rfl ?_
                refine Z_bipush (n := 90) dX4_combine_88 rfl (by decide) (by decide) ?_
                refine Z_aload_n (n := 91) dX4_combine_90 rfl rfl ?_
                refine Z_bipush (n := 93) dX4_combine_91 rfl (by decide) (by decide) ?_
                refine Z_callVi (n := 96) [_] _ dX4_combine_93 rfl cwX4_207 rfl rfl rfl (Nat.le_of_ble_eq_true rfl) (by refine ⟨?_, ?_, ?_, ?_⟩ <;> exact Nat.le_of_ble_eq_true rfl) (fun a h => by unfold kRg at h; unfold kAd; omega) (zX4_steps  (by omega) (by omega) (by exact TI_bits tb (hb 55 (by decide) (by decide)) (f83 48 (by decide)).2 vo83) (by exact hb 55 (by decide) (by decide)) (by omega) (by omega)) ?_
                intro x93 M93 J93 z93 f93 q93
                obtain ⟨ti93, ah93, am93, au93, af93, xs93⟩ := q93
                refine Z_ok (fun okS => ?_)
                have hF : phi J83 55 = (fun r => tbl (tabF k) (if k < 3 then 0 else phi J f r) (if k ≤ 3 then 0 else phi J g r) 0) := by
                  refine (phi_of (by omega) (by omega) vb83).trans ?_
                  first
                    | rfl
                    | (funext r; simp only [if_pos (show k < 3 by omega), if_pos (show k ≤ 3 by omega)])
                    | (funext r; simp only [if_neg (show ¬ k < 3 by omega), if_pos (show k ≤ 3 by omega)])
                    | (exfalso; omega)
                have hL : ∀ y, (LBr M55 J83 y ∨ laid (phi J83 55) y) ↔ ((LBr M J y ∨ E0 y) ∨ laid (phi J83 55) y) := fun y => (or_congr ((lbr_b (hb 55 (by decide) (by decide)) vo83 y).trans (lbr_c (oB 43 (by decide)) y)) Iff.rfl).trans or_E0
                obtain ⟨so, -⟩ := st_ok (E := E0) (by decide) (by decide) ti93 okS ah93 af93 (f93 44 (by decide)).2 e8 hL xs93
                rw [hF] at so
                have yo : (x93 = 1 ∧ okR M J E0 (fun r => tbl (tabF k) (if k < 3 then 0 else phi J f r) (if k ≤ 3 then 0 else phi J g r) 0) ∧ phi J93 55 = (fun r => tbl (tabF k) (if k < 3 then 0 else phi J f r) (if k ≤ 3 then 0 else phi J g r) 0)) ∨ (x93 = 0 ∧ ¬ okR M J E0 (fun r => tbl (tabF k) (if k < 3 then 0 else phi J f r) (if k ≤ 3 then 0 else phi J g r) 0)) := so.imp_left (fun q => ⟨q.1, q.2, (phi_cg (fun k _ _ => by rw [(f93 44 (by decide)).2])).trans hF⟩)
                clear so hL
                refine Z_rg 31 8 rfl (fun gs8 gs8b => ?_)
                refine Z_callVi (n := 99) [_, _, _] _ dX4_combine_96 rfl cwX4_219 rfl rfl rfl (Nat.le_of_ble_eq_true rfl) (by refine ⟨?_, ?_, ?_, ?_⟩ <;> exact Nat.le_of_ble_eq_true rfl) (fun a h => by unfold kRg at h; unfold kTk; omega) (zX4_gets  (by omega) (by omega) (by omega) (by omega) (by omega) (by exact ti93) (by exact fun q => ⟨ah93, by omega⟩) (by omega)) ?_
                intro x96 M96 J96 z96 f96 q96
                obtain ⟨ti96, hn96, am96, gx96⟩ := q96
                refine Z_fr (fun frR => ?_)
                refine Z_ok (fun okG => ?_)
                have fq := fin_r (by omega) (by omega) (hdl_t db (hdl_a af93 (by decide))) (fun j hj => (congrFun (f93 44 (by decide)).2 j).trans (vo83 j (by omega))) yo ti96 okG gx96
                clear yo
                refine Z_iret dX4_combine_99 rfl ?_
                exact ⟨RI_gets hr ok0 (hdl_t db (hdl_a af93 (by decide))) (fun q => by omega) frR ti96 hn96 gx96, by omega, Or.inr (Or.inr (Or.inr ⟨by omega, by omega, by omega, by omega, by omega, fq⟩))⟩
              · refine Z_iload (n := 79) dX4_combine_77 rfl rfl ?_
                refine Z_goto (t := 83) dX4_combine_79 (by decide) ?_
                refine Z_callVv (n := 86) [_, _, _, _] _ dX4_combine_83 rfl cwX4_204 rfl rfl rfl (Nat.le_of_ble_eq_true rfl) (by refine ⟨?_, ?_, ?_, ?_⟩ <;> exact Nat.le_of_ble_eq_true rfl) (fun a h => by unfold kRg at h; unfold kBits; omega) (zX4_makeOf_f  (by omega) (by omega) (by omega) (by omega) (by omega) (by omega)) ?_
                intro M83 J83 f83 q83
                obtain ⟨e83_1, vb83, vo83⟩ := q83
                replace e83_1 := e83_1.symm; subst e83_1
                refine Z_aload_n (n := 87) dX4_combine_86 rfl rfl ?_
                refine Z_iload_n (n := 88) dX4_combine_87 rfl rfl ?_
                refine Z_bipush (n := 90) dX4_combine_88 rfl (by decide) (by decide) ?_
                refine Z_aload_n (n := 91) dX4_combine_90 rfl rfl ?_
                refine Z_bipush (n := 93) dX4_combine_91 rfl (by decide) (by decide) ?_
                refine Z_callVi (n := 96) [_] _ dX4_combine_93 rfl cwX4_207 rfl rfl rfl (Nat.le_of_ble_eq_true rfl) (by refine ⟨?_, ?_, ?_, ?_⟩ <;> exact Nat.le_of_ble_eq_true rfl) (fun a h => by unfold kRg at h; unfold kAd; omega) (zX4_steps  (by omega) (by omega) (by exact TI_bits tb (hb 55 (by decide) (by decide)) (f83 48 (by decide)).2 vo83) (by exact hb 55 (by decide) (by decide)) (by omega) (by omega)) ?_
                intro x93 M93 J93 z93 f93 q93
                obtain ⟨ti93, ah93, am93, au93, af93, xs93⟩ := q93
                refine Z_ok (fun okS => ?_)
                have hF : phi J83 55 = (fun r => tbl (tabF k) (if k < 3 then 0 else phi J f r) (if k ≤ 3 then 0 else phi J g r) 0) := by
                  refine (phi_of (by omega) (by omega) vb83).trans ?_
                  first
                    | rfl
                    | (funext r; simp only [if_pos (show k < 3 by omega), if_pos (show k ≤ 3 by omega)])
                    | (funext r; simp only [if_neg (show ¬ k < 3 by omega), if_pos (show k ≤ 3 by omega)])
                    | (exfalso; omega)
                have hL : ∀ y, (LBr M55 J83 y ∨ laid (phi J83 55) y) ↔ ((LBr M J y ∨ E0 y) ∨ laid (phi J83 55) y) := fun y => (or_congr ((lbr_b (hb 55 (by decide) (by decide)) vo83 y).trans (lbr_c (oB 43 (by decide)) y)) Iff.rfl).trans or_E0
                obtain ⟨so, -⟩ := st_ok (E := E0) (by decide) (by decide) ti93 okS ah93 af93 (f93 44 (by decide)).2 e8 hL xs93
                rw [hF] at so
                have yo : (x93 = 1 ∧ okR M J E0 (fun r => tbl (tabF k) (if k < 3 then 0 else phi J f r) (if k ≤ 3 then 0 else phi J g r) 0) ∧ phi J93 55 = (fun r => tbl (tabF k) (if k < 3 then 0 else phi J f r) (if k ≤ 3 then 0 else phi J g r) 0)) ∨ (x93 = 0 ∧ ¬ okR M J E0 (fun r => tbl (tabF k) (if k < 3 then 0 else phi J f r) (if k ≤ 3 then 0 else phi J g r) 0)) := so.imp_left (fun q => ⟨q.1, q.2, (phi_cg (fun k _ _ => by rw [(f93 44 (by decide)).2])).trans hF⟩)
                clear so hL
                refine Z_rg 31 8 rfl (fun gs8 gs8b => ?_)
                refine Z_callVi (n := 99) [_, _, _] _ dX4_combine_96 rfl cwX4_219 rfl rfl rfl (Nat.le_of_ble_eq_true rfl) (by refine ⟨?_, ?_, ?_, ?_⟩ <;> exact Nat.le_of_ble_eq_true rfl) (fun a h => by unfold kRg at h; unfold kTk; omega) (zX4_gets  (by omega) (by omega) (by omega) (by omega) (by omega) (by exact ti93) (by exact fun q => ⟨ah93, by omega⟩) (by omega)) ?_
                intro x96 M96 J96 z96 f96 q96
                obtain ⟨ti96, hn96, am96, gx96⟩ := q96
                refine Z_fr (fun frR => ?_)
                refine Z_ok (fun okG => ?_)
                have fq := fin_r (by omega) (by omega) (hdl_t db (hdl_a af93 (by decide))) (fun j hj => (congrFun (f93 44 (by decide)).2 j).trans (vo83 j (by omega))) yo ti96 okG gx96
                clear yo
                refine Z_iret dX4_combine_99 rfl ?_
                exact ⟨RI_gets hr ok0 (hdl_t db (hdl_a af93 (by decide))) (fun q => by omega) frR ti96 hn96 gx96, by omega, Or.inr (Or.inr (Or.inr ⟨by omega, by omega, by omega, by omega, by omega, fq⟩))⟩
            · refine Z_iload_n (n := 68) dX4_combine_67 rfl rfl ?_
              refine Z_goto (t := 72) dX4_combine_68 (by decide) ?_
              refine Z_iload_n (n := 73) dX4_combine_72 rfl rfl ?_
              refine Z_iconst (n := 74) dX4_combine_73 rfl (by decide) ?_
              refine Z_icmp_le (n := 77) (t := 82) dX4_combine_74 rfl (by decide) (fun c74 => ?_) (fun c74 => ?_)
              · refine Z_iconst (n := 83) dX4_combine_82 rfl (by decide) ?_
                refine Z_callVv (n := 86) [_, _, _, _] _ dX4_combine_83 rfl cwX4_204 rfl rfl rfl (Nat.le_of_ble_eq_true rfl) (by refine ⟨?_, ?_, ?_, ?_⟩ <;> exact Nat.le_of_ble_eq_true rfl) (fun a h => by unfold kRg at h; unfold kBits; omega) (zX4_makeOf_f  (by omega) (by omega) (by omega) (by omega) (by omega) (by omega)) ?_
                intro M83 J83 f83 q83
                obtain ⟨e83_1, vb83, vo83⟩ := q83
                replace e83_1 := e83_1.symm; subst e83_1
                refine Z_aload_n (n := 87) dX4_combine_86 rfl rfl ?_
                refine Z_iload_n (n := 88) dX4_combine_87 rfl rfl ?_
                refine Z_bipush (n := 90) dX4_combine_88 rfl (by decide) (by decide) ?_
                refine Z_aload_n (n := 91) dX4_combine_90 rfl rfl ?_
                refine Z_bipush (n := 93) dX4_combine_91 rfl (by decide) (by decide) ?_
                refine Z_callVi (n := 96) [_] _ dX4_combine_93 rfl cwX4_207 rfl rfl rfl (Nat.le_of_ble_eq_true rfl) (by refine ⟨?_, ?_, ?_, ?_⟩ <;> exact Nat.le_of_ble_eq_true rfl) (fun a h => by unfold kRg at h; unfold kAd; omega) (zX4_steps  (by omega) (by omega) (by exact TI_bits tb (hb 55 (by decide) (by decide)) (f83 48 (by decide)).2 vo83) (by exact hb 55 (by decide) (by decide)) (by omega) (by omega)) ?_
                intro x93 M93 J93 z93 f93 q93
                obtain ⟨ti93, ah93, am93, au93, af93, xs93⟩ := q93
                refine Z_ok (fun okS => ?_)
                have hF : phi J83 55 = (fun r => tbl (tabF k) (if k < 3 then 0 else phi J f r) (if k ≤ 3 then 0 else phi J g r) 0) := by
                  refine (phi_of (by omega) (by omega) vb83).trans ?_
                  first
                    | rfl
                    | (funext r; simp only [if_pos (show k < 3 by omega), if_pos (show k ≤ 3 by omega)])
                    | (funext r; simp only [if_neg (show ¬ k < 3 by omega), if_pos (show k ≤ 3 by omega)])
                    | (exfalso; omega)
                have hL : ∀ y, (LBr M55 J83 y ∨ laid (phi J83 55) y) ↔ ((LBr M J y ∨ E0 y) ∨ laid (phi J83 55) y) := fun y => (or_congr ((lbr_b (hb 55 (by decide) (by decide)) vo83 y).trans (lbr_c (oB 43 (by decide)) y)) Iff.rfl).trans or_E0
                obtain ⟨so, -⟩ := st_ok (E := E0) (by decide) (by decide) ti93 okS ah93 af93 (f93 44 (by decide)).2 e8 hL xs93
                rw [hF] at so
                have yo : (x93 = 1 ∧ okR M J E0 (fun r => tbl (tabF k) (if k < 3 then 0 else phi J f r) (if k ≤ 3 then 0 else phi J g r) 0) ∧ phi J93 55 = (fun r => tbl (tabF k) (if k < 3 then 0 else phi J f r) (if k ≤ 3 then 0 else phi J g r) 0)) ∨ (x93 = 0 ∧ ¬ okR M J E0 (fun r => tbl (tabF k) (if k < 3 then 0 else phi J f r) (if k ≤ 3 then 0 else phi J g r) 0)) := so.imp_left (fun q => ⟨q.1, q.2, (phi_cg (fun k _ _ => by rw [(f93 44 (by decide)).2])).trans hF⟩)
                clear so hL
                refine Z_rg 31 8 rfl (fun gs8 gs8b => ?_)
                refine Z_callVi (n := 99) [_, _, _] _ dX4_combine_96 rfl cwX4_219 rfl rfl rfl (Nat.le_of_ble_eq_true rfl) (by refine ⟨?_, ?_, ?_, ?_⟩ <;> exact Nat.le_of_ble_eq_true rfl) (fun a h => by unfold kRg at h; unfold kTk; omega) (zX4_gets  (by omega) (by omega) (by omega) (by omega) (by omega) (by exact ti93) (by exact fun q => ⟨ah93, by omega⟩) (by omega)) ?_
                intro x96 M96 J96 z96 f96 q96
                obtain ⟨ti96, hn96, am96, gx96⟩ := q96
                refine Z_fr (fun frR => ?_)
                refine Z_ok (fun okG => ?_)
                have fq := fin_r (by omega) (by omega) (hdl_t db (hdl_a af93 (by decide))) (fun j hj => (congrFun (f93 44 (by decide)).2 j).trans (vo83 j (by omega))) yo ti96 okG gx96
                clear yo
                refine Z_iret dX4_combine_99 rfl ?_
                exact ⟨RI_gets hr ok0 (hdl_t db (hdl_a af93 (by decide))) (fun q => by omega) frR ti96 hn96 gx96, by omega, Or.inr (Or.inr (Or.inr ⟨by omega, by omega, by omega, by omega, by omega, fq⟩))⟩
              · refine Z_iload (n := 79) dX4_combine_77 rfl rfl ?_
                refine Z_goto (t := 83) dX4_combine_79 (by decide) ?_
                refine Z_callVv (n := 86) [_, _, _, _] _ dX4_combine_83 rfl cwX4_204 rfl rfl rfl (Nat.le_of_ble_eq_true rfl) (by refine ⟨?_, ?_, ?_, ?_⟩ <;> exact Nat.le_of_ble_eq_true rfl) (fun a h => by unfold kRg at h; unfold kBits; omega) (zX4_makeOf_f  (by omega) (by omega) (by omega) (by omega) (by omega) (by omega)) ?_
                intro M83 J83 f83 q83
                obtain ⟨e83_1, vb83, vo83⟩ := q83
                replace e83_1 := e83_1.symm; subst e83_1
                refine Z_aload_n (n := 87) dX4_combine_86 rfl rfl ?_
                refine Z_iload_n (n := 88) dX4_combine_87 rfl rfl ?_
                refine Z_bipush (n := 90) dX4_combine_88 rfl (by decide) (by decide) ?_
                refine Z_aload_n (n := 91) dX4_combine_90 rfl rfl ?_
                refine Z_bipush (n := 93) dX4_combine_91 rfl (by decide) (by decide) ?_
                refine Z_callVi (n := 96) [_] _ dX4_combine_93 rfl cwX4_207 rfl rfl rfl (Nat.le_of_ble_eq_true rfl) (by refine ⟨?_, ?_, ?_, ?_⟩ <;> exact Nat.le_of_ble_eq_true rfl) (fun a h => by unfold kRg at h; unfold kAd; omega) (zX4_steps  (by omega) (by omega) (by exact TI_bits tb (hb 55 (by decide) (by decide)) (f83 48 (by decide)).2 vo83) (by exact hb 55 (by decide) (by decide)) (by omega) (by omega)) ?_
                intro x93 M93 J93 z93 f93 q93
                obtain ⟨ti93, ah93, am93, au93, af93, xs93⟩ := q93
                refine Z_ok (fun okS => ?_)
                have hF : phi J83 55 = (fun r => tbl (tabF k) (if k < 3 then 0 else phi J f r) (if k ≤ 3 then 0 else phi J g r) 0) := by
                  refine (phi_of (by omega) (by omega) vb83).trans ?_
                  first
                    | rfl
                    | (funext r; simp only [if_pos (show k < 3 by omega), if_pos (show k ≤ 3 by omega)])
                    | (funext r; simp only [if_neg (show ¬ k < 3 by omega), if_pos (show k ≤ 3 by omega)])
                    | (exfalso; omega)
                have hL : ∀ y, (LBr M55 J83 y ∨ laid (phi J83 55) y) ↔ ((LBr M J y ∨ E0 y) ∨ laid (phi J83 55) y) := fun y => (or_congr ((lbr_b (hb 55 (by decide) (by decide)) vo83 y).trans (lbr_c (oB 43 (by decide)) y)) Iff.rfl).trans or_E0
                obtain ⟨so, -⟩ := st_ok (E := E0) (by decide) (by decide) ti93 okS ah93 af93 (f93 44 (by decide)).2 e8 hL xs93
                rw [hF] at so
                have yo : (x93 = 1 ∧ okR M J E0 (fun r => tbl (tabF k) (if k < 3 then 0 else phi J f r) (if k ≤ 3 then 0 else phi J g r) 0) ∧ phi J93 55 = (fun r => tbl (tabF k) (if k < 3 then 0 else phi J f r) (if k ≤ 3 then 0 else phi J g r) 0)) ∨ (x93 = 0 ∧ ¬ okR M J E0 (fun r => tbl (tabF k) (if k < 3 then 0 else phi J f r) (if k ≤ 3 then 0 else phi J g r) 0)) := so.imp_left (fun q => ⟨q.1, q.2, (phi_cg (fun k _ _ => by rw [(f93 44 (by decide)).2])).trans hF⟩)
                clear so hL
                refine Z_rg 31 8 rfl (fun gs8 gs8b => ?_)
                refine Z_callVi (n := 99) [_, _, _] _ dX4_combine_96 rfl cwX4_219 rfl rfl rfl (Nat.le_of_ble_eq_true rfl) (by refine ⟨?_, ?_, ?_, ?_⟩ <;> exact Nat.le_of_ble_eq_true rfl) (fun a h => by unfold kRg at h; unfold kTk; omega) (zX4_gets  (by omega) (by omega) (by omega) (by omega) (by omega) (by exact ti93) (by exact fun q => ⟨ah93, by omega⟩) (by omega)) ?_
                intro x96 M96 J96 z96 f96 q96
                obtain ⟨ti96, hn96, am96, gx96⟩ := q96
                refine Z_fr (fun frR => ?_)
                refine Z_ok (fun okG => ?_)
                have fq := fin_r (by omega) (by omega) (hdl_t db (hdl_a af93 (by decide))) (fun j hj => (congrFun (f93 44 (by decide)).2 j).trans (vo83 j (by omega))) yo ti96 okG gx96
                clear yo
                refine Z_iret dX4_combine_99 rfl ?_
                exact ⟨RI_gets hr ok0 (hdl_t db (hdl_a af93 (by decide))) (fun q => by omega) frR ti96 hn96 gx96, by omega, Or.inr (Or.inr (Or.inr ⟨by omega, by omega, by omega, by omega, by omega, fq⟩))⟩
          · refine Z_bipush (n := 53) dX4_combine_51 rfl (by decide) (by decide) ?_
            refine Z_iret dX4_combine_53 rfl ?_
            first
              | exact ⟨hr, by omega, Or.inr (Or.inl ⟨by omega, by omega, by omega, rfl, rfl, rfl⟩)⟩
              | (exfalso; omega)
        · refine Z_aload_n (n := 31) dX4_combine_30 rfl rfl ?_
          refine Z_iload (n := 33) dX4_combine_31 rfl rfl ?_
          refine Z_callVi (n := 36) [_] _ dX4_combine_33 rfl cwX4_223 rfl rfl rfl (Nat.le_of_ble_eq_true rfl) (by refine ⟨?_, ?_, ?_, ?_⟩ <;> exact Nat.le_of_ble_eq_true rfl) (fun _ _ => trivial) (zX4_isFunction  ) ?_
          intro x33 M33 J33 z33 f33 q33
          obtain ⟨e33_1, e33_2, h33⟩ := q33
          replace e33_1 := e33_1.symm; subst e33_1
          replace e33_2 := e33_2.symm; subst e33_2
          refine Z_if_ne (n := 39) (t := 41) dX4_combine_36 rfl (by decide) (fun c36 => ?_) (fun c36 => ?_)
          · refine Z_iload_n (n := 42) dX4_combine_41 rfl rfl ?_
            refine Z_iconst (n := 43) dX4_combine_42 rfl (by decide) ?_
            refine Z_bipush (n := 45) dX4_combine_43 rfl (by decide) (by decide) ?_
            refine Z_callSi (n := 48) [_, _, _] _ dX4_combine_45 rfl cwX4_112 rfl rfl (Nat.le_of_ble_eq_true rfl) (by refine ⟨?_, ?_, ?_, ?_⟩ <;> exact Nat.le_of_ble_eq_true rfl) (fun _ _ => trivial) (zX4_in  ) ?_
            intro x45 M45 J45 z45 f45 q45
            obtain ⟨e45_1, e45_2, h45⟩ := q45
            replace e45_1 := e45_1.symm; subst e45_1
            replace e45_2 := e45_2.symm; subst e45_2
            refine Z_if_ne (n := 51) (t := 54) dX4_combine_48 rfl (by decide) (fun c48 => ?_) (fun c48 => ?_)
            · refine Z_aload_n (n := 55) dX4_combine_54 rfl rfl ?_
              refine Z_callVv (n := 58) [] _ dX4_combine_55 rfl cwX4_213 rfl rfl rfl (Nat.le_of_ble_eq_true rfl) (by refine ⟨?_, ?_, ?_, ?_⟩ <;> exact Nat.le_of_ble_eq_true rfl) (fun _ h => h) (zX4_begin  (by decide)) ?_
              intro M55 J55 f55 q55
              obtain ⟨e55_1, e55_2⟩ := q55
              replace e55_1 := e55_1.symm; subst e55_1
              replace e55_2 := e55_2.symm; subst e55_2
              obtain ⟨tb, hb, ub, mb, db, ob⟩ := begin_ok hr
              refine Z_nm (fun M55 e55 => ?_)
              rw [← e55] at tb hb ub mb db ob
              have oB : ∀ a : Nat, ¬ a = 31 → M55 a = M a := fun a ha => by rw [e55]; exact uz_o ha
              have e8 : M55 31 8 = M 31 8 := by rw [e55]; exact uz_n (by decide)
              clear e55
              refine Z_rg 31 8 rfl (fun gb8 gb8b => ?_)
              have gd : 0 ≤ h ∧ h < 12 ∧ 0 < k ∧ k ≤ 9 ∧ (k < 3 ∨ (0 ≤ f ∧ f < 12 ∧ ¬ M 43 f = 0)) ∧ (k ≤ 3 ∨ (0 ≤ g ∧ g < 12 ∧ ¬ M 43 g = 0)) := by omega
              try clear c4
              try clear c14
              try clear c22
              try clear c27
              try clear c36
              try clear c48
              try clear h1
              try clear h11
              try clear h19
              try clear h33
              try clear h45
              refine Z_aload_n (n := 59) dX4_combine_58 rfl rfl ?_
              refine Z_bipush (n := 61) dX4_combine_59 rfl (by decide) (by decide) ?_
              refine Z_iload_n (n := 62) dX4_combine_61 rfl rfl ?_
              refine Z_iload_n (n := 63) dX4_combine_62 rfl rfl ?_
              refine Z_iconst (n := 64) dX4_combine_63 rfl (by decide) ?_
              refine Z_icmp_le (n := 67) (t := 71) dX4_combine_64 rfl (by decide) (fun c64 => ?_) (fun c64 => ?_)
              · refine Z_iconst (n := 72) dX4_combine_71 rfl (by decide) ?_
                refine Z_iload_n (n := 73) dX4_combine_72 rfl rfl ?_
                refine Z_iconst (n := 74) dX4_combine_73 rfl (by decide) ?_
                refine Z_icmp_le (n := 77) (t := 82) dX4_combine_74 rfl (by decide) (fun c74 => ?_) (fun c74 => ?_)
                · refine Z_iconst (n := 83) dX4_combine_82 rfl (by decide) ?_
                  refine Z_callVv (n := 86) [_, _, _, _] _ dX4_combine_83 rfl cwX4_204 rfl rfl rfl (Nat.le_of_ble_eq_true rfl) (by refine ⟨?_, ?_, ?_, ?_⟩ <;> exact Nat.le_of_ble_eq_true rfl) (fun a h => by unfold kRg at h; unfold kBits; omega) (zX4_makeOf_f  (by omega) (by omega) (by omega) (by omega) (by omega) (by omega)) ?_
                  intro M83 J83 f83 q83
                  obtain ⟨e83_1, vb83, vo83⟩ := q83
                  replace e83_1 := e83_1.symm; subst e83_1
                  refine Z_aload_n (n := 87) dX4_combine_86 rfl rfl ?_
                  refine Z_iload_n (n := 88) dX4_combine_87 rfl rfl ?_
                  refine Z_bipush (n := 90) dX4_combine_88 rfl (by decide) (by decide) ?_
                  refine Z_aload_n (n := 91) dX4_combine_90 rfl rfl ?_
                  refine Z_bipush (n := 93) dX4_combine_91 rfl (by decide) (by decide) ?_
                  refine Z_callVi (n := 96) [_] _ dX4_combine_93 rfl cwX4_207 rfl rfl rfl (Nat.le_of_ble_eq_true rfl) (by refine ⟨?_, ?_, ?_, ?_⟩ <;> exact Nat.le_of_ble_eq_true rfl) (fun a h => by unfold kRg at h; unfold kAd; omega) (zX4_steps  (by omega) (by omega) (by exact TI_bits tb (hb 55 (by decide) (by decide)) (f83 48 (by decide)).2 vo83) (by exact hb 55 (by decide) (by decide)) (by omega) (by omega)) ?_
                  intro x93 M93 J93 z93 f93 q93
                  obtain ⟨ti93, ah93, am93, au93, af93, xs93⟩ := q93
                  refine Z_ok (fun okS => ?_)
                  have hF : phi J83 55 = (fun r => tbl (tabF k) (if k < 3 then 0 else phi J f r) (if k ≤ 3 then 0 else phi J g r) 0) := by
                    refine (phi_of (by omega) (by omega) vb83).trans ?_
                    first
                      | rfl
                      | (funext r; simp only [if_pos (show k < 3 by omega), if_pos (show k ≤ 3 by omega)])
                      | (funext r; simp only [if_neg (show ¬ k < 3 by omega), if_pos (show k ≤ 3 by omega)])
                      | (exfalso; omega)
                  have hL : ∀ y, (LBr M55 J83 y ∨ laid (phi J83 55) y) ↔ ((LBr M J y ∨ E0 y) ∨ laid (phi J83 55) y) := fun y => (or_congr ((lbr_b (hb 55 (by decide) (by decide)) vo83 y).trans (lbr_c (oB 43 (by decide)) y)) Iff.rfl).trans or_E0
                  obtain ⟨so, -⟩ := st_ok (E := E0) (by decide) (by decide) ti93 okS ah93 af93 (f93 44 (by decide)).2 e8 hL xs93
                  rw [hF] at so
                  have yo : (x93 = 1 ∧ okR M J E0 (fun r => tbl (tabF k) (if k < 3 then 0 else phi J f r) (if k ≤ 3 then 0 else phi J g r) 0) ∧ phi J93 55 = (fun r => tbl (tabF k) (if k < 3 then 0 else phi J f r) (if k ≤ 3 then 0 else phi J g r) 0)) ∨ (x93 = 0 ∧ ¬ okR M J E0 (fun r => tbl (tabF k) (if k < 3 then 0 else phi J f r) (if k ≤ 3 then 0 else phi J g r) 0)) := so.imp_left (fun q => ⟨q.1, q.2, (phi_cg (fun k _ _ => by rw [(f93 44 (by decide)).2])).trans hF⟩)
                  clear so hL
                  refine Z_rg 31 8 rfl (fun gs8 gs8b => ?_)
                  refine Z_callVi (n := 99) [_, _, _] _ dX4_combine_96 rfl cwX4_219 rfl rfl rfl (Nat.le_of_ble_eq_true rfl) (by refine ⟨?_, ?_, ?_, ?_⟩ <;> exact Nat.le_of_ble_eq_true rfl) (fun a h => by unfold kRg at h; unfold kTk; omega) (zX4_gets  (by omega) (by omega) (by omega) (by omega) (by omega) (by exact ti93) (by exact fun q => ⟨ah93, by omega⟩) (by omega)) ?_
                  intro x96 M96 J96 z96 f96 q96
                  obtain ⟨ti96, hn96, am96, gx96⟩ := q96
                  refine Z_fr (fun frR => ?_)
                  refine Z_ok (fun okG => ?_)
                  have fq := fin_r (by omega) (by omega) (hdl_t db (hdl_a af93 (by decide))) (fun j hj => (congrFun (f93 44 (by decide)).2 j).trans (vo83 j (by omega))) yo ti96 okG gx96
                  clear yo
                  refine Z_iret dX4_combine_99 rfl ?_
                  exact ⟨RI_gets hr ok0 (hdl_t db (hdl_a af93 (by decide))) (fun q => by omega) frR ti96 hn96 gx96, by omega, Or.inr (Or.inr (Or.inr ⟨by omega, by omega, by omega, by omega, by omega, fq⟩))⟩
                · refine Z_iload (n := 79) dX4_combine_77 rfl rfl ?_
                  refine Z_goto (t := 83) dX4_combine_79 (by decide) ?_
                  refine Z_callVv (n := 86) [_, _, _, _] _ dX4_combine_83 rfl cwX4_204 rfl rfl rfl (Nat.le_of_ble_eq_true rfl) (by refine ⟨?_, ?_, ?_, ?_⟩ <;> exact Nat.le_of_ble_eq_true rfl) (fun a h => by unfold kRg at h; unfold kBits; omega) (zX4_makeOf_f  (by omega) (by omega) (by omega) (by omega) (by omega) (by omega)) ?_
                  intro M83 J83 f83 q83
                  obtain ⟨e83_1, vb83, vo83⟩ := q83
                  replace e83_1 := e83_1.symm; subst e83_1
                  refine Z_aload_n (n := 87) dX4_combine_86 rfl rfl ?_
                  refine Z_iload_n (n := 88) dX4_combine_87 rfl rfl ?_
                  refine Z_bipush (n := 90) dX4_combine_88 rfl (by decide) (by decide) ?_
                  refine Z_aload_n (n := 91) dX4_combine_90 rfl rfl ?_
                  refine Z_bipush (n := 93) dX4_combine_91 rfl (by decide) (by decide) ?_
                  refine Z_callVi (n := 96) [_] _ dX4_combine_93 rfl cwX4_207 rfl rfl rfl (Nat.le_of_ble_eq_true rfl) (by refine ⟨?_, ?_, ?_, ?_⟩ <;> exact Nat.le_of_ble_eq_true rfl) (fun a h => by unfold kRg at h; unfold kAd; omega) (zX4_steps  (by omega) (by omega) (by exact TI_bits tb (hb 55 (by decide) (by decide)) (f83 48 (by decide)).2 vo83) (by exact hb 55 (by decide) (by decide)) (by omega) (by omega)) ?_
                  intro x93 M93 J93 z93 f93 q93
                  obtain ⟨ti93, ah93, am93, au93, af93, xs93⟩ := q93
                  refine Z_ok (fun okS => ?_)
                  have hF : phi J83 55 = (fun r => tbl (tabF k) (if k < 3 then 0 else phi J f r) (if k ≤ 3 then 0 else phi J g r) 0) := by
                    refine (phi_of (by omega) (by omega) vb83).trans ?_
                    first
                      | rfl
                      | (funext r; simp only [if_pos (show k < 3 by omega), if_pos (show k ≤ 3 by omega)])
                      | (funext r; simp only [if_neg (show ¬ k < 3 by omega), if_pos (show k ≤ 3 by omega)])
                      | (exfalso; omega)
                  have hL : ∀ y, (LBr M55 J83 y ∨ laid (phi J83 55) y) ↔ ((LBr M J y ∨ E0 y) ∨ laid (phi J83 55) y) := fun y => (or_congr ((lbr_b (hb 55 (by decide) (by decide)) vo83 y).trans (lbr_c (oB 43 (by decide)) y)) Iff.rfl).trans or_E0
                  obtain ⟨so, -⟩ := st_ok (E := E0) (by decide) (by decide) ti93 okS ah93 af93 (f93 44 (by decide)).2 e8 hL xs93
                  rw [hF] at so
                  have yo : (x93 = 1 ∧ okR M J E0 (fun r => tbl (tabF k) (if k < 3 then 0 else phi J f r) (if k ≤ 3 then 0 else phi J g r) 0) ∧ phi J93 55 = (fun r => tbl (tabF k) (if k < 3 then 0 else phi J f r) (if k ≤ 3 then 0 else phi J g r) 0)) ∨ (x93 = 0 ∧ ¬ okR M J E0 (fun r => tbl (tabF k) (if k < 3 then 0 else phi J f r) (if k ≤ 3 then 0 else phi J g r) 0)) := so.imp_left (fun q => ⟨q.1, q.2, (phi_cg (fun k _ _ => by rw [(f93 44 (by decide)).2])).trans hF⟩)
                  clear so hL
                  refine Z_rg 31 8 rfl (fun gs8 gs8b => ?_)
                  refine Z_callVi (n := 99) [_, _, _] _ dX4_combine_96 rfl cwX4_219 rfl rfl rfl (Nat.le_of_ble_eq_true rfl) (by refine ⟨?_, ?_, ?_, ?_⟩ <;> exact Nat.le_of_ble_eq_true rfl) (fun a h => by unfold kRg at h; unfold kTk; omega) (zX4_gets  (by omega) (by omega) (by omega) (by omega) (by omega) (by exact ti93) (by exact fun q => ⟨ah93, by omega⟩) (by omega)) ?_
                  intro x96 M96 J96 z96 f96 q96
                  obtain ⟨ti96, hn96, am96, gx96⟩ := q96
                  refine Z_fr (fun frR => ?_)
                  refine Z_ok (fun okG => ?_)
                  have fq := fin_r (by omega) (by omega) (hdl_t db (hdl_a af93 (by decide))) (fun j hj => (congrFun (f93 44 (by decide)).2 j).trans (vo83 j (by omega))) yo ti96 okG gx96
                  clear yo
                  refine Z_iret dX4_combine_99 rfl ?_
                  exact ⟨RI_gets hr ok0 (hdl_t db (hdl_a af93 (by decide))) (fun q => by omega) frR ti96 hn96 gx96, by omega, Or.inr (Or.inr (Or.inr ⟨by omega, by omega, by omega, by omega, by omega, fq⟩))⟩
              · refine Z_iload_n (n := 68) dX4_combine_67 rfl rfl ?_
                refine Z_goto (t := 72) dX4_combine_68 (by decide) ?_
                refine Z_iload_n (n := 73) dX4_combine_72 rfl rfl ?_
                refine Z_iconst (n := 74) dX4_combine_73 rfl (by decide) ?_
                refine Z_icmp_le (n := 77) (t := 82) dX4_combine_74 rfl (by decide) (fun c74 => ?_) (fun c74 => ?_)
                · refine Z_iconst (n := 83) dX4_combine_82 rfl (by decide) ?_
                  refine Z_callVv (n := 86) [_, _, _, _] _ dX4_combine_83 rfl cwX4_204 rfl rfl rfl (Nat.le_of_ble_eq_true rfl) (by refine ⟨?_, ?_, ?_, ?_⟩ <;> exact Nat.le_of_ble_eq_true rfl) (fun a h => by unfold kRg at h; unfold kBits; omega) (zX4_makeOf_f  (by omega) (by omega) (by omega) (by omega) (by omega) (by omega)) ?_
                  intro M83 J83 f83 q83
                  obtain ⟨e83_1, vb83, vo83⟩ := q83
                  replace e83_1 := e83_1.symm; subst e83_1
                  refine Z_aload_n (n := 87) dX4_combine_86 rfl rfl ?_
                  refine Z_iload_n (n := 88) dX4_combine_87 rfl rfl ?_
                  refine Z_bipush (n := 90) dX4_combine_88 rfl (by decide) (by decide) ?_
                  refine Z_aload_n (n := 91) dX4_combine_90 rfl rfl ?_
                  refine Z_bipush (n := 93) dX4_combine_91 rfl (by decide) (by decide) ?_
                  refine Z_callVi (n := 96) [_] _ dX4_combine_93 rfl cwX4_207 rfl rfl rfl (Nat.le_of_ble_eq_true rfl) (by refine ⟨?_, ?_, ?_, ?_⟩ <;> exact Nat.le_of_ble_eq_true rfl) (fun a h => by unfold kRg at h; unfold kAd; omega) (zX4_steps  (by omega) (by omega) (by exact TI_bits tb (hb 55 (by decide) (by decide)) (f83 48 (by decide)).2 vo83) (by exact hb 55 (by decide) (by decide)) (by omega) (by omega)) ?_
                  intro x93 M93 J93 z93 f93 q93
                  obtain ⟨ti93, ah93, am93, au93, af93, xs93⟩ := q93
                  refine Z_ok (fun okS => ?_)
                  have hF : phi J83 55 = (fun r => tbl (tabF k) (if k < 3 then 0 else phi J f r) (if k ≤ 3 then 0 else phi J g r) 0) := by
                    refine (phi_of (by omega) (by omega) vb83).trans ?_
                    first
                      | rfl
                      | (funext r; simp only [if_pos (show k < 3 by omega), if_pos (show k ≤ 3 by omega)])
                      | (funext r; simp only [if_neg (show ¬ k < 3 by omega), if_pos (show k ≤ 3 by omega)])
                      | (exfalso; omega)
                  have hL : ∀ y, (LBr M55 J83 y ∨ laid (phi J83 55) y) ↔ ((LBr M J y ∨ E0 y) ∨ laid (phi J83 55) y) := fun y => (or_congr ((lbr_b (hb 55 (by decide) (by decide)) vo83 y).trans (lbr_c (oB 43 (by decide)) y)) Iff.rfl).trans or_E0
                  obtain ⟨so, -⟩ := st_ok (E := E0) (by decide) (by decide) ti93 okS ah93 af93 (f93 44 (by decide)).2 e8 hL xs93
                  rw [hF] at so
                  have yo : (x93 = 1 ∧ okR M J E0 (fun r => tbl (tabF k) (if k < 3 then 0 else phi J f r) (if k ≤ 3 then 0 else phi J g r) 0) ∧ phi J93 55 = (fun r => tbl (tabF k) (if k < 3 then 0 else phi J f r) (if k ≤ 3 then 0 else phi J g r) 0)) ∨ (x93 = 0 ∧ ¬ okR M J E0 (fun r => tbl (tabF k) (if k < 3 then 0 else phi J f r) (if k ≤ 3 then 0 else phi J g r) 0)) := so.imp_left (fun q => ⟨q.1, q.2, (phi_cg (fun k _ _ => by rw [(f93 44 (by decide)).2])).trans hF⟩)
                  clear so hL
                  refine Z_rg 31 8 rfl (fun gs8 gs8b => ?_)
                  refine Z_callVi (n := 99) [_, _, _] _ dX4_combine_96 rfl cwX4_219 rfl rfl rfl (Nat.le_of_ble_eq_true rfl) (by refine ⟨?_, ?_, ?_, ?_⟩ <;> exact Nat.le_of_ble_eq_true rfl) (fun a h => by unfold kRg at h; unfold kTk; omega) (zX4_gets  (by omega) (by omega) (by omega) (by omega) (by omega) (by exact ti93) (by exact fun q => ⟨ah93, by omega⟩) (by omega)) ?_
                  intro x96 M96 J96 z96 f96 q96
                  obtain ⟨ti96, hn96, am96, gx96⟩ := q96
                  refine Z_fr (fun frR => ?_)
                  refine Z_ok (fun okG => ?_)
                  have fq := fin_r (by omega) (by omega) (hdl_t db (hdl_a af93 (by decide))) (fun j hj => (congrFun (f93 44 (by decide)).2 j).trans (vo83 j (by omega))) yo ti96 okG gx96
                  clear yo
                  refine Z_iret dX4_combine_99 rfl ?_
                  exact ⟨RI_gets hr ok0 (hdl_t db (hdl_a af93 (by decide))) (fun q => by omega) frR ti96 hn96 gx96, by omega, Or.inr (Or.inr (Or.inr ⟨by omega, by omega, by omega, by omega, by omega, fq⟩))⟩
                · refine Z_iload (n := 79) dX4_combine_77 rfl rfl ?_
                  refine Z_goto (t := 83) dX4_combine_79 (by decide) ?_
                  refine Z_callVv (n := 86) [_, _, _, _] _ dX4_combine_83 rfl cwX4_204 rfl rfl rfl (Nat.le_of_ble_eq_true rfl) (by refine ⟨?_, ?_, ?_, ?_⟩ <;> exact Nat.le_of_ble_eq_true rfl) (fun a h => by unfold kRg at h; unfold kBits; omega) (zX4_makeOf_f  (by omega) (by omega) (by omega) (by omega) (by omega) (by omega)) ?_
                  intro M83 J83 f83 q83
                  obtain ⟨e83_1, vb83, vo83⟩ := q83
                  replace e83_1 := e83_1.symm; subst e83_1
                  refine Z_aload_n (n := 87) dX4_combine_86 rfl rfl ?_
                  refine Z_iload_n (n := 88) dX4_combine_87 rfl rfl ?_
                  refine Z_bipush (n := 90) dX4_combine_88 rfl (by decide) (by decide) ?_
                  refine Z_aload_n (n := 91) dX4_combine_90 rfl rfl ?_
                  refine Z_bipush (n := 93) dX4_combine_91 rfl (by decide) (by decide) ?_
                  refine Z_callVi (n := 96) [_] _ dX4_combine_93 rfl cwX4_207 rfl rfl rfl (Nat.le_of_ble_eq_true rfl) (by refine ⟨?_, ?_, ?_, ?_⟩ <;> exact Nat.le_of_ble_eq_true rfl) (fun a h => by unfold kRg at h; unfold kAd; omega) (zX4_steps  (by omega) (by omega) (by exact TI_bits tb (hb 55 (by decide) (by decide)) (f83 48 (by decide)).2 vo83) (by exact hb 55 (by decide) (by decide)) (by omega) (by omega)) ?_
                  intro x93 M93 J93 z93 f93 q93
                  obtain ⟨ti93, ah93, am93, au93, af93, xs93⟩ := q93
                  refine Z_ok (fun okS => ?_)
                  have hF : phi J83 55 = (fun r => tbl (tabF k) (if k < 3 then 0 else phi J f r) (if k ≤ 3 then 0 else phi J g r) 0) := by
                    refine (phi_of (by omega) (by omega) vb83).trans ?_
                    first
                      | rfl
                      | (funext r; simp only [if_pos (show k < 3 by omega), if_pos (show k ≤ 3 by omega)])
                      | (funext r; simp only [if_neg (show ¬ k < 3 by omega), if_pos (show k ≤ 3 by omega)])
                      | (exfalso; omega)
                  have hL : ∀ y, (LBr M55 J83 y ∨ laid (phi J83 55) y) ↔ ((LBr M J y ∨ E0 y) ∨ laid (phi J83 55) y) := fun y => (or_congr ((lbr_b (hb 55 (by decide) (by decide)) vo83 y).trans (lbr_c (oB 43 (by decide)) y)) Iff.rfl).trans or_E0
                  obtain ⟨so, -⟩ := st_ok (E := E0) (by decide) (by decide) ti93 okS ah93 af93 (f93 44 (by decide)).2 e8 hL xs93
                  rw [hF] at so
                  have yo : (x93 = 1 ∧ okR M J E0 (fun r => tbl (tabF k) (if k < 3 then 0 else phi J f r) (if k ≤ 3 then 0 else phi J g r) 0) ∧ phi J93 55 = (fun r => tbl (tabF k) (if k < 3 then 0 else phi J f r) (if k ≤ 3 then 0 else phi J g r) 0)) ∨ (x93 = 0 ∧ ¬ okR M J E0 (fun r => tbl (tabF k) (if k < 3 then 0 else phi J f r) (if k ≤ 3 then 0 else phi J g r) 0)) := so.imp_left (fun q => ⟨q.1, q.2, (phi_cg (fun k _ _ => by rw [(f93 44 (by decide)).2])).trans hF⟩)
                  clear so hL
                  refine Z_rg 31 8 rfl (fun gs8 gs8b => ?_)
                  refine Z_callVi (n := 99) [_, _, _] _ dX4_combine_96 rfl cwX4_219 rfl rfl rfl (Nat.le_of_ble_eq_true rfl) (by refine ⟨?_, ?_, ?_, ?_⟩ <;> exact Nat.le_of_ble_eq_true rfl) (fun a h => by unfold kRg at h; unfold kTk; omega) (zX4_gets  (by omega) (by omega) (by omega) (by omega) (by omega) (by exact ti93) (by exact fun q => ⟨ah93, by omega⟩) (by omega)) ?_
                  intro x96 M96 J96 z96 f96 q96
                  obtain ⟨ti96, hn96, am96, gx96⟩ := q96
                  refine Z_fr (fun frR => ?_)
                  refine Z_ok (fun okG => ?_)
                  have fq := fin_r (by omega) (by omega) (hdl_t db (hdl_a af93 (by decide))) (fun j hj => (congrFun (f93 44 (by decide)).2 j).trans (vo83 j (by omega))) yo ti96 okG gx96
                  clear yo
                  refine Z_iret dX4_combine_99 rfl ?_
                  exact ⟨RI_gets hr ok0 (hdl_t db (hdl_a af93 (by decide))) (fun q => by omega) frR ti96 hn96 gx96, by omega, Or.inr (Or.inr (Or.inr ⟨by omega, by omega, by omega, by omega, by omega, fq⟩))⟩
            · refine Z_bipush (n := 53) dX4_combine_51 rfl (by decide) (by decide) ?_
              refine Z_iret dX4_combine_53 rfl ?_
              first
                | exact ⟨hr, by omega, Or.inr (Or.inl ⟨by omega, by omega, by omega, rfl, rfl, rfl⟩)⟩
                | (exfalso; omega)
          · refine Z_iconst (n := 40) dX4_combine_39 rfl (by decide) ?_
            refine Z_iret dX4_combine_40 rfl ?_
            first
              | exact ⟨hr, by omega, Or.inl ⟨by omega, rfl, rfl, rfl⟩⟩
              | exact ⟨hr, by omega, Or.inr (Or.inr (Or.inl ⟨by omega, by omega, by omega, by omega, by omega, rfl, rfl, rfl⟩))⟩
              | (exfalso; omega)
set_option maxRecDepth 20000 in
theorem zX4_choose_g {G : tl_G} {M : zM} {J : zJ} {h f g k : Int} (hr : RI M J) (hk : M 31 27 ≤ 2000000000) (hW : whOK J) : ZN G yX4_choose mX4_choose 5 kRg [vR 31, vI h, vI f, vI g, vI k] F1 M J (qI (fun x M' J' => RI M' J' ∧ M' 31 27 ≤ M 31 27 + 400 ∧ (((h < 0 ∨ 12 ≤ h ∨ f < 0 ∨ 12 ≤ f ∨ M 43 f = 0 ∨ g < 0 ∨ 12 ≤ g ∨ M 43 g = 0 ∨ k < 0 ∨ 12 ≤ k ∨ M 43 k = 0) ∧ x = -1 ∧ M' = M ∧ J' = J) ∨ (¬ (h < 0 ∨ 12 ≤ h ∨ f < 0 ∨ 12 ≤ f ∨ M 43 f = 0 ∨ g < 0 ∨ 12 ≤ g ∨ M 43 g = 0 ∨ k < 0 ∨ 12 ≤ k ∨ M 43 k = 0) ∧ finR M J h (okR M J E0 (fun r => tbl (tabF 10) (phi J f r) (phi J g r) (phi J k r))) (fun r => tbl (tabF 10) (phi J f r) (phi J g r) (phi J k r)) x M' J')))) := by
  refine ZN_of (L := [_, _, _, _, _]) (by decide) rfl rfl (Nat.le_of_ble_eq_true rfl) rfl (fun hav => ?_)
  refine Z_ok (fun ok0 => ?_)
  refine Z_iload_n (n := 1) dX4_choose_0 rfl rfl ?_
  refine Z_callSi (n := 4) [_] _ dX4_choose_1 rfl cwX4_210 rfl rfl (Nat.le_of_ble_eq_true rfl) (by refine ⟨?_, ?_, ?_, ?_⟩ <;> exact Nat.le_of_ble_eq_true rfl) (fun _ _ => trivial) (zX4_isHandle  ) ?_
  intro x1 M1 J1 z1 f1 q1
  obtain ⟨e1_1, e1_2, h1⟩ := q1
  replace e1_1 := e1_1.symm; subst e1_1
  replace e1_2 := e1_2.symm; subst e1_2
  refine Z_if_eq (n := 7) (t := 32) dX4_choose_4 rfl (by decide) (fun c4 => ?_) (fun c4 => ?_)
  · refine Z_iconst (n := 33) dX4_choose_32 rfl (by decide) ?_
    refine Z_iret dX4_choose_33 rfl ?_
    exact ⟨hr, by omega, Or.inl ⟨by omega, rfl, rfl, rfl⟩⟩
  · refine Z_aload_n (n := 8) dX4_choose_7 rfl rfl ?_
    refine Z_iload_n (n := 9) dX4_choose_8 rfl rfl ?_
    refine Z_callVi (n := 12) [_] _ dX4_choose_9 rfl cwX4_223 rfl rfl rfl (Nat.le_of_ble_eq_true rfl) (by refine ⟨?_, ?_, ?_, ?_⟩ <;> exact Nat.le_of_ble_eq_true rfl) (fun _ _ => trivial) (zX4_isFunction  ) ?_
    intro x9 M9 J9 z9 f9 q9
    obtain ⟨e9_1, e9_2, h9⟩ := q9
    replace e9_1 := e9_1.symm; subst e9_1
    replace e9_2 := e9_2.symm; subst e9_2
    refine Z_if_eq (n := 15) (t := 32) dX4_choose_12 rfl (by decide) (fun c12 => ?_) (fun c12 => ?_)
    · refine Z_iconst (n := 33) dX4_choose_32 rfl (by decide) ?_
      refine Z_iret dX4_choose_33 rfl ?_
      exact ⟨hr, by omega, Or.inl ⟨by omega, rfl, rfl, rfl⟩⟩
    · refine Z_aload_n (n := 16) dX4_choose_15 rfl rfl ?_
      refine Z_iload_n (n := 17) dX4_choose_16 rfl rfl ?_
      refine Z_callVi (n := 20) [_] _ dX4_choose_17 rfl cwX4_223 rfl rfl rfl (Nat.le_of_ble_eq_true rfl) (by refine ⟨?_, ?_, ?_, ?_⟩ <;> exact Nat.le_of_ble_eq_true rfl) (fun _ _ => trivial) (zX4_isFunction  ) ?_
      intro x17 M17 J17 z17 f17 q17
      obtain ⟨e17_1, e17_2, h17⟩ := q17
      replace e17_1 := e17_1.symm; subst e17_1
      replace e17_2 := e17_2.symm; subst e17_2
      refine Z_if_eq (n := 23) (t := 32) dX4_choose_20 rfl (by decide) (fun c20 => ?_) (fun c20 => ?_)
      · refine Z_iconst (n := 33) dX4_choose_32 rfl (by decide) ?_
        refine Z_iret dX4_choose_33 rfl ?_
        exact ⟨hr, by omega, Or.inl ⟨by omega, rfl, rfl, rfl⟩⟩
      · refine Z_aload_n (n := 24) dX4_choose_23 rfl rfl ?_
        refine Z_iload (n := 26) dX4_choose_24 rfl rfl ?_
        refine Z_callVi (n := 29) [_] _ dX4_choose_26 rfl cwX4_223 rfl rfl rfl (Nat.le_of_ble_eq_true rfl) (by refine ⟨?_, ?_, ?_, ?_⟩ <;> exact Nat.le_of_ble_eq_true rfl) (fun _ _ => trivial) (zX4_isFunction  ) ?_
        intro x26 M26 J26 z26 f26 q26
        obtain ⟨e26_1, e26_2, h26⟩ := q26
        replace e26_1 := e26_1.symm; subst e26_1
        replace e26_2 := e26_2.symm; subst e26_2
        refine Z_if_ne (n := 32) (t := 34) dX4_choose_29 rfl (by decide) (fun c29 => ?_) (fun c29 => ?_)
        · refine Z_aload_n (n := 35) dX4_choose_34 rfl rfl ?_
          refine Z_callVv (n := 38) [] _ dX4_choose_35 rfl cwX4_213 rfl rfl rfl (Nat.le_of_ble_eq_true rfl) (by refine ⟨?_, ?_, ?_, ?_⟩ <;> exact Nat.le_of_ble_eq_true rfl) (fun _ h => h) (zX4_begin  (by decide)) ?_
          intro M35 J35 f35 q35
          obtain ⟨e35_1, e35_2⟩ := q35
          replace e35_1 := e35_1.symm; subst e35_1
          replace e35_2 := e35_2.symm; subst e35_2
          obtain ⟨tb, hb, ub, mb, db, ob⟩ := begin_ok hr
          refine Z_nm (fun M35 e35 => ?_)
          rw [← e35] at tb hb ub mb db ob
          have oB : ∀ a : Nat, ¬ a = 31 → M35 a = M a := fun a ha => by rw [e35]; exact uz_o ha
          have e8 : M35 31 8 = M 31 8 := by rw [e35]; exact uz_n (by decide)
          clear e35
          refine Z_rg 31 8 rfl (fun gb8 gb8b => ?_)
          refine Z_aload_n (n := 39) dX4_choose_38 rfl rfl ?_
          refine Z_bipush (n := 41) dX4_choose_39 rfl (by decide) (by decide) ?_
          refine Z_iload_n (n := 42) dX4_choose_41 rfl rfl ?_
          refine Z_iload_n (n := 43) dX4_choose_42 rfl rfl ?_
          refine Z_iload (n := 45) dX4_choose_43 rfl rfl ?_
          refine Z_callVv (n := 48) [_, _, _, _] _ dX4_choose_45 rfl cwX4_200 rfl rfl rfl (Nat.le_of_ble_eq_true rfl) (by refine ⟨?_, ?_, ?_, ?_⟩ <;> exact Nat.le_of_ble_eq_true rfl) (fun a h => by unfold kRg at h; unfold kBits; omega) (zX4_makeChoice  (by omega) (by omega) (by omega) (by omega) (by omega) (by omega) (by omega) (by omega)) ?_
          intro M45 J45 f45 q45
          obtain ⟨e45_1, vb45, vo45⟩ := q45
          replace e45_1 := e45_1.symm; subst e45_1
          refine Z_aload_n (n := 49) dX4_choose_48 rfl rfl ?_
          refine Z_iload_n (n := 50) dX4_choose_49 rfl rfl ?_
          refine Z_bipush (n := 52) dX4_choose_50 rfl (by decide) (by decide) ?_
          refine Z_aload_n (n := 53) dX4_choose_52 rfl rfl ?_
          refine Z_bipush (n := 55) dX4_choose_53 rfl (by decide) (by decide) ?_
          refine Z_callVi (n := 58) [_] _ dX4_choose_55 rfl cwX4_207 rfl rfl rfl (Nat.le_of_ble_eq_true rfl) (by refine ⟨?_, ?_, ?_, ?_⟩ <;> exact Nat.le_of_ble_eq_true rfl) (fun a h => by unfold kRg at h; unfold kAd; omega) (zX4_steps  (by omega) (by omega) (by exact TI_bits tb (hb 55 (by decide) (by decide)) (f45 48 (by decide)).2 vo45) (by exact hb 55 (by decide) (by decide)) (by omega) (by omega)) ?_
          intro x55 M55 J55 z55 f55 q55
          obtain ⟨ti55, ah55, am55, au55, af55, xs55⟩ := q55
          refine Z_ok (fun okS => ?_)
          have hF : phi J45 55 = (fun r => tbl (tabF 10) (phi J f r) (phi J g r) (phi J k r)) := by
            exact phi_ch vb45
          have hL : ∀ y, (LBr M35 J45 y ∨ laid (phi J45 55) y) ↔ ((LBr M J y ∨ E0 y) ∨ laid (phi J45 55) y) := fun y => (or_congr ((lbr_b (hb 55 (by decide) (by decide)) vo45 y).trans (lbr_c (oB 43 (by decide)) y)) Iff.rfl).trans or_E0
          obtain ⟨so, -⟩ := st_ok (E := E0) (by decide) (by decide) ti55 okS ah55 af55 (f55 44 (by decide)).2 e8 hL xs55
          rw [hF] at so
          have yo : (x55 = 1 ∧ okR M J E0 (fun r => tbl (tabF 10) (phi J f r) (phi J g r) (phi J k r)) ∧ phi J55 55 = (fun r => tbl (tabF 10) (phi J f r) (phi J g r) (phi J k r))) ∨ (x55 = 0 ∧ ¬ okR M J E0 (fun r => tbl (tabF 10) (phi J f r) (phi J g r) (phi J k r))) := so.imp_left (fun q => ⟨q.1, q.2, (phi_cg (fun k _ _ => by rw [(f55 44 (by decide)).2])).trans hF⟩)
          clear so hL
          refine Z_rg 31 8 rfl (fun gs8 gs8b => ?_)
          refine Z_callVi (n := 61) [_, _, _] _ dX4_choose_58 rfl cwX4_219 rfl rfl rfl (Nat.le_of_ble_eq_true rfl) (by refine ⟨?_, ?_, ?_, ?_⟩ <;> exact Nat.le_of_ble_eq_true rfl) (fun a h => by unfold kRg at h; unfold kTk; omega) (zX4_gets  (by omega) (by omega) (by omega) (by omega) (by omega) (by exact ti55) (by exact fun q => ⟨ah55, by omega⟩) (by omega)) ?_
          intro x58 M58 J58 z58 f58 q58
          obtain ⟨ti58, hn58, am58, gx58⟩ := q58
          refine Z_fr (fun frR => ?_)
          refine Z_ok (fun okG => ?_)
          have fq := fin_r (by omega) (by omega) (hdl_t db (hdl_a af55 (by decide))) (fun j hj => (congrFun (f55 44 (by decide)).2 j).trans (vo45 j (by omega))) yo ti58 okG gx58
          clear yo
          refine Z_iret dX4_choose_61 rfl ?_
          exact ⟨RI_gets hr ok0 (hdl_t db (hdl_a af55 (by decide))) (fun q => by omega) frR ti58 hn58 gx58, by omega, Or.inr ⟨by omega, fq⟩⟩
        · refine Z_iconst (n := 33) dX4_choose_32 rfl (by decide) ?_
          refine Z_iret dX4_choose_33 rfl ?_
          exact ⟨hr, by omega, Or.inl ⟨by omega, rfl, rfl, rfl⟩⟩
set_option maxRecDepth 20000 in
theorem zX4_restrict_g {G : tl_G} {M : zM} {J : zJ} {h f v y : Int} (hr : RI M J) (hk : M 31 27 ≤ 2000000000) (hW : whOK J) : ZN G yX4_restrict mX4_restrict 5 kRg [vR 31, vI h, vI f, vI v, vI y] F1 M J (qI (fun x M' J' => RI M' J' ∧ M' 31 27 ≤ M 31 27 + 400 ∧ (((h < 0 ∨ 12 ≤ h ∨ f < 0 ∨ 12 ≤ f ∨ M 43 f = 0) ∧ x = -1 ∧ M' = M ∧ J' = J) ∨ (¬ (h < 0 ∨ 12 ≤ h ∨ f < 0 ∨ 12 ≤ f ∨ M 43 f = 0) ∧ (v < 0 ∨ 8 ≤ v) ∧ x = -2 ∧ M' = M ∧ J' = J) ∨ (¬ (h < 0 ∨ 12 ≤ h ∨ f < 0 ∨ 12 ≤ f ∨ M 43 f = 0) ∧ 0 ≤ v ∧ v < 8 ∧ finR M J h (okR M J E0 (fun r => phi J f (updI r (M 39 v) (if y = 0 then 0 else 1)))) (fun r => phi J f (updI r (M 39 v) (if y = 0 then 0 else 1))) x M' J')))) := by
  refine ZN_of (L := [_, _, _, _, _]) (by decide) rfl rfl (Nat.le_of_ble_eq_true rfl) rfl (fun hav => ?_)
  refine Z_ok (fun ok0 => ?_)
  refine Z_aload_n (n := 1) dX4_restrict_0 rfl rfl ?_
  refine Z_iload_n (n := 2) dX4_restrict_1 rfl rfl ?_
  refine Z_iload_n (n := 3) dX4_restrict_2 rfl rfl ?_
  refine Z_iload_n (n := 4) dX4_restrict_3 rfl rfl ?_
  refine Z_callVi (n := 7) [_, _, _] _ dX4_restrict_4 rfl cwX4_226 rfl rfl rfl (Nat.le_of_ble_eq_true rfl) (by refine ⟨?_, ?_, ?_, ?_⟩ <;> exact Nat.le_of_ble_eq_true rfl) (fun _ _ => trivial) (zX4_noHalf  ) ?_
  intro x4 M4 J4 z4 f4 q4
  obtain ⟨e4_1, e4_2, h4⟩ := q4
  replace e4_1 := e4_1.symm; subst e4_1
  replace e4_2 := e4_2.symm; subst e4_2
  refine Z_if_ge (n := 10) (t := 18) dX4_restrict_7 rfl (by decide) (fun c7 => ?_) (fun c7 => ?_)
  · refine Z_aload_n (n := 19) dX4_restrict_18 rfl rfl ?_
    refine Z_callVv (n := 22) [] _ dX4_restrict_19 rfl cwX4_213 rfl rfl rfl (Nat.le_of_ble_eq_true rfl) (by refine ⟨?_, ?_, ?_, ?_⟩ <;> exact Nat.le_of_ble_eq_true rfl) (fun _ h => h) (zX4_begin  (by decide)) ?_
    intro M19 J19 f19 q19
    obtain ⟨e19_1, e19_2⟩ := q19
    replace e19_1 := e19_1.symm; subst e19_1
    replace e19_2 := e19_2.symm; subst e19_2
    obtain ⟨tb, hb, ub, mb, db, ob⟩ := begin_ok hr
    refine Z_nm (fun M19 e19 => ?_)
    rw [← e19] at tb hb ub mb db ob
    have oB : ∀ a : Nat, ¬ a = 31 → M19 a = M a := fun a ha => by rw [e19]; exact uz_o ha
    have e8 : M19 31 8 = M 31 8 := by rw [e19]; exact uz_n (by decide)
    clear e19
    refine Z_rg 31 8 rfl (fun gb8 gb8b => ?_)
    refine Z_aload_n (n := 23) dX4_restrict_22 rfl rfl ?_
    refine Z_bipush (n := 25) dX4_restrict_23 rfl (by decide) (by decide) ?_
    refine Z_iload_n (n := 26) dX4_restrict_25 rfl rfl ?_
    refine Z_iload_n (n := 27) dX4_restrict_26 rfl rfl ?_
    refine Z_iload (n := 29) dX4_restrict_27 rfl rfl ?_
    refine Z_callVv (n := 32) [_, _, _, _] _ dX4_restrict_29 rfl cwX4_230 rfl rfl rfl (Nat.le_of_ble_eq_true rfl) (by refine ⟨?_, ?_, ?_, ?_⟩ <;> exact Nat.le_of_ble_eq_true rfl) (fun a h => by unfold kRg at h; unfold kBits; omega) (zX4_makeHalf_f  (by omega) (by omega) (by omega) (by omega) (by omega) (by omega) (by exact ob) (by omega)) ?_
    intro M29 J29 f29 q29
    obtain ⟨e29_1, vb29, vo29⟩ := q29
    replace e29_1 := e29_1.symm; subst e29_1
    refine Z_aload_n (n := 33) dX4_restrict_32 rfl rfl ?_
    refine Z_iload_n (n := 34) dX4_restrict_33 rfl rfl ?_
    refine Z_bipush (n := 36) dX4_restrict_34 rfl (by decide) (by decide) ?_
    refine Z_aload_n (n := 37) dX4_restrict_36 rfl rfl ?_
    refine Z_bipush (n := 39) dX4_restrict_37 rfl (by decide) (by decide) ?_
    refine Z_callVi (n := 42) [_] _ dX4_restrict_39 rfl cwX4_207 rfl rfl rfl (Nat.le_of_ble_eq_true rfl) (by refine ⟨?_, ?_, ?_, ?_⟩ <;> exact Nat.le_of_ble_eq_true rfl) (fun a h => by unfold kRg at h; unfold kAd; omega) (zX4_steps  (by omega) (by omega) (by exact TI_bits tb (hb 55 (by decide) (by decide)) (f29 48 (by decide)).2 vo29) (by exact hb 55 (by decide) (by decide)) (by omega) (by omega)) ?_
    intro x39 M39 J39 z39 f39 q39
    obtain ⟨ti39, ah39, am39, au39, af39, xs39⟩ := q39
    refine Z_ok (fun okS => ?_)
    have hF : phi J29 55 = (fun r => phi J f (updI r (M 39 v) (if y = 0 then 0 else 1))) := by
      have hp : 0 ≤ M 39 v ∧ M 39 v ≤ 7 := by
        have w : -1 ≤ M 39 v ∧ M 39 v ≤ 7 := ok0 39 v
        exact ⟨hr.2.2.2.1 v (by omega) (by omega), w.2⟩
      have vbX := vb29
      rw [oB 39 (by decide)] at vbX
      exact phi_half hp.1 hp.2 hW vbX
    have hL : ∀ y, (LBr M19 J29 y ∨ laid (phi J29 55) y) ↔ ((LBr M J y ∨ E0 y) ∨ laid (phi J29 55) y) := fun y => (or_congr ((lbr_b (hb 55 (by decide) (by decide)) vo29 y).trans (lbr_c (oB 43 (by decide)) y)) Iff.rfl).trans or_E0
    obtain ⟨so, -⟩ := st_ok (E := E0) (by decide) (by decide) ti39 okS ah39 af39 (f39 44 (by decide)).2 e8 hL xs39
    rw [hF] at so
    have yo : (x39 = 1 ∧ okR M J E0 (fun r => phi J f (updI r (M 39 v) (if y = 0 then 0 else 1))) ∧ phi J39 55 = (fun r => phi J f (updI r (M 39 v) (if y = 0 then 0 else 1)))) ∨ (x39 = 0 ∧ ¬ okR M J E0 (fun r => phi J f (updI r (M 39 v) (if y = 0 then 0 else 1)))) := so.imp_left (fun q => ⟨q.1, q.2, (phi_cg (fun k _ _ => by rw [(f39 44 (by decide)).2])).trans hF⟩)
    clear so hL
    refine Z_rg 31 8 rfl (fun gs8 gs8b => ?_)
    refine Z_callVi (n := 45) [_, _, _] _ dX4_restrict_42 rfl cwX4_219 rfl rfl rfl (Nat.le_of_ble_eq_true rfl) (by refine ⟨?_, ?_, ?_, ?_⟩ <;> exact Nat.le_of_ble_eq_true rfl) (fun a h => by unfold kRg at h; unfold kTk; omega) (zX4_gets  (by omega) (by omega) (by omega) (by omega) (by omega) (by exact ti39) (by exact fun q => ⟨ah39, by omega⟩) (by omega)) ?_
    intro x42 M42 J42 z42 f42 q42
    obtain ⟨ti42, hn42, am42, gx42⟩ := q42
    refine Z_fr (fun frR => ?_)
    refine Z_ok (fun okG => ?_)
    have fq := fin_r (by omega) (by omega) (hdl_t db (hdl_a af39 (by decide))) (fun j hj => (congrFun (f39 44 (by decide)).2 j).trans (vo29 j (by omega))) yo ti42 okG gx42
    clear yo
    refine Z_iret dX4_restrict_45 rfl ?_
    exact ⟨RI_gets hr ok0 (hdl_t db (hdl_a af39 (by decide))) (fun q => by omega) frR ti42 hn42 gx42, by omega, Or.inr (Or.inr ⟨by omega, by omega, by omega, fq⟩)⟩
  · refine Z_aload_n (n := 11) dX4_restrict_10 rfl rfl ?_
    refine Z_iload_n (n := 12) dX4_restrict_11 rfl rfl ?_
    refine Z_iload_n (n := 13) dX4_restrict_12 rfl rfl ?_
    refine Z_iload_n (n := 14) dX4_restrict_13 rfl rfl ?_
    refine Z_callVi (n := 17) [_, _, _] _ dX4_restrict_14 rfl cwX4_226 rfl rfl rfl (Nat.le_of_ble_eq_true rfl) (by refine ⟨?_, ?_, ?_, ?_⟩ <;> exact Nat.le_of_ble_eq_true rfl) (fun _ _ => trivial) (zX4_noHalf  ) ?_
    intro x14 M14 J14 z14 f14 q14
    obtain ⟨e14_1, e14_2, h14⟩ := q14
    replace e14_1 := e14_1.symm; subst e14_1
    replace e14_2 := e14_2.symm; subst e14_2
    refine Z_iret dX4_restrict_17 rfl ?_
    by_cases hz : h < 0 ∨ 12 ≤ h ∨ f < 0 ∨ 12 ≤ f ∨ M 43 f = 0
    · exact ⟨hr, by omega, Or.inl ⟨hz, by omega, rfl, rfl⟩⟩
    · exact ⟨hr, by omega, Or.inr (Or.inl ⟨hz, by omega, by omega, rfl, rfl⟩)⟩
def hlQ (M : zM) (J : zJ) (F0 F1 : FN) (x : Int) (M' : zM) (J' : zJ) : Prop := (∀ j : Int, j < 48 → J' 44 j = J 44 j) ∧ M' 31 8 = M 31 8 ∧ ((x = 1 ∧ (okR M J E0 F0 ∧ okR M J (E1 F0) F1) ∧ (phi J' 53 = F0 ∧ phi J' 54 = F1) ∧ ∀ y, LBr M' J' y ↔ (LBr M J y ∨ E2 F0 F1 y)) ∨ (x = 0 ∧ ¬ (okR M J E0 F0 ∧ okR M J (E1 F0) F1)))
theorem or_E1 {A Q : Prop} {F : FN} {y : Lb} : (((A ∨ E0 y) ∨ laid F y) ∨ Q) ↔ ((A ∨ E1 F y) ∨ Q) := or_congr or_assoc Iff.rfl
theorem or_E2 {A : Prop} {F F1 : FN} {y : Lb} : ((A ∨ E1 F y) ∨ laid F1 y) ↔ (A ∨ E2 F F1 y) := or_assoc
set_option maxRecDepth 20000 in
theorem zX4_halves_g {G : tl_G} {M : zM} {J : zJ} {f v : Int} (f0 : 0 ≤ f) (f1 : f < 12) (v0 : 0 ≤ v) (v1 : v < 8) (hr : RI M J) (hk : M 31 27 ≤ 2000000000) (hW : whOK J) : ZN G yX4_halves mX4_halves 4 kRg [vR 31, vI f, vI v] F1 M J (qI (fun x M' J' => TI M' J' ∧ hdl M M' ∧ M' 31 27 ≤ M 31 27 + 2 ∧ M' 43 55 = 0 ∧ ((x = 1 ∧ M' 31 24 ≤ M' 31 8) ∨ x = 0) ∧ hlQ M J (fun r => phi J f (updI r (M 39 v) (if (0 : Int) = 0 then 0 else 1))) (fun r => phi J f (updI r (M 39 v) (if (1 : Int) = 0 then 0 else 1))) x M' J')) := by
  refine ZN_of (L := [_, _, _]) (by decide) rfl rfl (Nat.le_of_ble_eq_true rfl) rfl (fun hav => ?_)
  refine Z_ok (fun ok0 => ?_)
  refine Z_aload_n (n := 1) dX4_halves_0 rfl rfl ?_
  refine Z_callVv (n := 4) [] _ dX4_halves_1 rfl cwX4_213 rfl rfl rfl (Nat.le_of_ble_eq_true rfl) (by refine ⟨?_, ?_, ?_, ?_⟩ <;> exact Nat.le_of_ble_eq_true rfl) (fun _ h => h) (zX4_begin  (by decide)) ?_
  intro M1 J1 f1 q1
  obtain ⟨e1_1, e1_2⟩ := q1
  replace e1_1 := e1_1.symm; subst e1_1
  replace e1_2 := e1_2.symm; subst e1_2
  obtain ⟨tb, hb, ub, mb, db, ob⟩ := begin_ok hr
  refine Z_nm (fun M1 e1 => ?_)
  rw [← e1] at tb hb ub mb db ob
  have oB : ∀ a : Nat, ¬ a = 31 → M1 a = M a := fun a ha => by rw [e1]; exact uz_o ha
  have e8 : M1 31 8 = M 31 8 := by rw [e1]; exact uz_n (by decide)
  clear e1
  refine Z_rg 31 8 rfl (fun gb8 gb8b => ?_)
  refine Z_aload_n (n := 5) dX4_halves_4 rfl rfl ?_
  refine Z_bipush (n := 7) dX4_halves_5 rfl (by decide) (by decide) ?_
  refine Z_iload_n (n := 8) dX4_halves_7 rfl rfl ?_
  refine Z_iload_n (n := 9) dX4_halves_8 rfl rfl ?_
  refine Z_iconst (n := 10) dX4_halves_9 rfl (by decide) ?_
  refine Z_callVv (n := 13) [_, _, _, _] _ dX4_halves_10 rfl cwX4_230 rfl rfl rfl (Nat.le_of_ble_eq_true rfl) (by refine ⟨?_, ?_, ?_, ?_⟩ <;> exact Nat.le_of_ble_eq_true rfl) (fun a h => by unfold kRg at h; unfold kBits; omega) (zX4_makeHalf_f  (by omega) (by omega) (by omega) (by omega) (by omega) (by omega) (by exact ob) (by omega)) ?_
  intro M10 J10 f10 q10
  obtain ⟨e10_1, vb10, vo10⟩ := q10
  replace e10_1 := e10_1.symm; subst e10_1
  refine Z_aload_n (n := 14) dX4_halves_13 rfl rfl ?_
  refine Z_bipush (n := 16) dX4_halves_14 rfl (by decide) (by decide) ?_
  refine Z_callVi (n := 19) [_] _ dX4_halves_16 rfl cwX4_207 rfl rfl rfl (Nat.le_of_ble_eq_true rfl) (by refine ⟨?_, ?_, ?_, ?_⟩ <;> exact Nat.le_of_ble_eq_true rfl) (fun a h => by unfold kRg at h; unfold kAd; omega) (zX4_steps  (by omega) (by omega) (by exact TI_bits tb (hb 53 (by decide) (by decide)) (f10 48 (by decide)).2 vo10) (by exact hb 53 (by decide) (by decide)) (by omega) (by omega)) ?_
  intro x16 M16 J16 z16 f16 q16
  obtain ⟨ti16, ah16, am16, au16, af16, xs16⟩ := q16
  have ob16 : rOrd M16 := by unfold rOrd; rw [(f16 39 (by decide)).1]; exact ob
  have h54 : M16 43 54 = 0 := ((af16.1 54 (by decide)).2).trans (hb 54 (by decide) (by decide))
  have h55 : M16 43 55 = 0 := ((af16.1 55 (by decide)).2).trans (hb 55 (by decide) (by decide))
  have hd16 : hdl M M16 := hdl_t db (hdl_a af16 (by decide))
  have e82 : M16 31 8 = M 31 8 := (af16.2.2 8 (by decide) (by decide) (by decide) (by decide)).trans e8
  have j16 : ∀ j : Int, j < 48 → J16 44 j = J 44 j := fun j hj => (congrFun (f16 44 (by decide)).2 j).trans (vo10 j (by omega))
  refine Z_rg 31 8 rfl (fun gs8 gs8b => ?_)
  refine Z_ok (fun okS1 => ?_)
  have hF1 : phi J10 53 = (fun r => phi J f (updI r (M 39 v) (if (0 : Int) = 0 then 0 else 1))) := by
    have hp : 0 ≤ M 39 v ∧ M 39 v ≤ 7 := by
      have w : -1 ≤ M 39 v ∧ M 39 v ≤ 7 := ok0 39 v
      exact ⟨hr.2.2.2.1 v (by omega) (by omega), w.2⟩
    have vbX := vb10
    rw [oB 39 (by decide)] at vbX
    exact phi_half hp.1 hp.2 hW vbX
  have hL1 : ∀ y, (LBr M1 J10 y ∨ laid (phi J10 53) y) ↔ ((LBr M J y ∨ E0 y) ∨ laid (phi J10 53) y) := fun y => (or_congr ((lbr_b (hb 53 (by decide) (by decide)) vo10 y).trans (lbr_c (oB 43 (by decide)) y)) Iff.rfl).trans or_E0
  obtain ⟨so1, sl1⟩ := st_ok (E := E0) (by decide) (by decide) ti16 okS1 ah16 af16 (f16 44 (by decide)).2 e8 hL1 xs16
  rw [hF1] at so1 sl1
  clear hL1
  refine Z_if_ne (n := 22) (t := 24) dX4_halves_19 rfl (by decide) (fun c19 => ?_) (fun c19 => ?_)
  · refine Z_aload_n (n := 25) dX4_halves_24 rfl rfl ?_
    refine Z_bipush (n := 27) dX4_halves_25 rfl (by decide) (by decide) ?_
    refine Z_iload_n (n := 28) dX4_halves_27 rfl rfl ?_
    refine Z_iload_n (n := 29) dX4_halves_28 rfl rfl ?_
    refine Z_iconst (n := 30) dX4_halves_29 rfl (by decide) ?_
    refine Z_callVv (n := 33) [_, _, _, _] _ dX4_halves_30 rfl cwX4_230 rfl rfl rfl (Nat.le_of_ble_eq_true rfl) (by refine ⟨?_, ?_, ?_, ?_⟩ <;> exact Nat.le_of_ble_eq_true rfl) (fun a h => by unfold kRg at h; unfold kBits; omega) (zX4_makeHalf_f  (by omega) (by omega) (by omega) (by omega) (by omega) (by omega) (by exact ob16) (by omega)) ?_
    intro M30 J30 f30 q30
    obtain ⟨e30_1, vb30, vo30⟩ := q30
    replace e30_1 := e30_1.symm; subst e30_1
    refine Z_aload_n (n := 34) dX4_halves_33 rfl rfl ?_
    refine Z_bipush (n := 36) dX4_halves_34 rfl (by decide) (by decide) ?_
    refine Z_callVi (n := 39) [_] _ dX4_halves_36 rfl cwX4_207 rfl rfl rfl (Nat.le_of_ble_eq_true rfl) (by refine ⟨?_, ?_, ?_, ?_⟩ <;> exact Nat.le_of_ble_eq_true rfl) (fun a h => by unfold kRg at h; unfold kAd; omega) (zX4_steps  (by omega) (by omega) (by exact TI_bits ti16 h54 (f30 48 (by decide)).2 vo30) (by exact h54) (by omega) (by omega)) ?_
    intro x36 M36 J36 z36 f36 q36
    obtain ⟨ti36, ah36, am36, au36, af36, xs36⟩ := q36
    have hw16 : ∀ q : Int, 2 ≤ q → q ≤ 7 → J16 54 q = whF q := fun q a b => by rw [(f16 54 (by decide)).2, (f10 54 (by decide)).2]; exact hW q a b
    refine Z_ok (fun okS2 => ?_)
    have hF2 : phi J30 54 = (fun r => phi J f (updI r (M 39 v) (if (1 : Int) = 0 then 0 else 1))) := by
      have hp : 0 ≤ M 39 v ∧ M 39 v ≤ 7 := by
        have w : -1 ≤ M 39 v ∧ M 39 v ≤ 7 := ok0 39 v
        exact ⟨hr.2.2.2.1 v (by omega) (by omega), w.2⟩
      have vbX := vb30
      rw [(f16 39 (by decide)).1, oB 39 (by decide)] at vbX
      refine (phi_half hp.1 hp.2 hw16 vbX).trans ?_
      rw [phi_cg (J := J) (g := f) (fun k k0 k1 => j16 _ (by omega))]
    have hL2 : ∀ y, (LBr M16 J30 y ∨ laid (phi J30 54) y) ↔ ((LBr M J y ∨ (E1 (fun r => phi J f (updI r (M 39 v) (if (0 : Int) = 0 then 0 else 1)))) y) ∨ laid (phi J30 54) y) := fun y => (or_congr ((lbr_b h54 vo30 y).trans (sl1 y)) Iff.rfl).trans or_E1
    obtain ⟨so2, sl2⟩ := st_ok (E := E1 (fun r => phi J f (updI r (M 39 v) (if (0 : Int) = 0 then 0 else 1)))) (by decide) (by decide) ti36 okS2 ah36 af36 (f36 44 (by decide)).2 e82 hL2 xs36
    rw [hF2] at so2 sl2
    clear hL2
    refine Z_zret dX4_halves_39 rfl (by omega) (by omega) ?_
    have k1 := so1.resolve_right (fun q => by omega)
    refine ⟨ti36, hdl_t hd16 (hdl_a af36 (by decide)), by omega, ((af36.1 55 (by decide)).2).trans h55, by omega, fun j hj => (congrFun (f36 44 (by decide)).2 j).trans ((vo30 j (by omega)).trans (j16 j hj)), (af36.2.2 8 (by decide) (by decide) (by decide) (by decide)).trans e82, ?_⟩
    rcases so2 with ⟨q, q2⟩ | ⟨q, q2⟩
    · refine Or.inl ⟨q, ⟨k1.2, q2⟩, ⟨?_, ?_⟩, fun y => (sl2 y).trans or_E2⟩
      · refine (phi_cg (fun k k0 k1 => ?_)).trans hF1
        rw [(f36 44 (by decide)).2, vo30 _ (by omega), (f16 44 (by decide)).2]
      · exact (phi_cg (fun k _ _ => by rw [(f36 44 (by decide)).2])).trans hF2
    · exact Or.inr ⟨q, fun t => q2 t.2⟩
  · refine Z_iconst (n := 23) dX4_halves_22 rfl (by decide) ?_
    refine Z_zret dX4_halves_23 rfl (by omega) (by omega) ?_
    refine ⟨ti16, hd16, by omega, h55, Or.inr rfl, j16, e82, Or.inr ⟨rfl, fun t => ?_⟩⟩
    rcases so1 with ⟨q, -⟩ | ⟨-, q⟩
    · omega
    · exact q t.1
set_option maxRecDepth 20000 in
theorem zX4_quantify_g {G : tl_G} {M : zM} {J : zJ} {h f v y : Int} (hr : RI M J) (hk : M 31 27 ≤ 2000000000) (hW : whOK J) : ZN G yX4_quantify mX4_quantify 5 kRg [vR 31, vI h, vI f, vI v, vI y] F1 M J (qI (fun x M' J' => RI M' J' ∧ M' 31 27 ≤ M 31 27 + 400 ∧ (((h < 0 ∨ 12 ≤ h ∨ f < 0 ∨ 12 ≤ f ∨ M 43 f = 0) ∧ x = -1 ∧ M' = M ∧ J' = J) ∨ (¬ (h < 0 ∨ 12 ≤ h ∨ f < 0 ∨ 12 ≤ f ∨ M 43 f = 0) ∧ (v < 0 ∨ 8 ≤ v) ∧ x = -2 ∧ M' = M ∧ J' = J) ∨ (¬ (h < 0 ∨ 12 ≤ h ∨ f < 0 ∨ 12 ≤ f ∨ M 43 f = 0) ∧ 0 ≤ v ∧ v < 8 ∧ finR M J h (okR M J E0 (fun r => phi J f (updI r (M 39 v) (if (0 : Int) = 0 then 0 else 1))) ∧ okR M J (E1 (fun r => phi J f (updI r (M 39 v) (if (0 : Int) = 0 then 0 else 1)))) (fun r => phi J f (updI r (M 39 v) (if (1 : Int) = 0 then 0 else 1))) ∧ okR M J (E2 (fun r => phi J f (updI r (M 39 v) (if (0 : Int) = 0 then 0 else 1))) (fun r => phi J f (updI r (M 39 v) (if (1 : Int) = 0 then 0 else 1)))) (fun r => tbl (tabF (if y = 0 then 5 else 4)) ((fun r => phi J f (updI r (M 39 v) (if (0 : Int) = 0 then 0 else 1))) r) ((fun r => phi J f (updI r (M 39 v) (if (1 : Int) = 0 then 0 else 1))) r) 0)) (fun r => tbl (tabF (if y = 0 then 5 else 4)) ((fun r => phi J f (updI r (M 39 v) (if (0 : Int) = 0 then 0 else 1))) r) ((fun r => phi J f (updI r (M 39 v) (if (1 : Int) = 0 then 0 else 1))) r) 0) x M' J')))) := by
  refine ZN_of (L := [_, _, _, _, _, _]) (by decide) rfl rfl (Nat.le_of_ble_eq_true rfl) rfl (fun hav => ?_)
  refine Z_ok (fun ok0 => ?_)
  refine Z_aload_n (n := 1) dX4_quantify_0 rfl rfl ?_
  refine Z_iload_n (n := 2) dX4_quantify_1 rfl rfl ?_
  refine Z_iload_n (n := 3) dX4_quantify_2 rfl rfl ?_
  refine Z_iload_n (n := 4) dX4_quantify_3 rfl rfl ?_
  refine Z_callVi (n := 7) [_, _, _] _ dX4_quantify_4 rfl cwX4_226 rfl rfl rfl (Nat.le_of_ble_eq_true rfl) (by refine ⟨?_, ?_, ?_, ?_⟩ <;> exact Nat.le_of_ble_eq_true rfl) (fun _ _ => trivial) (zX4_noHalf  ) ?_
  intro x4 M4 J4 z4 f4 q4
  obtain ⟨e4_1, e4_2, h4⟩ := q4
  replace e4_1 := e4_1.symm; subst e4_1
  replace e4_2 := e4_2.symm; subst e4_2
  refine Z_if_ge (n := 10) (t := 18) dX4_quantify_7 rfl (by decide) (fun c7 => ?_) (fun c7 => ?_)
  · have ct59 : ∀ (w : Int) (M59 : zM) (J59 : zJ), (TI M59 J59) → (hdl M M59) → (M59 31 27 ≤ M 31 27 + 3) → (w = 0 ∨ w = 1) → (w = 1 → ¬ M59 43 55 = 0 ∧ M59 31 24 ≤ M59 31 8) → (∀ j : Int, j < 48 → J59 44 j = J 44 j) → (((w = 1 ∧ (okR M J E0 (fun r => phi J f (updI r (M 39 v) (if (0 : Int) = 0 then 0 else 1))) ∧ okR M J (E1 (fun r => phi J f (updI r (M 39 v) (if (0 : Int) = 0 then 0 else 1)))) (fun r => phi J f (updI r (M 39 v) (if (1 : Int) = 0 then 0 else 1))) ∧ okR M J (E2 (fun r => phi J f (updI r (M 39 v) (if (0 : Int) = 0 then 0 else 1))) (fun r => phi J f (updI r (M 39 v) (if (1 : Int) = 0 then 0 else 1)))) (fun r => tbl (tabF (if y = 0 then 5 else 4)) ((fun r => phi J f (updI r (M 39 v) (if (0 : Int) = 0 then 0 else 1))) r) ((fun r => phi J f (updI r (M 39 v) (if (1 : Int) = 0 then 0 else 1))) r) 0)) ∧ phi J59 55 = (fun r => tbl (tabF (if y = 0 then 5 else 4)) ((fun r => phi J f (updI r (M 39 v) (if (0 : Int) = 0 then 0 else 1))) r) ((fun r => phi J f (updI r (M 39 v) (if (1 : Int) = 0 then 0 else 1))) r) 0)) ∨ (w = 0 ∧ ¬ (okR M J E0 (fun r => phi J f (updI r (M 39 v) (if (0 : Int) = 0 then 0 else 1))) ∧ okR M J (E1 (fun r => phi J f (updI r (M 39 v) (if (0 : Int) = 0 then 0 else 1)))) (fun r => phi J f (updI r (M 39 v) (if (1 : Int) = 0 then 0 else 1))) ∧ okR M J (E2 (fun r => phi J f (updI r (M 39 v) (if (0 : Int) = 0 then 0 else 1))) (fun r => phi J f (updI r (M 39 v) (if (1 : Int) = 0 then 0 else 1)))) (fun r => tbl (tabF (if y = 0 then 5 else 4)) ((fun r => phi J f (updI r (M 39 v) (if (0 : Int) = 0 then 0 else 1))) r) ((fun r => phi J f (updI r (M 39 v) (if (1 : Int) = 0 then 0 else 1))) r) 0))))) → TZ G mX4_quantify (tl_rm 5 0 0) 0 0 kRg M J 59 [some (vR 31), some (vI h), some (vI f), some (vI v), some (vI y), some (vI w)] [] F1 M59 J59 (ZM G (zPost G kRg F1 M J (qI (fun x M' J' => RI M' J' ∧ M' 31 27 ≤ M 31 27 + 400 ∧ (((h < 0 ∨ 12 ≤ h ∨ f < 0 ∨ 12 ≤ f ∨ M 43 f = 0) ∧ x = -1 ∧ M' = M ∧ J' = J) ∨ (¬ (h < 0 ∨ 12 ≤ h ∨ f < 0 ∨ 12 ≤ f ∨ M 43 f = 0) ∧ (v < 0 ∨ 8 ≤ v) ∧ x = -2 ∧ M' = M ∧ J' = J) ∨ (¬ (h < 0 ∨ 12 ≤ h ∨ f < 0 ∨ 12 ≤ f ∨ M 43 f = 0) ∧ 0 ≤ v ∧ v < 8 ∧ finR M J h (okR M J E0 (fun r => phi J f (updI r (M 39 v) (if (0 : Int) = 0 then 0 else 1))) ∧ okR M J (E1 (fun r => phi J f (updI r (M 39 v) (if (0 : Int) = 0 then 0 else 1)))) (fun r => phi J f (updI r (M 39 v) (if (1 : Int) = 0 then 0 else 1))) ∧ okR M J (E2 (fun r => phi J f (updI r (M 39 v) (if (0 : Int) = 0 then 0 else 1))) (fun r => phi J f (updI r (M 39 v) (if (1 : Int) = 0 then 0 else 1)))) (fun r => tbl (tabF (if y = 0 then 5 else 4)) ((fun r => phi J f (updI r (M 39 v) (if (0 : Int) = 0 then 0 else 1))) r) ((fun r => phi J f (updI r (M 39 v) (if (1 : Int) = 0 then 0 else 1))) r) 0)) (fun r => tbl (tabF (if y = 0 then 5 else 4)) ((fun r => phi J f (updI r (M 39 v) (if (0 : Int) = 0 then 0 else 1))) r) ((fun r => phi J f (updI r (M 39 v) (if (1 : Int) = 0 then 0 else 1))) r) 0) x M' J'))))) 0 0) := by
      intro w M59 J59 i59_0 i59_1 i59_2 i59_3 i59_4 i59_5 i59_6
      refine Z_aload_n (n := 60) dX4_quantify_59 rfl rfl ?_
      refine Z_iload_n (n := 61) dX4_quantify_60 rfl rfl ?_
      refine Z_bipush (n := 63) dX4_quantify_61 rfl (by decide) (by decide) ?_
      refine Z_iload (n := 65) dX4_quantify_63 rfl rfl ?_
      refine Z_rg 31 8 rfl (fun gs8 gs8b => ?_)
      have i_u : w = 1 → M59 31 24 ≤ M59 31 8 := fun q => (i59_4 q).2
      refine Z_callVi (n := 68) [_, _, _] _ dX4_quantify_65 rfl cwX4_219 rfl rfl rfl (Nat.le_of_ble_eq_true rfl) (by refine ⟨?_, ?_, ?_, ?_⟩ <;> exact Nat.le_of_ble_eq_true rfl) (fun a h => by unfold kRg at h; unfold kTk; omega) (zX4_gets  (by omega) (by omega) (by omega) (by omega) (by omega) (by exact i59_0) (by exact fun q => ⟨(i59_4 q).1, by omega⟩) (by omega)) ?_
      intro x65 M65 J65 z65 f65 q65
      obtain ⟨ti65, hn65, am65, gx65⟩ := q65
      refine Z_fr (fun frR => ?_)
      refine Z_ok (fun okG => ?_)
      have fq := fin_r (by omega) (by omega) i59_1 i59_5 i59_6 ti65 okG gx65
      refine Z_iret dX4_quantify_68 rfl ?_
      exact ⟨RI_gets hr ok0 i59_1 (fun q => (i59_4 q).2) frR ti65 hn65 gx65, by omega, Or.inr (Or.inr ⟨by omega, by omega, by omega, fq⟩)⟩
    refine Z_aload_n (n := 19) dX4_quantify_18 rfl rfl ?_
    refine Z_iload_n (n := 20) dX4_quantify_19 rfl rfl ?_
    refine Z_iload_n (n := 21) dX4_quantify_20 rfl rfl ?_
    refine Z_callVi (n := 24) [_, _] _ dX4_quantify_21 rfl cwX4_234 rfl rfl rfl (Nat.le_of_ble_eq_true rfl) (by refine ⟨?_, ?_, ?_, ?_⟩ <;> exact Nat.le_of_ble_eq_true rfl) (fun _ h => h) (zX4_halves_g  (by omega) (by omega) (by omega) (by omega) (by exact hr) (by omega) (by exact hW)) ?_
    intro x21 M21 J21 z21 f21 q21
    obtain ⟨ti21, hd21, mk21, h5521, hx21, hl21⟩ := q21
    refine Z_rg 31 8 rfl (fun gh8 gh8b => ?_)
    refine Z_istore (L' := [_, _, _, _, _, _]) (n := 26) dX4_quantify_24 rfl (by decide) rfl rfl ?_
    refine Z_iload (n := 28) dX4_quantify_26 rfl rfl ?_
    refine Z_if_eq (n := 31) (t := 59) dX4_quantify_28 rfl (by decide) (fun c28 => ?_) (fun c28 => ?_)
    · have q0 := ti21
      have q1 := hd21
      have q4 : x21 = 1 → ¬ M21 43 55 = 0 ∧ M21 31 24 ≤ M21 31 8 := fun q => by omega
      have q5 := hl21.1
      have q6 : (x21 = 1 ∧ (okR M J E0 (fun r => phi J f (updI r (M 39 v) (if (0 : Int) = 0 then 0 else 1))) ∧ okR M J (E1 (fun r => phi J f (updI r (M 39 v) (if (0 : Int) = 0 then 0 else 1)))) (fun r => phi J f (updI r (M 39 v) (if (1 : Int) = 0 then 0 else 1))) ∧ okR M J (E2 (fun r => phi J f (updI r (M 39 v) (if (0 : Int) = 0 then 0 else 1))) (fun r => phi J f (updI r (M 39 v) (if (1 : Int) = 0 then 0 else 1)))) (fun r => tbl (tabF (if y = 0 then 5 else 4)) ((fun r => phi J f (updI r (M 39 v) (if (0 : Int) = 0 then 0 else 1))) r) ((fun r => phi J f (updI r (M 39 v) (if (1 : Int) = 0 then 0 else 1))) r) 0)) ∧ phi J21 55 = (fun r => tbl (tabF (if y = 0 then 5 else 4)) ((fun r => phi J f (updI r (M 39 v) (if (0 : Int) = 0 then 0 else 1))) r) ((fun r => phi J f (updI r (M 39 v) (if (1 : Int) = 0 then 0 else 1))) r) 0)) ∨ (x21 = 0 ∧ ¬ (okR M J E0 (fun r => phi J f (updI r (M 39 v) (if (0 : Int) = 0 then 0 else 1))) ∧ okR M J (E1 (fun r => phi J f (updI r (M 39 v) (if (0 : Int) = 0 then 0 else 1)))) (fun r => phi J f (updI r (M 39 v) (if (1 : Int) = 0 then 0 else 1))) ∧ okR M J (E2 (fun r => phi J f (updI r (M 39 v) (if (0 : Int) = 0 then 0 else 1))) (fun r => phi J f (updI r (M 39 v) (if (1 : Int) = 0 then 0 else 1)))) (fun r => tbl (tabF (if y = 0 then 5 else 4)) ((fun r => phi J f (updI r (M 39 v) (if (0 : Int) = 0 then 0 else 1))) r) ((fun r => phi J f (updI r (M 39 v) (if (1 : Int) = 0 then 0 else 1))) r) 0))) := by
        rcases hl21.2.2 with ⟨a, -⟩ | ⟨a, b⟩
        · omega
        · exact Or.inr ⟨a, fun t => b ⟨t.1, t.2.1⟩⟩
      refine Z_loc (L' := [some _, some _, some _, some _, some _, some _]) (lsub_same (lsub_same (lsub_same (lsub_same (lsub_same (lsub_same lsub_nil)))))) ?_
      exact ct59 _ _ _ (by exact q0) (by exact q1) (by omega) (by omega) (by exact q4) (by exact q5) (by exact q6)
    · refine Z_aload_n (n := 32) dX4_quantify_31 rfl rfl ?_
      refine Z_bipush (n := 34) dX4_quantify_32 rfl (by decide) (by decide) ?_
      refine Z_iload (n := 36) dX4_quantify_34 rfl rfl ?_
      refine Z_if_eq (n := 39) (t := 43) dX4_quantify_36 rfl (by decide) (fun c36 => ?_) (fun c36 => ?_)
      · refine Z_iconst (n := 44) dX4_quantify_43 rfl (by decide) ?_
        refine Z_bipush (n := 46) dX4_quantify_44 rfl (by decide) (by decide) ?_
        refine Z_bipush (n := 48) dX4_quantify_46 rfl (by decide) (by decide) ?_
        refine Z_callVv (n := 51) [_, _, _, _] _ dX4_quantify_48 rfl cwX4_204 rfl rfl rfl (Nat.le_of_ble_eq_true rfl) (by refine ⟨?_, ?_, ?_, ?_⟩ <;> exact Nat.le_of_ble_eq_true rfl) (fun a h => by unfold kRg at h; unfold kBits; omega) (zX4_makeOf_f  (by omega) (by omega) (by omega) (by omega) (by omega) (by omega)) ?_
        intro M48 J48 f48 q48
        obtain ⟨e48_1, vb48, vo48⟩ := q48
        replace e48_1 := e48_1.symm; subst e48_1
        refine Z_aload_n (n := 52) dX4_quantify_51 rfl rfl ?_
        refine Z_bipush (n := 54) dX4_quantify_52 rfl (by decide) (by decide) ?_
        refine Z_callVi (n := 57) [_] _ dX4_quantify_54 rfl cwX4_207 rfl rfl rfl (Nat.le_of_ble_eq_true rfl) (by refine ⟨?_, ?_, ?_, ?_⟩ <;> exact Nat.le_of_ble_eq_true rfl) (fun a h => by unfold kRg at h; unfold kAd; omega) (zX4_steps  (by omega) (by omega) (by exact TI_bits ti21 h5521 (f48 48 (by decide)).2 vo48) (by exact h5521) (by omega) (by omega)) ?_
        intro x54 M54 J54 z54 f54 q54
        obtain ⟨ti54, ah54, am54, au54, af54, xs54⟩ := q54
        refine Z_ok (fun okS => ?_)
        have q0 := ti54
        have q1 : hdl M M54 := hdl_t hd21 (hdl_a af54 (by decide))
        have q4 : x54 = 1 → ¬ M54 43 55 = 0 ∧ M54 31 24 ≤ M54 31 8 := fun q => ⟨ah54, by omega⟩
        obtain ⟨jh, e8h, hh⟩ := hl21
        obtain ⟨-, okh, ⟨p53, p54⟩, lh⟩ := hh.resolve_right (fun q => by omega)
        have hF : phi J48 55 = (fun r => tbl (tabF (if y = 0 then 5 else 4)) ((fun r => phi J f (updI r (M 39 v) (if (0 : Int) = 0 then 0 else 1))) r) ((fun r => phi J f (updI r (M 39 v) (if (1 : Int) = 0 then 0 else 1))) r) 0) := by
          refine (phi_of (by omega) (by omega) vb48).trans ?_
          rw [p53, p54]
          first
            | (rw [if_pos (show y = 0 by omega)]; rfl)
            | (rw [if_neg (show ¬ y = 0 by omega)]; rfl)
        have hL : ∀ y, (LBr M21 J48 y ∨ laid (phi J48 55) y) ↔ ((LBr M J y ∨ (E2 (fun r => phi J f (updI r (M 39 v) (if (0 : Int) = 0 then 0 else 1))) (fun r => phi J f (updI r (M 39 v) (if (1 : Int) = 0 then 0 else 1)))) y) ∨ laid (phi J48 55) y) := fun y => or_congr ((lbr_b h5521 vo48 y).trans (lh y)) Iff.rfl
        obtain ⟨so, -⟩ := st_ok (E := E2 (fun r => phi J f (updI r (M 39 v) (if (0 : Int) = 0 then 0 else 1))) (fun r => phi J f (updI r (M 39 v) (if (1 : Int) = 0 then 0 else 1)))) (by decide) (by decide) ti54 okS ah54 af54 (f54 44 (by decide)).2 e8h hL xs54
        rw [hF] at so
        have q5 : ∀ j : Int, j < 48 → J54 44 j = J 44 j := fun j hj => (congrFun (f54 44 (by decide)).2 j).trans ((vo48 j (by omega)).trans (jh j hj))
        have q6 : (x54 = 1 ∧ (okR M J E0 (fun r => phi J f (updI r (M 39 v) (if (0 : Int) = 0 then 0 else 1))) ∧ okR M J (E1 (fun r => phi J f (updI r (M 39 v) (if (0 : Int) = 0 then 0 else 1)))) (fun r => phi J f (updI r (M 39 v) (if (1 : Int) = 0 then 0 else 1))) ∧ okR M J (E2 (fun r => phi J f (updI r (M 39 v) (if (0 : Int) = 0 then 0 else 1))) (fun r => phi J f (updI r (M 39 v) (if (1 : Int) = 0 then 0 else 1)))) (fun r => tbl (tabF (if y = 0 then 5 else 4)) ((fun r => phi J f (updI r (M 39 v) (if (0 : Int) = 0 then 0 else 1))) r) ((fun r => phi J f (updI r (M 39 v) (if (1 : Int) = 0 then 0 else 1))) r) 0)) ∧ phi J54 55 = (fun r => tbl (tabF (if y = 0 then 5 else 4)) ((fun r => phi J f (updI r (M 39 v) (if (0 : Int) = 0 then 0 else 1))) r) ((fun r => phi J f (updI r (M 39 v) (if (1 : Int) = 0 then 0 else 1))) r) 0)) ∨ (x54 = 0 ∧ ¬ (okR M J E0 (fun r => phi J f (updI r (M 39 v) (if (0 : Int) = 0 then 0 else 1))) ∧ okR M J (E1 (fun r => phi J f (updI r (M 39 v) (if (0 : Int) = 0 then 0 else 1)))) (fun r => phi J f (updI r (M 39 v) (if (1 : Int) = 0 then 0 else 1))) ∧ okR M J (E2 (fun r => phi J f (updI r (M 39 v) (if (0 : Int) = 0 then 0 else 1))) (fun r => phi J f (updI r (M 39 v) (if (1 : Int) = 0 then 0 else 1)))) (fun r => tbl (tabF (if y = 0 then 5 else 4)) ((fun r => phi J f (updI r (M 39 v) (if (0 : Int) = 0 then 0 else 1))) r) ((fun r => phi J f (updI r (M 39 v) (if (1 : Int) = 0 then 0 else 1))) r) 0))) := by
          rcases so with ⟨a, b⟩ | ⟨a, b⟩
          · exact Or.inl ⟨a, ⟨okh.1, okh.2, b⟩, (phi_cg (fun k _ _ => by rw [(f54 44 (by decide)).2])).trans hF⟩
          · exact Or.inr ⟨a, fun t => b t.2.2⟩
        clear so hL hh
        refine Z_istore (L' := [_, _, _, _, _, _]) (n := 59) dX4_quantify_57 rfl (by decide) rfl rfl ?_
        refine Z_loc (L' := [some _, some _, some _, some _, some _, some _]) (lsub_same (lsub_same (lsub_same (lsub_same (lsub_same (lsub_same lsub_nil)))))) ?_
        exact ct59 _ _ _ (by exact q0) (by exact q1) (by omega) (by omega) (by exact q4) (by exact q5) (by exact q6)
      · refine Z_iconst (n := 40) dX4_quantify_39 rfl (by decide) ?_
        refine Z_goto (t := 44) dX4_quantify_40 (by decide) ?_
        refine Z_bipush (n := 46) dX4_quantify_44 rfl (by decide) (by decide) ?_
        refine Z_bipush (n := 48) dX4_quantify_46 rfl (by decide) (by decide) ?_
        refine Z_callVv (n := 51) [_, _, _, _] _ dX4_quantify_48 rfl cwX4_204 rfl rfl rfl (Nat.le_of_ble_eq_true rfl) (by refine ⟨?_, ?_, ?_, ?_⟩ <;> exact Nat.le_of_ble_eq_true rfl) (fun a h => by unfold kRg at h; unfold kBits; omega) (zX4_makeOf_f  (by omega) (by omega) (by omega) (by omega) (by omega) (by omega)) ?_
        intro M48 J48 f48 q48
        obtain ⟨e48_1, vb48, vo48⟩ := q48
        replace e48_1 := e48_1.symm; subst e48_1
        refine Z_aload_n (n := 52) dX4_quantify_51 rfl rfl ?_
        refine Z_bipush (n := 54) dX4_quantify_52 rfl (by decide) (by decide) ?_
        refine Z_callVi (n := 57) [_] _ dX4_quantify_54 rfl cwX4_207 rfl rfl rfl (Nat.le_of_ble_eq_true rfl) (by refine ⟨?_, ?_, ?_, ?_⟩ <;> exact Nat.le_of_ble_eq_true rfl) (fun a h => by unfold kRg at h; unfold kAd; omega) (zX4_steps  (by omega) (by omega) (by exact TI_bits ti21 h5521 (f48 48 (by decide)).2 vo48) (by exact h5521) (by omega) (by omega)) ?_
        intro x54 M54 J54 z54 f54 q54
        obtain ⟨ti54, ah54, am54, au54, af54, xs54⟩ := q54
        refine Z_ok (fun okS => ?_)
        have q0 := ti54
        have q1 : hdl M M54 := hdl_t hd21 (hdl_a af54 (by decide))
        have q4 : x54 = 1 → ¬ M54 43 55 = 0 ∧ M54 31 24 ≤ M54 31 8 := fun q => ⟨ah54, by omega⟩
        obtain ⟨jh, e8h, hh⟩ := hl21
        obtain ⟨-, okh, ⟨p53, p54⟩, lh⟩ := hh.resolve_right (fun q => by omega)
        have hF : phi J48 55 = (fun r => tbl (tabF (if y = 0 then 5 else 4)) ((fun r => phi J f (updI r (M 39 v) (if (0 : Int) = 0 then 0 else 1))) r) ((fun r => phi J f (updI r (M 39 v) (if (1 : Int) = 0 then 0 else 1))) r) 0) := by
          refine (phi_of (by omega) (by omega) vb48).trans ?_
          rw [p53, p54]
          first
            | (rw [if_pos (show y = 0 by omega)]; rfl)
            | (rw [if_neg (show ¬ y = 0 by omega)]; rfl)
        have hL : ∀ y, (LBr M21 J48 y ∨ laid (phi J48 55) y) ↔ ((LBr M J y ∨ (E2 (fun r => phi J f (updI r (M 39 v) (if (0 : Int) = 0 then 0 else 1))) (fun r => phi J f (updI r (M 39 v) (if (1 : Int) = 0 then 0 else 1)))) y) ∨ laid (phi J48 55) y) := fun y => or_congr ((lbr_b h5521 vo48 y).trans (lh y)) Iff.rfl
        obtain ⟨so, -⟩ := st_ok (E := E2 (fun r => phi J f (updI r (M 39 v) (if (0 : Int) = 0 then 0 else 1))) (fun r => phi J f (updI r (M 39 v) (if (1 : Int) = 0 then 0 else 1)))) (by decide) (by decide) ti54 okS ah54 af54 (f54 44 (by decide)).2 e8h hL xs54
        rw [hF] at so
        have q5 : ∀ j : Int, j < 48 → J54 44 j = J 44 j := fun j hj => (congrFun (f54 44 (by decide)).2 j).trans ((vo48 j (by omega)).trans (jh j hj))
        have q6 : (x54 = 1 ∧ (okR M J E0 (fun r => phi J f (updI r (M 39 v) (if (0 : Int) = 0 then 0 else 1))) ∧ okR M J (E1 (fun r => phi J f (updI r (M 39 v) (if (0 : Int) = 0 then 0 else 1)))) (fun r => phi J f (updI r (M 39 v) (if (1 : Int) = 0 then 0 else 1))) ∧ okR M J (E2 (fun r => phi J f (updI r (M 39 v) (if (0 : Int) = 0 then 0 else 1))) (fun r => phi J f (updI r (M 39 v) (if (1 : Int) = 0 then 0 else 1)))) (fun r => tbl (tabF (if y = 0 then 5 else 4)) ((fun r => phi J f (updI r (M 39 v) (if (0 : Int) = 0 then 0 else 1))) r) ((fun r => phi J f (updI r (M 39 v) (if (1 : Int) = 0 then 0 else 1))) r) 0)) ∧ phi J54 55 = (fun r => tbl (tabF (if y = 0 then 5 else 4)) ((fun r => phi J f (updI r (M 39 v) (if (0 : Int) = 0 then 0 else 1))) r) ((fun r => phi J f (updI r (M 39 v) (if (1 : Int) = 0 then 0 else 1))) r) 0)) ∨ (x54 = 0 ∧ ¬ (okR M J E0 (fun r => phi J f (updI r (M 39 v) (if (0 : Int) = 0 then 0 else 1))) ∧ okR M J (E1 (fun r => phi J f (updI r (M 39 v) (if (0 : Int) = 0 then 0 else 1)))) (fun r => phi J f (updI r (M 39 v) (if (1 : Int) = 0 then 0 else 1))) ∧ okR M J (E2 (fun r => phi J f (updI r (M 39 v) (if (0 : Int) = 0 then 0 else 1))) (fun r => phi J f (updI r (M 39 v) (if (1 : Int) = 0 then 0 else 1)))) (fun r => tbl (tabF (if y = 0 then 5 else 4)) ((fun r => phi J f (updI r (M 39 v) (if (0 : Int) = 0 then 0 else 1))) r) ((fun r => phi J f (updI r (M 39 v) (if (1 : Int) = 0 then 0 else 1))) r) 0))) := by
          rcases so with ⟨a, b⟩ | ⟨a, b⟩
          · exact Or.inl ⟨a, ⟨okh.1, okh.2, b⟩, (phi_cg (fun k _ _ => by rw [(f54 44 (by decide)).2])).trans hF⟩
          · exact Or.inr ⟨a, fun t => b t.2.2⟩
        clear so hL hh
        refine Z_istore (L' := [_, _, _, _, _, _]) (n := 59) dX4_quantify_57 rfl (by decide) rfl rfl ?_
        refine Z_loc (L' := [some _, some _, some _, some _, some _, some _]) (lsub_same (lsub_same (lsub_same (lsub_same (lsub_same (lsub_same lsub_nil)))))) ?_
        exact ct59 _ _ _ (by exact q0) (by exact q1) (by omega) (by omega) (by exact q4) (by exact q5) (by exact q6)
  · refine Z_aload_n (n := 11) dX4_quantify_10 rfl rfl ?_
    refine Z_iload_n (n := 12) dX4_quantify_11 rfl rfl ?_
    refine Z_iload_n (n := 13) dX4_quantify_12 rfl rfl ?_
    refine Z_iload_n (n := 14) dX4_quantify_13 rfl rfl ?_
    refine Z_callVi (n := 17) [_, _, _] _ dX4_quantify_14 rfl cwX4_226 rfl rfl rfl (Nat.le_of_ble_eq_true rfl) (by refine ⟨?_, ?_, ?_, ?_⟩ <;> exact Nat.le_of_ble_eq_true rfl) (fun _ _ => trivial) (zX4_noHalf  ) ?_
    intro x14 M14 J14 z14 f14 q14
    obtain ⟨e14_1, e14_2, h14⟩ := q14
    replace e14_1 := e14_1.symm; subst e14_1
    replace e14_2 := e14_2.symm; subst e14_2
    refine Z_iret dX4_quantify_17 rfl ?_
    by_cases hz : h < 0 ∨ 12 ≤ h ∨ f < 0 ∨ 12 ≤ f ∨ M 43 f = 0
    · exact ⟨hr, by omega, Or.inl ⟨hz, by omega, rfl, rfl⟩⟩
    · exact ⟨hr, by omega, Or.inr (Or.inl ⟨hz, by omega, by omega, rfl, rfl⟩)⟩
set_option maxRecDepth 20000 in
theorem zX4_compose_g {G : tl_G} {M : zM} {J : zJ} {h f v g : Int} (hr : RI M J) (hk : M 31 27 ≤ 2000000000) (hW : whOK J) : ZN G yX4_compose mX4_compose 5 kRg [vR 31, vI h, vI f, vI v, vI g] F1 M J (qI (fun x M' J' => RI M' J' ∧ M' 31 27 ≤ M 31 27 + 400 ∧ (((h < 0 ∨ 12 ≤ h ∨ f < 0 ∨ 12 ≤ f ∨ M 43 f = 0 ∨ g < 0 ∨ 12 ≤ g ∨ M 43 g = 0) ∧ x = -1 ∧ M' = M ∧ J' = J) ∨ (¬ (h < 0 ∨ 12 ≤ h ∨ f < 0 ∨ 12 ≤ f ∨ M 43 f = 0 ∨ g < 0 ∨ 12 ≤ g ∨ M 43 g = 0) ∧ (v < 0 ∨ 8 ≤ v) ∧ x = -2 ∧ M' = M ∧ J' = J) ∨ (¬ (h < 0 ∨ 12 ≤ h ∨ f < 0 ∨ 12 ≤ f ∨ M 43 f = 0 ∨ g < 0 ∨ 12 ≤ g ∨ M 43 g = 0) ∧ 0 ≤ v ∧ v < 8 ∧ finR M J h (okR M J E0 (fun r => phi J f (updI r (M 39 v) (if (0 : Int) = 0 then 0 else 1))) ∧ okR M J (E1 (fun r => phi J f (updI r (M 39 v) (if (0 : Int) = 0 then 0 else 1)))) (fun r => phi J f (updI r (M 39 v) (if (1 : Int) = 0 then 0 else 1))) ∧ okR M J (E2 (fun r => phi J f (updI r (M 39 v) (if (0 : Int) = 0 then 0 else 1))) (fun r => phi J f (updI r (M 39 v) (if (1 : Int) = 0 then 0 else 1)))) (fun r => tbl (tabF 10) (phi J g r) ((fun r => phi J f (updI r (M 39 v) (if (1 : Int) = 0 then 0 else 1))) r) ((fun r => phi J f (updI r (M 39 v) (if (0 : Int) = 0 then 0 else 1))) r))) (fun r => tbl (tabF 10) (phi J g r) ((fun r => phi J f (updI r (M 39 v) (if (1 : Int) = 0 then 0 else 1))) r) ((fun r => phi J f (updI r (M 39 v) (if (0 : Int) = 0 then 0 else 1))) r)) x M' J')))) := by
  refine ZN_of (L := [_, _, _, _, _, _]) (by decide) rfl rfl (Nat.le_of_ble_eq_true rfl) rfl (fun hav => ?_)
  refine Z_ok (fun ok0 => ?_)
  refine Z_aload_n (n := 1) dX4_compose_0 rfl rfl ?_
  refine Z_iload_n (n := 2) dX4_compose_1 rfl rfl ?_
  refine Z_iload_n (n := 3) dX4_compose_2 rfl rfl ?_
  refine Z_iload_n (n := 4) dX4_compose_3 rfl rfl ?_
  refine Z_callVi (n := 7) [_, _, _] _ dX4_compose_4 rfl cwX4_226 rfl rfl rfl (Nat.le_of_ble_eq_true rfl) (by refine ⟨?_, ?_, ?_, ?_⟩ <;> exact Nat.le_of_ble_eq_true rfl) (fun _ _ => trivial) (zX4_noHalf  ) ?_
  intro x4 M4 J4 z4 f4 q4
  obtain ⟨e4_1, e4_2, h4⟩ := q4
  replace e4_1 := e4_1.symm; subst e4_1
  replace e4_2 := e4_2.symm; subst e4_2
  refine Z_iconst (n := 8) dX4_compose_7 rfl (by decide) ?_
  refine Z_icmp_eq (n := 11) (t := 20) dX4_compose_8 rfl (by decide) (fun c8 => ?_) (fun c8 => ?_)
  · refine Z_iconst (n := 21) dX4_compose_20 rfl (by decide) ?_
    refine Z_iret dX4_compose_21 rfl ?_
    exact ⟨hr, by omega, Or.inl ⟨by omega, rfl, rfl, rfl⟩⟩
  · refine Z_aload_n (n := 12) dX4_compose_11 rfl rfl ?_
    refine Z_iload (n := 14) dX4_compose_12 rfl rfl ?_
    refine Z_callVi (n := 17) [_] _ dX4_compose_14 rfl cwX4_223 rfl rfl rfl (Nat.le_of_ble_eq_true rfl) (by refine ⟨?_, ?_, ?_, ?_⟩ <;> exact Nat.le_of_ble_eq_true rfl) (fun _ _ => trivial) (zX4_isFunction  ) ?_
    intro x14 M14 J14 z14 f14 q14
    obtain ⟨e14_1, e14_2, h14⟩ := q14
    replace e14_1 := e14_1.symm; subst e14_1
    replace e14_2 := e14_2.symm; subst e14_2
    refine Z_if_ne (n := 20) (t := 22) dX4_compose_17 rfl (by decide) (fun c17 => ?_) (fun c17 => ?_)
    · refine Z_iload_n (n := 23) dX4_compose_22 rfl rfl ?_
      refine Z_iconst (n := 24) dX4_compose_23 rfl (by decide) ?_
      refine Z_bipush (n := 26) dX4_compose_24 rfl (by decide) (by decide) ?_
      refine Z_callSi (n := 29) [_, _, _] _ dX4_compose_26 rfl cwX4_112 rfl rfl (Nat.le_of_ble_eq_true rfl) (by refine ⟨?_, ?_, ?_, ?_⟩ <;> exact Nat.le_of_ble_eq_true rfl) (fun _ _ => trivial) (zX4_in  ) ?_
      intro x26 M26 J26 z26 f26 q26
      obtain ⟨e26_1, e26_2, h26⟩ := q26
      replace e26_1 := e26_1.symm; subst e26_1
      replace e26_2 := e26_2.symm; subst e26_2
      refine Z_if_ne (n := 32) (t := 35) dX4_compose_29 rfl (by decide) (fun c29 => ?_) (fun c29 => ?_)
      · have ct68 : ∀ (w : Int) (M68 : zM) (J68 : zJ), (TI M68 J68) → (hdl M M68) → (M68 31 27 ≤ M 31 27 + 3) → (w = 0 ∨ w = 1) → (w = 1 → ¬ M68 43 55 = 0 ∧ M68 31 24 ≤ M68 31 8) → (∀ j : Int, j < 48 → J68 44 j = J 44 j) → (((w = 1 ∧ (okR M J E0 (fun r => phi J f (updI r (M 39 v) (if (0 : Int) = 0 then 0 else 1))) ∧ okR M J (E1 (fun r => phi J f (updI r (M 39 v) (if (0 : Int) = 0 then 0 else 1)))) (fun r => phi J f (updI r (M 39 v) (if (1 : Int) = 0 then 0 else 1))) ∧ okR M J (E2 (fun r => phi J f (updI r (M 39 v) (if (0 : Int) = 0 then 0 else 1))) (fun r => phi J f (updI r (M 39 v) (if (1 : Int) = 0 then 0 else 1)))) (fun r => tbl (tabF 10) (phi J g r) ((fun r => phi J f (updI r (M 39 v) (if (1 : Int) = 0 then 0 else 1))) r) ((fun r => phi J f (updI r (M 39 v) (if (0 : Int) = 0 then 0 else 1))) r))) ∧ phi J68 55 = (fun r => tbl (tabF 10) (phi J g r) ((fun r => phi J f (updI r (M 39 v) (if (1 : Int) = 0 then 0 else 1))) r) ((fun r => phi J f (updI r (M 39 v) (if (0 : Int) = 0 then 0 else 1))) r))) ∨ (w = 0 ∧ ¬ (okR M J E0 (fun r => phi J f (updI r (M 39 v) (if (0 : Int) = 0 then 0 else 1))) ∧ okR M J (E1 (fun r => phi J f (updI r (M 39 v) (if (0 : Int) = 0 then 0 else 1)))) (fun r => phi J f (updI r (M 39 v) (if (1 : Int) = 0 then 0 else 1))) ∧ okR M J (E2 (fun r => phi J f (updI r (M 39 v) (if (0 : Int) = 0 then 0 else 1))) (fun r => phi J f (updI r (M 39 v) (if (1 : Int) = 0 then 0 else 1)))) (fun r => tbl (tabF 10) (phi J g r) ((fun r => phi J f (updI r (M 39 v) (if (1 : Int) = 0 then 0 else 1))) r) ((fun r => phi J f (updI r (M 39 v) (if (0 : Int) = 0 then 0 else 1))) r)))))) → TZ G mX4_compose (tl_rm 5 0 0) 0 0 kRg M J 68 [some (vR 31), some (vI h), some (vI f), some (vI v), some (vI g), some (vI w)] [] F1 M68 J68 (ZM G (zPost G kRg F1 M J (qI (fun x M' J' => RI M' J' ∧ M' 31 27 ≤ M 31 27 + 400 ∧ (((h < 0 ∨ 12 ≤ h ∨ f < 0 ∨ 12 ≤ f ∨ M 43 f = 0 ∨ g < 0 ∨ 12 ≤ g ∨ M 43 g = 0) ∧ x = -1 ∧ M' = M ∧ J' = J) ∨ (¬ (h < 0 ∨ 12 ≤ h ∨ f < 0 ∨ 12 ≤ f ∨ M 43 f = 0 ∨ g < 0 ∨ 12 ≤ g ∨ M 43 g = 0) ∧ (v < 0 ∨ 8 ≤ v) ∧ x = -2 ∧ M' = M ∧ J' = J) ∨ (¬ (h < 0 ∨ 12 ≤ h ∨ f < 0 ∨ 12 ≤ f ∨ M 43 f = 0 ∨ g < 0 ∨ 12 ≤ g ∨ M 43 g = 0) ∧ 0 ≤ v ∧ v < 8 ∧ finR M J h (okR M J E0 (fun r => phi J f (updI r (M 39 v) (if (0 : Int) = 0 then 0 else 1))) ∧ okR M J (E1 (fun r => phi J f (updI r (M 39 v) (if (0 : Int) = 0 then 0 else 1)))) (fun r => phi J f (updI r (M 39 v) (if (1 : Int) = 0 then 0 else 1))) ∧ okR M J (E2 (fun r => phi J f (updI r (M 39 v) (if (0 : Int) = 0 then 0 else 1))) (fun r => phi J f (updI r (M 39 v) (if (1 : Int) = 0 then 0 else 1)))) (fun r => tbl (tabF 10) (phi J g r) ((fun r => phi J f (updI r (M 39 v) (if (1 : Int) = 0 then 0 else 1))) r) ((fun r => phi J f (updI r (M 39 v) (if (0 : Int) = 0 then 0 else 1))) r))) (fun r => tbl (tabF 10) (phi J g r) ((fun r => phi J f (updI r (M 39 v) (if (1 : Int) = 0 then 0 else 1))) r) ((fun r => phi J f (updI r (M 39 v) (if (0 : Int) = 0 then 0 else 1))) r)) x M' J'))))) 0 0) := by
          intro w M68 J68 i68_0 i68_1 i68_2 i68_3 i68_4 i68_5 i68_6
          refine Z_aload_n (n := 69) dX4_compose_68 rfl rfl ?_
          refine Z_iload_n (n := 70) dX4_compose_69 rfl rfl ?_
          refine Z_bipush (n := 72) dX4_compose_70 rfl (by decide) (by decide) ?_
          refine Z_iload (n := 74) dX4_compose_72 rfl rfl ?_
          refine Z_rg 31 8 rfl (fun gs8 gs8b => ?_)
          have i_u : w = 1 → M68 31 24 ≤ M68 31 8 := fun q => (i68_4 q).2
          refine Z_callVi (n := 77) [_, _, _] _ dX4_compose_74 rfl cwX4_219 rfl rfl rfl (Nat.le_of_ble_eq_true rfl) (by refine ⟨?_, ?_, ?_, ?_⟩ <;> exact Nat.le_of_ble_eq_true rfl) (fun a h => by unfold kRg at h; unfold kTk; omega) (zX4_gets  (by omega) (by omega) (by omega) (by omega) (by omega) (by exact i68_0) (by exact fun q => ⟨(i68_4 q).1, by omega⟩) (by omega)) ?_
          intro x74 M74 J74 z74 f74 q74
          obtain ⟨ti74, hn74, am74, gx74⟩ := q74
          refine Z_fr (fun frR => ?_)
          refine Z_ok (fun okG => ?_)
          have fq := fin_r (by omega) (by omega) i68_1 i68_5 i68_6 ti74 okG gx74
          refine Z_iret dX4_compose_77 rfl ?_
          exact ⟨RI_gets hr ok0 i68_1 (fun q => (i68_4 q).2) frR ti74 hn74 gx74, by omega, Or.inr (Or.inr ⟨by omega, by omega, by omega, fq⟩)⟩
        refine Z_aload_n (n := 36) dX4_compose_35 rfl rfl ?_
        refine Z_iload_n (n := 37) dX4_compose_36 rfl rfl ?_
        refine Z_iload_n (n := 38) dX4_compose_37 rfl rfl ?_
        refine Z_callVi (n := 41) [_, _] _ dX4_compose_38 rfl cwX4_234 rfl rfl rfl (Nat.le_of_ble_eq_true rfl) (by refine ⟨?_, ?_, ?_, ?_⟩ <;> exact Nat.le_of_ble_eq_true rfl) (fun _ h => h) (zX4_halves_g  (by omega) (by omega) (by omega) (by omega) (by exact hr) (by omega) (by exact hW)) ?_
        intro x38 M38 J38 z38 f38 q38
        obtain ⟨ti38, hd38, mk38, h5538, hx38, hl38⟩ := q38
        refine Z_rg 31 8 rfl (fun gh8 gh8b => ?_)
        refine Z_istore (L' := [_, _, _, _, _, _]) (n := 43) dX4_compose_41 rfl (by decide) rfl rfl ?_
        refine Z_iload (n := 45) dX4_compose_43 rfl rfl ?_
        refine Z_if_eq (n := 48) (t := 68) dX4_compose_45 rfl (by decide) (fun c45 => ?_) (fun c45 => ?_)
        · have q0 := ti38
          have q1 := hd38
          have q4 : x38 = 1 → ¬ M38 43 55 = 0 ∧ M38 31 24 ≤ M38 31 8 := fun q => by omega
          have q5 := hl38.1
          have q6 : (x38 = 1 ∧ (okR M J E0 (fun r => phi J f (updI r (M 39 v) (if (0 : Int) = 0 then 0 else 1))) ∧ okR M J (E1 (fun r => phi J f (updI r (M 39 v) (if (0 : Int) = 0 then 0 else 1)))) (fun r => phi J f (updI r (M 39 v) (if (1 : Int) = 0 then 0 else 1))) ∧ okR M J (E2 (fun r => phi J f (updI r (M 39 v) (if (0 : Int) = 0 then 0 else 1))) (fun r => phi J f (updI r (M 39 v) (if (1 : Int) = 0 then 0 else 1)))) (fun r => tbl (tabF 10) (phi J g r) ((fun r => phi J f (updI r (M 39 v) (if (1 : Int) = 0 then 0 else 1))) r) ((fun r => phi J f (updI r (M 39 v) (if (0 : Int) = 0 then 0 else 1))) r))) ∧ phi J38 55 = (fun r => tbl (tabF 10) (phi J g r) ((fun r => phi J f (updI r (M 39 v) (if (1 : Int) = 0 then 0 else 1))) r) ((fun r => phi J f (updI r (M 39 v) (if (0 : Int) = 0 then 0 else 1))) r))) ∨ (x38 = 0 ∧ ¬ (okR M J E0 (fun r => phi J f (updI r (M 39 v) (if (0 : Int) = 0 then 0 else 1))) ∧ okR M J (E1 (fun r => phi J f (updI r (M 39 v) (if (0 : Int) = 0 then 0 else 1)))) (fun r => phi J f (updI r (M 39 v) (if (1 : Int) = 0 then 0 else 1))) ∧ okR M J (E2 (fun r => phi J f (updI r (M 39 v) (if (0 : Int) = 0 then 0 else 1))) (fun r => phi J f (updI r (M 39 v) (if (1 : Int) = 0 then 0 else 1)))) (fun r => tbl (tabF 10) (phi J g r) ((fun r => phi J f (updI r (M 39 v) (if (1 : Int) = 0 then 0 else 1))) r) ((fun r => phi J f (updI r (M 39 v) (if (0 : Int) = 0 then 0 else 1))) r)))) := by
            rcases hl38.2.2 with ⟨a, -⟩ | ⟨a, b⟩
            · omega
            · exact Or.inr ⟨a, fun t => b ⟨t.1, t.2.1⟩⟩
          refine Z_loc (L' := [some _, some _, some _, some _, some _, some _]) (lsub_same (lsub_same (lsub_same (lsub_same (lsub_same (lsub_same lsub_nil)))))) ?_
          exact ct68 _ _ _ (by exact q0) (by exact q1) (by omega) (by omega) (by exact q4) (by exact q5) (by exact q6)
        · refine Z_aload_n (n := 49) dX4_compose_48 rfl rfl ?_
          refine Z_bipush (n := 51) dX4_compose_49 rfl (by decide) (by decide) ?_
          refine Z_iload (n := 53) dX4_compose_51 rfl rfl ?_
          refine Z_bipush (n := 55) dX4_compose_53 rfl (by decide) (by decide) ?_
          refine Z_bipush (n := 57) dX4_compose_55 rfl (by decide) (by decide) ?_
          refine Z_callVv (n := 60) [_, _, _, _] _ dX4_compose_57 rfl cwX4_200 rfl rfl rfl (Nat.le_of_ble_eq_true rfl) (by refine ⟨?_, ?_, ?_, ?_⟩ <;> exact Nat.le_of_ble_eq_true rfl) (fun a h => by unfold kRg at h; unfold kBits; omega) (zX4_makeChoice  (by omega) (by omega) (by omega) (by omega) (by omega) (by omega) (by omega) (by omega)) ?_
          intro M57 J57 f57 q57
          obtain ⟨e57_1, vb57, vo57⟩ := q57
          replace e57_1 := e57_1.symm; subst e57_1
          refine Z_aload_n (n := 61) dX4_compose_60 rfl rfl ?_
          refine Z_bipush (n := 63) dX4_compose_61 rfl (by decide) (by decide) ?_
          refine Z_callVi (n := 66) [_] _ dX4_compose_63 rfl cwX4_207 rfl rfl rfl (Nat.le_of_ble_eq_true rfl) (by refine ⟨?_, ?_, ?_, ?_⟩ <;> exact Nat.le_of_ble_eq_true rfl) (fun a h => by unfold kRg at h; unfold kAd; omega) (zX4_steps  (by omega) (by omega) (by exact TI_bits ti38 h5538 (f57 48 (by decide)).2 vo57) (by exact h5538) (by omega) (by omega)) ?_
          intro x63 M63 J63 z63 f63 q63
          obtain ⟨ti63, ah63, am63, au63, af63, xs63⟩ := q63
          refine Z_ok (fun okS => ?_)
          have q0 := ti63
          have q1 : hdl M M63 := hdl_t hd38 (hdl_a af63 (by decide))
          have q4 : x63 = 1 → ¬ M63 43 55 = 0 ∧ M63 31 24 ≤ M63 31 8 := fun q => ⟨ah63, by omega⟩
          obtain ⟨jh, e8h, hh⟩ := hl38
          obtain ⟨-, okh, ⟨p53, p54⟩, lh⟩ := hh.resolve_right (fun q => by omega)
          have hF : phi J57 55 = (fun r => tbl (tabF 10) (phi J g r) ((fun r => phi J f (updI r (M 39 v) (if (1 : Int) = 0 then 0 else 1))) r) ((fun r => phi J f (updI r (M 39 v) (if (0 : Int) = 0 then 0 else 1))) r)) := by
            refine (phi_ch vb57).trans ?_
            rw [p53, p54, phi_cg (J := J) (g := g) (fun k k0 k1 => jh _ (by omega))]
          have hL : ∀ y, (LBr M38 J57 y ∨ laid (phi J57 55) y) ↔ ((LBr M J y ∨ (E2 (fun r => phi J f (updI r (M 39 v) (if (0 : Int) = 0 then 0 else 1))) (fun r => phi J f (updI r (M 39 v) (if (1 : Int) = 0 then 0 else 1)))) y) ∨ laid (phi J57 55) y) := fun y => or_congr ((lbr_b h5538 vo57 y).trans (lh y)) Iff.rfl
          obtain ⟨so, -⟩ := st_ok (E := E2 (fun r => phi J f (updI r (M 39 v) (if (0 : Int) = 0 then 0 else 1))) (fun r => phi J f (updI r (M 39 v) (if (1 : Int) = 0 then 0 else 1)))) (by decide) (by decide) ti63 okS ah63 af63 (f63 44 (by decide)).2 e8h hL xs63
          rw [hF] at so
          have q5 : ∀ j : Int, j < 48 → J63 44 j = J 44 j := fun j hj => (congrFun (f63 44 (by decide)).2 j).trans ((vo57 j (by omega)).trans (jh j hj))
          have q6 : (x63 = 1 ∧ (okR M J E0 (fun r => phi J f (updI r (M 39 v) (if (0 : Int) = 0 then 0 else 1))) ∧ okR M J (E1 (fun r => phi J f (updI r (M 39 v) (if (0 : Int) = 0 then 0 else 1)))) (fun r => phi J f (updI r (M 39 v) (if (1 : Int) = 0 then 0 else 1))) ∧ okR M J (E2 (fun r => phi J f (updI r (M 39 v) (if (0 : Int) = 0 then 0 else 1))) (fun r => phi J f (updI r (M 39 v) (if (1 : Int) = 0 then 0 else 1)))) (fun r => tbl (tabF 10) (phi J g r) ((fun r => phi J f (updI r (M 39 v) (if (1 : Int) = 0 then 0 else 1))) r) ((fun r => phi J f (updI r (M 39 v) (if (0 : Int) = 0 then 0 else 1))) r))) ∧ phi J63 55 = (fun r => tbl (tabF 10) (phi J g r) ((fun r => phi J f (updI r (M 39 v) (if (1 : Int) = 0 then 0 else 1))) r) ((fun r => phi J f (updI r (M 39 v) (if (0 : Int) = 0 then 0 else 1))) r))) ∨ (x63 = 0 ∧ ¬ (okR M J E0 (fun r => phi J f (updI r (M 39 v) (if (0 : Int) = 0 then 0 else 1))) ∧ okR M J (E1 (fun r => phi J f (updI r (M 39 v) (if (0 : Int) = 0 then 0 else 1)))) (fun r => phi J f (updI r (M 39 v) (if (1 : Int) = 0 then 0 else 1))) ∧ okR M J (E2 (fun r => phi J f (updI r (M 39 v) (if (0 : Int) = 0 then 0 else 1))) (fun r => phi J f (updI r (M 39 v) (if (1 : Int) = 0 then 0 else 1)))) (fun r => tbl (tabF 10) (phi J g r) ((fun r => phi J f (updI r (M 39 v) (if (1 : Int) = 0 then 0 else 1))) r) ((fun r => phi J f (updI r (M 39 v) (if (0 : Int) = 0 then 0 else 1))) r)))) := by
            rcases so with ⟨a, b⟩ | ⟨a, b⟩
            · exact Or.inl ⟨a, ⟨okh.1, okh.2, b⟩, (phi_cg (fun k _ _ => by rw [(f63 44 (by decide)).2])).trans hF⟩
            · exact Or.inr ⟨a, fun t => b t.2.2⟩
          clear so hL hh
          refine Z_istore (L' := [_, _, _, _, _, _]) (n := 68) dX4_compose_66 rfl (by decide) rfl rfl ?_
          refine Z_loc (L' := [some _, some _, some _, some _, some _, some _]) (lsub_same (lsub_same (lsub_same (lsub_same (lsub_same (lsub_same lsub_nil)))))) ?_
          exact ct68 _ _ _ (by exact q0) (by exact q1) (by omega) (by omega) (by exact q4) (by exact q5) (by exact q6)
      · refine Z_bipush (n := 34) dX4_compose_32 rfl (by decide) (by decide) ?_
        refine Z_iret dX4_compose_34 rfl ?_
        exact ⟨hr, by omega, Or.inr (Or.inl ⟨by omega, by omega, rfl, rfl, rfl⟩)⟩
    · refine Z_iconst (n := 21) dX4_compose_20 rfl (by decide) ?_
      refine Z_iret dX4_compose_21 rfl ?_
      exact ⟨hr, by omega, Or.inl ⟨by omega, rfl, rfl, rfl⟩⟩
set_option maxRecDepth 20000 in
theorem zX4_share_g {G : tl_G} {M : zM} {J : zJ} {h f : Int} (hr : RI M J) (hk : M 31 27 ≤ 2000000000) : ZN G yX4_share mX4_share 5 kRg [vR 31, vI h, vI f] F1 M J (qI (fun x M' J' => RI M' J' ∧ M' 31 27 ≤ M 31 27 + 400 ∧ (((h < 0 ∨ 12 ≤ h ∨ f < 0 ∨ 12 ≤ f ∨ M 43 f = 0) ∧ x = -1 ∧ M' = M ∧ J' = J) ∨ (¬ (h < 0 ∨ 12 ≤ h ∨ f < 0 ∨ 12 ≤ f ∨ M 43 f = 0) ∧ x = 1 ∧ M' 31 8 = M 31 8 ∧ (¬ M' 43 h = 0 ∧ phi J' h = phi J f) ∧ ∀ j : Int, 0 ≤ j → j < 12 → j ≠ h → (M' 43 j = M 43 j ∧ phi J' j = phi J j))))) := by
  refine ZN_of (L := [_, _, _]) (by decide) rfl rfl (Nat.le_of_ble_eq_true rfl) rfl (fun hav => ?_)
  refine Z_iload_n (n := 1) dX4_share_0 rfl rfl ?_
  refine Z_callSi (n := 4) [_] _ dX4_share_1 rfl cwX4_210 rfl rfl (Nat.le_of_ble_eq_true rfl) (by refine ⟨?_, ?_, ?_, ?_⟩ <;> exact Nat.le_of_ble_eq_true rfl) (fun _ _ => trivial) (zX4_isHandle  ) ?_
  intro x1 M1 J1 z1 f1 q1
  obtain ⟨e1_1, e1_2, h1⟩ := q1
  replace e1_1 := e1_1.symm; subst e1_1
  replace e1_2 := e1_2.symm; subst e1_2
  refine Z_if_eq (n := 7) (t := 15) dX4_share_4 rfl (by decide) (fun c4 => ?_) (fun c4 => ?_)
  · refine Z_iconst (n := 16) dX4_share_15 rfl (by decide) ?_
    refine Z_iret dX4_share_16 rfl ?_
    exact ⟨hr, by omega, Or.inl ⟨by omega, rfl, rfl, rfl⟩⟩
  · refine Z_aload_n (n := 8) dX4_share_7 rfl rfl ?_
    refine Z_iload_n (n := 9) dX4_share_8 rfl rfl ?_
    refine Z_callVi (n := 12) [_] _ dX4_share_9 rfl cwX4_223 rfl rfl rfl (Nat.le_of_ble_eq_true rfl) (by refine ⟨?_, ?_, ?_, ?_⟩ <;> exact Nat.le_of_ble_eq_true rfl) (fun _ _ => trivial) (zX4_isFunction  ) ?_
    intro x9 M9 J9 z9 f9 q9
    obtain ⟨e9_1, e9_2, h9⟩ := q9
    replace e9_1 := e9_1.symm; subst e9_1
    replace e9_2 := e9_2.symm; subst e9_2
    refine Z_if_ne (n := 15) (t := 17) dX4_share_12 rfl (by decide) (fun c12 => ?_) (fun c12 => ?_)
    · refine Z_iload_n (n := 18) dX4_share_17 rfl rfl ?_
      refine Z_iload_n (n := 19) dX4_share_18 rfl rfl ?_
      refine Z_icmp_eq (n := 22) (t := 28) dX4_share_19 rfl (by decide) (fun c19 => ?_) (fun c19 => ?_)
      · have fin : RI M J ∧ M 31 27 ≤ M 31 27 + 400 ∧ M 31 8 = M 31 8 ∧ (¬ M 43 h = 0 ∧ phi J h = phi J f) ∧ ∀ j : Int, 0 ≤ j → j < 12 → j ≠ h → (M 43 j = M 43 j ∧ phi J j = phi J j) := ⟨hr, by omega, rfl, ⟨by rw [c19]; omega, by rw [c19]⟩, fun _ _ _ _ => ⟨rfl, rfl⟩⟩
        refine Z_iconst (n := 29) dX4_share_28 rfl (by decide) ?_
        refine Z_iret dX4_share_29 rfl ?_
        exact ⟨fin.1, fin.2.1, Or.inr ⟨by omega, rfl, fin.2.2⟩⟩
      · refine Z_aload_n (n := 23) dX4_share_22 rfl rfl ?_
        refine Z_iload_n (n := 24) dX4_share_23 rfl rfl ?_
        refine Z_iload_n (n := 25) dX4_share_24 rfl rfl ?_
        refine Z_rg 31 8 rfl (fun gs8 gs8b => ?_)
        have u0 := hr.2.2.1
        refine Z_callVv (n := 28) [_, _] _ dX4_share_25 rfl cwX4_182 rfl rfl rfl (Nat.le_of_ble_eq_true rfl) (by refine ⟨?_, ?_, ?_, ?_⟩ <;> exact Nat.le_of_ble_eq_true rfl) (fun a h => by unfold kRg at h; unfold kTk; omega) (zX4_take  (by omega) (by omega) (by omega) (by omega) (by omega) (by exact hr.1) (by omega) (by omega) (by omega)) ?_
        intro M25 J25 f25 q25
        obtain ⟨ti25, ah25, am25, au25, af25, b125, b225⟩ := q25
        refine Z_fr (fun frR => ?_)
        have e8 : M25 31 8 = M 31 8 := af25.2.2 8 (by decide) (by decide) (by decide) (by decide)
        have fin : RI M25 J25 ∧ M25 31 27 ≤ M 31 27 + 400 ∧ M25 31 8 = M 31 8 ∧ (¬ M25 43 h = 0 ∧ phi J25 h = phi J f) ∧ ∀ j : Int, 0 ≤ j → j < 12 → j ≠ h → (M25 43 j = M 43 j ∧ phi J25 j = phi J j) := ⟨RI_mk hr frR ti25 (fun g a b => ((af25.1 g (by omega)).2).trans (hr.2.1 g a b)) (by rw [e8]; omega), by omega, e8, ⟨ah25, phi_cg (fun k k0 k1 => b125 k k0 k1)⟩, fun j _ _ hj => ⟨(af25.1 j hj).2, phi_cg (fun k k0 k1 => b225 _ (by omega))⟩⟩
        refine Z_iconst (n := 29) dX4_share_28 rfl (by decide) ?_
        refine Z_iret dX4_share_29 rfl ?_
        exact ⟨fin.1, fin.2.1, Or.inr ⟨by omega, rfl, fin.2.2⟩⟩
    · refine Z_iconst (n := 16) dX4_share_15 rfl (by decide) ?_
      refine Z_iret dX4_share_16 rfl ?_
      exact ⟨hr, by omega, Or.inl ⟨by omega, rfl, rfl, rfl⟩⟩
set_option maxRecDepth 20000 in
theorem zX4_drop_g {G : tl_G} {M : zM} {J : zJ} {h : Int} (hr : RI M J) (hk : M 31 27 ≤ 2000000000) : ZN G yX4_drop mX4_drop 3 kRg [vR 31, vI h] F1 M J (qI (fun x M' J' => RI M' J' ∧ M' 31 27 ≤ M 31 27 + 400 ∧ (((h < 0 ∨ 12 ≤ h) ∧ x = -1 ∧ M' = M ∧ J' = J) ∨ (0 ≤ h ∧ h < 12 ∧ ((M 43 h = 0 ∧ x = 0) ∨ (¬ M 43 h = 0 ∧ x = 1)) ∧ M' 31 8 = M 31 8 ∧ M' 43 h = 0 ∧ ∀ j : Int, 0 ≤ j → j < 12 → j ≠ h → (M' 43 j = M 43 j ∧ phi J' j = phi J j))))) := by
  refine ZN_of (L := [_, _, _]) (by decide) rfl rfl (Nat.le_of_ble_eq_true rfl) rfl (fun hav => ?_)
  refine Z_iload_n (n := 1) dX4_drop_0 rfl rfl ?_
  refine Z_callSi (n := 4) [_] _ dX4_drop_1 rfl cwX4_210 rfl rfl (Nat.le_of_ble_eq_true rfl) (by refine ⟨?_, ?_, ?_, ?_⟩ <;> exact Nat.le_of_ble_eq_true rfl) (fun _ _ => trivial) (zX4_isHandle  ) ?_
  intro x1 M1 J1 z1 f1 q1
  obtain ⟨e1_1, e1_2, h1⟩ := q1
  replace e1_1 := e1_1.symm; subst e1_1
  replace e1_2 := e1_2.symm; subst e1_2
  refine Z_if_ne (n := 7) (t := 9) dX4_drop_4 rfl (by decide) (fun c4 => ?_) (fun c4 => ?_)
  · refine Z_aload_n (n := 10) dX4_drop_9 rfl rfl ?_
    refine Z_getA (n := 13) dX4_drop_10 rfl ffX4_44 rfl rfl ?_
    refine Z_iload_n (n := 14) dX4_drop_13 rfl rfl ?_
    refine Z_zald (n := 15) dX4_drop_14 rfl rfl rfl (by first | decide | assumption) (by omega) (by omega) (fun r14 s14 => ?_)
    refine Z_if_eq (n := 18) (t := 22) dX4_drop_15 rfl (by decide) (fun c15 => ?_) (fun c15 => ?_)
    · refine Z_iconst (n := 23) dX4_drop_22 rfl (by decide) ?_
      refine Z_istore_n (L' := [_, _, _]) (n := 24) dX4_drop_23 rfl (by decide) rfl rfl ?_
      refine Z_aload_n (n := 25) dX4_drop_24 rfl rfl ?_
      refine Z_iload_n (n := 26) dX4_drop_25 rfl rfl ?_
      refine Z_callVv (n := 29) [_] _ dX4_drop_26 rfl cwX4_179 rfl rfl rfl (Nat.le_of_ble_eq_true rfl) (by refine ⟨?_, ?_, ?_, ?_⟩ <;> exact Nat.le_of_ble_eq_true rfl) (fun a h => by unfold kRg at h; unfold kRv; omega) (zX4_remove  (by omega) (by omega) (by exact hr.1)) ?_
      intro M26 J26 f26 q26
      obtain ⟨ti26, ah26, am26, au26, af26⟩ := q26
      refine Z_iload_n (n := 30) dX4_drop_29 rfl rfl ?_
      refine Z_fr (fun frR => ?_)
      have u0 := hr.2.2.1
      have e8 : M26 31 8 = M 31 8 := af26.2.2 8 (by decide) (by decide) (by decide) (by decide)
      refine Z_iret dX4_drop_30 rfl ?_
      exact ⟨RI_mk hr frR ti26 (fun g a b => ((af26.1 g (by omega)).2).trans (hr.2.1 g a b)) (by rw [e8]; omega), by omega, Or.inr ⟨by omega, by omega, by omega, e8, ah26, fun j _ _ hj => ⟨(af26.1 j hj).2, phi_cg (fun k _ _ => by rw [(f26 44 (by decide)).2])⟩⟩⟩
    · refine Z_iconst (n := 19) dX4_drop_18 rfl (by decide) ?_
      refine Z_goto (t := 23) dX4_drop_19 (by decide) ?_
      refine Z_istore_n (L' := [_, _, _]) (n := 24) dX4_drop_23 rfl (by decide) rfl rfl ?_
      refine Z_aload_n (n := 25) dX4_drop_24 rfl rfl ?_
      refine Z_iload_n (n := 26) dX4_drop_25 rfl rfl ?_
      refine Z_callVv (n := 29) [_] _ dX4_drop_26 rfl cwX4_179 rfl rfl rfl (Nat.le_of_ble_eq_true rfl) (by refine ⟨?_, ?_, ?_, ?_⟩ <;> exact Nat.le_of_ble_eq_true rfl) (fun a h => by unfold kRg at h; unfold kRv; omega) (zX4_remove  (by omega) (by omega) (by exact hr.1)) ?_
      intro M26 J26 f26 q26
      obtain ⟨ti26, ah26, am26, au26, af26⟩ := q26
      refine Z_iload_n (n := 30) dX4_drop_29 rfl rfl ?_
      refine Z_fr (fun frR => ?_)
      have u0 := hr.2.2.1
      have e8 : M26 31 8 = M 31 8 := af26.2.2 8 (by decide) (by decide) (by decide) (by decide)
      refine Z_iret dX4_drop_30 rfl ?_
      exact ⟨RI_mk hr frR ti26 (fun g a b => ((af26.1 g (by omega)).2).trans (hr.2.1 g a b)) (by rw [e8]; omega), by omega, Or.inr ⟨by omega, by omega, by omega, e8, ah26, fun j _ _ hj => ⟨(af26.1 j hj).2, phi_cg (fun k _ _ => by rw [(f26 44 (by decide)).2])⟩⟩⟩
  · refine Z_iconst (n := 8) dX4_drop_7 rfl (by decide) ?_
    refine Z_iret dX4_drop_8 rfl ?_
    exact ⟨hr, by omega, Or.inl ⟨by omega, rfl, rfl, rfl⟩⟩
