/-! ===== the reference: its face ===== -/
/-- the reference between two calls -/
def RI (M : zM) (J : zJ) : Prop := TI M J ∧ hnd0 M ∧ M 31 24 ≤ M 31 8 ∧ rOrd M ∧ ∀ net : Int, 0 ≤ net → net < 3 → rNt M net
theorem RI_mk {M M' : zM} {J J' : zJ} (hr : RI M J) (fr : ∀ a, kRg a → M' a = M a ∧ J' a = J a) (ti : TI M' J') (hn : hnd0 M') (hu : M' 31 24 ≤ M' 31 8) : RI M' J' := by
  refine ⟨ti, hn, hu, ?_, fun net a b => rNt_fr (hr.2.2.2.2 net a b) (fr 32 (by decide)).1 (fr 33 (by decide)).1 (fr 34 (by decide)).1 (fr 35 (by decide)).1 (fr 36 (by decide)).1⟩
  unfold rOrd
  rw [(fr 39 (by decide)).1]
  exact hr.2.2.2.1
/-- what is in use hangs on the handles alone -/
theorem use_det {M M' : zM} {J J' : zJ} (h : TI M J) (h' : TI M' J') (hn : hnd0 M) (hn' : hnd0 M') (hd : hdl M M') (hok : zOK M) : M' 31 24 = M 31 24 := by
  obtain ⟨⟨ch, fl, t1⟩, t2, -⟩ := h
  obtain ⟨⟨ch', fl', t1'⟩, t2', -⟩ := h'
  rw [t1.2.2.2, t1'.2.2.2]
  refine hr_congr (fun n n0 n1 => ?_)
  rw [t2.1 n n0 (by omega), t2'.1 n n0 (by omega)]
  have e : cfn M' lo0 n 56 = cfn M lo0 n 56 := by
    refine cfn_congr (fun g g0 g1 => ?_)
    by_cases q : g < 12
    · have z := hd.1 g q
      rw [z.2]
      refine and_congr Iff.rfl ?_
      unfold inS
      rw [z.1]
      constructor
      · rintro ⟨j, a, b, c⟩
        have w : 0 ≤ M 45 g ∧ M 45 g ≤ 255 := hok 45 g
        have j0 : 0 ≤ j := a
        exact ⟨j, a, b, by rw [← hd.2.1 _ (by omega)]; exact c⟩
      · rintro ⟨j, a, b, c⟩
        have w : 0 ≤ M 45 g ∧ M 45 g ≤ 255 := hok 45 g
        have j0 : 0 ≤ j := a
        exact ⟨j, a, b, by rw [hd.2.1 _ (by omega)]; exact c⟩
    · constructor
      · rintro ⟨a, -⟩; exact absurd (hn' g (by omega) (by omega)) a
      · rintro ⟨a, -⟩; exact absurd (hn g (by omega) (by omega)) a
  rw [e]
/-- behind gets -/
theorem RI_gets {M M1 M' : zM} {J J1 J' : zJ} {h f y x : Int} (hr : RI M J) (hok : zOK M) (hd : hdl M M1) (hu : y = 1 → M1 31 24 ≤ M1 31 8) (fr : ∀ a, kRg a → M' a = M a ∧ J' a = J a) (ti : TI M' J') (hn : hnd0 M') (gx : (y = 0 ∧ x = -5 ∧ hdl M1 M' ∧ J' 44 = J1 44) ∨ (y = 1 ∧ x = M' 45 h ∧ ¬ M' 43 h = 0 ∧ M' 31 24 ≤ M1 31 24 ∧ hdx M1 M' h ∧ (∀ k : Int, 0 ≤ k → k < 4 → J' 44 (4 * h + k) = J1 44 (4 * f + k)) ∧ ∀ j : Int, (j < 4 * h ∨ 4 * h + 4 ≤ j) → J' 44 j = J1 44 j)) : RI M' J' := by
  refine RI_mk hr fr ti hn ?_
  rcases gx with ⟨-, -, q, -⟩ | ⟨e, -, -, q, q2, -⟩
  · have z := hdl_t hd q
    rw [use_det hr.1 ti hr.2.1 hn z hok, z.2.2 8 (by decide) (by decide) (by decide) (by decide)]
    exact hr.2.2.1
  · have := hu e
    rw [q2.2 8 (by decide) (by decide) (by decide) (by decide)]
    omega
theorem begin_ok {M : zM} {J : zJ} (hr : RI M J) : TI (uz M 31 25 0) J ∧ hnd0 (uz M 31 25 0) ∧ uz M 31 25 0 31 24 ≤ uz M 31 25 0 31 8 ∧ uz M 31 25 0 31 27 = M 31 27 ∧ hdl M (uz M 31 25 0) ∧ rOrd (uz M 31 25 0) := by
  refine ⟨TI_31 hr.1 (by decide) (by decide) (by decide), fun g a b => by rw [uz_oo (by decide)]; exact hr.2.1 g a b, by rw [uz_n (by decide), uz_n (by decide)]; exact hr.2.2.1, by rw [uz_n (by decide)], ⟨fun g _ => by rw [uz_oo (by decide), uz_oo (by decide)]; exact ⟨rfl, rfl⟩, fun j _ => by rw [uz_oo (by decide)], fun j _ _ c _ => by rw [uz_n c]⟩, ?_⟩
  unfold rOrd
  rw [uz_o (by decide)]
  exact hr.2.2.2.1
set_option maxRecDepth 20000 in
theorem zX4_variable_s {G : tl_G} {M : zM} {J : zJ} {h v : Int} (hr : RI M J) (hk : M 31 27 ≤ 2000000000) : ZN G yX4_variable mX4_variable 5 kRg [vR 31, vI h, vI v] F1 M J (qI (fun x M' J' => RI M' J' ∧ M' 31 27 ≤ M 31 27 + 400)) := by
  refine ZN_of (L := [_, _, _]) (by decide) rfl rfl (Nat.le_of_ble_eq_true rfl) rfl (fun hav => ?_)
  refine Z_ok (fun ok0 => ?_)
  refine Z_iload_n (n := 1) dX4_variable_0 rfl rfl ?_
  refine Z_callSi (n := 4) [_] _ dX4_variable_1 rfl cwX4_210 rfl rfl (Nat.le_of_ble_eq_true rfl) (by refine ⟨?_, ?_, ?_, ?_⟩ <;> exact Nat.le_of_ble_eq_true rfl) (fun _ _ => trivial) (zX4_isHandle  ) ?_
  intro x1 M1 J1 z1 f1 q1
  obtain ⟨e1_1, e1_2, h1⟩ := q1
  replace e1_1 := e1_1.symm; subst e1_1
  replace e1_2 := e1_2.symm; subst e1_2
  refine Z_if_ne (n := 7) (t := 9) dX4_variable_4 rfl (by decide) (fun c4 => ?_) (fun c4 => ?_)
  · refine Z_iload_n (n := 10) dX4_variable_9 rfl rfl ?_
    refine Z_iconst (n := 11) dX4_variable_10 rfl (by decide) ?_
    refine Z_bipush (n := 13) dX4_variable_11 rfl (by decide) (by decide) ?_
    refine Z_callSi (n := 16) [_, _, _] _ dX4_variable_13 rfl cwX4_112 rfl rfl (Nat.le_of_ble_eq_true rfl) (by refine ⟨?_, ?_, ?_, ?_⟩ <;> exact Nat.le_of_ble_eq_true rfl) (fun _ _ => trivial) (zX4_in  ) ?_
    intro x13 M13 J13 z13 f13 q13
    obtain ⟨e13_1, e13_2, h13⟩ := q13
    replace e13_1 := e13_1.symm; subst e13_1
    replace e13_2 := e13_2.symm; subst e13_2
    refine Z_if_ne (n := 19) (t := 22) dX4_variable_16 rfl (by decide) (fun c16 => ?_) (fun c16 => ?_)
    · refine Z_aload_n (n := 23) dX4_variable_22 rfl rfl ?_
      refine Z_callVv (n := 26) [] _ dX4_variable_23 rfl cwX4_213 rfl rfl rfl (Nat.le_of_ble_eq_true rfl) (by refine ⟨?_, ?_, ?_, ?_⟩ <;> exact Nat.le_of_ble_eq_true rfl) (fun _ h => h) (zX4_begin  (by decide)) ?_
      intro M23 J23 f23 q23
      obtain ⟨e23_1, e23_2⟩ := q23
      replace e23_1 := e23_1.symm; subst e23_1
      replace e23_2 := e23_2.symm; subst e23_2
      obtain ⟨tb, hb, ub, mb, db, ob⟩ := begin_ok hr
      refine Z_nm (fun M23 e23 => ?_)
      rw [← e23] at tb hb ub mb db ob
      clear e23
      refine Z_rg 31 8 rfl (fun gb8 gb8b => ?_)
      refine Z_aload_n (n := 27) dX4_variable_26 rfl rfl ?_
      refine Z_bipush (n := 29) dX4_variable_27 rfl (by decide) (by decide) ?_
      refine Z_iload_n (n := 30) dX4_variable_29 rfl rfl ?_
      refine Z_callVv (n := 33) [_, _] _ dX4_variable_30 rfl cwX4_197 rfl rfl rfl (Nat.le_of_ble_eq_true rfl) (by refine ⟨?_, ?_, ?_, ?_⟩ <;> exact Nat.le_of_ble_eq_true rfl) (fun a h => by unfold kRg at h; unfold kBits; omega) (zX4_makeVariable  (by omega) (by omega) (by omega) (by omega)) ?_
      intro M30 J30 f30 q30
      obtain ⟨e30_1, vb30, vo30⟩ := q30
      replace e30_1 := e30_1.symm; subst e30_1
      refine Z_aload_n (n := 34) dX4_variable_33 rfl rfl ?_
      refine Z_iload_n (n := 35) dX4_variable_34 rfl rfl ?_
      refine Z_bipush (n := 37) dX4_variable_35 rfl (by decide) (by decide) ?_
      refine Z_aload_n (n := 38) dX4_variable_37 rfl rfl ?_
      refine Z_bipush (n := 40) dX4_variable_38 rfl (by decide) (by decide) ?_
      refine Z_callVi (n := 43) [_] _ dX4_variable_40 rfl cwX4_207 rfl rfl rfl (Nat.le_of_ble_eq_true rfl) (by refine ⟨?_, ?_, ?_, ?_⟩ <;> exact Nat.le_of_ble_eq_true rfl) (fun a h => by unfold kRg at h; unfold kAd; omega) (zX4_steps  (by omega) (by omega) (by exact TI_bits tb (hb 55 (by decide) (by decide)) (f30 48 (by decide)).2 vo30) (by exact hb 55 (by decide) (by decide)) (by omega) (by omega)) ?_
      intro x40 M40 J40 z40 f40 q40
      obtain ⟨ti40, ah40, am40, au40, af40, xs40⟩ := q40
      refine Z_rg 31 8 rfl (fun gs8 gs8b => ?_)
      refine Z_callVi (n := 46) [_, _, _] _ dX4_variable_43 rfl cwX4_219 rfl rfl rfl (Nat.le_of_ble_eq_true rfl) (by refine ⟨?_, ?_, ?_, ?_⟩ <;> exact Nat.le_of_ble_eq_true rfl) (fun a h => by unfold kRg at h; unfold kTk; omega) (zX4_gets  (by omega) (by omega) (by omega) (by omega) (by omega) (by exact ti40) (by exact fun q => ⟨ah40, by omega⟩) (by omega)) ?_
      intro x43 M43 J43 z43 f43 q43
      obtain ⟨ti43, hn43, am43, gx43⟩ := q43
      refine Z_fr (fun frR => ?_)
      refine Z_iret dX4_variable_46 rfl ?_
      exact ⟨RI_gets hr ok0 (hdl_t db (hdl_a af40 (by decide))) (fun q => by omega) frR ti43 hn43 gx43, by omega⟩
    · refine Z_bipush (n := 21) dX4_variable_19 rfl (by decide) (by decide) ?_
      refine Z_iret dX4_variable_21 rfl ?_
      exact ⟨hr, by omega⟩
  · refine Z_iconst (n := 8) dX4_variable_7 rfl (by decide) ?_
    refine Z_iret dX4_variable_8 rfl ?_
    exact ⟨hr, by omega⟩
set_option maxRecDepth 20000 in
theorem zX4_combine_s {G : tl_G} {M : zM} {J : zJ} {h k f g : Int} (hr : RI M J) (hk : M 31 27 ≤ 2000000000) : ZN G yX4_combine mX4_combine 5 kRg [vR 31, vI h, vI k, vI f, vI g] F1 M J (qI (fun x M' J' => RI M' J' ∧ M' 31 27 ≤ M 31 27 + 400)) := by
  refine ZN_of (L := [_, _, _, _, _]) (by decide) rfl rfl (Nat.le_of_ble_eq_true rfl) rfl (fun hav => ?_)
  refine Z_ok (fun ok0 => ?_)
  refine Z_iload_n (n := 1) dX4_combine_0 rfl rfl ?_
  refine Z_callSi (n := 4) [_] _ dX4_combine_1 rfl cwX4_210 rfl rfl (Nat.le_of_ble_eq_true rfl) (by refine ⟨?_, ?_, ?_, ?_⟩ <;> exact Nat.le_of_ble_eq_true rfl) (fun _ _ => trivial) (zX4_isHandle  ) ?_
  intro x1 M1 J1 z1 f1 q1
  obtain ⟨e1_1, e1_2, h1⟩ := q1
  replace e1_1 := e1_1.symm; subst e1_1
  replace e1_2 := e1_2.symm; subst e1_2
  refine Z_if_eq (n := 7) (t := 39) dX4_combine_4 rfl (by decide) (fun c4 => ?_) (fun c4 => ?_)
  · refine Z_iconst (n := 40) dX4_combine_39 rfl (by decide) ?_
    refine Z_iret dX4_combine_40 rfl ?_
    exact ⟨hr, by omega⟩
  · refine Z_iload_n (n := 8) dX4_combine_7 rfl rfl ?_
    refine Z_iconst (n := 9) dX4_combine_8 rfl (by decide) ?_
    refine Z_bipush (n := 11) dX4_combine_9 rfl (by decide) (by decide) ?_
    refine Z_callSi (n := 14) [_, _, _] _ dX4_combine_11 rfl cwX4_112 rfl rfl (Nat.le_of_ble_eq_true rfl) (by refine ⟨?_, ?_, ?_, ?_⟩ <;> exact Nat.le_of_ble_eq_true rfl) (fun _ _ => trivial) (zX4_in  ) ?_
    intro x11 M11 J11 z11 f11 q11
    obtain ⟨e11_1, e11_2, h11⟩ := q11
    replace e11_1 := e11_1.symm; subst e11_1
    replace e11_2 := e11_2.symm; subst e11_2
    refine Z_if_eq (n := 17) (t := 41) dX4_combine_14 rfl (by decide) (fun c14 => ?_) (fun c14 => ?_)
    · refine Z_iload_n (n := 42) dX4_combine_41 rfl rfl ?_
      refine Z_iconst (n := 43) dX4_combine_42 rfl (by decide) ?_
      refine Z_bipush (n := 45) dX4_combine_43 rfl (by decide) (by decide) ?_
      refine Z_callSi (n := 48) [_, _, _] _ dX4_combine_45 rfl cwX4_112 rfl rfl (Nat.le_of_ble_eq_true rfl) (by refine ⟨?_, ?_, ?_, ?_⟩ <;> exact Nat.le_of_ble_eq_true rfl) (fun _ _ => trivial) (zX4_in  ) ?_
      intro x45 M45 J45 z45 f45 q45
      obtain ⟨e45_1, e45_2, h45⟩ := q45
      replace e45_1 := e45_1.symm; subst e45_1
      replace e45_2 := e45_2.symm; subst e45_2
      refine Z_if_ne (n := 51) (t := 54) dX4_combine_48 rfl (by decide) (fun c48 => ?_) (fun c48 => ?_)
      · refine Z_aload_n (n := 55) dX4_combine_54 rfl rfl ?_
        refine Z_callVv (n := 58) [] _ dX4_combine_55 rfl cwX4_213 rfl rfl rfl (Nat.le_of_ble_eq_true rfl) (by refine ⟨?_, ?_, ?_, ?_⟩ <;> exact Nat.le_of_ble_eq_true rfl) (fun _ h => h) (zX4_begin  (by decide)) ?_
        intro M55 J55 f55 q55
        obtain ⟨e55_1, e55_2⟩ := q55
        replace e55_1 := e55_1.symm; subst e55_1
        replace e55_2 := e55_2.symm; subst e55_2
        obtain ⟨tb, hb, ub, mb, db, ob⟩ := begin_ok hr
        refine Z_nm (fun M55 e55 => ?_)
        rw [← e55] at tb hb ub mb db ob
        clear e55
        refine Z_rg 31 8 rfl (fun gb8 gb8b => ?_)
        refine Z_aload_n (n := 59) dX4_combine_58 rfl rfl ?_
        refine Z_bipush (n := 61) dX4_combine_59 rfl (by decide) (by decide) ?_
        refine Z_iload_n (n := 62) dX4_combine_61 rfl rfl ?_
        refine Z_iload_n (n := 63) dX4_combine_62 rfl rfl ?_
        refine Z_iconst (n := 64) dX4_combine_63 rfl (by decide) ?_
        refine Z_icmp_le (n := 67) (t := 71) dX4_combine_64 rfl (by decide) (fun c64 => ?_) (fun c64 => ?_)
        · refine Z_iconst (n := 72) dX4_combine_71 rfl (by decide) ?_
          refine Z_iload_n (n := 73) dX4_combine_72 rfl rfl ?_
          refine Z_iconst (n := 74) dX4_combine_73 rfl (by decide) ?_
          refine Z_icmp_le (n := 77) (t := 82) dX4_combine_74 rfl (by decide) (fun c74 => ?_) (fun c74 => ?_)
          · refine Z_iconst (n := 83) dX4_combine_82 rfl (by decide) ?_
            refine Z_callVv (n := 86) [_, _, _, _] _ dX4_combine_83 rfl cwX4_204 rfl rfl rfl (Nat.le_of_ble_eq_true rfl) (by refine ⟨?_, ?_, ?_, ?_⟩ <;> exact Nat.le_of_ble_eq_true rfl) (fun a h => by unfold kRg at h; unfold kBits; omega) (zX4_makeOf  (by omega) (by omega) (by omega) (by omega) (by omega) (by omega)) ?_
            intro M83 J83 f83 q83
            obtain ⟨e83_1, mo83, mb83, vo83⟩ := q83
            replace e83_1 := e83_1.symm; subst e83_1
            refine Z_aload_n (n := 87) dX4_combine_86 rfl rfl ?_
            refine Z_iload_n (n := 88) dX4_combine_87 rfl rfl ?_
            refine Z_bipush (n := 90) dX4_combine_88 rfl (by decide) (by decide) ?_
            refine Z_aload_n (n := 91) dX4_combine_90 rfl rfl ?_
            refine Z_bipush (n := 93) dX4_combine_91 rfl (by decide) (by decide) ?_
            refine Z_callVi (n := 96) [_] _ dX4_combine_93 rfl cwX4_207 rfl rfl rfl (Nat.le_of_ble_eq_true rfl) (by refine ⟨?_, ?_, ?_, ?_⟩ <;> exact Nat.le_of_ble_eq_true rfl) (fun a h => by unfold kRg at h; unfold kAd; omega) (zX4_steps  (by omega) (by omega) (by exact TI_bits tb (hb 55 (by decide) (by decide)) (f83 48 (by decide)).2 vo83) (by exact hb 55 (by decide) (by decide)) (by omega) (by omega)) ?_
            intro x93 M93 J93 z93 f93 q93
            obtain ⟨ti93, ah93, am93, au93, af93, xs93⟩ := q93
            refine Z_rg 31 8 rfl (fun gs8 gs8b => ?_)
            refine Z_callVi (n := 99) [_, _, _] _ dX4_combine_96 rfl cwX4_219 rfl rfl rfl (Nat.le_of_ble_eq_true rfl) (by refine ⟨?_, ?_, ?_, ?_⟩ <;> exact Nat.le_of_ble_eq_true rfl) (fun a h => by unfold kRg at h; unfold kTk; omega) (zX4_gets  (by omega) (by omega) (by omega) (by omega) (by omega) (by exact ti93) (by exact fun q => ⟨ah93, by omega⟩) (by omega)) ?_
            intro x96 M96 J96 z96 f96 q96
            obtain ⟨ti96, hn96, am96, gx96⟩ := q96
            refine Z_fr (fun frR => ?_)
            refine Z_iret dX4_combine_99 rfl ?_
            exact ⟨RI_gets hr ok0 (hdl_t db (hdl_a af93 (by decide))) (fun q => by omega) frR ti96 hn96 gx96, by omega⟩
          · refine Z_iload (n := 79) dX4_combine_77 rfl rfl ?_
            refine Z_goto (t := 83) dX4_combine_79 (by decide) ?_
            refine Z_callVv (n := 86) [_, _, _, _] _ dX4_combine_83 rfl cwX4_204 rfl rfl rfl (Nat.le_of_ble_eq_true rfl) (by refine ⟨?_, ?_, ?_, ?_⟩ <;> exact Nat.le_of_ble_eq_true rfl) (fun a h => by unfold kRg at h; unfold kBits; omega) (zX4_makeOf  (by omega) (by omega) (by omega) (by omega) (by omega) (by omega)) ?_
            intro M83 J83 f83 q83
            obtain ⟨e83_1, mo83, mb83, vo83⟩ := q83
            replace e83_1 := e83_1.symm; subst e83_1
            refine Z_aload_n (n := 87) dX4_combine_86 rfl rfl ?_
            refine Z_iload_n (n := 88) dX4_combine_87 rfl rfl ?_
            refine Z_bipush (n := 90) dX4_combine_88 rfl (by decide) (by decide) ?_
            refine Z_aload_n (n := 91) dX4_combine_90 rfl rfl ?_
            refine Z_bipush (n := 93) dX4_combine_91 rfl (by decide) (by decide) ?_
            refine Z_callVi (n := 96) [_] _ dX4_combine_93 rfl cwX4_207 rfl rfl rfl (Nat.le_of_ble_eq_true rfl) (by refine ⟨?_, ?_, ?_, ?_⟩ <;> exact Nat.le_of_ble_eq_true rfl) (fun a h => by unfold kRg at h; unfold kAd; omega) (zX4_steps  (by omega) (by omega) (by exact TI_bits tb (hb 55 (by decide) (by decide)) (f83 48 (by decide)).2 vo83) (by exact hb 55 (by decide) (by decide)) (by omega) (by omega)) ?_
            intro x93 M93 J93 z93 f93 q93
            obtain ⟨ti93, ah93, am93, au93, af93, xs93⟩ := q93
            refine Z_rg 31 8 rfl (fun gs8 gs8b => ?_)
            refine Z_callVi (n := 99) [_, _, _] _ dX4_combine_96 rfl cwX4_219 rfl rfl rfl (Nat.le_of_ble_eq_true rfl) (by refine ⟨?_, ?_, ?_, ?_⟩ <;> exact Nat.le_of_ble_eq_true rfl) (fun a h => by unfold kRg at h; unfold kTk; omega) (zX4_gets  (by omega) (by omega) (by omega) (by omega) (by omega) (by exact ti93) (by exact fun q => ⟨ah93, by omega⟩) (by omega)) ?_
            intro x96 M96 J96 z96 f96 q96
            obtain ⟨ti96, hn96, am96, gx96⟩ := q96
            refine Z_fr (fun frR => ?_)
            refine Z_iret dX4_combine_99 rfl ?_
            exact ⟨RI_gets hr ok0 (hdl_t db (hdl_a af93 (by decide))) (fun q => by omega) frR ti96 hn96 gx96, by omega⟩
        · refine Z_iload_n (n := 68) dX4_combine_67 rfl rfl ?_
          refine Z_goto (t := 72) dX4_combine_68 (by decide) ?_
          refine Z_iload_n (n := 73) dX4_combine_72 rfl rfl ?_
          refine Z_iconst (n := 74) dX4_combine_73 rfl (by decide) ?_
          refine Z_icmp_le (n := 77) (t := 82) dX4_combine_74 rfl (by decide) (fun c74 => ?_) (fun c74 => ?_)
          · refine Z_iconst (n := 83) dX4_combine_82 rfl (by decide) ?_
            refine Z_callVv (n := 86) [_, _, _, _] _ dX4_combine_83 rfl cwX4_204 rfl rfl rfl (Nat.le_of_ble_eq_true rfl) (by refine ⟨?_, ?_, ?_, ?_⟩ <;> exact Nat.le_of_ble_eq_true rfl) (fun a h => by unfold kRg at h; unfold kBits; omega) (zX4_makeOf  (by omega) (by omega) (by omega) (by omega) (by omega) (by omega)) ?_
            intro M83 J83 f83 q83
            obtain ⟨e83_1, mo83, mb83, vo83⟩ := q83
            replace e83_1 := e83_1.symm; subst e83_1
            refine Z_aload_n (n := 87) dX4_combine_86 rfl rfl ?_
            refine Z_iload_n (n := 88) dX4_combine_87 rfl rfl ?_
            refine Z_bipush (n := 90) dX4_combine_88 rfl (by decide) (by decide) ?_
            refine Z_aload_n (n := 91) dX4_combine_90 rfl rfl ?_
            refine Z_bipush (n := 93) dX4_combine_91 rfl (by decide) (by decide) ?_
            refine Z_callVi (n := 96) [_] _ dX4_combine_93 rfl cwX4_207 rfl rfl rfl (Nat.le_of_ble_eq_true rfl) (by refine ⟨?_, ?_, ?_, ?_⟩ <;> exact Nat.le_of_ble_eq_true rfl) (fun a h => by unfold kRg at h; unfold kAd; omega) (zX4_steps  (by omega) (by omega) (by exact TI_bits tb (hb 55 (by decide) (by decide)) (f83 48 (by decide)).2 vo83) (by exact hb 55 (by decide) (by decide)) (by omega) (by omega)) ?_
            intro x93 M93 J93 z93 f93 q93
            obtain ⟨ti93, ah93, am93, au93, af93, xs93⟩ := q93
            refine Z_rg 31 8 rfl (fun gs8 gs8b => ?_)
            refine Z_callVi (n := 99) [_, _, _] _ dX4_combine_96 rfl cwX4_219 rfl rfl rfl (Nat.le_of_ble_eq_true rfl) (by refine ⟨?_, ?_, ?_, ?_⟩ <;> exact Nat.le_of_ble_eq_true rfl) (fun a h => by unfold kRg at h; unfold kTk; omega) (zX4_gets  (by omega) (by omega) (by omega) (by omega) (by omega) (by exact ti93) (by exact fun q => ⟨ah93, by omega⟩) (by omega)) ?_
            intro x96 M96 J96 z96 f96 q96
            obtain ⟨ti96, hn96, am96, gx96⟩ := q96
            refine Z_fr (fun frR => ?_)
            refine Z_iret dX4_combine_99 rfl ?_
            exact ⟨RI_gets hr ok0 (hdl_t db (hdl_a af93 (by decide))) (fun q => by omega) frR ti96 hn96 gx96, by omega⟩
          · refine Z_iload (n := 79) dX4_combine_77 rfl rfl ?_
            refine Z_goto (t := 83) dX4_combine_79 (by decide) ?_
            refine Z_callVv (n := 86) [_, _, _, _] _ dX4_combine_83 rfl cwX4_204 rfl rfl rfl (Nat.le_of_ble_eq_true rfl) (by refine ⟨?_, ?_, ?_, ?_⟩ <;> exact Nat.le_of_ble_eq_true rfl) (fun a h => by unfold kRg at h; unfold kBits; omega) (zX4_makeOf  (by omega) (by omega) (by omega) (by omega) (by omega) (by omega)) ?_
            intro M83 J83 f83 q83
            obtain ⟨e83_1, mo83, mb83, vo83⟩ := q83
            replace e83_1 := e83_1.symm; subst e83_1
            refine Z_aload_n (n := 87) dX4_combine_86 rfl rfl ?_
            refine Z_iload_n (n := 88) dX4_combine_87 rfl rfl ?_
            refine Z_bipush (n := 90) dX4_combine_88 rfl (by decide) (by decide) ?_
            refine Z_aload_n (n := 91) dX4_combine_90 rfl rfl ?_
            refine Z_bipush (n := 93) dX4_combine_91 rfl (by decide) (by decide) ?_
            refine Z_callVi (n := 96) [_] _ dX4_combine_93 rfl cwX4_207 rfl rfl rfl (Nat.le_of_ble_eq_true rfl) (by refine ⟨?_, ?_, ?_, ?_⟩ <;> exact Nat.le_of_ble_eq_true rfl) (fun a h => by unfold kRg at h; unfold kAd; omega) (zX4_steps  (by omega) (by omega) (by exact TI_bits tb (hb 55 (by decide) (by decide)) (f83 48 (by decide)).2 vo83) (by exact hb 55 (by decide) (by decide)) (by omega) (by omega)) ?_
            intro x93 M93 J93 z93 f93 q93
            obtain ⟨ti93, ah93, am93, au93, af93, xs93⟩ := q93
            refine Z_rg 31 8 rfl (fun gs8 gs8b => ?_)
            refine Z_callVi (n := 99) [_, _, _] _ dX4_combine_96 rfl cwX4_219 rfl rfl rfl (Nat.le_of_ble_eq_true rfl) (by refine ⟨?_, ?_, ?_, ?_⟩ <;> exact Nat.le_of_ble_eq_true rfl) (fun a h => by unfold kRg at h; unfold kTk; omega) (zX4_gets  (by omega) (by omega) (by omega) (by omega) (by omega) (by exact ti93) (by exact fun q => ⟨ah93, by omega⟩) (by omega)) ?_
            intro x96 M96 J96 z96 f96 q96
            obtain ⟨ti96, hn96, am96, gx96⟩ := q96
            refine Z_fr (fun frR => ?_)
            refine Z_iret dX4_combine_99 rfl ?_
            exact ⟨RI_gets hr ok0 (hdl_t db (hdl_a af93 (by decide))) (fun q => by omega) frR ti96 hn96 gx96, by omega⟩
      · refine Z_bipush (n := 53) dX4_combine_51 rfl (by decide) (by decide) ?_
        refine Z_iret dX4_combine_53 rfl ?_
        exact ⟨hr, by omega⟩
    · refine Z_aload_n (n := 18) dX4_combine_17 rfl rfl ?_
      refine Z_iload_n (n := 19) dX4_combine_18 rfl rfl ?_
      refine Z_callVi (n := 22) [_] _ dX4_combine_19 rfl cwX4_223 rfl rfl rfl (Nat.le_of_ble_eq_true rfl) (by refine ⟨?_, ?_, ?_, ?_⟩ <;> exact Nat.le_of_ble_eq_true rfl) (fun _ _ => trivial) (zX4_isFunction  ) ?_
      intro x19 M19 J19 z19 f19 q19
      obtain ⟨e19_1, e19_2, h19⟩ := q19
      replace e19_1 := e19_1.symm; subst e19_1
      replace e19_2 := e19_2.symm; subst e19_2
      refine Z_if_eq (n := 25) (t := 39) dX4_combine_22 rfl (by decide) (fun c22 => ?_) (fun c22 => ?_)
      · refine Z_iconst (n := 40) dX4_combine_39 rfl (by decide) ?_
        refine Z_iret dX4_combine_40 rfl ?_
        exact ⟨hr, by omega⟩
      · refine Z_iload_n (n := 26) dX4_combine_25 rfl rfl ?_
        refine Z_iconst (n := 27) dX4_combine_26 rfl (by decide) ?_
        refine Z_icmp_eq (n := 30) (t := 41) dX4_combine_27 rfl (by decide) (fun c27 => ?_) (fun c27 => ?_)
        · refine Z_iload_n (n := 42) dX4_combine_41 rfl rfl ?_
          refine Z_iconst (n := 43) dX4_combine_42 rfl (by decide) ?_
          refine Z_bipush (n := 45) dX4_combine_43 rfl (by decide) (by decide) ?_
          refine Z_callSi (n := 48) [_, _, _] _ dX4_combine_45 rfl cwX4_112 rfl rfl (Nat.le_of_ble_eq_true rfl) (by refine ⟨?_, ?_, ?_, ?_⟩ <;> exact Nat.le_of_ble_eq_true rfl) (fun _ _ => trivial) (zX4_in  ) ?_
          intro x45 M45 J45 z45 f45 q45
          obtain ⟨e45_1, e45_2, h45⟩ := q45
          replace e45_1 := e45_1.symm; subst e45_1
          replace e45_2 := e45_2.symm; subst e45_2
          refine Z_if_ne (n := 51) (t := 54) dX4_combine_48 rfl (by decide) (fun c48 => ?_) (fun c48 => ?_)
          · refine Z_aload_n (n := 55) dX4_combine_54 rfl rfl ?_
            refine Z_callVv (n := 58) [] _ dX4_combine_55 rfl cwX4_213 rfl rfl rfl (Nat.le_of_ble_eq_true rfl) (by refine ⟨?_, ?_, ?_, ?_⟩ <;> exact Nat.le_of_ble_eq_true rfl) (fun _ h => h) (zX4_begin  (by decide)) ?_
            intro M55 J55 f55 q55
            obtain ⟨e55_1, e55_2⟩ := q55
            replace e55_1 := e55_1.symm; subst e55_1
            replace e55_2 := e55_2.symm; subst e55_2
            obtain ⟨tb, hb, ub, mb, db, ob⟩ := begin_ok hr
            refine Z_nm (fun M55 e55 => ?_)
            rw [← e55] at tb hb ub mb db ob
            clear e55
            refine Z_rg 31 8 rfl (fun gb8 gb8b => ?_)
            refine Z_aload_n (n := 59) dX4_combine_58 rfl rfl ?_
            refine Z_bipush (n := 61) dX4_combine_59 rfl (by decide) (by decide) ?_
            refine Z_iload_n (n := 62) dX4_combine_61 rfl rfl ?_
            refine Z_iload_n (n := 63) dX4_combine_62 rfl rfl ?_
            refine Z_iconst (n := 64) dX4_combine_63 rfl (by decide) ?_
            refine Z_icmp_le (n := 67) (t := 71) dX4_combine_64 rfl (by decide) (fun c64 => ?_) (fun c64 => ?_)
            · refine Z_iconst (n := 72) dX4_combine_71 rfl (by decide) ?_
              refine Z_iload_n (n := 73) dX4_combine_72 rfl rfl ?_
              refine Z_iconst (n := 74) dX4_combine_73 rfl (by decide) ?_
              refine Z_icmp_le (n := 77) (t := 82) dX4_combine_74 rfl (by decide) (fun c74 => ?_) (fun c74 => ?_)
              · refine Z_iconst (n := 83) dX4_combine_82 rfl (by decide) ?_
                refine Z_callVv (n := 86) [_, _, _, _] _ dX4_combine_83 rfl cwX4_204 rfl rfl rfl (Nat.le_of_ble_eq_true rfl) (by refine ⟨?_, ?_, ?_, ?_⟩ <;> exact Nat.le_of_ble_eq_true rfl) (fun a h => by unfold kRg at h; unfold kBits; omega) (zX4_makeOf  (by omega) (by omega) (by omega) (by omega) (by omega) (by omega)) ?_
                intro M83 J83 f83 q83
                obtain ⟨e83_1, mo83, mb83, vo83⟩ := q83
                replace e83_1 := e83_1.symm; subst e83_1
                refine Z_aload_n (n := 87) dX4_combine_86 rfl rfl ?_
                refine Z_iload_n (n := 88) dX4_combine_87 rfl rfl ?_
                refine Z_bipush (n := 90) dX4_combine_88 rfl (by decide) (by decide) ?_
                refine Z_aload_n (n := 91) dX4_combine_90 rfl rfl ?_
                refine Z_bipush (n := 93) dX4_combine_91 rfl (by decide) (by decide) ?_
                refine Z_callVi (n := 96) [_] _ dX4_combine_93 rfl cwX4_207 rfl rfl rfl (Nat.le_of_ble_eq_true rfl) (by refine ⟨?_, ?_, ?_, ?_⟩ <;> exact Nat.le_of_ble_eq_true rfl) (fun a h => by unfold kRg at h; unfold kAd; omega) (zX4_steps  (by omega) (by omega) (by exact TI_bits tb (hb 55 (by decide) (by decide)) (f83 48 (by decide)).2 vo83) (by exact hb 55 (by decide) (by decide)) (by omega) (by omega)) ?_
                intro x93 M93 J93 z93 f93 q93
                obtain ⟨ti93, ah93, am93, au93, af93, xs93⟩ := q93
                refine Z_rg 31 8 rfl (fun gs8 gs8b => ?_)
                refine Z_callVi (n := 99) [_, _, _] _ dX4_combine_96 rfl cwX4_219 rfl rfl rfl (Nat.le_of_ble_eq_true rfl) (by refine ⟨?_, ?_, ?_, ?_⟩ <;> exact Nat.le_of_ble_eq_true rfl) (fun a h => by unfold kRg at h; unfold kTk; omega) (zX4_gets  (by omega) (by omega) (by omega) (by omega) (by omega) (by exact ti93) (by exact fun q => ⟨ah93, by omega⟩) (by omega)) ?_
                intro x96 M96 J96 z96 f96 q96
                obtain ⟨ti96, hn96, am96, gx96⟩ := q96
                refine Z_fr (fun frR => ?_)
                refine Z_iret dX4_combine_99 rfl ?_
                exact ⟨RI_gets hr ok0 (hdl_t db (hdl_a af93 (by decide))) (fun q => by omega) frR ti96 hn96 gx96, by omega⟩
              · refine Z_iload (n := 79) dX4_combine_77 rfl rfl ?_
                refine Z_goto (t := 83) dX4_combine_79 (by decide) ?_
                refine Z_callVv (n := 86) [_, _, _, _] _ dX4_combine_83 rfl cwX4_204 rfl rfl rfl (Nat.le_of_ble_eq_true rfl) (by refine ⟨?_, ?_, ?_, ?_⟩ <;> exact Nat.le_of_ble_eq_true rfl) (fun a h => by unfold kRg at h; unfold kBits; omega) (zX4_makeOf  (by omega) (by omega) (by omega) (by omega) (by omega) (by omega)) ?_
                intro M83 J83 f83 q83
                obtain ⟨e83_1, mo83, mb83, vo83⟩ := q83
                replace e83_1 := e83_1.symm; subst e83_1
                refine Z_aload_n (n := 87) dX4_combine_86 rfl rfl ?_
                refine Z_iload_n (n := 88) dX4_combine_87 rfl rfl ?_
                refine Z_bipush (n := 90) dX4_combine_88 rfl (by decide) (by decide) ?_
                refine Z_aload_n (n := 91) dX4_combine_90 rfl rfl ?_
                refine Z_bipush (n := 93) dX4_combine_91 rfl (by decide) (by decide) ?_
                refine Z_callVi (n := 96) [_] _ dX4_combine_93 rfl cwX4_207 rfl rfl rfl (Nat.le_of_ble_eq_true rfl) (by refine ⟨?_, ?_, ?_, ?_⟩ <;> exact Nat.le_of_ble_eq_true rfl) (fun a h => by unfold kRg at h; unfold kAd; omega) (zX4_steps  (by omega) (by omega) (by exact TI_bits tb (hb 55 (by decide) (by decide)) (f83 48 (by decide)).2 vo83) (by exact hb 55 (by decide) (by decide)) (by omega) (by omega)) ?_
                intro x93 M93 J93 z93 f93 q93
                obtain ⟨ti93, ah93, am93, au93, af93, xs93⟩ := q93
                refine Z_rg 31 8 rfl (fun gs8 gs8b => ?_)
                refine Z_callVi (n := 99) [_, _, _] _ dX4_combine_96 rfl cwX4_219 rfl rfl rfl (Nat.le_of_ble_eq_true rfl) (by refine ⟨?_, ?_, ?_, ?_⟩ <;> exact Nat.le_of_ble_eq_true rfl) (fun a h => by unfold kRg at h; unfold kTk; omega) (zX4_gets  (by omega) (by omega) (by omega) (by omega) (by omega) (by exact ti93) (by exact fun q => ⟨ah93, by omega⟩) (by omega)) ?_
                intro x96 M96 J96 z96 f96 q96
                obtain ⟨ti96, hn96, am96, gx96⟩ := q96
                refine Z_fr (fun frR => ?_)
                refine Z_iret dX4_combine_99 rfl ?_
                exact ⟨RI_gets hr ok0 (hdl_t db (hdl_a af93 (by decide))) (fun q => by omega) frR ti96 hn96 gx96, by omega⟩
            · refine Z_iload_n (n := 68) dX4_combine_67 rfl rfl ?_
              refine Z_goto (t := 72) dX4_combine_68 (by decide) ?_
              refine Z_iload_n (n := 73) dX4_combine_72 rfl rfl ?_
              refine Z_iconst (n := 74) dX4_combine_73 rfl (by decide) ?_
              refine Z_icmp_le (n := 77) (t := 82) dX4_combine_74 rfl (by decide) (fun c74 => ?_) (fun c74 => ?_)
              · refine Z_iconst (n := 83) dX4_combine_82 rfl (by decide) ?_
                refine Z_callVv (n := 86) [_, _, _, _] _ dX4_combine_83 rfl cwX4_204 rfl rfl rfl (Nat.le_of_ble_eq_true rfl) (by refine ⟨?_, ?_, ?_, ?_⟩ <;> exact Nat.le_of_ble_eq_true rfl) (fun a h => by unfold kRg at h; unfold kBits; omega) (zX4_makeOf  (by omega) (by omega) (by omega) (by omega) (by omega) (by omega)) ?_
                intro M83 J83 f83 q83
                obtain ⟨e83_1, mo83, mb83, vo83⟩ := q83
                replace e83_1 := e83_1.symm; subst e83_1
                refine Z_aload_n (n := 87) dX4_combine_86 rfl rfl ?_
                refine Z_iload_n (n := 88) dX4_combine_87 rfl rfl ?_
                refine Z_bipush (n := 90) dX4_combine_88 rfl (by decide) (by decide) ?_
                refine Z_aload_n (n := 91) dX4_combine_90 rfl rfl ?_
                refine Z_bipush (n := 93) dX4_combine_91 rfl (by decide) (by decide) ?_
                refine Z_callVi (n := 96) [_] _ dX4_combine_93 rfl cwX4_207 rfl rfl rfl (Nat.le_of_ble_eq_true rfl) (by refine ⟨?_, ?_, ?_, ?_⟩ <;> exact Nat.le_of_ble_eq_true rfl) (fun a h => by unfold kRg at h; unfold kAd; omega) (zX4_steps  (by omega) (by omega) (by exact TI_bits tb (hb 55 (by decide) (by decide)) (f83 48 (by decide)).2 vo83) (by exact hb 55 (by decide) (by decide)) (by omega) (by omega)) ?_
                intro x93 M93 J93 z93 f93 q93
                obtain ⟨ti93, ah93, am93, au93, af93, xs93⟩ := q93
                refine Z_rg 31 8 rfl (fun gs8 gs8b => ?_)
                refine Z_callVi (n := 99) [_, _, _] _ dX4_combine_96 rfl cwX4_219 rfl rfl rfl (Nat.le_of_ble_eq_true rfl) (by refine ⟨?_, ?_, ?_, ?_⟩ <;> exact Nat.le_of_ble_eq_true rfl) (fun a h => by unfold kRg at h; unfold kTk; omega) (zX4_gets  (by omega) (by omega) (by omega) (by omega) (by omega) (by exact ti93) (by exact fun q => ⟨ah93, by omega⟩) (by omega)) ?_
                intro x96 M96 J96 z96 f96 q96
                obtain ⟨ti96, hn96, am96, gx96⟩ := q96
                refine Z_fr (fun frR => ?_)
                refine Z_iret dX4_combine_99 rfl ?_
                exact ⟨RI_gets hr ok0 (hdl_t db (hdl_a af93 (by decide))) (fun q => by omega) frR ti96 hn96 gx96, by omega⟩
              · refine Z_iload (n := 79) dX4_combine_77 rfl rfl ?_
                refine Z_goto (t := 83) dX4_combine_79 (by decide) ?_
                refine Z_callVv (n := 86) [_, _, _, _] _ dX4_combine_83 rfl cwX4_204 rfl rfl rfl (Nat.le_of_ble_eq_true rfl) (by refine ⟨?_, ?_, ?_, ?_⟩ <;> exact Nat.le_of_ble_eq_true rfl) (fun a h => by unfold kRg at h; unfold kBits; omega) (zX4_makeOf  (by omega) (by omega) (by omega) (by omega) (by omega) (by omega)) ?_
                intro M83 J83 f83 q83
                obtain ⟨e83_1, mo83, mb83, vo83⟩ := q83
                replace e83_1 := e83_1.symm; subst e83_1
                refine Z_aload_n (n := 87) dX4_combine_86 rfl rfl ?_
                refine Z_iload_n (n := 88) dX4_combine_87 rfl rfl ?_
                refine Z_bipush (n := 90) dX4_combine_88 rfl (by decide) (by decide) ?_
                refine Z_aload_n (n := 91) dX4_combine_90 rfl rfl ?_
                refine Z_bipush (n := 93) dX4_combine_91 rfl (by decide) (by decide) ?_
                refine Z_callVi (n := 96) [_] _ dX4_combine_93 rfl cwX4_207 rfl rfl rfl (Nat.le_of_ble_eq_true rfl) (by refine ⟨?_, ?_, ?_, ?_⟩ <;> exact Nat.le_of_ble_eq_true rfl) (fun a h => by unfold kRg at h; unfold kAd; omega) (zX4_steps  (by omega) (by omega) (by exact TI_bits tb (hb 55 (by decide) (by decide)) (f83 48 (by decide)).2 vo83) (by exact hb 55 (by decide) (by decide)) (by omega) (by omega)) ?_
                intro x93 M93 J93 z93 f93 q93
                obtain ⟨ti93, ah93, am93, au93, af93, xs93⟩ := q93
                refine Z_rg 31 8 rfl (fun gs8 gs8b => ?_)
                refine Z_callVi (n := 99) [_, _, _] _ dX4_combine_96 rfl cwX4_219 rfl rfl rfl (Nat.le_of_ble_eq_true rfl) (by refine ⟨?_, ?_, ?_, ?_⟩ <;> exact Nat.le_of_ble_eq_true rfl) (fun a h => by unfold kRg at h; unfold kTk; omega) (zX4_gets  (by omega) (by omega) (by omega) (by omega) (by omega) (by exact ti93) (by exact fun q => ⟨ah93, by omega⟩) (by omega)) ?_
                intro x96 M96 J96 z96 f96 q96
                obtain ⟨ti96, hn96, am96, gx96⟩ := q96
                refine Z_fr (fun frR => ?_)
                refine Z_iret dX4_combine_99 rfl ?_
                exact ⟨RI_gets hr ok0 (hdl_t db (hdl_a af93 (by decide))) (fun q => by omega) frR ti96 hn96 gx96, by omega⟩
          · refine Z_bipush (n := 53) dX4_combine_51 rfl (by decide) (by decide) ?_
            refine Z_iret dX4_combine_53 rfl ?_
            exact ⟨hr, by omega⟩
        · refine Z_aload_n (n := 31) dX4_combine_30 rfl rfl ?_
          refine Z_iload (n := 33) dX4_combine_31 rfl rfl ?_
          refine Z_callVi (n := 36) [_] _ dX4_combine_33 rfl cwX4_223 rfl rfl rfl (Nat.le_of_ble_eq_true rfl) (by refine ⟨?_, ?_, ?_, ?_⟩ <;> exact Nat.le_of_ble_eq_true rfl) (fun _ _ => trivial) (zX4_isFunction  ) ?_
          intro x33 M33 J33 z33 f33 q33
          obtain ⟨e33_1, e33_2, h33⟩ := q33
          replace e33_1 := e33_1.symm; subst e33_1
          replace e33_2 := e33_2.symm; subst e33_2
          refine Z_if_ne (n := 39) (t := 41) dX4_combine_36 rfl (by decide) (fun c36 => ?_) (fun c36 => ?_)
          · refine Z_iload_n (n := 42) dX4_combine_41 rfl rfl ?_
            refine Z_iconst (n := 43) dX4_combine_42 rfl (by decide) ?_
            refine Z_bipush (n := 45) dX4_combine_43 rfl (by decide) (by decide) ?_
            refine Z_callSi (n := 48) [_, _, _] _ dX4_combine_45 rfl cwX4_112 rfl rfl (Nat.le_of_ble_eq_true rfl) (by refine ⟨?_, ?_, ?_, ?_⟩ <;> exact Nat.le_of_ble_eq_true rfl) (fun _ _ => trivial) (zX4_in  ) ?_
            intro x45 M45 J45 z45 f45 q45
            obtain ⟨e45_1, e45_2, h45⟩ := q45
            replace e45_1 := e45_1.symm; subst e45_1
            replace e45_2 := e45_2.symm; subst e45_2
            refine Z_if_ne (n := 51) (t := 54) dX4_combine_48 rfl (by decide) (fun c48 => ?_) (fun c48 => ?_)
            · refine Z_aload_n (n := 55) dX4_combine_54 rfl rfl ?_
              refine Z_callVv (n := 58) [] _ dX4_combine_55 rfl cwX4_213 rfl rfl rfl (Nat.le_of_ble_eq_true rfl) (by refine ⟨?_, ?_, ?_, ?_⟩ <;> exact Nat.le_of_ble_eq_true rfl) (fun _ h => h) (zX4_begin  (by decide)) ?_
              intro M55 J55 f55 q55
              obtain ⟨e55_1, e55_2⟩ := q55
              replace e55_1 := e55_1.symm; subst e55_1
              replace e55_2 := e55_2.symm; subst e55_2
              obtain ⟨tb, hb, ub, mb, db, ob⟩ := begin_ok hr
              refine Z_nm (fun M55 e55 => ?_)
              rw [← e55] at tb hb ub mb db ob
              clear e55
              refine Z_rg 31 8 rfl (fun gb8 gb8b => ?_)
              refine Z_aload_n (n := 59) dX4_combine_58 rfl rfl ?_
              refine Z_bipush (n := 61) dX4_combine_59 rfl (by decide) (by decide) ?_
              refine Z_iload_n (n := 62) dX4_combine_61 rfl rfl ?_
              refine Z_iload_n (n := 63) dX4_combine_62 rfl rfl ?_
              refine Z_iconst (n := 64) dX4_combine_63 rfl (by decide) ?_
              refine Z_icmp_le (n := 67) (t := 71) dX4_combine_64 rfl (by decide) (fun c64 => ?_) (fun c64 => ?_)
              · refine Z_iconst (n := 72) dX4_combine_71 rfl (by decide) ?_
                refine Z_iload_n (n := 73) dX4_combine_72 rfl rfl ?_
                refine Z_iconst (n := 74) dX4_combine_73 rfl (by decide) ?_
                refine Z_icmp_le (n := 77) (t := 82) dX4_combine_74 rfl (by decide) (fun c74 => ?_) (fun c74 => ?_)
                · refine Z_iconst (n := 83) dX4_combine_82 rfl (by decide) ?_
                  refine Z_callVv (n := 86) [_, _, _, _] _ dX4_combine_83 rfl cwX4_204 rfl rfl rfl (Nat.le_of_ble_eq_true rfl) (by refine ⟨?_, ?_, ?_, ?_⟩ <;> exact Nat.le_of_ble_eq_true rfl) (fun a h => by unfold kRg at h; unfold kBits; omega) (zX4_makeOf  (by omega) (by omega) (by omega) (by omega) (by omega) (by omega)) ?_
                  intro M83 J83 f83 q83
                  obtain ⟨e83_1, mo83, mb83, vo83⟩ := q83
                  replace e83_1 := e83_1.symm; subst e83_1
                  refine Z_aload_n (n := 87) dX4_combine_86 rfl rfl ?_
                  refine Z_iload_n (n := 88) dX4_combine_87 rfl rfl ?_
                  refine Z_bipush (n := 90) dX4_combine_88 rfl (by decide) (by decide) ?_
                  refine Z_aload_n (n := 91) dX4_combine_90 rfl rfl ?_
                  refine Z_bipush (n := 93) dX4_combine_91 rfl (by decide) (by decide) ?_
                  refine Z_callVi (n := 96) [_] _ dX4_combine_93 rfl cwX4_207 rfl rfl rfl (Nat.le_of_ble_eq_true rfl) (by refine ⟨?_, ?_, ?_, ?_⟩ <;> exact Nat.le_of_ble_eq_true rfl) (fun a h => by unfold kRg at h; unfold kAd; omega) (zX4_steps  (by omega) (by omega) (by exact TI_bits tb (hb 55 (by decide) (by decide)) (f83 48 (by decide)).2 vo83) (by exact hb 55 (by decide) (by decide)) (by omega) (by omega)) ?_
                  intro x93 M93 J93 z93 f93 q93
                  obtain ⟨ti93, ah93, am93, au93, af93, xs93⟩ := q93
                  refine Z_rg 31 8 rfl (fun gs8 gs8b => ?_)
                  refine Z_callVi (n := 99) [_, _, _] _ dX4_combine_96 rfl cwX4_219 rfl rfl rfl (Nat.le_of_ble_eq_true rfl) (by refine ⟨?_, ?_, ?_, ?_⟩ <;> exact Nat.le_of_ble_eq_true rfl) (fun a h => by unfold kRg at h; unfold kTk; omega) (zX4_gets  (by omega) (by omega) (by omega) (by omega) (by omega) (by exact ti93) (by exact fun q => ⟨ah93, by omega⟩) (by omega)) ?_
                  intro x96 M96 J96 z96 f96 q96
                  obtain ⟨ti96, hn96, am96, gx96⟩ := q96
                  refine Z_fr (fun frR => ?_)
                  refine Z_iret dX4_combine_99 rfl ?_
                  exact ⟨RI_gets hr ok0 (hdl_t db (hdl_a af93 (by decide))) (fun q => by omega) frR ti96 hn96 gx96, by omega⟩
                · refine Z_iload (n := 79) dX4_combine_77 rfl rfl ?_
                  refine Z_goto (t := 83) dX4_combine_79 (by decide) ?_
                  refine Z_callVv (n := 86) [_, _, _, _] _ dX4_combine_83 rfl cwX4_204 rfl rfl rfl (Nat.le_of_ble_eq_true rfl) (by refine ⟨?_, ?_, ?_, ?_⟩ <;> exact Nat.le_of_ble_eq_true rfl) (fun a h => by unfold kRg at h; unfold kBits; omega) (zX4_makeOf  (by omega) (by omega) (by omega) (by omega) (by omega) (by omega)) ?_
                  intro M83 J83 f83 q83
                  obtain ⟨e83_1, mo83, mb83, vo83⟩ := q83
                  replace e83_1 := e83_1.symm; subst e83_1
                  refine Z_aload_n (n := 87) dX4_combine_86 rfl rfl ?_
                  refine Z_iload_n (n := 88) dX4_combine_87 rfl rfl ?_
                  refine Z_bipush (n := 90) dX4_combine_88 rfl (by decide) (by decide) ?_
                  refine Z_aload_n (n := 91) dX4_combine_90 rfl rfl ?_
                  refine Z_bipush (n := 93) dX4_combine_91 rfl (by decide) (by decide) ?_
                  refine Z_callVi (n := 96) [_] _ dX4_combine_93 rfl cwX4_207 rfl rfl rfl (Nat.le_of_ble_eq_true rfl) (by refine ⟨?_, ?_, ?_, ?_⟩ <;> exact Nat.le_of_ble_eq_true rfl) (fun a h => by unfold kRg at h; unfold kAd; omega) (zX4_steps  (by omega) (by omega) (by exact TI_bits tb (hb 55 (by decide) (by decide)) (f83 48 (by decide)).2 vo83) (by exact hb 55 (by decide) (by decide)) (by omega) (by omega)) ?_
                  intro x93 M93 J93 z93 f93 q93
                  obtain ⟨ti93, ah93, am93, au93, af93, xs93⟩ := q93
                  refine Z_rg 31 8 rfl (fun gs8 gs8b => ?_)
                  refine Z_callVi (n := 99) [_, _, _] _ dX4_combine_96 rfl cwX4_219 rfl rfl rfl (Nat.le_of_ble_eq_true rfl) (by refine ⟨?_, ?_, ?_, ?_⟩ <;> exact Nat.le_of_ble_eq_true rfl) (fun a h => by unfold kRg at h; unfold kTk; omega) (zX4_gets  (by omega) (by omega) (by omega) (by omega) (by omega) (by exact ti93) (by exact fun q => ⟨ah93, by omega⟩) (by omega)) ?_
                  intro x96 M96 J96 z96 f96 q96
                  obtain ⟨ti96, hn96, am96, gx96⟩ := q96
                  refine Z_fr (fun frR => ?_)
                  refine Z_iret dX4_combine_99 rfl ?_
                  exact ⟨RI_gets hr ok0 (hdl_t db (hdl_a af93 (by decide))) (fun q => by omega) frR ti96 hn96 gx96, by omega⟩
              · refine Z_iload_n (n := 68) dX4_combine_67 rfl rfl ?_
                refine Z_goto (t := 72) dX4_combine_68 (by decide) ?_
                refine Z_iload_n (n := 73) dX4_combine_72 rfl rfl ?_
                refine Z_iconst (n := 74) dX4_combine_73 rfl (by decide) ?_
                refine Z_icmp_le (n := 77) (t := 82) dX4_combine_74 rfl (by decide) (fun c74 => ?_) (fun c74 => ?_)
                · refine Z_iconst (n := 83) dX4_combine_82 rfl (by decide) ?_
                  refine Z_callVv (n := 86) [_, _, _, _] _ dX4_combine_83 rfl cwX4_204 rfl rfl rfl (Nat.le_of_ble_eq_true rfl) (by refine ⟨?_, ?_, ?_, ?_⟩ <;> exact Nat.le_of_ble_eq_true rfl) (fun a h => by unfold kRg at h; unfold kBits; omega) (zX4_makeOf  (by omega) (by omega) (by omega) (by omega) (by omega) (by omega)) ?_
                  intro M83 J83 f83 q83
                  obtain ⟨e83_1, mo83, mb83, vo83⟩ := q83
                  replace e83_1 := e83_1.symm; subst e83_1
                  refine Z_aload_n (n := 87) dX4_combine_86 rfl rfl ?_
                  refine Z_iload_n (n := 88) dX4_combine_87 rfl rfl ?_
                  refine Z_bipush (n := 90) dX4_combine_88 rfl (by decide) (by decide) ?_
                  refine Z_aload_n (n := 91) dX4_combine_90 rfl rfl ?_
                  refine Z_bipush (n := 93) dX4_combine_91 rfl (by decide) (by decide) ?_
                  refine Z_callVi (n := 96) [_] _ dX4_combine_93 rfl cwX4_207 rfl rfl rfl (Nat.le_of_ble_eq_true rfl) (by refine ⟨?_, ?_, ?_, ?_⟩ <;> exact Nat.le_of_ble_eq_true rfl) (fun a h => by unfold kRg at h; unfold kAd; omega) (zX4_steps  (by omega) (by omega) (by exact TI_bits tb (hb 55 (by decide) (by decide)) (f83 48 (by decide)).2 vo83) (by exact hb 55 (by decide) (by decide)) (by omega) (by omega)) ?_
                  intro x93 M93 J93 z93 f93 q93
                  obtain ⟨ti93, ah93, am93, au93, af93, xs93⟩ := q93
                  refine Z_rg 31 8 rfl (fun gs8 gs8b => ?_)
                  refine Z_callVi (n := 99) [_, _, _] _ dX4_combine_96 rfl cwX4_219 rfl rfl rfl (Nat.le_of_ble_eq_true rfl) (by refine ⟨?_, ?_, ?_, ?_⟩ <;> exact Nat.le_of_ble_eq_true rfl) (fun a h => by unfold kRg at h; unfold kTk; omega) (zX4_gets  (by omega) (by omega) (by omega) (by omega) (by omega) (by exact ti93) (by exact fun q => ⟨ah93, by omega⟩) (by omega)) ?_
                  intro x96 M96 J96 z96 f96 q96
                  obtain ⟨ti96, hn96, am96, gx96⟩ := q96
                  refine Z_fr (fun frR => ?_)
                  refine Z_iret dX4_combine_99 rfl ?_
                  exact ⟨RI_gets hr ok0 (hdl_t db (hdl_a af93 (by decide))) (fun q => by omega) frR ti96 hn96 gx96, by omega⟩
                · refine Z_iload (n := 79) dX4_combine_77 rfl rfl ?_
                  refine Z_goto (t := 83) dX4_combine_79 (by decide) ?_
                  refine Z_callVv (n := 86) [_, _, _, _] _ dX4_combine_83 rfl cwX4_204 rfl rfl rfl (Nat.le_of_ble_eq_true rfl) (by refine ⟨?_, ?_, ?_, ?_⟩ <;> exact Nat.le_of_ble_eq_true rfl) (fun a h => by unfold kRg at h; unfold kBits; omega) (zX4_makeOf  (by omega) (by omega) (by omega) (by omega) (by omega) (by omega)) ?_
                  intro M83 J83 f83 q83
                  obtain ⟨e83_1, mo83, mb83, vo83⟩ := q83
                  replace e83_1 := e83_1.symm; subst e83_1
                  refine Z_aload_n (n := 87) dX4_combine_86 rfl rfl ?_
                  refine Z_iload_n (n := 88) dX4_combine_87 rfl rfl ?_
                  refine Z_bipush (n := 90) dX4_combine_88 rfl (by decide) (by decide) ?_
                  refine Z_aload_n (n := 91) dX4_combine_90 rfl rfl ?_
                  refine Z_bipush (n := 93) dX4_combine_91 rfl (by decide) (by decide) ?_
                  refine Z_callVi (n := 96) [_] _ dX4_combine_93 rfl cwX4_207 rfl rfl rfl (Nat.le_of_ble_eq_true rfl) (by refine ⟨?_, ?_, ?_, ?_⟩ <;> exact Nat.le_of_ble_eq_true rfl) (fun a h => by unfold kRg at h; unfold kAd; omega) (zX4_steps  (by omega) (by omega) (by exact TI_bits tb (hb 55 (by decide) (by decide)) (f83 48 (by decide)).2 vo83) (by exact hb 55 (by decide) (by decide)) (by omega) (by omega)) ?_
                  intro x93 M93 J93 z93 f93 q93
                  obtain ⟨ti93, ah93, am93, au93, af93, xs93⟩ := q93
                  refine Z_rg 31 8 rfl (fun gs8 gs8b => ?_)
                  refine Z_callVi (n := 99) [_, _, _] _ dX4_combine_96 rfl cwX4_219 rfl rfl rfl (Nat.le_of_ble_eq_true rfl) (by refine ⟨?_, ?_, ?_, ?_⟩ <;> exact Nat.le_of_ble_eq_true rfl) (fun a h => by unfold kRg at h; unfold kTk; omega) (zX4_gets  (by omega) (by omega) (by omega) (by omega) (by omega) (by exact ti93) (by exact fun q => ⟨ah93, by omega⟩) (by omega)) ?_
                  intro x96 M96 J96 z96 f96 q96
                  obtain ⟨ti96, hn96, am96, gx96⟩ := q96
                  refine Z_fr (fun frR => ?_)
                  refine Z_iret dX4_combine_99 rfl ?_
                  exact ⟨RI_gets hr ok0 (hdl_t db (hdl_a af93 (by decide))) (fun q => by omega) frR ti96 hn96 gx96, by omega⟩
            · refine Z_bipush (n := 53) dX4_combine_51 rfl (by decide) (by decide) ?_
              refine Z_iret dX4_combine_53 rfl ?_
              exact ⟨hr, by omega⟩
          · refine Z_iconst (n := 40) dX4_combine_39 rfl (by decide) ?_
            refine Z_iret dX4_combine_40 rfl ?_
            exact ⟨hr, by omega⟩
set_option maxRecDepth 20000 in
theorem zX4_choose_s {G : tl_G} {M : zM} {J : zJ} {h f g k : Int} (hr : RI M J) (hk : M 31 27 ≤ 2000000000) : ZN G yX4_choose mX4_choose 5 kRg [vR 31, vI h, vI f, vI g, vI k] F1 M J (qI (fun x M' J' => RI M' J' ∧ M' 31 27 ≤ M 31 27 + 400)) := by
  refine ZN_of (L := [_, _, _, _, _]) (by decide) rfl rfl (Nat.le_of_ble_eq_true rfl) rfl (fun hav => ?_)
  refine Z_ok (fun ok0 => ?_)
  refine Z_iload_n (n := 1) dX4_choose_0 rfl rfl ?_
  refine Z_callSi (n := 4) [_] _ dX4_choose_1 rfl cwX4_210 rfl rfl (Nat.le_of_ble_eq_true rfl) (by refine ⟨?_, ?_, ?_, ?_⟩ <;> exact Nat.le_of_ble_eq_true rfl) (fun _ _ => trivial) (zX4_isHandle  ) ?_
  intro x1 M1 J1 z1 f1 q1
  obtain ⟨e1_1, e1_2, h1⟩ := q1
  replace e1_1 := e1_1.symm; subst e1_1
  replace e1_2 := e1_2.symm; subst e1_2
  refine Z_if_eq (n := 7) (t := 32) dX4_choose_4 rfl (by decide) (fun c4 => ?_) (fun c4 => ?_)
  · refine Z_iconst (n := 33) dX4_choose_32 rfl (by decide) ?_
    refine Z_iret dX4_choose_33 rfl ?_
    exact ⟨hr, by omega⟩
  · refine Z_aload_n (n := 8) dX4_choose_7 rfl rfl ?_
    refine Z_iload_n (n := 9) dX4_choose_8 rfl rfl ?_
    refine Z_callVi (n := 12) [_] _ dX4_choose_9 rfl cwX4_223 rfl rfl rfl (Nat.le_of_ble_eq_true rfl) (by refine ⟨?_, ?_, ?_, ?_⟩ <;> exact Nat.le_of_ble_eq_true rfl) (fun _ _ => trivial) (zX4_isFunction  ) ?_
    intro x9 M9 J9 z9 f9 q9
    obtain ⟨e9_1, e9_2, h9⟩ := q9
    replace e9_1 := e9_1.symm; subst e9_1
    replace e9_2 := e9_2.symm; subst e9_2
    refine Z_if_eq (n := 15) (t := 32) dX4_choose_12 rfl (by decide) (fun c12 => ?_) (fun c12 => ?_)
    · refine Z_iconst (n := 33) dX4_choose_32 rfl (by decide) ?_
      refine Z_iret dX4_choose_33 rfl ?_
      exact ⟨hr, by omega⟩
    · refine Z_aload_n (n := 16) dX4_choose_15 rfl rfl ?_
      refine Z_iload_n (n := 17) dX4_choose_16 rfl rfl ?_
      refine Z_callVi (n := 20) [_] _ dX4_choose_17 rfl cwX4_223 rfl rfl rfl (Nat.le_of_ble_eq_true rfl) (by refine ⟨?_, ?_, ?_, ?_⟩ <;> exact Nat.le_of_ble_eq_true rfl) (fun _ _ => trivial) (zX4_isFunction  ) ?_
      intro x17 M17 J17 z17 f17 q17
      obtain ⟨e17_1, e17_2, h17⟩ := q17
      replace e17_1 := e17_1.symm; subst e17_1
      replace e17_2 := e17_2.symm; subst e17_2
      refine Z_if_eq (n := 23) (t := 32) dX4_choose_20 rfl (by decide) (fun c20 => ?_) (fun c20 => ?_)
      · refine Z_iconst (n := 33) dX4_choose_32 rfl (by decide) ?_
        refine Z_iret dX4_choose_33 rfl ?_
        exact ⟨hr, by omega⟩
      · refine Z_aload_n (n := 24) dX4_choose_23 rfl rfl ?_
        refine Z_iload (n := 26) dX4_choose_24 rfl rfl ?_
        refine Z_callVi (n := 29) [_] _ dX4_choose_26 rfl cwX4_223 rfl rfl rfl (Nat.le_of_ble_eq_true rfl) (by refine ⟨?_, ?_, ?_, ?_⟩ <;> exact Nat.le_of_ble_eq_true rfl) (fun _ _ => trivial) (zX4_isFunction  ) ?_
        intro x26 M26 J26 z26 f26 q26
        obtain ⟨e26_1, e26_2, h26⟩ := q26
        replace e26_1 := e26_1.symm; subst e26_1
        replace e26_2 := e26_2.symm; subst e26_2
        refine Z_if_ne (n := 32) (t := 34) dX4_choose_29 rfl (by decide) (fun c29 => ?_) (fun c29 => ?_)
        · refine Z_aload_n (n := 35) dX4_choose_34 rfl rfl ?_
          refine Z_callVv (n := 38) [] _ dX4_choose_35 rfl cwX4_213 rfl rfl rfl (Nat.le_of_ble_eq_true rfl) (by refine ⟨?_, ?_, ?_, ?_⟩ <;> exact Nat.le_of_ble_eq_true rfl) (fun _ h => h) (zX4_begin  (by decide)) ?_
          intro M35 J35 f35 q35
          obtain ⟨e35_1, e35_2⟩ := q35
          replace e35_1 := e35_1.symm; subst e35_1
          replace e35_2 := e35_2.symm; subst e35_2
          obtain ⟨tb, hb, ub, mb, db, ob⟩ := begin_ok hr
          refine Z_nm (fun M35 e35 => ?_)
          rw [← e35] at tb hb ub mb db ob
          clear e35
          refine Z_rg 31 8 rfl (fun gb8 gb8b => ?_)
          refine Z_aload_n (n := 39) dX4_choose_38 rfl rfl ?_
          refine Z_bipush (n := 41) dX4_choose_39 rfl (by decide) (by decide) ?_
          refine Z_iload_n (n := 42) dX4_choose_41 rfl rfl ?_
          refine Z_iload_n (n := 43) dX4_choose_42 rfl rfl ?_
          refine Z_iload (n := 45) dX4_choose_43 rfl rfl ?_
          refine Z_callVv (n := 48) [_, _, _, _] _ dX4_choose_45 rfl cwX4_200 rfl rfl rfl (Nat.le_of_ble_eq_true rfl) (by refine ⟨?_, ?_, ?_, ?_⟩ <;> exact Nat.le_of_ble_eq_true rfl) (fun a h => by unfold kRg at h; unfold kBits; omega) (zX4_makeChoice  (by omega) (by omega) (by omega) (by omega) (by omega) (by omega) (by omega) (by omega)) ?_
          intro M45 J45 f45 q45
          obtain ⟨e45_1, vb45, vo45⟩ := q45
          replace e45_1 := e45_1.symm; subst e45_1
          refine Z_aload_n (n := 49) dX4_choose_48 rfl rfl ?_
          refine Z_iload_n (n := 50) dX4_choose_49 rfl rfl ?_
          refine Z_bipush (n := 52) dX4_choose_50 rfl (by decide) (by decide) ?_
          refine Z_aload_n (n := 53) dX4_choose_52 rfl rfl ?_
          refine Z_bipush (n := 55) dX4_choose_53 rfl (by decide) (by decide) ?_
          refine Z_callVi (n := 58) [_] _ dX4_choose_55 rfl cwX4_207 rfl rfl rfl (Nat.le_of_ble_eq_true rfl) (by refine ⟨?_, ?_, ?_, ?_⟩ <;> exact Nat.le_of_ble_eq_true rfl) (fun a h => by unfold kRg at h; unfold kAd; omega) (zX4_steps  (by omega) (by omega) (by exact TI_bits tb (hb 55 (by decide) (by decide)) (f45 48 (by decide)).2 vo45) (by exact hb 55 (by decide) (by decide)) (by omega) (by omega)) ?_
          intro x55 M55 J55 z55 f55 q55
          obtain ⟨ti55, ah55, am55, au55, af55, xs55⟩ := q55
          refine Z_rg 31 8 rfl (fun gs8 gs8b => ?_)
          refine Z_callVi (n := 61) [_, _, _] _ dX4_choose_58 rfl cwX4_219 rfl rfl rfl (Nat.le_of_ble_eq_true rfl) (by refine ⟨?_, ?_, ?_, ?_⟩ <;> exact Nat.le_of_ble_eq_true rfl) (fun a h => by unfold kRg at h; unfold kTk; omega) (zX4_gets  (by omega) (by omega) (by omega) (by omega) (by omega) (by exact ti55) (by exact fun q => ⟨ah55, by omega⟩) (by omega)) ?_
          intro x58 M58 J58 z58 f58 q58
          obtain ⟨ti58, hn58, am58, gx58⟩ := q58
          refine Z_fr (fun frR => ?_)
          refine Z_iret dX4_choose_61 rfl ?_
          exact ⟨RI_gets hr ok0 (hdl_t db (hdl_a af55 (by decide))) (fun q => by omega) frR ti58 hn58 gx58, by omega⟩
        · refine Z_iconst (n := 33) dX4_choose_32 rfl (by decide) ?_
          refine Z_iret dX4_choose_33 rfl ?_
          exact ⟨hr, by omega⟩
set_option maxRecDepth 20000 in
theorem zX4_restrict_s {G : tl_G} {M : zM} {J : zJ} {h f v y : Int} (hr : RI M J) (hk : M 31 27 ≤ 2000000000) : ZN G yX4_restrict mX4_restrict 5 kRg [vR 31, vI h, vI f, vI v, vI y] F1 M J (qI (fun x M' J' => RI M' J' ∧ M' 31 27 ≤ M 31 27 + 400)) := by
  refine ZN_of (L := [_, _, _, _, _]) (by decide) rfl rfl (Nat.le_of_ble_eq_true rfl) rfl (fun hav => ?_)
  refine Z_ok (fun ok0 => ?_)
  refine Z_aload_n (n := 1) dX4_restrict_0 rfl rfl ?_
  refine Z_iload_n (n := 2) dX4_restrict_1 rfl rfl ?_
  refine Z_iload_n (n := 3) dX4_restrict_2 rfl rfl ?_
  refine Z_iload_n (n := 4) dX4_restrict_3 rfl rfl ?_
  refine Z_callVi (n := 7) [_, _, _] _ dX4_restrict_4 rfl cwX4_226 rfl rfl rfl (Nat.le_of_ble_eq_true rfl) (by refine ⟨?_, ?_, ?_, ?_⟩ <;> exact Nat.le_of_ble_eq_true rfl) (fun _ _ => trivial) (zX4_noHalf  ) ?_
  intro x4 M4 J4 z4 f4 q4
  obtain ⟨e4_1, e4_2, h4⟩ := q4
  replace e4_1 := e4_1.symm; subst e4_1
  replace e4_2 := e4_2.symm; subst e4_2
  refine Z_if_ge (n := 10) (t := 18) dX4_restrict_7 rfl (by decide) (fun c7 => ?_) (fun c7 => ?_)
  · refine Z_aload_n (n := 19) dX4_restrict_18 rfl rfl ?_
    refine Z_callVv (n := 22) [] _ dX4_restrict_19 rfl cwX4_213 rfl rfl rfl (Nat.le_of_ble_eq_true rfl) (by refine ⟨?_, ?_, ?_, ?_⟩ <;> exact Nat.le_of_ble_eq_true rfl) (fun _ h => h) (zX4_begin  (by decide)) ?_
    intro M19 J19 f19 q19
    obtain ⟨e19_1, e19_2⟩ := q19
    replace e19_1 := e19_1.symm; subst e19_1
    replace e19_2 := e19_2.symm; subst e19_2
    obtain ⟨tb, hb, ub, mb, db, ob⟩ := begin_ok hr
    refine Z_nm (fun M19 e19 => ?_)
    rw [← e19] at tb hb ub mb db ob
    clear e19
    refine Z_rg 31 8 rfl (fun gb8 gb8b => ?_)
    refine Z_aload_n (n := 23) dX4_restrict_22 rfl rfl ?_
    refine Z_bipush (n := 25) dX4_restrict_23 rfl (by decide) (by decide) ?_
    refine Z_iload_n (n := 26) dX4_restrict_25 rfl rfl ?_
    refine Z_iload_n (n := 27) dX4_restrict_26 rfl rfl ?_
    refine Z_iload (n := 29) dX4_restrict_27 rfl rfl ?_
    refine Z_callVv (n := 32) [_, _, _, _] _ dX4_restrict_29 rfl cwX4_230 rfl rfl rfl (Nat.le_of_ble_eq_true rfl) (by refine ⟨?_, ?_, ?_, ?_⟩ <;> exact Nat.le_of_ble_eq_true rfl) (fun a h => by unfold kRg at h; unfold kBits; omega) (zX4_makeHalf  (by omega) (by omega) (by omega) (by omega) (by omega) (by omega) (by exact ob)) ?_
    intro M29 J29 f29 q29
    obtain ⟨e29_1, vo29⟩ := q29
    replace e29_1 := e29_1.symm; subst e29_1
    refine Z_aload_n (n := 33) dX4_restrict_32 rfl rfl ?_
    refine Z_iload_n (n := 34) dX4_restrict_33 rfl rfl ?_
    refine Z_bipush (n := 36) dX4_restrict_34 rfl (by decide) (by decide) ?_
    refine Z_aload_n (n := 37) dX4_restrict_36 rfl rfl ?_
    refine Z_bipush (n := 39) dX4_restrict_37 rfl (by decide) (by decide) ?_
    refine Z_callVi (n := 42) [_] _ dX4_restrict_39 rfl cwX4_207 rfl rfl rfl (Nat.le_of_ble_eq_true rfl) (by refine ⟨?_, ?_, ?_, ?_⟩ <;> exact Nat.le_of_ble_eq_true rfl) (fun a h => by unfold kRg at h; unfold kAd; omega) (zX4_steps  (by omega) (by omega) (by exact TI_bits tb (hb 55 (by decide) (by decide)) (f29 48 (by decide)).2 vo29) (by exact hb 55 (by decide) (by decide)) (by omega) (by omega)) ?_
    intro x39 M39 J39 z39 f39 q39
    obtain ⟨ti39, ah39, am39, au39, af39, xs39⟩ := q39
    refine Z_rg 31 8 rfl (fun gs8 gs8b => ?_)
    refine Z_callVi (n := 45) [_, _, _] _ dX4_restrict_42 rfl cwX4_219 rfl rfl rfl (Nat.le_of_ble_eq_true rfl) (by refine ⟨?_, ?_, ?_, ?_⟩ <;> exact Nat.le_of_ble_eq_true rfl) (fun a h => by unfold kRg at h; unfold kTk; omega) (zX4_gets  (by omega) (by omega) (by omega) (by omega) (by omega) (by exact ti39) (by exact fun q => ⟨ah39, by omega⟩) (by omega)) ?_
    intro x42 M42 J42 z42 f42 q42
    obtain ⟨ti42, hn42, am42, gx42⟩ := q42
    refine Z_fr (fun frR => ?_)
    refine Z_iret dX4_restrict_45 rfl ?_
    exact ⟨RI_gets hr ok0 (hdl_t db (hdl_a af39 (by decide))) (fun q => by omega) frR ti42 hn42 gx42, by omega⟩
  · refine Z_aload_n (n := 11) dX4_restrict_10 rfl rfl ?_
    refine Z_iload_n (n := 12) dX4_restrict_11 rfl rfl ?_
    refine Z_iload_n (n := 13) dX4_restrict_12 rfl rfl ?_
    refine Z_iload_n (n := 14) dX4_restrict_13 rfl rfl ?_
    refine Z_callVi (n := 17) [_, _, _] _ dX4_restrict_14 rfl cwX4_226 rfl rfl rfl (Nat.le_of_ble_eq_true rfl) (by refine ⟨?_, ?_, ?_, ?_⟩ <;> exact Nat.le_of_ble_eq_true rfl) (fun _ _ => trivial) (zX4_noHalf  ) ?_
    intro x14 M14 J14 z14 f14 q14
    obtain ⟨e14_1, e14_2, h14⟩ := q14
    replace e14_1 := e14_1.symm; subst e14_1
    replace e14_2 := e14_2.symm; subst e14_2
    refine Z_iret dX4_restrict_17 rfl ?_
    exact ⟨hr, by omega⟩
set_option maxRecDepth 20000 in
theorem zX4_halves {G : tl_G} {M : zM} {J : zJ} {f v : Int} (f0 : 0 ≤ f) (f1 : f < 12) (v0 : 0 ≤ v) (v1 : v < 8) (hr : RI M J) (hk : M 31 27 ≤ 2000000000) : ZN G yX4_halves mX4_halves 4 kRg [vR 31, vI f, vI v] F1 M J (qI (fun x M' J' => TI M' J' ∧ hdl M M' ∧ M' 31 27 ≤ M 31 27 + 2 ∧ M' 43 55 = 0 ∧ ((x = 1 ∧ M' 31 24 ≤ M' 31 8) ∨ x = 0))) := by
  refine ZN_of (L := [_, _, _]) (by decide) rfl rfl (Nat.le_of_ble_eq_true rfl) rfl (fun hav => ?_)
  refine Z_aload_n (n := 1) dX4_halves_0 rfl rfl ?_
  refine Z_callVv (n := 4) [] _ dX4_halves_1 rfl cwX4_213 rfl rfl rfl (Nat.le_of_ble_eq_true rfl) (by refine ⟨?_, ?_, ?_, ?_⟩ <;> exact Nat.le_of_ble_eq_true rfl) (fun _ h => h) (zX4_begin  (by decide)) ?_
  intro M1 J1 f1 q1
  obtain ⟨e1_1, e1_2⟩ := q1
  replace e1_1 := e1_1.symm; subst e1_1
  replace e1_2 := e1_2.symm; subst e1_2
  obtain ⟨tb, hb, ub, mb, db, ob⟩ := begin_ok hr
  refine Z_nm (fun M1 e1 => ?_)
  rw [← e1] at tb hb ub mb db ob
  clear e1
  refine Z_rg 31 8 rfl (fun gb8 gb8b => ?_)
  refine Z_aload_n (n := 5) dX4_halves_4 rfl rfl ?_
  refine Z_bipush (n := 7) dX4_halves_5 rfl (by decide) (by decide) ?_
  refine Z_iload_n (n := 8) dX4_halves_7 rfl rfl ?_
  refine Z_iload_n (n := 9) dX4_halves_8 rfl rfl ?_
  refine Z_iconst (n := 10) dX4_halves_9 rfl (by decide) ?_
  refine Z_callVv (n := 13) [_, _, _, _] _ dX4_halves_10 rfl cwX4_230 rfl rfl rfl (Nat.le_of_ble_eq_true rfl) (by refine ⟨?_, ?_, ?_, ?_⟩ <;> exact Nat.le_of_ble_eq_true rfl) (fun a h => by unfold kRg at h; unfold kBits; omega) (zX4_makeHalf  (by omega) (by omega) (by omega) (by omega) (by omega) (by omega) (by exact ob)) ?_
  intro M10 J10 f10 q10
  obtain ⟨e10_1, vo10⟩ := q10
  replace e10_1 := e10_1.symm; subst e10_1
  refine Z_aload_n (n := 14) dX4_halves_13 rfl rfl ?_
  refine Z_bipush (n := 16) dX4_halves_14 rfl (by decide) (by decide) ?_
  refine Z_callVi (n := 19) [_] _ dX4_halves_16 rfl cwX4_207 rfl rfl rfl (Nat.le_of_ble_eq_true rfl) (by refine ⟨?_, ?_, ?_, ?_⟩ <;> exact Nat.le_of_ble_eq_true rfl) (fun a h => by unfold kRg at h; unfold kAd; omega) (zX4_steps  (by omega) (by omega) (by exact TI_bits tb (hb 53 (by decide) (by decide)) (f10 48 (by decide)).2 vo10) (by exact hb 53 (by decide) (by decide)) (by omega) (by omega)) ?_
  intro x16 M16 J16 z16 f16 q16
  obtain ⟨ti16, ah16, am16, au16, af16, xs16⟩ := q16
  have ob16 : rOrd M16 := by unfold rOrd; rw [(f16 39 (by decide)).1]; exact ob
  have h54 : M16 43 54 = 0 := ((af16.1 54 (by decide)).2).trans (hb 54 (by decide) (by decide))
  have h55 : M16 43 55 = 0 := ((af16.1 55 (by decide)).2).trans (hb 55 (by decide) (by decide))
  have hd16 : hdl M M16 := hdl_t db (hdl_a af16 (by decide))
  refine Z_rg 31 8 rfl (fun gs8 gs8b => ?_)
  refine Z_if_ne (n := 22) (t := 24) dX4_halves_19 rfl (by decide) (fun c19 => ?_) (fun c19 => ?_)
  · refine Z_aload_n (n := 25) dX4_halves_24 rfl rfl ?_
    refine Z_bipush (n := 27) dX4_halves_25 rfl (by decide) (by decide) ?_
    refine Z_iload_n (n := 28) dX4_halves_27 rfl rfl ?_
    refine Z_iload_n (n := 29) dX4_halves_28 rfl rfl ?_
    refine Z_iconst (n := 30) dX4_halves_29 rfl (by decide) ?_
    refine Z_callVv (n := 33) [_, _, _, _] _ dX4_halves_30 rfl cwX4_230 rfl rfl rfl (Nat.le_of_ble_eq_true rfl) (by refine ⟨?_, ?_, ?_, ?_⟩ <;> exact Nat.le_of_ble_eq_true rfl) (fun a h => by unfold kRg at h; unfold kBits; omega) (zX4_makeHalf  (by omega) (by omega) (by omega) (by omega) (by omega) (by omega) (by exact ob16)) ?_
    intro M30 J30 f30 q30
    obtain ⟨e30_1, vo30⟩ := q30
    replace e30_1 := e30_1.symm; subst e30_1
    refine Z_aload_n (n := 34) dX4_halves_33 rfl rfl ?_
    refine Z_bipush (n := 36) dX4_halves_34 rfl (by decide) (by decide) ?_
    refine Z_callVi (n := 39) [_] _ dX4_halves_36 rfl cwX4_207 rfl rfl rfl (Nat.le_of_ble_eq_true rfl) (by refine ⟨?_, ?_, ?_, ?_⟩ <;> exact Nat.le_of_ble_eq_true rfl) (fun a h => by unfold kRg at h; unfold kAd; omega) (zX4_steps  (by omega) (by omega) (by exact TI_bits ti16 h54 (f30 48 (by decide)).2 vo30) (by exact h54) (by omega) (by omega)) ?_
    intro x36 M36 J36 z36 f36 q36
    obtain ⟨ti36, ah36, am36, au36, af36, xs36⟩ := q36
    refine Z_zret dX4_halves_39 rfl (by omega) (by omega) ?_
    exact ⟨ti36, hdl_t hd16 (hdl_a af36 (by decide)), by omega, ((af36.1 55 (by decide)).2).trans h55, by omega⟩
  · refine Z_iconst (n := 23) dX4_halves_22 rfl (by decide) ?_
    refine Z_zret dX4_halves_23 rfl (by omega) (by omega) ?_
    exact ⟨ti16, hd16, by omega, h55, Or.inr rfl⟩
set_option maxRecDepth 20000 in
theorem zX4_quantify_s {G : tl_G} {M : zM} {J : zJ} {h f v y : Int} (hr : RI M J) (hk : M 31 27 ≤ 2000000000) : ZN G yX4_quantify mX4_quantify 5 kRg [vR 31, vI h, vI f, vI v, vI y] F1 M J (qI (fun x M' J' => RI M' J' ∧ M' 31 27 ≤ M 31 27 + 400)) := by
  refine ZN_of (L := [_, _, _, _, _, _]) (by decide) rfl rfl (Nat.le_of_ble_eq_true rfl) rfl (fun hav => ?_)
  refine Z_ok (fun ok0 => ?_)
  refine Z_aload_n (n := 1) dX4_quantify_0 rfl rfl ?_
  refine Z_iload_n (n := 2) dX4_quantify_1 rfl rfl ?_
  refine Z_iload_n (n := 3) dX4_quantify_2 rfl rfl ?_
  refine Z_iload_n (n := 4) dX4_quantify_3 rfl rfl ?_
  refine Z_callVi (n := 7) [_, _, _] _ dX4_quantify_4 rfl cwX4_226 rfl rfl rfl (Nat.le_of_ble_eq_true rfl) (by refine ⟨?_, ?_, ?_, ?_⟩ <;> exact Nat.le_of_ble_eq_true rfl) (fun _ _ => trivial) (zX4_noHalf  ) ?_
  intro x4 M4 J4 z4 f4 q4
  obtain ⟨e4_1, e4_2, h4⟩ := q4
  replace e4_1 := e4_1.symm; subst e4_1
  replace e4_2 := e4_2.symm; subst e4_2
  refine Z_if_ge (n := 10) (t := 18) dX4_quantify_7 rfl (by decide) (fun c7 => ?_) (fun c7 => ?_)
  · have ct59 : ∀ (w : Int) (M59 : zM) (J59 : zJ), (TI M59 J59) → (hdl M M59) → (M59 31 27 ≤ M 31 27 + 3) → (w = 0 ∨ w = 1) → (w = 1 → ¬ M59 43 55 = 0 ∧ M59 31 24 ≤ M59 31 8) → TZ G mX4_quantify (tl_rm 5 0 0) 0 0 kRg M J 59 [some (vR 31), some (vI h), some (vI f), some (vI v), some (vI y), some (vI w)] [] F1 M59 J59 (ZM G (zPost G kRg F1 M J (qI (fun x M' J' => RI M' J' ∧ M' 31 27 ≤ M 31 27 + 400))) 0 0) := by
      intro w M59 J59 i59_0 i59_1 i59_2 i59_3 i59_4
      refine Z_aload_n (n := 60) dX4_quantify_59 rfl rfl ?_
      refine Z_iload_n (n := 61) dX4_quantify_60 rfl rfl ?_
      refine Z_bipush (n := 63) dX4_quantify_61 rfl (by decide) (by decide) ?_
      refine Z_iload (n := 65) dX4_quantify_63 rfl rfl ?_
      refine Z_rg 31 8 rfl (fun gs8 gs8b => ?_)
      have i_u : w = 1 → M59 31 24 ≤ M59 31 8 := fun q => (i59_4 q).2
      refine Z_callVi (n := 68) [_, _, _] _ dX4_quantify_65 rfl cwX4_219 rfl rfl rfl (Nat.le_of_ble_eq_true rfl) (by refine ⟨?_, ?_, ?_, ?_⟩ <;> exact Nat.le_of_ble_eq_true rfl) (fun a h => by unfold kRg at h; unfold kTk; omega) (zX4_gets  (by omega) (by omega) (by omega) (by omega) (by omega) (by exact i59_0) (by exact fun q => ⟨(i59_4 q).1, by omega⟩) (by omega)) ?_
      intro x65 M65 J65 z65 f65 q65
      obtain ⟨ti65, hn65, am65, gx65⟩ := q65
      refine Z_fr (fun frR => ?_)
      refine Z_iret dX4_quantify_68 rfl ?_
      exact ⟨RI_gets hr ok0 i59_1 (fun q => (i59_4 q).2) frR ti65 hn65 gx65, by omega⟩
    refine Z_aload_n (n := 19) dX4_quantify_18 rfl rfl ?_
    refine Z_iload_n (n := 20) dX4_quantify_19 rfl rfl ?_
    refine Z_iload_n (n := 21) dX4_quantify_20 rfl rfl ?_
    refine Z_callVi (n := 24) [_, _] _ dX4_quantify_21 rfl cwX4_234 rfl rfl rfl (Nat.le_of_ble_eq_true rfl) (by refine ⟨?_, ?_, ?_, ?_⟩ <;> exact Nat.le_of_ble_eq_true rfl) (fun _ h => h) (zX4_halves  (by omega) (by omega) (by omega) (by omega) (by exact hr) (by omega)) ?_
    intro x21 M21 J21 z21 f21 q21
    obtain ⟨ti21, hd21, mk21, h5521, hx21⟩ := q21
    refine Z_rg 31 8 rfl (fun gh8 gh8b => ?_)
    refine Z_istore (L' := [_, _, _, _, _, _]) (n := 26) dX4_quantify_24 rfl (by decide) rfl rfl ?_
    refine Z_iload (n := 28) dX4_quantify_26 rfl rfl ?_
    refine Z_if_eq (n := 31) (t := 59) dX4_quantify_28 rfl (by decide) (fun c28 => ?_) (fun c28 => ?_)
    · have q0 := ti21
      have q1 := hd21
      have q4 : x21 = 1 → ¬ M21 43 55 = 0 ∧ M21 31 24 ≤ M21 31 8 := fun q => by omega
      refine Z_loc (L' := [some _, some _, some _, some _, some _, some _]) (lsub_same (lsub_same (lsub_same (lsub_same (lsub_same (lsub_same lsub_nil)))))) ?_
      exact ct59 _ _ _ (by first | exact q0) (by exact q1) (by omega) (by omega) (by exact q4)
    · refine Z_aload_n (n := 32) dX4_quantify_31 rfl rfl ?_
      refine Z_bipush (n := 34) dX4_quantify_32 rfl (by decide) (by decide) ?_
      refine Z_iload (n := 36) dX4_quantify_34 rfl rfl ?_
      refine Z_if_eq (n := 39) (t := 43) dX4_quantify_36 rfl (by decide) (fun c36 => ?_) (fun c36 => ?_)
      · refine Z_iconst (n := 44) dX4_quantify_43 rfl (by decide) ?_
        refine Z_bipush (n := 46) dX4_quantify_44 rfl (by decide) (by decide) ?_
        refine Z_bipush (n := 48) dX4_quantify_46 rfl (by decide) (by decide) ?_
        refine Z_callVv (n := 51) [_, _, _, _] _ dX4_quantify_48 rfl cwX4_204 rfl rfl rfl (Nat.le_of_ble_eq_true rfl) (by refine ⟨?_, ?_, ?_, ?_⟩ <;> exact Nat.le_of_ble_eq_true rfl) (fun a h => by unfold kRg at h; unfold kBits; omega) (zX4_makeOf  (by omega) (by omega) (by omega) (by omega) (by omega) (by omega)) ?_
        intro M48 J48 f48 q48
        obtain ⟨e48_1, mo48, mb48, vo48⟩ := q48
        replace e48_1 := e48_1.symm; subst e48_1
        refine Z_aload_n (n := 52) dX4_quantify_51 rfl rfl ?_
        refine Z_bipush (n := 54) dX4_quantify_52 rfl (by decide) (by decide) ?_
        refine Z_callVi (n := 57) [_] _ dX4_quantify_54 rfl cwX4_207 rfl rfl rfl (Nat.le_of_ble_eq_true rfl) (by refine ⟨?_, ?_, ?_, ?_⟩ <;> exact Nat.le_of_ble_eq_true rfl) (fun a h => by unfold kRg at h; unfold kAd; omega) (zX4_steps  (by omega) (by omega) (by exact TI_bits ti21 h5521 (f48 48 (by decide)).2 vo48) (by exact h5521) (by omega) (by omega)) ?_
        intro x54 M54 J54 z54 f54 q54
        obtain ⟨ti54, ah54, am54, au54, af54, xs54⟩ := q54
        have q0 := ti54
        have q1 : hdl M M54 := hdl_t hd21 (hdl_a af54 (by decide))
        have q4 : x54 = 1 → ¬ M54 43 55 = 0 ∧ M54 31 24 ≤ M54 31 8 := fun q => ⟨ah54, by omega⟩
        refine Z_istore (L' := [_, _, _, _, _, _]) (n := 59) dX4_quantify_57 rfl (by decide) rfl rfl ?_
        refine Z_loc (L' := [some _, some _, some _, some _, some _, some _]) (lsub_same (lsub_same (lsub_same (lsub_same (lsub_same (lsub_same lsub_nil)))))) ?_
        exact ct59 _ _ _ (by first | exact q0) (by exact q1) (by omega) (by omega) (by exact q4)
      · refine Z_iconst (n := 40) dX4_quantify_39 rfl (by decide) ?_
        refine Z_goto (t := 44) dX4_quantify_40 (by decide) ?_
        refine Z_bipush (n := 46) dX4_quantify_44 rfl (by decide) (by decide) ?_
        refine Z_bipush (n := 48) dX4_quantify_46 rfl (by decide) (by decide) ?_
        refine Z_callVv (n := 51) [_, _, _, _] _ dX4_quantify_48 rfl cwX4_204 rfl rfl rfl (Nat.le_of_ble_eq_true rfl) (by refine ⟨?_, ?_, ?_, ?_⟩ <;> exact Nat.le_of_ble_eq_true rfl) (fun a h => by unfold kRg at h; unfold kBits; omega) (zX4_makeOf  (by omega) (by omega) (by omega) (by omega) (by omega) (by omega)) ?_
        intro M48 J48 f48 q48
        obtain ⟨e48_1, mo48, mb48, vo48⟩ := q48
        replace e48_1 := e48_1.symm; subst e48_1
        refine Z_aload_n (n := 52) dX4_quantify_51 rfl rfl ?_
        refine Z_bipush (n := 54) dX4_quantify_52 rfl (by decide) (by decide) ?_
        refine Z_callVi (n := 57) [_] _ dX4_quantify_54 rfl cwX4_207 rfl rfl rfl (Nat.le_of_ble_eq_true rfl) (by refine ⟨?_, ?_, ?_, ?_⟩ <;> exact Nat.le_of_ble_eq_true rfl) (fun a h => by unfold kRg at h; unfold kAd; omega) (zX4_steps  (by omega) (by omega) (by exact TI_bits ti21 h5521 (f48 48 (by decide)).2 vo48) (by exact h5521) (by omega) (by omega)) ?_
        intro x54 M54 J54 z54 f54 q54
        obtain ⟨ti54, ah54, am54, au54, af54, xs54⟩ := q54
        have q0 := ti54
        have q1 : hdl M M54 := hdl_t hd21 (hdl_a af54 (by decide))
        have q4 : x54 = 1 → ¬ M54 43 55 = 0 ∧ M54 31 24 ≤ M54 31 8 := fun q => ⟨ah54, by omega⟩
        refine Z_istore (L' := [_, _, _, _, _, _]) (n := 59) dX4_quantify_57 rfl (by decide) rfl rfl ?_
        refine Z_loc (L' := [some _, some _, some _, some _, some _, some _]) (lsub_same (lsub_same (lsub_same (lsub_same (lsub_same (lsub_same lsub_nil)))))) ?_
        exact ct59 _ _ _ (by first | exact q0) (by exact q1) (by omega) (by omega) (by exact q4)
  · refine Z_aload_n (n := 11) dX4_quantify_10 rfl rfl ?_
    refine Z_iload_n (n := 12) dX4_quantify_11 rfl rfl ?_
    refine Z_iload_n (n := 13) dX4_quantify_12 rfl rfl ?_
    refine Z_iload_n (n := 14) dX4_quantify_13 rfl rfl ?_
    refine Z_callVi (n := 17) [_, _, _] _ dX4_quantify_14 rfl cwX4_226 rfl rfl rfl (Nat.le_of_ble_eq_true rfl) (by refine ⟨?_, ?_, ?_, ?_⟩ <;> exact Nat.le_of_ble_eq_true rfl) (fun _ _ => trivial) (zX4_noHalf  ) ?_
    intro x14 M14 J14 z14 f14 q14
    obtain ⟨e14_1, e14_2, h14⟩ := q14
    replace e14_1 := e14_1.symm; subst e14_1
    replace e14_2 := e14_2.symm; subst e14_2
    refine Z_iret dX4_quantify_17 rfl ?_
    exact ⟨hr, by omega⟩
set_option maxRecDepth 20000 in
theorem zX4_compose_s {G : tl_G} {M : zM} {J : zJ} {h f v g : Int} (hr : RI M J) (hk : M 31 27 ≤ 2000000000) : ZN G yX4_compose mX4_compose 5 kRg [vR 31, vI h, vI f, vI v, vI g] F1 M J (qI (fun x M' J' => RI M' J' ∧ M' 31 27 ≤ M 31 27 + 400)) := by
  refine ZN_of (L := [_, _, _, _, _, _]) (by decide) rfl rfl (Nat.le_of_ble_eq_true rfl) rfl (fun hav => ?_)
  refine Z_ok (fun ok0 => ?_)
  refine Z_aload_n (n := 1) dX4_compose_0 rfl rfl ?_
  refine Z_iload_n (n := 2) dX4_compose_1 rfl rfl ?_
  refine Z_iload_n (n := 3) dX4_compose_2 rfl rfl ?_
  refine Z_iload_n (n := 4) dX4_compose_3 rfl rfl ?_
  refine Z_callVi (n := 7) [_, _, _] _ dX4_compose_4 rfl cwX4_226 rfl rfl rfl (Nat.le_of_ble_eq_true rfl) (by refine ⟨?_, ?_, ?_, ?_⟩ <;> exact Nat.le_of_ble_eq_true rfl) (fun _ _ => trivial) (zX4_noHalf  ) ?_
  intro x4 M4 J4 z4 f4 q4
  obtain ⟨e4_1, e4_2, h4⟩ := q4
  replace e4_1 := e4_1.symm; subst e4_1
  replace e4_2 := e4_2.symm; subst e4_2
  refine Z_iconst (n := 8) dX4_compose_7 rfl (by decide) ?_
  refine Z_icmp_eq (n := 11) (t := 20) dX4_compose_8 rfl (by decide) (fun c8 => ?_) (fun c8 => ?_)
  · refine Z_iconst (n := 21) dX4_compose_20 rfl (by decide) ?_
    refine Z_iret dX4_compose_21 rfl ?_
    exact ⟨hr, by omega⟩
  · refine Z_aload_n (n := 12) dX4_compose_11 rfl rfl ?_
    refine Z_iload (n := 14) dX4_compose_12 rfl rfl ?_
    refine Z_callVi (n := 17) [_] _ dX4_compose_14 rfl cwX4_223 rfl rfl rfl (Nat.le_of_ble_eq_true rfl) (by refine ⟨?_, ?_, ?_, ?_⟩ <;> exact Nat.le_of_ble_eq_true rfl) (fun _ _ => trivial) (zX4_isFunction  ) ?_
    intro x14 M14 J14 z14 f14 q14
    obtain ⟨e14_1, e14_2, h14⟩ := q14
    replace e14_1 := e14_1.symm; subst e14_1
    replace e14_2 := e14_2.symm; subst e14_2
    refine Z_if_ne (n := 20) (t := 22) dX4_compose_17 rfl (by decide) (fun c17 => ?_) (fun c17 => ?_)
    · refine Z_iload_n (n := 23) dX4_compose_22 rfl rfl ?_
      refine Z_iconst (n := 24) dX4_compose_23 rfl (by decide) ?_
      refine Z_bipush (n := 26) dX4_compose_24 rfl (by decide) (by decide) ?_
      refine Z_callSi (n := 29) [_, _, _] _ dX4_compose_26 rfl cwX4_112 rfl rfl (Nat.le_of_ble_eq_true rfl) (by refine ⟨?_, ?_, ?_, ?_⟩ <;> exact Nat.le_of_ble_eq_true rfl) (fun _ _ => trivial) (zX4_in  ) ?_
      intro x26 M26 J26 z26 f26 q26
      obtain ⟨e26_1, e26_2, h26⟩ := q26
      replace e26_1 := e26_1.symm; subst e26_1
      replace e26_2 := e26_2.symm; subst e26_2
      refine Z_if_ne (n := 32) (t := 35) dX4_compose_29 rfl (by decide) (fun c29 => ?_) (fun c29 => ?_)
      · have ct68 : ∀ (w : Int) (M68 : zM) (J68 : zJ), (TI M68 J68) → (hdl M M68) → (M68 31 27 ≤ M 31 27 + 3) → (w = 0 ∨ w = 1) → (w = 1 → ¬ M68 43 55 = 0 ∧ M68 31 24 ≤ M68 31 8) → TZ G mX4_compose (tl_rm 5 0 0) 0 0 kRg M J 68 [some (vR 31), some (vI h), some (vI f), some (vI v), some (vI g), some (vI w)] [] F1 M68 J68 (ZM G (zPost G kRg F1 M J (qI (fun x M' J' => RI M' J' ∧ M' 31 27 ≤ M 31 27 + 400))) 0 0) := by
          intro w M68 J68 i68_0 i68_1 i68_2 i68_3 i68_4
          refine Z_aload_n (n := 69) dX4_compose_68 rfl rfl ?_
          refine Z_iload_n (n := 70) dX4_compose_69 rfl rfl ?_
          refine Z_bipush (n := 72) dX4_compose_70 rfl (by decide) (by decide) ?_
          refine Z_iload (n := 74) dX4_compose_72 rfl rfl ?_
          refine Z_rg 31 8 rfl (fun gs8 gs8b => ?_)
          have i_u : w = 1 → M68 31 24 ≤ M68 31 8 := fun q => (i68_4 q).2
          refine Z_callVi (n := 77) [_, _, _] _ dX4_compose_74 rfl cwX4_219 rfl rfl rfl (Nat.le_of_ble_eq_true rfl) (by refine ⟨?_, ?_, ?_, ?_⟩ <;> exact Nat.le_of_ble_eq_true rfl) (fun a h => by unfold kRg at h; unfold kTk; omega) (zX4_gets  (by omega) (by omega) (by omega) (by omega) (by omega) (by exact i68_0) (by exact fun q => ⟨(i68_4 q).1, by omega⟩) (by omega)) ?_
          intro x74 M74 J74 z74 f74 q74
          obtain ⟨ti74, hn74, am74, gx74⟩ := q74
          refine Z_fr (fun frR => ?_)
          refine Z_iret dX4_compose_77 rfl ?_
          exact ⟨RI_gets hr ok0 i68_1 (fun q => (i68_4 q).2) frR ti74 hn74 gx74, by omega⟩
        refine Z_aload_n (n := 36) dX4_compose_35 rfl rfl ?_
        refine Z_iload_n (n := 37) dX4_compose_36 rfl rfl ?_
        refine Z_iload_n (n := 38) dX4_compose_37 rfl rfl ?_
        refine Z_callVi (n := 41) [_, _] _ dX4_compose_38 rfl cwX4_234 rfl rfl rfl (Nat.le_of_ble_eq_true rfl) (by refine ⟨?_, ?_, ?_, ?_⟩ <;> exact Nat.le_of_ble_eq_true rfl) (fun _ h => h) (zX4_halves  (by omega) (by omega) (by omega) (by omega) (by exact hr) (by omega)) ?_
        intro x38 M38 J38 z38 f38 q38
        obtain ⟨ti38, hd38, mk38, h5538, hx38⟩ := q38
        refine Z_rg 31 8 rfl (fun gh8 gh8b => ?_)
        refine Z_istore (L' := [_, _, _, _, _, _]) (n := 43) dX4_compose_41 rfl (by decide) rfl rfl ?_
        refine Z_iload (n := 45) dX4_compose_43 rfl rfl ?_
        refine Z_if_eq (n := 48) (t := 68) dX4_compose_45 rfl (by decide) (fun c45 => ?_) (fun c45 => ?_)
        · have q0 := ti38
          have q1 := hd38
          have q4 : x38 = 1 → ¬ M38 43 55 = 0 ∧ M38 31 24 ≤ M38 31 8 := fun q => by omega
          refine Z_loc (L' := [some _, some _, some _, some _, some _, some _]) (lsub_same (lsub_same (lsub_same (lsub_same (lsub_same (lsub_same lsub_nil)))))) ?_
          exact ct68 _ _ _ (by first | exact q0) (by exact q1) (by omega) (by omega) (by exact q4)
        · refine Z_aload_n (n := 49) dX4_compose_48 rfl rfl ?_
          refine Z_bipush (n := 51) dX4_compose_49 rfl (by decide) (by decide) ?_
          refine Z_iload (n := 53) dX4_compose_51 rfl rfl ?_
          refine Z_bipush (n := 55) dX4_compose_53 rfl (by decide) (by decide) ?_
          refine Z_bipush (n := 57) dX4_compose_55 rfl (by decide) (by decide) ?_
          refine Z_callVv (n := 60) [_, _, _, _] _ dX4_compose_57 rfl cwX4_200 rfl rfl rfl (Nat.le_of_ble_eq_true rfl) (by refine ⟨?_, ?_, ?_, ?_⟩ <;> exact Nat.le_of_ble_eq_true rfl) (fun a h => by unfold kRg at h; unfold kBits; omega) (zX4_makeChoice  (by omega) (by omega) (by omega) (by omega) (by omega) (by omega) (by omega) (by omega)) ?_
          intro M57 J57 f57 q57
          obtain ⟨e57_1, vb57, vo57⟩ := q57
          replace e57_1 := e57_1.symm; subst e57_1
          refine Z_aload_n (n := 61) dX4_compose_60 rfl rfl ?_
          refine Z_bipush (n := 63) dX4_compose_61 rfl (by decide) (by decide) ?_
          refine Z_callVi (n := 66) [_] _ dX4_compose_63 rfl cwX4_207 rfl rfl rfl (Nat.le_of_ble_eq_true rfl) (by refine ⟨?_, ?_, ?_, ?_⟩ <;> exact Nat.le_of_ble_eq_true rfl) (fun a h => by unfold kRg at h; unfold kAd; omega) (zX4_steps  (by omega) (by omega) (by exact TI_bits ti38 h5538 (f57 48 (by decide)).2 vo57) (by exact h5538) (by omega) (by omega)) ?_
          intro x63 M63 J63 z63 f63 q63
          obtain ⟨ti63, ah63, am63, au63, af63, xs63⟩ := q63
          have q0 := ti63
          have q1 : hdl M M63 := hdl_t hd38 (hdl_a af63 (by decide))
          have q4 : x63 = 1 → ¬ M63 43 55 = 0 ∧ M63 31 24 ≤ M63 31 8 := fun q => ⟨ah63, by omega⟩
          refine Z_istore (L' := [_, _, _, _, _, _]) (n := 68) dX4_compose_66 rfl (by decide) rfl rfl ?_
          refine Z_loc (L' := [some _, some _, some _, some _, some _, some _]) (lsub_same (lsub_same (lsub_same (lsub_same (lsub_same (lsub_same lsub_nil)))))) ?_
          exact ct68 _ _ _ (by first | exact q0) (by exact q1) (by omega) (by omega) (by exact q4)
      · refine Z_bipush (n := 34) dX4_compose_32 rfl (by decide) (by decide) ?_
        refine Z_iret dX4_compose_34 rfl ?_
        exact ⟨hr, by omega⟩
    · refine Z_iconst (n := 21) dX4_compose_20 rfl (by decide) ?_
      refine Z_iret dX4_compose_21 rfl ?_
      exact ⟨hr, by omega⟩
set_option maxRecDepth 20000 in
theorem zX4_build_s {G : tl_G} {M : zM} {J : zJ} {h net o : Int} (hr : RI M J) (hk : M 31 27 ≤ 2000000000) : ZN G yX4_build mX4_build 6 kRg [vR 31, vI h, vI net, vI o] F1 M J (qI (fun x M' J' => RI M' J' ∧ M' 31 27 ≤ M 31 27 + 400)) := by
  refine ZN_of (L := [_, _, _, _, _]) (by decide) rfl rfl (Nat.le_of_ble_eq_true rfl) rfl (fun hav => ?_)
  refine Z_ok (fun ok0 => ?_)
  refine Z_rg 33 net rfl (fun g33 g33b => ?_)
  refine Z_iload_n (n := 1) dX4_build_0 rfl rfl ?_
  refine Z_callSi (n := 4) [_] _ dX4_build_1 rfl cwX4_210 rfl rfl (Nat.le_of_ble_eq_true rfl) (by refine ⟨?_, ?_, ?_, ?_⟩ <;> exact Nat.le_of_ble_eq_true rfl) (fun _ _ => trivial) (zX4_isHandle  ) ?_
  intro x1 M1 J1 z1 f1 q1
  obtain ⟨e1_1, e1_2, h1⟩ := q1
  replace e1_1 := e1_1.symm; subst e1_1
  replace e1_2 := e1_2.symm; subst e1_2
  refine Z_if_eq (n := 7) (t := 16) dX4_build_4 rfl (by decide) (fun c4 => ?_) (fun c4 => ?_)
  · refine Z_iconst (n := 17) dX4_build_16 rfl (by decide) ?_
    refine Z_iret dX4_build_17 rfl ?_
    exact ⟨hr, by omega⟩
  · refine Z_aload_n (n := 8) dX4_build_7 rfl rfl ?_
    refine Z_iload_n (n := 9) dX4_build_8 rfl rfl ?_
    refine Z_iload_n (n := 10) dX4_build_9 rfl rfl ?_
    refine Z_callVi (n := 13) [_, _] _ dX4_build_10 rfl cwX4_128 rfl rfl rfl (Nat.le_of_ble_eq_true rfl) (by refine ⟨?_, ?_, ?_, ?_⟩ <;> exact Nat.le_of_ble_eq_true rfl) (fun _ _ => trivial) (zX4_isOutput  ) ?_
    intro x10 M10 J10 z10 f10 q10
    obtain ⟨e10_1, e10_2, h10⟩ := q10
    replace e10_1 := e10_1.symm; subst e10_1
    replace e10_2 := e10_2.symm; subst e10_2
    refine Z_if_ne (n := 16) (t := 18) dX4_build_13 rfl (by decide) (fun c13 => ?_) (fun c13 => ?_)
    · refine Z_aload_n (n := 19) dX4_build_18 rfl rfl ?_
      refine Z_callVv (n := 22) [] _ dX4_build_19 rfl cwX4_213 rfl rfl rfl (Nat.le_of_ble_eq_true rfl) (by refine ⟨?_, ?_, ?_, ?_⟩ <;> exact Nat.le_of_ble_eq_true rfl) (fun _ h => h) (zX4_begin  (by decide)) ?_
      intro M19 J19 f19 q19
      obtain ⟨e19_1, e19_2⟩ := q19
      replace e19_1 := e19_1.symm; subst e19_1
      replace e19_2 := e19_2.symm; subst e19_2
      obtain ⟨tb, hb, ub, mb, db, ob⟩ := begin_ok hr
      refine Z_nm (fun M19 e19 => ?_)
      rw [← e19] at tb hb ub mb db ob
      clear e19
      refine Z_rg 31 8 rfl (fun gb8 gb8b => ?_)
      refine Z_fr (fun frB => ?_)
      refine Z_aload_n (n := 23) dX4_build_22 rfl rfl ?_
      refine Z_getA (n := 26) dX4_build_23 rfl ffX4_22 rfl rfl ?_
      refine Z_iconst (n := 27) dX4_build_26 rfl (by decide) ?_
      refine Z_iload_n (n := 28) dX4_build_27 rfl rfl ?_
      refine Z_imul (n := 29) dX4_build_28 rfl (by omega) ?_
      refine Z_iload_n (n := 30) dX4_build_29 rfl rfl ?_
      refine Z_iadd (n := 31) dX4_build_30 rfl (by omega) ?_
      refine Z_iald (n := 32) dX4_build_31 rfl rfl rfl (by first | decide | assumption) (by omega) (by omega) (fun r31 s31 => ?_)
      refine Z_istore (L' := [_, _, _, _, _]) (n := 34) dX4_build_32 rfl (by decide) rfl rfl ?_
      refine Z_aload_n (n := 35) dX4_build_34 rfl rfl ?_
      refine Z_iload_n (n := 36) dX4_build_35 rfl rfl ?_
      refine Z_bipush (n := 38) dX4_build_36 rfl (by decide) (by decide) ?_
      refine Z_iload (n := 40) dX4_build_38 rfl rfl ?_
      refine Z_iadd (n := 41) dX4_build_40 rfl (by omega) ?_
      refine Z_aload_n (n := 42) dX4_build_41 rfl rfl ?_
      refine Z_iload_n (n := 43) dX4_build_42 rfl rfl ?_
      refine Z_iload (n := 45) dX4_build_43 rfl rfl ?_
      have hNb : rNt M19 net := rNt_fr (hr.2.2.2.2 net (by omega) (by omega)) (frB 32 (by decide)).1 (frB 33 (by decide)).1 (frB 34 (by decide)).1 (frB 35 (by decide)).1 (frB 36 (by decide)).1
      have e33 : M19 33 net = M 33 net := congrFun (frB 33 (by decide)).1 net
      have hg1 := hNb.2 o (by omega) (by omega)
      refine Z_rg 32 net rfl (fun g32 g32b => ?_)
      refine Z_callVi (n := 48) [_, _] _ dX4_build_45 rfl cwX4_216 rfl rfl rfl (Nat.le_of_ble_eq_true rfl) (by refine ⟨?_, ?_, ?_, ?_⟩ <;> exact Nat.le_of_ble_eq_true rfl) (fun _ h => h) (zX4_builds  (by omega) (by omega) (by omega) (by exact hg1) (by exact hNb) (by exact tb) (by exact fun y a b => hb (12 + y) (by omega) (by omega)) (by exact ub) (by omega)) ?_
      intro x45 M45 J45 z45 f45 q45
      obtain ⟨ti45, hd45, mk45, hi45, bi45, bx45⟩ := q45
      refine Z_rg 31 8 rfl (fun gs8 gs8b => ?_)
      have hq45 : x45 = 1 → ¬ M45 43 (12 + M19 36 (4 * net + o)) = 0 ∧ M45 31 24 ≤ 250 := fun q => by
        rcases bx45 with ⟨-, a, b, -⟩ | a
        · exact ⟨b, by omega⟩
        · omega
      have hy45 : x45 = 0 ∨ x45 = 1 := by
        rcases bx45 with ⟨a, -⟩ | a
        · exact Or.inr a
        · exact Or.inl a
      have hw45 : x45 = 1 → M45 31 24 ≤ M45 31 8 := fun q => by
        rcases bx45 with ⟨-, a, -⟩ | a
        · exact a
        · omega
      clear bx45
      refine Z_callVi (n := 51) [_, _, _] _ dX4_build_48 rfl cwX4_219 rfl rfl rfl (Nat.le_of_ble_eq_true rfl) (by refine ⟨?_, ?_, ?_, ?_⟩ <;> exact Nat.le_of_ble_eq_true rfl) (fun a h => by unfold kRg at h; unfold kTk; omega) (zX4_gets  (by omega) (by omega) (by omega) (by omega) (by omega) (by exact ti45) (by exact fun q => hq45 q) (by omega)) ?_
      intro x48 M48 J48 z48 f48 q48
      obtain ⟨ti48, hn48, am48, gx48⟩ := q48
      refine Z_fr (fun frR => ?_)
      refine Z_iret dX4_build_51 rfl ?_
      exact ⟨RI_gets hr ok0 (hdl_t db hd45) hw45 frR ti48 hn48 gx48, by omega⟩
    · refine Z_iconst (n := 17) dX4_build_16 rfl (by decide) ?_
      refine Z_iret dX4_build_17 rfl ?_
      exact ⟨hr, by omega⟩
set_option maxRecDepth 20000 in
theorem zX4_share_s {G : tl_G} {M : zM} {J : zJ} {h f : Int} (hr : RI M J) (hk : M 31 27 ≤ 2000000000) : ZN G yX4_share mX4_share 5 kRg [vR 31, vI h, vI f] F1 M J (qI (fun x M' J' => RI M' J' ∧ M' 31 27 ≤ M 31 27 + 400)) := by
  refine ZN_of (L := [_, _, _]) (by decide) rfl rfl (Nat.le_of_ble_eq_true rfl) rfl (fun hav => ?_)
  refine Z_iload_n (n := 1) dX4_share_0 rfl rfl ?_
  refine Z_callSi (n := 4) [_] _ dX4_share_1 rfl cwX4_210 rfl rfl (Nat.le_of_ble_eq_true rfl) (by refine ⟨?_, ?_, ?_, ?_⟩ <;> exact Nat.le_of_ble_eq_true rfl) (fun _ _ => trivial) (zX4_isHandle  ) ?_
  intro x1 M1 J1 z1 f1 q1
  obtain ⟨e1_1, e1_2, h1⟩ := q1
  replace e1_1 := e1_1.symm; subst e1_1
  replace e1_2 := e1_2.symm; subst e1_2
  refine Z_if_eq (n := 7) (t := 15) dX4_share_4 rfl (by decide) (fun c4 => ?_) (fun c4 => ?_)
  · refine Z_iconst (n := 16) dX4_share_15 rfl (by decide) ?_
    refine Z_iret dX4_share_16 rfl ?_
    exact ⟨hr, by omega⟩
  · refine Z_aload_n (n := 8) dX4_share_7 rfl rfl ?_
    refine Z_iload_n (n := 9) dX4_share_8 rfl rfl ?_
    refine Z_callVi (n := 12) [_] _ dX4_share_9 rfl cwX4_223 rfl rfl rfl (Nat.le_of_ble_eq_true rfl) (by refine ⟨?_, ?_, ?_, ?_⟩ <;> exact Nat.le_of_ble_eq_true rfl) (fun _ _ => trivial) (zX4_isFunction  ) ?_
    intro x9 M9 J9 z9 f9 q9
    obtain ⟨e9_1, e9_2, h9⟩ := q9
    replace e9_1 := e9_1.symm; subst e9_1
    replace e9_2 := e9_2.symm; subst e9_2
    refine Z_if_ne (n := 15) (t := 17) dX4_share_12 rfl (by decide) (fun c12 => ?_) (fun c12 => ?_)
    · refine Z_iload_n (n := 18) dX4_share_17 rfl rfl ?_
      refine Z_iload_n (n := 19) dX4_share_18 rfl rfl ?_
      refine Z_icmp_eq (n := 22) (t := 28) dX4_share_19 rfl (by decide) (fun c19 => ?_) (fun c19 => ?_)
      · have fin : RI M J ∧ M 31 27 ≤ M 31 27 + 400 := ⟨hr, by omega⟩
        refine Z_iconst (n := 29) dX4_share_28 rfl (by decide) ?_
        refine Z_iret dX4_share_29 rfl ?_
        exact fin
      · refine Z_aload_n (n := 23) dX4_share_22 rfl rfl ?_
        refine Z_iload_n (n := 24) dX4_share_23 rfl rfl ?_
        refine Z_iload_n (n := 25) dX4_share_24 rfl rfl ?_
        refine Z_rg 31 8 rfl (fun gs8 gs8b => ?_)
        have u0 := hr.2.2.1
        refine Z_callVv (n := 28) [_, _] _ dX4_share_25 rfl cwX4_182 rfl rfl rfl (Nat.le_of_ble_eq_true rfl) (by refine ⟨?_, ?_, ?_, ?_⟩ <;> exact Nat.le_of_ble_eq_true rfl) (fun a h => by unfold kRg at h; unfold kTk; omega) (zX4_take  (by omega) (by omega) (by omega) (by omega) (by omega) (by exact hr.1) (by omega) (by omega) (by omega)) ?_
        intro M25 J25 f25 q25
        obtain ⟨ti25, ah25, am25, au25, af25, b125, b225⟩ := q25
        refine Z_fr (fun frR => ?_)
        have fin : RI M25 J25 ∧ M25 31 27 ≤ M 31 27 + 400 := ⟨RI_mk hr frR ti25 (fun g a b => ((af25.1 g (by omega)).2).trans (hr.2.1 g a b)) (by rw [af25.2.2 8 (by decide) (by decide) (by decide) (by decide)]; omega), by omega⟩
        refine Z_iconst (n := 29) dX4_share_28 rfl (by decide) ?_
        refine Z_iret dX4_share_29 rfl ?_
        exact fin
    · refine Z_iconst (n := 16) dX4_share_15 rfl (by decide) ?_
      refine Z_iret dX4_share_16 rfl ?_
      exact ⟨hr, by omega⟩
set_option maxRecDepth 20000 in
theorem zX4_drop_s {G : tl_G} {M : zM} {J : zJ} {h : Int} (hr : RI M J) (hk : M 31 27 ≤ 2000000000) : ZN G yX4_drop mX4_drop 3 kRg [vR 31, vI h] F1 M J (qI (fun x M' J' => RI M' J' ∧ M' 31 27 ≤ M 31 27 + 400)) := by
  refine ZN_of (L := [_, _, _]) (by decide) rfl rfl (Nat.le_of_ble_eq_true rfl) rfl (fun hav => ?_)
  refine Z_iload_n (n := 1) dX4_drop_0 rfl rfl ?_
  refine Z_callSi (n := 4) [_] _ dX4_drop_1 rfl cwX4_210 rfl rfl (Nat.le_of_ble_eq_true rfl) (by refine ⟨?_, ?_, ?_, ?_⟩ <;> exact Nat.le_of_ble_eq_true rfl) (fun _ _ => trivial) (zX4_isHandle  ) ?_
  intro x1 M1 J1 z1 f1 q1
  obtain ⟨e1_1, e1_2, h1⟩ := q1
  replace e1_1 := e1_1.symm; subst e1_1
  replace e1_2 := e1_2.symm; subst e1_2
  refine Z_if_ne (n := 7) (t := 9) dX4_drop_4 rfl (by decide) (fun c4 => ?_) (fun c4 => ?_)
  · refine Z_aload_n (n := 10) dX4_drop_9 rfl rfl ?_
    refine Z_getA (n := 13) dX4_drop_10 rfl ffX4_44 rfl rfl ?_
    refine Z_iload_n (n := 14) dX4_drop_13 rfl rfl ?_
    refine Z_zald (n := 15) dX4_drop_14 rfl rfl rfl (by first | decide | assumption) (by omega) (by omega) (fun r14 s14 => ?_)
    refine Z_if_eq (n := 18) (t := 22) dX4_drop_15 rfl (by decide) (fun c15 => ?_) (fun c15 => ?_)
    · refine Z_iconst (n := 23) dX4_drop_22 rfl (by decide) ?_
      refine Z_istore_n (L' := [_, _, _]) (n := 24) dX4_drop_23 rfl (by decide) rfl rfl ?_
      refine Z_aload_n (n := 25) dX4_drop_24 rfl rfl ?_
      refine Z_iload_n (n := 26) dX4_drop_25 rfl rfl ?_
      refine Z_callVv (n := 29) [_] _ dX4_drop_26 rfl cwX4_179 rfl rfl rfl (Nat.le_of_ble_eq_true rfl) (by refine ⟨?_, ?_, ?_, ?_⟩ <;> exact Nat.le_of_ble_eq_true rfl) (fun a h => by unfold kRg at h; unfold kRv; omega) (zX4_remove  (by omega) (by omega) (by exact hr.1)) ?_
      intro M26 J26 f26 q26
      obtain ⟨ti26, ah26, am26, au26, af26⟩ := q26
      refine Z_iload_n (n := 30) dX4_drop_29 rfl rfl ?_
      refine Z_fr (fun frR => ?_)
      have u0 := hr.2.2.1
      refine Z_iret dX4_drop_30 rfl ?_
      exact ⟨RI_mk hr frR ti26 (fun g a b => ((af26.1 g (by omega)).2).trans (hr.2.1 g a b)) (by rw [af26.2.2 8 (by decide) (by decide) (by decide) (by decide)]; omega), by omega⟩
    · refine Z_iconst (n := 19) dX4_drop_18 rfl (by decide) ?_
      refine Z_goto (t := 23) dX4_drop_19 (by decide) ?_
      refine Z_istore_n (L' := [_, _, _]) (n := 24) dX4_drop_23 rfl (by decide) rfl rfl ?_
      refine Z_aload_n (n := 25) dX4_drop_24 rfl rfl ?_
      refine Z_iload_n (n := 26) dX4_drop_25 rfl rfl ?_
      refine Z_callVv (n := 29) [_] _ dX4_drop_26 rfl cwX4_179 rfl rfl rfl (Nat.le_of_ble_eq_true rfl) (by refine ⟨?_, ?_, ?_, ?_⟩ <;> exact Nat.le_of_ble_eq_true rfl) (fun a h => by unfold kRg at h; unfold kRv; omega) (zX4_remove  (by omega) (by omega) (by exact hr.1)) ?_
      intro M26 J26 f26 q26
      obtain ⟨ti26, ah26, am26, au26, af26⟩ := q26
      refine Z_iload_n (n := 30) dX4_drop_29 rfl rfl ?_
      refine Z_fr (fun frR => ?_)
      have u0 := hr.2.2.1
      refine Z_iret dX4_drop_30 rfl ?_
      exact ⟨RI_mk hr frR ti26 (fun g a b => ((af26.1 g (by omega)).2).trans (hr.2.1 g a b)) (by rw [af26.2.2 8 (by decide) (by decide) (by decide) (by decide)]; omega), by omega⟩
  · refine Z_iconst (n := 8) dX4_drop_7 rfl (by decide) ?_
    refine Z_iret dX4_drop_8 rfl ?_
    exact ⟨hr, by omega⟩
