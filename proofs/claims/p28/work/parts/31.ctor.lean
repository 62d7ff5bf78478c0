/-! ===== the constructors of the class and of the reference ===== -/
/-- the class's fresh state -/
def cF (M : zM) : Prop := cI M ∧ frsh M ∧ M 5 8 = 250 ∧ noOut M ∧ (∀ j : Int, 0 ≤ j → j < 3 → M (nA j) 4 = 0) ∧ (∀ v : Int, 0 ≤ v → v < 8 → M 3 v = v ∧ M 4 v = v) ∧ M 0 8 = 0 ∧ M 0 9 = -9 ∧ M 0 10 = -9
theorem netOK_0 {M : zM} {b : Nat} (h4 : M b 4 = 0) (h5 : M b 5 = 0) : netOK M b := ⟨fun g g0 g1 => by omega, fun o o0 o1 => by omega⟩
theorem cF_mk {M N : zM} (hf : ∀ a : Nat, a ≠ 12 → a ≠ 13 → M a = N a) (h12 : ∀ h : Int, 0 ≤ h → h < 12 → M 12 h = -1) (h13 : ∀ h : Int, 0 ≤ h → h < 40 → M 13 h = -1) (hp : pI N) (h58 : N 5 8 = 250) (ho : ∀ v : Int, 0 ≤ v → v < 8 → N 3 v = v ∧ N 4 v = v) (h0 : N 0 7 = 0 ∧ N 0 8 = 0 ∧ N 0 9 = -9 ∧ N 0 10 = -9) (h16 : N 16 4 = 0 ∧ N 16 5 = 0) (h21 : N 21 4 = 0 ∧ N 21 5 = 0) (h26 : N 26 4 = 0 ∧ N 26 5 = 0) : cF M := by
  have e0 := hf 0 (by decide) (by decide)
  have e3 := hf 3 (by decide) (by decide)
  have e4 := hf 4 (by decide) (by decide)
  have e5 := hf 5 (by decide) (by decide)
  have e16 := hf 16 (by decide) (by decide)
  have e21 := hf 21 (by decide) (by decide)
  have e26 := hf 26 (by decide) (by decide)
  refine ⟨⟨pI_fr hp e5 (hf 6 (by decide) (by decide)) (hf 10 (by decide) (by decide)) (hf 11 (by decide) (by decide)), fun v v0 v1 => ?_, ?_, ?_, ?_⟩, ⟨h12, h13, ?_⟩, ?_, fun j j0 j1 => ?_, fun j j0 j1 => ?_, fun v v0 v1 => ?_, ?_, ?_, ?_⟩
  · rw [e4, (ho v v0 v1).2]; exact v0
  · exact netOK_0 (by rw [e16]; exact h16.1) (by rw [e16]; exact h16.2)
  · exact netOK_0 (by rw [e21]; exact h21.1) (by rw [e21]; exact h21.2)
  · exact netOK_0 (by rw [e26]; exact h26.1) (by rw [e26]; exact h26.2)
  · rw [e0]; exact h0.1
  · rw [e5]; exact h58
  · rcases (show j = 0 ∨ j = 1 ∨ j = 2 by omega) with rfl | rfl | rfl
    · exact (congrFun e16 5).trans h16.2
    · exact (congrFun e21 5).trans h21.2
    · exact (congrFun e26 5).trans h26.2
  · rcases (show j = 0 ∨ j = 1 ∨ j = 2 by omega) with rfl | rfl | rfl
    · exact (congrFun e16 4).trans h16.1
    · exact (congrFun e21 4).trans h21.1
    · exact (congrFun e26 4).trans h26.1
  · rw [e3, e4]; exact ho v v0 v1
  · rw [e0]; exact h0.2.1
  · rw [e0]; exact h0.2.2.1
  · rw [e0]; exact h0.2.2.2
set_option maxRecDepth 20000 in
theorem zX3_init {G : tl_G} {M : zM} {J : zJ}  (hM0 : ∀ a : Nat, 0 ≤ a → ∀ k, M a k = 0) (hJ0 : ∀ a : Nat, 0 ≤ a → ∀ k, J a k = 0) : ZA G yX3_init mX3_init 3 30 2277 kBench [vR 0] Fb0 Fb9 M J (qV (fun M' J' => J' = J ∧ cF M')) := by
  refine ZA_of (L := [_, _]) (by decide) rfl rfl (Nat.le_of_ble_eq_true rfl) rfl (fun hav => ?_)
  refine Z_aload_n (n := 1) dX3_init_0 rfl rfl ?_
  refine Z_objI (n := 4) dX3_init_1 rfl moX3_3 (by decide) (by decide) (Nat.le_of_ble_eq_true rfl) ?_
  refine Z_aload_n (n := 5) dX3_init_4 rfl rfl ?_
  refine Z_iconst (n := 6) dX3_init_5 rfl (by decide) ?_
  refine Z_anew (N := 3) (z := 1) (n := 9) dX3_init_6 rfl cl_X3_9 rfl (by decide) rfl (fun k => hM0 _ (by decide) k) (fun k => hJ0 _ (by decide) k) (fun _ => rfl) (by decide) (by decide) ?_
  refine Z_putA (n := 12) dX3_init_9 rfl ffX3_11 (fun _ => rfl) rfl ?_
  refine Z_aload_n (n := 13) dX3_init_12 rfl rfl ?_
  refine Z_new (z := 2) (n := 16) dX3_init_13 rfl cnX3_15 rfl (fun k => hM0 _ (by decide) k) (fun k => hJ0 _ (by decide) k) (fun _ => rfl) (by decide) (by decide) ?_
  refine Z_dup (n := 17) dX3_init_16 rfl rfl ?_
  refine Z_callI (n := 20) dX3_init_17 rfl cwX3_17 (Nat.le_of_ble_eq_true rfl) (by refine ⟨?_, ?_, ?_, ?_⟩ <;> exact Nat.le_of_ble_eq_true rfl) (fun a h => by unfold kBench at h; unfold kOrd; omega) (zX1_init (by exact fun a h k => hM0 a (by omega) k) (by exact fun a h k => hJ0 a (by omega) k)) ?_
  intro M17 J17 f17 q17
  obtain ⟨e17, o17, v17⟩ := q17
  replace e17 := e17.symm; subst e17
  have z17 : ∀ a : Nat, 5 ≤ a → ∀ k, M17 a k = 0 := fun a h k => (congrFun (f17 a (by unfold kOrd; omega)).1 k).trans (hM0 a (by omega) k)
  refine Z_putO (n := 23) dX3_init_20 rfl ffX3_18 (fun _ => rfl) rfl ?_
  refine Z_aload_n (n := 24) dX3_init_23 rfl rfl ?_
  refine Z_new (z := 5) (n := 27) dX3_init_24 rfl cnX3_22 rfl (fun k => z17 _ (by decide) k) (fun k => hJ0 _ (by decide) k) (fun _ => rfl) (by decide) (by decide) ?_
  refine Z_dup (n := 28) dX3_init_27 rfl rfl ?_
  refine Z_callI (n := 31) dX3_init_28 rfl cwX3_24 (Nat.le_of_ble_eq_true rfl) (by refine ⟨?_, ?_, ?_, ?_⟩ <;> exact Nat.le_of_ble_eq_true rfl) (fun a h => by unfold kBench at h; unfold kPool; omega) (zX2_init (by exact fun a h k => z17 a (by omega) k) (by exact fun a h k => hJ0 a (by omega) k)) ?_
  intro M28 J28 f28 q28
  obtain ⟨e28, p28, l28⟩ := q28
  replace e28 := e28.symm; subst e28
  have z28 : ∀ a : Nat, 12 ≤ a → ∀ k, M28 a k = 0 := fun a h k => (congrFun (f28 a (by unfold kPool; omega)).1 k).trans (z17 a (by omega) k)
  refine Z_putO (n := 34) dX3_init_31 rfl ffX3_25 (fun _ => rfl) rfl ?_
  refine Z_aload_n (n := 35) dX3_init_34 rfl rfl ?_
  refine Z_bipush (n := 37) dX3_init_35 rfl (by decide) (by decide) ?_
  refine Z_newI (N := 12) (z := 12) (n := 39) dX3_init_37 rfl rfl (by decide) rfl (fun k => z28 _ (by decide) k) (fun k => hJ0 _ (by decide) k) (fun _ => rfl) (by decide) (by decide) ?_
  refine Z_putA (n := 42) dX3_init_39 rfl ffX3_29 (fun _ => rfl) rfl ?_
  refine Z_aload_n (n := 43) dX3_init_42 rfl rfl ?_
  refine Z_bipush (n := 45) dX3_init_43 rfl (by decide) (by decide) ?_
  refine Z_newI (N := 40) (z := 13) (n := 47) dX3_init_45 rfl rfl (by decide) rfl (fun k => z28 _ (by decide) k) (fun k => hJ0 _ (by decide) k) (fun _ => rfl) (by decide) (by decide) ?_
  refine Z_putA (n := 50) dX3_init_47 rfl ffX3_33 (fun _ => rfl) rfl ?_
  refine Z_aload_n (n := 51) dX3_init_50 rfl rfl ?_
  refine Z_bipush (n := 53) dX3_init_51 rfl (by decide) (by decide) ?_
  refine Z_newI (N := 40) (z := 14) (n := 55) dX3_init_53 rfl rfl (by decide) rfl (fun k => z28 _ (by decide) k) (fun k => hJ0 _ (by decide) k) (fun _ => rfl) (by decide) (by decide) ?_
  refine Z_putA (n := 58) dX3_init_55 rfl ffX3_36 (fun _ => rfl) rfl ?_
  refine Z_aload_n (n := 59) dX3_init_58 rfl rfl ?_
  refine Z_bipush (n := 61) dX3_init_59 rfl (by decide) (by decide) ?_
  refine Z_newI (N := 8) (z := 15) (n := 63) dX3_init_61 rfl rfl (by decide) rfl (fun k => z28 _ (by decide) k) (fun k => hJ0 _ (by decide) k) (fun _ => rfl) (by decide) (by decide) ?_
  refine Z_putA (n := 66) dX3_init_63 rfl ffX3_39 (fun _ => rfl) rfl ?_
  refine Z_aload_n (n := 67) dX3_init_66 rfl rfl ?_
  refine Z_iconst (n := 68) dX3_init_67 rfl (by decide) ?_
  refine Z_putI (n := 71) (ki := 7) dX3_init_68 rfl ffX3_42 rfl (by decide) rfl rfl (by first | assumption | omega | decide) (by first | assumption | omega | decide) (by decide) ?_
  refine Z_aload_n (n := 72) dX3_init_71 rfl rfl ?_
  refine Z_iconst (n := 73) dX3_init_72 rfl (by decide) ?_
  refine Z_putI (n := 76) (ki := 8) dX3_init_73 rfl ffX3_46 rfl (by decide) rfl rfl (by first | assumption | omega | decide) (by first | assumption | omega | decide) (by decide) ?_
  refine Z_aload_n (n := 77) dX3_init_76 rfl rfl ?_
  refine Z_bipush (n := 79) dX3_init_77 rfl (by decide) (by decide) ?_
  refine Z_putI (n := 82) (ki := 9) dX3_init_79 rfl ffX3_49 rfl (by decide) rfl rfl (by first | assumption | omega | decide) (by first | assumption | omega | decide) (by decide) ?_
  refine Z_aload_n (n := 83) dX3_init_82 rfl rfl ?_
  refine Z_bipush (n := 85) dX3_init_83 rfl (by decide) (by decide) ?_
  refine Z_putI (n := 88) (ki := 10) dX3_init_85 rfl ffX3_52 rfl (by decide) rfl rfl (by first | assumption | omega | decide) (by first | assumption | omega | decide) (by decide) ?_
  refine Z_iconst (n := 89) dX3_init_88 rfl (by decide) ?_
  refine Z_istore_n (L' := [_, _]) (n := 90) dX3_init_89 rfl (by decide) rfl rfl ?_
  refine Z_iload_n (n := 91) dX3_init_90 rfl rfl ?_
  refine Z_iconst (n := 92) dX3_init_91 rfl (by decide) ?_
  refine Z_icmp_ge (n := 95) (t := 114) dX3_init_92 rfl (by decide) (fun c92 => ?_) (fun c92 => ?_)
  · omega
  · refine Z_aload_n (n := 96) dX3_init_95 rfl rfl ?_
    refine Z_getA (n := 99) dX3_init_96 rfl ffX3_11 rfl rfl ?_
    refine Z_iload_n (n := 100) dX3_init_99 rfl rfl ?_
    refine Z_new (z := 16) (n := 103) dX3_init_100 rfl cnX3_9 rfl (fun k => z28 _ (by decide) k) (fun k => hJ0 _ (by decide) k) (fun _ => rfl) (by decide) (by decide) ?_
    refine Z_dup (n := 104) dX3_init_103 rfl rfl ?_
    refine Z_callI (n := 107) dX3_init_104 rfl cwX3_55 (Nat.le_of_ble_eq_true rfl) (by refine ⟨?_, ?_, ?_, ?_⟩ <;> exact Nat.le_of_ble_eq_true rfl) (fun a h => by unfold kBench at h; unfold kNw; omega) (zX0_init_16 (by exact fun a h k => (congrFun (show (uz (uz (uz (uz M28 0 7 0) 0 8 0) 0 9 (-9)) 0 10 (-9)) a = M28 a by simp only [uz_o (show a ≠ 0 by omega)]) k).trans (z28 a (by omega) k)) (by exact fun a h k => hJ0 a (by omega) k)) ?_
    intro M104 J104 f104 q104
    obtain ⟨e104, n16⟩ := q104
    replace e104 := e104.symm; subst e104
    have z104 : ∀ a : Nat, 17 ≤ a → ∀ k, M104 a k = 0 := fun a h k => (congrFun (f104 a (by unfold kNw; omega)).1 k).trans ((congrFun (show (uz (uz (uz (uz M28 0 7 0) 0 8 0) 0 9 (-9)) 0 10 (-9)) a = M28 a by simp only [uz_o (show a ≠ 0 by omega)]) k).trans (z28 a (by omega) k))
    refine Z_aast (i := 0) (n := 108) dX3_init_107 rfl rfl rfl rfl (by decide) (by decide) ?_
    refine Z_iinc (L' := [_, _]) (n := 111) dX3_init_108 rfl rfl (by decide) rfl rfl (by omega) rfl ?_
    refine Z_goto (t := 90) dX3_init_111 (by decide) ?_
    refine Z_iload_n (n := 91) dX3_init_90 rfl rfl ?_
    refine Z_iconst (n := 92) dX3_init_91 rfl (by decide) ?_
    refine Z_icmp_ge (n := 95) (t := 114) dX3_init_92 rfl (by decide) (fun c92 => ?_) (fun c92 => ?_)
    · omega
    · refine Z_aload_n (n := 96) dX3_init_95 rfl rfl ?_
      refine Z_getA (n := 99) dX3_init_96 rfl ffX3_11 rfl rfl ?_
      refine Z_iload_n (n := 100) dX3_init_99 rfl rfl ?_
      refine Z_new (z := 21) (n := 103) dX3_init_100 rfl cnX3_9 rfl (fun k => z104 _ (by decide) k) (fun k => hJ0 _ (by decide) k) (fun _ => rfl) (by decide) (by decide) ?_
      refine Z_dup (n := 104) dX3_init_103 rfl rfl ?_
      refine Z_callI (n := 107) dX3_init_104 rfl cwX3_55 (Nat.le_of_ble_eq_true rfl) (by refine ⟨?_, ?_, ?_, ?_⟩ <;> exact Nat.le_of_ble_eq_true rfl) (fun a h => by unfold kBench at h; unfold kNw; omega) (zX0_init_21 (by exact fun a h k => z104 a (by omega) k) (by exact fun a h k => hJ0 a (by omega) k)) ?_
      intro M104_1 J104_1 f104_1 q104_1
      obtain ⟨e104b, n21⟩ := q104_1
      replace e104b := e104b.symm; subst e104b
      have z104b : ∀ a : Nat, 22 ≤ a → ∀ k, M104_1 a k = 0 := fun a h k => (congrFun (f104_1 a (by unfold kNw; omega)).1 k).trans (z104 a (by omega) k)
      refine Z_aast (i := 1) (n := 108) dX3_init_107 rfl rfl rfl rfl (by decide) (by decide) ?_
      refine Z_iinc (L' := [_, _]) (n := 111) dX3_init_108 rfl rfl (by decide) rfl rfl (by omega) rfl ?_
      refine Z_goto (t := 90) dX3_init_111 (by decide) ?_
      refine Z_iload_n (n := 91) dX3_init_90 rfl rfl ?_
      refine Z_iconst (n := 92) dX3_init_91 rfl (by decide) ?_
      refine Z_icmp_ge (n := 95) (t := 114) dX3_init_92 rfl (by decide) (fun c92 => ?_) (fun c92 => ?_)
      · omega
      · refine Z_aload_n (n := 96) dX3_init_95 rfl rfl ?_
        refine Z_getA (n := 99) dX3_init_96 rfl ffX3_11 rfl rfl ?_
        refine Z_iload_n (n := 100) dX3_init_99 rfl rfl ?_
        refine Z_new (z := 26) (n := 103) dX3_init_100 rfl cnX3_9 rfl (fun k => z104b _ (by decide) k) (fun k => hJ0 _ (by decide) k) (fun _ => rfl) (by decide) (by decide) ?_
        refine Z_dup (n := 104) dX3_init_103 rfl rfl ?_
        refine Z_callI (n := 107) dX3_init_104 rfl cwX3_55 (Nat.le_of_ble_eq_true rfl) (by refine ⟨?_, ?_, ?_, ?_⟩ <;> exact Nat.le_of_ble_eq_true rfl) (fun a h => by unfold kBench at h; unfold kNw; omega) (zX0_init_26 (by exact fun a h k => z104b a (by omega) k) (by exact fun a h k => hJ0 a (by omega) k)) ?_
        intro M104_2 J104_2 f104_2 q104_2
        obtain ⟨e104c, n26⟩ := q104_2
        replace e104c := e104c.symm; subst e104c
        refine Z_aast (i := 2) (n := 108) dX3_init_107 rfl rfl rfl rfl (by decide) (by decide) ?_
        refine Z_iinc (L' := [_, _]) (n := 111) dX3_init_108 rfl rfl (by decide) rfl rfl (by omega) rfl ?_
        refine Z_goto (t := 90) dX3_init_111 (by decide) ?_
        refine Z_iload_n (n := 91) dX3_init_90 rfl rfl ?_
        refine Z_iconst (n := 92) dX3_init_91 rfl (by decide) ?_
        refine Z_icmp_ge (n := 95) (t := 114) dX3_init_92 rfl (by decide) (fun c92 => ?_) (fun c92 => ?_)
        · refine Z_aload_n (n := 115) dX3_init_114 rfl rfl ?_
          refine Z_getA (n := 118) dX3_init_115 rfl ffX3_29 rfl rfl ?_
          refine Z_iconst (n := 119) dX3_init_118 rfl (by decide) ?_
          refine Z_callSv (n := 122) [_, _] _ dX3_init_119 rfl cwX3_56 rfl rfl (Nat.le_of_ble_eq_true rfl) (by refine ⟨?_, ?_, ?_, ?_⟩ <;> exact Nat.le_of_ble_eq_true rfl) (fun _ h => h) (zJ7_fill_53178  (by rfl) (by decide) (by exact fun _ => rfl) (by decide) (by decide) (by decide)) ?_
          intro M119 J119 f119 q119
          obtain ⟨e119_1, e119_2⟩ := q119
          replace e119_1 := e119_1.symm; subst e119_1
          replace e119_2 := e119_2.symm; subst e119_2
          refine Z_aload_n (n := 123) dX3_init_122 rfl rfl ?_
          refine Z_getA (n := 126) dX3_init_123 rfl ffX3_33 rfl rfl ?_
          refine Z_iconst (n := 127) dX3_init_126 rfl (by decide) ?_
          refine Z_callSv (n := 130) [_, _] _ dX3_init_127 rfl cwX3_56 rfl rfl (Nat.le_of_ble_eq_true rfl) (by refine ⟨?_, ?_, ?_, ?_⟩ <;> exact Nat.le_of_ble_eq_true rfl) (fun _ h => h) (zJ7_fill_53178  (by rfl) (by decide) (by exact fun _ => rfl) (by decide) (by decide) (by decide)) ?_
          intro M127 J127 f127 q127
          obtain ⟨e127_1, e127_2⟩ := q127
          replace e127_1 := e127_1.symm; subst e127_1
          replace e127_2 := e127_2.symm; subst e127_2
          refine Z_vret dX3_init_130 rfl ?_
          refine ⟨rfl, ?_⟩
          have hN : ∀ a : Nat, a ≠ 16 → a ≠ 21 → a ≠ 26 → a ≠ 0 → M104_2 a = M28 a := fun a h1 h2 h3 h4 => by
            rw [(f104_2 a h3).1, (f104_1 a h2).1, (f104 a h1).1]
            simp only [uz_o h4]
          have h0 : M104_2 0 = uz (uz (uz (uz M28 0 7 0) 0 8 0) 0 9 (-9)) 0 10 (-9) 0 := by rw [(f104_2 0 (by decide)).1, (f104_1 0 (by decide)).1, (f104 0 (by decide)).1]
          refine cF_mk (N := M104_2) (fun a h1 h2 => by rw [fillz_o h2, fillz_o h1]) (fun h a b => by rw [fillz_o (by decide), fillz_a a (by omega)]) (fun h a b => fillz_a a (by omega)) (pI_fr p28 (hN 5 (by decide) (by decide) (by decide) (by decide)) (hN 6 (by decide) (by decide) (by decide) (by decide)) (hN 10 (by decide) (by decide) (by decide) (by decide)) (hN 11 (by decide) (by decide) (by decide) (by decide))) ?_ (fun w a b => ?_) ?_ ?_ ?_ n26
          · rw [hN 5 (by decide) (by decide) (by decide) (by decide)]; exact l28
          · rw [hN 3 (by decide) (by decide) (by decide) (by decide), hN 4 (by decide) (by decide) (by decide) (by decide), (f28 3 (by decide)).1, (f28 4 (by decide)).1]; exact v17 w a b
          · rw [h0]; exact ⟨rfl, rfl, rfl, rfl⟩
          · rw [(f104_2 16 (by decide)).1, (f104_1 16 (by decide)).1]; exact n16
          · rw [(f104_2 21 (by decide)).1]; exact n21
        · omega
def jw (J : zJ) : zJ := uz (uz (uz (uz (uz (uz (uz (uz J 54 0 0) 54 1 0) 54 2 (-4294967296)) 54 3 (-281470681808896)) 54 4 (-71777214294589696)) 54 5 (-1085102592571150096)) 54 6 (-3689348814741910324)) 54 7 (-6148914691236517206)
theorem jw_wh {J : zJ} : ∀ p : Int, 2 ≤ p → p ≤ 7 → jw J 54 p = whF p := by
  intro p h1 h2
  rcases (show p = 2 ∨ p = 3 ∨ p = 4 ∨ p = 5 ∨ p = 6 ∨ p = 7 by omega) with rfl | rfl | rfl | rfl | rfl | rfl <;> rfl
def mdl (M M' : zM) : Prop := (∀ a : Nat, a ≠ 31 → a ≠ 38 → a ≠ 39 → a ≠ 50 → a ≠ 51 → M' a = M a) ∧ ∀ j : Int, j ≠ 8 → M' 31 j = M 31 j
theorem mdl_st {M M' : zM} {a : Nat} {j v : Int} (h : mdl M M') (ha : a = 38 ∨ a = 39 ∨ a = 50 ∨ a = 51) : mdl M (uz M' a j v) := ⟨fun b h1 h2 h3 h4 h5 => by rw [uz_o (by omega)]; exact h.1 b h1 h2 h3 h4 h5, fun k hk => by rw [uz_oo (by omega)]; exact h.2 k hk⟩
def idO (M : zM) (k : Int) : Prop := ∀ w : Int, 0 ≤ w → w < k → M 38 w = w ∧ M 39 w = w
theorem idO_st {M : zM} {a : Nat} {j v k : Int} (h : idO M k) (h1 : (38 : Nat) ≠ a) (h2 : (39 : Nat) ≠ a) : idO (uz M a j v) k := fun w a b => by rw [uz_oo h1, uz_oo h2]; exact h w a b
set_option maxRecDepth 20000 in
theorem zX4_init {G : tl_G} {M : zM} {J : zJ}  (hM0 : ∀ a : Nat, 31 ≤ a → ∀ k, M a k = 0) (hJ0 : ∀ a : Nat, 31 ≤ a → ∀ k, J a k = 0) : ZA G yX4_init mX4_init 1 26 20312 kModel [vR 31] Fm0 (F_model Fm0) M J (qV (fun M' J' => rF M' J')) := by
  refine ZA_of (L := [_, _]) (by decide) rfl rfl (Nat.le_of_ble_eq_true rfl) rfl (fun hav => ?_)
  refine Z_aload_n (n := 1) dX4_init_0 rfl rfl ?_
  refine Z_objI (n := 4) dX4_init_1 rfl moX4_1 (by decide) (by decide) (Nat.le_of_ble_eq_true rfl) ?_
  refine Z_aload_n (n := 5) dX4_init_4 rfl rfl ?_
  refine Z_iconst (n := 6) dX4_init_5 rfl (by decide) ?_
  refine Z_newI (N := 3) (z := 32) (n := 8) dX4_init_6 rfl rfl (by decide) rfl (fun k => hM0 _ (by decide) k) (fun k => hJ0 _ (by decide) k) (fun _ => rfl) (by decide) (by decide) ?_
  refine Z_putA (n := 11) dX4_init_8 rfl ffX4_7 (fun _ => rfl) rfl ?_
  refine Z_aload_n (n := 12) dX4_init_11 rfl rfl ?_
  refine Z_iconst (n := 13) dX4_init_12 rfl (by decide) ?_
  refine Z_newI (N := 3) (z := 33) (n := 15) dX4_init_13 rfl rfl (by decide) rfl (fun k => hM0 _ (by decide) k) (fun k => hJ0 _ (by decide) k) (fun _ => rfl) (by decide) (by decide) ?_
  refine Z_putA (n := 18) dX4_init_15 rfl ffX4_13 (fun _ => rfl) rfl ?_
  refine Z_aload_n (n := 19) dX4_init_18 rfl rfl ?_
  refine Z_bipush (n := 21) dX4_init_19 rfl (by decide) (by decide) ?_
  refine Z_newI (N := 120) (z := 34) (n := 23) dX4_init_21 rfl rfl (by decide) rfl (fun k => hM0 _ (by decide) k) (fun k => hJ0 _ (by decide) k) (fun _ => rfl) (by decide) (by decide) ?_
  refine Z_putA (n := 26) dX4_init_23 rfl ffX4_16 (fun _ => rfl) rfl ?_
  refine Z_aload_n (n := 27) dX4_init_26 rfl rfl ?_
  refine Z_sipush (n := 30) dX4_init_27 rfl (by decide) (by decide) ?_
  refine Z_newI (N := 360) (z := 35) (n := 32) dX4_init_30 rfl rfl (by decide) rfl (fun k => hM0 _ (by decide) k) (fun k => hJ0 _ (by decide) k) (fun _ => rfl) (by decide) (by decide) ?_
  refine Z_putA (n := 35) dX4_init_32 rfl ffX4_19 (fun _ => rfl) rfl ?_
  refine Z_aload_n (n := 36) dX4_init_35 rfl rfl ?_
  refine Z_bipush (n := 38) dX4_init_36 rfl (by decide) (by decide) ?_
  refine Z_newI (N := 12) (z := 36) (n := 40) dX4_init_38 rfl rfl (by decide) rfl (fun k => hM0 _ (by decide) k) (fun k => hJ0 _ (by decide) k) (fun _ => rfl) (by decide) (by decide) ?_
  refine Z_putA (n := 43) dX4_init_40 rfl ffX4_22 (fun _ => rfl) rfl ?_
  refine Z_aload_n (n := 44) dX4_init_43 rfl rfl ?_
  refine Z_bipush (n := 46) dX4_init_44 rfl (by decide) (by decide) ?_
  refine Z_newZ (N := 40) (z := 37) (n := 48) dX4_init_46 rfl rfl (by decide) rfl (fun k => hM0 _ (by decide) k) (fun k => hJ0 _ (by decide) k) (fun _ => rfl) (by decide) (by decide) ?_
  refine Z_putA (n := 51) dX4_init_48 rfl ffX4_25 (fun _ => rfl) rfl ?_
  refine Z_aload_n (n := 52) dX4_init_51 rfl rfl ?_
  refine Z_bipush (n := 54) dX4_init_52 rfl (by decide) (by decide) ?_
  refine Z_newI (N := 8) (z := 38) (n := 56) dX4_init_54 rfl rfl (by decide) rfl (fun k => hM0 _ (by decide) k) (fun k => hJ0 _ (by decide) k) (fun _ => rfl) (by decide) (by decide) ?_
  refine Z_putA (n := 59) dX4_init_56 rfl ffX4_29 (fun _ => rfl) rfl ?_
  refine Z_aload_n (n := 60) dX4_init_59 rfl rfl ?_
  refine Z_bipush (n := 62) dX4_init_60 rfl (by decide) (by decide) ?_
  refine Z_newI (N := 8) (z := 39) (n := 64) dX4_init_62 rfl rfl (by decide) rfl (fun k => hM0 _ (by decide) k) (fun k => hJ0 _ (by decide) k) (fun _ => rfl) (by decide) (by decide) ?_
  refine Z_putA (n := 67) dX4_init_64 rfl ffX4_32 (fun _ => rfl) rfl ?_
  refine Z_aload_n (n := 68) dX4_init_67 rfl rfl ?_
  refine Z_bipush (n := 70) dX4_init_68 rfl (by decide) (by decide) ?_
  refine Z_newZ (N := 40) (z := 40) (n := 72) dX4_init_70 rfl rfl (by decide) rfl (fun k => hM0 _ (by decide) k) (fun k => hJ0 _ (by decide) k) (fun _ => rfl) (by decide) (by decide) ?_
  refine Z_putA (n := 75) dX4_init_72 rfl ffX4_35 (fun _ => rfl) rfl ?_
  refine Z_aload_n (n := 76) dX4_init_75 rfl rfl ?_
  refine Z_bipush (n := 78) dX4_init_76 rfl (by decide) (by decide) ?_
  refine Z_newI (N := 41) (z := 41) (n := 80) dX4_init_78 rfl rfl (by decide) rfl (fun k => hM0 _ (by decide) k) (fun k => hJ0 _ (by decide) k) (fun _ => rfl) (by decide) (by decide) ?_
  refine Z_putA (n := 83) dX4_init_80 rfl ffX4_38 (fun _ => rfl) rfl ?_
  refine Z_aload_n (n := 84) dX4_init_83 rfl rfl ?_
  refine Z_bipush (n := 86) dX4_init_84 rfl (by decide) (by decide) ?_
  refine Z_newI (N := 41) (z := 42) (n := 88) dX4_init_86 rfl rfl (by decide) rfl (fun k => hM0 _ (by decide) k) (fun k => hJ0 _ (by decide) k) (fun _ => rfl) (by decide) (by decide) ?_
  refine Z_putA (n := 91) dX4_init_88 rfl ffX4_41 (fun _ => rfl) rfl ?_
  refine Z_aload_n (n := 92) dX4_init_91 rfl rfl ?_
  refine Z_bipush (n := 94) dX4_init_92 rfl (by decide) (by decide) ?_
  refine Z_newZ (N := 56) (z := 43) (n := 96) dX4_init_94 rfl rfl (by decide) rfl (fun k => hM0 _ (by decide) k) (fun k => hJ0 _ (by decide) k) (fun _ => rfl) (by decide) (by decide) ?_
  refine Z_putA (n := 99) dX4_init_96 rfl ffX4_44 (fun _ => rfl) rfl ?_
  refine Z_aload_n (n := 100) dX4_init_99 rfl rfl ?_
  refine Z_sipush (n := 103) dX4_init_100 rfl (by decide) (by decide) ?_
  refine Z_newJ (N := 224) (z := 44) (n := 105) dX4_init_103 rfl rfl (by decide) rfl (fun k => hM0 _ (by decide) k) (fun k => hJ0 _ (by decide) k) (fun _ => rfl) (by decide) (by decide) ?_
  refine Z_putA (n := 108) dX4_init_105 rfl ffX4_47 (fun _ => rfl) rfl ?_
  refine Z_aload_n (n := 109) dX4_init_108 rfl rfl ?_
  refine Z_bipush (n := 111) dX4_init_109 rfl (by decide) (by decide) ?_
  refine Z_newI (N := 56) (z := 45) (n := 113) dX4_init_111 rfl rfl (by decide) rfl (fun k => hM0 _ (by decide) k) (fun k => hJ0 _ (by decide) k) (fun _ => rfl) (by decide) (by decide) ?_
  refine Z_putA (n := 116) dX4_init_113 rfl ffX4_51 (fun _ => rfl) rfl ?_
  refine Z_aload_n (n := 117) dX4_init_116 rfl rfl ?_
  refine Z_sipush (n := 120) dX4_init_117 rfl (by decide) (by decide) ?_
  refine Z_newI (N := 14280) (z := 46) (n := 122) dX4_init_120 rfl rfl (by decide) rfl (fun k => hM0 _ (by decide) k) (fun k => hJ0 _ (by decide) k) (fun _ => rfl) (by decide) (by decide) ?_
  refine Z_putA (n := 125) dX4_init_122 rfl ffX4_54 (fun _ => rfl) rfl ?_
  refine Z_aload_n (n := 126) dX4_init_125 rfl rfl ?_
  refine Z_sipush (n := 129) dX4_init_126 rfl (by decide) (by decide) ?_
  refine Z_newI (N := 520) (z := 47) (n := 131) dX4_init_129 rfl rfl (by decide) rfl (fun k => hM0 _ (by decide) k) (fun k => hJ0 _ (by decide) k) (fun _ => rfl) (by decide) (by decide) ?_
  refine Z_putA (n := 134) dX4_init_131 rfl ffX4_57 (fun _ => rfl) rfl ?_
  refine Z_aload_n (n := 135) dX4_init_134 rfl rfl ?_
  refine Z_sipush (n := 138) dX4_init_135 rfl (by decide) (by decide) ?_
  refine Z_newJ (N := 2080) (z := 48) (n := 140) dX4_init_138 rfl rfl (by decide) rfl (fun k => hM0 _ (by decide) k) (fun k => hJ0 _ (by decide) k) (fun _ => rfl) (by decide) (by decide) ?_
  refine Z_putA (n := 143) dX4_init_140 rfl ffX4_60 (fun _ => rfl) rfl ?_
  refine Z_aload_n (n := 144) dX4_init_143 rfl rfl ?_
  refine Z_sipush (n := 147) dX4_init_144 rfl (by decide) (by decide) ?_
  refine Z_newI (N := 520) (z := 49) (n := 149) dX4_init_147 rfl rfl (by decide) rfl (fun k => hM0 _ (by decide) k) (fun k => hJ0 _ (by decide) k) (fun _ => rfl) (by decide) (by decide) ?_
  refine Z_putA (n := 152) dX4_init_149 rfl ffX4_63 (fun _ => rfl) rfl ?_
  refine Z_aload_n (n := 153) dX4_init_152 rfl rfl ?_
  refine Z_sipush (n := 156) dX4_init_153 rfl (by decide) (by decide) ?_
  refine Z_newI (N := 520) (z := 50) (n := 158) dX4_init_156 rfl rfl (by decide) rfl (fun k => hM0 _ (by decide) k) (fun k => hJ0 _ (by decide) k) (fun _ => rfl) (by decide) (by decide) ?_
  refine Z_putA (n := 161) dX4_init_158 rfl ffX4_66 (fun _ => rfl) rfl ?_
  refine Z_aload_n (n := 162) dX4_init_161 rfl rfl ?_
  refine Z_sipush (n := 165) dX4_init_162 rfl (by decide) (by decide) ?_
  refine Z_newI (N := 512) (z := 51) (n := 167) dX4_init_165 rfl rfl (by decide) rfl (fun k => hM0 _ (by decide) k) (fun k => hJ0 _ (by decide) k) (fun _ => rfl) (by decide) (by decide) ?_
  refine Z_putA (n := 170) dX4_init_167 rfl ffX4_69 (fun _ => rfl) rfl ?_
  refine Z_aload_n (n := 171) dX4_init_170 rfl rfl ?_
  refine Z_sipush (n := 174) dX4_init_171 rfl (by decide) (by decide) ?_
  refine Z_newI (N := 520) (z := 52) (n := 176) dX4_init_174 rfl rfl (by decide) rfl (fun k => hM0 _ (by decide) k) (fun k => hJ0 _ (by decide) k) (fun _ => rfl) (by decide) (by decide) ?_
  refine Z_putA (n := 179) dX4_init_176 rfl ffX4_72 (fun _ => rfl) rfl ?_
  refine Z_aload_n (n := 180) dX4_init_179 rfl rfl ?_
  refine Z_iconst (n := 181) dX4_init_180 rfl (by decide) ?_
  refine Z_newJ (N := 4) (z := 53) (n := 183) dX4_init_181 rfl rfl (by decide) rfl (fun k => hM0 _ (by decide) k) (fun k => hJ0 _ (by decide) k) (fun _ => rfl) (by decide) (by decide) ?_
  refine Z_putA (n := 186) dX4_init_183 rfl ffX4_75 (fun _ => rfl) rfl ?_
  refine Z_aload_n (n := 187) dX4_init_186 rfl rfl ?_
  refine Z_bipush (n := 189) dX4_init_187 rfl (by decide) (by decide) ?_
  refine Z_newJ (N := 8) (z := 54) (n := 191) dX4_init_189 rfl rfl (by decide) rfl (fun k => hM0 _ (by decide) k) (fun k => hJ0 _ (by decide) k) (fun _ => rfl) (by decide) (by decide) ?_
  refine Z_dup (n := 192) dX4_init_191 rfl rfl ?_
  refine Z_iconst (n := 193) dX4_init_192 rfl (by decide) ?_
  refine Z_lconst (v := 0) (n := 194) dX4_init_193 rfl (by decide) ?_
  refine Z_last (n := 195) dX4_init_194 rfl rfl (by decide) (by omega) (by omega) (by decide) ?_
  refine Z_dup (n := 196) dX4_init_195 rfl rfl ?_
  refine Z_iconst (n := 197) dX4_init_196 rfl (by decide) ?_
  refine Z_lconst (v := 0) (n := 198) dX4_init_197 rfl (by decide) ?_
  refine Z_last (n := 199) dX4_init_198 rfl rfl (by decide) (by omega) (by omega) (by decide) ?_
  refine Z_dup (n := 200) dX4_init_199 rfl rfl ?_
  refine Z_iconst (n := 201) dX4_init_200 rfl (by decide) ?_
  refine Z_ldc2 (n := 204) dX4_init_201 rfl clX4_78 ?_
  refine Z_last (n := 205) dX4_init_204 rfl rfl (by decide) (by omega) (by omega) (by decide) ?_
  refine Z_dup (n := 206) dX4_init_205 rfl rfl ?_
  refine Z_iconst (n := 207) dX4_init_206 rfl (by decide) ?_
  refine Z_ldc2 (n := 210) dX4_init_207 rfl clX4_80 ?_
  refine Z_last (n := 211) dX4_init_210 rfl rfl (by decide) (by omega) (by omega) (by decide) ?_
  refine Z_dup (n := 212) dX4_init_211 rfl rfl ?_
  refine Z_iconst (n := 213) dX4_init_212 rfl (by decide) ?_
  refine Z_ldc2 (n := 216) dX4_init_213 rfl clX4_82 ?_
  refine Z_last (n := 217) dX4_init_216 rfl rfl (by decide) (by omega) (by omega) (by decide) ?_
  refine Z_dup (n := 218) dX4_init_217 rfl rfl ?_
  refine Z_iconst (n := 219) dX4_init_218 rfl (by decide) ?_
  refine Z_ldc2 (n := 222) dX4_init_219 rfl clX4_84 ?_
  refine Z_last (n := 223) dX4_init_222 rfl rfl (by decide) (by omega) (by omega) (by decide) ?_
  refine Z_dup (n := 224) dX4_init_223 rfl rfl ?_
  refine Z_bipush (n := 226) dX4_init_224 rfl (by decide) (by decide) ?_
  refine Z_ldc2 (n := 229) dX4_init_226 rfl clX4_86 ?_
  refine Z_last (n := 230) dX4_init_229 rfl rfl (by decide) (by omega) (by omega) (by decide) ?_
  refine Z_dup (n := 231) dX4_init_230 rfl rfl ?_
  refine Z_bipush (n := 233) dX4_init_231 rfl (by decide) (by decide) ?_
  refine Z_ldc2 (n := 236) dX4_init_233 rfl clX4_88 ?_
  refine Z_last (n := 237) dX4_init_236 rfl rfl (by decide) (by omega) (by omega) (by decide) ?_
  refine Z_putA (n := 240) dX4_init_237 rfl ffX4_90 (fun _ => rfl) rfl ?_
  refine Z_aload_n (n := 241) dX4_init_240 rfl rfl ?_
  refine Z_bipush (n := 243) dX4_init_241 rfl (by decide) (by decide) ?_
  refine Z_newZ (N := 40) (z := 55) (n := 245) dX4_init_243 rfl rfl (by decide) rfl (fun k => hM0 _ (by decide) k) (fun k => hJ0 _ (by decide) k) (fun _ => rfl) (by decide) (by decide) ?_
  refine Z_putA (n := 248) dX4_init_245 rfl ffX4_93 (fun _ => rfl) rfl ?_
  refine Z_aload_n (n := 249) dX4_init_248 rfl rfl ?_
  refine Z_bipush (n := 251) dX4_init_249 rfl (by decide) (by decide) ?_
  refine Z_newI (N := 40) (z := 56) (n := 253) dX4_init_251 rfl rfl (by decide) rfl (fun k => hM0 _ (by decide) k) (fun k => hJ0 _ (by decide) k) (fun _ => rfl) (by decide) (by decide) ?_
  refine Z_putA (n := 256) dX4_init_253 rfl ffX4_96 (fun _ => rfl) rfl ?_
  refine Z_aload_n (n := 257) dX4_init_256 rfl rfl ?_
  refine Z_sipush (n := 260) dX4_init_257 rfl (by decide) (by decide) ?_
  refine Z_newI (N := 256) (z := 57) (n := 262) dX4_init_260 rfl rfl (by decide) rfl (fun k => hM0 _ (by decide) k) (fun k => hJ0 _ (by decide) k) (fun _ => rfl) (by decide) (by decide) ?_
  refine Z_putA (n := 265) dX4_init_262 rfl ffX4_99 (fun _ => rfl) rfl ?_
  refine Z_iconst (n := 266) dX4_init_265 rfl (by decide) ?_
  refine Z_istore_n (L' := [_, _]) (n := 267) dX4_init_266 rfl (by decide) rfl rfl ?_
  have lp267 : ∀ (N267 : Nat) (k : Int) (M267 : zM) (J267 : zJ), ((8 - k).toNat) < N267 → (J267 = jw J) → (0 ≤ k) → (k ≤ 8) → (mdl M M267) → (M267 31 8 = 0) → (idO M267 k) → TZ G mX4_init (tl_rm 1 26 20312) 26 20312 kModel M J 267 [some (vR 31), some (vI k)] [] (F_model Fm0) M267 J267 (ZM G (zPost G kModel (F_model Fm0) M J (qV (fun M' J' => rF M' J'))) 26 20312) := by
    intro N267
    induction N267 with
    | zero => intro k M267 J267 hN; omega
    | succ N267 ih267 =>
      intro k M267 J267 hN267 i267_0 i267_1 i267_2 i267_3 i267_4 i267_5
      refine Z_iload_n (n := 268) dX4_init_267 rfl rfl ?_
      refine Z_bipush (n := 270) dX4_init_268 rfl (by decide) (by decide) ?_
      refine Z_icmp_ge (n := 273) (t := 293) dX4_init_270 rfl (by decide) (fun c270 => ?_) (fun c270 => ?_)
      · refine Z_aload_n (n := 294) dX4_init_293 rfl rfl ?_
        refine Z_sipush (n := 297) dX4_init_294 rfl (by decide) (by decide) ?_
        refine Z_putI (n := 300) (ki := 8) dX4_init_297 rfl ffX4_102 rfl (by decide) rfl rfl (by first | assumption | omega | decide) (by first | assumption | omega | decide) (by decide) ?_
        have st3 : mdl M (uz M267 31 8 250) := ⟨fun a h1 h2 h3 h4 h5 => by rw [uz_o h1]; exact i267_3.1 a h1 h2 h3 h4 h5, fun j hj => by rw [uz_n hj]; exact i267_3.2 j hj⟩
        have st5 : idO (uz M267 31 8 250) 8 := by
          have := i267_5
          rw [show k = 8 by omega] at this
          exact idO_st this (by decide) (by decide)
        refine Z_iconst (n := 301) dX4_init_300 rfl (by decide) ?_
        refine Z_istore_n (L' := [_, _]) (n := 302) dX4_init_301 rfl (by decide) rfl rfl ?_
        have lp302 : ∀ (N302 : Nat) (k : Int) (M302 : zM) (J302 : zJ), ((520 - k).toNat) < N302 → (J302 = jw J) → (0 ≤ k) → (k ≤ 520) → (mdl M M302) → (M302 31 8 = 250) → (idO M302 8) → (0 < k → M302 50 0 = 1) → TZ G mX4_init (tl_rm 1 26 20312) 26 20312 kModel M J 302 [some (vR 31), some (vI k)] [] (F_model Fm0) M302 J302 (ZM G (zPost G kModel (F_model Fm0) M J (qV (fun M' J' => rF M' J'))) 26 20312) := by
          intro N302
          induction N302 with
          | zero => intro k M302 J302 hN; omega
          | succ N302 ih302 =>
            intro k M302 J302 hN302 i302_0 i302_1 i302_2 i302_3 i302_4 i302_5 i302_6
            refine Z_iload_n (n := 303) dX4_init_302 rfl rfl ?_
            refine Z_sipush (n := 306) dX4_init_303 rfl (by decide) (by decide) ?_
            refine Z_icmp_ge (n := 309) (t := 324) dX4_init_306 rfl (by decide) (fun c306 => ?_) (fun c306 => ?_)
            · refine Z_aload_n (n := 325) dX4_init_324 rfl rfl ?_
              refine Z_getA (n := 328) dX4_init_325 rfl ffX4_66 rfl rfl ?_
              refine Z_sipush (n := 331) dX4_init_328 rfl (by decide) (by decide) ?_
              refine Z_iconst (n := 332) dX4_init_331 rfl (by decide) ?_
              refine Z_iast (n := 333) dX4_init_332 rfl rfl rfl (by first | decide | assumption) (by omega) (by omega) (by first | assumption | omega | decide) (by first | assumption | omega | decide) (by decide) ?_
              refine Z_iconst (n := 334) dX4_init_333 rfl (by decide) ?_
              refine Z_istore_n (L' := [_, _]) (n := 335) dX4_init_334 rfl (by decide) rfl rfl ?_
              have lp335 : ∀ (N335 : Nat) (k : Int) (M335 : zM) (J335 : zJ), ((512 - k).toNat) < N335 → (J335 = jw J) → (0 ≤ k) → (k ≤ 512) → (mdl M M335) → (M335 31 8 = 250) → (idO M335 8) → (M335 50 0 = 1) → (∀ b : Int, 0 ≤ b → b < k → M335 51 b = -1) → TZ G mX4_init (tl_rm 1 26 20312) 26 20312 kModel M J 335 [some (vR 31), some (vI k)] [] (F_model Fm0) M335 J335 (ZM G (zPost G kModel (F_model Fm0) M J (qV (fun M' J' => rF M' J'))) 26 20312) := by
                intro N335
                induction N335 with
                | zero => intro k M335 J335 hN; omega
                | succ N335 ih335 =>
                  intro k M335 J335 hN335 i335_0 i335_1 i335_2 i335_3 i335_4 i335_5 i335_6 i335_7
                  refine Z_iload_n (n := 336) dX4_init_335 rfl rfl ?_
                  refine Z_sipush (n := 339) dX4_init_336 rfl (by decide) (by decide) ?_
                  refine Z_icmp_ge (n := 342) (t := 355) dX4_init_339 rfl (by decide) (fun c339 => ?_) (fun c339 => ?_)
                  · refine Z_aload_n (n := 356) dX4_init_355 rfl rfl ?_
                    refine Z_bipush (n := 358) dX4_init_356 rfl (by decide) (by decide) ?_
                    refine Z_putI (n := 361) (ki := 33) dX4_init_358 rfl ffX4_106 rfl (by decide) rfl rfl (by first | assumption | omega | decide) (by first | assumption | omega | decide) (by decide) ?_
                    refine Z_aload_n (n := 362) dX4_init_361 rfl rfl ?_
                    refine Z_bipush (n := 364) dX4_init_362 rfl (by decide) (by decide) ?_
                    refine Z_putI (n := 367) (ki := 34) dX4_init_364 rfl ffX4_109 rfl (by decide) rfl rfl (by first | assumption | omega | decide) (by first | assumption | omega | decide) (by decide) ?_
                    refine Z_vret dX4_init_367 rfl ?_
                    have hz : ∀ (a : Nat) (j : Int), 31 ≤ a → a ≠ 31 → a ≠ 38 → a ≠ 39 → a ≠ 50 → a ≠ 51 → uz (uz M335 31 33 (-9)) 31 34 (-9) a j = 0 := fun a j h0 h1 h2 h3 h4 h5 => by
                      rw [uz_oo h1, uz_oo h1, i335_3.1 a h1 h2 h3 h4 h5]; exact hM0 a h0 j
                    have h31 : ∀ j : Int, j ≠ 8 → j ≠ 33 → j ≠ 34 → uz (uz M335 31 33 (-9)) 31 34 (-9) 31 j = 0 := fun j h1 h2 h3 => by
                      rw [uz_n h3, uz_n h2, i335_3.2 j h1]; exact hM0 31 (by decide) j
                    refine ⟨⟨fun h a b => hz 43 h (by decide) (by decide) (by decide) (by decide) (by decide) (by decide), fun h a b => hz 33 h (by decide) (by decide) (by decide) (by decide) (by decide) (by decide), ⟨fun b c d => ?_, h31 23 (by decide) (by decide) (by decide), ?_, h31 24 (by decide) (by decide) (by decide)⟩, fun g a b => hz 45 g (by decide) (by decide) (by decide) (by decide) (by decide) (by decide), ?_, h31 27 (by decide) (by decide) (by decide), hz 52 0 (by decide) (by decide) (by decide) (by decide) (by decide) (by decide)⟩, ?_, fun w a b => ?_, ⟨h31 25 (by decide) (by decide) (by decide), ?_, uz_s⟩, fun j a b => hz 32 j (by decide) (by decide) (by decide) (by decide) (by decide) (by decide)⟩
                    · rw [uz_oo (by decide), uz_oo (by decide)]; exact i335_7 b c (by omega)
                    · rw [uz_oo (by decide), uz_oo (by decide)]; exact i335_6
                    · rw [uz_n (by decide), uz_n (by decide)]; exact i335_4
                    · rw [i335_0]; exact jw_wh
                    · rw [uz_oo (by decide), uz_oo (by decide), uz_oo (by decide), uz_oo (by decide)]; exact (i335_5 w a b).symm
                    · rw [uz_n (by decide), uz_s]
                  · refine Z_aload_n (n := 343) dX4_init_342 rfl rfl ?_
                    refine Z_getA (n := 346) dX4_init_343 rfl ffX4_69 rfl rfl ?_
                    refine Z_iload_n (n := 347) dX4_init_346 rfl rfl ?_
                    refine Z_iconst (n := 348) dX4_init_347 rfl (by decide) ?_
                    refine Z_iast (n := 349) dX4_init_348 rfl rfl rfl (by first | decide | assumption) (by omega) (by omega) (by first | assumption | omega | decide) (by first | assumption | omega | decide) (by decide) ?_
                    have nx335 : ∀ b : Int, 0 ≤ b → b < k + 1 → uz M335 51 k (-1) 51 b = -1 := fun b a c => by
                      rw [uz_a]
                      split
                      · rfl
                      · exact i335_7 b a (by omega)
                    refine Z_iinc (L' := [_, _]) (n := 352) dX4_init_349 rfl rfl (by decide) rfl rfl (by omega) rfl ?_
                    refine Z_goto (t := 335) dX4_init_352 (by decide) ?_
                    refine Z_loc (L' := [some _, some _]) (lsub_same (lsub_same lsub_nil)) ?_
                    exact ih335 _ _ _ (by omega) (by first | rfl | assumption) (by first | assumption | omega | decide) (by first | assumption | omega | decide) (by first | exact mdl_st i302_3 (by decide) | exact mdl_st i335_3 (by decide)) (by first | (rw [uz_oo (by decide)]; exact i302_4) | (rw [uz_oo (by decide)]; exact i335_4)) (by first | exact idO_st i302_5 (by decide) (by decide) | exact idO_st i335_5 (by decide) (by decide)) (by first | (rw [uz_n (by decide)]; exact i302_6 (by omega)) | (rw [uz_oo (by decide)]; exact i335_6)) (by first | exact fun b a c => by omega | exact nx335)
              refine Z_loc (L' := [some _, some _]) (lsub_same (lsub_same lsub_nil)) ?_
              exact lp335 _ _ _ _ (Nat.lt_succ_self _) (by first | rfl | assumption) (by first | assumption | omega | decide) (by first | assumption | omega | decide) (by first | exact mdl_st i302_3 (by decide) | exact mdl_st i335_3 (by decide)) (by first | (rw [uz_oo (by decide)]; exact i302_4) | (rw [uz_oo (by decide)]; exact i335_4)) (by first | exact idO_st i302_5 (by decide) (by decide) | exact idO_st i335_5 (by decide) (by decide)) (by first | (rw [uz_n (by decide)]; exact i302_6 (by omega)) | (rw [uz_oo (by decide)]; exact i335_6)) (by first | exact fun b a c => by omega | exact nx335)
            · refine Z_aload_n (n := 310) dX4_init_309 rfl rfl ?_
              refine Z_getA (n := 313) dX4_init_310 rfl ffX4_66 rfl rfl ?_
              refine Z_iload_n (n := 314) dX4_init_313 rfl rfl ?_
              refine Z_iload_n (n := 315) dX4_init_314 rfl rfl ?_
              refine Z_iconst (n := 316) dX4_init_315 rfl (by decide) ?_
              refine Z_iadd (n := 317) dX4_init_316 rfl (by omega) ?_
              refine Z_iast (n := 318) dX4_init_317 rfl rfl rfl (by first | decide | assumption) (by omega) (by omega) (by first | assumption | omega | decide) (by first | assumption | omega | decide) (by decide) ?_
              have nx302 : 0 < k + 1 → uz M302 50 k (k + 1) 50 0 = 1 := fun _ => by
                rw [uz_a]
                split
                · omega
                · exact i302_6 (by omega)
              refine Z_iinc (L' := [_, _]) (n := 321) dX4_init_318 rfl rfl (by decide) rfl rfl (by omega) rfl ?_
              refine Z_goto (t := 302) dX4_init_321 (by decide) ?_
              refine Z_loc (L' := [some _, some _]) (lsub_same (lsub_same lsub_nil)) ?_
              exact ih302 _ _ _ (by omega) (by first | rfl | assumption) (by first | assumption | omega | decide) (by first | assumption | omega | decide) (by first | exact st3 | exact mdl_st i302_3 (by decide)) (by first | exact uz_s | (rw [uz_oo (by decide)]; exact i302_4)) (by first | exact st5 | exact idO_st i302_5 (by decide) (by decide)) (by first | exact fun q => by omega | exact nx302)
        refine Z_loc (L' := [some _, some _]) (lsub_same (lsub_same lsub_nil)) ?_
        exact lp302 _ _ _ _ (Nat.lt_succ_self _) (by first | rfl | assumption) (by first | assumption | omega | decide) (by first | assumption | omega | decide) (by first | exact st3 | exact mdl_st i302_3 (by decide)) (by first | exact uz_s | (rw [uz_oo (by decide)]; exact i302_4)) (by first | exact st5 | exact idO_st i302_5 (by decide) (by decide)) (by first | exact fun q => by omega | exact nx302)
      · refine Z_aload_n (n := 274) dX4_init_273 rfl rfl ?_
        refine Z_getA (n := 277) dX4_init_274 rfl ffX4_29 rfl rfl ?_
        refine Z_iload_n (n := 278) dX4_init_277 rfl rfl ?_
        refine Z_iload_n (n := 279) dX4_init_278 rfl rfl ?_
        refine Z_iast (n := 280) dX4_init_279 rfl rfl rfl (by first | decide | assumption) (by omega) (by omega) (by first | assumption | omega | decide) (by first | assumption | omega | decide) (by decide) ?_
        refine Z_aload_n (n := 281) dX4_init_280 rfl rfl ?_
        refine Z_getA (n := 284) dX4_init_281 rfl ffX4_32 rfl rfl ?_
        refine Z_iload_n (n := 285) dX4_init_284 rfl rfl ?_
        refine Z_iload_n (n := 286) dX4_init_285 rfl rfl ?_
        refine Z_iast (n := 287) dX4_init_286 rfl rfl rfl (by first | decide | assumption) (by omega) (by omega) (by first | assumption | omega | decide) (by first | assumption | omega | decide) (by decide) ?_
        have nx : idO (uz (uz M267 38 k k) 39 k k) (k + 1) := fun w a b => by
          rw [uz_oo (show (38 : Nat) ≠ 39 by decide), uz_a, uz_a, uz_oo (show (39 : Nat) ≠ 38 by decide)]
          by_cases e : w = k
          · rw [if_pos e, if_pos e]; exact ⟨e.symm, e.symm⟩
          · rw [if_neg e, if_neg e]; exact i267_5 w a (by omega)
        refine Z_iinc (L' := [_, _]) (n := 290) dX4_init_287 rfl rfl (by decide) rfl rfl (by omega) rfl ?_
        refine Z_goto (t := 267) dX4_init_290 (by decide) ?_
        refine Z_loc (L' := [some _, some _]) (lsub_same (lsub_same lsub_nil)) ?_
        exact ih267 _ _ _ (by omega) (by first | rfl | assumption) (by first | assumption | omega | decide) (by first | assumption | omega | decide) (by first | exact ⟨fun _ _ _ _ _ _ => rfl, fun _ _ => rfl⟩ | exact mdl_st (mdl_st i267_3 (by decide)) (by decide)) (by first | exact hM0 31 (by decide) 8 | (rw [uz_oo (by decide), uz_oo (by decide)]; exact i267_4)) (by first | exact fun w a b => by omega | exact nx)
  refine Z_loc (L' := [some _, some _]) (lsub_same (lsub_same lsub_nil)) ?_
  exact lp267 _ _ _ _ (Nat.lt_succ_self _) (by first | rfl | assumption) (by first | assumption | omega | decide) (by first | assumption | omega | decide) (by first | exact ⟨fun _ _ _ _ _ _ => rfl, fun _ _ => rfl⟩ | exact mdl_st (mdl_st i267_3 (by decide)) (by decide)) (by first | exact hM0 31 (by decide) 8 | (rw [uz_oo (by decide), uz_oo (by decide)]; exact i267_4)) (by first | exact fun w a b => by omega | exact nx)
