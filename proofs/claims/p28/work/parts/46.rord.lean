/-! ===== the reference: go, order ===== -/
abbrev kGr (a : Nat) : Prop := ¬ a = 31 ∧ ¬ (38 ≤ a ∧ a ≤ 42)
theorem hr_ltz {f : Int → Int} {v : Int} : ∀ {n : Nat}, 0 ≤ v → v < n → f v = 0 → hr f n < n
  | 0, h0, h1, _ => by omega
  | n + 1, h0, h1, h2 => by
    have h := hr_in f n
    unfold hr
    by_cases e : v = n
    · subst e
      rw [if_pos h2]
      omega
    · have := hr_ltz (n := n) h0 (by omega) h2
      split <;> omega
/-- found counts the places given -/
def fO (M : zM) : Prop := M 31 13 = hc (M 39) 8
def f31 (M M' : zM) : Prop := ∀ j : Int, j ≠ 12 → j ≠ 13 → M' 31 j = M 31 j
def goQ (M : zM) (g : Int) (M' : zM) : Prop := f31 M M' ∧ fO M' ∧ ((¬ M 40 g = 0 ∧ M' 31 12 = M 31 12 ∧ M' 40 = M 40 ∧ M' 41 = M 41 ∧ M' 42 = M 42) ∨ (hr (M' 40) 40 = hr (M 40) 40 + 1 ∧ M' 31 12 = M 31 12 + 1 ∧ M' 41 = updI (M 41) (M 31 12) g ∧ M' 42 = updI (M 42) (M 31 12) 0))
def go1 (M : zM) (g : Int) : zM := uz (uz (uz (uz M 40 g 1) 41 (M 31 12) g) 42 (M 31 12) 0) 31 12 (M 31 12 + 1)
theorem go1_o {M : zM} {g : Int} {a : Nat} (h1 : a ≠ 31) (h2 : a ≠ 40) (h3 : a ≠ 41) (h4 : a ≠ 42) : go1 M g a = M a := by
  unfold go1
  rw [uz_o h1, uz_o h4, uz_o h3, uz_o h2]
theorem go1_31 {M : zM} {g j : Int} (h : j ≠ 12) : go1 M g 31 j = M 31 j := by
  unfold go1
  rw [uz_n h, uz_oo (by decide), uz_oo (by decide), uz_oo (by decide)]
theorem go1_40 {M : zM} {g : Int} : go1 M g 40 = updI (M 40) g 1 := by
  unfold go1
  rw [uz_o (by decide), uz_o (by decide), uz_o (by decide), uz_fn]
theorem go1_41 {M : zM} {g : Int} : go1 M g 41 = updI (M 41) (M 31 12) g := by
  unfold go1
  rw [uz_o (by decide), uz_o (by decide), uz_fn, uz_o (by decide)]
theorem go1_42 {M : zM} {g : Int} : go1 M g 42 = updI (M 42) (M 31 12) 0 := by
  unfold go1
  rw [uz_o (by decide), uz_fn, uz_o (by decide), uz_o (by decide)]
theorem go1_12 {M : zM} {g : Int} : go1 M g 31 12 = M 31 12 + 1 := by
  unfold go1
  rw [uz_s]
theorem goQ_1 {M M' : zM} {g : Int} (hg : M 40 g = 0) (g0 : 0 ≤ g) (g1 : g < 40) (h31 : ∀ j : Int, j ≠ 13 → M' 31 j = go1 M g 31 j) (e : ∀ a : Nat, 40 ≤ a → a ≤ 42 → M' a = go1 M g a) (hf : fO M') : goQ M g M' := by
  refine ⟨fun j a b => (h31 j b).trans (go1_31 a), hf, Or.inr ⟨?_, (h31 12 (by decide)).trans go1_12, (e 41 (by decide) (by decide)).trans go1_41, (e 42 (by decide) (by decide)).trans go1_42⟩⟩
  rw [e 40 (by decide) (by decide), go1_40]
  exact hr_inc (v := g) g0 (by omega) hg (by rw [updI_s]; decide) (fun k hk => by rw [updI_n hk])
set_option maxRecDepth 20000 in
theorem zX4_go {G : tl_G} {M : zM} {J : zJ} {net g : Int} (n0 : 0 ≤ net) (n1 : net < 3) (g0 : 0 ≤ g) (g1 : g < 40) (hv : M 34 (40 * net + g) = 0 → 0 ≤ M 35 (3 * (40 * net + g)) ∧ M 35 (3 * (40 * net + g)) < 8) (hp : M 31 12 ≤ hr (M 40) 40) (hf : fO M) : ZN G yX4_go mX4_go 0 kGr [vR 31, vI net, vI g] F1 M J (qV (fun M' J' => J' = J ∧ goQ M g M')) := by
  refine ZN_of (L := [_, _, _, _]) (by decide) rfl rfl (Nat.le_of_ble_eq_true rfl) rfl (fun hav => ?_)
  refine Z_aload_n (n := 1) dX4_go_0 rfl rfl ?_
  refine Z_getA (n := 4) dX4_go_1 rfl ffX4_35 rfl rfl ?_
  refine Z_iload_n (n := 5) dX4_go_4 rfl rfl ?_
  refine Z_zald (n := 6) dX4_go_5 rfl rfl rfl (by first | decide | assumption) (by omega) (by omega) (fun r5 s5 => ?_)
  refine Z_if_ne (n := 9) (t := 122) dX4_go_6 rfl (by decide) (fun c6 => ?_) (fun c6 => ?_)
  · refine Z_vret dX4_go_122 rfl ?_
    first
      | exact ⟨rfl, fun j _ _ => rfl, hf, Or.inl ⟨c6, rfl, rfl, rfl, rfl⟩⟩
      | exact ⟨rfl, goQ_1 c6 g0 g1 (fun j _ => by rw [e43]) (fun a _ _ => by rw [e43]) hf43⟩
      | (refine ⟨rfl, goQ_1 c6 g0 g1 (fun j hj => by rw [uz_n hj, uz_oo (by decide), uz_oo (by decide), e43]) (fun a a0 a1 => by rw [uz_o (by omega), uz_o (by omega), uz_o (by omega), e43]) ?_⟩
         unfold fO
         rw [uz_s, uz_o (by decide), uz_o (by decide), uz_fn, e39, hf0]
         exact (hc_set (n := 8) (v := M 35 (3 * (40 * net + g))) hv0.1 (by omega) hm1 (by rw [updI_s]; omega) (fun k hk => updI_n hk)).symm)
  · have hlt := hr_ltz (f := M 40) (v := g) (n := 40) g0 (by omega) c6
    refine Z_rg 31 12 rfl (fun g12 g12b => ?_)
    refine Z_aload_n (n := 10) dX4_go_9 rfl rfl ?_
    refine Z_getA (n := 13) dX4_go_10 rfl ffX4_35 rfl rfl ?_
    refine Z_iload_n (n := 14) dX4_go_13 rfl rfl ?_
    refine Z_iconst (n := 15) dX4_go_14 rfl (by decide) ?_
    refine Z_zast (n := 16) dX4_go_15 rfl rfl rfl (by first | decide | assumption) (by omega) (by omega) (by first | assumption | omega | decide) (by first | assumption | omega | decide) (by decide) ?_
    refine Z_aload_n (n := 17) dX4_go_16 rfl rfl ?_
    refine Z_getA (n := 20) dX4_go_17 rfl ffX4_38 rfl rfl ?_
    refine Z_aload_n (n := 21) dX4_go_20 rfl rfl ?_
    refine Z_getI (n := 24) (ki := 12) dX4_go_21 rfl ffX4_135 rfl rfl rfl (fun r21 s21 => ?_)
    try simp only [uz_oo (show (31 : Nat) ≠ 40 by decide), uz_oo (show (31 : Nat) ≠ 41 by decide), uz_oo (show (31 : Nat) ≠ 42 by decide)] at r21 s21 ⊢
    refine Z_iload_n (n := 25) dX4_go_24 rfl rfl ?_
    refine Z_iast (n := 26) dX4_go_25 rfl rfl rfl (by first | decide | assumption) (by omega) (by omega) (by first | assumption | omega | decide) (by first | assumption | omega | decide) (by decide) ?_
    refine Z_aload_n (n := 27) dX4_go_26 rfl rfl ?_
    refine Z_getA (n := 30) dX4_go_27 rfl ffX4_41 rfl rfl ?_
    refine Z_aload_n (n := 31) dX4_go_30 rfl rfl ?_
    refine Z_getI (n := 34) (ki := 12) dX4_go_31 rfl ffX4_135 rfl rfl rfl (fun r31 s31 => ?_)
    try simp only [uz_oo (show (31 : Nat) ≠ 40 by decide), uz_oo (show (31 : Nat) ≠ 41 by decide), uz_oo (show (31 : Nat) ≠ 42 by decide)] at r31 s31 ⊢
    refine Z_iconst (n := 35) dX4_go_34 rfl (by decide) ?_
    refine Z_iast (n := 36) dX4_go_35 rfl rfl rfl (by first | decide | assumption) (by omega) (by omega) (by first | assumption | omega | decide) (by first | assumption | omega | decide) (by decide) ?_
    refine Z_aload_n (n := 37) dX4_go_36 rfl rfl ?_
    refine Z_dup (n := 38) dX4_go_37 rfl rfl ?_
    refine Z_getI (n := 41) (ki := 12) dX4_go_38 rfl ffX4_135 rfl rfl rfl (fun r38 s38 => ?_)
    try simp only [uz_oo (show (31 : Nat) ≠ 40 by decide), uz_oo (show (31 : Nat) ≠ 41 by decide), uz_oo (show (31 : Nat) ≠ 42 by decide)] at r38 s38 ⊢
    refine Z_iconst (n := 42) dX4_go_41 rfl (by decide) ?_
    refine Z_iadd (n := 43) dX4_go_42 rfl (by omega) ?_
    refine Z_putI (n := 46) (ki := 12) dX4_go_43 rfl ffX4_135 rfl (by decide) rfl rfl (by first | assumption | omega | decide) (by first | assumption | omega | decide) (by decide) ?_
    refine Z_nm (fun M43 e43 => ?_)
    replace e43 : M43 = go1 M g := e43
    have e34 : M43 34 = M 34 := by rw [e43]; exact go1_o (by decide) (by decide) (by decide) (by decide)
    have e35 : M43 35 = M 35 := by rw [e43]; exact go1_o (by decide) (by decide) (by decide) (by decide)
    have e39 : M43 39 = M 39 := by rw [e43]; exact go1_o (by decide) (by decide) (by decide) (by decide)
    have e13 : M43 31 13 = M 31 13 := by rw [e43]; exact go1_31 (by decide)
    have hf43 : fO M43 := by unfold fO; rw [e13, e39]; exact hf
    refine Z_bipush (n := 48) dX4_go_46 rfl (by decide) (by decide) ?_
    refine Z_iload_n (n := 49) dX4_go_48 rfl rfl ?_
    refine Z_imul (n := 50) dX4_go_49 rfl (by omega) ?_
    refine Z_iload_n (n := 51) dX4_go_50 rfl rfl ?_
    refine Z_iadd (n := 52) dX4_go_51 rfl (by omega) ?_
    refine Z_istore_n (L' := [_, _, _, _]) (n := 53) dX4_go_52 rfl (by decide) rfl rfl ?_
    refine Z_aload_n (n := 54) dX4_go_53 rfl rfl ?_
    refine Z_getA (n := 57) dX4_go_54 rfl ffX4_16 rfl rfl ?_
    refine Z_iload_n (n := 58) dX4_go_57 rfl rfl ?_
    refine Z_iald (n := 59) dX4_go_58 rfl rfl rfl (by first | decide | assumption) (by omega) (by omega) (fun r58 s58 => ?_)
    try simp only [e34] at r58 s58 ⊢
    refine Z_if_ne (n := 62) (t := 122) dX4_go_59 rfl (by decide) (fun c59 => ?_) (fun c59 => ?_)
    · refine Z_vret dX4_go_122 rfl ?_
      first
        | exact ⟨rfl, fun j _ _ => rfl, hf, Or.inl ⟨c6, rfl, rfl, rfl, rfl⟩⟩
        | exact ⟨rfl, goQ_1 c6 g0 g1 (fun j _ => by rw [e43]) (fun a _ _ => by rw [e43]) hf43⟩
        | (refine ⟨rfl, goQ_1 c6 g0 g1 (fun j hj => by rw [uz_n hj, uz_oo (by decide), uz_oo (by decide), e43]) (fun a a0 a1 => by rw [uz_o (by omega), uz_o (by omega), uz_o (by omega), e43]) ?_⟩
           unfold fO
           rw [uz_s, uz_o (by decide), uz_o (by decide), uz_fn, e39, hf0]
           exact (hc_set (n := 8) (v := M 35 (3 * (40 * net + g))) hv0.1 (by omega) hm1 (by rw [updI_s]; omega) (fun k hk => updI_n hk)).symm)
    · have hv0 := hv c59
      refine Z_aload_n (n := 63) dX4_go_62 rfl rfl ?_
      refine Z_getA (n := 66) dX4_go_63 rfl ffX4_32 rfl rfl ?_
      refine Z_aload_n (n := 67) dX4_go_66 rfl rfl ?_
      refine Z_getA (n := 70) dX4_go_67 rfl ffX4_19 rfl rfl ?_
      refine Z_iconst (n := 71) dX4_go_70 rfl (by decide) ?_
      refine Z_iload_n (n := 72) dX4_go_71 rfl rfl ?_
      refine Z_imul (n := 73) dX4_go_72 rfl (by omega) ?_
      refine Z_iald (n := 74) dX4_go_73 rfl rfl rfl (by first | decide | assumption) (by omega) (by omega) (fun r73 s73 => ?_)
      try simp only [e35] at r73 s73 ⊢
      refine Z_iald (n := 75) dX4_go_74 rfl rfl rfl (by first | decide | assumption) (by omega) (by omega) (fun r74 s74 => ?_)
      try simp only [e39] at r74 s74 ⊢
      refine Z_if_ge (n := 78) (t := 122) dX4_go_75 rfl (by decide) (fun c75 => ?_) (fun c75 => ?_)
      · refine Z_vret dX4_go_122 rfl ?_
        first
          | exact ⟨rfl, fun j _ _ => rfl, hf, Or.inl ⟨c6, rfl, rfl, rfl, rfl⟩⟩
          | exact ⟨rfl, goQ_1 c6 g0 g1 (fun j _ => by rw [e43]) (fun a _ _ => by rw [e43]) hf43⟩
          | (refine ⟨rfl, goQ_1 c6 g0 g1 (fun j hj => by rw [uz_n hj, uz_oo (by decide), uz_oo (by decide), e43]) (fun a a0 a1 => by rw [uz_o (by omega), uz_o (by omega), uz_o (by omega), e43]) ?_⟩
             unfold fO
             rw [uz_s, uz_o (by decide), uz_o (by decide), uz_fn, e39, hf0]
             exact (hc_set (n := 8) (v := M 35 (3 * (40 * net + g))) hv0.1 (by omega) hm1 (by rw [updI_s]; omega) (fun k hk => updI_n hk)).symm)
      · refine Z_rg 39 (M 35 (3 * (40 * net + g))) rfl (fun r39 r39b => ?_)
        rw [e39] at r39
        have hm1 : M 39 (M 35 (3 * (40 * net + g))) = -1 := by omega
        have hl8 := hc_lt (f := M 39) (n := 8) hv0.1 (by omega) hm1
        have hf0 : M 31 13 = hc (M 39) 8 := hf
        refine Z_rg 31 13 rfl (fun r13 r13b => ?_)
        rw [e13] at r13
        refine Z_aload_n (n := 79) dX4_go_78 rfl rfl ?_
        refine Z_getA (n := 82) dX4_go_79 rfl ffX4_32 rfl rfl ?_
        refine Z_aload_n (n := 83) dX4_go_82 rfl rfl ?_
        refine Z_getA (n := 86) dX4_go_83 rfl ffX4_19 rfl rfl ?_
        refine Z_iconst (n := 87) dX4_go_86 rfl (by decide) ?_
        refine Z_iload_n (n := 88) dX4_go_87 rfl rfl ?_
        refine Z_imul (n := 89) dX4_go_88 rfl (by omega) ?_
        refine Z_iald (n := 90) dX4_go_89 rfl rfl rfl (by first | decide | assumption) (by omega) (by omega) (fun r89 s89 => ?_)
        try simp only [e35] at r89 s89 ⊢
        refine Z_aload_n (n := 91) dX4_go_90 rfl rfl ?_
        refine Z_getI (n := 94) (ki := 13) dX4_go_91 rfl ffX4_138 rfl rfl rfl (fun r91 s91 => ?_)
        try simp only [uz_oo (show (31 : Nat) ≠ 39 by decide), e13] at r91 s91 ⊢
        refine Z_iast (n := 95) dX4_go_94 rfl rfl rfl (by first | decide | assumption) (by omega) (by omega) (by first | assumption | omega | decide) (by first | assumption | omega | decide) (by decide) ?_
        refine Z_aload_n (n := 96) dX4_go_95 rfl rfl ?_
        refine Z_getA (n := 99) dX4_go_96 rfl ffX4_29 rfl rfl ?_
        refine Z_aload_n (n := 100) dX4_go_99 rfl rfl ?_
        refine Z_getI (n := 103) (ki := 13) dX4_go_100 rfl ffX4_138 rfl rfl rfl (fun r100 s100 => ?_)
        try simp only [uz_oo (show (31 : Nat) ≠ 39 by decide), e13] at r100 s100 ⊢
        refine Z_aload_n (n := 104) dX4_go_103 rfl rfl ?_
        refine Z_getA (n := 107) dX4_go_104 rfl ffX4_19 rfl rfl ?_
        refine Z_iconst (n := 108) dX4_go_107 rfl (by decide) ?_
        refine Z_iload_n (n := 109) dX4_go_108 rfl rfl ?_
        refine Z_imul (n := 110) dX4_go_109 rfl (by omega) ?_
        refine Z_iald (n := 111) dX4_go_110 rfl rfl rfl (by first | decide | assumption) (by omega) (by omega) (fun r110 s110 => ?_)
        try simp only [uz_oo (show (35 : Nat) ≠ 39 by decide), e35] at r110 s110 ⊢
        refine Z_iast (n := 112) dX4_go_111 rfl rfl rfl (by first | decide | assumption) (by omega) (by omega) (by first | assumption | omega | decide) (by first | assumption | omega | decide) (by decide) ?_
        refine Z_aload_n (n := 113) dX4_go_112 rfl rfl ?_
        refine Z_dup (n := 114) dX4_go_113 rfl rfl ?_
        refine Z_getI (n := 117) (ki := 13) dX4_go_114 rfl ffX4_138 rfl rfl rfl (fun r114 s114 => ?_)
        try simp only [uz_oo (show (31 : Nat) ≠ 38 by decide), uz_oo (show (31 : Nat) ≠ 39 by decide), e13] at r114 s114 ⊢
        refine Z_iconst (n := 118) dX4_go_117 rfl (by decide) ?_
        refine Z_iadd (n := 119) dX4_go_118 rfl (by omega) ?_
        refine Z_putI (n := 122) (ki := 13) dX4_go_119 rfl ffX4_138 rfl (by decide) rfl rfl (by first | assumption | omega | decide) (by first | assumption | omega | decide) (by decide) ?_
        refine Z_vret dX4_go_122 rfl ?_
        first
          | exact ⟨rfl, fun j _ _ => rfl, hf, Or.inl ⟨c6, rfl, rfl, rfl, rfl⟩⟩
          | exact ⟨rfl, goQ_1 c6 g0 g1 (fun j _ => by rw [e43]) (fun a _ _ => by rw [e43]) hf43⟩
          | (refine ⟨rfl, goQ_1 c6 g0 g1 (fun j hj => by rw [uz_n hj, uz_oo (by decide), uz_oo (by decide), e43]) (fun a a0 a1 => by rw [uz_o (by omega), uz_o (by omega), uz_o (by omega), e43]) ?_⟩
             unfold fO
             rw [uz_s, uz_o (by decide), uz_o (by decide), uz_fn, e39, hf0]
             exact (hc_set (n := 8) (v := M 35 (3 * (40 * net + g))) hv0.1 (by omega) hm1 (by rw [updI_s]; omega) (fun k hk => updI_n hk)).symm)
abbrev kOr (a : Nat) : Prop := ¬ a = 31 ∧ ¬ (38 ≤ a ∧ a ≤ 42)
def chs (f : Int → Int) : Nat → Int
  | 0 => 0
  | n + 1 => chs f n + (4 - f (n : Int))
theorem chs_in {f : Int → Int} (h : ∀ k, f k ≤ 3) : ∀ n : Nat, 0 ≤ chs f n
  | 0 => by simp [chs]
  | n + 1 => by
    have := chs_in h n
    have := h n
    unfold chs
    omega
theorem chs_out {f : Int → Int} {k v : Int} : ∀ {n : Nat}, (n : Int) ≤ k → chs (updI f k v) n = chs f n
  | 0, _ => rfl
  | n + 1, h => by
    unfold chs
    rw [chs_out (n := n) (by omega), updI_n (by omega)]
theorem chs_set {f : Int → Int} {k v : Int} : ∀ {n : Nat}, 0 ≤ k → k < n → chs (updI f k v) n = chs f n + f k - v
  | 0, h0, h1 => by omega
  | n + 1, h0, h1 => by
    unfold chs
    by_cases e : k = n
    · subst e
      rw [chs_out (Int.le_refl _), updI_s]
      omega
    · rw [chs_set (n := n) h0 (by omega), updI_n (by omega)]
      omega
theorem chs_dn {f : Int → Int} {p : Int} (h : 0 < p) : chs f p.toNat = chs f (p - 1).toNat + (4 - f (p - 1)) := by
  rw [show p.toNat = (p - 1).toNat + 1 by omega]
  show chs f (p - 1).toNat + (4 - f ((p - 1).toNat : Int)) = _
  rw [Int.toNat_of_nonneg (by omega)]
/-- the pile: gates of the net, with which of what they are told of is next -/
def plO (M0 M : zM) (net : Int) : Prop := fO M ∧ M 31 12 ≤ hr (M 40) 40 ∧ ∀ j : Int, 0 ≤ j → j < M 31 12 → M 41 j < M0 32 net ∧ M 42 j ≤ opF (M0 34 (40 * net + M 41 j))
def muO (M : zM) : Int := 5 * (40 - hr (M 40) 40) + chs (M 42) (M 31 12).toNat
theorem plO_go {M0 M M' : zM} {net g : Int} (h : plO M0 M net) (hq : goQ M g M') (hg : g < M0 32 net) (hp : 0 ≤ M 31 12) : plO M0 M' net ∧ muO M' ≤ muO M := by
  obtain ⟨h1, h2, h3⟩ := h
  obtain ⟨q1, q2, ⟨-, q4, q5, q6, q7⟩ | ⟨q4, q5, q6, q7⟩⟩ := hq
  · refine ⟨⟨q2, ?_, ?_⟩, ?_⟩
    · rw [q4, q5]; exact h2
    · rw [q4, q6, q7]; exact h3
    · unfold muO; rw [q4, q5, q7]; exact Int.le_refl _
  · refine ⟨⟨q2, ?_, fun j j0 j1 => ?_⟩, ?_⟩
    · rw [q4, q5]; omega
    · rw [q6, q7]
      by_cases e : j = M 31 12
      · rw [e, updI_s, updI_s]; exact ⟨hg, (opF_in _).1⟩
      · rw [updI_n e, updI_n e]; exact h3 j j0 (by omega)
    · unfold muO
      rw [q4, q5, q7, chs_dn (show 0 < M 31 12 + 1 by omega), show M 31 12 + 1 - 1 = M 31 12 by omega, updI_s, chs_out (by omega)]
      omega
theorem mu_in {M : zM} (hok : zOK M) : 0 ≤ muO M := by
  have h1 := hr_in (M 40) 40
  have h2 := chs_in (f := M 42) (fun k => (show 0 ≤ M 42 k ∧ M 42 k ≤ 3 from hok 42 k).2) (M 31 12).toNat
  unfold muO
  omega
theorem plO_pop {M0 M : zM} {net : Int} (h : plO M0 M net) (hok : zOK M) (hp : 0 < M 31 12) : plO M0 (uz M 31 12 (M 31 12 - 1)) net ∧ muO (uz M 31 12 (M 31 12 - 1)) < muO M := by
  obtain ⟨h1, h2, h3⟩ := h
  have o : ∀ a : Nat, a ≠ 31 → uz M 31 12 (M 31 12 - 1) a = M a := fun a ha => uz_o ha
  refine ⟨⟨?_, ?_, fun j j0 j1 => ?_⟩, ?_⟩
  · unfold fO; rw [uz_n (by decide), o 39 (by decide)]; exact h1
  · rw [uz_s, o 40 (by decide)]; omega
  · rw [uz_s] at j1
    rw [o 41 (by decide), o 42 (by decide)]
    exact h3 j j0 (by omega)
  · unfold muO
    rw [uz_s, o 40 (by decide), o 42 (by decide), chs_dn hp]
    have : 0 ≤ M 42 (M 31 12 - 1) ∧ M 42 (M 31 12 - 1) ≤ 3 := hok 42 _
    omega
theorem plO_ch {M0 M : zM} {net : Int} (h : plO M0 M net) (hp : 0 < M 31 12) (hc : M 42 (M 31 12 - 1) < opF (M0 34 (40 * net + M 41 (M 31 12 - 1)))) : plO M0 (uz M 42 (M 31 12 - 1) (M 42 (M 31 12 - 1) + 1)) net ∧ muO (uz M 42 (M 31 12 - 1) (M 42 (M 31 12 - 1) + 1)) < muO M := by
  obtain ⟨h1, h2, h3⟩ := h
  have o : ∀ a : Nat, a ≠ 42 → uz M 42 (M 31 12 - 1) (M 42 (M 31 12 - 1) + 1) a = M a := fun a ha => uz_o ha
  refine ⟨⟨?_, ?_, fun j j0 j1 => ?_⟩, ?_⟩
  · unfold fO; rw [o 31 (by decide), o 39 (by decide)]; exact h1
  · rw [o 31 (by decide), o 40 (by decide)]; exact h2
  · rw [o 31 (by decide)] at j1
    rw [o 41 (by decide), uz_fn]
    by_cases e : j = M 31 12 - 1
    · rw [e, updI_s]; exact ⟨(h3 _ (by omega) (by omega)).1, by omega⟩
    · rw [updI_n e]; exact h3 j j0 j1
  · unfold muO
    rw [o 31 (by decide), o 40 (by decide), uz_fn, chs_set (by omega) (by omega)]
    omega
set_option maxRecDepth 20000 in
theorem zX4_order_s {G : tl_G} {M : zM} {J : zJ} {net : Int} (hN : ∀ net : Int, 0 ≤ net → net < 3 → rNt M net) (hO : rOrd M) : ZN G yX4_order mX4_order 3 kOr [vR 31, vI net] F1 M J (qI (fun x M' J' => J' = J ∧ f31 M M' ∧ rOrd M')) := by
  refine ZN_of (L := [_, _, _, _, _]) (by decide) rfl rfl (Nat.le_of_ble_eq_true rfl) rfl (fun hav => ?_)
  refine Z_iload_n (n := 1) dX4_order_0 rfl rfl ?_
  refine Z_callSi (n := 4) [_] _ dX4_order_1 rfl cwX4_116 rfl rfl (Nat.le_of_ble_eq_true rfl) (by refine ⟨?_, ?_, ?_, ?_⟩ <;> exact Nat.le_of_ble_eq_true rfl) (fun _ _ => trivial) (zX4_isNet  ) ?_
  intro x1 M1 J1 z1 f1 q1
  obtain ⟨e1_1, e1_2, h1⟩ := q1
  replace e1_1 := e1_1.symm; subst e1_1
  replace e1_2 := e1_2.symm; subst e1_2
  refine Z_if_ne (n := 7) (t := 9) dX4_order_4 rfl (by decide) (fun c4 => ?_) (fun c4 => ?_)
  · refine Z_aload_n (n := 10) dX4_order_9 rfl rfl ?_
    refine Z_callVi (n := 13) [] _ dX4_order_10 rfl cwX4_141 rfl rfl rfl (Nat.le_of_ble_eq_true rfl) (by refine ⟨?_, ?_, ?_, ?_⟩ <;> exact Nat.le_of_ble_eq_true rfl) (fun _ _ => trivial) (zX4_isEmpty  ) ?_
    intro x10 M10 J10 z10 f10 q10
    obtain ⟨e10_1, e10_2, h10⟩ := q10
    replace e10_1 := e10_1.symm; subst e10_1
    replace e10_2 := e10_2.symm; subst e10_2
    refine Z_if_ne (n := 16) (t := 19) dX4_order_13 rfl (by decide) (fun c13 => ?_) (fun c13 => ?_)
    · refine Z_rg 33 net rfl (fun g33 g33b => ?_)
      refine Z_rg 32 net rfl (fun g32 g32b => ?_)
      have hNn := hN net (by omega) (by omega)
      refine Z_aload_n (n := 20) dX4_order_19 rfl rfl ?_
      refine Z_iconst (n := 21) dX4_order_20 rfl (by decide) ?_
      refine Z_putI (n := 24) (ki := 13) dX4_order_21 rfl ffX4_138 rfl (by decide) rfl rfl (by first | assumption | omega | decide) (by first | assumption | omega | decide) (by decide) ?_
      refine Z_aload_n (n := 25) dX4_order_24 rfl rfl ?_
      refine Z_iconst (n := 26) dX4_order_25 rfl (by decide) ?_
      refine Z_putI (n := 29) (ki := 12) dX4_order_26 rfl ffX4_135 rfl (by decide) rfl rfl (by first | assumption | omega | decide) (by first | assumption | omega | decide) (by decide) ?_
      refine Z_iconst (n := 30) dX4_order_29 rfl (by decide) ?_
      refine Z_istore_n (L' := [_, _, _, _, _]) (n := 31) dX4_order_30 rfl (by decide) rfl rfl ?_
      have lp31 : ∀ (N31 : Nat) (k : Int) (M31 : zM) (J31 : zJ), ((40 - k).toNat) < N31 → (J31 = J) → (0 ≤ k) → (k ≤ 40) → (f31 M M31) → (M31 31 13 = 0) → (M31 31 12 = 0) → (∀ x : Int, 0 ≤ x → x < k → M31 40 x = 0) → TZ G mX4_order (tl_rm 3 0 0) 0 0 kOr M J 31 [some (vR 31), some (vI net), some (vI k), none, none] [] F1 M31 J31 (ZM G (zPost G kOr F1 M J (qI (fun x M' J' => J' = J ∧ f31 M M' ∧ rOrd M'))) 0 0) := by
        intro N31
        induction N31 with
        | zero => intro k M31 J31 hN; omega
        | succ N31 ih31 =>
          intro k M31 J31 hN31 i31_0 i31_1 i31_2 i31_3 i31_4 i31_5 i31_6
          refine Z_iload_n (n := 32) dX4_order_31 rfl rfl ?_
          refine Z_bipush (n := 34) dX4_order_32 rfl (by decide) (by decide) ?_
          refine Z_icmp_ge (n := 37) (t := 50) dX4_order_34 rfl (by decide) (fun c34 => ?_) (fun c34 => ?_)
          · refine Z_iconst (n := 51) dX4_order_50 rfl (by decide) ?_
            refine Z_istore_n (L' := [_, _, _, _, _]) (n := 52) dX4_order_51 rfl (by decide) rfl rfl ?_
            have lp52 : ∀ (N52 : Nat) (k : Int) (M52 : zM) (J52 : zJ), ((8 - k).toNat) < N52 → (J52 = J) → (0 ≤ k) → (k ≤ 8) → (f31 M M52) → (M52 31 13 = 0) → (M52 31 12 = 0) → (∀ x : Int, 0 ≤ x → x < 40 → M52 40 x = 0) → (∀ v : Int, 0 ≤ v → v < k → M52 39 v = -1) → TZ G mX4_order (tl_rm 3 0 0) 0 0 kOr M J 52 [some (vR 31), some (vI net), some (vI k), none, none] [] F1 M52 J52 (ZM G (zPost G kOr F1 M J (qI (fun x M' J' => J' = J ∧ f31 M M' ∧ rOrd M'))) 0 0) := by
              intro N52
              induction N52 with
              | zero => intro k M52 J52 hN; omega
              | succ N52 ih52 =>
                intro k M52 J52 hN52 i52_0 i52_1 i52_2 i52_3 i52_4 i52_5 i52_6 i52_7
                refine Z_iload_n (n := 53) dX4_order_52 rfl rfl ?_
                refine Z_bipush (n := 55) dX4_order_53 rfl (by decide) (by decide) ?_
                refine Z_icmp_ge (n := 58) (t := 71) dX4_order_55 rfl (by decide) (fun c55 => ?_) (fun c55 => ?_)
                · have st73 : plO M M52 net := by
                    refine ⟨?_, ?_, fun j a b => by omega⟩
                    · unfold fO
                      rw [i52_4, hc_zero (fun v a b => i52_7 v a (by omega))]
                    · rw [i52_5, hr_zero (fun x a b => i52_6 x a (by omega))]
                      decide
                  refine Z_iconst (n := 72) dX4_order_71 rfl (by decide) ?_
                  refine Z_istore_n (L' := [_, _, _, _, _]) (n := 73) dX4_order_72 rfl (by decide) rfl rfl ?_
                  have lp73 : ∀ (N73 : Nat) (o : Int) (M73 : zM) (J73 : zJ), ((4 - o).toNat) < N73 → (J73 = J) → (0 ≤ o) → (o ≤ 4) → (f31 M M73) → (plO M M73 net) → (M73 31 12 = 0) → TZ G mX4_order (tl_rm 3 0 0) 0 0 kOr M J 73 [some (vR 31), some (vI net), some (vI o), none, none] [] F1 M73 J73 (ZM G (zPost G kOr F1 M J (qI (fun x M' J' => J' = J ∧ f31 M M' ∧ rOrd M'))) 0 0) := by
                    intro N73
                    induction N73 with
                    | zero => intro o M73 J73 hN; omega
                    | succ N73 ih73 =>
                      intro o M73 J73 hN73 i73_0 i73_1 i73_2 i73_3 i73_4 i73_5
                      refine Z_iload_n (n := 74) dX4_order_73 rfl rfl ?_
                      refine Z_aload_n (n := 75) dX4_order_74 rfl rfl ?_
                      refine Z_getA (n := 78) dX4_order_75 rfl ffX4_13 rfl rfl ?_
                      refine Z_iload_n (n := 79) dX4_order_78 rfl rfl ?_
                      refine Z_iald (n := 80) dX4_order_79 rfl rfl rfl (by first | decide | assumption) (by omega) (by omega) (fun r79 s79 => ?_)
                      refine Z_icmp_ge (n := 83) (t := 202) dX4_order_80 rfl (by decide) (fun c80 => ?_) (fun c80 => ?_)
                      · refine Z_aload_n (n := 203) dX4_order_202 rfl rfl ?_
                        refine Z_getI (n := 206) (ki := 13) dX4_order_203 rfl ffX4_138 rfl rfl rfl (fun r203 s203 => ?_)
                        refine Z_istore_n (L' := [_, _, _, _, _]) (n := 207) dX4_order_206 rfl (by decide) rfl rfl ?_
                        refine Z_iconst (n := 208) dX4_order_207 rfl (by decide) ?_
                        refine Z_istore_n (L' := [_, _, _, _, _]) (n := 209) dX4_order_208 rfl (by decide) rfl rfl ?_
                        have lp209 : ∀ (N209 : Nat) (mt v : Int) (M209 : zM) (J209 : zJ), ((8 - v).toNat) < N209 → (J209 = J) → (0 ≤ v) → (v ≤ 8) → (f31 M M209) → (fO M209) → (∀ w : Int, 0 ≤ w → w < v → 0 ≤ M209 39 w) → TZ G mX4_order (tl_rm 3 0 0) 0 0 kOr M J 209 [some (vR 31), some (vI net), some (vI mt), some (vI v), none] [] F1 M209 J209 (ZM G (zPost G kOr F1 M J (qI (fun x M' J' => J' = J ∧ f31 M M' ∧ rOrd M'))) 0 0) := by
                          intro N209
                          induction N209 with
                          | zero => intro mt v M209 J209 hN; omega
                          | succ N209 ih209 =>
                            intro mt v M209 J209 hN209 i209_0 i209_1 i209_2 i209_3 i209_4 i209_5
                            refine Z_iload_n (n := 210) dX4_order_209 rfl rfl ?_
                            refine Z_bipush (n := 212) dX4_order_210 rfl (by decide) (by decide) ?_
                            refine Z_icmp_ge (n := 215) (t := 260) dX4_order_212 rfl (by decide) (fun c212 => ?_) (fun c212 => ?_)
                            · refine Z_iload_n (n := 261) dX4_order_260 rfl rfl ?_
                              refine Z_iret dX4_order_261 rfl ?_
                              exact ⟨i209_0, i209_3, fun w a b => i209_5 w a (by omega)⟩
                            · refine Z_aload_n (n := 216) dX4_order_215 rfl rfl ?_
                              refine Z_getA (n := 219) dX4_order_216 rfl ffX4_32 rfl rfl ?_
                              refine Z_iload_n (n := 220) dX4_order_219 rfl rfl ?_
                              refine Z_iald (n := 221) dX4_order_220 rfl rfl rfl (by first | decide | assumption) (by omega) (by omega) (fun r220 s220 => ?_)
                              refine Z_if_ge (n := 224) (t := 254) dX4_order_221 rfl (by decide) (fun c221 => ?_) (fun c221 => ?_)
                              · have r3 := i209_3
                                have r4 := i209_4
                                have r5 : ∀ w : Int, 0 ≤ w → w < v + 1 → 0 ≤ M209 39 w := fun w a b => by
                                  by_cases e : w = v
                                  · rw [e]; omega
                                  · exact i209_5 w a (by omega)
                                refine Z_iinc (L' := [_, _, _, _, _]) (n := 257) dX4_order_254 rfl rfl (by decide) rfl rfl (by omega) rfl ?_
                                refine Z_goto (t := 209) dX4_order_257 (by decide) ?_
                                refine Z_loc (L' := [some _, some _, some _, some _, none]) (lsub_same (lsub_same (lsub_same (lsub_same (lsub_none lsub_nil))))) ?_
                                exact ih209 _ _ _ _ (by omega) (by assumption) (by first | assumption | omega | decide) (by first | assumption | omega | decide) (by exact r3) (by exact r4) (by exact r5)
                              · refine Z_rg 39 v rfl (fun g39 g39b => ?_)
                                have hm1 : M209 39 v = -1 := by omega
                                have hl8 := hc_lt (f := M209 39) (n := 8) (v := v) (by omega) (by omega) hm1
                                have hf0 : M209 31 13 = hc (M209 39) 8 := i209_4
                                refine Z_rg 31 13 rfl (fun r13 r13b => ?_)
                                refine Z_aload_n (n := 225) dX4_order_224 rfl rfl ?_
                                refine Z_getA (n := 228) dX4_order_225 rfl ffX4_32 rfl rfl ?_
                                refine Z_iload_n (n := 229) dX4_order_228 rfl rfl ?_
                                refine Z_aload_n (n := 230) dX4_order_229 rfl rfl ?_
                                refine Z_getI (n := 233) (ki := 13) dX4_order_230 rfl ffX4_138 rfl rfl rfl (fun r230 s230 => ?_)
                                refine Z_iast (n := 234) dX4_order_233 rfl rfl rfl (by first | decide | assumption) (by omega) (by omega) (by first | assumption | omega | decide) (by first | assumption | omega | decide) (by decide) ?_
                                refine Z_aload_n (n := 235) dX4_order_234 rfl rfl ?_
                                refine Z_getA (n := 238) dX4_order_235 rfl ffX4_29 rfl rfl ?_
                                refine Z_aload_n (n := 239) dX4_order_238 rfl rfl ?_
                                refine Z_getI (n := 242) (ki := 13) dX4_order_239 rfl ffX4_138 rfl rfl rfl (fun r239 s239 => ?_)
                                try simp only [uz_oo (show (31 : Nat) ≠ 39 by decide)] at r239 s239 ⊢
                                refine Z_iload_n (n := 243) dX4_order_242 rfl rfl ?_
                                refine Z_iast (n := 244) dX4_order_243 rfl rfl rfl (by first | decide | assumption) (by omega) (by omega) (by first | assumption | omega | decide) (by first | assumption | omega | decide) (by decide) ?_
                                refine Z_aload_n (n := 245) dX4_order_244 rfl rfl ?_
                                refine Z_dup (n := 246) dX4_order_245 rfl rfl ?_
                                refine Z_getI (n := 249) (ki := 13) dX4_order_246 rfl ffX4_138 rfl rfl rfl (fun r246 s246 => ?_)
                                try simp only [uz_oo (show (31 : Nat) ≠ 38 by decide), uz_oo (show (31 : Nat) ≠ 39 by decide)] at r246 s246 ⊢
                                refine Z_iconst (n := 250) dX4_order_249 rfl (by decide) ?_
                                refine Z_iadd (n := 251) dX4_order_250 rfl (by omega) ?_
                                refine Z_putI (n := 254) (ki := 13) dX4_order_251 rfl ffX4_138 rfl (by decide) rfl rfl (by first | assumption | omega | decide) (by first | assumption | omega | decide) (by decide) ?_
                                have r3 : f31 M (uz (uz (uz M209 39 v (M209 31 13)) 38 (M209 31 13) v) 31 13 (M209 31 13 + 1)) := fun j a b => by rw [uz_n b, uz_oo (by decide), uz_oo (by decide)]; exact i209_3 j a b
                                have r4 : fO (uz (uz (uz M209 39 v (M209 31 13)) 38 (M209 31 13) v) 31 13 (M209 31 13 + 1)) := by
                                  unfold fO
                                  rw [uz_s, uz_o (by decide), uz_o (by decide), uz_fn, hf0]
                                  exact (hc_set (n := 8) (v := v) (by omega) (by omega) hm1 (by rw [updI_s]; omega) (fun k hk => updI_n hk)).symm
                                have r5 : ∀ w : Int, 0 ≤ w → w < v + 1 → 0 ≤ uz (uz (uz M209 39 v (M209 31 13)) 38 (M209 31 13) v) 31 13 (M209 31 13 + 1) 39 w := fun w a b => by
                                  rw [uz_oo (by decide), uz_oo (by decide), uz_a]
                                  split
                                  · exact r13
                                  · exact i209_5 w a (by omega)
                                refine Z_iinc (L' := [_, _, _, _, _]) (n := 257) dX4_order_254 rfl rfl (by decide) rfl rfl (by omega) rfl ?_
                                refine Z_goto (t := 209) dX4_order_257 (by decide) ?_
                                refine Z_loc (L' := [some _, some _, some _, some _, none]) (lsub_same (lsub_same (lsub_same (lsub_same (lsub_none lsub_nil))))) ?_
                                exact ih209 _ _ _ _ (by omega) (by assumption) (by first | assumption | omega | decide) (by first | assumption | omega | decide) (by exact r3) (by exact r4) (by exact r5)
                        refine Z_loc (L' := [some _, some _, some _, some _, none]) (lsub_same (lsub_same (lsub_same (lsub_same (lsub_none lsub_nil))))) ?_
                        exact lp209 _ _ _ _ _ (Nat.lt_succ_self _) (by assumption) (by first | assumption | omega | decide) (by first | assumption | omega | decide) (by exact i73_3) (by exact i73_4.1) (by exact fun w a b => by omega)
                      · refine Z_fr (fun fr73 => ?_)
                        have e33 : M73 33 net = M 33 net := congrFun (fr73 33 (by decide)).1 net
                        have ho1 := hNn.2 o (by omega) (by omega)
                        have e36 : M73 36 (4 * net + o) = M 36 (4 * net + o) := congrFun (fr73 36 (by decide)).1 _
                        refine Z_rg 36 (4 * net + o) rfl (fun g36 g36b => ?_)
                        have hgv : M73 34 (40 * net + M73 36 (4 * net + o)) = 0 → 0 ≤ M73 35 (3 * (40 * net + M73 36 (4 * net + o))) ∧ M73 35 (3 * (40 * net + M73 36 (4 * net + o))) < 8 := by
                          rw [(fr73 34 (by decide)).1, (fr73 35 (by decide)).1, e36]
                          exact (hNn.1 _ (by omega) (by omega)).2
                        refine Z_aload_n (n := 84) dX4_order_83 rfl rfl ?_
                        refine Z_iload_n (n := 85) dX4_order_84 rfl rfl ?_
                        refine Z_aload_n (n := 86) dX4_order_85 rfl rfl ?_
                        refine Z_getA (n := 89) dX4_order_86 rfl ffX4_22 rfl rfl ?_
                        refine Z_iconst (n := 90) dX4_order_89 rfl (by decide) ?_
                        refine Z_iload_n (n := 91) dX4_order_90 rfl rfl ?_
                        refine Z_imul (n := 92) dX4_order_91 rfl (by omega) ?_
                        refine Z_iload_n (n := 93) dX4_order_92 rfl rfl ?_
                        refine Z_iadd (n := 94) dX4_order_93 rfl (by omega) ?_
                        refine Z_iald (n := 95) dX4_order_94 rfl rfl rfl (by first | decide | assumption) (by omega) (by omega) (fun r94 s94 => ?_)
                        refine Z_callVv (n := 98) [_, _] _ dX4_order_95 rfl cwX4_145 rfl rfl rfl (Nat.le_of_ble_eq_true rfl) (by refine ⟨?_, ?_, ?_, ?_⟩ <;> exact Nat.le_of_ble_eq_true rfl) (fun a h => by unfold kOr at h; unfold kGr; omega) (zX4_go  (by omega) (by omega) (by omega) (by omega) (by exact hgv) (by exact i73_4.2.1) (by exact i73_4.1)) ?_
                        intro M95 J95 f95 q95
                        obtain ⟨e95_1, gq95⟩ := q95
                        replace e95_1 := e95_1.symm; subst e95_1
                        have q1 : f31 M M95 := fun j a b => (gq95.1 j a b).trans (i73_3 j a b)
                        have q2 : plO M M95 net := (plO_go i73_4 gq95 (by omega) (by omega)).1
                        have lp98 : ∀ (N98 : Nat)  (M98 : zM) (J98 : zJ), ((muO M98).toNat) < N98 → (J98 = J) → (f31 M M98) → (plO M M98 net) → TZ G mX4_order (tl_rm 3 0 0) 0 0 kOr M J 98 [some (vR 31), some (vI net), some (vI o), none, none] [] F1 M98 J98 (ZM G (zPost G kOr F1 M J (qI (fun x M' J' => J' = J ∧ f31 M M' ∧ rOrd M'))) 0 0) := by
                          intro N98
                          induction N98 with
                          | zero => intro  M98 J98 hN; omega
                          | succ N98 ih98 =>
                            intro  M98 J98 hN98 i98_0 i98_1 i98_2
                            refine Z_aload_n (n := 99) dX4_order_98 rfl rfl ?_
                            refine Z_ok (fun ok98 => ?_)
                            refine Z_fr (fun fr98 => ?_)
                            refine Z_rg 31 12 rfl (fun g12 g12b => ?_)
                            refine Z_getI (n := 102) (ki := 12) dX4_order_99 rfl ffX4_135 rfl rfl rfl (fun r99 s99 => ?_)
                            refine Z_if_le (n := 105) (t := 196) dX4_order_102 rfl (by decide) (fun c102 => ?_) (fun c102 => ?_)
                            · refine Z_iinc (L' := [_, _, _, _, _]) (n := 199) dX4_order_196 rfl rfl (by decide) rfl rfl (by omega) rfl ?_
                              refine Z_goto (t := 73) dX4_order_199 (by decide) ?_
                              refine Z_loc (L' := [some _, some _, some _, none, none]) (lsub_same (lsub_same (lsub_same (lsub_none (lsub_none lsub_nil))))) ?_
                              exact ih73 _ _ _ (by omega) (by assumption) (by first | assumption | omega | decide) (by first | assumption | omega | decide) (by exact i98_1) (by exact i98_2) (by omega)
                            · have hpl := i98_2.2.2 (M98 31 12 - 1) (by omega) (by omega)
                              have hr4 := hr_in (M98 40) 40
                              have hle := i98_2.2.1
                              refine Z_bipush (n := 107) dX4_order_105 rfl (by decide) (by decide) ?_
                              refine Z_iload_n (n := 108) dX4_order_107 rfl rfl ?_
                              refine Z_imul (n := 109) dX4_order_108 rfl (by omega) ?_
                              refine Z_aload_n (n := 110) dX4_order_109 rfl rfl ?_
                              refine Z_getA (n := 113) dX4_order_110 rfl ffX4_38 rfl rfl ?_
                              refine Z_aload_n (n := 114) dX4_order_113 rfl rfl ?_
                              refine Z_getI (n := 117) (ki := 12) dX4_order_114 rfl ffX4_135 rfl rfl rfl (fun r114 s114 => ?_)
                              refine Z_iconst (n := 118) dX4_order_117 rfl (by decide) ?_
                              refine Z_isub (n := 119) dX4_order_118 rfl (by omega) ?_
                              refine Z_iald (n := 120) dX4_order_119 rfl rfl rfl (by first | decide | assumption) (by omega) (by omega) (fun r119 s119 => ?_)
                              refine Z_iadd (n := 121) dX4_order_120 rfl (by omega) ?_
                              refine Z_istore_n (L' := [_, _, _, _, _]) (n := 122) dX4_order_121 rfl (by decide) rfl rfl ?_
                              refine Z_rg 41 (M98 31 12 - 1) rfl (fun g41 g41b => ?_)
                              obtain ⟨t, ht⟩ : ∃ t, t = M98 41 (M98 31 12 - 1) := ⟨_, rfl⟩
                              rw [← ht] at r119 s119 g41 g41b hpl ⊢
                              refine Z_aload_n (n := 123) dX4_order_122 rfl rfl ?_
                              refine Z_getA (n := 126) dX4_order_123 rfl ffX4_41 rfl rfl ?_
                              refine Z_aload_n (n := 127) dX4_order_126 rfl rfl ?_
                              refine Z_getI (n := 130) (ki := 12) dX4_order_127 rfl ffX4_135 rfl rfl rfl (fun r127 s127 => ?_)
                              refine Z_iconst (n := 131) dX4_order_130 rfl (by decide) ?_
                              refine Z_isub (n := 132) dX4_order_131 rfl (by omega) ?_
                              refine Z_iald (n := 133) dX4_order_132 rfl rfl rfl (by first | decide | assumption) (by omega) (by omega) (fun r132 s132 => ?_)
                              refine Z_istore (L' := [_, _, _, _, _]) (n := 135) dX4_order_133 rfl (by decide) rfl rfl ?_
                              refine Z_iload (n := 137) dX4_order_135 rfl rfl ?_
                              refine Z_aload_n (n := 138) dX4_order_137 rfl rfl ?_
                              refine Z_getA (n := 141) dX4_order_138 rfl ffX4_16 rfl rfl ?_
                              refine Z_iload_n (n := 142) dX4_order_141 rfl rfl ?_
                              refine Z_iald (n := 143) dX4_order_142 rfl rfl rfl (by first | decide | assumption) (by omega) (by omega) (fun r142 s142 => ?_)
                              refine Z_callSi (n := 146) [_] _ dX4_order_143 rfl cwX4_120 rfl rfl (Nat.le_of_ble_eq_true rfl) (by refine ⟨?_, ?_, ?_, ?_⟩ <;> exact Nat.le_of_ble_eq_true rfl) (fun _ _ => trivial) (zX4_wants  ) ?_
                              intro x143 M143 J143 z143 f143 q143
                              obtain ⟨e143_1, e143_2, h143⟩ := q143
                              replace e143_1 := e143_1.symm; subst e143_1
                              replace e143_2 := e143_2.symm; subst e143_2
                              refine Z_icmp_ne (n := 149) (t := 162) dX4_order_146 rfl (by decide) (fun c146 => ?_) (fun c146 => ?_)
                              · rw [(fr98 34 (by decide)).1] at h143
                                have hop3 := opF_in (M 34 (40 * net + t))
                                obtain ⟨q2, hmu⟩ := plO_ch i98_2 (by omega) (by rw [← ht]; omega)
                                have q1 : f31 M (uz M98 42 (M98 31 12 - 1) (M98 42 (M98 31 12 - 1) + 1)) := fun j a b => by rw [uz_oo (by decide)]; exact i98_1 j a b
                                have hop := (hNn.1 t (by omega) (by omega)).1 (M98 42 (M98 31 12 - 1)) (by omega) (by omega)
                                refine Z_aload_n (n := 163) dX4_order_162 rfl rfl ?_
                                refine Z_getA (n := 166) dX4_order_163 rfl ffX4_41 rfl rfl ?_
                                refine Z_aload_n (n := 167) dX4_order_166 rfl rfl ?_
                                refine Z_getI (n := 170) (ki := 12) dX4_order_167 rfl ffX4_135 rfl rfl rfl (fun r167 s167 => ?_)
                                refine Z_iconst (n := 171) dX4_order_170 rfl (by decide) ?_
                                refine Z_isub (n := 172) dX4_order_171 rfl (by omega) ?_
                                refine Z_dup2 (n := 173) dX4_order_172 rfl rfl rfl ?_
                                refine Z_iald (n := 174) dX4_order_173 rfl rfl rfl (by first | decide | assumption) (by omega) (by omega) (fun r173 s173 => ?_)
                                refine Z_iconst (n := 175) dX4_order_174 rfl (by decide) ?_
                                refine Z_iadd (n := 176) dX4_order_175 rfl (by omega) ?_
                                refine Z_iast (n := 177) dX4_order_176 rfl rfl rfl (by first | decide | assumption) (by omega) (by omega) (by first | assumption | omega | decide) (by first | assumption | omega | decide) (by decide) ?_
                                refine Z_aload_n (n := 178) dX4_order_177 rfl rfl ?_
                                refine Z_iload_n (n := 179) dX4_order_178 rfl rfl ?_
                                refine Z_aload_n (n := 180) dX4_order_179 rfl rfl ?_
                                refine Z_getA (n := 183) dX4_order_180 rfl ffX4_19 rfl rfl ?_
                                refine Z_iconst (n := 184) dX4_order_183 rfl (by decide) ?_
                                refine Z_iload_n (n := 185) dX4_order_184 rfl rfl ?_
                                refine Z_imul (n := 186) dX4_order_185 rfl (by omega) ?_
                                refine Z_iload (n := 188) dX4_order_186 rfl rfl ?_
                                refine Z_iadd (n := 189) dX4_order_188 rfl (by omega) ?_
                                refine Z_iald (n := 190) dX4_order_189 rfl rfl rfl (by first | decide | assumption) (by omega) (by omega) (fun r189 s189 => ?_)
                                try simp only [uz_oo (show (35 : Nat) ≠ 42 by decide)] at r189 s189 ⊢
                                obtain ⟨x, hx⟩ : ∃ x, x = M98 35 (3 * (40 * net + t) + M98 42 (M98 31 12 - 1)) := ⟨_, rfl⟩
                                rw [← hx] at r189 s189 ⊢
                                have ex : x = M 35 (3 * (40 * net + t) + M98 42 (M98 31 12 - 1)) := by rw [hx, (fr98 35 (by decide)).1]
                                rw [← ex] at hop
                                have hxg : x < M 32 net := by omega
                                have hgv : uz M98 42 (M98 31 12 - 1) (M98 42 (M98 31 12 - 1) + 1) 34 (40 * net + x) = 0 → 0 ≤ uz M98 42 (M98 31 12 - 1) (M98 42 (M98 31 12 - 1) + 1) 35 (3 * (40 * net + x)) ∧ uz M98 42 (M98 31 12 - 1) (M98 42 (M98 31 12 - 1) + 1) 35 (3 * (40 * net + x)) < 8 := by
                                  rw [uz_oo (by decide), uz_oo (by decide), (fr98 34 (by decide)).1, (fr98 35 (by decide)).1]
                                  exact (hNn.1 x (by omega) (by omega)).2
                                refine Z_callVv (n := 193) [_, _] _ dX4_order_190 rfl cwX4_145 rfl rfl rfl (Nat.le_of_ble_eq_true rfl) (by refine ⟨?_, ?_, ?_, ?_⟩ <;> exact Nat.le_of_ble_eq_true rfl) (fun a h => by unfold kOr at h; unfold kGr; omega) (zX4_go  (by omega) (by omega) (by omega) (by omega) (by exact hgv) (by exact q2.2.1) (by exact q2.1)) ?_
                                intro M190 J190 f190 q190
                                obtain ⟨e190_1, gq190⟩ := q190
                                replace e190_1 := e190_1.symm; subst e190_1
                                have pg := plO_go q2 gq190 hxg (by rw [uz_oo (by decide)]; omega)
                                replace q1 : f31 M M190 := fun j a b => (gq190.1 j a b).trans (q1 j a b)
                                replace q2 := pg.1
                                refine Z_ok (fun ok190 => ?_)
                                have hms : (muO M190).toNat < N98 := by
                                  have := pg.2
                                  have := mu_in ok190
                                  omega
                                refine Z_goto (t := 98) dX4_order_193 (by decide) ?_
                                refine Z_loc (L' := [some _, some _, some _, none, none]) (lsub_same (lsub_same (lsub_same (lsub_none (lsub_none lsub_nil))))) ?_
                                exact ih98  _ _ (by exact hms) (by assumption) (by exact q1) (by exact q2)
                              · obtain ⟨q2, hmu⟩ := plO_pop i98_2 ok98 (by omega)
                                have q1 : f31 M (uz M98 31 12 (M98 31 12 - 1)) := fun j a b => by rw [uz_n a]; exact i98_1 j a b
                                refine Z_aload_n (n := 150) dX4_order_149 rfl rfl ?_
                                refine Z_dup (n := 151) dX4_order_150 rfl rfl ?_
                                refine Z_getI (n := 154) (ki := 12) dX4_order_151 rfl ffX4_135 rfl rfl rfl (fun r151 s151 => ?_)
                                refine Z_iconst (n := 155) dX4_order_154 rfl (by decide) ?_
                                refine Z_isub (n := 156) dX4_order_155 rfl (by omega) ?_
                                refine Z_putI (n := 159) (ki := 12) dX4_order_156 rfl ffX4_135 rfl (by decide) rfl rfl (by first | assumption | omega | decide) (by first | assumption | omega | decide) (by decide) ?_
                                refine Z_ok (fun ok156 => ?_)
                                have hms : (muO (uz M98 31 12 (M98 31 12 - 1))).toNat < N98 := by
                                  have := mu_in ok156
                                  omega
                                refine Z_goto (t := 193) dX4_order_159 (by decide) ?_
                                refine Z_goto (t := 98) dX4_order_193 (by decide) ?_
                                refine Z_loc (L' := [some _, some _, some _, none, none]) (lsub_same (lsub_same (lsub_same (lsub_none (lsub_none lsub_nil))))) ?_
                                exact ih98  _ _ (by exact hms) (by assumption) (by exact q1) (by exact q2)
                        refine Z_loc (L' := [some _, some _, some _, none, none]) (lsub_same (lsub_same (lsub_same (lsub_none (lsub_none lsub_nil))))) ?_
                        exact lp98 _  _ _ (Nat.lt_succ_self _) (by assumption) (by exact q1) (by exact q2)
                  refine Z_loc (L' := [some _, some _, some _, none, none]) (lsub_same (lsub_same (lsub_same (lsub_none (lsub_none lsub_nil))))) ?_
                  exact lp73 _ _ _ _ (Nat.lt_succ_self _) (by assumption) (by first | assumption | omega | decide) (by first | assumption | omega | decide) (by exact i52_3) (by exact st73) (by exact i52_5)
                · refine Z_aload_n (n := 59) dX4_order_58 rfl rfl ?_
                  refine Z_getA (n := 62) dX4_order_59 rfl ffX4_32 rfl rfl ?_
                  refine Z_iload_n (n := 63) dX4_order_62 rfl rfl ?_
                  refine Z_iconst (n := 64) dX4_order_63 rfl (by decide) ?_
                  refine Z_iast (n := 65) dX4_order_64 rfl rfl rfl (by first | decide | assumption) (by omega) (by omega) (by first | assumption | omega | decide) (by first | assumption | omega | decide) (by decide) ?_
                  have nx52 : ∀ v : Int, 0 ≤ v → v < k + 1 → uz M52 39 k (-1) 39 v = -1 := fun x a b => by
                    rw [uz_a]
                    split
                    · rfl
                    · exact i52_7 x a (by omega)
                  refine Z_iinc (L' := [_, _, _, _, _]) (n := 68) dX4_order_65 rfl rfl (by decide) rfl rfl (by omega) rfl ?_
                  refine Z_goto (t := 52) dX4_order_68 (by decide) ?_
                  refine Z_loc (L' := [some _, some _, some _, none, none]) (lsub_same (lsub_same (lsub_same (lsub_none (lsub_none lsub_nil))))) ?_
                  exact ih52 _ _ _ (by omega) (by assumption) (by first | assumption | omega | decide) (by first | assumption | omega | decide) (by exact fun j a b => by rw [uz_oo (by decide)]; exact i52_3 j a b) (by rw [uz_oo (by decide)]; exact i52_4) (by rw [uz_oo (by decide)]; exact i52_5) (by exact fun x a b => by rw [uz_oo (by decide)]; exact i52_6 x a b) (by exact nx52)
            refine Z_loc (L' := [some _, some _, some _, none, none]) (lsub_same (lsub_same (lsub_same (lsub_none (lsub_none lsub_nil))))) ?_
            exact lp52 _ _ _ _ (Nat.lt_succ_self _) (by assumption) (by first | assumption | omega | decide) (by first | assumption | omega | decide) (by exact i31_3) (by exact i31_4) (by exact i31_5) (by exact fun x a b => i31_6 x a (by omega)) (by exact fun x a b => by omega)
          · refine Z_aload_n (n := 38) dX4_order_37 rfl rfl ?_
            refine Z_getA (n := 41) dX4_order_38 rfl ffX4_35 rfl rfl ?_
            refine Z_iload_n (n := 42) dX4_order_41 rfl rfl ?_
            refine Z_iconst (n := 43) dX4_order_42 rfl (by decide) ?_
            refine Z_zast (n := 44) dX4_order_43 rfl rfl rfl (by first | decide | assumption) (by omega) (by omega) (by first | assumption | omega | decide) (by first | assumption | omega | decide) (by decide) ?_
            have nx31 : ∀ x : Int, 0 ≤ x → x < k + 1 → uz M31 40 k 0 40 x = 0 := fun x a b => by
              rw [uz_a]
              split
              · rfl
              · exact i31_6 x a (by omega)
            refine Z_iinc (L' := [_, _, _, _, _]) (n := 47) dX4_order_44 rfl rfl (by decide) rfl rfl (by omega) rfl ?_
            refine Z_goto (t := 31) dX4_order_47 (by decide) ?_
            refine Z_loc (L' := [some _, some _, some _, none, none]) (lsub_same (lsub_same (lsub_same (lsub_none (lsub_none lsub_nil))))) ?_
            exact ih31 _ _ _ (by omega) (by assumption) (by first | assumption | omega | decide) (by first | assumption | omega | decide) (by exact fun j a b => by rw [uz_oo (by decide)]; exact i31_3 j a b) (by rw [uz_oo (by decide)]; exact i31_4) (by rw [uz_oo (by decide)]; exact i31_5) (by exact nx31)
      refine Z_loc (L' := [some _, some _, some _, none, none]) (lsub_same (lsub_same (lsub_same (lsub_none (lsub_none lsub_nil))))) ?_
      exact lp31 _ _ _ _ (Nat.lt_succ_self _) (by rfl) (by first | assumption | omega | decide) (by first | assumption | omega | decide) (by exact fun j a b => by rw [uz_n a, uz_n b]) (by rw [uz_n (by decide), uz_s]) (by rw [uz_s]) (by exact fun x a b => by omega)
    · refine Z_bipush (n := 18) dX4_order_16 rfl (by decide) (by decide) ?_
      refine Z_iret dX4_order_18 rfl ?_
      exact ⟨rfl, fun _ _ _ => rfl, hO⟩
  · refine Z_iconst (n := 8) dX4_order_7 rfl (by decide) ?_
    refine Z_iret dX4_order_8 rfl ?_
    exact ⟨rfl, fun _ _ _ => rfl, hO⟩
