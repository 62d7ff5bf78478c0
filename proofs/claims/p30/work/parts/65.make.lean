section
/-! ===== the pool: making ===== -/
def tbl (t x y z : Int) : Int := zand (zshr t (x + 2 * y + 4 * z)) 1
theorem kn_1 : ∀ (t : Fin 256) (o y z : Fin 2), tbl (knF (t.val : Int) (o.val : Int) 1 85) (o.val : Int) (y.val : Int) (z.val : Int) = tbl (t.val : Int) (o.val : Int) (y.val : Int) (z.val : Int) := by decide +kernel
theorem kn_2 : ∀ (t : Fin 256) (o x z : Fin 2), tbl (knF (t.val : Int) (o.val : Int) 2 51) (x.val : Int) (o.val : Int) (z.val : Int) = tbl (t.val : Int) (x.val : Int) (o.val : Int) (z.val : Int) := by decide +kernel
theorem kn_4 : ∀ (t : Fin 256) (o x y : Fin 2), tbl (knF (t.val : Int) (o.val : Int) 4 15) (x.val : Int) (y.val : Int) (o.val : Int) = tbl (t.val : Int) (x.val : Int) (y.val : Int) (o.val : Int) := by decide +kernel
theorem kn_r : ∀ (t : Fin 256) (o : Fin 2), (0 ≤ knF (t.val : Int) (o.val : Int) 1 85 ∧ knF (t.val : Int) (o.val : Int) 1 85 ≤ 255) ∧ (0 ≤ knF (t.val : Int) (o.val : Int) 2 51 ∧ knF (t.val : Int) (o.val : Int) 2 51 ≤ 255) ∧ (0 ≤ knF (t.val : Int) (o.val : Int) 4 15 ∧ knF (t.val : Int) (o.val : Int) 4 15 ≤ 255) := by decide +kernel
theorem kn_t : ∀ (t : Fin 256) (a b c : Fin 2), knF (knF (knF (t.val : Int) (a.val : Int) 1 85) (b.val : Int) 2 51) (c.val : Int) 4 15 = 0 ∨ knF (knF (knF (t.val : Int) (a.val : Int) 1 85) (b.val : Int) 2 51) (c.val : Int) 4 15 = 255 := by decide +kernel
theorem tb_c : ∀ x y z : Fin 2, tbl 0 (x.val : Int) (y.val : Int) (z.val : Int) = 0 ∧ tbl 255 (x.val : Int) (y.val : Int) (z.val : Int) = 1 ∧ tbl 170 (x.val : Int) (y.val : Int) (z.val : Int) = (x.val : Int) ∧ tbl 204 (x.val : Int) (y.val : Int) (z.val : Int) = (y.val : Int) ∧ tbl 240 (x.val : Int) (y.val : Int) (z.val : Int) = (z.val : Int) := by decide +kernel
theorem tb_ok {x y z : Int} (hx : x = 0 ∨ x = 1) (hy : y = 0 ∨ y = 1) (hz : z = 0 ∨ z = 1) : tbl 0 x y z = 0 ∧ tbl 255 x y z = 1 ∧ tbl 170 x y z = x ∧ tbl 204 x y z = y ∧ tbl 240 x y z = z := by
  have q := tb_c ⟨x.toNat, by omega⟩ ⟨y.toNat, by omega⟩ ⟨z.toNat, by omega⟩
  dsimp only at q
  rw [Int.toNat_of_nonneg (by omega), Int.toNat_of_nonneg (by omega), Int.toNat_of_nonneg (by omega)] at q
  exact q
theorem kn_big {t o s k : Int} (h : 2 ≤ o) : knF t o s k = t := by unfold knF; rw [if_pos h]
theorem kn_s1 {t o x y z : Int} (t0 : 0 ≤ t) (t1 : t ≤ 255) (o0 : 0 ≤ o) (hx : x = 0 ∨ x = 1) (hy : y = 0 ∨ y = 1) (hz : z = 0 ∨ z = 1) (h : o < 2 → x = o) : (0 ≤ knF t o 1 85 ∧ knF t o 1 85 ≤ 255) ∧ tbl (knF t o 1 85) x y z = tbl t x y z := by
  by_cases q : o < 2
  · have r := kn_r ⟨t.toNat, by omega⟩ ⟨o.toNat, by omega⟩
    have v := kn_1 ⟨t.toNat, by omega⟩ ⟨o.toNat, by omega⟩ ⟨y.toNat, by omega⟩ ⟨z.toNat, by omega⟩
    dsimp only at r v
    rw [Int.toNat_of_nonneg t0, Int.toNat_of_nonneg o0] at r
    rw [Int.toNat_of_nonneg t0, Int.toNat_of_nonneg o0, Int.toNat_of_nonneg (show 0 ≤ y by omega), Int.toNat_of_nonneg (show 0 ≤ z by omega)] at v
    exact ⟨r.1, by rw [h q]; exact v⟩
  · rw [kn_big (by omega)]; exact ⟨⟨t0, t1⟩, rfl⟩
theorem kn_s2 {t o x y z : Int} (t0 : 0 ≤ t) (t1 : t ≤ 255) (o0 : 0 ≤ o) (hx : x = 0 ∨ x = 1) (hy : y = 0 ∨ y = 1) (hz : z = 0 ∨ z = 1) (h : o < 2 → y = o) : (0 ≤ knF t o 2 51 ∧ knF t o 2 51 ≤ 255) ∧ tbl (knF t o 2 51) x y z = tbl t x y z := by
  by_cases q : o < 2
  · have r := kn_r ⟨t.toNat, by omega⟩ ⟨o.toNat, by omega⟩
    have v := kn_2 ⟨t.toNat, by omega⟩ ⟨o.toNat, by omega⟩ ⟨x.toNat, by omega⟩ ⟨z.toNat, by omega⟩
    dsimp only at r v
    rw [Int.toNat_of_nonneg t0, Int.toNat_of_nonneg o0] at r
    rw [Int.toNat_of_nonneg t0, Int.toNat_of_nonneg o0, Int.toNat_of_nonneg (show 0 ≤ x by omega), Int.toNat_of_nonneg (show 0 ≤ z by omega)] at v
    exact ⟨r.2.1, by rw [h q]; exact v⟩
  · rw [kn_big (by omega)]; exact ⟨⟨t0, t1⟩, rfl⟩
theorem kn_s4 {t o x y z : Int} (t0 : 0 ≤ t) (t1 : t ≤ 255) (o0 : 0 ≤ o) (hx : x = 0 ∨ x = 1) (hy : y = 0 ∨ y = 1) (hz : z = 0 ∨ z = 1) (h : o < 2 → z = o) : (0 ≤ knF t o 4 15 ∧ knF t o 4 15 ≤ 255) ∧ tbl (knF t o 4 15) x y z = tbl t x y z := by
  by_cases q : o < 2
  · have r := kn_r ⟨t.toNat, by omega⟩ ⟨o.toNat, by omega⟩
    have v := kn_4 ⟨t.toNat, by omega⟩ ⟨o.toNat, by omega⟩ ⟨x.toNat, by omega⟩ ⟨y.toNat, by omega⟩
    dsimp only at r v
    rw [Int.toNat_of_nonneg t0, Int.toNat_of_nonneg o0] at r
    rw [Int.toNat_of_nonneg t0, Int.toNat_of_nonneg o0, Int.toNat_of_nonneg (show 0 ≤ x by omega), Int.toNat_of_nonneg (show 0 ≤ y by omega)] at v
    exact ⟨r.2.2, by rw [h q]; exact v⟩
  · rw [kn_big (by omega)]; exact ⟨⟨t0, t1⟩, rfl⟩
theorem den_c {M : zM} {n : Int} (h0 : 0 ≤ n) (h : n < 2) (r : Int → Int) : den M n r = n := by
  rw [den_lt h]
  rcases (show n = 0 ∨ n = 1 by omega) with e | e <;> rw [e] <;> rfl
theorem kn_fn {M : zM} {S : Int → Prop} {t u v w a b c : Int} (hp : pst M S) (hu : okN S u) (hv : okN S v) (hw : okN S w) (t0 : 0 ≤ t) (t1 : t ≤ 255) (ha : a = knF t u 1 85) (hb : b = knF a v 2 51) (hc : c = knF b w 4 15) : (0 ≤ c ∧ c ≤ 255) ∧ (fun r => tbl t (den M u r) (den M v r) (den M w r)) = fun r => tbl c (den M u r) (den M v r) (den M w r) := by
  have iu := okN_in hp hu
  have iv := okN_in hp hv
  have iw := okN_in hp hw
  have key : ∀ r : Int → Int, (0 ≤ c ∧ c ≤ 255) ∧ tbl t (den M u r) (den M v r) (den M w r) = tbl c (den M u r) (den M v r) (den M w r) := fun r => by
    have bu := den_bool hp hu r
    have bv := den_bool hp hv r
    have bw := den_bool hp hw r
    have s1 := kn_s1 (y := den M v r) (z := den M w r) t0 t1 iu.1 bu bv bw (fun q => den_c iu.1 q r)
    rw [← ha] at s1
    have s2 := kn_s2 (x := den M u r) (z := den M w r) s1.1.1 s1.1.2 iv.1 bu bv bw (fun q => den_c iv.1 q r)
    rw [← hb] at s2
    have s4 := kn_s4 (x := den M u r) (y := den M v r) s2.1.1 s2.1.2 iw.1 bu bv bw (fun q => den_c iw.1 q r)
    rw [← hc] at s4
    exact ⟨s4.1, by rw [s4.2, s2.2, s1.2]⟩
  exact ⟨(key (fun _ => 0)).1, funext (fun r => (key r).2)⟩
theorem kn_term {t u v w a b c : Int} (t0 : 0 ≤ t) (t1 : t ≤ 255) (hu : u = 0 ∨ u = 1) (hv : v = 0 ∨ v = 1) (hw : w = 0 ∨ w = 1) (ha : a = knF t u 1 85) (hb : b = knF a v 2 51) (hc : c = knF b w 4 15) : c = 0 ∨ c = 255 := by
  have q := kn_t ⟨t.toNat, by omega⟩ ⟨u.toNat, by omega⟩ ⟨v.toNat, by omega⟩ ⟨w.toNat, by omega⟩
  dsimp only at q
  rw [Int.toNat_of_nonneg t0, Int.toNat_of_nonneg (show 0 ≤ u by omega), Int.toNat_of_nonneg (show 0 ≤ v by omega), Int.toNat_of_nonneg (show 0 ≤ w by omega)] at q
  rw [hc, hb, ha]
  exact q
/-- an operand's half -/
theorem half_den {M : zM} {S : Int → Prop} {n p v x : Int} {c : Int} (hp : pst M S) (hn : okN S n) (p1 : p < 8) (hpl : p ≤ M 6 n) (hc : c = if v = 0 then M 7 n else M 8 n) (hx : (M 6 n = p ∧ x = c) ∨ (¬ M 6 n = p ∧ x = n)) : okN S x ∧ p + 1 ≤ M 6 x ∧ ∀ r : Int → Int, den M n (updI r p v) = den M x r := by
  rcases hx with ⟨e, q⟩ | ⟨e, q⟩
  · have hs : S n := by
      rcases hn with z | z | z
      · rw [z, hp.1.1] at e; omega
      · rw [z, hp.1.2] at e; omega
      · exact z
    obtain ⟨-, -, -, a, b⟩ := hp.2.1 n hs
    by_cases z : v = 0
    · rw [if_pos z] at hc
      rw [q, hc, z]
      refine ⟨a.1, by omega, fun r => ?_⟩
      rw [← e]
      exact den_low hp hs r
    · rw [if_neg z] at hc
      rw [q, hc]
      refine ⟨b.1, by omega, fun r => ?_⟩
      rw [← e]
      exact den_high hp hs z r
  · rw [q]
    exact ⟨hn, by omega, fun r => den_ig hp hn (by omega) r⟩
theorem dep_tbl {M : zM} {S : Int → Prop} {t u v w p : Int} (hp : pst M S) (hu : okN S u) (hv : okN S v) (hw : okN S w) (pu : p ≤ M 6 u) (pv : p ≤ M 6 v) (pw : p ≤ M 6 w) : dep (fun r => tbl t (den M u r) (den M v r) (den M w r)) p := fun r r' e => by
  dsimp only
  rw [dep_den hp hu pu r r' e, dep_den hp hv pv r r' e, dep_den hp hw pw r r' e]
set_option maxRecDepth 20000 in
theorem zX2_makeFrom_f {G : tl_G} {M : zM} {J : zJ} (k : Nat) {S : Int → Prop} {t u v w e : Int} (t0 : 0 ≤ t) (t1 : t ≤ 255) (hu : okN S u) (hv : okN S v) (hw : okN S w) (e0 : 0 ≤ e) (he : e + k = 8) (eu : e ≤ M 6 u) (ev : e ≤ M 6 v) (ew : e ≤ M 6 w) (hS : plo M S) : ZN G yX2_makeFrom mX2_makeFrom (k + 2) kPool [vR 5, vI t, vI u, vI v, vI w, vI e] F1 M J (qI (fun x M' J' => J' = J ∧ mkE M S (fun r => tbl t (den M u r) (den M v r) (den M w r)) x M')) := by
  induction k generalizing M J S t u v w e with
  | zero =>
    refine ZN_of (L := [_, _, _, _, _, _, _, _, _, _]) (by decide) rfl rfl (Nat.le_of_ble_eq_true rfl) rfl (fun hav => ?_)
    have iu := okN_in hS.1 hu
    have iv := okN_in hS.1 hv
    have iw := okN_in hS.1 hw
    refine Z_iload_n (n := 1) dX2_makeFrom_0 rfl rfl ?_
    refine Z_iload_n (n := 2) dX2_makeFrom_1 rfl rfl ?_
    refine Z_iconst (n := 3) dX2_makeFrom_2 rfl (by decide) ?_
    refine Z_bipush (n := 5) dX2_makeFrom_3 rfl (by decide) (by decide) ?_
    refine Z_callSi (n := 8) [_, _, _, _] _ dX2_makeFrom_5 rfl cwX2_75 rfl rfl (Nat.le_of_ble_eq_true rfl) ⟨by show 0 + 1 ≤ (0 + 2); omega, by show 8 + (5 + 11) + 40 * 0 ≤ 40 * (0 + 2); omega, Nat.le_refl _, Nat.le_refl _⟩ (fun _ _ => trivial) (zX2_knowing  ) ?_
    intro x5 M5 J5 z5 f5 q5
    obtain ⟨e5_1, e5_2, h5⟩ := q5
    replace e5_1 := e5_1.symm; subst e5_1
    replace e5_2 := e5_2.symm; subst e5_2
    refine Z_iload_n (n := 9) dX2_makeFrom_8 rfl rfl ?_
    refine Z_iconst (n := 10) dX2_makeFrom_9 rfl (by decide) ?_
    refine Z_bipush (n := 12) dX2_makeFrom_10 rfl (by decide) (by decide) ?_
    refine Z_callSi (n := 15) [_, _, _, _] _ dX2_makeFrom_12 rfl cwX2_75 rfl rfl (Nat.le_of_ble_eq_true rfl) ⟨by show 0 + 1 ≤ (0 + 2); omega, by show 8 + (5 + 11) + 40 * 0 ≤ 40 * (0 + 2); omega, Nat.le_refl _, Nat.le_refl _⟩ (fun _ _ => trivial) (zX2_knowing  ) ?_
    intro x12 M12 J12 z12 f12 q12
    obtain ⟨e12_1, e12_2, h12⟩ := q12
    replace e12_1 := e12_1.symm; subst e12_1
    replace e12_2 := e12_2.symm; subst e12_2
    refine Z_iload (n := 17) dX2_makeFrom_15 rfl rfl ?_
    refine Z_iconst (n := 18) dX2_makeFrom_17 rfl (by decide) ?_
    refine Z_bipush (n := 20) dX2_makeFrom_18 rfl (by decide) (by decide) ?_
    refine Z_callSi (n := 23) [_, _, _, _] _ dX2_makeFrom_20 rfl cwX2_75 rfl rfl (Nat.le_of_ble_eq_true rfl) ⟨by show 0 + 1 ≤ (0 + 2); omega, by show 8 + (5 + 11) + 40 * 0 ≤ 40 * (0 + 2); omega, Nat.le_refl _, Nat.le_refl _⟩ (fun _ _ => trivial) (zX2_knowing  ) ?_
    intro x20 M20 J20 z20 f20 q20
    obtain ⟨e20_1, e20_2, h20⟩ := q20
    replace e20_1 := e20_1.symm; subst e20_1
    replace e20_2 := e20_2.symm; subst e20_2
    obtain ⟨⟨kr0, kr1⟩, eF⟩ := kn_fn hS.1 hu hv hw t0 t1 h5 h12 h20
    refine Z_istore (L' := [_, _, _, _, _, _, _, _, _, _]) (n := 25) dX2_makeFrom_23 rfl (by decide) rfl rfl ?_
    refine Z_iload (n := 27) dX2_makeFrom_25 rfl rfl ?_
    refine Z_lsc (td := 87) dX2_makeFrom_27 (by decide) (by decide) (by decide) ?_ (fun c27 => ?_)
    · refine lcases_cons (fun c27 t ht => ?_) ?_
      · obtain rfl : t = 76 := by omega
        refine Z_iconst (n := 77) dX2_makeFrom_76 rfl (by decide) ?_
        refine Z_iret dX2_makeFrom_77 rfl ?_
        refine ⟨rfl, S, mkd_rf hS (Or.inl rfl) ?_⟩
        rw [eF]
        funext r
        have z := tb_ok (den_bool hS.1 hu r) (den_bool hS.1 hv r) (den_bool hS.1 hw r)
        dsimp only at c27
        rw [c27]
        rw [den_0, z.1]
      refine lcases_cons (fun c27 t ht => ?_) ?_
      · obtain rfl : t = 80 := by omega
        refine Z_iload_n (n := 81) dX2_makeFrom_80 rfl rfl ?_
        refine Z_iret dX2_makeFrom_81 rfl ?_
        refine ⟨rfl, S, mkd_rf hS hu ?_⟩
        rw [eF]
        funext r
        have z := tb_ok (den_bool hS.1 hu r) (den_bool hS.1 hv r) (den_bool hS.1 hw r)
        dsimp only at c27
        rw [c27]
        rw [z.2.2.1]
      refine lcases_cons (fun c27 t ht => ?_) ?_
      · obtain rfl : t = 82 := by omega
        refine Z_iload_n (n := 83) dX2_makeFrom_82 rfl rfl ?_
        refine Z_iret dX2_makeFrom_83 rfl ?_
        refine ⟨rfl, S, mkd_rf hS hv ?_⟩
        rw [eF]
        funext r
        have z := tb_ok (den_bool hS.1 hu r) (den_bool hS.1 hv r) (den_bool hS.1 hw r)
        dsimp only at c27
        rw [c27]
        rw [z.2.2.2.1]
      refine lcases_cons (fun c27 t ht => ?_) ?_
      · obtain rfl : t = 84 := by omega
        refine Z_iload (n := 86) dX2_makeFrom_84 rfl rfl ?_
        refine Z_iret dX2_makeFrom_86 rfl ?_
        refine ⟨rfl, S, mkd_rf hS hw ?_⟩
        rw [eF]
        funext r
        have z := tb_ok (den_bool hS.1 hu r) (den_bool hS.1 hv r) (den_bool hS.1 hw r)
        dsimp only at c27
        rw [c27]
        rw [z.2.2.2.2]
      refine lcases_cons (fun c27 t ht => ?_) ?_
      · obtain rfl : t = 78 := by omega
        refine Z_iconst (n := 79) dX2_makeFrom_78 rfl (by decide) ?_
        refine Z_iret dX2_makeFrom_79 rfl ?_
        refine ⟨rfl, S, mkd_rf hS (Or.inr (Or.inl rfl)) ?_⟩
        rw [eF]
        funext r
        have z := tb_ok (den_bool hS.1 hu r) (den_bool hS.1 hv r) (den_bool hS.1 hw r)
        dsimp only at c27
        rw [c27]
        rw [den_1, z.2.1]
      exact lcases_nil
    · refine Z_aload_n (n := 88) dX2_makeFrom_87 rfl rfl ?_
      refine Z_getA (n := 91) dX2_makeFrom_88 rfl ffX2_11 rfl rfl ?_
      refine Z_iload_n (n := 92) dX2_makeFrom_91 rfl rfl ?_
      refine Z_iald (n := 93) dX2_makeFrom_92 rfl rfl rfl (by first | decide | assumption) (by omega) (by omega) (fun r92 s92 => ?_)
      refine Z_aload_n (n := 94) dX2_makeFrom_93 rfl rfl ?_
      refine Z_getA (n := 97) dX2_makeFrom_94 rfl ffX2_11 rfl rfl ?_
      refine Z_iload_n (n := 98) dX2_makeFrom_97 rfl rfl ?_
      refine Z_iald (n := 99) dX2_makeFrom_98 rfl rfl rfl (by first | decide | assumption) (by omega) (by omega) (fun r98 s98 => ?_)
      refine Z_aload_n (n := 100) dX2_makeFrom_99 rfl rfl ?_
      refine Z_getA (n := 103) dX2_makeFrom_100 rfl ffX2_11 rfl rfl ?_
      refine Z_iload (n := 105) dX2_makeFrom_103 rfl rfl ?_
      refine Z_iald (n := 106) dX2_makeFrom_105 rfl rfl rfl (by first | decide | assumption) (by omega) (by omega) (fun r105 s105 => ?_)
      refine Z_mmin (n := 109) dX2_makeFrom_106 rfl cwX2_79 (Nat.le_of_ble_eq_true rfl) (by refine ⟨?_, ?_, ?_, ?_⟩ <;> first | exact Nat.le_of_ble_eq_true rfl | (simp only [tl_rm]; omega)) (fun x106 h106 => ?_)
      refine Z_mmin (n := 112) dX2_makeFrom_109 rfl cwX2_79 (Nat.le_of_ble_eq_true rfl) (by refine ⟨?_, ?_, ?_, ?_⟩ <;> first | exact Nat.le_of_ble_eq_true rfl | (simp only [tl_rm]; omega)) (fun x109 h109 => ?_)
      refine Z_istore (L' := [_, _, _, _, _, _, _, _, _, _]) (n := 114) dX2_makeFrom_112 rfl (by decide) rfl rfl ?_
      refine Z_iload (n := 116) dX2_makeFrom_114 rfl rfl ?_
      refine Z_bipush (n := 118) dX2_makeFrom_116 rfl (by decide) (by decide) ?_
      refine Z_icmp_ge (n := 121) (t := 128) dX2_makeFrom_118 rfl (by decide) (fun c118 => ?_) (fun c118 => ?_)
      · exact (by first | omega | (exfalso; have tt := kn_term t0 t1 (pst_t hS.1 hu (by omega)) (pst_t hS.1 hv (by omega)) (pst_t hS.1 hw (by omega)) h5 h12 h20; rcases tt with q | q; exact c27 (0, 49) (by decide) q; exact c27 (255, 51) (by decide) q))
      · omega
  | succ k ih =>
    refine ZN_of (L := [_, _, _, _, _, _, _, _, _, _]) (by decide) rfl rfl (Nat.le_of_ble_eq_true rfl) rfl (fun hav => ?_)
    have iu := okN_in hS.1 hu
    have iv := okN_in hS.1 hv
    have iw := okN_in hS.1 hw
    refine Z_iload_n (n := 1) dX2_makeFrom_0 rfl rfl ?_
    refine Z_iload_n (n := 2) dX2_makeFrom_1 rfl rfl ?_
    refine Z_iconst (n := 3) dX2_makeFrom_2 rfl (by decide) ?_
    refine Z_bipush (n := 5) dX2_makeFrom_3 rfl (by decide) (by decide) ?_
    refine Z_callSi (n := 8) [_, _, _, _] _ dX2_makeFrom_5 rfl cwX2_75 rfl rfl (Nat.le_of_ble_eq_true rfl) ⟨by show 0 + 1 ≤ ((k + 1) + 2); omega, by show 8 + (5 + 11) + 40 * 0 ≤ 40 * ((k + 1) + 2); omega, Nat.le_refl _, Nat.le_refl _⟩ (fun _ _ => trivial) (zX2_knowing  ) ?_
    intro x5 M5 J5 z5 f5 q5
    obtain ⟨e5_1, e5_2, h5⟩ := q5
    replace e5_1 := e5_1.symm; subst e5_1
    replace e5_2 := e5_2.symm; subst e5_2
    refine Z_iload_n (n := 9) dX2_makeFrom_8 rfl rfl ?_
    refine Z_iconst (n := 10) dX2_makeFrom_9 rfl (by decide) ?_
    refine Z_bipush (n := 12) dX2_makeFrom_10 rfl (by decide) (by decide) ?_
    refine Z_callSi (n := 15) [_, _, _, _] _ dX2_makeFrom_12 rfl cwX2_75 rfl rfl (Nat.le_of_ble_eq_true rfl) ⟨by show 0 + 1 ≤ ((k + 1) + 2); omega, by show 8 + (5 + 11) + 40 * 0 ≤ 40 * ((k + 1) + 2); omega, Nat.le_refl _, Nat.le_refl _⟩ (fun _ _ => trivial) (zX2_knowing  ) ?_
    intro x12 M12 J12 z12 f12 q12
    obtain ⟨e12_1, e12_2, h12⟩ := q12
    replace e12_1 := e12_1.symm; subst e12_1
    replace e12_2 := e12_2.symm; subst e12_2
    refine Z_iload (n := 17) dX2_makeFrom_15 rfl rfl ?_
    refine Z_iconst (n := 18) dX2_makeFrom_17 rfl (by decide) ?_
    refine Z_bipush (n := 20) dX2_makeFrom_18 rfl (by decide) (by decide) ?_
    refine Z_callSi (n := 23) [_, _, _, _] _ dX2_makeFrom_20 rfl cwX2_75 rfl rfl (Nat.le_of_ble_eq_true rfl) ⟨by show 0 + 1 ≤ ((k + 1) + 2); omega, by show 8 + (5 + 11) + 40 * 0 ≤ 40 * ((k + 1) + 2); omega, Nat.le_refl _, Nat.le_refl _⟩ (fun _ _ => trivial) (zX2_knowing  ) ?_
    intro x20 M20 J20 z20 f20 q20
    obtain ⟨e20_1, e20_2, h20⟩ := q20
    replace e20_1 := e20_1.symm; subst e20_1
    replace e20_2 := e20_2.symm; subst e20_2
    obtain ⟨⟨kr0, kr1⟩, eF⟩ := kn_fn hS.1 hu hv hw t0 t1 h5 h12 h20
    refine Z_istore (L' := [_, _, _, _, _, _, _, _, _, _]) (n := 25) dX2_makeFrom_23 rfl (by decide) rfl rfl ?_
    refine Z_iload (n := 27) dX2_makeFrom_25 rfl rfl ?_
    refine Z_lsc (td := 87) dX2_makeFrom_27 (by decide) (by decide) (by decide) ?_ (fun c27 => ?_)
    · refine lcases_cons (fun c27 t ht => ?_) ?_
      · obtain rfl : t = 76 := by omega
        refine Z_iconst (n := 77) dX2_makeFrom_76 rfl (by decide) ?_
        refine Z_iret dX2_makeFrom_77 rfl ?_
        refine ⟨rfl, S, mkd_rf hS (Or.inl rfl) ?_⟩
        rw [eF]
        funext r
        have z := tb_ok (den_bool hS.1 hu r) (den_bool hS.1 hv r) (den_bool hS.1 hw r)
        dsimp only at c27
        rw [c27]
        rw [den_0, z.1]
      refine lcases_cons (fun c27 t ht => ?_) ?_
      · obtain rfl : t = 80 := by omega
        refine Z_iload_n (n := 81) dX2_makeFrom_80 rfl rfl ?_
        refine Z_iret dX2_makeFrom_81 rfl ?_
        refine ⟨rfl, S, mkd_rf hS hu ?_⟩
        rw [eF]
        funext r
        have z := tb_ok (den_bool hS.1 hu r) (den_bool hS.1 hv r) (den_bool hS.1 hw r)
        dsimp only at c27
        rw [c27]
        rw [z.2.2.1]
      refine lcases_cons (fun c27 t ht => ?_) ?_
      · obtain rfl : t = 82 := by omega
        refine Z_iload_n (n := 83) dX2_makeFrom_82 rfl rfl ?_
        refine Z_iret dX2_makeFrom_83 rfl ?_
        refine ⟨rfl, S, mkd_rf hS hv ?_⟩
        rw [eF]
        funext r
        have z := tb_ok (den_bool hS.1 hu r) (den_bool hS.1 hv r) (den_bool hS.1 hw r)
        dsimp only at c27
        rw [c27]
        rw [z.2.2.2.1]
      refine lcases_cons (fun c27 t ht => ?_) ?_
      · obtain rfl : t = 84 := by omega
        refine Z_iload (n := 86) dX2_makeFrom_84 rfl rfl ?_
        refine Z_iret dX2_makeFrom_86 rfl ?_
        refine ⟨rfl, S, mkd_rf hS hw ?_⟩
        rw [eF]
        funext r
        have z := tb_ok (den_bool hS.1 hu r) (den_bool hS.1 hv r) (den_bool hS.1 hw r)
        dsimp only at c27
        rw [c27]
        rw [z.2.2.2.2]
      refine lcases_cons (fun c27 t ht => ?_) ?_
      · obtain rfl : t = 78 := by omega
        refine Z_iconst (n := 79) dX2_makeFrom_78 rfl (by decide) ?_
        refine Z_iret dX2_makeFrom_79 rfl ?_
        refine ⟨rfl, S, mkd_rf hS (Or.inr (Or.inl rfl)) ?_⟩
        rw [eF]
        funext r
        have z := tb_ok (den_bool hS.1 hu r) (den_bool hS.1 hv r) (den_bool hS.1 hw r)
        dsimp only at c27
        rw [c27]
        rw [den_1, z.2.1]
      exact lcases_nil
    · refine Z_aload_n (n := 88) dX2_makeFrom_87 rfl rfl ?_
      refine Z_getA (n := 91) dX2_makeFrom_88 rfl ffX2_11 rfl rfl ?_
      refine Z_iload_n (n := 92) dX2_makeFrom_91 rfl rfl ?_
      refine Z_iald (n := 93) dX2_makeFrom_92 rfl rfl rfl (by first | decide | assumption) (by omega) (by omega) (fun r92 s92 => ?_)
      refine Z_aload_n (n := 94) dX2_makeFrom_93 rfl rfl ?_
      refine Z_getA (n := 97) dX2_makeFrom_94 rfl ffX2_11 rfl rfl ?_
      refine Z_iload_n (n := 98) dX2_makeFrom_97 rfl rfl ?_
      refine Z_iald (n := 99) dX2_makeFrom_98 rfl rfl rfl (by first | decide | assumption) (by omega) (by omega) (fun r98 s98 => ?_)
      refine Z_aload_n (n := 100) dX2_makeFrom_99 rfl rfl ?_
      refine Z_getA (n := 103) dX2_makeFrom_100 rfl ffX2_11 rfl rfl ?_
      refine Z_iload (n := 105) dX2_makeFrom_103 rfl rfl ?_
      refine Z_iald (n := 106) dX2_makeFrom_105 rfl rfl rfl (by first | decide | assumption) (by omega) (by omega) (fun r105 s105 => ?_)
      refine Z_mmin (n := 109) dX2_makeFrom_106 rfl cwX2_79 (Nat.le_of_ble_eq_true rfl) (by refine ⟨?_, ?_, ?_, ?_⟩ <;> first | exact Nat.le_of_ble_eq_true rfl | (simp only [tl_rm]; omega)) (fun x106 h106 => ?_)
      refine Z_mmin (n := 112) dX2_makeFrom_109 rfl cwX2_79 (Nat.le_of_ble_eq_true rfl) (by refine ⟨?_, ?_, ?_, ?_⟩ <;> first | exact Nat.le_of_ble_eq_true rfl | (simp only [tl_rm]; omega)) (fun x109 h109 => ?_)
      refine Z_istore (L' := [_, _, _, _, _, _, _, _, _, _]) (n := 114) dX2_makeFrom_112 rfl (by decide) rfl rfl ?_
      refine Z_iload (n := 116) dX2_makeFrom_114 rfl rfl ?_
      refine Z_bipush (n := 118) dX2_makeFrom_116 rfl (by decide) (by decide) ?_
      refine Z_icmp_ge (n := 121) (t := 128) dX2_makeFrom_118 rfl (by decide) (fun c118 => ?_) (fun c118 => ?_)
      · exact (by first | omega | (exfalso; have tt := kn_term t0 t1 (pst_t hS.1 hu (by omega)) (pst_t hS.1 hv (by omega)) (pst_t hS.1 hw (by omega)) h5 h12 h20; rcases tt with q | q; exact c27 (0, 49) (by decide) q; exact c27 (255, 51) (by decide) q))
      · refine Z_iload (n := 123) dX2_makeFrom_121 rfl rfl ?_
        refine Z_bipush (n := 125) dX2_makeFrom_123 rfl (by decide) (by decide) ?_
        refine Z_icmp_lt (n := 128) (t := 130) dX2_makeFrom_125 rfl (by decide) (fun c125 => ?_) (fun c125 => ?_)
        · have hdF : dep (fun r => tbl x20 (den M u r) (den M v r) (den M w r)) x109 := dep_tbl hS.1 hu hv hw (by omega) (by omega) (by omega)
          have pu : x109 ≤ M 6 u := by omega
          have pv : x109 ≤ M 6 v := by omega
          have pw : x109 ≤ M 6 w := by omega
          refine Z_aload_n (n := 131) dX2_makeFrom_130 rfl rfl ?_
          refine Z_iload (n := 133) dX2_makeFrom_131 rfl rfl ?_
          refine Z_aload_n (n := 134) dX2_makeFrom_133 rfl rfl ?_
          refine Z_iload_n (n := 135) dX2_makeFrom_134 rfl rfl ?_
          refine Z_iload (n := 137) dX2_makeFrom_135 rfl rfl ?_
          refine Z_callVi (n := 140) [_, _] _ dX2_makeFrom_137 rfl cwX2_85 rfl rfl rfl (Nat.le_of_ble_eq_true rfl) ⟨by show 0 + 1 ≤ ((k + 1) + 2); omega, by show 8 + (3 + 11) + 40 * 0 ≤ 40 * ((k + 1) + 2); omega, Nat.le_refl _, Nat.le_refl _⟩ (fun _ _ => trivial) (zX2_lowAt  (by first | assumption | omega | decide) (by first | assumption | omega | decide)) ?_
          intro x137 M137 J137 z137 f137 q137
          obtain ⟨e137_1, e137_2, a137, b137, d137⟩ := q137
          replace e137_1 := e137_1.symm; subst e137_1
          replace e137_2 := e137_2.symm; subst e137_2
          refine Z_aload_n (n := 141) dX2_makeFrom_140 rfl rfl ?_
          refine Z_iload_n (n := 142) dX2_makeFrom_141 rfl rfl ?_
          refine Z_iload (n := 144) dX2_makeFrom_142 rfl rfl ?_
          refine Z_callVi (n := 147) [_, _] _ dX2_makeFrom_144 rfl cwX2_85 rfl rfl rfl (Nat.le_of_ble_eq_true rfl) ⟨by show 0 + 1 ≤ ((k + 1) + 2); omega, by show 8 + (3 + 11) + 40 * 0 ≤ 40 * ((k + 1) + 2); omega, Nat.le_refl _, Nat.le_refl _⟩ (fun _ _ => trivial) (zX2_lowAt  (by first | assumption | omega | decide) (by first | assumption | omega | decide)) ?_
          intro x144 M144 J144 z144 f144 q144
          obtain ⟨e144_1, e144_2, a144, b144, d144⟩ := q144
          replace e144_1 := e144_1.symm; subst e144_1
          replace e144_2 := e144_2.symm; subst e144_2
          refine Z_aload_n (n := 148) dX2_makeFrom_147 rfl rfl ?_
          refine Z_iload (n := 150) dX2_makeFrom_148 rfl rfl ?_
          refine Z_iload (n := 152) dX2_makeFrom_150 rfl rfl ?_
          refine Z_callVi (n := 155) [_, _] _ dX2_makeFrom_152 rfl cwX2_85 rfl rfl rfl (Nat.le_of_ble_eq_true rfl) ⟨by show 0 + 1 ≤ ((k + 1) + 2); omega, by show 8 + (3 + 11) + 40 * 0 ≤ 40 * ((k + 1) + 2); omega, Nat.le_refl _, Nat.le_refl _⟩ (fun _ _ => trivial) (zX2_lowAt  (by first | assumption | omega | decide) (by first | assumption | omega | decide)) ?_
          intro x152 M152 J152 z152 f152 q152
          obtain ⟨e152_1, e152_2, a152, b152, d152⟩ := q152
          replace e152_1 := e152_1.symm; subst e152_1
          replace e152_2 := e152_2.symm; subst e152_2
          refine Z_iload (n := 157) dX2_makeFrom_155 rfl rfl ?_
          refine Z_iconst (n := 158) dX2_makeFrom_157 rfl (by decide) ?_
          refine Z_iadd (n := 159) dX2_makeFrom_158 rfl (by omega) ?_
          obtain ⟨ou, qu, du⟩ := half_den (v := 0) hS.1 hu (by omega) pu (if_pos rfl).symm d137
          obtain ⟨ov, qv, dv⟩ := half_den (v := 0) hS.1 hv (by omega) pv (if_pos rfl).symm d144
          obtain ⟨ow, qw, dw⟩ := half_den (v := 0) hS.1 hw (by omega) pw (if_pos rfl).symm d152
          refine Z_callVi (n := 162) [_, _, _, _, _] _ dX2_makeFrom_159 rfl cwX2_71 rfl rfl rfl (Nat.le_of_ble_eq_true rfl) ⟨by show (k + 2) + 1 ≤ ((k + 1) + 2); omega, by show 8 + (10 + 11) + 40 * (k + 2) ≤ 40 * ((k + 1) + 2); omega, Nat.le_refl _, Nat.le_refl _⟩ (fun _ h => h) (@ih _ _ _ _ _ _ _ _  (by omega) (by omega) (by exact ou) (by exact ov) (by exact ow) (by omega) (by omega) (by omega) (by omega) (by omega) (by exact hS)) ?_
          intro x159 M159 J159 z159 f159 q159
          obtain ⟨e159_1, mk159⟩ := q159
          replace e159_1 := e159_1.symm; subst e159_1
          obtain ⟨S1, md1⟩ := mk159
          have e1 : (fun r => tbl x20 (den M x137 r) (den M x144 r) (den M x152 r)) = fun r => (fun r => tbl x20 (den M u r) (den M v r) (den M w r)) (updI r x109 0) := by
            funext r
            dsimp only
            rw [du r, dv r, dw r]
          rw [e1] at md1
          refine Z_istore (L' := [_, _, _, _, _, _, _, _, _, _]) (n := 164) dX2_makeFrom_162 rfl (by decide) rfl rfl ?_
          refine Z_iload (n := 166) dX2_makeFrom_164 rfl rfl ?_
          refine Z_iconst (n := 167) dX2_makeFrom_166 rfl (by decide) ?_
          refine Z_icmp_ne (n := 170) (t := 172) dX2_makeFrom_167 rfl (by decide) (fun c167 => ?_) (fun c167 => ?_)
          · have ha1 := md1.1
            have hu1 : okN S1 u := okN_mono md1.2.1 hu
            have hv1 : okN S1 v := okN_mono md1.2.1 hv
            have hw1 : okN S1 w := okN_mono md1.2.1 hw
            have pu1 : x109 ≤ M159 6 u := by rw [agr_pl ha1 hu]; exact pu
            have pv1 : x109 ≤ M159 6 v := by rw [agr_pl ha1 hv]; exact pv
            have pw1 : x109 ≤ M159 6 w := by rw [agr_pl ha1 hw]; exact pw
            refine Z_aload_n (n := 173) dX2_makeFrom_172 rfl rfl ?_
            refine Z_iload (n := 175) dX2_makeFrom_173 rfl rfl ?_
            refine Z_aload_n (n := 176) dX2_makeFrom_175 rfl rfl ?_
            refine Z_iload_n (n := 177) dX2_makeFrom_176 rfl rfl ?_
            refine Z_iload (n := 179) dX2_makeFrom_177 rfl rfl ?_
            refine Z_callVi (n := 182) [_, _] _ dX2_makeFrom_179 rfl cwX2_88 rfl rfl rfl (Nat.le_of_ble_eq_true rfl) ⟨by show 0 + 1 ≤ ((k + 1) + 2); omega, by show 8 + (3 + 11) + 40 * 0 ≤ 40 * ((k + 1) + 2); omega, Nat.le_refl _, Nat.le_refl _⟩ (fun _ _ => trivial) (zX2_highAt  (by first | assumption | omega | decide) (by first | assumption | omega | decide)) ?_
            intro x179 M179 J179 z179 f179 q179
            obtain ⟨e179_1, e179_2, a179, b179, d179⟩ := q179
            replace e179_1 := e179_1.symm; subst e179_1
            replace e179_2 := e179_2.symm; subst e179_2
            refine Z_aload_n (n := 183) dX2_makeFrom_182 rfl rfl ?_
            refine Z_iload_n (n := 184) dX2_makeFrom_183 rfl rfl ?_
            refine Z_iload (n := 186) dX2_makeFrom_184 rfl rfl ?_
            refine Z_callVi (n := 189) [_, _] _ dX2_makeFrom_186 rfl cwX2_88 rfl rfl rfl (Nat.le_of_ble_eq_true rfl) ⟨by show 0 + 1 ≤ ((k + 1) + 2); omega, by show 8 + (3 + 11) + 40 * 0 ≤ 40 * ((k + 1) + 2); omega, Nat.le_refl _, Nat.le_refl _⟩ (fun _ _ => trivial) (zX2_highAt  (by first | assumption | omega | decide) (by first | assumption | omega | decide)) ?_
            intro x186 M186 J186 z186 f186 q186
            obtain ⟨e186_1, e186_2, a186, b186, d186⟩ := q186
            replace e186_1 := e186_1.symm; subst e186_1
            replace e186_2 := e186_2.symm; subst e186_2
            refine Z_aload_n (n := 190) dX2_makeFrom_189 rfl rfl ?_
            refine Z_iload (n := 192) dX2_makeFrom_190 rfl rfl ?_
            refine Z_iload (n := 194) dX2_makeFrom_192 rfl rfl ?_
            refine Z_callVi (n := 197) [_, _] _ dX2_makeFrom_194 rfl cwX2_88 rfl rfl rfl (Nat.le_of_ble_eq_true rfl) ⟨by show 0 + 1 ≤ ((k + 1) + 2); omega, by show 8 + (3 + 11) + 40 * 0 ≤ 40 * ((k + 1) + 2); omega, Nat.le_refl _, Nat.le_refl _⟩ (fun _ _ => trivial) (zX2_highAt  (by first | assumption | omega | decide) (by first | assumption | omega | decide)) ?_
            intro x194 M194 J194 z194 f194 q194
            obtain ⟨e194_1, e194_2, a194, b194, d194⟩ := q194
            replace e194_1 := e194_1.symm; subst e194_1
            replace e194_2 := e194_2.symm; subst e194_2
            refine Z_iload (n := 199) dX2_makeFrom_197 rfl rfl ?_
            refine Z_iconst (n := 200) dX2_makeFrom_199 rfl (by decide) ?_
            refine Z_iadd (n := 201) dX2_makeFrom_200 rfl (by omega) ?_
            obtain ⟨ou1, qu1, du1⟩ := half_den (v := 1) md1.2.2.1.1 hu1 (by omega) pu1 (if_neg (by decide)).symm d179
            obtain ⟨ov1, qv1, dv1⟩ := half_den (v := 1) md1.2.2.1.1 hv1 (by omega) pv1 (if_neg (by decide)).symm d186
            obtain ⟨ow1, qw1, dw1⟩ := half_den (v := 1) md1.2.2.1.1 hw1 (by omega) pw1 (if_neg (by decide)).symm d194
            refine Z_callVi (n := 204) [_, _, _, _, _] _ dX2_makeFrom_201 rfl cwX2_71 rfl rfl rfl (Nat.le_of_ble_eq_true rfl) ⟨by show (k + 2) + 1 ≤ ((k + 1) + 2); omega, by show 8 + (10 + 11) + 40 * (k + 2) ≤ 40 * ((k + 1) + 2); omega, Nat.le_refl _, Nat.le_refl _⟩ (fun _ h => h) (@ih _ _ _ _ _ _ _ _  (by omega) (by omega) (by exact ou1) (by exact ov1) (by exact ow1) (by omega) (by omega) (by omega) (by omega) (by omega) (by exact md1.2.2.1)) ?_
            intro x201 M201 J201 z201 f201 q201
            obtain ⟨e201_1, mk201⟩ := q201
            replace e201_1 := e201_1.symm; subst e201_1
            obtain ⟨S2, md2⟩ := mk201
            have e2 : (fun r => tbl x20 (den M159 x179 r) (den M159 x186 r) (den M159 x194 r)) = fun r => (fun r => tbl x20 (den M u r) (den M v r) (den M w r)) (updI r x109 1) := by
              funext r
              dsimp only
              rw [← du1 r, ← dv1 r, ← dw1 r, den_agr hS.1 ha1 hu, den_agr hS.1 ha1 hv, den_agr hS.1 ha1 hw]
            rw [e2] at md2
            obtain ⟨okl, dl⟩ := md1.2.2.2.2.2.1.resolve_left (fun z => c167 z.1)
            have okl2 : okN S2 x159 := okN_mono md2.2.1 okl
            have pl2 : x109 < M201 6 x159 := pl_gt md2.2.2.1.1 okl2 (by omega) (by rw [den_agr md1.2.2.1.1 md2.1 okl, dl]; exact dep_up hdF)
            have okh : x201 = -1 ∨ okN S2 x201 := md2.2.2.2.2.2.1.imp (fun z => z.1) (fun z => z.1)
            have ph2 : ¬ x201 = -1 → x109 < M201 6 x201 := fun z => by
              obtain ⟨a, b⟩ := md2.2.2.2.2.2.1.resolve_left (fun t => z t.1)
              exact pl_gt md2.2.2.1.1 a (by omega) (by rw [b]; exact dep_up hdF)
            refine Z_istore (L' := [_, _, _, _, _, _, _, _, _, _]) (n := 206) dX2_makeFrom_204 rfl (by decide) rfl rfl ?_
            refine Z_aload_n (n := 207) dX2_makeFrom_206 rfl rfl ?_
            refine Z_iload (n := 209) dX2_makeFrom_207 rfl rfl ?_
            refine Z_iload (n := 211) dX2_makeFrom_209 rfl rfl ?_
            refine Z_iload (n := 213) dX2_makeFrom_211 rfl rfl ?_
            refine Z_callVi (n := 216) [_, _, _] _ dX2_makeFrom_213 rfl cwX2_67 rfl rfl rfl (Nat.le_of_ble_eq_true rfl) ⟨by show 1 + 1 ≤ ((k + 1) + 2); omega, by show 8 + (6 + 11) + 40 * 1 ≤ 40 * ((k + 1) + 2); omega, Nat.le_refl _, Nat.le_refl _⟩ (fun _ h => h) (zX2_nodeFor_f  (by omega) (by omega) (by exact okl2) (by exact okh) (by exact pl2) (by exact ph2) (by exact md2.2.2.1)) ?_
            intro x213 M213 J213 z213 f213 q213
            obtain ⟨e213_1, nd213⟩ := q213
            replace e213_1 := e213_1.symm; subst e213_1
            refine Z_iret dX2_makeFrom_216 rfl ?_
            refine ⟨rfl, ?_⟩
            rw [eF]
            exact mkd_two hS hdF (by omega) (by omega) md1 c167 md2 nd213
          · refine Z_iconst (n := 171) dX2_makeFrom_170 rfl (by decide) ?_
            refine Z_iret dX2_makeFrom_171 rfl ?_
            refine ⟨rfl, ?_⟩
            rw [eF]
            rw [c167] at md1
            exact mkd_one hdF md1
        · exact (by exfalso; have tt := kn_term t0 t1 (pst_t hS.1 hu (by omega)) (pst_t hS.1 hv (by omega)) (pst_t hS.1 hw (by omega)) h5 h12 h20; rcases tt with q | q; exact c27 (0, 49) (by decide) q; exact c27 (255, 51) (by decide) q)
set_option maxRecDepth 20000 in
theorem zX2_make_f {G : tl_G} {M : zM} {J : zJ} {S : Int → Prop} {t u v w : Int} (t0 : 0 ≤ t) (t1 : t ≤ 255) (hu : okN S u) (hv : okN S v) (hw : okN S w) (hS : plo M S) : ZN G yX2_make mX2_make 11 kPool [vR 5, vI t, vI u, vI v, vI w] F1 M J (qI (fun x M' J' => J' = J ∧ mkE M S (fun r => tbl t (den M u r) (den M v r) (den M w r)) x M')) := by
  refine ZN_of (L := [_, _, _, _, _]) (by decide) rfl rfl (Nat.le_of_ble_eq_true rfl) rfl (fun hav => ?_)
  refine Z_aload_n (n := 1) dX2_make_0 rfl rfl ?_
  refine Z_iload_n (n := 2) dX2_make_1 rfl rfl ?_
  refine Z_iload_n (n := 3) dX2_make_2 rfl rfl ?_
  refine Z_iload_n (n := 4) dX2_make_3 rfl rfl ?_
  refine Z_iload (n := 6) dX2_make_4 rfl rfl ?_
  refine Z_iconst (n := 7) dX2_make_6 rfl (by decide) ?_
  refine Z_callVi (n := 10) [_, _, _, _, _] _ dX2_make_7 rfl cwX2_71 rfl rfl rfl (Nat.le_of_ble_eq_true rfl) (by refine ⟨?_, ?_, ?_, ?_⟩ <;> exact Nat.le_of_ble_eq_true rfl) (fun _ h => h) (zX2_makeFrom_f 8  (by omega) (by omega) (by exact hu) (by exact hv) (by exact hw) (by decide) (by rfl) (by exact (pst_pl hS.1 hu).1) (by exact (pst_pl hS.1 hv).1) (by exact (pst_pl hS.1 hw).1) (by exact hS)) ?_
  intro x7 M7 J7 z7 f7 q7
  obtain ⟨e7_1, mk7⟩ := q7
  replace e7_1 := e7_1.symm; subst e7_1
  refine Z_iret dX2_make_10 rfl ?_
  exact ⟨rfl, mk7⟩
theorem updI_comm {f : Int → Int} {a b v w : Int} (h : a ≠ b) : updI (updI f a v) b w = updI (updI f b w) a v := by
  funext k
  unfold updI
  by_cases e : k = a
  · have e2 : ¬ k = b := fun q => h (e.symm.trans q)
    simp only [if_pos e, if_neg e2]
  · by_cases e2 : k = b
    · simp only [if_neg e, if_pos e2]
    · simp only [if_neg e, if_neg e2]
theorem dep_fix {M : zM} {S : Int → Prop} {n p b : Int} (hp : pst M S) (hn : S n) (hlt : M 6 n < p) : dep (fun r => den M n (updI r p b)) (M 6 n) := fun r r' e => den_ag hp (Or.inr (Or.inr hn)) (fun k hk => by
  by_cases z : k = p
  · rw [z, updI_s, updI_s]
  · rw [updI_n z, updI_n z]; exact e k hk)
set_option maxRecDepth 20000 in
theorem zX2_fixFrom_f {G : tl_G} {M : zM} {J : zJ} (k : Nat) {S : Int → Prop} {n p y e : Int} (hn : okN S n) (p0 : 0 ≤ p) (p1 : p < 8) (e0 : 0 ≤ e) (he : e + k = 8) (en : e ≤ M 6 n) (hS : plo M S) : ZN G yX2_fixFrom mX2_fixFrom (k + 2) kPool [vR 5, vI n, vI p, vI y, vI e] F1 M J (qI (fun x M' J' => J' = J ∧ mkE M S (fun r => den M n (updI r p (if y = 0 then 0 else 1))) x M')) := by
  induction k generalizing M J S n e with
  | zero =>
    refine ZN_of (L := [_, _, _, _, _, _, _]) (by decide) rfl rfl (Nat.le_of_ble_eq_true rfl) rfl (fun hav => ?_)
    have iN := okN_in hS.1 hn
    refine Z_aload_n (n := 1) dX2_fixFrom_0 rfl rfl ?_
    refine Z_getA (n := 4) dX2_fixFrom_1 rfl ffX2_11 rfl rfl ?_
    refine Z_iload_n (n := 5) dX2_fixFrom_4 rfl rfl ?_
    refine Z_iald (n := 6) dX2_fixFrom_5 rfl rfl rfl (by first | decide | assumption) (by omega) (by omega) (fun r5 s5 => ?_)
    refine Z_iload_n (n := 7) dX2_fixFrom_6 rfl rfl ?_
    refine Z_icmp_le (n := 10) (t := 12) dX2_fixFrom_7 rfl (by decide) (fun c7 => ?_) (fun c7 => ?_)
    · have hnS : S n := by
        rcases hn with z | z | z
        · rw [z, hS.1.1.1] at c7; omega
        · rw [z, hS.1.1.2] at c7; omega
        · exact z
      obtain ⟨n2, pn, ne, aL, bH⟩ := hS.1.2.1 n hnS
      refine Z_aload_n (n := 13) dX2_fixFrom_12 rfl rfl ?_
      refine Z_getA (n := 16) dX2_fixFrom_13 rfl ffX2_11 rfl rfl ?_
      refine Z_iload_n (n := 17) dX2_fixFrom_16 rfl rfl ?_
      refine Z_iald (n := 18) dX2_fixFrom_17 rfl rfl rfl (by first | decide | assumption) (by omega) (by omega) (fun r17 s17 => ?_)
      refine Z_iload_n (n := 19) dX2_fixFrom_18 rfl rfl ?_
      refine Z_icmp_ne (n := 22) (t := 42) dX2_fixFrom_19 rfl (by decide) (fun c19 => ?_) (fun c19 => ?_)
      · refine Z_iload (n := 44) dX2_fixFrom_42 rfl rfl ?_
        refine Z_bipush (n := 46) dX2_fixFrom_44 rfl (by decide) (by decide) ?_
        refine Z_icmp_lt (n := 49) (t := 51) dX2_fixFrom_46 rfl (by decide) (fun c46 => ?_) (fun c46 => ?_)
        · omega
        · omega
      · refine Z_iload_n (n := 23) dX2_fixFrom_22 rfl rfl ?_
        refine Z_if_eq (n := 26) (t := 35) dX2_fixFrom_23 rfl (by decide) (fun c23 => ?_) (fun c23 => ?_)
        · refine Z_aload_n (n := 36) dX2_fixFrom_35 rfl rfl ?_
          refine Z_getA (n := 39) dX2_fixFrom_36 rfl ffX2_15 rfl rfl ?_
          refine Z_iload_n (n := 40) dX2_fixFrom_39 rfl rfl ?_
          refine Z_iald (n := 41) dX2_fixFrom_40 rfl rfl rfl (by first | decide | assumption) (by omega) (by omega) (fun r40 s40 => ?_)
          refine Z_iret dX2_fixFrom_41 rfl ?_
          refine ⟨rfl, S, ?_⟩
          first
            | (refine mkd_rf hS bH.1 ?_; funext r; rw [if_neg c23, ← c19]; exact (den_high hS.1 hnS (by decide) r).symm)
            | (refine mkd_rf hS aL.1 ?_; funext r; rw [if_pos c23, ← c19]; exact (den_low hS.1 hnS r).symm)
        · refine Z_aload_n (n := 27) dX2_fixFrom_26 rfl rfl ?_
          refine Z_getA (n := 30) dX2_fixFrom_27 rfl ffX2_18 rfl rfl ?_
          refine Z_iload_n (n := 31) dX2_fixFrom_30 rfl rfl ?_
          refine Z_iald (n := 32) dX2_fixFrom_31 rfl rfl rfl (by first | decide | assumption) (by omega) (by omega) (fun r31 s31 => ?_)
          refine Z_goto (t := 41) dX2_fixFrom_32 (by decide) ?_
          refine Z_iret dX2_fixFrom_41 rfl ?_
          refine ⟨rfl, S, ?_⟩
          first
            | (refine mkd_rf hS bH.1 ?_; funext r; rw [if_neg c23, ← c19]; exact (den_high hS.1 hnS (by decide) r).symm)
            | (refine mkd_rf hS aL.1 ?_; funext r; rw [if_pos c23, ← c19]; exact (den_low hS.1 hnS r).symm)
    · refine Z_iload_n (n := 11) dX2_fixFrom_10 rfl rfl ?_
      refine Z_iret dX2_fixFrom_11 rfl ?_
      refine ⟨rfl, S, mkd_rf hS hn ?_⟩
      funext r
      exact (den_ig hS.1 hn (by omega) r).symm
  | succ k ih =>
    refine ZN_of (L := [_, _, _, _, _, _, _]) (by decide) rfl rfl (Nat.le_of_ble_eq_true rfl) rfl (fun hav => ?_)
    have iN := okN_in hS.1 hn
    refine Z_aload_n (n := 1) dX2_fixFrom_0 rfl rfl ?_
    refine Z_getA (n := 4) dX2_fixFrom_1 rfl ffX2_11 rfl rfl ?_
    refine Z_iload_n (n := 5) dX2_fixFrom_4 rfl rfl ?_
    refine Z_iald (n := 6) dX2_fixFrom_5 rfl rfl rfl (by first | decide | assumption) (by omega) (by omega) (fun r5 s5 => ?_)
    refine Z_iload_n (n := 7) dX2_fixFrom_6 rfl rfl ?_
    refine Z_icmp_le (n := 10) (t := 12) dX2_fixFrom_7 rfl (by decide) (fun c7 => ?_) (fun c7 => ?_)
    · have hnS : S n := by
        rcases hn with z | z | z
        · rw [z, hS.1.1.1] at c7; omega
        · rw [z, hS.1.1.2] at c7; omega
        · exact z
      obtain ⟨n2, pn, ne, aL, bH⟩ := hS.1.2.1 n hnS
      refine Z_aload_n (n := 13) dX2_fixFrom_12 rfl rfl ?_
      refine Z_getA (n := 16) dX2_fixFrom_13 rfl ffX2_11 rfl rfl ?_
      refine Z_iload_n (n := 17) dX2_fixFrom_16 rfl rfl ?_
      refine Z_iald (n := 18) dX2_fixFrom_17 rfl rfl rfl (by first | decide | assumption) (by omega) (by omega) (fun r17 s17 => ?_)
      refine Z_iload_n (n := 19) dX2_fixFrom_18 rfl rfl ?_
      refine Z_icmp_ne (n := 22) (t := 42) dX2_fixFrom_19 rfl (by decide) (fun c19 => ?_) (fun c19 => ?_)
      · refine Z_iload (n := 44) dX2_fixFrom_42 rfl rfl ?_
        refine Z_bipush (n := 46) dX2_fixFrom_44 rfl (by decide) (by decide) ?_
        refine Z_icmp_lt (n := 49) (t := 51) dX2_fixFrom_46 rfl (by decide) (fun c46 => ?_) (fun c46 => ?_)
        · have hdF : dep (fun r => den M n (updI r p (if y = 0 then 0 else 1))) (M 6 n) := dep_fix hS.1 hnS (by omega)
          refine Z_aload_n (n := 52) dX2_fixFrom_51 rfl rfl ?_
          refine Z_aload_n (n := 53) dX2_fixFrom_52 rfl rfl ?_
          refine Z_getA (n := 56) dX2_fixFrom_53 rfl ffX2_15 rfl rfl ?_
          refine Z_iload_n (n := 57) dX2_fixFrom_56 rfl rfl ?_
          refine Z_iald (n := 58) dX2_fixFrom_57 rfl rfl rfl (by first | decide | assumption) (by omega) (by omega) (fun r57 s57 => ?_)
          refine Z_iload_n (n := 59) dX2_fixFrom_58 rfl rfl ?_
          refine Z_iload_n (n := 60) dX2_fixFrom_59 rfl rfl ?_
          refine Z_iload (n := 62) dX2_fixFrom_60 rfl rfl ?_
          refine Z_iconst (n := 63) dX2_fixFrom_62 rfl (by decide) ?_
          refine Z_iadd (n := 64) dX2_fixFrom_63 rfl (by omega) ?_
          refine Z_callVi (n := 67) [_, _, _, _] _ dX2_fixFrom_64 rfl cwX2_91 rfl rfl rfl (Nat.le_of_ble_eq_true rfl) ⟨by show (k + 2) + 1 ≤ ((k + 1) + 2); omega, by show 8 + (7 + 11) + 40 * (k + 2) ≤ 40 * ((k + 1) + 2); omega, Nat.le_refl _, Nat.le_refl _⟩ (fun _ h => h) (@ih _ _ _ _ _  (by exact aL.1) (by omega) (by omega) (by omega) (by exact hS)) ?_
          intro x64 M64 J64 z64 f64 q64
          obtain ⟨e64_1, mk64⟩ := q64
          replace e64_1 := e64_1.symm; subst e64_1
          obtain ⟨S1, md1⟩ := mk64
          have e1 : (fun r => den M (M 7 n) (updI r p (if y = 0 then 0 else 1))) = fun r => (fun r => den M n (updI r p (if y = 0 then 0 else 1))) (updI r (M 6 n) 0) := by
            funext r
            dsimp only
            rw [updI_comm (show M 6 n ≠ p by omega), den_low hS.1 hnS]
          rw [e1] at md1
          refine Z_istore (L' := [_, _, _, _, _, _, _]) (n := 69) dX2_fixFrom_67 rfl (by decide) rfl rfl ?_
          refine Z_iload (n := 71) dX2_fixFrom_69 rfl rfl ?_
          refine Z_iconst (n := 72) dX2_fixFrom_71 rfl (by decide) ?_
          refine Z_icmp_ne (n := 75) (t := 77) dX2_fixFrom_72 rfl (by decide) (fun c72 => ?_) (fun c72 => ?_)
          · have ha1 := md1.1
            have hn1 : S1 n := md1.2.1 n hnS
            obtain ⟨a6, a7, a8⟩ := ha1.2 n hnS
            have bH1 : okN S1 (M 8 n) := okN_mono md1.2.1 bH.1
            refine Z_aload_n (n := 78) dX2_fixFrom_77 rfl rfl ?_
            refine Z_aload_n (n := 79) dX2_fixFrom_78 rfl rfl ?_
            refine Z_getA (n := 82) dX2_fixFrom_79 rfl ffX2_18 rfl rfl ?_
            refine Z_iload_n (n := 83) dX2_fixFrom_82 rfl rfl ?_
            refine Z_iald (n := 84) dX2_fixFrom_83 rfl rfl rfl (by first | decide | assumption) (by omega) (by omega) (fun r83 s83 => ?_)
            refine Z_iload_n (n := 85) dX2_fixFrom_84 rfl rfl ?_
            refine Z_iload_n (n := 86) dX2_fixFrom_85 rfl rfl ?_
            refine Z_iload (n := 88) dX2_fixFrom_86 rfl rfl ?_
            refine Z_iconst (n := 89) dX2_fixFrom_88 rfl (by decide) ?_
            refine Z_iadd (n := 90) dX2_fixFrom_89 rfl (by omega) ?_
            refine Z_callVi (n := 93) [_, _, _, _] _ dX2_fixFrom_90 rfl cwX2_91 rfl rfl rfl (Nat.le_of_ble_eq_true rfl) ⟨by show (k + 2) + 1 ≤ ((k + 1) + 2); omega, by show 8 + (7 + 11) + 40 * (k + 2) ≤ 40 * ((k + 1) + 2); omega, Nat.le_refl _, Nat.le_refl _⟩ (fun _ h => h) (@ih _ _ _ _ _  (by rw [a8]; exact bH1) (by omega) (by omega) (by rw [a8, agr_pl ha1 bH.1]; omega) (by exact md1.2.2.1)) ?_
            intro x90 M90 J90 z90 f90 q90
            obtain ⟨e90_1, mk90⟩ := q90
            replace e90_1 := e90_1.symm; subst e90_1
            obtain ⟨S2, md2⟩ := mk90
            have e2 : (fun r => den M64 (M64 8 n) (updI r p (if y = 0 then 0 else 1))) = fun r => (fun r => den M n (updI r p (if y = 0 then 0 else 1))) (updI r (M 6 n) 1) := by
              funext r
              dsimp only
              rw [updI_comm (show M 6 n ≠ p by omega), den_high hS.1 hnS (by decide), a8, den_agr hS.1 ha1 bH.1]
            rw [e2] at md2
            obtain ⟨okl, dl⟩ := md1.2.2.2.2.2.1.resolve_left (fun z => c72 z.1)
            have okl2 : okN S2 x64 := okN_mono md2.2.1 okl
            have b6 : M90 6 n = M 6 n := ((md2.1.2 n hn1).1).trans a6
            have pl2 : M 6 n < M90 6 x64 := pl_gt md2.2.2.1.1 okl2 (by omega) (by rw [den_agr md1.2.2.1.1 md2.1 okl, dl]; exact dep_up hdF)
            have okh : x90 = -1 ∨ okN S2 x90 := md2.2.2.2.2.2.1.imp (fun z => z.1) (fun z => z.1)
            have ph2 : ¬ x90 = -1 → M 6 n < M90 6 x90 := fun z => by
              obtain ⟨a, b⟩ := md2.2.2.2.2.2.1.resolve_left (fun t => z t.1)
              exact pl_gt md2.2.2.1.1 a (by omega) (by rw [b]; exact dep_up hdF)
            refine Z_istore (L' := [_, _, _, _, _, _, _]) (n := 95) dX2_fixFrom_93 rfl (by decide) rfl rfl ?_
            refine Z_aload_n (n := 96) dX2_fixFrom_95 rfl rfl ?_
            refine Z_aload_n (n := 97) dX2_fixFrom_96 rfl rfl ?_
            refine Z_getA (n := 100) dX2_fixFrom_97 rfl ffX2_11 rfl rfl ?_
            refine Z_iload_n (n := 101) dX2_fixFrom_100 rfl rfl ?_
            refine Z_iald (n := 102) dX2_fixFrom_101 rfl rfl rfl (by first | decide | assumption) (by omega) (by omega) (fun r101 s101 => ?_)
            rw [b6] at r101 s101 ⊢
            refine Z_iload (n := 104) dX2_fixFrom_102 rfl rfl ?_
            refine Z_iload (n := 106) dX2_fixFrom_104 rfl rfl ?_
            refine Z_callVi (n := 109) [_, _, _] _ dX2_fixFrom_106 rfl cwX2_67 rfl rfl rfl (Nat.le_of_ble_eq_true rfl) ⟨by show 1 + 1 ≤ ((k + 1) + 2); omega, by show 8 + (6 + 11) + 40 * 1 ≤ 40 * ((k + 1) + 2); omega, Nat.le_refl _, Nat.le_refl _⟩ (fun _ h => h) (zX2_nodeFor_f  (by omega) (by omega) (by exact okl2) (by exact okh) (by exact pl2) (by exact ph2) (by exact md2.2.2.1)) ?_
            intro x106 M106 J106 z106 f106 q106
            obtain ⟨e106_1, nd106⟩ := q106
            replace e106_1 := e106_1.symm; subst e106_1
            refine Z_iret dX2_fixFrom_109 rfl ?_
            refine ⟨rfl, mkd_two hS hdF pn.1 pn.2 md1 c72 md2 ?_⟩
            exact nd106
          · refine Z_iconst (n := 76) dX2_fixFrom_75 rfl (by decide) ?_
            refine Z_iret dX2_fixFrom_76 rfl ?_
            refine ⟨rfl, ?_⟩
            rw [c72] at md1
            exact mkd_one hdF md1
        · omega
      · refine Z_iload_n (n := 23) dX2_fixFrom_22 rfl rfl ?_
        refine Z_if_eq (n := 26) (t := 35) dX2_fixFrom_23 rfl (by decide) (fun c23 => ?_) (fun c23 => ?_)
        · refine Z_aload_n (n := 36) dX2_fixFrom_35 rfl rfl ?_
          refine Z_getA (n := 39) dX2_fixFrom_36 rfl ffX2_15 rfl rfl ?_
          refine Z_iload_n (n := 40) dX2_fixFrom_39 rfl rfl ?_
          refine Z_iald (n := 41) dX2_fixFrom_40 rfl rfl rfl (by first | decide | assumption) (by omega) (by omega) (fun r40 s40 => ?_)
          refine Z_iret dX2_fixFrom_41 rfl ?_
          refine ⟨rfl, S, ?_⟩
          first
            | (refine mkd_rf hS bH.1 ?_; funext r; rw [if_neg c23, ← c19]; exact (den_high hS.1 hnS (by decide) r).symm)
            | (refine mkd_rf hS aL.1 ?_; funext r; rw [if_pos c23, ← c19]; exact (den_low hS.1 hnS r).symm)
        · refine Z_aload_n (n := 27) dX2_fixFrom_26 rfl rfl ?_
          refine Z_getA (n := 30) dX2_fixFrom_27 rfl ffX2_18 rfl rfl ?_
          refine Z_iload_n (n := 31) dX2_fixFrom_30 rfl rfl ?_
          refine Z_iald (n := 32) dX2_fixFrom_31 rfl rfl rfl (by first | decide | assumption) (by omega) (by omega) (fun r31 s31 => ?_)
          refine Z_goto (t := 41) dX2_fixFrom_32 (by decide) ?_
          refine Z_iret dX2_fixFrom_41 rfl ?_
          refine ⟨rfl, S, ?_⟩
          first
            | (refine mkd_rf hS bH.1 ?_; funext r; rw [if_neg c23, ← c19]; exact (den_high hS.1 hnS (by decide) r).symm)
            | (refine mkd_rf hS aL.1 ?_; funext r; rw [if_pos c23, ← c19]; exact (den_low hS.1 hnS r).symm)
    · refine Z_iload_n (n := 11) dX2_fixFrom_10 rfl rfl ?_
      refine Z_iret dX2_fixFrom_11 rfl ?_
      refine ⟨rfl, S, mkd_rf hS hn ?_⟩
      funext r
      exact (den_ig hS.1 hn (by omega) r).symm
set_option maxRecDepth 20000 in
theorem zX2_makeFixed_f {G : tl_G} {M : zM} {J : zJ} {S : Int → Prop} {n p y : Int} (hn : okN S n) (p0 : 0 ≤ p) (p1 : p < 8) (hS : plo M S) : ZN G yX2_makeFixed mX2_makeFixed 11 kPool [vR 5, vI n, vI p, vI y] F1 M J (qI (fun x M' J' => J' = J ∧ mkE M S (fun r => den M n (updI r p (if y = 0 then 0 else 1))) x M')) := by
  refine ZN_of (L := [_, _, _, _]) (by decide) rfl rfl (Nat.le_of_ble_eq_true rfl) rfl (fun hav => ?_)
  refine Z_aload_n (n := 1) dX2_makeFixed_0 rfl rfl ?_
  refine Z_iload_n (n := 2) dX2_makeFixed_1 rfl rfl ?_
  refine Z_iload_n (n := 3) dX2_makeFixed_2 rfl rfl ?_
  refine Z_iload_n (n := 4) dX2_makeFixed_3 rfl rfl ?_
  refine Z_iconst (n := 5) dX2_makeFixed_4 rfl (by decide) ?_
  refine Z_callVi (n := 8) [_, _, _, _] _ dX2_makeFixed_5 rfl cwX2_91 rfl rfl rfl (Nat.le_of_ble_eq_true rfl) (by refine ⟨?_, ?_, ?_, ?_⟩ <;> exact Nat.le_of_ble_eq_true rfl) (fun _ h => h) (zX2_fixFrom_f 8  (by exact hn) (by omega) (by omega) (by decide) (by rfl) (by exact (pst_pl hS.1 hn).1) (by exact hS)) ?_
  intro x5 M5 J5 z5 f5 q5
  obtain ⟨e5_1, mk5⟩ := q5
  replace e5_1 := e5_1.symm; subst e5_1
  refine Z_iret dX2_makeFixed_8 rfl ?_
  exact ⟨rfl, mk5⟩
set_option maxRecDepth 20000 in
theorem zX2_makeVariable_f {G : tl_G} {M : zM} {J : zJ} {S : Int → Prop} {p : Int} (p0 : 0 ≤ p) (p1 : p < 8) (hS : plo M S) : ZN G yX2_makeVariable mX2_makeVariable 2 kPool [vR 5, vI p] F1 M J (qI (fun x M' J' => J' = J ∧ mkE M S (fun r => bz (r p)) x M')) := by
  refine ZN_of (L := [_, _]) (by decide) rfl rfl (Nat.le_of_ble_eq_true rfl) rfl (fun hav => ?_)
  refine Z_aload_n (n := 1) dX2_makeVariable_0 rfl rfl ?_
  refine Z_iload_n (n := 2) dX2_makeVariable_1 rfl rfl ?_
  refine Z_iconst (n := 3) dX2_makeVariable_2 rfl (by decide) ?_
  refine Z_iconst (n := 4) dX2_makeVariable_3 rfl (by decide) ?_
  refine Z_callVi (n := 7) [_, _, _] _ dX2_makeVariable_4 rfl cwX2_67 rfl rfl rfl (Nat.le_of_ble_eq_true rfl) (by refine ⟨?_, ?_, ?_, ?_⟩ <;> exact Nat.le_of_ble_eq_true rfl) (fun _ h => h) (zX2_nodeFor_f  (by omega) (by omega) (by exact Or.inl rfl) (by exact Or.inr (Or.inr (Or.inl rfl))) (by rw [hS.1.1.1]; omega) (by intro _; rw [hS.1.1.2]; omega) (by exact hS)) ?_
  intro x4 M4 J4 z4 f4 q4
  obtain ⟨e4_1, nd4⟩ := q4
  replace e4_1 := e4_1.symm; subst e4_1
  refine Z_iret dX2_makeVariable_7 rfl ?_
  refine ⟨rfl, ?_⟩
  have z := mkd_nd hS p0 p1 (Or.inl rfl) (Or.inr (Or.inl rfl)) (by rw [hS.1.1.1]; omega) (by rw [hS.1.1.2]; omega) (by decide) nd4
  have e : (fun r => if r p = 0 then den M 0 r else den M 1 r) = fun r => bz (r p) := by
    funext r
    rw [den_0, den_1]
    rfl
  rw [e] at z
  exact z
end
section
/-! ===== the class: collect, a step ===== -/
abbrev kSt1 (a : Nat) : Prop := (0 < a ∧ a < 5) ∨ 11 < a
/-- what is held: by handles, by gates, kept -/
def rt (M : zM) (x : Int) : Prop := (∃ h : Int, (0 ≤ h ∧ h < 12) ∧ x = M 12 h) ∨ (∃ g : Int, (0 ≤ g ∧ g < 40) ∧ x = M 13 g) ∨ ∃ k : Int, (0 ≤ k ∧ k < M 0 7) ∧ x = M 15 k
def rtO (M : zM) (S : Int → Prop) : Prop := ∀ x : Int, rt M x → x = -1 ∨ okN S x
/-- labels that are in use -/
def LBc (M : zM) (y : Lb) : Prop := ∃ x : Int, rt M x ∧ ¬ x = -1 ∧ laid (den M x) y
theorem rt_cg {M M1 : zM} (h12 : M1 12 = M 12) (h13 : M1 13 = M 13) (h15 : M1 15 = M 15) (h07 : M1 0 7 = M 0 7) : rt M1 = rt M := by
  funext x
  unfold rt
  rw [h12, h13, h15, h07]
theorem LBc_cg {M M1 : zM} (h6 : M1 6 = M 6) (h7 : M1 7 = M 7) (h8 : M1 8 = M 8) (hr : rt M1 = rt M) : LBc M1 = LBc M := by
  funext y
  unfold LBc
  rw [hr, den_cg h6 h7 h8]
theorem laid_const {F : FN} {c : Int} {y : Lb} (h : ∀ r, F r = c) : ¬ laid F y := by
  rintro ⟨-, ⟨s, e⟩, r, q⟩
  refine q ?_
  rw [e]
  dsimp only
  rw [h, h]
theorem laid_neg {M : zM} {n : Int} {y : Lb} (h : n < 2) : ¬ laid (den M n) y := laid_const (c := if n = 1 then 1 else 0) (fun r => den_lt h)
/-- marks on the way -/
def c3 (M : zM) (S : Int → Prop) (w : Int → Int) : Prop := (∀ m : Int, 2 ≤ m → m < 252 → w m = 0 ∨ (w m = 1 ∧ S m ∧ LBc M (lab M m))) ∧ Clw M S 1 0 w
theorem zo01 : zor 0 1 = 1 ∧ zor 1 1 = 1 ∧ zand 0 1 = 0 ∧ zand 1 1 = 1 := by decide +kernel
theorem c3_0 {M : zM} {S : Int → Prop} {w : Int → Int} (hp : pst M S) (h : ∀ m : Int, 0 ≤ m → m < 252 → w m = 0) : c3 M S w := by
  refine ⟨fun m m0 m1 => Or.inl (h m (by omega) m1), fun m hm _ hk => ?_⟩
  have := (hp.2.1 m hm).1
  unfold mkw at hk
  rw [h m (by omega) (by omega), zo01.2.2.1] at hk
  exact absurd rfl hk
theorem c3_st {M : zM} {S : Int → Prop} {w w' : Int → Int} {x : Int} (h : c3 M S w) (hx : rt M x) (hm : mkR M S 1 x 0 w w') (hw : ∀ m, 0 ≤ w m ∧ w m ≤ 3) : c3 M S w' ∧ okw w' 1 x ∧ ∀ c : Int, okw w 1 c → okw w' 1 c := by
  refine ⟨⟨fun m m0 m1 => ?_, hm.2.2⟩, ?_, fun c q => q.imp_right (fun z => mkR_mono hm hw (Or.inl rfl) z)⟩
  · rcases hm.1 m with e | ⟨e, e1, e2⟩
    · rw [e]; exact h.1 m m0 m1
    · right
      have hx1 : ¬ x = -1 := fun z => by
        rw [z] at e2
        exact laid_neg (by decide) e2
      refine ⟨?_, e1, x, hx, hx1, e2⟩
      rw [e]
      rcases h.1 m m0 m1 with z | ⟨z, -⟩
      · rw [z]; exact zo01.1
      · rw [z]; exact zo01.2.1
  · by_cases q : x < 2
    · exact Or.inl q
    · exact Or.inr (hm.2.1 (by omega))
/-- behind the marks: just the marked ones are in use -/
theorem c3_C {M : zM} {S : Int → Prop} {w : Int → Int} (hp : pst M S) (h : c3 M S w) : (∀ n : Int, mC w n → S n ∧ okN (mC w) (M 7 n) ∧ okN (mC w) (M 8 n)) ∧ (∀ n : Int, mC w n → LBc M (lab M n)) ∧ ∀ c : Int, okN S c → okw w 1 c → okN (mC w) c := by
  have hS : ∀ n : Int, mC w n → S n ∧ LBc M (lab M n) ∧ w n = 1 := fun n hn => by
    rcases h.1 n hn.1.1 hn.1.2 with e | ⟨e, a, b⟩
    · exact absurd e hn.2
    · exact ⟨a, b, e⟩
  have up : ∀ c : Int, okN S c → okw w 1 c → okN (mC w) c := fun c hc q => by
    have ci := okN_in hp hc
    rcases q with q | q
    · rcases (show c = 0 ∨ c = 1 by omega) with z | z
      · exact Or.inl z
      · exact Or.inr (Or.inl z)
    · by_cases z : c < 2
      · rcases (show c = 0 ∨ c = 1 by omega) with z | z
        · exact Or.inl z
        · exact Or.inr (Or.inl z)
      · refine Or.inr (Or.inr ⟨⟨by omega, ci.2⟩, fun t => q ?_⟩)
        rw [t]
        exact zo01.2.2.1
  refine ⟨fun n hn => ?_, fun n hn => (hS n hn).2.1, up⟩
  obtain ⟨a, b, c⟩ := hS n hn
  obtain ⟨-, p, -, q1, q2⟩ := hp.2.1 n a
  have z := h.2 n a p.1 (by unfold mkw; rw [c, zo01.2.2.2]; decide)
  exact ⟨a, up _ q1.1 z.1, up _ q2.1 z.2⟩
/-- behind collect -/
def clQ (M M' : zM) : Prop := ∃ S' : Int → Prop, plo M' S' ∧ rtO M' S' ∧ (∀ n : Int, S' n → LBc M' (lab M' n)) ∧ M' 5 8 = M 5 8
theorem cl_cnt {M : zM} {S : Int → Prop} (h : plo M S) (hr : rtO M S) (hl : ∀ n : Int, S n → LBc M (lab M n)) : cnt (LBc M) (M 5 7) := by
  obtain ⟨hp, ch, fl, -, -, -, h6⟩ := h
  rw [h6]
  refine cnt_hr (g := lab M) (fun a b a0 a1 b0 b1 ha hb e => lab_inj hp (ind_nz.mp ha) (ind_nz.mp hb) e) (fun a a0 a1 ha => hl a (ind_nz.mp ha)) (fun y hy => ?_)
  obtain ⟨x, hx, hx1, hly⟩ := hy
  obtain ⟨n, hn, e⟩ := laid_in hp (fun n hn => ⟨hn, (hp.2.1 n hn).2.2.2.1.1, (hp.2.1 n hn).2.2.2.2.1⟩) ((hr x hx).resolve_left hx1) hly
  have := (hp.2.1 n hn).1
  exact ⟨n, by omega, by omega, ind_nz.mpr hn, e⟩
set_option maxRecDepth 20000 in
theorem zX3_collect_f {G : tl_G} {M : zM} {J : zJ} {S : Int → Prop} (hS : plo M S) (hR : rtO M S) : ZN G yX3_collect mX3_collect 10 kColl [vR 0] F1 M J (qV (fun M' J' => J' = J ∧ clQ M M')) := by
  refine ZN_of (L := [_, _]) (by decide) rfl rfl (Nat.le_of_ble_eq_true rfl) rfl (fun hav => ?_)
  refine Z_aload_n (n := 1) dX3_collect_0 rfl rfl ?_
  refine Z_getO (n := 4) dX3_collect_1 rfl ffX3_25 rfl rfl ?_
  refine Z_callVv (n := 7) [] _ dX3_collect_4 rfl cwX3_217 rfl rfl rfl (Nat.le_of_ble_eq_true rfl) (by refine ⟨?_, ?_, ?_, ?_⟩ <;> exact Nat.le_of_ble_eq_true rfl) (fun _ h => h) (zX2_unmark  (by decide)) ?_
  intro M4 J4 f4 q4
  obtain ⟨e4_1, e4_2⟩ := q4
  replace e4_1 := e4_1.symm; subst e4_1
  replace e4_2 := e4_2.symm; subst e4_2
  refine Z_iconst (n := 8) dX3_collect_7 rfl (by decide) ?_
  refine Z_istore_n (L' := [_, _]) (n := 9) dX3_collect_8 rfl (by decide) rfl rfl ?_
  have lp9 : ∀ (N9 : Nat) (h : Int) (M9 : zM) (J9 : zJ), ((12 - h).toNat) < N9 → (J9 = J) → (0 ≤ h) → (h ≤ 12) → (∀ a : Nat, ¬ a = 9 → M9 a = M a) → (c3 M S (M9 9)) → (∀ j : Int, 0 ≤ j → j < h → okw (M9 9) 1 (M 12 j)) → TZ G mX3_collect (tl_rm 10 0 0) 0 0 kColl M J 9 [some (vR 0), some (vI h)] [] F1 M9 J9 (ZM G (zPost G kColl F1 M J (qV (fun M' J' => J' = J ∧ clQ M M'))) 0 0) := by
    intro N9
    induction N9 with
    | zero => intro h M9 J9 hN; omega
    | succ N9 ih9 =>
      intro h M9 J9 hN9 i9_0 i9_1 i9_2 i9_3 i9_4 i9_5
      refine Z_iload_n (n := 10) dX3_collect_9 rfl rfl ?_
      refine Z_bipush (n := 12) dX3_collect_10 rfl (by decide) (by decide) ?_
      refine Z_icmp_ge (n := 15) (t := 34) dX3_collect_12 rfl (by decide) (fun c12 => ?_) (fun c12 => ?_)
      · refine Z_iconst (n := 35) dX3_collect_34 rfl (by decide) ?_
        refine Z_istore_n (L' := [_, _]) (n := 36) dX3_collect_35 rfl (by decide) rfl rfl ?_
        have lp36 : ∀ (N36 : Nat) (g : Int) (M36 : zM) (J36 : zJ), ((40 - g).toNat) < N36 → (J36 = J) → (0 ≤ g) → (g ≤ 40) → (∀ a : Nat, ¬ a = 9 → M36 a = M a) → (c3 M S (M36 9)) → (∀ j : Int, 0 ≤ j → j < 12 → okw (M36 9) 1 (M 12 j)) → (∀ j : Int, 0 ≤ j → j < g → okw (M36 9) 1 (M 13 j)) → TZ G mX3_collect (tl_rm 10 0 0) 0 0 kColl M J 36 [some (vR 0), some (vI g)] [] F1 M36 J36 (ZM G (zPost G kColl F1 M J (qV (fun M' J' => J' = J ∧ clQ M M'))) 0 0) := by
          intro N36
          induction N36 with
          | zero => intro g M36 J36 hN; omega
          | succ N36 ih36 =>
            intro g M36 J36 hN36 i36_0 i36_1 i36_2 i36_3 i36_4 i36_5 i36_6
            refine Z_iload_n (n := 37) dX3_collect_36 rfl rfl ?_
            refine Z_bipush (n := 39) dX3_collect_37 rfl (by decide) (by decide) ?_
            refine Z_icmp_ge (n := 42) (t := 61) dX3_collect_39 rfl (by decide) (fun c39 => ?_) (fun c39 => ?_)
            · refine Z_iconst (n := 62) dX3_collect_61 rfl (by decide) ?_
              refine Z_istore_n (L' := [_, _]) (n := 63) dX3_collect_62 rfl (by decide) rfl rfl ?_
              have lp63 : ∀ (N63 : Nat) (q : Int) (M63 : zM) (J63 : zJ), ((8 - q).toNat) < N63 → (J63 = J) → (0 ≤ q) → (q ≤ 8) → (∀ a : Nat, ¬ a = 9 → M63 a = M a) → (c3 M S (M63 9)) → (∀ j : Int, 0 ≤ j → j < 12 → okw (M63 9) 1 (M 12 j)) → (∀ j : Int, 0 ≤ j → j < 40 → okw (M63 9) 1 (M 13 j)) → (∀ j : Int, 0 ≤ j → j < q → okw (M63 9) 1 (M 15 j)) → TZ G mX3_collect (tl_rm 10 0 0) 0 0 kColl M J 63 [some (vR 0), some (vI q)] [] F1 M63 J63 (ZM G (zPost G kColl F1 M J (qV (fun M' J' => J' = J ∧ clQ M M'))) 0 0) := by
                intro N63
                induction N63 with
                | zero => intro q M63 J63 hN; omega
                | succ N63 ih63 =>
                  intro q M63 J63 hN63 i63_0 i63_1 i63_2 i63_3 i63_4 i63_5 i63_6 i63_7
                  refine Z_iload_n (n := 64) dX3_collect_63 rfl rfl ?_
                  refine Z_aload_n (n := 65) dX3_collect_64 rfl rfl ?_
                  refine Z_getI (n := 68) (ki := 7) dX3_collect_65 rfl ffX3_42 rfl rfl rfl (fun r65 s65 => ?_)
                  refine Z_icmp_ge (n := 71) (t := 90) dX3_collect_68 rfl (by decide) (fun c68 => ?_) (fun c68 => ?_)
                  · have e07 : M63 0 7 = M 0 7 := by rw [i63_3 0 (by decide)]
                    obtain ⟨cC, cL, cU⟩ := c3_C hS.1 i63_4
                    have hC63 : ∀ n : Int, mC (M63 9) n → S n ∧ okN (mC (M63 9)) (M63 7 n) ∧ okN (mC (M63 9)) (M63 8 n) := by
                      rw [i63_3 7 (by decide), i63_3 8 (by decide)]
                      exact cC
                    refine Z_aload_n (n := 91) dX3_collect_90 rfl rfl ?_
                    refine Z_getO (n := 94) dX3_collect_91 rfl ffX3_25 rfl rfl ?_
                    refine Z_callVv (n := 97) [] _ dX3_collect_94 rfl cwX3_224 rfl rfl rfl (Nat.le_of_ble_eq_true rfl) (by refine ⟨?_, ?_, ?_, ?_⟩ <;> exact Nat.le_of_ble_eq_true rfl) (fun a h => by unfold kColl at h; unfold kSweep; omega) (zX2_sweep_f (S := S) (by exact pst_cg (i63_3 6 (by decide)) (i63_3 7 (by decide)) (i63_3 8 (by decide)) hS.1) (by exact hC63)) ?_
                    intro M94 J94 f94 q94
                    obtain ⟨e94_1, lm94, po94⟩ := q94
                    replace e94_1 := e94_1.symm; subst e94_1
                    refine Z_vret dX3_collect_97 rfl ?_
                    have o94 : ∀ a : Nat, kSweep a → ¬ a = 9 → M94 a = M a := fun a h1 h2 => ((f94 a h1).1).trans (i63_3 a h2)
                    have hrt : rt M94 = rt M := rt_cg (o94 12 (by decide) (by decide)) (o94 13 (by decide) (by decide)) (o94 15 (by decide) (by decide)) (by rw [o94 0 (by decide) (by decide)])
                    have hlb : LBc M94 = LBc M := LBc_cg (o94 6 (by decide) (by decide)) (o94 7 (by decide) (by decide)) (o94 8 (by decide) (by decide)) hrt
                    refine ⟨i63_0, mC (M63 9), po94, fun x hx => ?_, fun n hn => ?_, lm94.trans (by rw [i63_3 5 (by decide)])⟩
                    · rw [hrt] at hx
                      rcases hR x hx with e | e
                      · exact Or.inl e
                      · right
                        refine cU x e ?_
                        rcases hx with ⟨j, jb, e2⟩ | ⟨j, jb, e2⟩ | ⟨j, jb, e2⟩
                        · rw [e2]; exact i63_5 j jb.1 jb.2
                        · rw [e2]; exact i63_6 j jb.1 jb.2
                        · rw [e2]; exact i63_7 j jb.1 (by omega)
                    · rw [hlb, lab_cg (o94 6 (by decide) (by decide)) (o94 7 (by decide) (by decide)) (o94 8 (by decide) (by decide))]
                      exact cL n hn
                  · refine Z_ok (fun ok63 => ?_)
                    have e07 : M63 0 7 = M 0 7 := by rw [i63_3 0 (by decide)]
                    have cl63 : Clw M63 S 1 0 (M63 9) := by
                      have z := i63_4.2
                      unfold Clw at z ⊢
                      rw [i63_3 6 (by decide), i63_3 7 (by decide), i63_3 8 (by decide)]
                      exact z
                    refine Z_aload_n (n := 72) dX3_collect_71 rfl rfl ?_
                    refine Z_getO (n := 75) dX3_collect_72 rfl ffX3_25 rfl rfl ?_
                    refine Z_aload_n (n := 76) dX3_collect_75 rfl rfl ?_
                    refine Z_getA (n := 79) dX3_collect_76 rfl ffX3_39 rfl rfl ?_
                    refine Z_iload_n (n := 80) dX3_collect_79 rfl rfl ?_
                    refine Z_iald (n := 81) dX3_collect_80 rfl rfl rfl (by first | decide | assumption) (by omega) (by omega) (fun r80 s80 => ?_)
                    refine Z_callVv (n := 84) [_] _ dX3_collect_81 rfl cwX3_220 rfl rfl rfl (Nat.le_of_ble_eq_true rfl) (by refine ⟨?_, ?_, ?_, ?_⟩ <;> exact Nat.le_of_ble_eq_true rfl) (fun a h => by unfold kColl at h; unfold kMarks; omega) (zX2_mark_f  (by exact pst_cg (i63_3 6 (by decide)) (i63_3 7 (by decide)) (i63_3 8 (by decide)) hS.1) (by rw [i63_3 15 (by decide)]; exact hR _ (Or.inr (Or.inr ⟨q, ⟨by omega, by omega⟩, rfl⟩))) (by exact cl63)) ?_
                    intro M81 J81 f81 q81
                    obtain ⟨e81_1, mr81⟩ := q81
                    replace e81_1 := e81_1.symm; subst e81_1
                    have hx63 : rt M (M 15 q) := Or.inr (Or.inr ⟨q, ⟨by omega, by omega⟩, rfl⟩)
                    have mrM : mkR M S 1 (M 15 q) 0 (M63 9) (M81 9) := by
                      have z := mkR_cg (i63_3 6 (by decide)) (i63_3 7 (by decide)) (i63_3 8 (by decide)) mr81
                      rw [i63_3 15 (by decide)] at z
                      exact z
                    obtain ⟨n3, n4, n5⟩ := c3_st i63_4 hx63 mrM (fun m => ok63 9 m)
                    have n6 : ∀ a : Nat, ¬ a = 9 → M81 a = M a := fun a ha => ((f81 a ha).1).trans (i63_3 a ha)
                    have n7 : ∀ j : Int, 0 ≤ j → j < q + 1 → okw (M81 9) 1 (M 15 j) := fun j a b => by
                      by_cases e : j = q
                      · rw [e]; exact n4
                      · exact n5 _ (i63_7 j a (by omega))
                    refine Z_iinc (L' := [_, _]) (n := 87) dX3_collect_84 rfl rfl (by decide) rfl rfl (by omega) rfl ?_
                    refine Z_goto (t := 63) dX3_collect_87 (by decide) ?_
                    refine Z_loc (L' := [some _, some _]) (lsub_same (lsub_same lsub_nil)) ?_
                    exact ih63 _ _ _ (by omega) (by assumption) (by first | assumption | omega | decide) (by first | assumption | omega | decide) (by exact n6) (by exact n3) (by exact fun j a b => n5 _ (i63_5 j a b)) (by exact fun j a b => n5 _ (i63_6 j a b)) (by exact n7)
              refine Z_loc (L' := [some _, some _]) (lsub_same (lsub_same lsub_nil)) ?_
              exact lp63 _ _ _ _ (Nat.lt_succ_self _) (by assumption) (by first | assumption | omega | decide) (by first | assumption | omega | decide) (by exact i36_3) (by exact i36_4) (by exact i36_5) (by exact fun j a b => i36_6 j a (by omega)) (by exact fun j a b => by omega)
            · refine Z_ok (fun ok36 => ?_)
              have cl36 : Clw M36 S 1 0 (M36 9) := by
                have z := i36_4.2
                unfold Clw at z ⊢
                rw [i36_3 6 (by decide), i36_3 7 (by decide), i36_3 8 (by decide)]
                exact z
              refine Z_aload_n (n := 43) dX3_collect_42 rfl rfl ?_
              refine Z_getO (n := 46) dX3_collect_43 rfl ffX3_25 rfl rfl ?_
              refine Z_aload_n (n := 47) dX3_collect_46 rfl rfl ?_
              refine Z_getA (n := 50) dX3_collect_47 rfl ffX3_33 rfl rfl ?_
              refine Z_iload_n (n := 51) dX3_collect_50 rfl rfl ?_
              refine Z_iald (n := 52) dX3_collect_51 rfl rfl rfl (by first | decide | assumption) (by omega) (by omega) (fun r51 s51 => ?_)
              refine Z_callVv (n := 55) [_] _ dX3_collect_52 rfl cwX3_220 rfl rfl rfl (Nat.le_of_ble_eq_true rfl) (by refine ⟨?_, ?_, ?_, ?_⟩ <;> exact Nat.le_of_ble_eq_true rfl) (fun a h => by unfold kColl at h; unfold kMarks; omega) (zX2_mark_f  (by exact pst_cg (i36_3 6 (by decide)) (i36_3 7 (by decide)) (i36_3 8 (by decide)) hS.1) (by rw [i36_3 13 (by decide)]; exact hR _ (Or.inr (Or.inl ⟨g, ⟨by omega, by omega⟩, rfl⟩))) (by exact cl36)) ?_
              intro M52 J52 f52 q52
              obtain ⟨e52_1, mr52⟩ := q52
              replace e52_1 := e52_1.symm; subst e52_1
              have hx36 : rt M (M 13 g) := Or.inr (Or.inl ⟨g, ⟨by omega, by omega⟩, rfl⟩)
              have mrM : mkR M S 1 (M 13 g) 0 (M36 9) (M52 9) := by
                have z := mkR_cg (i36_3 6 (by decide)) (i36_3 7 (by decide)) (i36_3 8 (by decide)) mr52
                rw [i36_3 13 (by decide)] at z
                exact z
              obtain ⟨n3, n4, n5⟩ := c3_st i36_4 hx36 mrM (fun m => ok36 9 m)
              have n6 : ∀ a : Nat, ¬ a = 9 → M52 a = M a := fun a ha => ((f52 a ha).1).trans (i36_3 a ha)
              have n7 : ∀ j : Int, 0 ≤ j → j < g + 1 → okw (M52 9) 1 (M 13 j) := fun j a b => by
                by_cases e : j = g
                · rw [e]; exact n4
                · exact n5 _ (i36_6 j a (by omega))
              refine Z_iinc (L' := [_, _]) (n := 58) dX3_collect_55 rfl rfl (by decide) rfl rfl (by omega) rfl ?_
              refine Z_goto (t := 36) dX3_collect_58 (by decide) ?_
              refine Z_loc (L' := [some _, some _]) (lsub_same (lsub_same lsub_nil)) ?_
              exact ih36 _ _ _ (by omega) (by assumption) (by first | assumption | omega | decide) (by first | assumption | omega | decide) (by exact n6) (by exact n3) (by exact fun j a b => n5 _ (i36_5 j a b)) (by exact n7)
        refine Z_loc (L' := [some _, some _]) (lsub_same (lsub_same lsub_nil)) ?_
        exact lp36 _ _ _ _ (Nat.lt_succ_self _) (by assumption) (by first | assumption | omega | decide) (by first | assumption | omega | decide) (by exact i9_3) (by exact i9_4) (by exact fun j a b => i9_5 j a (by omega)) (by exact fun j a b => by omega)
      · refine Z_ok (fun ok9 => ?_)
        have cl9 : Clw M9 S 1 0 (M9 9) := by
          have z := i9_4.2
          unfold Clw at z ⊢
          rw [i9_3 6 (by decide), i9_3 7 (by decide), i9_3 8 (by decide)]
          exact z
        refine Z_aload_n (n := 16) dX3_collect_15 rfl rfl ?_
        refine Z_getO (n := 19) dX3_collect_16 rfl ffX3_25 rfl rfl ?_
        refine Z_aload_n (n := 20) dX3_collect_19 rfl rfl ?_
        refine Z_getA (n := 23) dX3_collect_20 rfl ffX3_29 rfl rfl ?_
        refine Z_iload_n (n := 24) dX3_collect_23 rfl rfl ?_
        refine Z_iald (n := 25) dX3_collect_24 rfl rfl rfl (by first | decide | assumption) (by omega) (by omega) (fun r24 s24 => ?_)
        refine Z_callVv (n := 28) [_] _ dX3_collect_25 rfl cwX3_220 rfl rfl rfl (Nat.le_of_ble_eq_true rfl) (by refine ⟨?_, ?_, ?_, ?_⟩ <;> exact Nat.le_of_ble_eq_true rfl) (fun a h => by unfold kColl at h; unfold kMarks; omega) (zX2_mark_f  (by exact pst_cg (i9_3 6 (by decide)) (i9_3 7 (by decide)) (i9_3 8 (by decide)) hS.1) (by rw [i9_3 12 (by decide)]; exact hR _ (Or.inl ⟨h, ⟨by omega, by omega⟩, rfl⟩)) (by exact cl9)) ?_
        intro M25 J25 f25 q25
        obtain ⟨e25_1, mr25⟩ := q25
        replace e25_1 := e25_1.symm; subst e25_1
        have hx9 : rt M (M 12 h) := Or.inl ⟨h, ⟨by omega, by omega⟩, rfl⟩
        have mrM : mkR M S 1 (M 12 h) 0 (M9 9) (M25 9) := by
          have z := mkR_cg (i9_3 6 (by decide)) (i9_3 7 (by decide)) (i9_3 8 (by decide)) mr25
          rw [i9_3 12 (by decide)] at z
          exact z
        obtain ⟨n3, n4, n5⟩ := c3_st i9_4 hx9 mrM (fun m => ok9 9 m)
        have n6 : ∀ a : Nat, ¬ a = 9 → M25 a = M a := fun a ha => ((f25 a ha).1).trans (i9_3 a ha)
        have n7 : ∀ j : Int, 0 ≤ j → j < h + 1 → okw (M25 9) 1 (M 12 j) := fun j a b => by
          by_cases e : j = h
          · rw [e]; exact n4
          · exact n5 _ (i9_5 j a (by omega))
        refine Z_iinc (L' := [_, _]) (n := 31) dX3_collect_28 rfl rfl (by decide) rfl rfl (by omega) rfl ?_
        refine Z_goto (t := 9) dX3_collect_31 (by decide) ?_
        refine Z_loc (L' := [some _, some _]) (lsub_same (lsub_same lsub_nil)) ?_
        exact ih9 _ _ _ (by omega) (by assumption) (by first | assumption | omega | decide) (by first | assumption | omega | decide) (by exact n6) (by exact n3) (by exact n7)
  refine Z_loc (L' := [some _, some _]) (lsub_same (lsub_same lsub_nil)) ?_
  exact lp9 _ _ _ _ (Nat.lt_succ_self _) (by rfl) (by first | assumption | omega | decide) (by first | assumption | omega | decide) (by exact fun a ha => fillz_o ha) (by exact c3_0 hS.1 (fun m a b => fillz_a a (by omega))) (by exact fun j a b => by omega)
set_option maxRecDepth 20000 in
theorem zX3_measured_f {G : tl_G} {M : zM} {J : zJ} {v : Int} (h0 : -1 ≤ v) (h1 : v ≤ 251) : ZN G yX3_measured mX3_measured 1 k0 [vR 0, vI v] F1 M J (qI (fun x M' J' => J' = J ∧ x = v ∧ ∀ j : Int, j ≠ 8 → M' 0 j = M 0 j)) := by
  refine ZN_of (L := [_, _, _]) (by decide) rfl rfl (Nat.le_of_ble_eq_true rfl) rfl (fun hav => ?_)
  refine Z_iload_n (n := 1) dX3_measured_0 rfl rfl ?_
  refine Z_iconst (n := 2) dX3_measured_1 rfl (by decide) ?_
  refine Z_icmp_ne (n := 5) (t := 17) dX3_measured_2 rfl (by decide) (fun c2 => ?_) (fun c2 => ?_)
  · refine Z_aload_n (n := 18) dX3_measured_17 rfl rfl ?_
    refine Z_getO (n := 21) dX3_measured_18 rfl ffX3_25 rfl rfl ?_
    refine Z_callVi (n := 24) [] _ dX3_measured_21 rfl cwX3_158 rfl rfl rfl (Nat.le_of_ble_eq_true rfl) (by refine ⟨?_, ?_, ?_, ?_⟩ <;> exact Nat.le_of_ble_eq_true rfl) (fun _ _ => trivial) (zX2_usedCount  ) ?_
    intro x21 M21 J21 z21 f21 q21
    obtain ⟨e21_1, e21_2, h21⟩ := q21
    replace e21_1 := e21_1.symm; subst e21_1
    replace e21_2 := e21_2.symm; subst e21_2
    refine Z_istore_n (L' := [_, _, _]) (n := 25) dX3_measured_24 rfl (by decide) rfl rfl ?_
    refine Z_aload_n (n := 26) dX3_measured_25 rfl rfl ?_
    refine Z_aload_n (n := 27) dX3_measured_26 rfl rfl ?_
    refine Z_getI (n := 30) (ki := 8) dX3_measured_27 rfl ffX3_46 rfl rfl rfl (fun r27 s27 => ?_)
    refine Z_iload_n (n := 31) dX3_measured_30 rfl rfl ?_
    refine Z_rg 5 7 rfl (fun g57 g57b => ?_)
    refine Z_rg 5 8 rfl (fun g58 g58b => ?_)
    refine Z_rg 0 8 rfl (fun g08 g08b => ?_)
    refine Z_mmax (n := 34) dX3_measured_31 rfl cwX3_212 (Nat.le_of_ble_eq_true rfl) (by refine ⟨?_, ?_, ?_, ?_⟩ <;> first | exact Nat.le_of_ble_eq_true rfl | (simp only [tl_rm]; omega)) (fun x31 h31 => ?_)
    refine Z_putI (n := 37) (ki := 8) dX3_measured_34 rfl ffX3_46 rfl (by decide) rfl rfl (by first | assumption | omega | decide) (by first | assumption | omega | decide) (by decide) ?_
    refine Z_iload_n (n := 38) dX3_measured_37 rfl rfl ?_
    refine Z_iret dX3_measured_38 rfl ?_
    exact ⟨rfl, rfl, fun j hj => uz_n hj⟩
  · refine Z_aload_n (n := 6) dX3_measured_5 rfl rfl ?_
    refine Z_getO (n := 9) dX3_measured_6 rfl ffX3_25 rfl rfl ?_
    refine Z_callVi (n := 12) [] _ dX3_measured_9 rfl cwX3_194 rfl rfl rfl (Nat.le_of_ble_eq_true rfl) (by refine ⟨?_, ?_, ?_, ?_⟩ <;> exact Nat.le_of_ble_eq_true rfl) (fun _ _ => trivial) (zX2_limit  ) ?_
    intro x9 M9 J9 z9 f9 q9
    obtain ⟨e9_1, e9_2, h9⟩ := q9
    replace e9_1 := e9_1.symm; subst e9_1
    replace e9_2 := e9_2.symm; subst e9_2
    refine Z_rg 5 8 rfl (fun g58 g58b => ?_)
    refine Z_iconst (n := 13) dX3_measured_12 rfl (by decide) ?_
    refine Z_iadd (n := 14) dX3_measured_13 rfl (by omega) ?_
    refine Z_goto (t := 24) dX3_measured_14 (by decide) ?_
    refine Z_istore_n (L' := [_, _, _]) (n := 25) dX3_measured_24 rfl (by decide) rfl rfl ?_
    refine Z_aload_n (n := 26) dX3_measured_25 rfl rfl ?_
    refine Z_aload_n (n := 27) dX3_measured_26 rfl rfl ?_
    refine Z_getI (n := 30) (ki := 8) dX3_measured_27 rfl ffX3_46 rfl rfl rfl (fun r27 s27 => ?_)
    refine Z_iload_n (n := 31) dX3_measured_30 rfl rfl ?_
    refine Z_rg 5 7 rfl (fun g57 g57b => ?_)
    refine Z_rg 5 8 rfl (fun g58 g58b => ?_)
    refine Z_rg 0 8 rfl (fun g08 g08b => ?_)
    refine Z_mmax (n := 34) dX3_measured_31 rfl cwX3_212 (Nat.le_of_ble_eq_true rfl) (by refine ⟨?_, ?_, ?_, ?_⟩ <;> first | exact Nat.le_of_ble_eq_true rfl | (simp only [tl_rm]; omega)) (fun x31 h31 => ?_)
    refine Z_putI (n := 37) (ki := 8) dX3_measured_34 rfl ffX3_46 rfl (by decide) rfl rfl (by first | assumption | omega | decide) (by first | assumption | omega | decide) (by decide) ?_
    refine Z_iload_n (n := 38) dX3_measured_37 rfl rfl ?_
    refine Z_iret dX3_measured_38 rfl ?_
    exact ⟨rfl, rfl, fun j hj => uz_n hj⟩
/-- what a step of F leaves -/
def stQ (M : zM) (F : FN) (x : Int) (M' : zM) : Prop := (∃ S' : Int → Prop, plo M' S' ∧ rtO M' S' ∧ (x = -1 ∨ okN S' x)) ∧ (∀ z : Int, rt M z → z = -1 ∨ den M' z = den M z) ∧ M' 5 8 = M 5 8 ∧ M' 0 7 = M 0 7 ∧ ((x = -1 ∧ over (fun y => LBc M y ∨ laid F y) (M 5 8)) ∨ (¬ x = -1 ∧ den M' x = F ∧ ¬ over (fun y => LBc M y ∨ laid F y) (M 5 8)))
theorem st_mk {M M1 M2 M3 : zM} {S1 : Int → Prop} {F : FN} {x : Int} (h6 : M1 6 = M 6) (h7 : M1 7 = M 7) (h8 : M1 8 = M 8) (hr1 : rt M1 = rt M) (hS1 : plo M1 S1) (hR1 : rtO M1 S1) (hl1 : ∀ n : Int, S1 n → LBc M1 (lab M1 n)) (h58 : M1 5 8 = M 5 8) (hno : ¬ over (LBc M) (M 5 8)) (hm : mkE M1 S1 F x M2) (hr2 : rt M2 = rt M1) (h3 : ∀ a : Nat, ¬ a = 0 → M3 a = M2 a) (h07 : M3 0 7 = M 0 7) (hr3 : rt M3 = rt M2) : stQ M F x M3 := by
  obtain ⟨S2, ag, sub, q2, l2, nw, res, us⟩ := hm
  have hdM : den M1 = den M := den_cg h6 h7 h8
  have hLB : LBc M1 = LBc M := LBc_cg h6 h7 h8 hr1
  have hd3 : den M3 = den M2 := den_cg (h3 6 (by decide)) (h3 7 (by decide)) (h3 8 (by decide))
  have hP : ∀ n : Int, S2 n → LBc M (lab M2 n) ∨ laid F (lab M2 n) := fun n hn => by
    rcases nw n hn with z | z
    · left
      rw [lab_agr hS1.1 ag z, ← hLB]
      exact hl1 n z
    · exact Or.inr z
  have c1 : cnt (LBc M) (M1 5 7) := by
    have z := cl_cnt hS1 hR1 hl1
    rw [hLB] at z
    exact z
  have le1 : M1 5 7 ≤ M1 5 8 := by
    by_cases z : M1 5 7 ≤ M1 5 8
    · exact z
    · exact absurd (cnt_gt c1 (by omega)) hno
  refine ⟨⟨S2, plo_cg (h3 5 (by decide)) (h3 6 (by decide)) (h3 7 (by decide)) (h3 8 (by decide)) (h3 10 (by decide)) (h3 11 (by decide)) q2, fun z hz => ?_, ?_⟩, fun z hz => ?_, ?_, h07, ?_⟩
  · rw [hr3, hr2] at hz
    exact (hR1 z hz).imp_right (fun t => okN_mono sub t)
  · exact res.imp (fun t => t.1) (fun t => t.1)
  · rw [← hr1] at hz
    refine (hR1 z hz).imp_right (fun t => ?_)
    rw [hd3, den_agr hS1.1 ag t, hdM]
  · rw [h3 5 (by decide), l2, h58]
  · have e57 : M2 5 7 = hr (fun n => ind (S2 n)) 252 := by
      obtain ⟨-, ch, fl, -, -, -, e⟩ := q2
      exact e
    rcases res with ⟨hx, ho, y, hy, hny⟩ | ⟨hx, hd⟩
    · left
      refine ⟨hx, over_hr (f := fun n => ind (S2 n)) (g := lab M2) (n := 252) (y := y) (fun a b a0 a1 b0 b1 ha hb e => lab_inj q2.1 (ind_nz.mp ha) (ind_nz.mp hb) e) (fun a a0 a1 ha => hP a (ind_nz.mp ha)) (Or.inr hy) (fun a a0 a1 ha => hny a (ind_nz.mp ha)) (by omega)⟩
    · right
      have hx1 : ¬ x = -1 := fun z => by have := okN_in q2.1 hx; omega
      refine ⟨hx1, by rw [hd3]; exact hd, fun ho => ?_⟩
      have c2 : cnt (fun y => LBc M y ∨ laid F y) (M2 5 7) := by
        rw [e57]
        refine cnt_hr (g := lab M2) (fun a b a0 a1 b0 b1 ha hb e => lab_inj q2.1 (ind_nz.mp ha) (ind_nz.mp hb) e) (fun a a0 a1 ha => hP a (ind_nz.mp ha)) (fun y hy => ?_)
        have cls : ∀ n : Int, S2 n → S2 n ∧ okN S2 (M2 7 n) ∧ okN S2 (M2 8 n) := fun n hn => ⟨hn, (q2.1.2.1 n hn).2.2.2.1.1, (q2.1.2.1 n hn).2.2.2.2.1⟩
        have fin : ∀ z : Int, okN S2 z → laid (den M2 z) y → ∃ a : Int, 0 ≤ a ∧ a < (252 : Nat) ∧ ¬ ind (S2 a) = 0 ∧ lab M2 a = y := fun z hz hl => by
          obtain ⟨n, hn, e⟩ := laid_in q2.1 cls hz hl
          have := (q2.1.2.1 n hn).1
          exact ⟨n, by omega, by omega, ind_nz.mpr hn, e⟩
        rcases hy with ⟨z, hz, hz1, hl⟩ | hl
        · rw [← hr1] at hz
          have t := (hR1 z hz).resolve_left hz1
          refine fin z (okN_mono sub t) ?_
          rw [den_agr hS1.1 ag t, hdM]
          exact hl
        · refine fin x hx ?_
          rw [hd]
          exact hl
      have := cnt_over (fun _ q => q) c2 ho
      have := us le1
      omega
theorem mkE_in {M M' : zM} {S : Int → Prop} {F : FN} {x : Int} (h : mkE M S F x M') : -1 ≤ x ∧ x ≤ 251 := by
  obtain ⟨S', -, -, q, -, -, r, -⟩ := h
  rcases r with ⟨e, -⟩ | ⟨e, -⟩
  · omega
  · have := okN_in q.1 e
    omega
def opr (M : zM) (u : Int) : Prop := u = 0 ∨ u = 1 ∨ (rt M u ∧ ¬ u = -1)
theorem opr_ok {M : zM} {S : Int → Prop} {u : Int} (hr : rtO M S) (h : opr M u) : okN S u := by
  rcases h with e | e | ⟨e, q⟩
  · exact Or.inl e
  · exact Or.inr (Or.inl e)
  · exact (hr u e).resolve_left q
set_option maxRecDepth 20000 in
theorem zX3_kindStep_f {G : tl_G} {M : zM} {J : zJ} {S : Int → Prop} {t u v w : Int} (ht0 : 0 ≤ t) (ht1 : t ≤ 10) (hu : u = -1 ∨ opr M u) (hv : v = -1 ∨ opr M v) (hw : w = -1 ∨ opr M w) (hS : plo M S) (hR : rtO M S) (hno : ¬ over (LBc M) (M 5 8)) : ZN G yX3_kindStep mX3_kindStep 12 kSt1 [vR 0, vI t, vI u, vI v, vI w] F1 M J (qI (fun x M' J' => J' = J ∧ (((u = -1 ∨ v = -1 ∨ w = -1) ∧ x = -1 ∧ M' = M) ∨ ((¬ u = -1 ∧ ¬ v = -1 ∧ ¬ w = -1) ∧ stQ M (fun r => tbl (tabF t) (den M u r) (den M v r) (den M w r)) x M')))) := by
  refine ZN_of (L := [_, _, _, _, _]) (by decide) rfl rfl (Nat.le_of_ble_eq_true rfl) rfl (fun hav => ?_)
  refine Z_iload_n (n := 1) dX3_kindStep_0 rfl rfl ?_
  refine Z_iconst (n := 2) dX3_kindStep_1 rfl (by decide) ?_
  refine Z_icmp_eq (n := 5) (t := 16) dX3_kindStep_2 rfl (by decide) (fun c2 => ?_) (fun c2 => ?_)
  · refine Z_iconst (n := 17) dX3_kindStep_16 rfl (by decide) ?_
    refine Z_iret dX3_kindStep_17 rfl ?_
    exact ⟨rfl, Or.inl ⟨by omega, rfl, rfl⟩⟩
  · refine Z_iload_n (n := 6) dX3_kindStep_5 rfl rfl ?_
    refine Z_iconst (n := 7) dX3_kindStep_6 rfl (by decide) ?_
    refine Z_icmp_eq (n := 10) (t := 16) dX3_kindStep_7 rfl (by decide) (fun c7 => ?_) (fun c7 => ?_)
    · refine Z_iconst (n := 17) dX3_kindStep_16 rfl (by decide) ?_
      refine Z_iret dX3_kindStep_17 rfl ?_
      exact ⟨rfl, Or.inl ⟨by omega, rfl, rfl⟩⟩
    · refine Z_iload (n := 12) dX3_kindStep_10 rfl rfl ?_
      refine Z_iconst (n := 13) dX3_kindStep_12 rfl (by decide) ?_
      refine Z_icmp_ne (n := 16) (t := 18) dX3_kindStep_13 rfl (by decide) (fun c13 => ?_) (fun c13 => ?_)
      · refine Z_aload_n (n := 19) dX3_kindStep_18 rfl rfl ?_
        refine Z_callVv (n := 22) [] _ dX3_kindStep_19 rfl cwX3_155 rfl rfl rfl (Nat.le_of_ble_eq_true rfl) (by refine ⟨?_, ?_, ?_, ?_⟩ <;> exact Nat.le_of_ble_eq_true rfl) (fun a h => by unfold kSt1 at h; unfold kColl; omega) (zX3_collect_f  (by exact hS) (by exact hR)) ?_
        intro M19 J19 f19 q19
        obtain ⟨e19_1, cq19⟩ := q19
        replace e19_1 := e19_1.symm; subst e19_1
        obtain ⟨S1, cS, cR, cL, c58⟩ := cq19
        have o1 : ∀ a : Nat, kColl a → M19 a = M a := fun a ha => (f19 a ha).1
        have hr1 : rt M19 = rt M := rt_cg (o1 12 (by decide)) (o1 13 (by decide)) (o1 15 (by decide)) (by rw [o1 0 (by decide)])
        have hd1 : den M19 = den M := den_cg (o1 6 (by decide)) (o1 7 (by decide)) (o1 8 (by decide))
        refine Z_aload_n (n := 23) dX3_kindStep_22 rfl rfl ?_
        refine Z_aload_n (n := 24) dX3_kindStep_23 rfl rfl ?_
        refine Z_getO (n := 27) dX3_kindStep_24 rfl ffX3_25 rfl rfl ?_
        refine Z_gets (i := 2) (n := 30) dX3_kindStep_27 rfl (by decide) (by decide) sfX3_197 ?_
        refine Z_iload_n (n := 31) dX3_kindStep_30 rfl rfl ?_
        refine Z_ialdS2 (n := 32) dX3_kindStep_31 rfl (by omega) (by omega) (fun r31 s31 => ?_)
        refine Z_iload_n (n := 33) dX3_kindStep_32 rfl rfl ?_
        refine Z_iload_n (n := 34) dX3_kindStep_33 rfl rfl ?_
        refine Z_iload (n := 36) dX3_kindStep_34 rfl rfl ?_
        have ru : opr M19 u := by unfold opr; rw [hr1]; exact hu.resolve_left (by omega)
        have rv : opr M19 v := by unfold opr; rw [hr1]; exact hv.resolve_left (by omega)
        have rw1 : opr M19 w := by unfold opr; rw [hr1]; exact hw.resolve_left (by omega)
        refine Z_callVi (n := 39) [_, _, _, _] _ dX3_kindStep_36 rfl cwX3_200 rfl rfl rfl (Nat.le_of_ble_eq_true rfl) (by refine ⟨?_, ?_, ?_, ?_⟩ <;> exact Nat.le_of_ble_eq_true rfl) (fun a h => by unfold kSt1 at h; unfold kPool; omega) (zX2_make_f  (by omega) (by omega) (by exact opr_ok cR ru) (by exact opr_ok cR rv) (by exact opr_ok cR rw1) (by exact cS)) ?_
        intro x36 M36 J36 z36 f36 q36
        obtain ⟨e36_1, mk36⟩ := q36
        replace e36_1 := e36_1.symm; subst e36_1
        have mkX := mk36
        rw [hd1] at mkX
        have rb36 : -1 ≤ x36 ∧ x36 ≤ 251 := mkE_in mkX
        refine Z_callVi (n := 42) [_] _ dX3_kindStep_39 rfl cwX3_203 rfl rfl rfl (Nat.le_of_ble_eq_true rfl) (by refine ⟨?_, ?_, ?_, ?_⟩ <;> exact Nat.le_of_ble_eq_true rfl) (fun a h => by unfold kSt1 at h; unfold k0; omega) (zX3_measured_f  (by omega) (by omega)) ?_
        intro x39 M39 J39 z39 f39 q39
        obtain ⟨e39_1, h39, mj39⟩ := q39
        replace e39_1 := e39_1.symm; subst e39_1
        refine Z_iret dX3_kindStep_42 rfl ?_
        refine ⟨rfl, Or.inr ⟨⟨by omega, by omega, by omega⟩, ?_⟩⟩
        rw [h39]
        exact st_mk (o1 6 (by decide)) (o1 7 (by decide)) (o1 8 (by decide)) hr1 cS cR cL c58 hno mkX (rt_cg (f36 12 (by decide)).1 (f36 13 (by decide)).1 (f36 15 (by decide)).1 (by rw [(f36 0 (by decide)).1])) (fun a ha => (f39 a ha).1) (by rw [mj39 7 (by decide), (f36 0 (by decide)).1, o1 0 (by decide)]) (rt_cg (f39 12 (by decide)).1 (f39 13 (by decide)).1 (f39 15 (by decide)).1 (mj39 7 (by decide)))
      · refine Z_iconst (n := 17) dX3_kindStep_16 rfl (by decide) ?_
        refine Z_iret dX3_kindStep_17 rfl ?_
        exact ⟨rfl, Or.inl ⟨by omega, rfl, rfl⟩⟩
set_option maxRecDepth 20000 in
theorem zX3_variableStep_f {G : tl_G} {M : zM} {J : zJ} {S : Int → Prop} {v : Int} (h0 : 0 ≤ v) (h1 : v < 8) (hO : ordOK M) (hS : plo M S) (hR : rtO M S) (hno : ¬ over (LBc M) (M 5 8)) : ZN G yX3_variableStep mX3_variableStep 11 kSt1 [vR 0, vI v] F1 M J (qI (fun x M' J' => J' = J ∧ stQ M (fun r => bz (r (M 4 v))) x M')) := by
  refine ZN_of (L := [_, _]) (by decide) rfl rfl (Nat.le_of_ble_eq_true rfl) rfl (fun hav => ?_)
  refine Z_aload_n (n := 1) dX3_variableStep_0 rfl rfl ?_
  refine Z_callVv (n := 4) [] _ dX3_variableStep_1 rfl cwX3_155 rfl rfl rfl (Nat.le_of_ble_eq_true rfl) (by refine ⟨?_, ?_, ?_, ?_⟩ <;> exact Nat.le_of_ble_eq_true rfl) (fun a h => by unfold kSt1 at h; unfold kColl; omega) (zX3_collect_f  (by exact hS) (by exact hR)) ?_
  intro M1 J1 f1 q1
  obtain ⟨e1_1, cq1⟩ := q1
  replace e1_1 := e1_1.symm; subst e1_1
  obtain ⟨S1, cS, cR, cL, c58⟩ := cq1
  have o1 : ∀ a : Nat, kColl a → M1 a = M a := fun a ha => (f1 a ha).1
  have hr1 : rt M1 = rt M := rt_cg (o1 12 (by decide)) (o1 13 (by decide)) (o1 15 (by decide)) (by rw [o1 0 (by decide)])
  have hd1 : den M1 = den M := den_cg (o1 6 (by decide)) (o1 7 (by decide)) (o1 8 (by decide))
  refine Z_aload_n (n := 5) dX3_variableStep_4 rfl rfl ?_
  refine Z_aload_n (n := 6) dX3_variableStep_5 rfl rfl ?_
  refine Z_getO (n := 9) dX3_variableStep_6 rfl ffX3_25 rfl rfl ?_
  refine Z_aload_n (n := 10) dX3_variableStep_9 rfl rfl ?_
  refine Z_getO (n := 13) dX3_variableStep_10 rfl ffX3_18 rfl rfl ?_
  refine Z_iload_n (n := 14) dX3_variableStep_13 rfl rfl ?_
  refine Z_callVi (n := 17) [_] _ dX3_variableStep_14 rfl cwX3_174 rfl rfl rfl (Nat.le_of_ble_eq_true rfl) (by refine ⟨?_, ?_, ?_, ?_⟩ <;> exact Nat.le_of_ble_eq_true rfl) (fun _ _ => trivial) (zX1_placeOf  (by first | assumption | omega | decide) (by first | assumption | omega | decide)) ?_
  intro x14 M14 J14 z14 f14 q14
  obtain ⟨e14_1, e14_2, h14⟩ := q14
  replace e14_1 := e14_1.symm; subst e14_1
  replace e14_2 := e14_2.symm; subst e14_2
  have hp : 0 ≤ x14 := by rw [h14, o1 4 (by decide)]; exact hO v h0 h1
  refine Z_rg 4 v rfl (fun g4 g4b => ?_)
  refine Z_callVi (n := 20) [_] _ dX3_variableStep_17 rfl cwX3_206 rfl rfl rfl (Nat.le_of_ble_eq_true rfl) (by refine ⟨?_, ?_, ?_, ?_⟩ <;> exact Nat.le_of_ble_eq_true rfl) (fun a h => by unfold kSt1 at h; unfold kPool; omega) (zX2_makeVariable_f  (by omega) (by omega) (by exact cS)) ?_
  intro x17 M17 J17 z17 f17 q17
  obtain ⟨e17_1, mk17⟩ := q17
  replace e17_1 := e17_1.symm; subst e17_1
  have mkX := mk17
  rw [h14, o1 4 (by decide)] at mkX
  have rb17 : -1 ≤ x17 ∧ x17 ≤ 251 := mkE_in mkX
  refine Z_callVi (n := 23) [_] _ dX3_variableStep_20 rfl cwX3_203 rfl rfl rfl (Nat.le_of_ble_eq_true rfl) (by refine ⟨?_, ?_, ?_, ?_⟩ <;> exact Nat.le_of_ble_eq_true rfl) (fun a h => by unfold kSt1 at h; unfold k0; omega) (zX3_measured_f  (by omega) (by omega)) ?_
  intro x20 M20 J20 z20 f20 q20
  obtain ⟨e20_1, h20, mj20⟩ := q20
  replace e20_1 := e20_1.symm; subst e20_1
  refine Z_iret dX3_variableStep_23 rfl ?_
  refine ⟨rfl, ?_⟩
  rw [h20]
  exact st_mk (o1 6 (by decide)) (o1 7 (by decide)) (o1 8 (by decide)) hr1 cS cR cL c58 hno mkX (rt_cg (f17 12 (by decide)).1 (f17 13 (by decide)).1 (f17 15 (by decide)).1 (by rw [(f17 0 (by decide)).1])) (fun a ha => (f20 a ha).1) (by rw [mj20 7 (by decide), (f17 0 (by decide)).1, o1 0 (by decide)]) (rt_cg (f20 12 (by decide)).1 (f20 13 (by decide)).1 (f20 15 (by decide)).1 (mj20 7 (by decide)))
set_option maxRecDepth 20000 in
theorem zX3_fixStep_f {G : tl_G} {M : zM} {J : zJ} {S : Int → Prop} {n v y : Int} (h0 : 0 ≤ v) (h1 : v < 8) (hn : opr M n) (hO : ordOK M) (hS : plo M S) (hR : rtO M S) (hno : ¬ over (LBc M) (M 5 8)) : ZN G yX3_fixStep mX3_fixStep 12 kSt1 [vR 0, vI n, vI v, vI y] F1 M J (qI (fun x M' J' => J' = J ∧ stQ M (fun r => den M n (updI r (M 4 v) (if y = 0 then 0 else 1))) x M')) := by
  refine ZN_of (L := [_, _, _, _]) (by decide) rfl rfl (Nat.le_of_ble_eq_true rfl) rfl (fun hav => ?_)
  have iN := okN_in hS.1 (opr_ok hR hn)
  refine Z_aload_n (n := 1) dX3_fixStep_0 rfl rfl ?_
  refine Z_callVv (n := 4) [] _ dX3_fixStep_1 rfl cwX3_155 rfl rfl rfl (Nat.le_of_ble_eq_true rfl) (by refine ⟨?_, ?_, ?_, ?_⟩ <;> exact Nat.le_of_ble_eq_true rfl) (fun a h => by unfold kSt1 at h; unfold kColl; omega) (zX3_collect_f  (by exact hS) (by exact hR)) ?_
  intro M1 J1 f1 q1
  obtain ⟨e1_1, cq1⟩ := q1
  replace e1_1 := e1_1.symm; subst e1_1
  obtain ⟨S1, cS, cR, cL, c58⟩ := cq1
  have o1 : ∀ a : Nat, kColl a → M1 a = M a := fun a ha => (f1 a ha).1
  have hr1 : rt M1 = rt M := rt_cg (o1 12 (by decide)) (o1 13 (by decide)) (o1 15 (by decide)) (by rw [o1 0 (by decide)])
  have hd1 : den M1 = den M := den_cg (o1 6 (by decide)) (o1 7 (by decide)) (o1 8 (by decide))
  refine Z_aload_n (n := 5) dX3_fixStep_4 rfl rfl ?_
  refine Z_aload_n (n := 6) dX3_fixStep_5 rfl rfl ?_
  refine Z_getO (n := 9) dX3_fixStep_6 rfl ffX3_25 rfl rfl ?_
  refine Z_iload_n (n := 10) dX3_fixStep_9 rfl rfl ?_
  refine Z_aload_n (n := 11) dX3_fixStep_10 rfl rfl ?_
  refine Z_getO (n := 14) dX3_fixStep_11 rfl ffX3_18 rfl rfl ?_
  refine Z_iload_n (n := 15) dX3_fixStep_14 rfl rfl ?_
  refine Z_callVi (n := 18) [_] _ dX3_fixStep_15 rfl cwX3_174 rfl rfl rfl (Nat.le_of_ble_eq_true rfl) (by refine ⟨?_, ?_, ?_, ?_⟩ <;> exact Nat.le_of_ble_eq_true rfl) (fun _ _ => trivial) (zX1_placeOf  (by first | assumption | omega | decide) (by first | assumption | omega | decide)) ?_
  intro x15 M15 J15 z15 f15 q15
  obtain ⟨e15_1, e15_2, h15⟩ := q15
  replace e15_1 := e15_1.symm; subst e15_1
  replace e15_2 := e15_2.symm; subst e15_2
  have hp : 0 ≤ x15 := by rw [h15, o1 4 (by decide)]; exact hO v h0 (by omega)
  refine Z_rg 4 v rfl (fun g4 g4b => ?_)
  have rn : opr M1 n := by unfold opr; rw [hr1]; exact hn
  refine Z_iload_n (n := 19) dX3_fixStep_18 rfl rfl ?_
  refine Z_callVi (n := 22) [_, _, _] _ dX3_fixStep_19 rfl cwX3_209 rfl rfl rfl (Nat.le_of_ble_eq_true rfl) (by refine ⟨?_, ?_, ?_, ?_⟩ <;> exact Nat.le_of_ble_eq_true rfl) (fun a h => by unfold kSt1 at h; unfold kPool; omega) (zX2_makeFixed_f  (by exact opr_ok cR rn) (by omega) (by omega) (by exact cS)) ?_
  intro x19 M19 J19 z19 f19 q19
  obtain ⟨e19_1, mk19⟩ := q19
  replace e19_1 := e19_1.symm; subst e19_1
  have mkX := mk19
  rw [hd1, h15, o1 4 (by decide)] at mkX
  have rb19 : -1 ≤ x19 ∧ x19 ≤ 251 := mkE_in mkX
  refine Z_callVi (n := 25) [_] _ dX3_fixStep_22 rfl cwX3_203 rfl rfl rfl (Nat.le_of_ble_eq_true rfl) (by refine ⟨?_, ?_, ?_, ?_⟩ <;> exact Nat.le_of_ble_eq_true rfl) (fun a h => by unfold kSt1 at h; unfold k0; omega) (zX3_measured_f  (by omega) (by omega)) ?_
  intro x22 M22 J22 z22 f22 q22
  obtain ⟨e22_1, h22, mj22⟩ := q22
  replace e22_1 := e22_1.symm; subst e22_1
  refine Z_iret dX3_fixStep_25 rfl ?_
  refine ⟨rfl, ?_⟩
  rw [h22]
  exact st_mk (o1 6 (by decide)) (o1 7 (by decide)) (o1 8 (by decide)) hr1 cS cR cL c58 hno mkX (rt_cg (f19 12 (by decide)).1 (f19 13 (by decide)).1 (f19 15 (by decide)).1 (by rw [(f19 0 (by decide)).1])) (fun a ha => (f22 a ha).1) (by rw [mj22 7 (by decide), (f19 0 (by decide)).1, o1 0 (by decide)]) (rt_cg (f22 12 (by decide)).1 (f22 13 (by decide)).1 (f22 15 (by decide)).1 (mj22 7 (by decide)))
end
section
/-! ===== the class: counts, give, keep; a call on its way ===== -/
/-- as many marked ones as markedWith says -/
theorem ctE_hr {w : Int → Int} : ∀ n : Nat, ctE (fun k => w (k + 2)) 1 n = hr (fun k => ind ((2 ≤ k ∧ k < 252) ∧ w k = 1)) (n + 2) ∨ 250 < n
  | 0 => Or.inl (by
    show 0 = _
    exact (hr_zero (fun k a b => ind_f (fun q => by omega))).symm)
  | n + 1 => by
    by_cases hn : 250 < n + 1
    · exact Or.inr hn
    · left
      have ih := (ctE_hr (w := w) n).resolve_right (by omega)
      show ctE (fun k => w (k + 2)) 1 n + (if w ((n : Int) + 2) = 1 then 1 else 0) = hr _ (n + 2) + (if ind (_ ∧ w ((n + 2 : Nat) : Int) = 1) = 0 then 0 else 1)
      rw [ih, show ((n + 2 : Nat) : Int) = (n : Int) + 2 by omega]
      by_cases e : w ((n : Int) + 2) = 1
      · rw [if_pos e, if_neg (ind_nz.mpr ⟨⟨by omega, by omega⟩, e⟩)]
      · rw [if_neg e, if_pos (ind_f (fun q => e q.2))]
/-- marks of one node alone -/
theorem mk_one {M : zM} {S : Int → Prop} {n : Int} {w w' : Int → Int} (hp : pst M S) (hn : n = -1 ∨ okN S n) (h0 : ∀ m : Int, 0 ≤ m → m < 252 → w m = 0) (hm : mkR M S 1 n 0 w w') : (∀ m : Int, 2 ≤ m → m < 252 → w' m = 0 ∨ (w' m = 1 ∧ S m ∧ laid (den M n) (lab M m))) ∧ ∀ y : Lb, laid (den M n) y → ∃ m : Int, ((2 ≤ m ∧ m < 252) ∧ w' m = 1) ∧ lab M m = y := by
  have h1 : ∀ m : Int, 2 ≤ m → m < 252 → w' m = 0 ∨ (w' m = 1 ∧ S m ∧ laid (den M n) (lab M m)) := fun m m0 m1 => by
    rcases hm.1 m with e | ⟨e, a, b⟩
    · left; rw [e]; exact h0 m (by omega) m1
    · right; rw [e, h0 m (by omega) m1]; exact ⟨zo01.1, a, b⟩
  refine ⟨h1, fun y hy => ?_⟩
  have hok : okN S n := hn.resolve_left (fun e => by rw [e] at hy; exact laid_neg (by decide) hy)
  have hC : ∀ m : Int, (((2 ≤ m ∧ m < 252) ∧ w' m = 1)) → S m ∧ okN (fun m => (2 ≤ m ∧ m < 252) ∧ w' m = 1) (M 7 m) ∧ okN (fun m => (2 ≤ m ∧ m < 252) ∧ w' m = 1) (M 8 m) := fun m q => by
    have a : S m := by
      rcases h1 m q.1.1 q.1.2 with z | z
      · rw [q.2] at z; cases z
      · exact z.2.1
    obtain ⟨-, p, -, c1, c2⟩ := hp.2.1 m a
    have z := hm.2.2 m a p.1 (by unfold mkw; rw [q.2, zo01.2.2.2]; decide)
    have up : ∀ c : Int, okN S c → okw w' 1 c → okN (fun m => (2 ≤ m ∧ m < 252) ∧ w' m = 1) c := fun c hc t => by
      have ci := okN_in hp hc
      by_cases u : c < 2
      · rcases (show c = 0 ∨ c = 1 by omega) with v | v
        · exact Or.inl v
        · exact Or.inr (Or.inl v)
      · have k := t.resolve_left u
        rcases h1 c (by omega) ci.2 with v | v
        · unfold mkw at k
          rw [v, zo01.2.2.1] at k
          exact absurd rfl k
        · exact Or.inr (Or.inr ⟨⟨by omega, ci.2⟩, v.1⟩)
    exact ⟨a, up _ c1.1 z.1, up _ c2.1 z.2⟩
  have hx : okN (fun m => (2 ≤ m ∧ m < 252) ∧ w' m = 1) n := by
    have ci := okN_in hp hok
    by_cases u : n < 2
    · rcases (show n = 0 ∨ n = 1 by omega) with v | v
      · exact Or.inl v
      · exact Or.inr (Or.inl v)
    · have k := hm.2.1 (by omega)
      rcases h1 n (by omega) ci.2 with v | v
      · unfold mkw at k
        rw [v, zo01.2.2.1] at k
        exact absurd rfl k
      · exact Or.inr (Or.inr ⟨⟨by omega, ci.2⟩, v.1⟩)
  exact laid_in hp hC hx hy
theorem cnt_one {M : zM} {S : Int → Prop} {n x : Int} {w w' : Int → Int} (hp : pst M S) (hn : n = -1 ∨ okN S n) (h0 : ∀ m : Int, 0 ≤ m → m < 252 → w m = 0) (hm : mkR M S 1 n 0 w w') (hx : x = ctE (fun k => w' (k + 2)) 1 250) : cnt (laid (den M n)) x := by
  obtain ⟨h1, h2⟩ := mk_one hp hn h0 hm
  rw [hx, (ctE_hr (w := w') 250).resolve_right (by decide)]
  refine cnt_hr (g := lab M) (fun a b a0 a1 b0 b1 ha hb e => ?_) (fun a a0 a1 ha => ?_) (fun y hy => ?_)
  · have qa := ind_nz.mp ha
    have qb := ind_nz.mp hb
    refine lab_inj hp ?_ ?_ e
    · rcases h1 a qa.1.1 qa.1.2 with z | z
      · rw [qa.2] at z; cases z
      · exact z.2.1
    · rcases h1 b qb.1.1 qb.1.2 with z | z
      · rw [qb.2] at z; cases z
      · exact z.2.1
  · have qa := ind_nz.mp ha
    rcases h1 a qa.1.1 qa.1.2 with z | z
    · rw [qa.2] at z; cases z
    · exact z.2.2
  · obtain ⟨m, q, e⟩ := h2 y hy
    exact ⟨m, by omega, by omega, ind_nz.mpr q, e⟩
set_option maxRecDepth 20000 in
theorem zX2_nodeCount_f {G : tl_G} {M : zM} {J : zJ} {S : Int → Prop} {n : Int} (hp : pst M S) (hn : n = -1 ∨ okN S n) : ZN G yX2_nodeCount mX2_nodeCount 10 kMarks [vR 5, vI n] F1 M J (qI (fun x M' J' => J' = J ∧ cnt (laid (den M n)) x)) := by
  refine ZN_of (L := [_, _]) (by decide) rfl rfl (Nat.le_of_ble_eq_true rfl) rfl (fun hav => ?_)
  refine Z_aload_n (n := 1) dX2_nodeCount_0 rfl rfl ?_
  refine Z_callVv (n := 4) [] _ dX2_nodeCount_1 rfl cwX2_53 rfl rfl rfl (Nat.le_of_ble_eq_true rfl) (by refine ⟨?_, ?_, ?_, ?_⟩ <;> exact Nat.le_of_ble_eq_true rfl) (fun _ h => h) (zX2_unmark  (by decide)) ?_
  intro M1 J1 f1 q1
  obtain ⟨e1_1, e1_2⟩ := q1
  replace e1_1 := e1_1.symm; subst e1_1
  replace e1_2 := e1_2.symm; subst e1_2
  have o1 : ∀ a : Nat, ¬ a = 9 → fillz M 9 252 0 a = M a := fun a ha => fillz_o ha
  have z1 : ∀ m : Int, 0 ≤ m → m < 252 → fillz M 9 252 0 9 m = 0 := fun m a b => fillz_a a (by omega)
  have hp1 : pst (fillz M 9 252 0) S := pst_cg (o1 6 (by decide)) (o1 7 (by decide)) (o1 8 (by decide)) hp
  refine Z_aload_n (n := 5) dX2_nodeCount_4 rfl rfl ?_
  refine Z_iload_n (n := 6) dX2_nodeCount_5 rfl rfl ?_
  refine Z_callVv (n := 9) [_] _ dX2_nodeCount_6 rfl cwX2_56 rfl rfl rfl (Nat.le_of_ble_eq_true rfl) (by refine ⟨?_, ?_, ?_, ?_⟩ <;> exact Nat.le_of_ble_eq_true rfl) (fun _ h => h) (zX2_mark_f  (by exact hp1) (by exact hn) (by exact (c3_0 hp1 z1).2)) ?_
  intro M6 J6 f6 q6
  obtain ⟨e6_1, mr6⟩ := q6
  replace e6_1 := e6_1.symm; subst e6_1
  refine Z_aload_n (n := 10) dX2_nodeCount_9 rfl rfl ?_
  refine Z_iconst (n := 11) dX2_nodeCount_10 rfl (by decide) ?_
  refine Z_callVi (n := 14) [_] _ dX2_nodeCount_11 rfl cwX2_60 rfl rfl rfl (Nat.le_of_ble_eq_true rfl) (by refine ⟨?_, ?_, ?_, ?_⟩ <;> exact Nat.le_of_ble_eq_true rfl) (fun _ _ => trivial) (zX2_markedWith  ) ?_
  intro x11 M11 J11 z11 f11 q11
  obtain ⟨e11_1, e11_2, h11⟩ := q11
  replace e11_1 := e11_1.symm; subst e11_1
  replace e11_2 := e11_2.symm; subst e11_2
  refine Z_iret dX2_nodeCount_14 rfl ?_
  exact ⟨rfl, cnt_one hp hn z1 (mkR_cg (o1 6 (by decide)) (o1 7 (by decide)) (o1 8 (by decide)) mr6) h11⟩
set_option maxRecDepth 20000 in
theorem zX3_give_f {G : tl_G} {M : zM} {J : zJ} {S : Int → Prop} {h v : Int} (h0 : 0 ≤ h) (h1 : h < 12) (hp : pst M S) (hv : v = -1 ∨ okN S v) : ZN G yX3_give mX3_give 11 kGive [vR 0, vI h, vI v] F1 M J (qI (fun x M' J' => J' = J ∧ ((∀ g : Int, 0 ≤ g → g < 40 → M' 13 g = -1) ∧ M' 0 7 = 0) ∧ ((v = -1 ∧ x = -5 ∧ M' 12 = M 12) ∨ (¬ v = -1 ∧ cnt (laid (den M v)) x ∧ M' 12 = updI (M 12) h v)))) := by
  refine ZN_of (L := [_, _, _]) (by decide) rfl rfl (Nat.le_of_ble_eq_true rfl) rfl (fun hav => ?_)
  have iv : v = -1 ∨ (0 ≤ v ∧ v < 252) := hv.imp_right (fun q => okN_in hp q)
  refine Z_aload_n (n := 1) dX3_give_0 rfl rfl ?_
  refine Z_callVv (n := 4) [] _ dX3_give_1 rfl cwX3_188 rfl rfl rfl (Nat.le_of_ble_eq_true rfl) (by refine ⟨?_, ?_, ?_, ?_⟩ <;> exact Nat.le_of_ble_eq_true rfl) (fun _ h => h) (zX3_endSteps  (by decide) (by decide)) ?_
  intro M1 J1 f1 q1
  obtain ⟨e1_1, e1_2⟩ := q1
  replace e1_1 := e1_1.symm; subst e1_1
  replace e1_2 := e1_2.symm; subst e1_2
  have o1 : ∀ a : Nat, ¬ a = 0 → ¬ a = 13 → fillz (uz M 0 7 0) 13 40 (-1) a = M a := fun a h1 h2 => by rw [fillz_o h2, uz_o h1]
  refine Z_iload_n (n := 5) dX3_give_4 rfl rfl ?_
  refine Z_iconst (n := 6) dX3_give_5 rfl (by decide) ?_
  refine Z_icmp_ne (n := 9) (t := 12) dX3_give_6 rfl (by decide) (fun c6 => ?_) (fun c6 => ?_)
  · refine Z_aload_n (n := 13) dX3_give_12 rfl rfl ?_
    refine Z_getA (n := 16) dX3_give_13 rfl ffX3_29 rfl rfl ?_
    refine Z_iload_n (n := 17) dX3_give_16 rfl rfl ?_
    refine Z_iload_n (n := 18) dX3_give_17 rfl rfl ?_
    refine Z_iast (n := 19) dX3_give_18 rfl rfl rfl (by first | decide | assumption) (by omega) (by omega) (by first | assumption | omega | decide) (by first | assumption | omega | decide) (by decide) ?_
    refine Z_nm (fun M18 e18 => ?_)
    have o2 : ∀ a : Nat, ¬ a = 0 → ¬ a = 13 → ¬ a = 12 → M18 a = M a := fun a h1 h2 h3 => by rw [e18, uz_o h3]; exact o1 a h1 h2
    have t12 : M18 12 = updI (M 12) h v := by rw [e18, uz_fn, o1 12 (by decide) (by decide)]
    have t13 : ∀ g : Int, 0 ≤ g → g < 40 → M18 13 g = -1 := fun g a b => by rw [e18, uz_oo (by decide)]; exact fillz_a a (by omega)
    have t07 : M18 0 7 = 0 := by rw [e18, uz_oo (by decide), fillz_o (by decide), uz_s]
    clear e18
    refine Z_aload_n (n := 20) dX3_give_19 rfl rfl ?_
    refine Z_getO (n := 23) dX3_give_20 rfl ffX3_25 rfl rfl ?_
    refine Z_iload_n (n := 24) dX3_give_23 rfl rfl ?_
    refine Z_callVi (n := 27) [_] _ dX3_give_24 rfl cwX3_152 rfl rfl rfl (Nat.le_of_ble_eq_true rfl) (by refine ⟨?_, ?_, ?_, ?_⟩ <;> exact Nat.le_of_ble_eq_true rfl) (fun a h => by unfold kGive at h; unfold kMarks; omega) (zX2_nodeCount_f  (by exact pst_cg (o2 6 (by decide) (by decide) (by decide)) (o2 7 (by decide) (by decide) (by decide)) (o2 8 (by decide) (by decide) (by decide)) hp) (by exact hv)) ?_
    intro x24 M24 J24 z24 f24 q24
    obtain ⟨e24_1, cn24⟩ := q24
    replace e24_1 := e24_1.symm; subst e24_1
    refine Z_iret dX3_give_27 rfl ?_
    rw [den_cg (o2 6 (by decide) (by decide) (by decide)) (o2 7 (by decide) (by decide) (by decide)) (o2 8 (by decide) (by decide) (by decide))] at cn24
    refine ⟨rfl, ⟨fun g a b => ?_, ?_⟩, Or.inr ⟨by omega, cn24, ?_⟩⟩
    · rw [(f24 13 (by decide)).1]; exact t13 g a b
    · rw [(f24 0 (by decide)).1]; exact t07
    · rw [(f24 12 (by decide)).1]; exact t12
  · refine Z_bipush (n := 11) dX3_give_9 rfl (by decide) (by decide) ?_
    refine Z_iret dX3_give_11 rfl ?_
    refine ⟨rfl, ⟨fun g a b => fillz_a a (by omega), ?_⟩, Or.inl ⟨by omega, rfl, o1 12 (by decide) (by decide)⟩⟩
    rw [fillz_o (by decide), uz_s]
set_option maxRecDepth 20000 in
theorem zX3_keep_f {G : tl_G} {M : zM} {J : zJ} {v : Int} (h0 : -1 ≤ v) (h1 : v ≤ 251) (h7 : M 0 7 < 8) : ZN G yX3_keep mX3_keep 0 kKeep [vR 0, vI v] F1 M J (qI (fun x M' J' => J' = J ∧ x = v ∧ ((v = -1 ∧ M' = M) ∨ (¬ v = -1 ∧ M' = uz (uz M 15 (M 0 7) v) 0 7 (M 0 7 + 1))))) := by
  refine ZN_of (L := [_, _]) (by decide) rfl rfl (Nat.le_of_ble_eq_true rfl) rfl (fun hav => ?_)
  refine Z_iload_n (n := 1) dX3_keep_0 rfl rfl ?_
  refine Z_iconst (n := 2) dX3_keep_1 rfl (by decide) ?_
  refine Z_icmp_eq (n := 5) (t := 34) dX3_keep_2 rfl (by decide) (fun c2 => ?_) (fun c2 => ?_)
  · refine Z_iload_n (n := 35) dX3_keep_34 rfl rfl ?_
    refine Z_iret dX3_keep_35 rfl ?_
    refine ⟨rfl, rfl, ?_⟩
    first
      | exact Or.inl ⟨by omega, rfl⟩
      | exact Or.inr ⟨by omega, rfl⟩
  · refine Z_aload_n (n := 6) dX3_keep_5 rfl rfl ?_
    refine Z_getI (n := 9) (ki := 7) dX3_keep_6 rfl ffX3_42 rfl rfl rfl (fun r6 s6 => ?_)
    try simp only [uz_oo (show (0 : Nat) ≠ 15 by decide)] at r6 s6 ⊢
    refine Z_bipush (n := 11) dX3_keep_9 rfl (by decide) (by decide) ?_
    refine Z_icmp_ge (n := 14) (t := 34) dX3_keep_11 rfl (by decide) (fun c11 => ?_) (fun c11 => ?_)
    · omega
    · refine Z_aload_n (n := 15) dX3_keep_14 rfl rfl ?_
      refine Z_getA (n := 18) dX3_keep_15 rfl ffX3_39 rfl rfl ?_
      refine Z_aload_n (n := 19) dX3_keep_18 rfl rfl ?_
      refine Z_getI (n := 22) (ki := 7) dX3_keep_19 rfl ffX3_42 rfl rfl rfl (fun r19 s19 => ?_)
      try simp only [uz_oo (show (0 : Nat) ≠ 15 by decide)] at r19 s19 ⊢
      refine Z_iload_n (n := 23) dX3_keep_22 rfl rfl ?_
      refine Z_iast (n := 24) dX3_keep_23 rfl rfl rfl (by first | decide | assumption) (by omega) (by omega) (by first | assumption | omega | decide) (by first | assumption | omega | decide) (by decide) ?_
      refine Z_aload_n (n := 25) dX3_keep_24 rfl rfl ?_
      refine Z_dup (n := 26) dX3_keep_25 rfl rfl ?_
      refine Z_getI (n := 29) (ki := 7) dX3_keep_26 rfl ffX3_42 rfl rfl rfl (fun r26 s26 => ?_)
      try simp only [uz_oo (show (0 : Nat) ≠ 15 by decide)] at r26 s26 ⊢
      refine Z_iconst (n := 30) dX3_keep_29 rfl (by decide) ?_
      refine Z_iadd (n := 31) dX3_keep_30 rfl (by omega) ?_
      refine Z_putI (n := 34) (ki := 7) dX3_keep_31 rfl ffX3_42 rfl (by decide) rfl rfl (by first | assumption | omega | decide) (by first | assumption | omega | decide) (by decide) ?_
      refine Z_iload_n (n := 35) dX3_keep_34 rfl rfl ?_
      refine Z_iret dX3_keep_35 rfl ?_
      refine ⟨rfl, rfl, ?_⟩
      first
        | exact Or.inl ⟨by omega, rfl⟩
        | exact Or.inr ⟨by omega, rfl⟩
/-- a call on its way: handles as they were, E at hand beside them -/
def mid (M M2 : zM) (E : Lb → Prop) : Prop := (∃ S : Int → Prop, plo M2 S ∧ rtO M2 S) ∧ (∀ j : Int, 0 ≤ j → j < 12 → M2 12 j = M 12 j ∧ (M 12 j = -1 ∨ den M2 (M 12 j) = den M (M 12 j))) ∧ M2 5 8 = M 5 8 ∧ (∀ y, LBc M2 y ↔ (LBc M y ∨ E y)) ∧ ¬ over (fun y => LBc M y ∨ E y) (M 5 8)
/-- between calls -/
def CB (M : zM) : Prop := (∃ S : Int → Prop, plo M S ∧ rtO M S) ∧ ¬ over (LBc M) (M 5 8) ∧ (∀ g : Int, 0 ≤ g → g < 40 → M 13 g = -1) ∧ M 0 7 = 0
theorem over_cg {P Q : Lb → Prop} {c : Int} (h : ∀ y, P y ↔ Q y) : over P c ↔ over Q c := ⟨over_mono (fun y => (h y).mp), over_mono (fun y => (h y).mpr)⟩
theorem mid_no {M M2 : zM} {E : Lb → Prop} (h : mid M M2 E) : ¬ over (LBc M2) (M2 5 8) := by
  rw [h.2.2.1, over_cg h.2.2.2.1]
  exact h.2.2.2.2
theorem mid_0 {M M2 : zM} (h : CB M) (o : ∀ a : Nat, ¬ a = 0 → M2 a = M a) (h07 : M2 0 7 = M 0 7) : mid M M2 (fun _ => False) := by
  obtain ⟨⟨S, hS, hR⟩, hno, -, -⟩ := h
  have hrt : rt M2 = rt M := rt_cg (o 12 (by decide)) (o 13 (by decide)) (o 15 (by decide)) h07
  have hd : den M2 = den M := den_cg (o 6 (by decide)) (o 7 (by decide)) (o 8 (by decide))
  refine ⟨⟨S, plo_cg (o 5 (by decide)) (o 6 (by decide)) (o 7 (by decide)) (o 8 (by decide)) (o 10 (by decide)) (o 11 (by decide)) hS, fun x hx => hR x (by rw [← hrt]; exact hx)⟩, fun j _ _ => ⟨by rw [o 12 (by decide)], Or.inr (by rw [hd])⟩, by rw [o 5 (by decide)], fun y => ?_, ?_⟩
  · rw [LBc_cg (o 6 (by decide)) (o 7 (by decide)) (o 8 (by decide)) hrt]
    exact ⟨Or.inl, fun q => q.resolve_right id⟩
  · rw [over_cg (Q := LBc M) (fun y => ⟨fun q => q.resolve_right id, Or.inl⟩)]
    exact hno
/-- behind a step -/
theorem mid_st {M M2 M3 : zM} {E : Lb → Prop} {F : FN} {x : Int} (h : mid M M2 E) (hq : stQ M2 F x M3) (h12 : M3 12 = M2 12) (h13 : M3 13 = M2 13) (h15 : M3 15 = M2 15) : mid M M3 E ∧ ((x = -1 ∧ over (fun y => (LBc M y ∨ E y) ∨ laid F y) (M 5 8)) ∨ (¬ x = -1 ∧ den M3 x = F ∧ ¬ over (fun y => (LBc M y ∨ E y) ∨ laid F y) (M 5 8))) ∧ (∃ S : Int → Prop, plo M3 S ∧ rtO M3 S ∧ (x = -1 ∨ okN S x)) := by
  obtain ⟨⟨S, hS, hR⟩, hh, h58, hlb, hno⟩ := h
  obtain ⟨⟨S', hS', hR', hx⟩, hd, k58, k07, hr⟩ := hq
  have hrt : rt M3 = rt M2 := rt_cg h12 h13 h15 k07
  have hl3 : ∀ y, LBc M3 y ↔ LBc M2 y := fun y => by
    unfold LBc
    rw [hrt]
    constructor
    · rintro ⟨z, a, b, c⟩
      have t := (hd z a).resolve_left b
      rw [t] at c
      exact ⟨z, a, b, c⟩
    · rintro ⟨z, a, b, c⟩
      have t := (hd z a).resolve_left b
      exact ⟨z, a, b, by rw [t]; exact c⟩
  refine ⟨⟨⟨S', hS', hR'⟩, fun j a b => ?_, k58.trans h58, fun y => (hl3 y).trans (hlb y), hno⟩, ?_, ⟨S', hS', hR', hx⟩⟩
  · obtain ⟨e, q⟩ := hh j a b
    refine ⟨by rw [h12]; exact e, ?_⟩
    rcases q with q | q
    · exact Or.inl q
    · have z := hd (M 12 j) (Or.inl ⟨j, ⟨a, b⟩, e.symm⟩)
      exact z.imp_right (fun t => t.trans q)
  · rw [h58] at hr
    have e : ∀ y, (LBc M2 y ∨ laid F y) ↔ ((LBc M y ∨ E y) ∨ laid F y) := fun y => or_congr (hlb y) Iff.rfl
    rw [over_cg e] at hr
    exact hr
/-- it is kept -/
theorem mid_kp {M M3 M4 : zM} {E : Lb → Prop} {F : FN} {x : Int} {S : Int → Prop} (h : mid M M3 E) (hS : plo M3 S) (hR : rtO M3 S) (hx : okN S x) (hd : den M3 x = F) (hno : ¬ over (fun y => (LBc M y ∨ E y) ∨ laid F y) (M 5 8)) (h7 : 0 ≤ M3 0 7) (e : M4 = uz (uz M3 15 (M3 0 7) x) 0 7 (M3 0 7 + 1)) : mid M M4 (fun y => E y ∨ laid F y) ∧ rt M4 x := by
  have o : ∀ a : Nat, ¬ a = 0 → ¬ a = 15 → M4 a = M3 a := fun a h1 h2 => by rw [e, uz_o h1, uz_o h2]
  have e07 : M4 0 7 = M3 0 7 + 1 := by rw [e, uz_s]
  have e15 : M4 15 = updI (M3 15) (M3 0 7) x := by rw [e, uz_o (by decide), uz_fn]
  have hd4 : den M4 = den M3 := den_cg (o 6 (by decide) (by decide)) (o 7 (by decide) (by decide)) (o 8 (by decide) (by decide))
  have hx1 : ¬ x = -1 := fun z => by have := okN_in hS.1 hx; omega
  have hrt : ∀ z, rt M4 z ↔ (rt M3 z ∨ z = x) := fun z => by
    unfold rt
    rw [o 12 (by decide) (by decide), o 13 (by decide) (by decide), e15, e07]
    constructor
    · rintro (q | q | ⟨k, kb, q⟩)
      · exact Or.inl (Or.inl q)
      · exact Or.inl (Or.inr (Or.inl q))
      · by_cases t : k = M3 0 7
        · right
          rw [t, updI_s] at q
          exact q
        · left
          rw [updI_n t] at q
          exact Or.inr (Or.inr ⟨k, by omega, q⟩)
    · rintro ((q | q | ⟨k, kb, q⟩) | q)
      · exact Or.inl q
      · exact Or.inr (Or.inl q)
      · exact Or.inr (Or.inr ⟨k, by omega, by rw [updI_n (by omega)]; exact q⟩)
      · exact Or.inr (Or.inr ⟨M3 0 7, by omega, by rw [updI_s]; exact q⟩)
  have hlb : ∀ y, LBc M4 y ↔ (LBc M3 y ∨ laid F y) := fun y => by
    unfold LBc
    rw [hd4]
    constructor
    · rintro ⟨z, a, b, c⟩
      rcases (hrt z).mp a with t | t
      · exact Or.inl ⟨z, t, b, c⟩
      · right; rw [t, hd] at c; exact c
    · rintro (⟨z, a, b, c⟩ | c)
      · exact ⟨z, (hrt z).mpr (Or.inl a), b, c⟩
      · exact ⟨x, (hrt x).mpr (Or.inr rfl), hx1, by rw [hd]; exact c⟩
  have assoc : ∀ y, ((LBc M y ∨ E y) ∨ laid F y) ↔ (LBc M y ∨ E y ∨ laid F y) := fun y => or_assoc
  refine ⟨⟨⟨S, plo_cg (o 5 (by decide) (by decide)) (o 6 (by decide) (by decide)) (o 7 (by decide) (by decide)) (o 8 (by decide) (by decide)) (o 10 (by decide) (by decide)) (o 11 (by decide) (by decide)) hS, fun z hz => ?_⟩, fun j a b => ?_, by rw [o 5 (by decide) (by decide)]; exact h.2.2.1, fun y => ?_, ?_⟩, (hrt x).mpr (Or.inr rfl)⟩
  · rcases (hrt z).mp hz with t | t
    · exact hR z t
    · right; rw [t]; exact hx
  · rw [o 12 (by decide) (by decide), hd4]
    exact h.2.1 j a b
  · rw [hlb y, h.2.2.2.1 y]
    exact assoc y
  · rw [← over_cg assoc]
    exact hno
/-- what a call that gives a handle leaves -/
def finQ (M : zM) (h : Int) (ok : Prop) (F : FN) (x : Int) (M' : zM) : Prop := CB M' ∧ M' 5 8 = M 5 8 ∧ ((¬ ok ∧ x = -5 ∧ ∀ j : Int, 0 ≤ j → j < 12 → (M' 12 j = M 12 j ∧ (M 12 j = -1 ∨ den M' (M 12 j) = den M (M 12 j)))) ∨ (ok ∧ cnt (laid F) x ∧ (¬ M' 12 h = -1 ∧ den M' (M' 12 h) = F) ∧ ∀ j : Int, 0 ≤ j → j < 12 → j ≠ h → (M' 12 j = M 12 j ∧ (M 12 j = -1 ∨ den M' (M 12 j) = den M (M 12 j)))))
theorem fin_mk {M M3 M4 : zM} {E : Lb → Prop} {F : FN} {x v h : Int} {ok : Prop} {S : Int → Prop} (hm : mid M M3 E) (h0 : 0 ≤ h) (h1 : h < 12) (hS : plo M3 S) (hR : rtO M3 S) (hv : v = -1 ∨ okN S v) (hok : ok ↔ ¬ v = -1) (hd : ¬ v = -1 → den M3 v = F ∧ ¬ over (fun y => (LBc M y ∨ E y) ∨ laid F y) (M 5 8)) (fr : ∀ a : Nat, ¬ a = 0 → ¬ a = 9 → ¬ a = 12 → ¬ a = 13 → M4 a = M3 a) (ng : (∀ g : Int, 0 ≤ g → g < 40 → M4 13 g = -1) ∧ M4 0 7 = 0) (gv : (v = -1 ∧ x = -5 ∧ M4 12 = M3 12) ∨ (¬ v = -1 ∧ cnt (laid (den M3 v)) x ∧ M4 12 = updI (M3 12) h v)) : finQ M h ok F x M4 := by
  have hd4 : den M4 = den M3 := den_cg (fr 6 (by decide) (by decide) (by decide) (by decide)) (fr 7 (by decide) (by decide) (by decide) (by decide)) (fr 8 (by decide) (by decide) (by decide) (by decide))
  have p4 : plo M4 S := plo_cg (fr 5 (by decide) (by decide) (by decide) (by decide)) (fr 6 (by decide) (by decide) (by decide) (by decide)) (fr 7 (by decide) (by decide) (by decide) (by decide)) (fr 8 (by decide) (by decide) (by decide) (by decide)) (fr 10 (by decide) (by decide) (by decide) (by decide)) (fr 11 (by decide) (by decide) (by decide) (by decide)) hS
  have e58 : M4 5 8 = M 5 8 := by rw [fr 5 (by decide) (by decide) (by decide) (by decide)]; exact hm.2.2.1
  -- roots: the handles, or nothing
  have hrt : ∀ z, rt M4 z → z = -1 ∨ ∃ j : Int, (0 ≤ j ∧ j < 12) ∧ z = M4 12 j := fun z hz => by
    rcases hz with ⟨j, jb, q⟩ | ⟨g, gb, q⟩ | ⟨k, kb, q⟩
    · exact Or.inr ⟨j, jb, q⟩
    · left; rw [q]; exact ng.1 g gb.1 gb.2
    · rw [ng.2] at kb; omega
  have old : ∀ j : Int, 0 ≤ j → j < 12 → M3 12 j = M 12 j ∧ (M 12 j = -1 ∨ den M4 (M 12 j) = den M (M 12 j)) := fun j a b => by
    rw [hd4]; exact hm.2.1 j a b
  have oldr : ∀ j : Int, 0 ≤ j → j < 12 → (M3 12 j = -1 ∨ okN S (M3 12 j)) := fun j a b => hR _ (Or.inl ⟨j, ⟨a, b⟩, rfl⟩)
  have oldl : ∀ (j : Int) (y : Lb), 0 ≤ j → j < 12 → ¬ M3 12 j = -1 → laid (den M4 (M3 12 j)) y → LBc M y := fun j y a b c d => by
    obtain ⟨e, q⟩ := old j a b
    rw [e] at c d
    rw [q.resolve_left c] at d
    exact ⟨M 12 j, Or.inl ⟨j, ⟨a, b⟩, rfl⟩, c, d⟩
  rcases gv with ⟨hv1, hx, e12⟩ | ⟨hv1, hx, e12⟩
  · refine ⟨⟨⟨S, p4, fun z hz => ?_⟩, ?_, ng⟩, e58, Or.inl ⟨fun t => (hok.mp t) hv1, hx, fun j a b => ?_⟩⟩
    · rcases hrt z hz with t | ⟨j, jb, t⟩
      · exact Or.inl t
      · rw [t, e12]; exact oldr j jb.1 jb.2
    · rw [e58]
      refine fun ho => hm.2.2.2.2 (over_mono (fun y hy => ?_) ho)
      obtain ⟨z, a, b, c⟩ := hy
      rcases hrt z a with t | ⟨j, jb, t⟩
      · exact absurd t b
      · rw [t, e12] at b c
        exact Or.inl (oldl j y jb.1 jb.2 b c)
    · rw [e12]; exact old j a b
  · obtain ⟨hdF, hno⟩ := hd hv1
    have hvS := hv.resolve_left hv1
    refine ⟨⟨⟨S, p4, fun z hz => ?_⟩, ?_, ng⟩, e58, Or.inr ⟨hok.mpr hv1, by rw [← hdF]; exact hx, ⟨by rw [e12, updI_s]; exact hv1, by rw [e12, updI_s, hd4]; exact hdF⟩, fun j a b c => ?_⟩⟩
    · rcases hrt z hz with t | ⟨j, jb, t⟩
      · exact Or.inl t
      · rw [t, e12]
        by_cases w : j = h
        · rw [w, updI_s]; exact Or.inr hvS
        · rw [updI_n w]; exact oldr j jb.1 jb.2
    · rw [e58]
      refine fun ho => hno (over_mono (fun y hy => ?_) ho)
      obtain ⟨z, a, b, c⟩ := hy
      rcases hrt z a with t | ⟨j, jb, t⟩
      · exact absurd t b
      · by_cases w : j = h
        · rw [t, e12, w, updI_s, hd4, hdF] at c
          exact Or.inr c
        · rw [t, e12, updI_n w] at b c
          exact Or.inl (Or.inl (oldl j y jb.1 jb.2 b c))
    · rw [e12, updI_n c]; exact old j a b
end
