/-! ===== the pool: making ===== -/
def tbl (t x y z : Int) : Int := zand (zshr t (x + 2 * y + 4 * z)) 1
theorem kn_1 : ∀ (t : Fin 256) (o y z : Fin 2), tbl (knF (t.val : Int) (o.val : Int) 1 85) (o.val : Int) (y.val : Int) (z.val : Int) = tbl (t.val : Int) (o.val : Int) (y.val : Int) (z.val : Int) := by decide +kernel
theorem kn_2 : ∀ (t : Fin 256) (o x z : Fin 2), tbl (knF (t.val : Int) (o.val : Int) 2 51) (x.val : Int) (o.val : Int) (z.val : Int) = tbl (t.val : Int) (x.val : Int) (o.val : Int) (z.val : Int) := by decide +kernel
theorem kn_4 : ∀ (t : Fin 256) (o x y : Fin 2), tbl (knF (t.val : Int) (o.val : Int) 4 15) (x.val : Int) (y.val : Int) (o.val : Int) = tbl (t.val : Int) (x.val : Int) (y.val : Int) (o.val : Int) := by decide +kernel
theorem kn_r : ∀ (t : Fin 256) (o : Fin 2), (0 ≤ knF (t.val : Int) (o.val : Int) 1 85 ∧ knF (t.val : Int) (o.val : Int) 1 85 ≤ 255) ∧ (0 ≤ knF (t.val : Int) (o.val : Int) 2 51 ∧ knF (t.val : Int) (o.val : Int) 2 51 ≤ 255) ∧ (0 ≤ knF (t.val : Int) (o.val : Int) 4 15 ∧ knF (t.val : Int) (o.val : Int) 4 15 ≤ 255) := by decide +kernel
theorem kn_t : ∀ (t : Fin 256) (a b c : Fin 2), knF (knF (knF (t.val : Int) (a.val : Int) 1 85) (b.val : Int) 2 51) (c.val : Int) 4 15 = 0 ∨ knF (knF (knF (t.val : Int) (a.val : Int) 1 85) (b.val : Int) 2 51) (c.val : Int) 4 15 = 255 := by decide +kernel
theorem tb_c : ∀ x y z : Fin 2, tbl 0 (x.val : Int) (y.val : Int) (z.val : Int) = 0 ∧ tbl 255 (x.val : Int) (y.val : Int) (z.val : Int) = 1 ∧ tbl 170 (x.val : Int) (y.val : Int) (z.val : Int) = (x.val : Int) ∧ tbl 204 (x.val : Int) (y.val : Int) (z.val : Int) = (y.val : Int) ∧ tbl 240 (x.val : Int) (y.val : Int) (z.val : Int) = (z.val : Int) := by decide +kernel
theorem tb_ok {x y z : Int} (hx : x = 0 ∨ x = 1) (hy : y = 0 ∨ y = 1) (hz : z = 0 ∨ z = 1) : tbl 0 x y z = 0 ∧ tbl 255 x y z = 1 ∧ tbl 170 x y z = x ∧ tbl 204 x y z = y ∧ tbl 240 x y z = z := by
  have q := tb_c ⟨x.toNat, by omega⟩ ⟨y.toNat, by omega⟩ ⟨z.toNat, by omega⟩
  dsimp only at q
  rw [Int.toNat_of_nonneg (by omega), Int.toNat_of_nonneg (by omega), Int.toNat_of_nonneg (by omega)] at q
  exact q
theorem kn_big {t o s k : Int} (h : 2 ≤ o) : knF t o s k = t := by unfold knF; rw [if_pos h]
theorem kn_s1 {t o x y z : Int} (t0 : 0 ≤ t) (t1 : t ≤ 255) (o0 : 0 ≤ o) (hx : x = 0 ∨ x = 1) (hy : y = 0 ∨ y = 1) (hz : z = 0 ∨ z = 1) (h : o < 2 → x = o) : (0 ≤ knF t o 1 85 ∧ knF t o 1 85 ≤ 255) ∧ tbl (knF t o 1 85) x y z = tbl t x y z := by
  by_cases q : o < 2
  · have r := kn_r ⟨t.toNat, by omega⟩ ⟨o.toNat, by omega⟩
    have v := kn_1 ⟨t.toNat, by omega⟩ ⟨o.toNat, by omega⟩ ⟨y.toNat, by omega⟩ ⟨z.toNat, by omega⟩
    dsimp only at r v
    rw [Int.toNat_of_nonneg t0, Int.toNat_of_nonneg o0] at r
    rw [Int.toNat_of_nonneg t0, Int.toNat_of_nonneg o0, Int.toNat_of_nonneg (show 0 ≤ y by omega), Int.toNat_of_nonneg (show 0 ≤ z by omega)] at v
    exact ⟨r.1, by rw [h q]; exact v⟩
  · rw [kn_big (by omega)]; exact ⟨⟨t0, t1⟩, rfl⟩
theorem kn_s2 {t o x y z : Int} (t0 : 0 ≤ t) (t1 : t ≤ 255) (o0 : 0 ≤ o) (hx : x = 0 ∨ x = 1) (hy : y = 0 ∨ y = 1) (hz : z = 0 ∨ z = 1) (h : o < 2 → y = o) : (0 ≤ knF t o 2 51 ∧ knF t o 2 51 ≤ 255) ∧ tbl (knF t o 2 51) x y z = tbl t x y z := by
  by_cases q : o < 2
  · have r := kn_r ⟨t.toNat, by omega⟩ ⟨o.toNat, by omega⟩
    have v := kn_2 ⟨t.toNat, by omega⟩ ⟨o.toNat, by omega⟩ ⟨x.toNat, by omega⟩ ⟨z.toNat, by omega⟩
    dsimp only at r v
    rw [Int.toNat_of_nonneg t0, Int.toNat_of_nonneg o0] at r
    rw [Int.toNat_of_nonneg t0, Int.toNat_of_nonneg o0, Int.toNat_of_nonneg (show 0 ≤ x by omega), Int.toNat_of_nonneg (show 0 ≤ z by omega)] at v
    exact ⟨r.2.1, by rw [h q]; exact v⟩
  · rw [kn_big (by omega)]; exact ⟨⟨t0, t1⟩, rfl⟩
theorem kn_s4 {t o x y z : Int} (t0 : 0 ≤ t) (t1 : t ≤ 255) (o0 : 0 ≤ o) (hx : x = 0 ∨ x = 1) (hy : y = 0 ∨ y = 1) (hz : z = 0 ∨ z = 1) (h : o < 2 → z = o) : (0 ≤ knF t o 4 15 ∧ knF t o 4 15 ≤ 255) ∧ tbl (knF t o 4 15) x y z = tbl t x y z := by
  by_cases q : o < 2
  · have r := kn_r ⟨t.toNat, by omega⟩ ⟨o.toNat, by omega⟩
    have v := kn_4 ⟨t.toNat, by omega⟩ ⟨o.toNat, by omega⟩ ⟨x.toNat, by omega⟩ ⟨y.toNat, by omega⟩
    dsimp only at r v
    rw [Int.toNat_of_nonneg t0, Int.toNat_of_nonneg o0] at r
    rw [Int.toNat_of_nonneg t0, Int.toNat_of_nonneg o0, Int.toNat_of_nonneg (show 0 ≤ x by omega), Int.toNat_of_nonneg (show 0 ≤ y by omega)] at v
    exact ⟨r.2.2, by rw [h q]; exact v⟩
  · rw [kn_big (by omega)]; exact ⟨⟨t0, t1⟩, rfl⟩
theorem den_c {M : zM} {n : Int} (h0 : 0 ≤ n) (h : n < 2) (r : Int → Int) : den M n r = n := by
  rw [den_lt h]
  rcases (show n = 0 ∨ n = 1 by omega) with e | e <;> rw [e] <;> rfl
theorem kn_fn {M : zM} {S : Int → Prop} {t u v w a b c : Int} (hp : pst M S) (hu : okN S u) (hv : okN S v) (hw : okN S w) (t0 : 0 ≤ t) (t1 : t ≤ 255) (ha : a = knF t u 1 85) (hb : b = knF a v 2 51) (hc : c = knF b w 4 15) : (0 ≤ c ∧ c ≤ 255) ∧ (fun r => tbl t (den M u r) (den M v r) (den M w r)) = fun r => tbl c (den M u r) (den M v r) (den M w r) := by
  have iu := okN_in hp hu
  have iv := okN_in hp hv
  have iw := okN_in hp hw
  have key : ∀ r : Int → Int, (0 ≤ c ∧ c ≤ 255) ∧ tbl t (den M u r) (den M v r) (den M w r) = tbl c (den M u r) (den M v r) (den M w r) := fun r => by
    have bu := den_bool hp hu r
    have bv := den_bool hp hv r
    have bw := den_bool hp hw r
    have s1 := kn_s1 (y := den M v r) (z := den M w r) t0 t1 iu.1 bu bv bw (fun q => den_c iu.1 q r)
    rw [← ha] at s1
    have s2 := kn_s2 (x := den M u r) (z := den M w r) s1.1.1 s1.1.2 iv.1 bu bv bw (fun q => den_c iv.1 q r)
    rw [← hb] at s2
    have s4 := kn_s4 (x := den M u r) (y := den M v r) s2.1.1 s2.1.2 iw.1 bu bv bw (fun q => den_c iw.1 q r)
    rw [← hc] at s4
    exact ⟨s4.1, by rw [s4.2, s2.2, s1.2]⟩
  exact ⟨(key (fun _ => 0)).1, funext (fun r => (key r).2)⟩
theorem kn_term {t u v w a b c : Int} (t0 : 0 ≤ t) (t1 : t ≤ 255) (hu : u = 0 ∨ u = 1) (hv : v = 0 ∨ v = 1) (hw : w = 0 ∨ w = 1) (ha : a = knF t u 1 85) (hb : b = knF a v 2 51) (hc : c = knF b w 4 15) : c = 0 ∨ c = 255 := by
  have q := kn_t ⟨t.toNat, by omega⟩ ⟨u.toNat, by omega⟩ ⟨v.toNat, by omega⟩ ⟨w.toNat, by omega⟩
  dsimp only at q
  rw [Int.toNat_of_nonneg t0, Int.toNat_of_nonneg (show 0 ≤ u by omega), Int.toNat_of_nonneg (show 0 ≤ v by omega), Int.toNat_of_nonneg (show 0 ≤ w by omega)] at q
  rw [hc, hb, ha]
  exact q
/-- an operand's half -/
theorem half_den {M : zM} {S : Int → Prop} {n p v x : Int} {c : Int} (hp : pst M S) (hn : okN S n) (p1 : p < 8) (hpl : p ≤ M 6 n) (hc : c = if v = 0 then M 7 n else M 8 n) (hx : (M 6 n = p ∧ x = c) ∨ (¬ M 6 n = p ∧ x = n)) : okN S x ∧ p + 1 ≤ M 6 x ∧ ∀ r : Int → Int, den M n (updI r p v) = den M x r := by
  rcases hx with ⟨e, q⟩ | ⟨e, q⟩
  · have hs : S n := by
      rcases hn with z | z | z
      · rw [z, hp.1.1] at e; omega
      · rw [z, hp.1.2] at e; omega
      · exact z
    obtain ⟨-, -, -, a, b⟩ := hp.2.1 n hs
    by_cases z : v = 0
    · rw [if_pos z] at hc
      rw [q, hc, z]
      refine ⟨a.1, by omega, fun r => ?_⟩
      rw [← e]
      exact den_low hp hs r
    · rw [if_neg z] at hc
      rw [q, hc]
      refine ⟨b.1, by omega, fun r => ?_⟩
      rw [← e]
      exact den_high hp hs z r
  · rw [q]
    exact ⟨hn, by omega, fun r => den_ig hp hn (by omega) r⟩
theorem dep_tbl {M : zM} {S : Int → Prop} {t u v w p : Int} (hp : pst M S) (hu : okN S u) (hv : okN S v) (hw : okN S w) (pu : p ≤ M 6 u) (pv : p ≤ M 6 v) (pw : p ≤ M 6 w) : dep (fun r => tbl t (den M u r) (den M v r) (den M w r)) p := fun r r' e => by
  dsimp only
  rw [dep_den hp hu pu r r' e, dep_den hp hv pv r r' e, dep_den hp hw pw r r' e]
set_option maxRecDepth 20000 in
theorem zX2_makeFrom_f {G : tl_G} {M : zM} {J : zJ} (k : Nat) {S : Int → Prop} {t u v w e : Int} (t0 : 0 ≤ t) (t1 : t ≤ 255) (hu : okN S u) (hv : okN S v) (hw : okN S w) (e0 : 0 ≤ e) (he : e + k = 8) (eu : e ≤ M 6 u) (ev : e ≤ M 6 v) (ew : e ≤ M 6 w) (hS : plo M S) : ZN G yX2_makeFrom mX2_makeFrom (k + 2) kPool [vR 5, vI t, vI u, vI v, vI w, vI e] F1 M J (qI (fun x M' J' => J' = J ∧ mkE M S (fun r => tbl t (den M u r) (den M v r) (den M w r)) x M')) := by
  induction k generalizing M J S t u v w e with
  | zero =>
    refine ZN_of (L := [_, _, _, _, _, _, _, _, _, _]) (by decide) rfl rfl (Nat.le_of_ble_eq_true rfl) rfl (fun hav => ?_)
    have iu := okN_in hS.1 hu
    have iv := okN_in hS.1 hv
    have iw := okN_in hS.1 hw
    refine Z_iload_n (n := 1) dX2_makeFrom_0 rfl rfl ?_
    refine Z_iload_n (n := 2) dX2_makeFrom_1 rfl rfl ?_
    refine Z_iconst (n := 3) dX2_makeFrom_2 rfl (by decide) ?_
    refine Z_bipush (n := 5) dX2_makeFrom_3 rfl (by decide) (by decide) ?_
    refine Z_callSi (n := 8) [_, _, _, _] _ dX2_makeFrom_5 rfl cwX2_75 rfl rfl (Nat.le_of_ble_eq_true rfl) ⟨by show 0 + 1 ≤ (0 + 2); omega, by show 8 + (5 + 11) + 40 * 0 ≤ 40 * (0 + 2); omega, Nat.le_refl _, Nat.le_refl _⟩ (fun _ _ => trivial) (zX2_knowing  ) ?_
    intro x5 M5 J5 z5 f5 q5
    obtain ⟨e5_1, e5_2, h5⟩ := q5
    replace e5_1 := e5_1.symm; subst e5_1
    replace e5_2 := e5_2.symm; subst e5_2
    refine Z_iload_n (n := 9) dX2_makeFrom_8 rfl rfl ?_
    refine Z_iconst (n := 10) dX2_makeFrom_9 rfl (by decide) ?_
    refine Z_bipush (n := 12) dX2_makeFrom_10 rfl (by decide) (by decide) ?_
    refine Z_callSi (n := 15) [_, _, _, _] _ dX2_makeFrom_12 rfl cwX2_75 rfl rfl (Nat.le_of_ble_eq_true rfl) ⟨by show 0 + 1 ≤ (0 + 2); omega, by show 8 + (5 + 11) + 40 * 0 ≤ 40 * (0 + 2); omega, Nat.le_refl _, Nat.le_refl _⟩ (fun _ _ => trivial) (zX2_knowing  ) ?_
    intro x12 M12 J12 z12 f12 q12
    obtain ⟨e12_1, e12_2, h12⟩ := q12
    replace e12_1 := e12_1.symm; subst e12_1
    replace e12_2 := e12_2.symm; subst e12_2
    refine Z_iload (n := 17) dX2_makeFrom_15 rfl rfl ?_
    refine Z_iconst (n := 18) dX2_makeFrom_17 rfl (by decide) ?_
    refine Z_bipush (n := 20) dX2_makeFrom_18 rfl (by decide) (by decide) ?_
    refine Z_callSi (n := 23) [_, _, _, _] _ dX2_makeFrom_20 rfl cwX2_75 rfl rfl (Nat.le_of_ble_eq_true rfl) ⟨by show 0 + 1 ≤ (0 + 2); omega, by show 8 + (5 + 11) + 40 * 0 ≤ 40 * (0 + 2); omega, Nat.le_refl _, Nat.le_refl _⟩ (fun _ _ => trivial) (zX2_knowing  ) ?_
    intro x20 M20 J20 z20 f20 q20
    obtain ⟨e20_1, e20_2, h20⟩ := q20
    replace e20_1 := e20_1.symm; subst e20_1
    replace e20_2 := e20_2.symm; subst e20_2
    obtain ⟨⟨kr0, kr1⟩, eF⟩ := kn_fn hS.1 hu hv hw t0 t1 h5 h12 h20
    refine Z_istore (L' := [_, _, _, _, _, _, _, _, _, _]) (n := 25) dX2_makeFrom_23 rfl (by decide) rfl rfl ?_
    refine Z_iload (n := 27) dX2_makeFrom_25 rfl rfl ?_
    refine Z_lsc (td := 87) dX2_makeFrom_27 (by decide) (by decide) (by decide) ?_ (fun c27 => ?_)
    · refine lcases_cons (fun c27 t ht => ?_) ?_
      · obtain rfl : t = 76 := by omega
        refine Z_iconst (n := 77) dX2_makeFrom_76 rfl (by decide) ?_
        refine Z_iret dX2_makeFrom_77 rfl ?_
        refine ⟨rfl, S, mkd_rf hS (Or.inl rfl) ?_⟩
        rw [eF]
        funext r
        have z := tb_ok (den_bool hS.1 hu r) (den_bool hS.1 hv r) (den_bool hS.1 hw r)
        dsimp only at c27
        rw [c27]
        rw [den_0, z.1]
      refine lcases_cons (fun c27 t ht => ?_) ?_
      · obtain rfl : t = 80 := by omega
        refine Z_iload_n (n := 81) dX2_makeFrom_80 rfl rfl ?_
        refine Z_iret dX2_makeFrom_81 rfl ?_
        refine ⟨rfl, S, mkd_rf hS hu ?_⟩
        rw [eF]
        funext r
        have z := tb_ok (den_bool hS.1 hu r) (den_bool hS.1 hv r) (den_bool hS.1 hw r)
        dsimp only at c27
        rw [c27]
        rw [z.2.2.1]
      refine lcases_cons (fun c27 t ht => ?_) ?_
      · obtain rfl : t = 82 := by omega
        refine Z_iload_n (n := 83) dX2_makeFrom_82 rfl rfl ?_
        refine Z_iret dX2_makeFrom_83 rfl ?_
        refine ⟨rfl, S, mkd_rf hS hv ?_⟩
        rw [eF]
        funext r
        have z := tb_ok (den_bool hS.1 hu r) (den_bool hS.1 hv r) (den_bool hS.1 hw r)
        dsimp only at c27
        rw [c27]
        rw [z.2.2.2.1]
      refine lcases_cons (fun c27 t ht => ?_) ?_
      · obtain rfl : t = 84 := by omega
        refine Z_iload (n := 86) dX2_makeFrom_84 rfl rfl ?_
        refine Z_iret dX2_makeFrom_86 rfl ?_
        refine ⟨rfl, S, mkd_rf hS hw ?_⟩
        rw [eF]
        funext r
        have z := tb_ok (den_bool hS.1 hu r) (den_bool hS.1 hv r) (den_bool hS.1 hw r)
        dsimp only at c27
        rw [c27]
        rw [z.2.2.2.2]
      refine lcases_cons (fun c27 t ht => ?_) ?_
      · obtain rfl : t = 78 := by omega
        refine Z_iconst (n := 79) dX2_makeFrom_78 rfl (by decide) ?_
        refine Z_iret dX2_makeFrom_79 rfl ?_
        refine ⟨rfl, S, mkd_rf hS (Or.inr (Or.inl rfl)) ?_⟩
        rw [eF]
        funext r
        have z := tb_ok (den_bool hS.1 hu r) (den_bool hS.1 hv r) (den_bool hS.1 hw r)
        dsimp only at c27
        rw [c27]
        rw [den_1, z.2.1]
      exact lcases_nil
    · refine Z_aload_n (n := 88) dX2_makeFrom_87 rfl rfl ?_
      refine Z_getA (n := 91) dX2_makeFrom_88 rfl ffX2_11 rfl rfl ?_
      refine Z_iload_n (n := 92) dX2_makeFrom_91 rfl rfl ?_
      refine Z_iald (n := 93) dX2_makeFrom_92 rfl rfl rfl (by first | decide | assumption) (by omega) (by omega) (fun r92 s92 => ?_)
      refine Z_aload_n (n := 94) dX2_makeFrom_93 rfl rfl ?_
      refine Z_getA (n := 97) dX2_makeFrom_94 rfl ffX2_11 rfl rfl ?_
      refine Z_iload_n (n := 98) dX2_makeFrom_97 rfl rfl ?_
      refine Z_iald (n := 99) dX2_makeFrom_98 rfl rfl rfl (by first | decide | assumption) (by omega) (by omega) (fun r98 s98 => ?_)
      refine Z_aload_n (n := 100) dX2_makeFrom_99 rfl rfl ?_
      refine Z_getA (n := 103) dX2_makeFrom_100 rfl ffX2_11 rfl rfl ?_
      refine Z_iload (n := 105) dX2_makeFrom_103 rfl rfl ?_
      refine Z_iald (n := 106) dX2_makeFrom_105 rfl rfl rfl (by first | decide | assumption) (by omega) (by omega) (fun r105 s105 => ?_)
      refine Z_mmin (n := 109) dX2_makeFrom_106 rfl cwX2_79 (Nat.le_of_ble_eq_true rfl) (by refine ⟨?_, ?_, ?_, ?_⟩ <;> first | exact Nat.le_of_ble_eq_true rfl | (simp only [tl_rm]; omega)) (fun x106 h106 => ?_)
      refine Z_mmin (n := 112) dX2_makeFrom_109 rfl cwX2_79 (Nat.le_of_ble_eq_true rfl) (by refine ⟨?_, ?_, ?_, ?_⟩ <;> first | exact Nat.le_of_ble_eq_true rfl | (simp only [tl_rm]; omega)) (fun x109 h109 => ?_)
      refine Z_istore (L' := [_, _, _, _, _, _, _, _, _, _]) (n := 114) dX2_makeFrom_112 rfl (by decide) rfl rfl ?_
      refine Z_iload (n := 116) dX2_makeFrom_114 rfl rfl ?_
      refine Z_bipush (n := 118) dX2_makeFrom_116 rfl (by decide) (by decide) ?_
      refine Z_icmp_ge (n := 121) (t := 128) dX2_makeFrom_118 rfl (by decide) (fun c118 => ?_) (fun c118 => ?_)
      · exact (by first | omega | (exfalso; have tt := kn_term t0 t1 (pst_t hS.1 hu (by omega)) (pst_t hS.1 hv (by omega)) (pst_t hS.1 hw (by omega)) h5 h12 h20; rcases tt with q | q; exact c27 (0, 49) (by decide) q; exact c27 (255, 51) (by decide) q))
      · omega
  | succ k ih =>
    refine ZN_of (L := [_, _, _, _, _, _, _, _, _, _]) (by decide) rfl rfl (Nat.le_of_ble_eq_true rfl) rfl (fun hav => ?_)
    have iu := okN_in hS.1 hu
    have iv := okN_in hS.1 hv
    have iw := okN_in hS.1 hw
    refine Z_iload_n (n := 1) dX2_makeFrom_0 rfl rfl ?_
    refine Z_iload_n (n := 2) dX2_makeFrom_1 rfl rfl ?_
    refine Z_iconst (n := 3) dX2_makeFrom_2 rfl (by decide) ?_
    refine Z_bipush (n := 5) dX2_makeFrom_3 rfl (by decide) (by decide) ?_
    refine Z_callSi (n := 8) [_, _, _, _] _ dX2_makeFrom_5 rfl cwX2_75 rfl rfl (Nat.le_of_ble_eq_true rfl) ⟨by show 0 + 1 ≤ ((k + 1) + 2); omega, by show 8 + (5 + 11) + 40 * 0 ≤ 40 * ((k + 1) + 2); omega, Nat.le_refl _, Nat.le_refl _⟩ (fun _ _ => trivial) (zX2_knowing  ) ?_
    intro x5 M5 J5 z5 f5 q5
    obtain ⟨e5_1, e5_2, h5⟩ := q5
    replace e5_1 := e5_1.symm; subst e5_1
    replace e5_2 := e5_2.symm; subst e5_2
    refine Z_iload_n (n := 9) dX2_makeFrom_8 rfl rfl ?_
    refine Z_iconst (n := 10) dX2_makeFrom_9 rfl (by decide) ?_
    refine Z_bipush (n := 12) dX2_makeFrom_10 rfl (by decide) (by decide) ?_
    refine Z_callSi (n := 15) [_, _, _, _] _ dX2_makeFrom_12 rfl cwX2_75 rfl rfl (Nat.le_of_ble_eq_true rfl) ⟨by show 0 + 1 ≤ ((k + 1) + 2); omega, by show 8 + (5 + 11) + 40 * 0 ≤ 40 * ((k + 1) + 2); omega, Nat.le_refl _, Nat.le_refl _⟩ (fun _ _ => trivial) (zX2_knowing  ) ?_
    intro x12 M12 J12 z12 f12 q12
    obtain ⟨e12_1, e12_2, h12⟩ := q12
    replace e12_1 := e12_1.symm; subst e12_1
    replace e12_2 := e12_2.symm; subst e12_2
    refine Z_iload (n := 17) dX2_makeFrom_15 rfl rfl ?_
    refine Z_iconst (n := 18) dX2_makeFrom_17 rfl (by decide) ?_
    refine Z_bipush (n := 20) dX2_makeFrom_18 rfl (by decide) (by decide) ?_
    refine Z_callSi (n := 23) [_, _, _, _] _ dX2_makeFrom_20 rfl cwX2_75 rfl rfl (Nat.le_of_ble_eq_true rfl) ⟨by show 0 + 1 ≤ ((k + 1) + 2); omega, by show 8 + (5 + 11) + 40 * 0 ≤ 40 * ((k + 1) + 2); omega, Nat.le_refl _, Nat.le_refl _⟩ (fun _ _ => trivial) (zX2_knowing  ) ?_
    intro x20 M20 J20 z20 f20 q20
    obtain ⟨e20_1, e20_2, h20⟩ := q20
    replace e20_1 := e20_1.symm; subst e20_1
    replace e20_2 := e20_2.symm; subst e20_2
    obtain ⟨⟨kr0, kr1⟩, eF⟩ := kn_fn hS.1 hu hv hw t0 t1 h5 h12 h20
    refine Z_istore (L' := [_, _, _, _, _, _, _, _, _, _]) (n := 25) dX2_makeFrom_23 rfl (by decide) rfl rfl ?_
    refine Z_iload (n := 27) dX2_makeFrom_25 rfl rfl ?_
    refine Z_lsc (td := 87) dX2_makeFrom_27 (by decide) (by decide) (by decide) ?_ (fun c27 => ?_)
    · refine lcases_cons (fun c27 t ht => ?_) ?_
      · obtain rfl : t = 76 := by omega
        refine Z_iconst (n := 77) dX2_makeFrom_76 rfl (by decide) ?_
        refine Z_iret dX2_makeFrom_77 rfl ?_
        refine ⟨rfl, S, mkd_rf hS (Or.inl rfl) ?_⟩
        rw [eF]
        funext r
        have z := tb_ok (den_bool hS.1 hu r) (den_bool hS.1 hv r) (den_bool hS.1 hw r)
        dsimp only at c27
        rw [c27]
        rw [den_0, z.1]
      refine lcases_cons (fun c27 t ht => ?_) ?_
      · obtain rfl : t = 80 := by omega
        refine Z_iload_n (n := 81) dX2_makeFrom_80 rfl rfl ?_
        refine Z_iret dX2_makeFrom_81 rfl ?_
        refine ⟨rfl, S, mkd_rf hS hu ?_⟩
        rw [eF]
        funext r
        have z := tb_ok (den_bool hS.1 hu r) (den_bool hS.1 hv r) (den_bool hS.1 hw r)
        dsimp only at c27
        rw [c27]
        rw [z.2.2.1]
      refine lcases_cons (fun c27 t ht => ?_) ?_
      · obtain rfl : t = 82 := by omega
        refine Z_iload_n (n := 83) dX2_makeFrom_82 rfl rfl ?_
        refine Z_iret dX2_makeFrom_83 rfl ?_
        refine ⟨rfl, S, mkd_rf hS hv ?_⟩
        rw [eF]
        funext r
        have z := tb_ok (den_bool hS.1 hu r) (den_bool hS.1 hv r) (den_bool hS.1 hw r)
        dsimp only at c27
        rw [c27]
        rw [z.2.2.2.1]
      refine lcases_cons (fun c27 t ht => ?_) ?_
      · obtain rfl : t = 84 := by omega
        refine Z_iload (n := 86) dX2_makeFrom_84 rfl rfl ?_
        refine Z_iret dX2_makeFrom_86 rfl ?_
        refine ⟨rfl, S, mkd_rf hS hw ?_⟩
        rw [eF]
        funext r
        have z := tb_ok (den_bool hS.1 hu r) (den_bool hS.1 hv r) (den_bool hS.1 hw r)
        dsimp only at c27
        rw [c27]
        rw [z.2.2.2.2]
      refine lcases_cons (fun c27 t ht => ?_) ?_
      · obtain rfl : t = 78 := by omega
        refine Z_iconst (n := 79) dX2_makeFrom_78 rfl (by decide) ?_
        refine Z_iret dX2_makeFrom_79 rfl ?_
        refine ⟨rfl, S, mkd_rf hS (Or.inr (Or.inl rfl)) ?_⟩
        rw [eF]
        funext r
        have z := tb_ok (den_bool hS.1 hu r) (den_bool hS.1 hv r) (den_bool hS.1 hw r)
        dsimp only at c27
        rw [c27]
        rw [den_1, z.2.1]
      exact lcases_nil
    · refine Z_aload_n (n := 88) dX2_makeFrom_87 rfl rfl ?_
      refine Z_getA (n := 91) dX2_makeFrom_88 rfl ffX2_11 rfl rfl ?_
      refine Z_iload_n (n := 92) dX2_makeFrom_91 rfl rfl ?_
      refine Z_iald (n := 93) dX2_makeFrom_92 rfl rfl rfl (by first | decide | assumption) (by omega) (by omega) (fun r92 s92 => ?_)
      refine Z_aload_n (n := 94) dX2_makeFrom_93 rfl rfl ?_
      refine Z_getA (n := 97) dX2_makeFrom_94 rfl ffX2_11 rfl rfl ?_
      refine Z_iload_n (n := 98) dX2_makeFrom_97 rfl rfl ?_
      refine Z_iald (n := 99) dX2_makeFrom_98 rfl rfl rfl (by first | decide | assumption) (by omega) (by omega) (fun r98 s98 => ?_)
      refine Z_aload_n (n := 100) dX2_makeFrom_99 rfl rfl ?_
      refine Z_getA (n := 103) dX2_makeFrom_100 rfl ffX2_11 rfl rfl ?_
      refine Z_iload (n := 105) dX2_makeFrom_103 rfl rfl ?_
      refine Z_iald (n := 106) dX2_makeFrom_105 rfl rfl rfl (by first | decide | assumption) (by omega) (by omega) (fun r105 s105 => ?_)
      refine Z_mmin (n := 109) dX2_makeFrom_106 rfl cwX2_79 (Nat.le_of_ble_eq_true rfl) (by refine ⟨?_, ?_, ?_, ?_⟩ <;> first | exact Nat.le_of_ble_eq_true rfl | (simp only [tl_rm]; omega)) (fun x106 h106 => ?_)
      refine Z_mmin (n := 112) dX2_makeFrom_109 rfl cwX2_79 (Nat.le_of_ble_eq_true rfl) (by refine ⟨?_, ?_, ?_, ?_⟩ <;> first | exact Nat.le_of_ble_eq_true rfl | (simp only [tl_rm]; omega)) (fun x109 h109 => ?_)
      refine Z_istore (L' := [_, _, _, _, _, _, _, _, _, _]) (n := 114) dX2_makeFrom_112 rfl (by decide) rfl rfl ?_
      refine Z_iload (n := 116) dX2_makeFrom_114 rfl rfl ?_
      refine Z_bipush (n := 118) dX2_makeFrom_116 rfl (by decide) (by decide) ?_
      refine Z_icmp_ge (n := 121) (t := 128) dX2_makeFrom_118 rfl (by decide) (fun c118 => ?_) (fun c118 => ?_)
      · exact (by first | omega | (exfalso; have tt := kn_term t0 t1 (pst_t hS.1 hu (by omega)) (pst_t hS.1 hv (by omega)) (pst_t hS.1 hw (by omega)) h5 h12 h20; rcases tt with q | q; exact c27 (0, 49) (by decide) q; exact c27 (255, 51) (by decide) q))
      · refine Z_iload (n := 123) dX2_makeFrom_121 rfl rfl ?_
        refine Z_bipush (n := 125) dX2_makeFrom_123 rfl (by decide) (by decide) ?_
        refine Z_icmp_lt (n := 128) (t := 130) dX2_makeFrom_125 rfl (by decide) (fun c125 => ?_) (fun c125 => ?_)
        · have hdF : dep (fun r => tbl x20 (den M u r) (den M v r) (den M w r)) x109 := dep_tbl hS.1 hu hv hw (by omega) (by omega) (by omega)
          have pu : x109 ≤ M 6 u := by omega
          have pv : x109 ≤ M 6 v := by omega
          have pw : x109 ≤ M 6 w := by omega
          refine Z_aload_n (n := 131) dX2_makeFrom_130 rfl rfl ?_
          refine Z_iload (n := 133) dX2_makeFrom_131 rfl rfl ?_
          refine Z_aload_n (n := 134) dX2_makeFrom_133 rfl rfl ?_
          refine Z_iload_n (n := 135) dX2_makeFrom_134 rfl rfl ?_
          refine Z_iload (n := 137) dX2_makeFrom_135 rfl rfl ?_
          refine Z_callVi (n := 140) [_, _] _ dX2_makeFrom_137 rfl cwX2_85 rfl rfl rfl (Nat.le_of_ble_eq_true rfl) ⟨by show 0 + 1 ≤ ((k + 1) + 2); omega, by show 8 + (3 + 11) + 40 * 0 ≤ 40 * ((k + 1) + 2); omega, Nat.le_refl _, Nat.le_refl _⟩ (fun _ _ => trivial) (zX2_lowAt  (by first | assumption | omega | decide) (by first | assumption | omega | decide)) ?_
          intro x137 M137 J137 z137 f137 q137
          obtain ⟨e137_1, e137_2, a137, b137, d137⟩ := q137
          replace e137_1 := e137_1.symm; subst e137_1
          replace e137_2 := e137_2.symm; subst e137_2
          refine Z_aload_n (n := 141) dX2_makeFrom_140 rfl rfl ?_
          refine Z_iload_n (n := 142) dX2_makeFrom_141 rfl rfl ?_
          refine Z_iload (n := 144) dX2_makeFrom_142 rfl rfl ?_
          refine Z_callVi (n := 147) [_, _] _ dX2_makeFrom_144 rfl cwX2_85 rfl rfl rfl (Nat.le_of_ble_eq_true rfl) ⟨by show 0 + 1 ≤ ((k + 1) + 2); omega, by show 8 + (3 + 11) + 40 * 0 ≤ 40 * ((k + 1) + 2); omega, Nat.le_refl _, Nat.le_refl _⟩ (fun _ _ => trivial) (zX2_lowAt  (by first | assumption | omega | decide) (by first | assumption | omega | decide)) ?_
          intro x144 M144 J144 z144 f144 q144
          obtain ⟨e144_1, e144_2, a144, b144, d144⟩ := q144
          replace e144_1 := e144_1.symm; subst e144_1
          replace e144_2 := e144_2.symm; subst e144_2
          refine Z_aload_n (n := 148) dX2_makeFrom_147 rfl rfl ?_
          refine Z_iload (n := 150) dX2_makeFrom_148 rfl rfl ?_
          refine Z_iload (n := 152) dX2_makeFrom_150 rfl rfl ?_
          refine Z_callVi (n := 155) [_, _] _ dX2_makeFrom_152 rfl cwX2_85 rfl rfl rfl (Nat.le_of_ble_eq_true rfl) ⟨by show 0 + 1 ≤ ((k + 1) + 2); omega, by show 8 + (3 + 11) + 40 * 0 ≤ 40 * ((k + 1) + 2); omega, Nat.le_refl _, Nat.le_refl _⟩ (fun _ _ => trivial) (zX2_lowAt  (by first | assumption | omega | decide) (by first | assumption | omega | decide)) ?_
          intro x152 M152 J152 z152 f152 q152
          obtain ⟨e152_1, e152_2, a152, b152, d152⟩ := q152
          replace e152_1 := e152_1.symm; subst e152_1
          replace e152_2 := e152_2.symm; subst e152_2
          refine Z_iload (n := 157) dX2_makeFrom_155 rfl rfl ?_
          refine Z_iconst (n := 158) dX2_makeFrom_157 rfl (by decide) ?_
          refine Z_iadd (n := 159) dX2_makeFrom_158 rfl (by omega) ?_
          obtain ⟨ou, qu, du⟩ := half_den (v := 0) hS.1 hu (by omega) pu (if_pos rfl).symm d137
          obtain ⟨ov, qv, dv⟩ := half_den (v := 0) hS.1 hv (by omega) pv (if_pos rfl).symm d144
          obtain ⟨ow, qw, dw⟩ := half_den (v := 0) hS.1 hw (by omega) pw (if_pos rfl).symm d152
          refine Z_callVi (n := 162) [_, _, _, _, _] _ dX2_makeFrom_159 rfl cwX2_71 rfl rfl rfl (Nat.le_of_ble_eq_true rfl) ⟨by show (k + 2) + 1 ≤ ((k + 1) + 2); omega, by show 8 + (10 + 11) + 40 * (k + 2) ≤ 40 * ((k + 1) + 2); omega, Nat.le_refl _, Nat.le_refl _⟩ (fun _ h => h) (@ih _ _ _ _ _ _ _ _  (by omega) (by omega) (by exact ou) (by exact ov) (by exact ow) (by omega) (by omega) (by omega) (by omega) (by omega) (by exact hS)) ?_
          intro x159 M159 J159 z159 f159 q159
          obtain ⟨e159_1, mk159⟩ := q159
          replace e159_1 := e159_1.symm; subst e159_1
          obtain ⟨S1, md1⟩ := mk159
          have e1 : (fun r => tbl x20 (den M x137 r) (den M x144 r) (den M x152 r)) = fun r => (fun r => tbl x20 (den M u r) (den M v r) (den M w r)) (updI r x109 0) := by
            funext r
            dsimp only
            rw [du r, dv r, dw r]
          rw [e1] at md1
          refine Z_istore (L' := [_, _, _, _, _, _, _, _, _, _]) (n := 164) dX2_makeFrom_162 rfl (by decide) rfl rfl ?_
          refine Z_iload (n := 166) dX2_makeFrom_164 rfl rfl ?_
          refine Z_iconst (n := 167) dX2_makeFrom_166 rfl (by decide) ?_
          refine Z_icmp_ne (n := 170) (t := 172) dX2_makeFrom_167 rfl (by decide) (fun c167 => ?_) (fun c167 => ?_)
          · have ha1 := md1.1
            have hu1 : okN S1 u := okN_mono md1.2.1 hu
            have hv1 : okN S1 v := okN_mono md1.2.1 hv
            have hw1 : okN S1 w := okN_mono md1.2.1 hw
            have pu1 : x109 ≤ M159 6 u := by rw [agr_pl ha1 hu]; exact pu
            have pv1 : x109 ≤ M159 6 v := by rw [agr_pl ha1 hv]; exact pv
            have pw1 : x109 ≤ M159 6 w := by rw [agr_pl ha1 hw]; exact pw
            refine Z_aload_n (n := 173) dX2_makeFrom_172 rfl rfl ?_
            refine Z_iload (n := 175) dX2_makeFrom_173 rfl rfl ?_
            refine Z_aload_n (n := 176) dX2_makeFrom_175 rfl rfl ?_
            refine Z_iload_n (n := 177) dX2_makeFrom_176 rfl rfl ?_
            refine Z_iload (n := 179) dX2_makeFrom_177 rfl rfl ?_
            refine Z_callVi (n := 182) [_, _] _ dX2_makeFrom_179 rfl cwX2_88 rfl rfl rfl (Nat.le_of_ble_eq_true rfl) ⟨by show 0 + 1 ≤ ((k + 1) + 2); omega, by show 8 + (3 + 11) + 40 * 0 ≤ 40 * ((k + 1) + 2); omega, Nat.le_refl _, Nat.le_refl _⟩ (fun _ _ => trivial) (zX2_highAt  (by first | assumption | omega | decide) (by first | assumption | omega | decide)) ?_
            intro x179 M179 J179 z179 f179 q179
            obtain ⟨e179_1, e179_2, a179, b179, d179⟩ := q179
            replace e179_1 := e179_1.symm; subst e179_1
            replace e179_2 := e179_2.symm; subst e179_2
            refine Z_aload_n (n := 183) dX2_makeFrom_182 rfl rfl ?_
            refine Z_iload_n (n := 184) dX2_makeFrom_183 rfl rfl ?_
            refine Z_iload (n := 186) dX2_makeFrom_184 rfl rfl ?_
            refine Z_callVi (n := 189) [_, _] _ dX2_makeFrom_186 rfl cwX2_88 rfl rfl rfl (Nat.le_of_ble_eq_true rfl) ⟨by show 0 + 1 ≤ ((k + 1) + 2); omega, by show 8 + (3 + 11) + 40 * 0 ≤ 40 * ((k + 1) + 2); omega, Nat.le_refl _, Nat.le_refl _⟩ (fun _ _ => trivial) (zX2_highAt  (by first | assumption | omega | decide) (by first | assumption | omega | decide)) ?_
            intro x186 M186 J186 z186 f186 q186
            obtain ⟨e186_1, e186_2, a186, b186, d186⟩ := q186
            replace e186_1 := e186_1.symm; subst e186_1
            replace e186_2 := e186_2.symm; subst e186_2
            refine Z_aload_n (n := 190) dX2_makeFrom_189 rfl rfl ?_
            refine Z_iload (n := 192) dX2_makeFrom_190 rfl rfl ?_
            refine Z_iload (n := 194) dX2_makeFrom_192 rfl rfl ?_
            refine Z_callVi (n := 197) [_, _] _ dX2_makeFrom_194 rfl cwX2_88 rfl rfl rfl (Nat.le_of_ble_eq_true rfl) ⟨by show 0 + 1 ≤ ((k + 1) + 2); omega, by show 8 + (3 + 11) + 40 * 0 ≤ 40 * ((k + 1) + 2); omega, Nat.le_refl _, Nat.le_refl _⟩ (fun _ _ => trivial) (zX2_highAt  (by first | assumption | omega | decide) (by first | assumption | omega | decide)) ?_
            intro x194 M194 J194 z194 f194 q194
            obtain ⟨e194_1, e194_2, a194, b194, d194⟩ := q194
            replace e194_1 := e194_1.symm; subst e194_1
            replace e194_2 := e194_2.symm; subst e194_2
            refine Z_iload (n := 199) dX2_makeFrom_197 rfl rfl ?_
            refine Z_iconst (n := 200) dX2_makeFrom_199 rfl (by decide) ?_
            refine Z_iadd (n := 201) dX2_makeFrom_200 rfl (by omega) ?_
            obtain ⟨ou1, qu1, du1⟩ := half_den (v := 1) md1.2.2.1.1 hu1 (by omega) pu1 (if_neg (by decide)).symm d179
            obtain ⟨ov1, qv1, dv1⟩ := half_den (v := 1) md1.2.2.1.1 hv1 (by omega) pv1 (if_neg (by decide)).symm d186
            obtain ⟨ow1, qw1, dw1⟩ := half_den (v := 1) md1.2.2.1.1 hw1 (by omega) pw1 (if_neg (by decide)).symm d194
            refine Z_callVi (n := 204) [_, _, _, _, _] _ dX2_makeFrom_201 rfl cwX2_71 rfl rfl rfl (Nat.le_of_ble_eq_true rfl) ⟨by show (k + 2) + 1 ≤ ((k + 1) + 2); omega, by show 8 + (10 + 11) + 40 * (k + 2) ≤ 40 * ((k + 1) + 2); omega, Nat.le_refl _, Nat.le_refl _⟩ (fun _ h => h) (@ih _ _ _ _ _ _ _ _  (by omega) (by omega) (by exact ou1) (by exact ov1) (by exact ow1) (by omega) (by omega) (by omega) (by omega) (by omega) (by exact md1.2.2.1)) ?_
            intro x201 M201 J201 z201 f201 q201
            obtain ⟨e201_1, mk201⟩ := q201
            replace e201_1 := e201_1.symm; subst e201_1
            obtain ⟨S2, md2⟩ := mk201
            have e2 : (fun r => tbl x20 (den M159 x179 r) (den M159 x186 r) (den M159 x194 r)) = fun r => (fun r => tbl x20 (den M u r) (den M v r) (den M w r)) (updI r x109 1) := by
              funext r
              dsimp only
              rw [← du1 r, ← dv1 r, ← dw1 r, den_agr hS.1 ha1 hu, den_agr hS.1 ha1 hv, den_agr hS.1 ha1 hw]
            rw [e2] at md2
            obtain ⟨okl, dl⟩ := md1.2.2.2.2.2.1.resolve_left (fun z => c167 z.1)
            have okl2 : okN S2 x159 := okN_mono md2.2.1 okl
            have pl2 : x109 < M201 6 x159 := pl_gt md2.2.2.1.1 okl2 (by omega) (by rw [den_agr md1.2.2.1.1 md2.1 okl, dl]; exact dep_up hdF)
            have okh : x201 = -1 ∨ okN S2 x201 := md2.2.2.2.2.2.1.imp (fun z => z.1) (fun z => z.1)
            have ph2 : ¬ x201 = -1 → x109 < M201 6 x201 := fun z => by
              obtain ⟨a, b⟩ := md2.2.2.2.2.2.1.resolve_left (fun t => z t.1)
              exact pl_gt md2.2.2.1.1 a (by omega) (by rw [b]; exact dep_up hdF)
            refine Z_istore (L' := [_, _, _, _, _, _, _, _, _, _]) (n := 206) dX2_makeFrom_204 rfl (by decide) rfl rfl ?_
            refine Z_aload_n (n := 207) dX2_makeFrom_206 rfl rfl ?_
            refine Z_iload (n := 209) dX2_makeFrom_207 rfl rfl ?_
            refine Z_iload (n := 211) dX2_makeFrom_209 rfl rfl ?_
            refine Z_iload (n := 213) dX2_makeFrom_211 rfl rfl ?_
            refine Z_callVi (n := 216) [_, _, _] _ dX2_makeFrom_213 rfl cwX2_67 rfl rfl rfl (Nat.le_of_ble_eq_true rfl) ⟨by show 1 + 1 ≤ ((k + 1) + 2); omega, by show 8 + (6 + 11) + 40 * 1 ≤ 40 * ((k + 1) + 2); omega, Nat.le_refl _, Nat.le_refl _⟩ (fun _ h => h) (zX2_nodeFor_f  (by omega) (by omega) (by exact okl2) (by exact okh) (by exact pl2) (by exact ph2) (by exact md2.2.2.1)) ?_
            intro x213 M213 J213 z213 f213 q213
            obtain ⟨e213_1, nd213⟩ := q213
            replace e213_1 := e213_1.symm; subst e213_1
            refine Z_iret dX2_makeFrom_216 rfl ?_
            refine ⟨rfl, ?_⟩
            rw [eF]
            exact mkd_two hS hdF (by omega) (by omega) md1 c167 md2 nd213
          · refine Z_iconst (n := 171) dX2_makeFrom_170 rfl (by decide) ?_
            refine Z_iret dX2_makeFrom_171 rfl ?_
            refine ⟨rfl, ?_⟩
            rw [eF]
            rw [c167] at md1
            exact mkd_one hdF md1
        · exact (by exfalso; have tt := kn_term t0 t1 (pst_t hS.1 hu (by omega)) (pst_t hS.1 hv (by omega)) (pst_t hS.1 hw (by omega)) h5 h12 h20; rcases tt with q | q; exact c27 (0, 49) (by decide) q; exact c27 (255, 51) (by decide) q)
set_option maxRecDepth 20000 in
theorem zX2_make_f {G : tl_G} {M : zM} {J : zJ} {S : Int → Prop} {t u v w : Int} (t0 : 0 ≤ t) (t1 : t ≤ 255) (hu : okN S u) (hv : okN S v) (hw : okN S w) (hS : plo M S) : ZN G yX2_make mX2_make 11 kPool [vR 5, vI t, vI u, vI v, vI w] F1 M J (qI (fun x M' J' => J' = J ∧ mkE M S (fun r => tbl t (den M u r) (den M v r) (den M w r)) x M')) := by
  refine ZN_of (L := [_, _, _, _, _]) (by decide) rfl rfl (Nat.le_of_ble_eq_true rfl) rfl (fun hav => ?_)
  refine Z_aload_n (n := 1) dX2_make_0 rfl rfl ?_
  refine Z_iload_n (n := 2) dX2_make_1 rfl rfl ?_
  refine Z_iload_n (n := 3) dX2_make_2 rfl rfl ?_
  refine Z_iload_n (n := 4) dX2_make_3 rfl rfl ?_
  refine Z_iload (n := 6) dX2_make_4 rfl rfl ?_
  refine Z_iconst (n := 7) dX2_make_6 rfl (by decide) ?_
  refine Z_callVi (n := 10) [_, _, _, _, _] _ dX2_make_7 rfl cwX2_71 rfl rfl rfl (Nat.le_of_ble_eq_true rfl) (by refine ⟨?_, ?_, ?_, ?_⟩ <;> exact Nat.le_of_ble_eq_true rfl) (fun _ h => h) (zX2_makeFrom_f 8  (by omega) (by omega) (by exact hu) (by exact hv) (by exact hw) (by decide) (by rfl) (by exact (pst_pl hS.1 hu).1) (by exact (pst_pl hS.1 hv).1) (by exact (pst_pl hS.1 hw).1) (by exact hS)) ?_
  intro x7 M7 J7 z7 f7 q7
  obtain ⟨e7_1, mk7⟩ := q7
  replace e7_1 := e7_1.symm; subst e7_1
  refine Z_iret dX2_make_10 rfl ?_
  exact ⟨rfl, mk7⟩
theorem updI_comm {f : Int → Int} {a b v w : Int} (h : a ≠ b) : updI (updI f a v) b w = updI (updI f b w) a v := by
  funext k
  unfold updI
  by_cases e : k = a
  · have e2 : ¬ k = b := fun q => h (e.symm.trans q)
    simp only [if_pos e, if_neg e2]
  · by_cases e2 : k = b
    · simp only [if_neg e, if_pos e2]
    · simp only [if_neg e, if_neg e2]
theorem dep_fix {M : zM} {S : Int → Prop} {n p b : Int} (hp : pst M S) (hn : S n) (hlt : M 6 n < p) : dep (fun r => den M n (updI r p b)) (M 6 n) := fun r r' e => den_ag hp (Or.inr (Or.inr hn)) (fun k hk => by
  by_cases z : k = p
  · rw [z, updI_s, updI_s]
  · rw [updI_n z, updI_n z]; exact e k hk)
set_option maxRecDepth 20000 in
theorem zX2_fixFrom_f {G : tl_G} {M : zM} {J : zJ} (k : Nat) {S : Int → Prop} {n p y e : Int} (hn : okN S n) (p0 : 0 ≤ p) (p1 : p < 8) (e0 : 0 ≤ e) (he : e + k = 8) (en : e ≤ M 6 n) (hS : plo M S) : ZN G yX2_fixFrom mX2_fixFrom (k + 2) kPool [vR 5, vI n, vI p, vI y, vI e] F1 M J (qI (fun x M' J' => J' = J ∧ mkE M S (fun r => den M n (updI r p (if y = 0 then 0 else 1))) x M')) := by
  induction k generalizing M J S n e with
  | zero =>
    refine ZN_of (L := [_, _, _, _, _, _, _]) (by decide) rfl rfl (Nat.le_of_ble_eq_true rfl) rfl (fun hav => ?_)
    have iN := okN_in hS.1 hn
    refine Z_aload_n (n := 1) dX2_fixFrom_0 rfl rfl ?_
    refine Z_getA (n := 4) dX2_fixFrom_1 rfl ffX2_11 rfl rfl ?_
    refine Z_iload_n (n := 5) dX2_fixFrom_4 rfl rfl ?_
    refine Z_iald (n := 6) dX2_fixFrom_5 rfl rfl rfl (by first | decide | assumption) (by omega) (by omega) (fun r5 s5 => ?_)
    refine Z_iload_n (n := 7) dX2_fixFrom_6 rfl rfl ?_
    refine Z_icmp_le (n := 10) (t := 12) dX2_fixFrom_7 rfl (by decide) (fun c7 => ?_) (fun c7 => ?_)
    · have hnS : S n := by
        rcases hn with z | z | z
        · rw [z, hS.1.1.1] at c7; omega
        · rw [z, hS.1.1.2] at c7; omega
        · exact z
      obtain ⟨n2, pn, ne, aL, bH⟩ := hS.1.2.1 n hnS
      refine Z_aload_n (n := 13) dX2_fixFrom_12 rfl rfl ?_
      refine Z_getA (n := 16) dX2_fixFrom_13 rfl ffX2_11 rfl rfl ?_
      refine Z_iload_n (n := 17) dX2_fixFrom_16 rfl rfl ?_
      refine Z_iald (n := 18) dX2_fixFrom_17 rfl rfl rfl (by first | decide | assumption) (by omega) (by omega) (fun r17 s17 => ?_)
      refine Z_iload_n (n := 19) dX2_fixFrom_18 rfl rfl ?_
      refine Z_icmp_ne (n := 22) (t := 42) dX2_fixFrom_19 rfl (by decide) (fun c19 => ?_) (fun c19 => ?_)
      · refine Z_iload (n := 44) dX2_fixFrom_42 rfl rfl ?_
        refine Z_bipush (n := 46) dX2_fixFrom_44 rfl (by decide) (by decide) ?_
        refine Z_icmp_lt (n := 49) (t := 51) dX2_fixFrom_46 rfl (by decide) (fun c46 => ?_) (fun c46 => ?_)
        · omega
        · omega
      · refine Z_iload_n (n := 23) dX2_fixFrom_22 rfl rfl ?_
        refine Z_if_eq (n := 26) (t := 35) dX2_fixFrom_23 rfl (by decide) (fun c23 => ?_) (fun c23 => ?_)
        · refine Z_aload_n (n := 36) dX2_fixFrom_35 rfl rfl ?_
          refine Z_getA (n := 39) dX2_fixFrom_36 rfl ffX2_15 rfl rfl ?_
          refine Z_iload_n (n := 40) dX2_fixFrom_39 rfl rfl ?_
          refine Z_iald (n := 41) dX2_fixFrom_40 rfl rfl rfl (by first | decide | assumption) (by omega) (by omega) (fun r40 s40 => ?_)
          refine Z_iret dX2_fixFrom_41 rfl ?_
          refine ⟨rfl, S, ?_⟩
          first
            | (refine mkd_rf hS bH.1 ?_; funext r; rw [if_neg c23, ← c19]; exact (den_high hS.1 hnS (by decide) r).symm)
            | (refine mkd_rf hS aL.1 ?_; funext r; rw [if_pos c23, ← c19]; exact (den_low hS.1 hnS r).symm)
        · refine Z_aload_n (n := 27) dX2_fixFrom_26 rfl rfl ?_
          refine Z_getA (n := 30) dX2_fixFrom_27 rfl ffX2_18 rfl rfl ?_
          refine Z_iload_n (n := 31) dX2_fixFrom_30 rfl rfl ?_
          refine Z_iald (n := 32) dX2_fixFrom_31 rfl rfl rfl (by first | decide | assumption) (by omega) (by omega) (fun r31 s31 => ?_)
          refine Z_goto (t := 41) dX2_fixFrom_32 (by decide) ?_
          refine Z_iret dX2_fixFrom_41 rfl ?_
          refine ⟨rfl, S, ?_⟩
          first
            | (refine mkd_rf hS bH.1 ?_; funext r; rw [if_neg c23, ← c19]; exact (den_high hS.1 hnS (by decide) r).symm)
            | (refine mkd_rf hS aL.1 ?_; funext r; rw [if_pos c23, ← c19]; exact (den_low hS.1 hnS r).symm)
    · refine Z_iload_n (n := 11) dX2_fixFrom_10 rfl rfl ?_
      refine Z_iret dX2_fixFrom_11 rfl ?_
      refine ⟨rfl, S, mkd_rf hS hn ?_⟩
      funext r
      exact (den_ig hS.1 hn (by omega) r).symm
  | succ k ih =>
    refine ZN_of (L := [_, _, _, _, _, _, _]) (by decide) rfl rfl (Nat.le_of_ble_eq_true rfl) rfl (fun hav => ?_)
    have iN := okN_in hS.1 hn
    refine Z_aload_n (n := 1) dX2_fixFrom_0 rfl rfl ?_
    refine Z_getA (n := 4) dX2_fixFrom_1 rfl ffX2_11 rfl rfl ?_
    refine Z_iload_n (n := 5) dX2_fixFrom_4 rfl rfl ?_
    refine Z_iald (n := 6) dX2_fixFrom_5 rfl rfl rfl (by first | decide | assumption) (by omega) (by omega) (fun r5 s5 => ?_)
    refine Z_iload_n (n := 7) dX2_fixFrom_6 rfl rfl ?_
    refine Z_icmp_le (n := 10) (t := 12) dX2_fixFrom_7 rfl (by decide) (fun c7 => ?_) (fun c7 => ?_)
    · have hnS : S n := by
        rcases hn with z | z | z
        · rw [z, hS.1.1.1] at c7; omega
        · rw [z, hS.1.1.2] at c7; omega
        · exact z
      obtain ⟨n2, pn, ne, aL, bH⟩ := hS.1.2.1 n hnS
      refine Z_aload_n (n := 13) dX2_fixFrom_12 rfl rfl ?_
      refine Z_getA (n := 16) dX2_fixFrom_13 rfl ffX2_11 rfl rfl ?_
      refine Z_iload_n (n := 17) dX2_fixFrom_16 rfl rfl ?_
      refine Z_iald (n := 18) dX2_fixFrom_17 rfl rfl rfl (by first | decide | assumption) (by omega) (by omega) (fun r17 s17 => ?_)
      refine Z_iload_n (n := 19) dX2_fixFrom_18 rfl rfl ?_
      refine Z_icmp_ne (n := 22) (t := 42) dX2_fixFrom_19 rfl (by decide) (fun c19 => ?_) (fun c19 => ?_)
      · refine Z_iload (n := 44) dX2_fixFrom_42 rfl rfl ?_
        refine Z_bipush (n := 46) dX2_fixFrom_44 rfl (by decide) (by decide) ?_
        refine Z_icmp_lt (n := 49) (t := 51) dX2_fixFrom_46 rfl (by decide) (fun c46 => ?_) (fun c46 => ?_)
        · have hdF : dep (fun r => den M n (updI r p (if y = 0 then 0 else 1))) (M 6 n) := dep_fix hS.1 hnS (by omega)
          refine Z_aload_n (n := 52) dX2_fixFrom_51 rfl rfl ?_
          refine Z_aload_n (n := 53) dX2_fixFrom_52 rfl rfl ?_
          refine Z_getA (n := 56) dX2_fixFrom_53 rfl ffX2_15 rfl rfl ?_
          refine Z_iload_n (n := 57) dX2_fixFrom_56 rfl rfl ?_
          refine Z_iald (n := 58) dX2_fixFrom_57 rfl rfl rfl (by first | decide | assumption) (by omega) (by omega) (fun r57 s57 => ?_)
          refine Z_iload_n (n := 59) dX2_fixFrom_58 rfl rfl ?_
          refine Z_iload_n (n := 60) dX2_fixFrom_59 rfl rfl ?_
          refine Z_iload (n := 62) dX2_fixFrom_60 rfl rfl ?_
          refine Z_iconst (n := 63) dX2_fixFrom_62 rfl (by decide) ?_
          refine Z_iadd (n := 64) dX2_fixFrom_63 rfl (by omega) ?_
          refine Z_callVi (n := 67) [_, _, _, _] _ dX2_fixFrom_64 rfl cwX2_91 rfl rfl rfl (Nat.le_of_ble_eq_true rfl) ⟨by show (k + 2) + 1 ≤ ((k + 1) + 2); omega, by show 8 + (7 + 11) + 40 * (k + 2) ≤ 40 * ((k + 1) + 2); omega, Nat.le_refl _, Nat.le_refl _⟩ (fun _ h => h) (@ih _ _ _ _ _  (by exact aL.1) (by omega) (by omega) (by omega) (by exact hS)) ?_
          intro x64 M64 J64 z64 f64 q64
          obtain ⟨e64_1, mk64⟩ := q64
          replace e64_1 := e64_1.symm; subst e64_1
          obtain ⟨S1, md1⟩ := mk64
          have e1 : (fun r => den M (M 7 n) (updI r p (if y = 0 then 0 else 1))) = fun r => (fun r => den M n (updI r p (if y = 0 then 0 else 1))) (updI r (M 6 n) 0) := by
            funext r
            dsimp only
            rw [updI_comm (show M 6 n ≠ p by omega), den_low hS.1 hnS]
          rw [e1] at md1
          refine Z_istore (L' := [_, _, _, _, _, _, _]) (n := 69) dX2_fixFrom_67 rfl (by decide) rfl rfl ?_
          refine Z_iload (n := 71) dX2_fixFrom_69 rfl rfl ?_
          refine Z_iconst (n := 72) dX2_fixFrom_71 rfl (by decide) ?_
          refine Z_icmp_ne (n := 75) (t := 77) dX2_fixFrom_72 rfl (by decide) (fun c72 => ?_) (fun c72 => ?_)
          · have ha1 := md1.1
            have hn1 : S1 n := md1.2.1 n hnS
            obtain ⟨a6, a7, a8⟩ := ha1.2 n hnS
            have bH1 : okN S1 (M 8 n) := okN_mono md1.2.1 bH.1
            refine Z_aload_n (n := 78) dX2_fixFrom_77 rfl rfl ?_
            refine Z_aload_n (n := 79) dX2_fixFrom_78 rfl rfl ?_
            refine Z_getA (n := 82) dX2_fixFrom_79 rfl ffX2_18 rfl rfl ?_
            refine Z_iload_n (n := 83) dX2_fixFrom_82 rfl rfl ?_
            refine Z_iald (n := 84) dX2_fixFrom_83 rfl rfl rfl (by first | decide | assumption) (by omega) (by omega) (fun r83 s83 => ?_)
            refine Z_iload_n (n := 85) dX2_fixFrom_84 rfl rfl ?_
            refine Z_iload_n (n := 86) dX2_fixFrom_85 rfl rfl ?_
            refine Z_iload (n := 88) dX2_fixFrom_86 rfl rfl ?_
            refine Z_iconst (n := 89) dX2_fixFrom_88 rfl (by decide) ?_
            refine Z_iadd (n := 90) dX2_fixFrom_89 rfl (by omega) ?_
            refine Z_callVi (n := 93) [_, _, _, _] _ dX2_fixFrom_90 rfl cwX2_91 rfl rfl rfl (Nat.le_of_ble_eq_true rfl) ⟨by show (k + 2) + 1 ≤ ((k + 1) + 2); omega, by show 8 + (7 + 11) + 40 * (k + 2) ≤ 40 * ((k + 1) + 2); omega, Nat.le_refl _, Nat.le_refl _⟩ (fun _ h => h) (@ih _ _ _ _ _  (by rw [a8]; exact bH1) (by omega) (by omega) (by rw [a8, agr_pl ha1 bH.1]; omega) (by exact md1.2.2.1)) ?_
            intro x90 M90 J90 z90 f90 q90
            obtain ⟨e90_1, mk90⟩ := q90
            replace e90_1 := e90_1.symm; subst e90_1
            obtain ⟨S2, md2⟩ := mk90
            have e2 : (fun r => den M64 (M64 8 n) (updI r p (if y = 0 then 0 else 1))) = fun r => (fun r => den M n (updI r p (if y = 0 then 0 else 1))) (updI r (M 6 n) 1) := by
              funext r
              dsimp only
              rw [updI_comm (show M 6 n ≠ p by omega), den_high hS.1 hnS (by decide), a8, den_agr hS.1 ha1 bH.1]
            rw [e2] at md2
            obtain ⟨okl, dl⟩ := md1.2.2.2.2.2.1.resolve_left (fun z => c72 z.1)
            have okl2 : okN S2 x64 := okN_mono md2.2.1 okl
            have b6 : M90 6 n = M 6 n := ((md2.1.2 n hn1).1).trans a6
            have pl2 : M 6 n < M90 6 x64 := pl_gt md2.2.2.1.1 okl2 (by omega) (by rw [den_agr md1.2.2.1.1 md2.1 okl, dl]; exact dep_up hdF)
            have okh : x90 = -1 ∨ okN S2 x90 := md2.2.2.2.2.2.1.imp (fun z => z.1) (fun z => z.1)
            have ph2 : ¬ x90 = -1 → M 6 n < M90 6 x90 := fun z => by
              obtain ⟨a, b⟩ := md2.2.2.2.2.2.1.resolve_left (fun t => z t.1)
              exact pl_gt md2.2.2.1.1 a (by omega) (by rw [b]; exact dep_up hdF)
            refine Z_istore (L' := [_, _, _, _, _, _, _]) (n := 95) dX2_fixFrom_93 rfl (by decide) rfl rfl ?_
            refine Z_aload_n (n := 96) dX2_fixFrom_95 rfl rfl ?_
            refine Z_aload_n (n := 97) dX2_fixFrom_96 rfl rfl ?_
            refine Z_getA (n := 100) dX2_fixFrom_97 rfl ffX2_11 rfl rfl ?_
            refine Z_iload_n (n := 101) dX2_fixFrom_100 rfl rfl ?_
            refine Z_iald (n := 102) dX2_fixFrom_101 rfl rfl rfl (by first | decide | assumption) (by omega) (by omega) (fun r101 s101 => ?_)
            rw [b6] at r101 s101 ⊢
            refine Z_iload (n := 104) dX2_fixFrom_102 rfl rfl ?_
            refine Z_iload (n := 106) dX2_fixFrom_104 rfl rfl ?_
            refine Z_callVi (n := 109) [_, _, _] _ dX2_fixFrom_106 rfl cwX2_67 rfl rfl rfl (Nat.le_of_ble_eq_true rfl) ⟨by show 1 + 1 ≤ ((k + 1) + 2); omega, by show 8 + (6 + 11) + 40 * 1 ≤ 40 * ((k + 1) + 2); omega, Nat.le_refl _, Nat.le_refl _⟩ (fun _ h => h) (zX2_nodeFor_f  (by omega) (by omega) (by exact okl2) (by exact okh) (by exact pl2) (by exact ph2) (by exact md2.2.2.1)) ?_
            intro x106 M106 J106 z106 f106 q106
            obtain ⟨e106_1, nd106⟩ := q106
            replace e106_1 := e106_1.symm; subst e106_1
            refine Z_iret dX2_fixFrom_109 rfl ?_
            refine ⟨rfl, mkd_two hS hdF pn.1 pn.2 md1 c72 md2 ?_⟩
            exact nd106
          · refine Z_iconst (n := 76) dX2_fixFrom_75 rfl (by decide) ?_
            refine Z_iret dX2_fixFrom_76 rfl ?_
            refine ⟨rfl, ?_⟩
            rw [c72] at md1
            exact mkd_one hdF md1
        · omega
      · refine Z_iload_n (n := 23) dX2_fixFrom_22 rfl rfl ?_
        refine Z_if_eq (n := 26) (t := 35) dX2_fixFrom_23 rfl (by decide) (fun c23 => ?_) (fun c23 => ?_)
        · refine Z_aload_n (n := 36) dX2_fixFrom_35 rfl rfl ?_
          refine Z_getA (n := 39) dX2_fixFrom_36 rfl ffX2_15 rfl rfl ?_
          refine Z_iload_n (n := 40) dX2_fixFrom_39 rfl rfl ?_
          refine Z_iald (n := 41) dX2_fixFrom_40 rfl rfl rfl (by first | decide | assumption) (by omega) (by omega) (fun r40 s40 => ?_)
          refine Z_iret dX2_fixFrom_41 rfl ?_
          refine ⟨rfl, S, ?_⟩
          first
            | (refine mkd_rf hS bH.1 ?_; funext r; rw [if_neg c23, ← c19]; exact (den_high hS.1 hnS (by decide) r).symm)
            | (refine mkd_rf hS aL.1 ?_; funext r; rw [if_pos c23, ← c19]; exact (den_low hS.1 hnS r).symm)
        · refine Z_aload_n (n := 27) dX2_fixFrom_26 rfl rfl ?_
          refine Z_getA (n := 30) dX2_fixFrom_27 rfl ffX2_18 rfl rfl ?_
          refine Z_iload_n (n := 31) dX2_fixFrom_30 rfl rfl ?_
          refine Z_iald (n := 32) dX2_fixFrom_31 rfl rfl rfl (by first | decide | assumption) (by omega) (by omega) (fun r31 s31 => ?_)
          refine Z_goto (t := 41) dX2_fixFrom_32 (by decide) ?_
          refine Z_iret dX2_fixFrom_41 rfl ?_
          refine ⟨rfl, S, ?_⟩
          first
            | (refine mkd_rf hS bH.1 ?_; funext r; rw [if_neg c23, ← c19]; exact (den_high hS.1 hnS (by decide) r).symm)
            | (refine mkd_rf hS aL.1 ?_; funext r; rw [if_pos c23, ← c19]; exact (den_low hS.1 hnS r).symm)
    · refine Z_iload_n (n := 11) dX2_fixFrom_10 rfl rfl ?_
      refine Z_iret dX2_fixFrom_11 rfl ?_
      refine ⟨rfl, S, mkd_rf hS hn ?_⟩
      funext r
      exact (den_ig hS.1 hn (by omega) r).symm
set_option maxRecDepth 20000 in
theorem zX2_makeFixed_f {G : tl_G} {M : zM} {J : zJ} {S : Int → Prop} {n p y : Int} (hn : okN S n) (p0 : 0 ≤ p) (p1 : p < 8) (hS : plo M S) : ZN G yX2_makeFixed mX2_makeFixed 11 kPool [vR 5, vI n, vI p, vI y] F1 M J (qI (fun x M' J' => J' = J ∧ mkE M S (fun r => den M n (updI r p (if y = 0 then 0 else 1))) x M')) := by
  refine ZN_of (L := [_, _, _, _]) (by decide) rfl rfl (Nat.le_of_ble_eq_true rfl) rfl (fun hav => ?_)
  refine Z_aload_n (n := 1) dX2_makeFixed_0 rfl rfl ?_
  refine Z_iload_n (n := 2) dX2_makeFixed_1 rfl rfl ?_
  refine Z_iload_n (n := 3) dX2_makeFixed_2 rfl rfl ?_
  refine Z_iload_n (n := 4) dX2_makeFixed_3 rfl rfl ?_
  refine Z_iconst (n := 5) dX2_makeFixed_4 rfl (by decide) ?_
  refine Z_callVi (n := 8) [_, _, _, _] _ dX2_makeFixed_5 rfl cwX2_91 rfl rfl rfl (Nat.le_of_ble_eq_true rfl) (by refine ⟨?_, ?_, ?_, ?_⟩ <;> exact Nat.le_of_ble_eq_true rfl) (fun _ h => h) (zX2_fixFrom_f 8  (by exact hn) (by omega) (by omega) (by decide) (by rfl) (by exact (pst_pl hS.1 hn).1) (by exact hS)) ?_
  intro x5 M5 J5 z5 f5 q5
  obtain ⟨e5_1, mk5⟩ := q5
  replace e5_1 := e5_1.symm; subst e5_1
  refine Z_iret dX2_makeFixed_8 rfl ?_
  exact ⟨rfl, mk5⟩
set_option maxRecDepth 20000 in
theorem zX2_makeVariable_f {G : tl_G} {M : zM} {J : zJ} {S : Int → Prop} {p : Int} (p0 : 0 ≤ p) (p1 : p < 8) (hS : plo M S) : ZN G yX2_makeVariable mX2_makeVariable 2 kPool [vR 5, vI p] F1 M J (qI (fun x M' J' => J' = J ∧ mkE M S (fun r => bz (r p)) x M')) := by
  refine ZN_of (L := [_, _]) (by decide) rfl rfl (Nat.le_of_ble_eq_true rfl) rfl (fun hav => ?_)
  refine Z_aload_n (n := 1) dX2_makeVariable_0 rfl rfl ?_
  refine Z_iload_n (n := 2) dX2_makeVariable_1 rfl rfl ?_
  refine Z_iconst (n := 3) dX2_makeVariable_2 rfl (by decide) ?_
  refine Z_iconst (n := 4) dX2_makeVariable_3 rfl (by decide) ?_
  refine Z_callVi (n := 7) [_, _, _] _ dX2_makeVariable_4 rfl cwX2_67 rfl rfl rfl (Nat.le_of_ble_eq_true rfl) (by refine ⟨?_, ?_, ?_, ?_⟩ <;> exact Nat.le_of_ble_eq_true rfl) (fun _ h => h) (zX2_nodeFor_f  (by omega) (by omega) (by exact Or.inl rfl) (by exact Or.inr (Or.inr (Or.inl rfl))) (by rw [hS.1.1.1]; omega) (by intro _; rw [hS.1.1.2]; omega) (by exact hS)) ?_
  intro x4 M4 J4 z4 f4 q4
  obtain ⟨e4_1, nd4⟩ := q4
  replace e4_1 := e4_1.symm; subst e4_1
  refine Z_iret dX2_makeVariable_7 rfl ?_
  refine ⟨rfl, ?_⟩
  have z := mkd_nd hS p0 p1 (Or.inl rfl) (Or.inr (Or.inl rfl)) (by rw [hS.1.1.1]; omega) (by rw [hS.1.1.2]; omega) (by decide) nd4
  have e : (fun r => if r p = 0 then den M 0 r else den M 1 r) = fun r => bz (r p) := by
    funext r
    rw [den_0, den_1]
    rfl
  rw [e] at z
  exact z
