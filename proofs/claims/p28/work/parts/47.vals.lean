/-! ===== what an output gives, on both sides ===== -/
/-- what a gate gives, out of what those before it give: kd kinds, od what a gate is told of, lf a variable's value -/
def vst (kd : Int → Int) (od : Int → Int → Int) (lf v : Int → Int) (g : Int) : Int := if kd g = 0 then lf (od g 0) else if kd g = 10 then (if v (od g 0) = 0 then v (od g 2) else v (od g 1)) else cmF (kd g) (if 0 < opF (kd g) then v (od g 0) else 0) (if 1 < opF (kd g) then v (od g 1) else 0)
def VS (kd : Int → Int) (od : Int → Int → Int) (lf v : Int → Int) (n : Int) : Prop := ∀ g : Int, 0 ≤ g → g < n → v g = vst kd od lf v g
def odB (kd : Int → Int) (od : Int → Int → Int) (n : Int) : Prop := ∀ g : Int, 0 ≤ g → g < n → ∀ c : Int, 0 ≤ c → c < opF (kd g) → 0 ≤ od g c ∧ od g c < g
theorem vst_congr {kd kd' : Int → Int} {od od' : Int → Int → Int} {lf v v' : Int → Int} {g : Int} (h0 : 0 ≤ kd g) (h1 : kd g ≤ 10) (hk : kd' g = kd g) (ho : ∀ c : Int, 0 ≤ c → c < 3 → od' g c = od g c) (hv : ∀ c : Int, 0 ≤ c → c < opF (kd g) → v' (od g c) = v (od g c)) : vst kd' od' lf v' g = vst kd od lf v g := by
  unfold vst
  rw [hk, ho 0 (by decide) (by decide), ho 1 (by decide) (by decide), ho 2 (by decide) (by decide)]
  by_cases e0 : kd g = 0
  · rw [if_pos e0, if_pos e0]
  · rw [if_neg e0, if_neg e0]
    by_cases e1 : kd g = 10
    · have q : opF (kd g) = 3 := by rw [e1]; rfl
      rw [if_pos e1, if_pos e1, hv 0 (by decide) (by omega), hv 1 (by decide) (by omega), hv 2 (by decide) (by omega)]
    · rw [if_neg e1, if_neg e1]
      have a : (if 0 < opF (kd g) then v' (od g 0) else 0) = (if 0 < opF (kd g) then v (od g 0) else 0) := by
        by_cases q : 0 < opF (kd g)
        · rw [if_pos q, if_pos q, hv 0 (by decide) q]
        · rw [if_neg q, if_neg q]
      have b : (if 1 < opF (kd g) then v' (od g 1) else 0) = (if 1 < opF (kd g) then v (od g 1) else 0) := by
        by_cases q : 1 < opF (kd g)
        · rw [if_pos q, if_pos q, hv 1 (by decide) q]
        · rw [if_neg q, if_neg q]
      rw [a, b]
theorem VS_uniq {kd kd' : Int → Int} {od od' : Int → Int → Int} {lf v v' : Int → Int} {n n' m : Int} (h : VS kd od lf v n) (h' : VS kd' od' lf v' n') (hm : m ≤ n) (hm' : m ≤ n') (hr : ∀ g : Int, 0 ≤ g → g < m → 0 ≤ kd g ∧ kd g ≤ 10) (hk : ∀ g : Int, 0 ≤ g → g < m → kd' g = kd g ∧ ∀ c : Int, 0 ≤ c → c < 3 → od' g c = od g c) (hb : odB kd od m) : ∀ g : Int, 0 ≤ g → g < m → v' g = v g := by
  have key : ∀ N : Nat, ∀ g : Int, 0 ≤ g → g < N → g < m → v' g = v g := by
    intro N
    induction N with
    | zero => intro g a b; omega
    | succ N ih =>
      intro g a b c
      rw [h g a (by omega), h' g a (by omega)]
      exact vst_congr (hr g a c).1 (hr g a c).2 (hk g a c).1 (hk g a c).2 (fun i i0 i1 => by
        have q := hb g a c i i0 i1
        exact ih _ q.1 (by omega) (by omega))
  exact fun g a b => key (g.toNat + 1) g a (by omega) b
/-- one gate more -/
theorem VS_st {kd : Int → Int} {od : Int → Int → Int} {lf v v' : Int → Int} {n : Int} (h : VS kd od lf v n) (hr : ∀ g, 0 ≤ kd g ∧ kd g ≤ 10) (hb : odB kd od (n + 1)) (hx : v' n = vst kd od lf v n) (ho : ∀ g : Int, g ≠ n → v' g = v g) : VS kd od lf v' (n + 1) := by
  have key : ∀ g : Int, 0 ≤ g → g < n + 1 → vst kd od lf v' g = vst kd od lf v g := fun g a b => vst_congr (hr g).1 (hr g).2 rfl (fun _ _ _ => rfl) (fun c c0 c1 => ho _ (by have := hb g a b c c0 c1; omega))
  intro g a b
  rw [key g a b]
  by_cases e : g = n
  · rw [e]; exact hx
  · rw [ho g e]; exact h g a (by omega)
def rowF (v : Int → Int) : Nat → Int
  | 0 => 0
  | n + 1 => zor (rowF v n) (zshl (v (n : Int)) (n : Int))
theorem rowF_up (v : Int → Int) {i : Int} (h : 0 ≤ i) : rowF v (i + 1).toNat = zor (rowF v i.toNat) (zshl (v i) i) := by
  rw [show (i + 1).toNat = i.toNat + 1 by omega]
  show zor (rowF v i.toNat) (zshl (v (i.toNat : Int)) (i.toNat : Int)) = _
  rw [Int.toNat_of_nonneg h]
def rowG (x y z : Int) (n : Int) : Int := if n = 0 then 0 else if n = 1 then zor 0 (zshl x 0) else if n = 2 then zor (zor 0 (zshl x 0)) (zshl y 1) else zor (zor (zor 0 (zshl x 0)) (zshl y 1)) (zshl z 2)
theorem tab_ok0 : ∀ (k : Fin 11) (x y z : Fin 2), k.val ≠ 0 → zand (zshr (tabF (k.val : Int)) (rowG (x.val : Int) (y.val : Int) (z.val : Int) (opF (k.val : Int)))) 1 = if (k.val : Int) = 10 then (if (x.val : Int) = 0 then (z.val : Int) else (y.val : Int)) else cmF (k.val : Int) (if 0 < opF (k.val : Int) then (x.val : Int) else 0) (if 1 < opF (k.val : Int) then (y.val : Int) else 0) := by decide +kernel
theorem tab_ok {k : Int} {v : Int → Int} (h0 : 0 ≤ k) (h1 : k ≤ 10) (hk : ¬ k = 0) (hv : ∀ j, 0 ≤ v j ∧ v j ≤ 1) : zand (zshr (tabF k) (rowF v (opF k).toNat)) 1 = if k = 10 then (if v 0 = 0 then v 2 else v 1) else cmF k (if 0 < opF k then v 0 else 0) (if 1 < opF k then v 1 else 0) := by
  have e : rowF v (opF k).toNat = rowG (v 0) (v 1) (v 2) (opF k) := by
    have := opF_in k
    rcases (show opF k = 0 ∨ opF k = 1 ∨ opF k = 2 ∨ opF k = 3 by omega) with q | q | q | q <;> rw [q] <;> rfl
  have a := hv 0
  have b := hv 1
  have c := hv 2
  have q := tab_ok0 ⟨k.toNat, by omega⟩ ⟨(v 0).toNat, by omega⟩ ⟨(v 1).toNat, by omega⟩ ⟨(v 2).toNat, by omega⟩ (by show k.toNat ≠ 0; omega)
  rw [e]
  dsimp only at q
  rw [Int.toNat_of_nonneg h0, Int.toNat_of_nonneg a.1, Int.toNat_of_nonneg b.1, Int.toNat_of_nonneg c.1] at q
  exact q
set_option maxRecDepth 20000 in
theorem zX0_gateValue_f {G : tl_G} {M : zM} {J : zJ} {b : Nat} {g a : Int} (hb : NetAt b) (hN : netOK M b) (h0 : 0 ≤ g) (h1 : g < M b 4) : ZN G yX0_gateValue mX0_gateValue 1 kAll [vR b, vI g, vI a] F1 M J (qI (fun x M' J' => M' = M ∧ J' = J ∧ 0 ≤ x ∧ x ≤ 1 ∧ x = vst (M (b + 1)) (fun g c => M (b + 2) (3 * g + c)) (fun w => zand (zshr a w) 1) (M (b + 4)) g)) := by
  refine ZN_of (L := [_, _, _, _, _, _]) (by decide) rfl rfl (Nat.le_of_ble_eq_true rfl) rfl (fun hav => ?_)
  refine Z_rg b 4 (nTg hb) (fun g4 g4b => ?_)
  refine Z_ok (fun ok0 => ?_)
  refine Z_aload_n (n := 1) dX0_gateValue_0 rfl rfl ?_
  refine Z_getA (n := 4) dX0_gateValue_1 rfl ffX0_9 (by first | exact nS0 hb | exact nS1 hb | exact nS2 hb | exact nS3 hb | exact nS4 hb | exact nP0 hb | exact nP1 hb | exact nP2 hb | exact nP3 hb | rfl) (by first | exact nS0 hb | exact nS1 hb | exact nS2 hb | exact nS3 hb | exact nS4 hb | exact nP0 hb | exact nP1 hb | exact nP2 hb | exact nP3 hb | rfl) ?_
  refine Z_iload_n (n := 5) dX0_gateValue_4 rfl rfl ?_
  refine Z_iald (n := 6) dX0_gateValue_5 rfl (by first | exact nS0 hb | exact nS1 hb | exact nS2 hb | exact nS3 hb | exact nS4 hb | exact nP0 hb | exact nP1 hb | exact nP2 hb | exact nP3 hb | rfl) (by first | exact nTg hb | exact nTo hb | exact nT1 hb | exact nT2 hb | exact nT3 hb | exact nT4 hb | rfl) (by first | decide | assumption) (by omega) (by omega) (fun r5 s5 => ?_)
  refine Z_istore_n (L' := [_, _, _, _, _, _]) (n := 7) dX0_gateValue_6 rfl (by decide) rfl rfl ?_
  refine Z_iload_n (n := 8) dX0_gateValue_7 rfl rfl ?_
  refine Z_if_ne (n := 11) (t := 22) dX0_gateValue_8 rfl (by decide) (fun c8 => ?_) (fun c8 => ?_)
  · refine Z_iconst (n := 23) dX0_gateValue_22 rfl (by decide) ?_
    refine Z_istore (L' := [_, _, _, _, _, _]) (n := 25) dX0_gateValue_23 rfl (by decide) rfl rfl ?_
    refine Z_iconst (n := 26) dX0_gateValue_25 rfl (by decide) ?_
    refine Z_istore (L' := [_, _, _, _, _, _]) (n := 28) dX0_gateValue_26 rfl (by decide) rfl rfl ?_
    have lp28 : ∀ (N28 : Nat) (c i : Int) , ((3 - i).toNat) < N28 → (0 ≤ i) → (i ≤ opF (M (b + 1) g)) → (c = rowF (fun j => M (b + 4) (M (b + 2) (3 * g + j))) i.toNat) → TZ G mX0_gateValue (tl_rm 1 0 0) 0 0 kAll M J 28 [some (vR b), some (vI g), some (vI a), some (vI (M (b + 1) g)), some (vI c), some (vI i)] [] F1 M J (ZM G (zPost G kAll F1 M J (qI (fun x M' J' => M' = M ∧ J' = J ∧ 0 ≤ x ∧ x ≤ 1 ∧ x = vst (M (b + 1)) (fun g c => M (b + 2) (3 * g + c)) (fun w => zand (zshr a w) 1) (M (b + 4)) g))) 0 0) := by
      intro N28
      induction N28 with
      | zero => intro c i  hN; omega
      | succ N28 ih28 =>
        intro c i  hN28 i28_0 i28_1 i28_2
        refine Z_iload (n := 30) dX0_gateValue_28 rfl rfl ?_
        refine Z_getsN (i := 1) (n := 33) dX0_gateValue_30 rfl (by decide) (by decide) rfl rfl ?_
        refine Z_iload_n (n := 34) dX0_gateValue_33 rfl rfl ?_
        refine Z_ialdS1 (n := 35) dX0_gateValue_34 rfl (by omega) (by omega) (fun r34 s34 => ?_)
        refine Z_icmp_ge (n := 38) (t := 64) dX0_gateValue_35 rfl (by decide) (fun c35 => ?_) (fun c35 => ?_)
        · refine Z_getsN (i := 2) (n := 67) dX0_gateValue_64 rfl (by decide) (by decide) rfl rfl ?_
          refine Z_iload_n (n := 68) dX0_gateValue_67 rfl rfl ?_
          refine Z_ialdS2 (n := 69) dX0_gateValue_68 rfl (by omega) (by omega) (fun r68 s68 => ?_)
          refine Z_iload (n := 71) dX0_gateValue_69 rfl rfl ?_
          refine Z_ishr (n := 72) dX0_gateValue_71 rfl ?_
          refine Z_iconst (n := 73) dX0_gateValue_72 rfl (by decide) ?_
          refine Z_iand (n := 74) dX0_gateValue_73 rfl ?_
          refine Z_iret dX0_gateValue_74 rfl ?_
          have hz := zand_1 (zshr (tabF (M (b + 1) g)) c)
          refine ⟨rfl, rfl, by omega, by omega, ?_⟩
          have hkr : 0 ≤ M (b + 1) g ∧ M (b + 1) g ≤ 10 := by have z := ok0 (b + 1) g; rw [nT1 hb] at z; exact z
          rw [i28_2, show i = opF (M (b + 1) g) by omega, tab_ok hkr.1 hkr.2 c8 (fun j => by have z := ok0 (b + 4) (M (b + 2) (3 * g + j)); rw [nT4 hb] at z; exact z)]
          unfold vst
          rw [if_neg c8]
        · refine Z_iload (n := 40) dX0_gateValue_38 rfl rfl ?_
          refine Z_aload_n (n := 41) dX0_gateValue_40 rfl rfl ?_
          refine Z_getA (n := 44) dX0_gateValue_41 rfl ffX0_21 (by first | exact nS0 hb | exact nS1 hb | exact nS2 hb | exact nS3 hb | exact nS4 hb | exact nP0 hb | exact nP1 hb | exact nP2 hb | exact nP3 hb | rfl) (by first | exact nS0 hb | exact nS1 hb | exact nS2 hb | exact nS3 hb | exact nS4 hb | exact nP0 hb | exact nP1 hb | exact nP2 hb | exact nP3 hb | rfl) ?_
          refine Z_aload_n (n := 45) dX0_gateValue_44 rfl rfl ?_
          refine Z_iload_n (n := 46) dX0_gateValue_45 rfl rfl ?_
          refine Z_iload (n := 48) dX0_gateValue_46 rfl rfl ?_
          refine Z_callVi (n := 51) [_, _] _ dX0_gateValue_48 rfl cwX0_42 rfl rfl (by first | exact nS0 hb | exact nS1 hb | exact nS2 hb | exact nS3 hb | exact nS4 hb | exact nP0 hb | exact nP1 hb | exact nP2 hb | exact nP3 hb | rfl) (Nat.le_of_ble_eq_true rfl) (by refine ⟨?_, ?_, ?_, ?_⟩ <;> exact Nat.le_of_ble_eq_true rfl) (fun _ h => h) (zX0_operand  (by first | assumption | omega | decide) (by first | assumption | omega | decide) (by first | assumption | omega | decide) (by first | assumption | omega | decide) (by first | assumption | omega | decide)) ?_
          intro x48 M48 J48 z48 f48 q48
          obtain ⟨e48_1, e48_2, h48⟩ := q48
          replace e48_1 := e48_1.symm; subst e48_1
          replace e48_2 := e48_2.symm; subst e48_2
          have hop := (hN.1 g h0 h1).1 i (by omega) (by omega)
          rw [← h48] at hop
          refine Z_iald (n := 52) dX0_gateValue_51 rfl (by first | exact nS0 hb | exact nS1 hb | exact nS2 hb | exact nS3 hb | exact nS4 hb | exact nP0 hb | exact nP1 hb | exact nP2 hb | exact nP3 hb | rfl) (by first | exact nTg hb | exact nTo hb | exact nT1 hb | exact nT2 hb | exact nT3 hb | exact nT4 hb | rfl) (by first | decide | assumption) (by omega) (by omega) (fun r51 s51 => ?_)
          refine Z_iload (n := 54) dX0_gateValue_52 rfl rfl ?_
          refine Z_ishl (n := 55) dX0_gateValue_54 rfl ?_
          refine Z_ior (n := 56) dX0_gateValue_55 rfl ?_
          refine Z_istore (L' := [_, _, _, _, _, _]) (n := 58) dX0_gateValue_56 rfl (by decide) rfl rfl ?_
          refine Z_iinc (L' := [_, _, _, _, _, _]) (n := 61) dX0_gateValue_58 rfl rfl (by decide) rfl rfl (by omega) rfl ?_
          refine Z_goto (t := 28) dX0_gateValue_61 (by decide) ?_
          refine Z_loc (L' := [some _, some _, some _, some _, some _, some _]) (lsub_same (lsub_same (lsub_same (lsub_same (lsub_same (lsub_same lsub_nil)))))) ?_
          exact ih28 _ _  (by omega) (by first | assumption | omega | decide) (by first | assumption | omega | decide) (by rw [rowF_up _ i28_0, ← i28_2, h48])
    refine Z_loc (L' := [some _, some _, some _, some _, some _, some _]) (lsub_same (lsub_same (lsub_same (lsub_same (lsub_same (lsub_same lsub_nil)))))) ?_
    exact lp28 _ _ _  (Nat.lt_succ_self _) (by first | assumption | omega | decide) (by exact (opF_in _).1) (by rfl)
  · refine Z_iload_n (n := 12) dX0_gateValue_11 rfl rfl ?_
    refine Z_aload_n (n := 13) dX0_gateValue_12 rfl rfl ?_
    refine Z_iload_n (n := 14) dX0_gateValue_13 rfl rfl ?_
    refine Z_iconst (n := 15) dX0_gateValue_14 rfl (by decide) ?_
    have ho0 := (hN.1 g h0 h1).2 (by omega)
    refine Z_callVi (n := 18) [_, _] _ dX0_gateValue_15 rfl cwX0_42 rfl rfl (by first | exact nS0 hb | exact nS1 hb | exact nS2 hb | exact nS3 hb | exact nS4 hb | exact nP0 hb | exact nP1 hb | exact nP2 hb | exact nP3 hb | rfl) (Nat.le_of_ble_eq_true rfl) (by refine ⟨?_, ?_, ?_, ?_⟩ <;> exact Nat.le_of_ble_eq_true rfl) (fun _ h => h) (zX0_operand  (by first | assumption | omega | decide) (by first | assumption | omega | decide) (by first | assumption | omega | decide) (by first | assumption | omega | decide) (by first | assumption | omega | decide)) ?_
    intro x15 M15 J15 z15 f15 q15
    obtain ⟨e15_1, e15_2, h15⟩ := q15
    replace e15_1 := e15_1.symm; subst e15_1
    replace e15_2 := e15_2.symm; subst e15_2
    refine Z_ishr (n := 19) dX0_gateValue_18 rfl ?_
    refine Z_iconst (n := 20) dX0_gateValue_19 rfl (by decide) ?_
    refine Z_iand (n := 21) dX0_gateValue_20 rfl ?_
    refine Z_iret dX0_gateValue_21 rfl ?_
    have hz := zand_1 (zshr a x15)
    refine ⟨rfl, rfl, by omega, by omega, ?_⟩
    unfold vst
    rw [if_pos c8, h15]
set_option maxRecDepth 20000 in
theorem zX0_outputValue_f {G : tl_G} {M : zM} {J : zJ} {b : Nat} {o a : Int} (hb : NetAt b) (hN : netOK M b) (h0 : 0 ≤ o) (h1 : o < M b 5) : ZN G yX0_outputValue mX0_outputValue 2 (kOf b) [vR b, vI o, vI a] F1 M J (qI (fun x M' J' => J' = J ∧ x = M' (b + 4) (M (b + 3) o) ∧ VS (M (b + 1)) (fun g c => M (b + 2) (3 * g + c)) (fun w => zand (zshr a w) 1) (M' (b + 4)) (M (b + 3) o + 1))) := by
  refine ZN_of (L := [_, _, _, _, _]) (by decide) rfl rfl (Nat.le_of_ble_eq_true rfl) rfl (fun hav => ?_)
  refine Z_rg b 5 (nTo hb) (fun g5 g5b => ?_)
  refine Z_rg b 4 (nTg hb) (fun g4 g4b => ?_)
  have ho := hN.2 o h0 h1
  refine Z_ok (fun ok0 => ?_)
  refine Z_aload_n (n := 1) dX0_outputValue_0 rfl rfl ?_
  refine Z_getA (n := 4) dX0_outputValue_1 rfl ffX0_18 (by first | exact nS0 hb | exact nS1 hb | exact nS2 hb | exact nS3 hb | exact nS4 hb | exact nP0 hb | exact nP1 hb | exact nP2 hb | exact nP3 hb | rfl) (by first | exact nS0 hb | exact nS1 hb | exact nS2 hb | exact nS3 hb | exact nS4 hb | exact nP0 hb | exact nP1 hb | exact nP2 hb | exact nP3 hb | rfl) ?_
  refine Z_iload_n (n := 5) dX0_outputValue_4 rfl rfl ?_
  refine Z_iald (n := 6) dX0_outputValue_5 rfl (by first | exact nS0 hb | exact nS1 hb | exact nS2 hb | exact nS3 hb | exact nS4 hb | exact nP0 hb | exact nP1 hb | exact nP2 hb | exact nP3 hb | rfl) (by first | exact nTg hb | exact nTo hb | exact nT1 hb | exact nT2 hb | exact nT3 hb | exact nT4 hb | rfl) (by first | decide | assumption) (by omega) (by omega) (fun r5 s5 => ?_)
  refine Z_istore_n (L' := [_, _, _, _, _]) (n := 7) dX0_outputValue_6 rfl (by decide) rfl rfl ?_
  refine Z_iconst (n := 8) dX0_outputValue_7 rfl (by decide) ?_
  refine Z_istore (L' := [_, _, _, _, _]) (n := 10) dX0_outputValue_8 rfl (by decide) rfl rfl ?_
  have lp10 : ∀ (N10 : Nat) (g : Int) (M10 : zM) (J10 : zJ), ((M (b + 3) o + 1 - g).toNat) < N10 → (J10 = J) → (0 ≤ g) → (g ≤ M (b + 3) o + 1) → (VS (M (b + 1)) (fun g c => M (b + 2) (3 * g + c)) (fun w => zand (zshr a w) 1) (M10 (b + 4)) g) → TZ G mX0_outputValue (tl_rm 2 0 0) 0 0 (kOf b) M J 10 [some (vR b), some (vI o), some (vI a), some (vI (M (b + 3) o)), some (vI g)] [] F1 M10 J10 (ZM G (zPost G (kOf b) F1 M J (qI (fun x M' J' => J' = J ∧ x = M' (b + 4) (M (b + 3) o) ∧ VS (M (b + 1)) (fun g c => M (b + 2) (3 * g + c)) (fun w => zand (zshr a w) 1) (M' (b + 4)) (M (b + 3) o + 1)))) 0 0) := by
    intro N10
    induction N10 with
    | zero => intro g M10 J10 hN; omega
    | succ N10 ih10 =>
      intro g M10 J10 hN10 i10_0 i10_1 i10_2 i10_3
      refine Z_iload (n := 12) dX0_outputValue_10 rfl rfl ?_
      refine Z_iload_n (n := 13) dX0_outputValue_12 rfl rfl ?_
      refine Z_icmp_gt (n := 16) (t := 36) dX0_outputValue_13 rfl (by decide) (fun c13 => ?_) (fun c13 => ?_)
      · refine Z_aload_n (n := 37) dX0_outputValue_36 rfl rfl ?_
        refine Z_getA (n := 40) dX0_outputValue_37 rfl ffX0_21 (by first | exact nS0 hb | exact nS1 hb | exact nS2 hb | exact nS3 hb | exact nS4 hb | exact nP0 hb | exact nP1 hb | exact nP2 hb | exact nP3 hb | rfl) (by first | exact nS0 hb | exact nS1 hb | exact nS2 hb | exact nS3 hb | exact nS4 hb | exact nP0 hb | exact nP1 hb | exact nP2 hb | exact nP3 hb | rfl) ?_
        refine Z_iload_n (n := 41) dX0_outputValue_40 rfl rfl ?_
        refine Z_iald (n := 42) dX0_outputValue_41 rfl (by first | exact nS0 hb | exact nS1 hb | exact nS2 hb | exact nS3 hb | exact nS4 hb | exact nP0 hb | exact nP1 hb | exact nP2 hb | exact nP3 hb | rfl) (by first | exact nTg hb | exact nTo hb | exact nT1 hb | exact nT2 hb | exact nT3 hb | exact nT4 hb | rfl) (by first | decide | assumption) (by omega) (by omega) (fun r41 s41 => ?_)
        refine Z_iret dX0_outputValue_42 rfl ?_
        refine ⟨i10_0, rfl, ?_⟩
        rw [show M (b + 3) o + 1 = g by omega]
        exact i10_3
      · refine Z_fr (fun fr10 => ?_)
        have hN10 : netOK M10 b := netOK_fr hN (fr10 b (by unfold kOf; omega)).1 (fr10 (b + 1) (by unfold kOf; omega)).1 (fr10 (b + 2) (by unfold kOf; omega)).1 (fr10 (b + 3) (by unfold kOf; omega)).1
        have hb4 : M10 b 4 = M b 4 := congrFun (fr10 b (by unfold kOf; omega)).1 4
        refine Z_aload_n (n := 17) dX0_outputValue_16 rfl rfl ?_
        refine Z_getA (n := 20) dX0_outputValue_17 rfl ffX0_21 (by first | exact nS0 hb | exact nS1 hb | exact nS2 hb | exact nS3 hb | exact nS4 hb | exact nP0 hb | exact nP1 hb | exact nP2 hb | exact nP3 hb | rfl) (by first | exact nS0 hb | exact nS1 hb | exact nS2 hb | exact nS3 hb | exact nS4 hb | exact nP0 hb | exact nP1 hb | exact nP2 hb | exact nP3 hb | rfl) ?_
        refine Z_iload (n := 22) dX0_outputValue_20 rfl rfl ?_
        refine Z_aload_n (n := 23) dX0_outputValue_22 rfl rfl ?_
        refine Z_iload (n := 25) dX0_outputValue_23 rfl rfl ?_
        refine Z_iload_n (n := 26) dX0_outputValue_25 rfl rfl ?_
        refine Z_callVi (n := 29) [_, _] _ dX0_outputValue_26 rfl cwX0_38 rfl rfl (by first | exact nS0 hb | exact nS1 hb | exact nS2 hb | exact nS3 hb | exact nS4 hb | exact nP0 hb | exact nP1 hb | exact nP2 hb | exact nP3 hb | rfl) (Nat.le_of_ble_eq_true rfl) (by refine ⟨?_, ?_, ?_, ?_⟩ <;> exact Nat.le_of_ble_eq_true rfl) (fun _ _ => trivial) (zX0_gateValue_f  (by first | assumption | omega | decide) (by first | assumption | omega | decide) (by first | assumption | omega | decide) (by first | assumption | omega | decide)) ?_
        intro x26 M26 J26 z26 f26 q26
        obtain ⟨e26_1, e26_2, l26, u26, h26⟩ := q26
        replace e26_1 := e26_1.symm; subst e26_1
        replace e26_2 := e26_2.symm; subst e26_2
        refine Z_iast (n := 30) dX0_outputValue_29 rfl (by first | exact nS0 hb | exact nS1 hb | exact nS2 hb | exact nS3 hb | exact nS4 hb | exact nP0 hb | exact nP1 hb | exact nP2 hb | exact nP3 hb | rfl) (by first | exact nTg hb | exact nTo hb | exact nT1 hb | exact nT2 hb | exact nT3 hb | exact nT4 hb | rfl) (by first | decide | assumption) (by omega) (by omega) (by first | assumption | omega | decide) (by first | assumption | omega | decide) (by unfold kOf; omega) ?_
        rw [(fr10 (b + 1) (by unfold kOf; omega)).1, (fr10 (b + 2) (by unfold kOf; omega)).1] at h26
        have nx : VS (M (b + 1)) (fun g c => M (b + 2) (3 * g + c)) (fun w => zand (zshr a w) 1) (uz M10 (b + 4) g x26 (b + 4)) (g + 1) := VS_st i10_3 (fun g => by have z := ok0 (b + 1) g; rw [nT1 hb] at z; exact z) (fun q q0 q1 c c0 c1 => (hN.1 q q0 (by omega)).1 c c0 c1) (by rw [uz_s]; exact h26) (fun q hq => uz_n hq)
        refine Z_iinc (L' := [_, _, _, _, _]) (n := 33) dX0_outputValue_30 rfl rfl (by decide) rfl rfl (by omega) rfl ?_
        refine Z_goto (t := 10) dX0_outputValue_33 (by decide) ?_
        refine Z_loc (L' := [some _, some _, some _, some _, some _]) (lsub_same (lsub_same (lsub_same (lsub_same (lsub_same lsub_nil))))) ?_
        exact ih10 _ _ _ (by omega) (by assumption) (by first | assumption | omega | decide) (by first | assumption | omega | decide) (by exact nx)
  refine Z_loc (L' := [some _, some _, some _, some _, some _]) (lsub_same (lsub_same (lsub_same (lsub_same (lsub_same lsub_nil))))) ?_
  exact lp10 _ _ _ _ (Nat.lt_succ_self _) (by rfl) (by first | assumption | omega | decide) (by first | assumption | omega | decide) (by exact fun q q0 q1 => by omega)
/-- what the class's gives answers -/
def gvQ (M : zM) (net o a x : Int) : Prop := ((net < 0 ∨ 3 ≤ net) ∧ x = -1) ∨ (0 ≤ net ∧ net < 3 ∧ (o < 0 ∨ M (nA net) 5 ≤ o) ∧ x = -1) ∨ (0 ≤ net ∧ net < 3 ∧ 0 ≤ o ∧ o < M (nA net) 5 ∧ (a < 0 ∨ 256 ≤ a) ∧ x = -2) ∨ (0 ≤ net ∧ net < 3 ∧ 0 ≤ o ∧ o < M (nA net) 5 ∧ 0 ≤ a ∧ a < 256 ∧ ∃ v : Int → Int, VS (M (nA net + 1)) (fun g c => M (nA net + 2) (3 * g + c)) (fun w => zand (zshr a w) 1) v (M (nA net + 3) o + 1) ∧ x = v (M (nA net + 3) o))
def gvR (M : zM) (net o a x : Int) : Prop := ((net < 0 ∨ 3 ≤ net) ∧ x = -1) ∨ (0 ≤ net ∧ net < 3 ∧ (o < 0 ∨ M 33 net ≤ o) ∧ x = -1) ∨ (0 ≤ net ∧ net < 3 ∧ 0 ≤ o ∧ o < M 33 net ∧ (a < 0 ∨ 256 ≤ a) ∧ x = -2) ∨ (0 ≤ net ∧ net < 3 ∧ 0 ≤ o ∧ o < M 33 net ∧ 0 ≤ a ∧ a < 256 ∧ ∃ v : Int → Int, VS (fun g => M 34 (40 * net + g)) (fun g c => M 35 (3 * (40 * net + g) + c)) (fun w => zand (zshr a w) 1) v (M 32 net) ∧ x = v (M 36 (4 * net + o)))
set_option maxRecDepth 20000 in
theorem zX3_gives_f {G : tl_G} {M : zM} {J : zJ} {net o a : Int} (hc : cI M) : ZN G yX3_gives mX3_gives 3 kPub [vR 0, vI net, vI o, vI a] F1 M J (qI (fun x M' J' => J' = J ∧ cI M' ∧ gvQ M net o a x)) := by
  refine ZN_of (L := [_, _, _, _]) (by decide) rfl rfl (Nat.le_of_ble_eq_true rfl) rfl (fun hav => ?_)
  refine Z_iload_n (n := 1) dX3_gives_0 rfl rfl ?_
  refine Z_callSi (n := 4) [_] _ dX3_gives_1 rfl cwX3_62 rfl rfl (Nat.le_of_ble_eq_true rfl) (by refine ⟨?_, ?_, ?_, ?_⟩ <;> exact Nat.le_of_ble_eq_true rfl) (fun _ _ => trivial) (zX3_isNet  ) ?_
  intro x1 M1 J1 z1 f1 q1
  obtain ⟨e1_1, e1_2, h1⟩ := q1
  replace e1_1 := e1_1.symm; subst e1_1
  replace e1_2 := e1_2.symm; subst e1_2
  refine Z_if_eq (n := 7) (t := 20) dX3_gives_4 rfl (by decide) (fun c4 => ?_) (fun c4 => ?_)
  · refine Z_iconst (n := 21) dX3_gives_20 rfl (by decide) ?_
    refine Z_iret dX3_gives_21 rfl ?_
    refine ⟨rfl, hc, ?_⟩
    first
      | exact Or.inl ⟨by omega, rfl⟩
      | exact Or.inr (Or.inl ⟨by omega, by omega, by omega, rfl⟩)
  · refine Z_aload_n (n := 8) dX3_gives_7 rfl rfl ?_
    refine Z_getA (n := 11) dX3_gives_8 rfl ffX3_11 (by first | rfl | exact nS0 (nA_at (by omega) (by omega))) (by first | rfl | exact nS0 (nA_at (by omega) (by omega))) ?_
    refine Z_iload_n (n := 12) dX3_gives_11 rfl rfl ?_
    refine Z_aald (n := 13) dX3_gives_12 rfl (by first | rfl | exact nS0 (nA_at (by omega) (by omega))) (by decide) (by omega) (by omega) (nA_P (by omega) (by omega)) ?_
    refine Z_iload_n (n := 14) dX3_gives_13 rfl rfl ?_
    refine Z_callVi (n := 17) [_] _ dX3_gives_14 rfl cwX3_88 rfl rfl (by first | rfl | exact nS0 (nA_at (by omega) (by omega))) (Nat.le_of_ble_eq_true rfl) (by refine ⟨?_, ?_, ?_, ?_⟩ <;> exact Nat.le_of_ble_eq_true rfl) (fun _ _ => trivial) (zX0_hasOutput  (by exact nA_at (by omega) (by omega))) ?_
    intro x14 M14 J14 z14 f14 q14
    obtain ⟨e14_1, e14_2, h14⟩ := q14
    replace e14_1 := e14_1.symm; subst e14_1
    replace e14_2 := e14_2.symm; subst e14_2
    refine Z_if_ne (n := 20) (t := 22) dX3_gives_17 rfl (by decide) (fun c17 => ?_) (fun c17 => ?_)
    · refine Z_iload_n (n := 23) dX3_gives_22 rfl rfl ?_
      refine Z_callSi (n := 26) [_] _ dX3_gives_23 rfl cwX3_91 rfl rfl (Nat.le_of_ble_eq_true rfl) (by refine ⟨?_, ?_, ?_, ?_⟩ <;> exact Nat.le_of_ble_eq_true rfl) (fun _ _ => trivial) (zX3_isAssignment  ) ?_
      intro x23 M23 J23 z23 f23 q23
      obtain ⟨e23_1, e23_2, h23⟩ := q23
      replace e23_1 := e23_1.symm; subst e23_1
      replace e23_2 := e23_2.symm; subst e23_2
      refine Z_if_ne (n := 29) (t := 32) dX3_gives_26 rfl (by decide) (fun c26 => ?_) (fun c26 => ?_)
      · refine Z_aload_n (n := 33) dX3_gives_32 rfl rfl ?_
        refine Z_getA (n := 36) dX3_gives_33 rfl ffX3_11 (by first | rfl | exact nS0 (nA_at (by omega) (by omega))) (by first | rfl | exact nS0 (nA_at (by omega) (by omega))) ?_
        refine Z_iload_n (n := 37) dX3_gives_36 rfl rfl ?_
        refine Z_aald (n := 38) dX3_gives_37 rfl (by first | rfl | exact nS0 (nA_at (by omega) (by omega))) (by decide) (by omega) (by omega) (nA_P (by omega) (by omega)) ?_
        refine Z_iload_n (n := 39) dX3_gives_38 rfl rfl ?_
        refine Z_iload_n (n := 40) dX3_gives_39 rfl rfl ?_
        refine Z_callVi (n := 43) [_, _] _ dX3_gives_40 rfl cwX3_94 rfl rfl (by first | rfl | exact nS0 (nA_at (by omega) (by omega))) (Nat.le_of_ble_eq_true rfl) (by refine ⟨?_, ?_, ?_, ?_⟩ <;> exact Nat.le_of_ble_eq_true rfl) (fun a h => by unfold kPub at h; unfold kOf nA; omega) (zX0_outputValue_f  (by exact nA_at (by omega) (by omega)) (by exact cI_net hc (nA_at (by omega) (by omega))) (by omega) (by omega)) ?_
        intro x40 M40 J40 z40 f40 q40
        obtain ⟨e40_1, h40, vs40⟩ := q40
        replace e40_1 := e40_1.symm; subst e40_1
        refine Z_fr (fun frR => ?_)
        refine Z_iret dX3_gives_43 rfl ?_
        refine ⟨rfl, cI_mk hc frR (pI_fr hc.1 (f40 5 ?_).1 (f40 6 ?_).1 (f40 10 ?_).1 (f40 11 ?_).1) (ordOK_fr hc.2.1 (f40 4 ?_).1), Or.inr (Or.inr (Or.inr ⟨by omega, by omega, by omega, by omega, by omega, by omega, M40 (nA net + 4), vs40, h40⟩))⟩
        all_goals (unfold kOf nA; omega)
      · refine Z_bipush (n := 31) dX3_gives_29 rfl (by decide) (by decide) ?_
        refine Z_iret dX3_gives_31 rfl ?_
        exact ⟨rfl, hc, Or.inr (Or.inr (Or.inl ⟨by omega, by omega, by omega, by omega, by omega, rfl⟩))⟩
    · refine Z_iconst (n := 21) dX3_gives_20 rfl (by decide) ?_
      refine Z_iret dX3_gives_21 rfl ?_
      refine ⟨rfl, hc, ?_⟩
      first
        | exact Or.inl ⟨by omega, rfl⟩
        | exact Or.inr (Or.inl ⟨by omega, by omega, by omega, rfl⟩)
set_option maxRecDepth 20000 in
theorem zX4_gives_f {G : tl_G} {M : zM} {J : zJ} {net o a : Int} (hN : ∀ net : Int, 0 ≤ net → net < 3 → rNt M net) : ZN G yX4_gives mX4_gives 4 kOn [vR 31, vI net, vI o, vI a] F1 M J (qI (fun x M' J' => J' = J ∧ gvR M net o a x)) := by
  refine ZN_of (L := [_, _, _, _, _, _, _, _, _, _]) (by decide) rfl rfl (Nat.le_of_ble_eq_true rfl) rfl (fun hav => ?_)
  refine Z_aload_n (n := 1) dX4_gives_0 rfl rfl ?_
  refine Z_iload_n (n := 2) dX4_gives_1 rfl rfl ?_
  refine Z_iload_n (n := 3) dX4_gives_2 rfl rfl ?_
  refine Z_callVi (n := 6) [_, _] _ dX4_gives_3 rfl cwX4_128 rfl rfl rfl (Nat.le_of_ble_eq_true rfl) (by refine ⟨?_, ?_, ?_, ?_⟩ <;> exact Nat.le_of_ble_eq_true rfl) (fun _ _ => trivial) (zX4_isOutput  ) ?_
  intro x3 M3 J3 z3 f3 q3
  obtain ⟨e3_1, e3_2, h3⟩ := q3
  replace e3_1 := e3_1.symm; subst e3_1
  replace e3_2 := e3_2.symm; subst e3_2
  refine Z_if_ne (n := 9) (t := 11) dX4_gives_6 rfl (by decide) (fun c6 => ?_) (fun c6 => ?_)
  · refine Z_rg 33 net rfl (fun g33 g33b => ?_)
    refine Z_rg 32 net rfl (fun g32 g32b => ?_)
    have hNn := hN net (by omega) (by omega)
    refine Z_ok (fun ok0 => ?_)
    refine Z_iload_n (n := 12) dX4_gives_11 rfl rfl ?_
    refine Z_iconst (n := 13) dX4_gives_12 rfl (by decide) ?_
    refine Z_sipush (n := 16) dX4_gives_13 rfl (by decide) (by decide) ?_
    refine Z_callSi (n := 19) [_, _, _] _ dX4_gives_16 rfl cwX4_112 rfl rfl (Nat.le_of_ble_eq_true rfl) (by refine ⟨?_, ?_, ?_, ?_⟩ <;> exact Nat.le_of_ble_eq_true rfl) (fun _ _ => trivial) (zX4_in  ) ?_
    intro x16 M16 J16 z16 f16 q16
    obtain ⟨e16_1, e16_2, h16⟩ := q16
    replace e16_1 := e16_1.symm; subst e16_1
    replace e16_2 := e16_2.symm; subst e16_2
    refine Z_if_ne (n := 22) (t := 25) dX4_gives_19 rfl (by decide) (fun c19 => ?_) (fun c19 => ?_)
    · refine Z_iconst (n := 26) dX4_gives_25 rfl (by decide) ?_
      refine Z_istore (L' := [_, _, _, _, _, _, _, _, _, _]) (n := 28) dX4_gives_26 rfl (by decide) rfl rfl ?_
      have lp28 : ∀ (N28 : Nat) (g : Int) (M28 : zM) (J28 : zJ), ((M 32 net - g).toNat) < N28 → (J28 = J) → (0 ≤ g) → (g ≤ M 32 net) → (VS (fun g => M 34 (40 * net + g)) (fun g c => M 35 (3 * (40 * net + g) + c)) (fun w => zand (zshr a w) 1) (M28 37) g) → TZ G mX4_gives (tl_rm 4 0 0) 0 0 kOn M J 28 [some (vR 31), some (vI net), some (vI o), some (vI a), some (vI g), none, none, none, none, none] [] F1 M28 J28 (ZM G (zPost G kOn F1 M J (qI (fun x M' J' => J' = J ∧ gvR M net o a x))) 0 0) := by
        intro N28
        induction N28 with
        | zero => intro g M28 J28 hN; omega
        | succ N28 ih28 =>
          intro g M28 J28 hN28 i28_0 i28_1 i28_2 i28_3
          refine Z_iload (n := 30) dX4_gives_28 rfl rfl ?_
          refine Z_aload_n (n := 31) dX4_gives_30 rfl rfl ?_
          refine Z_getA (n := 34) dX4_gives_31 rfl ffX4_7 rfl rfl ?_
          refine Z_fr (fun fr28 => ?_)
          have e32 : M28 32 net = M 32 net := congrFun (fr28 32 (by decide)).1 net
          refine Z_iload_n (n := 35) dX4_gives_34 rfl rfl ?_
          refine Z_iald (n := 36) dX4_gives_35 rfl rfl rfl (by first | decide | assumption) (by omega) (by omega) (fun r35 s35 => ?_)
          refine Z_icmp_ge (n := 39) (t := 213) dX4_gives_36 rfl (by decide) (fun c36 => ?_) (fun c36 => ?_)
          · refine Z_aload_n (n := 214) dX4_gives_213 rfl rfl ?_
            refine Z_getA (n := 217) dX4_gives_214 rfl ffX4_25 rfl rfl ?_
            refine Z_aload_n (n := 218) dX4_gives_217 rfl rfl ?_
            refine Z_getA (n := 221) dX4_gives_218 rfl ffX4_22 rfl rfl ?_
            refine Z_iconst (n := 222) dX4_gives_221 rfl (by decide) ?_
            refine Z_iload_n (n := 223) dX4_gives_222 rfl rfl ?_
            refine Z_imul (n := 224) dX4_gives_223 rfl (by omega) ?_
            refine Z_iload_n (n := 225) dX4_gives_224 rfl rfl ?_
            refine Z_iadd (n := 226) dX4_gives_225 rfl (by omega) ?_
            refine Z_iald (n := 227) dX4_gives_226 rfl rfl rfl (by first | decide | assumption) (by omega) (by omega) (fun r226 s226 => ?_)
            refine Z_zald (n := 228) dX4_gives_227 rfl rfl rfl (by first | decide | assumption) (by omega) (by omega) (fun r227 s227 => ?_)
            refine Z_if_eq (n := 231) (t := 235) dX4_gives_228 rfl (by decide) (fun c228 => ?_) (fun c228 => ?_)
            · refine Z_iconst (n := 236) dX4_gives_235 rfl (by decide) ?_
              refine Z_iret dX4_gives_236 rfl ?_
              refine ⟨i28_0, Or.inr (Or.inr (Or.inr ⟨by omega, by omega, by omega, by omega, by omega, by omega, M28 37, ?_, ?_⟩))⟩
              · rw [show M 32 net = g by omega]; exact i28_3
              · rw [← congrFun (fr28 36 (by decide)).1 _]; omega
            · refine Z_iconst (n := 232) dX4_gives_231 rfl (by decide) ?_
              refine Z_goto (t := 236) dX4_gives_232 (by decide) ?_
              refine Z_iret dX4_gives_236 rfl ?_
              refine ⟨i28_0, Or.inr (Or.inr (Or.inr ⟨by omega, by omega, by omega, by omega, by omega, by omega, M28 37, ?_, ?_⟩))⟩
              · rw [show M 32 net = g by omega]; exact i28_3
              · rw [← congrFun (fr28 36 (by decide)).1 _]; omega
          · have hNg : rNt M28 net := rNt_fr hNn (fr28 32 (by decide)).1 (fr28 33 (by decide)).1 (fr28 34 (by decide)).1 (fr28 35 (by decide)).1 (fr28 36 (by decide)).1
            have hgt := hNg.1 g (by omega) (by omega)
            have ho0 : opF (M28 34 (40 * net + g)) > 0 → 0 ≤ M28 35 (3 * (40 * net + g)) ∧ M28 35 (3 * (40 * net + g)) < g := fun q => by
              have z := hgt.1 0 (by omega) (by omega)
              rw [Int.add_zero] at z
              exact z
            have ho1 := hgt.1 1 (by omega)
            have ho2 := hgt.1 2 (by omega)
            have ev : vst (fun g => M 34 (40 * net + g)) (fun g c => M 35 (3 * (40 * net + g) + c)) (fun w => zand (zshr a w) 1) (M28 37) g = if M28 34 (40 * net + g) = 0 then zand (zshr a (M28 35 (3 * (40 * net + g)))) 1 else if M28 34 (40 * net + g) = 10 then (if M28 37 (M28 35 (3 * (40 * net + g))) = 0 then M28 37 (M28 35 (3 * (40 * net + g) + 2)) else M28 37 (M28 35 (3 * (40 * net + g) + 1))) else cmF (M28 34 (40 * net + g)) (if 0 < opF (M28 34 (40 * net + g)) then M28 37 (M28 35 (3 * (40 * net + g))) else 0) (if 1 < opF (M28 34 (40 * net + g)) then M28 37 (M28 35 (3 * (40 * net + g) + 1)) else 0) := by
              unfold vst
              rw [(fr28 34 (by decide)).1, (fr28 35 (by decide)).1]
              simp only [Int.add_zero]
            refine Z_bipush (n := 41) dX4_gives_39 rfl (by decide) (by decide) ?_
            refine Z_iload_n (n := 42) dX4_gives_41 rfl rfl ?_
            refine Z_imul (n := 43) dX4_gives_42 rfl (by omega) ?_
            refine Z_iload (n := 45) dX4_gives_43 rfl rfl ?_
            refine Z_iadd (n := 46) dX4_gives_45 rfl (by omega) ?_
            refine Z_istore (L' := [_, _, _, _, _, _, _, _, _, _]) (n := 48) dX4_gives_46 rfl (by decide) rfl rfl ?_
            refine Z_aload_n (n := 49) dX4_gives_48 rfl rfl ?_
            refine Z_getA (n := 52) dX4_gives_49 rfl ffX4_16 rfl rfl ?_
            refine Z_iload (n := 54) dX4_gives_52 rfl rfl ?_
            refine Z_iald (n := 55) dX4_gives_54 rfl rfl rfl (by first | decide | assumption) (by omega) (by omega) (fun r54 s54 => ?_)
            refine Z_istore (L' := [_, _, _, _, _, _, _, _, _, _]) (n := 57) dX4_gives_55 rfl (by decide) rfl rfl ?_
            refine Z_iload (n := 59) dX4_gives_57 rfl rfl ?_
            refine Z_callSi (n := 62) [_] _ dX4_gives_59 rfl cwX4_120 rfl rfl (Nat.le_of_ble_eq_true rfl) (by refine ⟨?_, ?_, ?_, ?_⟩ <;> exact Nat.le_of_ble_eq_true rfl) (fun _ _ => trivial) (zX4_wants  ) ?_
            intro x59 M59 J59 z59 f59 q59
            obtain ⟨e59_1, e59_2, h59⟩ := q59
            replace e59_1 := e59_1.symm; subst e59_1
            replace e59_2 := e59_2.symm; subst e59_2
            have ct206 : ∀ (q p r : Int) , (0 ≤ q) → (q ≤ 1) → (q = vst (fun g => M 34 (40 * net + g)) (fun g c => M 35 (3 * (40 * net + g) + c)) (fun w => zand (zshr a w) 1) (M28 37) g) → TZ G mX4_gives (tl_rm 4 0 0) 0 0 kOn M J 206 [some (vR 31), some (vI net), some (vI o), some (vI a), some (vI g), none, none, none, some (vI p), some (vI r)] [vI q, vI g, vR 37] F1 M28 J28 (ZM G (zPost G kOn F1 M J (qI (fun x M' J' => J' = J ∧ gvR M net o a x))) 0 0) := by
              intro q p r  i206_0 i206_1 i206_2
              refine Z_zast (n := 207) dX4_gives_206 rfl rfl rfl (by first | decide | assumption) (by omega) (by omega) (by first | assumption | omega | decide) (by first | assumption | omega | decide) (by decide) ?_
              have nx : VS (fun g => M 34 (40 * net + g)) (fun g c => M 35 (3 * (40 * net + g) + c)) (fun w => zand (zshr a w) 1) (uz M28 37 g q 37) (g + 1) := VS_st i28_3 (fun j => ok0 34 _) (fun j j0 j1 c c0 c1 => (hNn.1 j j0 (by omega)).1 c c0 c1) (by rw [uz_s]; exact i206_2) (fun j hj => uz_n hj)
              refine Z_iinc (L' := [_, _, _, _, _, _, _, _, _, _]) (n := 210) dX4_gives_207 rfl rfl (by decide) rfl rfl (by omega) rfl ?_
              refine Z_goto (t := 28) dX4_gives_210 (by decide) ?_
              refine Z_loc (L' := [some _, some _, some _, some _, some _, none, none, none, none, none]) (lsub_same (lsub_same (lsub_same (lsub_same (lsub_same (lsub_none (lsub_none (lsub_none (lsub_none (lsub_none lsub_nil)))))))))) ?_
              exact ih28 _ _ _ (by omega) (by assumption) (by first | assumption | omega | decide) (by first | assumption | omega | decide) (by exact nx)
            have ct125 : ∀ (p r : Int) , (0 ≤ p) → (p ≤ 1) → (0 ≤ r) → (r ≤ 1) → (p = (if 0 < opF (M28 34 (40 * net + g)) then M28 37 (M28 35 (3 * (40 * net + g))) else 0)) → (r = (if 1 < opF (M28 34 (40 * net + g)) then M28 37 (M28 35 (3 * (40 * net + g) + 1)) else 0)) → TZ G mX4_gives (tl_rm 4 0 0) 0 0 kOn M J 125 [some (vR 31), some (vI net), some (vI o), some (vI a), some (vI g), some (vI (40 * net + g)), some (vI (M28 34 (40 * net + g))), some (vI x59), some (vI p), some (vI r)] [] F1 M28 J28 (ZM G (zPost G kOn F1 M J (qI (fun x M' J' => J' = J ∧ gvR M net o a x))) 0 0) := by
              intro p r  i125_0 i125_1 i125_2 i125_3 i125_4 i125_5
              refine Z_aload_n (n := 126) dX4_gives_125 rfl rfl ?_
              refine Z_getA (n := 129) dX4_gives_126 rfl ffX4_25 rfl rfl ?_
              refine Z_iload (n := 131) dX4_gives_129 rfl rfl ?_
              refine Z_iload (n := 133) dX4_gives_131 rfl rfl ?_
              refine Z_if_ne (n := 136) (t := 161) dX4_gives_133 rfl (by decide) (fun c133 => ?_) (fun c133 => ?_)
              · refine Z_iload (n := 163) dX4_gives_161 rfl rfl ?_
                refine Z_bipush (n := 165) dX4_gives_163 rfl (by decide) (by decide) ?_
                refine Z_icmp_ne (n := 168) (t := 197) dX4_gives_165 rfl (by decide) (fun c165 => ?_) (fun c165 => ?_)
                · refine Z_iload (n := 199) dX4_gives_197 rfl rfl ?_
                  refine Z_iload (n := 201) dX4_gives_199 rfl rfl ?_
                  refine Z_iload (n := 203) dX4_gives_201 rfl rfl ?_
                  refine Z_callSi (n := 206) [_, _, _] _ dX4_gives_203 rfl cwX4_131 rfl rfl (Nat.le_of_ble_eq_true rfl) (by refine ⟨?_, ?_, ?_, ?_⟩ <;> exact Nat.le_of_ble_eq_true rfl) (fun _ _ => trivial) (zX4_combined  (by first | assumption | omega | decide) (by first | assumption | omega | decide) (by first | assumption | omega | decide) (by first | assumption | omega | decide)) ?_
                  intro x203 M203 J203 z203 f203 q203
                  obtain ⟨e203_1, e203_2, h203, l203, u203⟩ := q203
                  replace e203_1 := e203_1.symm; subst e203_1
                  replace e203_2 := e203_2.symm; subst e203_2
                  have qv : x203 = vst (fun g => M 34 (40 * net + g)) (fun g c => M 35 (3 * (40 * net + g) + c)) (fun w => zand (zshr a w) 1) (M28 37) g := by
                    rw [ev, if_neg (by omega), if_neg (by omega), ← i125_4, ← i125_5]
                    exact h203
                  refine Z_loc (L' := [some _, some _, some _, some _, some _, none, none, none, some _, some _]) (lsub_same (lsub_same (lsub_same (lsub_same (lsub_same (lsub_none (lsub_none (lsub_none (lsub_same (lsub_same lsub_nil)))))))))) ?_
                  exact ct206 _ _ _  (by first | assumption | omega | decide) (by first | assumption | omega | decide) (by exact qv)
                · refine Z_iload (n := 170) dX4_gives_168 rfl rfl ?_
                  refine Z_if_eq (n := 173) (t := 178) dX4_gives_170 rfl (by decide) (fun c170 => ?_) (fun c170 => ?_)
                  · have hq3 : opF (M28 34 (40 * net + g)) = 3 := by rw [c165]; rfl
                    have hp2 := ho2 (by omega)
                    refine Z_aload_n (n := 179) dX4_gives_178 rfl rfl ?_
                    refine Z_getA (n := 182) dX4_gives_179 rfl ffX4_25 rfl rfl ?_
                    refine Z_aload_n (n := 183) dX4_gives_182 rfl rfl ?_
                    refine Z_getA (n := 186) dX4_gives_183 rfl ffX4_19 rfl rfl ?_
                    refine Z_iconst (n := 187) dX4_gives_186 rfl (by decide) ?_
                    refine Z_iload (n := 189) dX4_gives_187 rfl rfl ?_
                    refine Z_imul (n := 190) dX4_gives_189 rfl (by omega) ?_
                    refine Z_iconst (n := 191) dX4_gives_190 rfl (by decide) ?_
                    refine Z_iadd (n := 192) dX4_gives_191 rfl (by omega) ?_
                    refine Z_iald (n := 193) dX4_gives_192 rfl rfl rfl (by first | decide | assumption) (by omega) (by omega) (fun r192 s192 => ?_)
                    refine Z_zald (n := 194) dX4_gives_193 rfl rfl rfl (by first | decide | assumption) (by omega) (by omega) (fun r193 s193 => ?_)
                    have qv : M28 37 (M28 35 (3 * (40 * net + g) + 2)) = vst (fun g => M 34 (40 * net + g)) (fun g c => M 35 (3 * (40 * net + g) + c)) (fun w => zand (zshr a w) 1) (M28 37) g := by
                      rw [if_pos (by omega)] at i125_4 i125_5
                      rw [ev, if_neg (by omega), if_pos (by omega), if_pos (by omega)]
                    refine Z_goto (t := 206) dX4_gives_194 (by decide) ?_
                    refine Z_loc (L' := [some _, some _, some _, some _, some _, none, none, none, some _, some _]) (lsub_same (lsub_same (lsub_same (lsub_same (lsub_same (lsub_none (lsub_none (lsub_none (lsub_same (lsub_same lsub_nil)))))))))) ?_
                    exact ct206 _ _ _  (by first | assumption | omega | decide) (by first | assumption | omega | decide) (by exact qv)
                  · have hq3 : opF (M28 34 (40 * net + g)) = 3 := by rw [c165]; rfl
                    have qv : r = vst (fun g => M 34 (40 * net + g)) (fun g c => M 35 (3 * (40 * net + g) + c)) (fun w => zand (zshr a w) 1) (M28 37) g := by
                      rw [if_pos (by omega)] at i125_4 i125_5
                      rw [ev, if_neg (by omega), if_pos (by omega), if_neg (by omega)]
                      exact i125_5
                    refine Z_iload (n := 175) dX4_gives_173 rfl rfl ?_
                    refine Z_goto (t := 206) dX4_gives_175 (by decide) ?_
                    refine Z_loc (L' := [some _, some _, some _, some _, some _, none, none, none, some _, some _]) (lsub_same (lsub_same (lsub_same (lsub_same (lsub_same (lsub_none (lsub_none (lsub_none (lsub_same (lsub_same lsub_nil)))))))))) ?_
                    exact ct206 _ _ _  (by first | assumption | omega | decide) (by first | assumption | omega | decide) (by exact qv)
              · refine Z_iload_n (n := 137) dX4_gives_136 rfl rfl ?_
                refine Z_aload_n (n := 138) dX4_gives_137 rfl rfl ?_
                refine Z_getA (n := 141) dX4_gives_138 rfl ffX4_19 rfl rfl ?_
                refine Z_iconst (n := 142) dX4_gives_141 rfl (by decide) ?_
                refine Z_iload (n := 144) dX4_gives_142 rfl rfl ?_
                refine Z_imul (n := 145) dX4_gives_144 rfl (by omega) ?_
                refine Z_iald (n := 146) dX4_gives_145 rfl rfl rfl (by first | decide | assumption) (by omega) (by omega) (fun r145 s145 => ?_)
                refine Z_ishr (n := 147) dX4_gives_146 rfl ?_
                refine Z_iconst (n := 148) dX4_gives_147 rfl (by decide) ?_
                refine Z_iand (n := 149) dX4_gives_148 rfl ?_
                refine Z_iconst (n := 150) dX4_gives_149 rfl (by decide) ?_
                refine Z_icmp_ne (n := 153) (t := 157) dX4_gives_150 rfl (by decide) (fun c150 => ?_) (fun c150 => ?_)
                · have hz1 := zand_1 (zshr a (M28 35 (3 * (40 * net + g))))
                  have qv : (0 : Int) = vst (fun g => M 34 (40 * net + g)) (fun g c => M 35 (3 * (40 * net + g) + c)) (fun w => zand (zshr a w) 1) (M28 37) g := by rw [ev, if_pos (by omega)]; omega
                  refine Z_iconst (n := 158) dX4_gives_157 rfl (by decide) ?_
                  refine Z_goto (t := 206) dX4_gives_158 (by decide) ?_
                  refine Z_loc (L' := [some _, some _, some _, some _, some _, none, none, none, some _, some _]) (lsub_same (lsub_same (lsub_same (lsub_same (lsub_same (lsub_none (lsub_none (lsub_none (lsub_same (lsub_same lsub_nil)))))))))) ?_
                  exact ct206 _ _ _  (by first | assumption | omega | decide) (by first | assumption | omega | decide) (by exact qv)
                · have qv : (1 : Int) = vst (fun g => M 34 (40 * net + g)) (fun g c => M 35 (3 * (40 * net + g) + c)) (fun w => zand (zshr a w) 1) (M28 37) g := by rw [ev, if_pos (by omega)]; omega
                  refine Z_iconst (n := 154) dX4_gives_153 rfl (by decide) ?_
                  refine Z_goto (t := 206) dX4_gives_154 (by decide) ?_
                  refine Z_loc (L' := [some _, some _, some _, some _, some _, none, none, none, some _, some _]) (lsub_same (lsub_same (lsub_same (lsub_same (lsub_same (lsub_none (lsub_none (lsub_none (lsub_same (lsub_same lsub_nil)))))))))) ?_
                  exact ct206 _ _ _  (by first | assumption | omega | decide) (by first | assumption | omega | decide) (by exact qv)
            have ct93 : ∀ (p : Int) , (0 ≤ p) → (p ≤ 1) → (p = (if 0 < opF (M28 34 (40 * net + g)) then M28 37 (M28 35 (3 * (40 * net + g))) else 0)) → TZ G mX4_gives (tl_rm 4 0 0) 0 0 kOn M J 93 [some (vR 31), some (vI net), some (vI o), some (vI a), some (vI g), some (vI (40 * net + g)), some (vI (M28 34 (40 * net + g))), some (vI x59), some (vI p), none] [] F1 M28 J28 (ZM G (zPost G kOn F1 M J (qI (fun x M' J' => J' = J ∧ gvR M net o a x))) 0 0) := by
              intro p  i93_0 i93_1 i93_2
              refine Z_iload (n := 95) dX4_gives_93 rfl rfl ?_
              refine Z_iconst (n := 96) dX4_gives_95 rfl (by decide) ?_
              refine Z_icmp_le (n := 99) (t := 122) dX4_gives_96 rfl (by decide) (fun c96 => ?_) (fun c96 => ?_)
              · have rv : (0 : Int) = (if 1 < opF (M28 34 (40 * net + g)) then M28 37 (M28 35 (3 * (40 * net + g) + 1)) else 0) := by
                  by_cases w : 1 < opF (M28 34 (40 * net + g))
                  · rw [if_pos w]; first | omega | (exfalso; omega)
                  · rw [if_neg w]
                refine Z_iconst (n := 123) dX4_gives_122 rfl (by decide) ?_
                refine Z_istore (L' := [_, _, _, _, _, _, _, _, _, _]) (n := 125) dX4_gives_123 rfl (by decide) rfl rfl ?_
                refine Z_loc (L' := [some _, some _, some _, some _, some _, some _, some _, some _, some _, some _]) (lsub_same (lsub_same (lsub_same (lsub_same (lsub_same (lsub_same (lsub_same (lsub_same (lsub_same (lsub_same lsub_nil)))))))))) ?_
                exact ct125 _ _  (by first | assumption | omega | decide) (by first | assumption | omega | decide) (by first | assumption | omega | decide) (by first | assumption | omega | decide) (by exact i93_2) (by exact rv)
              · have hp1 := ho1 (by omega)
                refine Z_aload_n (n := 100) dX4_gives_99 rfl rfl ?_
                refine Z_getA (n := 103) dX4_gives_100 rfl ffX4_25 rfl rfl ?_
                refine Z_aload_n (n := 104) dX4_gives_103 rfl rfl ?_
                refine Z_getA (n := 107) dX4_gives_104 rfl ffX4_19 rfl rfl ?_
                refine Z_iconst (n := 108) dX4_gives_107 rfl (by decide) ?_
                refine Z_iload (n := 110) dX4_gives_108 rfl rfl ?_
                refine Z_imul (n := 111) dX4_gives_110 rfl (by omega) ?_
                refine Z_iconst (n := 112) dX4_gives_111 rfl (by decide) ?_
                refine Z_iadd (n := 113) dX4_gives_112 rfl (by omega) ?_
                refine Z_iald (n := 114) dX4_gives_113 rfl rfl rfl (by first | decide | assumption) (by omega) (by omega) (fun r113 s113 => ?_)
                refine Z_zald (n := 115) dX4_gives_114 rfl rfl rfl (by first | decide | assumption) (by omega) (by omega) (fun r114 s114 => ?_)
                refine Z_if_eq (n := 118) (t := 122) dX4_gives_115 rfl (by decide) (fun c115 => ?_) (fun c115 => ?_)
                · have rv : (0 : Int) = (if 1 < opF (M28 34 (40 * net + g)) then M28 37 (M28 35 (3 * (40 * net + g) + 1)) else 0) := by
                    by_cases w : 1 < opF (M28 34 (40 * net + g))
                    · rw [if_pos w]; first | omega | (exfalso; omega)
                    · rw [if_neg w]
                  refine Z_iconst (n := 123) dX4_gives_122 rfl (by decide) ?_
                  refine Z_istore (L' := [_, _, _, _, _, _, _, _, _, _]) (n := 125) dX4_gives_123 rfl (by decide) rfl rfl ?_
                  refine Z_loc (L' := [some _, some _, some _, some _, some _, some _, some _, some _, some _, some _]) (lsub_same (lsub_same (lsub_same (lsub_same (lsub_same (lsub_same (lsub_same (lsub_same (lsub_same (lsub_same lsub_nil)))))))))) ?_
                  exact ct125 _ _  (by first | assumption | omega | decide) (by first | assumption | omega | decide) (by first | assumption | omega | decide) (by first | assumption | omega | decide) (by exact i93_2) (by exact rv)
                · have rv : (1 : Int) = (if 1 < opF (M28 34 (40 * net + g)) then M28 37 (M28 35 (3 * (40 * net + g) + 1)) else 0) := by rw [if_pos (by omega)]; omega
                  refine Z_iconst (n := 119) dX4_gives_118 rfl (by decide) ?_
                  refine Z_goto (t := 123) dX4_gives_119 (by decide) ?_
                  refine Z_istore (L' := [_, _, _, _, _, _, _, _, _, _]) (n := 125) dX4_gives_123 rfl (by decide) rfl rfl ?_
                  refine Z_loc (L' := [some _, some _, some _, some _, some _, some _, some _, some _, some _, some _]) (lsub_same (lsub_same (lsub_same (lsub_same (lsub_same (lsub_same (lsub_same (lsub_same (lsub_same (lsub_same lsub_nil)))))))))) ?_
                  exact ct125 _ _  (by first | assumption | omega | decide) (by first | assumption | omega | decide) (by first | assumption | omega | decide) (by first | assumption | omega | decide) (by exact i93_2) (by exact rv)
            refine Z_istore (L' := [_, _, _, _, _, _, _, _, _, _]) (n := 64) dX4_gives_62 rfl (by decide) rfl rfl ?_
            refine Z_iload (n := 66) dX4_gives_64 rfl rfl ?_
            refine Z_if_le (n := 69) (t := 90) dX4_gives_66 rfl (by decide) (fun c66 => ?_) (fun c66 => ?_)
            · have pv : (0 : Int) = (if 0 < opF (M28 34 (40 * net + g)) then M28 37 (M28 35 (3 * (40 * net + g))) else 0) := by
                by_cases w : 0 < opF (M28 34 (40 * net + g))
                · rw [if_pos w]; first | omega | (exfalso; omega)
                · rw [if_neg w]
              refine Z_iconst (n := 91) dX4_gives_90 rfl (by decide) ?_
              refine Z_istore (L' := [_, _, _, _, _, _, _, _, _, _]) (n := 93) dX4_gives_91 rfl (by decide) rfl rfl ?_
              refine Z_loc (L' := [some _, some _, some _, some _, some _, some _, some _, some _, some _, none]) (lsub_same (lsub_same (lsub_same (lsub_same (lsub_same (lsub_same (lsub_same (lsub_same (lsub_same (lsub_none lsub_nil)))))))))) ?_
              exact ct93 _  (by first | assumption | omega | decide) (by first | assumption | omega | decide) (by exact pv)
            · have hp0 := ho0 (by omega)
              refine Z_aload_n (n := 70) dX4_gives_69 rfl rfl ?_
              refine Z_getA (n := 73) dX4_gives_70 rfl ffX4_25 rfl rfl ?_
              refine Z_aload_n (n := 74) dX4_gives_73 rfl rfl ?_
              refine Z_getA (n := 77) dX4_gives_74 rfl ffX4_19 rfl rfl ?_
              refine Z_iconst (n := 78) dX4_gives_77 rfl (by decide) ?_
              refine Z_iload (n := 80) dX4_gives_78 rfl rfl ?_
              refine Z_imul (n := 81) dX4_gives_80 rfl (by omega) ?_
              refine Z_iald (n := 82) dX4_gives_81 rfl rfl rfl (by first | decide | assumption) (by omega) (by omega) (fun r81 s81 => ?_)
              refine Z_zald (n := 83) dX4_gives_82 rfl rfl rfl (by first | decide | assumption) (by omega) (by omega) (fun r82 s82 => ?_)
              refine Z_if_eq (n := 86) (t := 90) dX4_gives_83 rfl (by decide) (fun c83 => ?_) (fun c83 => ?_)
              · have pv : (0 : Int) = (if 0 < opF (M28 34 (40 * net + g)) then M28 37 (M28 35 (3 * (40 * net + g))) else 0) := by
                  by_cases w : 0 < opF (M28 34 (40 * net + g))
                  · rw [if_pos w]; first | omega | (exfalso; omega)
                  · rw [if_neg w]
                refine Z_iconst (n := 91) dX4_gives_90 rfl (by decide) ?_
                refine Z_istore (L' := [_, _, _, _, _, _, _, _, _, _]) (n := 93) dX4_gives_91 rfl (by decide) rfl rfl ?_
                refine Z_loc (L' := [some _, some _, some _, some _, some _, some _, some _, some _, some _, none]) (lsub_same (lsub_same (lsub_same (lsub_same (lsub_same (lsub_same (lsub_same (lsub_same (lsub_same (lsub_none lsub_nil)))))))))) ?_
                exact ct93 _  (by first | assumption | omega | decide) (by first | assumption | omega | decide) (by exact pv)
              · have pv : (1 : Int) = (if 0 < opF (M28 34 (40 * net + g)) then M28 37 (M28 35 (3 * (40 * net + g))) else 0) := by rw [if_pos (by omega)]; omega
                refine Z_iconst (n := 87) dX4_gives_86 rfl (by decide) ?_
                refine Z_goto (t := 91) dX4_gives_87 (by decide) ?_
                refine Z_istore (L' := [_, _, _, _, _, _, _, _, _, _]) (n := 93) dX4_gives_91 rfl (by decide) rfl rfl ?_
                refine Z_loc (L' := [some _, some _, some _, some _, some _, some _, some _, some _, some _, none]) (lsub_same (lsub_same (lsub_same (lsub_same (lsub_same (lsub_same (lsub_same (lsub_same (lsub_same (lsub_none lsub_nil)))))))))) ?_
                exact ct93 _  (by first | assumption | omega | decide) (by first | assumption | omega | decide) (by exact pv)
      refine Z_loc (L' := [some _, some _, some _, some _, some _, none, none, none, none, none]) (lsub_same (lsub_same (lsub_same (lsub_same (lsub_same (lsub_none (lsub_none (lsub_none (lsub_none (lsub_none lsub_nil)))))))))) ?_
      exact lp28 _ _ _ _ (Nat.lt_succ_self _) (by rfl) (by first | assumption | omega | decide) (by first | assumption | omega | decide) (by exact fun q q0 q1 => by omega)
    · refine Z_bipush (n := 24) dX4_gives_22 rfl (by decide) (by decide) ?_
      refine Z_iret dX4_gives_24 rfl ?_
      exact ⟨rfl, Or.inr (Or.inr (Or.inl ⟨by omega, by omega, by omega, by omega, by omega, rfl⟩))⟩
  · refine Z_iconst (n := 10) dX4_gives_9 rfl (by decide) ?_
    refine Z_iret dX4_gives_10 rfl ?_
    refine ⟨rfl, ?_⟩
    first
      | exact Or.inl ⟨by omega, rfl⟩
      | (by_cases w : 0 ≤ net ∧ net < 3
         · exact Or.inr (Or.inl ⟨by omega, by omega, by omega, rfl⟩)
         · exact Or.inl ⟨by omega, rfl⟩)
theorem gv_eq {M M1 : zM} {J : zJ} {net o a x y : Int} (h : LI M J) (hok : zOK M) (h1 : gvQ M net o a x) (h2 : gvR M1 net o a y) (fr : ∀ b : Nat, 31 < b → b < 37 → M1 b = M b) : x = y := by
  unfold gvR at h2
  rw [fr 32 (by decide) (by decide), fr 33 (by decide) (by decide), fr 34 (by decide) (by decide), fr 35 (by decide) (by decide), fr 36 (by decide) (by decide)] at h2
  by_cases hn : 0 ≤ net ∧ net < 3
  · obtain ⟨n0, n1⟩ := hn
    obtain ⟨s4, s5, s6, s7⟩ := h.2.2 net n0 n1
    rcases h1 with ⟨q, -⟩ | ⟨-, -, q, hx⟩ | ⟨-, -, q1, q2, q3, hx⟩ | ⟨-, -, q1, q2, q3, q4, v, hv, hx⟩
    · omega
    · rcases h2 with ⟨z, -⟩ | ⟨-, -, z, hy⟩ | ⟨-, -, z1, z2, -⟩ | ⟨-, -, z1, z2, -⟩
      · omega
      · omega
      · omega
      · omega
    · rcases h2 with ⟨z, -⟩ | ⟨-, -, z, hy⟩ | ⟨-, -, z1, z2, z3, hy⟩ | ⟨-, -, z1, z2, z3, z4, -⟩
      · omega
      · omega
      · omega
      · omega
    · rcases h2 with ⟨z, -⟩ | ⟨-, -, z, hy⟩ | ⟨-, -, z1, z2, z3, hy⟩ | ⟨-, -, z1, z2, z3, z4, w, hw, hy⟩
      · omega
      · omega
      · omega
      · have e := s7 o q1 (by omega)
        have hk := (cI_net h.1 (nA_at n0 n1)).2 o q1 q2
        rw [hx, hy, ← e]
        refine (VS_uniq hv hw (m := M (nA net + 3) o + 1) (Int.le_refl _) (by omega) (fun g a b => ?_) (fun g a b => ?_) (fun g a b c c0 c1 => ?_) _ hk.1 (by omega)).symm
        · have z := hok (nA net + 1) g
          rw [nT1 (nA_at n0 n1)] at z
          exact z
        · have t := s6 g a (by omega)
          exact ⟨t.1.symm, fun c c0 c1 => (t.2 c c0 c1).symm⟩
        · exact ((cI_net h.1 (nA_at n0 n1)).1 g a (by omega)).1 c c0 c1
  · rcases h1 with ⟨-, hx⟩ | ⟨a, b, -⟩ | ⟨a, b, -⟩ | ⟨a, b, -⟩
    · rcases h2 with ⟨-, hy⟩ | ⟨a, b, -⟩ | ⟨a, b, -⟩ | ⟨a, b, -⟩
      · omega
      · exact absurd ⟨a, b⟩ hn
      · exact absurd ⟨a, b⟩ hn
      · exact absurd ⟨a, b⟩ hn
    · exact absurd ⟨a, b⟩ hn
    · exact absurd ⟨a, b⟩ hn
    · exact absurd ⟨a, b⟩ hn
