/-! ===== the reference: equal, gives ===== -/
theorem TI_cg {M M' : zM} {J J' : zJ} (h : TI M J) (o : ∀ a : Nat, 43 ≤ a → a ≤ 52 → M' a = M a) (e23 : M' 31 23 = M 31 23) (e24 : M' 31 24 = M 31 24) (e27 : M' 31 27 = M 31 27) (j44 : J' 44 = J 44) (j48 : J' 48 = J 48) : TI M' J' := by
  have e43 := o 43 (by omega) (by omega)
  have e45 := o 45 (by omega) (by omega)
  have e46 := o 46 (by omega) (by omega)
  have e47 := o 47 (by omega) (by omega)
  have e49 := o 49 (by omega) (by omega)
  have e50 := o 50 (by omega) (by omega)
  have e51 := o 51 (by omega) (by omega)
  have e52 := o 52 (by omega) (by omega)
  obtain ⟨⟨ch, fl, t1⟩, t2, t3, t4, tu⟩ := h
  refine ⟨⟨ch, fl, ?_⟩, ⟨fun n n0 n1 => ?_, fun g g0 g1 => ?_⟩, fun g g0 g1 hg => ?_, fun n n0 n1 => ?_, tabU_mv tu (fun m hm => by rw [e49] at hm; exact hm) e47 j48⟩
  · refine tabA_J j48 ?_
    unfold tabA
    rw [e47, e49, e50, e51, e23, e24]
    exact t1
  · rw [e49, t2.1 n n0 n1]
    exact cfn_congr (fun g _ _ => by unfold inS; rw [e43, e45, e46])
  · rw [e43, e45, e46]; exact t2.2 g g0 g1
  · rw [e43] at hg
    exact tabC_mv (t3 g g0 g1 hg) (by rw [e45]) e46 e47 j48 j44
  · rw [e52, e27]; exact t4 n n0 n1
theorem hdl_31 {M M1 : zM} {j v : Int} (h : hdl M M1) (hj : j = 33 ∨ j = 34) : (∀ g : Int, g < 12 → uz M1 31 j v 45 g = M 45 g ∧ uz M1 31 j v 43 g = M 43 g) ∧ uz M1 31 j v 31 8 = M 31 8 := by
  refine ⟨fun g hg => by rw [uz_oo (by decide), uz_oo (by decide)]; exact h.1 g hg, ?_⟩
  rw [uz_n (by omega)]
  exact h.2.2 8 (by decide) (by decide) (by decide) (by decide)
set_option maxRecDepth 20000 in
theorem zX4_equal_s {G : tl_G} {M : zM} {J : zJ} {net oth : Int} (hr : RI M J) (hk : M 31 27 ≤ 2000000000) : ZN G yX4_equal mX4_equal 6 kRg [vR 31, vI net, vI oth] F1 M J (qI (fun x M' J' => RI M' J' ∧ M' 31 27 ≤ M 31 27 + 400)) := by
  refine ZN_of (L := [_, _, _, _, _, _, _, _]) (by decide) rfl rfl (Nat.le_of_ble_eq_true rfl) rfl (fun hav => ?_)
  refine Z_ok (fun ok0 => ?_)
  refine Z_iload_n (n := 1) dX4_equal_0 rfl rfl ?_
  refine Z_callSi (n := 4) [_] _ dX4_equal_1 rfl cwX4_116 rfl rfl (Nat.le_of_ble_eq_true rfl) (by refine ⟨?_, ?_, ?_, ?_⟩ <;> exact Nat.le_of_ble_eq_true rfl) (fun _ _ => trivial) (zX4_isNet  ) ?_
  intro x1 M1 J1 z1 f1 q1
  obtain ⟨e1_1, e1_2, h1⟩ := q1
  replace e1_1 := e1_1.symm; subst e1_1
  replace e1_2 := e1_2.symm; subst e1_2
  refine Z_if_eq (n := 7) (t := 14) dX4_equal_4 rfl (by decide) (fun c4 => ?_) (fun c4 => ?_)
  · refine Z_iconst (n := 15) dX4_equal_14 rfl (by decide) ?_
    refine Z_iret dX4_equal_15 rfl ?_
    exact ⟨hr, by omega⟩
  · refine Z_iload_n (n := 8) dX4_equal_7 rfl rfl ?_
    refine Z_callSi (n := 11) [_] _ dX4_equal_8 rfl cwX4_116 rfl rfl (Nat.le_of_ble_eq_true rfl) (by refine ⟨?_, ?_, ?_, ?_⟩ <;> exact Nat.le_of_ble_eq_true rfl) (fun _ _ => trivial) (zX4_isNet  ) ?_
    intro x8 M8 J8 z8 f8 q8
    obtain ⟨e8_1, e8_2, h8⟩ := q8
    replace e8_1 := e8_1.symm; subst e8_1
    replace e8_2 := e8_2.symm; subst e8_2
    refine Z_if_ne (n := 14) (t := 16) dX4_equal_11 rfl (by decide) (fun c11 => ?_) (fun c11 => ?_)
    · refine Z_aload_n (n := 17) dX4_equal_16 rfl rfl ?_
      refine Z_getA (n := 20) dX4_equal_17 rfl ffX4_13 rfl rfl ?_
      refine Z_iload_n (n := 21) dX4_equal_20 rfl rfl ?_
      refine Z_iald (n := 22) dX4_equal_21 rfl rfl rfl (by first | decide | assumption) (by omega) (by omega) (fun r21 s21 => ?_)
      refine Z_aload_n (n := 23) dX4_equal_22 rfl rfl ?_
      refine Z_getA (n := 26) dX4_equal_23 rfl ffX4_13 rfl rfl ?_
      refine Z_iload_n (n := 27) dX4_equal_26 rfl rfl ?_
      refine Z_iald (n := 28) dX4_equal_27 rfl rfl rfl (by first | decide | assumption) (by omega) (by omega) (fun r27 s27 => ?_)
      refine Z_icmp_eq (n := 31) (t := 34) dX4_equal_28 rfl (by decide) (fun c28 => ?_) (fun c28 => ?_)
      · refine Z_rg 33 net rfl (fun g33 g33b => ?_)
        refine Z_rg 33 oth rfl (fun o33 o33b => ?_)
        refine Z_aload_n (n := 35) dX4_equal_34 rfl rfl ?_
        refine Z_getA (n := 38) dX4_equal_35 rfl ffX4_13 rfl rfl ?_
        refine Z_iload_n (n := 39) dX4_equal_38 rfl rfl ?_
        refine Z_iald (n := 40) dX4_equal_39 rfl rfl rfl (by first | decide | assumption) (by omega) (by omega) (fun r39 s39 => ?_)
        refine Z_if_le (n := 43) (t := 47) dX4_equal_40 rfl (by decide) (fun c40 => ?_) (fun c40 => ?_)
        · have t49 := hr.1
          have d49 := hdl_0 (M := M)
          have m49 : M 31 27 ≤ M 31 27 + 82 * 0 := by omega
          have h49 := hr.2.1
          refine Z_iconst (n := 48) dX4_equal_47 rfl (by decide) ?_
          refine Z_istore_n (L' := [_, _, _, _, _, _, _, _]) (n := 49) dX4_equal_48 rfl (by decide) rfl rfl ?_
          have lp49 : ∀ (N49 : Nat) (o : Int) (M49 : zM) (J49 : zJ), ((4 - o).toNat) < N49 → (0 ≤ o) → (o ≤ 4) → (TI M49 J49) → (hdl M M49) → (M49 31 27 ≤ M 31 27 + 82 * o) → (hnd0 M49) → TZ G mX4_equal (tl_rm 6 0 0) 0 0 kRg M J 49 [some (vR 31), some (vI net), some (vI oth), some (vI o), none, none, none, none] [] F1 M49 J49 (ZM G (zPost G kRg F1 M J (qI (fun x M' J' => RI M' J' ∧ M' 31 27 ≤ M 31 27 + 400))) 0 0) := by
            intro N49
            induction N49 with
            | zero => intro o M49 J49 hN; omega
            | succ N49 ih49 =>
              intro o M49 J49 hN49 i49_0 i49_1 i49_2 i49_3 i49_4 i49_5
              refine Z_iload_n (n := 50) dX4_equal_49 rfl rfl ?_
              refine Z_aload_n (n := 51) dX4_equal_50 rfl rfl ?_
              refine Z_getA (n := 54) dX4_equal_51 rfl ffX4_13 rfl rfl ?_
              refine Z_iload_n (n := 55) dX4_equal_54 rfl rfl ?_
              refine Z_iald (n := 56) dX4_equal_55 rfl rfl rfl (by first | decide | assumption) (by omega) (by omega) (fun r55 s55 => ?_)
              refine Z_icmp_ge (n := 59) (t := 212) dX4_equal_56 rfl (by decide) (fun c56 => ?_) (fun c56 => ?_)
              · refine Z_iconst (n := 213) dX4_equal_212 rfl (by decide) ?_
                refine Z_fr (fun frR => ?_)
                refine Z_iret dX4_equal_213 rfl ?_
                have u49 : M49 31 24 = M 31 24 := use_det hr.1 i49_2 hr.2.1 i49_5 i49_3 ok0
                have r49 : M49 31 8 = M 31 8 := i49_3.2.2 8 (by decide) (by decide) (by decide) (by decide)
                have u0 := hr.2.2.1
                exact ⟨RI_mk hr frR i49_2 i49_5 (by omega), by omega⟩
              · have ct172 : ∀ (a b y p : Int) (M172 : zM) (J172 : zJ), (TI M172 J172) → (hdl M M172) → (M172 31 27 ≤ M 31 27 + (82 * o + 82)) → TZ G mX4_equal (tl_rm 6 0 0) 0 0 kRg M J 172 [some (vR 31), some (vI net), some (vI oth), some (vI o), some (vI a), some (vI b), some (vI y), some (vI p)] [] F1 M172 J172 (ZM G (zPost G kRg F1 M J (qI (fun x M' J' => RI M' J' ∧ M' 31 27 ≤ M 31 27 + 400))) 0 0) := by
                  intro a b y p M172 J172 i172_0 i172_1 i172_2
                  refine Z_aload_n (n := 173) dX4_equal_172 rfl rfl ?_
                  refine Z_callVv (n := 176) [] _ dX4_equal_173 rfl cwX4_185 rfl rfl rfl (Nat.le_of_ble_eq_true rfl) (by refine ⟨?_, ?_, ?_, ?_⟩ <;> exact Nat.le_of_ble_eq_true rfl) (fun a h => by unfold kRg at h; unfold kRv; omega) (zX4_clearHand  (by exact i172_0)) ?_
                  intro M173 J173 f173 q173
                  obtain ⟨ti173, hn173, am173, au173, hd173⟩ := q173
                  have hd2 := hdl_t i172_1 hd173
                  have u173 : M173 31 24 = M 31 24 := use_det hr.1 ti173 hr.2.1 hn173 hd2 ok0
                  have r173 : M173 31 8 = M 31 8 := hd2.2.2 8 (by decide) (by decide) (by decide) (by decide)
                  have u0 := hr.2.2.1
                  refine Z_iload (n := 178) dX4_equal_176 rfl rfl ?_
                  refine Z_if_ne (n := 181) (t := 184) dX4_equal_178 rfl (by decide) (fun c178 => ?_) (fun c178 => ?_)
                  · refine Z_iload (n := 186) dX4_equal_184 rfl rfl ?_
                    refine Z_if_lt (n := 189) (t := 206) dX4_equal_186 rfl (by decide) (fun c186 => ?_) (fun c186 => ?_)
                    · refine Z_iinc (L' := [_, _, _, _, _, _, _, _]) (n := 209) dX4_equal_206 rfl rfl (by decide) rfl rfl (by omega) rfl ?_
                      refine Z_goto (t := 49) dX4_equal_209 (by decide) ?_
                      refine Z_loc (L' := [some _, some _, some _, some _, none, none, none, none]) (lsub_same (lsub_same (lsub_same (lsub_same (lsub_none (lsub_none (lsub_none (lsub_none lsub_nil)))))))) ?_
                      exact ih49 _ _ _ (by omega) (by first | assumption | omega | decide) (by first | assumption | omega | decide) (by exact ti173) (by exact hd2) (by omega) (by exact hn173)
                    · refine Z_aload_n (n := 190) dX4_equal_189 rfl rfl ?_
                      refine Z_iload_n (n := 191) dX4_equal_190 rfl rfl ?_
                      refine Z_putI (n := 194) (ki := 33) dX4_equal_191 rfl ffX4_106 rfl (by decide) rfl rfl (by first | omega | exact (show zI o from by omega).1) (by first | omega | exact (show zI o from by omega).1) (by decide) ?_
                      refine Z_aload_n (n := 195) dX4_equal_194 rfl rfl ?_
                      refine Z_aload_n (n := 196) dX4_equal_195 rfl rfl ?_
                      refine Z_iload (n := 198) dX4_equal_196 rfl rfl ?_
                      refine Z_callVi (n := 201) [_] _ dX4_equal_198 rfl cwX4_250 rfl rfl rfl (Nat.le_of_ble_eq_true rfl) (by refine ⟨?_, ?_, ?_, ?_⟩ <;> exact Nat.le_of_ble_eq_true rfl) (fun _ _ => trivial) (zX4_assignmentAt  ) ?_
                      intro x198 M198 J198 z198 f198 q198
                      obtain ⟨e198_1, e198_2, h198⟩ := q198
                      replace e198_1 := e198_1.symm; subst e198_1
                      replace e198_2 := e198_2.symm; subst e198_2
                      refine Z_putI (n := 204) (ki := 34) dX4_equal_201 rfl ffX4_109 rfl (by decide) rfl rfl (by first | exact z198.1 | exact z198.2) (by first | exact z198.1 | exact z198.2) (by decide) ?_
                      refine Z_iconst (n := 205) dX4_equal_204 rfl (by decide) ?_
                      refine Z_fr (fun frR => ?_)
                      refine Z_iret dX4_equal_205 rfl ?_
                      exact ⟨RI_mk hr frR (TI_31 (TI_31 ti173 (by decide) (by decide) (by decide)) (by decide) (by decide) (by decide)) (fun g a b => by rw [uz_oo (by decide), uz_oo (by decide)]; exact hn173 g a b) (by rw [uz_n (by decide), uz_n (by decide), uz_n (by decide), uz_n (by decide)]; omega), by rw [uz_n (by decide), uz_n (by decide)]; omega⟩
                  · refine Z_bipush (n := 183) dX4_equal_181 rfl (by decide) (by decide) ?_
                    refine Z_fr (fun frR => ?_)
                    refine Z_iret dX4_equal_183 rfl ?_
                    exact ⟨RI_mk hr frR ti173 hn173 (by omega), by omega⟩
                have ct154 : ∀ (a b y : Int) (M154 : zM) (J154 : zJ), (TI M154 J154) → (hdl M M154) → (M154 31 27 ≤ M 31 27 + (82 * o + 82)) → TZ G mX4_equal (tl_rm 6 0 0) 0 0 kRg M J 154 [some (vR 31), some (vI net), some (vI oth), some (vI o), some (vI a), some (vI b), some (vI y), none] [] F1 M154 J154 (ZM G (zPost G kRg F1 M J (qI (fun x M' J' => RI M' J' ∧ M' 31 27 ≤ M 31 27 + 400))) 0 0) := by
                  intro a b y M154 J154 i154_0 i154_1 i154_2
                  refine Z_iload (n := 156) dX4_equal_154 rfl rfl ?_
                  refine Z_if_eq (n := 159) (t := 169) dX4_equal_156 rfl (by decide) (fun c156 => ?_) (fun c156 => ?_)
                  · have q0 := i154_0
                    have q1 := i154_1
                    refine Z_iconst (n := 170) dX4_equal_169 rfl (by decide) ?_
                    refine Z_istore (L' := [_, _, _, _, _, _, _, _]) (n := 172) dX4_equal_170 rfl (by decide) rfl rfl ?_
                    refine Z_loc (L' := [some _, some _, some _, some _, some _, some _, some _, some _]) (lsub_same (lsub_same (lsub_same (lsub_same (lsub_same (lsub_same (lsub_same (lsub_same lsub_nil)))))))) ?_
                    exact ct172 _ _ _ _ _ _ (by assumption) (by assumption) (by omega)
                  · have q0 := i154_0
                    have q1 := i154_1
                    refine Z_aload_n (n := 160) dX4_equal_159 rfl rfl ?_
                    refine Z_bipush (n := 162) dX4_equal_160 rfl (by decide) (by decide) ?_
                    refine Z_iconst (n := 163) dX4_equal_162 rfl (by decide) ?_
                    refine Z_callVi (n := 166) [_, _] _ dX4_equal_163 rfl cwX4_246 rfl rfl rfl (Nat.le_of_ble_eq_true rfl) (by refine ⟨?_, ?_, ?_, ?_⟩ <;> exact Nat.le_of_ble_eq_true rfl) (fun _ _ => trivial) (zX4_leastOf  (by omega) (by omega)) ?_
                    intro x163 M163 J163 z163 f163 q163
                    obtain ⟨e163_1, e163_2, h163⟩ := q163
                    replace e163_1 := e163_1.symm; subst e163_1
                    replace e163_2 := e163_2.symm; subst e163_2
                    refine Z_goto (t := 170) dX4_equal_166 (by decide) ?_
                    refine Z_istore (L' := [_, _, _, _, _, _, _, _]) (n := 172) dX4_equal_170 rfl (by decide) rfl rfl ?_
                    refine Z_loc (L' := [some _, some _, some _, some _, some _, some _, some _, some _]) (lsub_same (lsub_same (lsub_same (lsub_same (lsub_same (lsub_same (lsub_same (lsub_same lsub_nil)))))))) ?_
                    exact ct172 _ _ _ _ _ _ (by assumption) (by assumption) (by omega)
                have ct126 : ∀ (a b y : Int) (M126 : zM) (J126 : zJ), (TI M126 J126) → (hdl M M126) → (M126 31 27 ≤ M 31 27 + (82 * o + 81)) → (0 ≤ b ∧ b < 40) → (y = 0 ∨ (M126 43 55 = 0 ∧ M126 31 24 ≤ M126 31 8)) → TZ G mX4_equal (tl_rm 6 0 0) 0 0 kRg M J 126 [some (vR 31), some (vI net), some (vI oth), some (vI o), some (vI a), some (vI b), some (vI y), none] [] F1 M126 J126 (ZM G (zPost G kRg F1 M J (qI (fun x M' J' => RI M' J' ∧ M' 31 27 ≤ M 31 27 + 400))) 0 0) := by
                  intro a b y M126 J126 i126_0 i126_1 i126_2 i126_3 i126_4
                  
                  refine Z_iload (n := 128) dX4_equal_126 rfl rfl ?_
                  refine Z_if_eq (n := 131) (t := 154) dX4_equal_128 rfl (by decide) (fun c128 => ?_) (fun c128 => ?_)
                  · have q0 := i126_0
                    have q1 := i126_1
                    refine Z_loc (L' := [some _, some _, some _, some _, some _, some _, some _, none]) (lsub_same (lsub_same (lsub_same (lsub_same (lsub_same (lsub_same (lsub_same (lsub_none lsub_nil)))))))) ?_
                    exact ct154 _ _ _ _ _ (by exact q0) (by exact q1) (by omega)
                  · have hy := i126_4.resolve_left c128
                    have hyb := hy.2
                    refine Z_rg 31 8 rfl (fun g8d g8db => ?_)
                    refine Z_aload_n (n := 132) dX4_equal_131 rfl rfl ?_
                    refine Z_bipush (n := 134) dX4_equal_132 rfl (by decide) (by decide) ?_
                    refine Z_bipush (n := 136) dX4_equal_134 rfl (by decide) (by decide) ?_
                    refine Z_bipush (n := 138) dX4_equal_136 rfl (by decide) (by decide) ?_
                    refine Z_bipush (n := 140) dX4_equal_138 rfl (by decide) (by decide) ?_
                    refine Z_iload (n := 142) dX4_equal_140 rfl rfl ?_
                    refine Z_iadd (n := 143) dX4_equal_142 rfl (by omega) ?_
                    refine Z_callVv (n := 146) [_, _, _, _] _ dX4_equal_143 rfl cwX4_204 rfl rfl rfl (Nat.le_of_ble_eq_true rfl) (by refine ⟨?_, ?_, ?_, ?_⟩ <;> exact Nat.le_of_ble_eq_true rfl) (fun a h => by unfold kRg at h; unfold kBits; omega) (zX4_makeOf  (by omega) (by omega) (by omega) (by omega) (by omega) (by omega)) ?_
                    intro M143 J143 f143 q143
                    obtain ⟨e143_1, mo143, mb143, vo143⟩ := q143
                    replace e143_1 := e143_1.symm; subst e143_1
                    refine Z_aload_n (n := 147) dX4_equal_146 rfl rfl ?_
                    refine Z_bipush (n := 149) dX4_equal_147 rfl (by decide) (by decide) ?_
                    refine Z_callVi (n := 152) [_] _ dX4_equal_149 rfl cwX4_207 rfl rfl rfl (Nat.le_of_ble_eq_true rfl) (by refine ⟨?_, ?_, ?_, ?_⟩ <;> exact Nat.le_of_ble_eq_true rfl) (fun a h => by unfold kRg at h; unfold kAd; omega) (zX4_steps  (by omega) (by omega) (by exact TI_bits i126_0 hy.1 (f143 48 (by decide)).2 vo143) (by exact hy.1) (by omega) (by omega)) ?_
                    intro x149 M149 J149 z149 f149 q149
                    obtain ⟨ti149, ah149, am149, au149, af149, xs149⟩ := q149
                    have q0 := ti149
                    have q1 := hdl_t i126_1 (hdl_a af149 (by decide))
                    refine Z_istore (L' := [_, _, _, _, _, _, _, _]) (n := 154) dX4_equal_152 rfl (by decide) rfl rfl ?_
                    refine Z_loc (L' := [some _, some _, some _, some _, some _, some _, some _, none]) (lsub_same (lsub_same (lsub_same (lsub_same (lsub_same (lsub_same (lsub_same (lsub_none lsub_nil)))))))) ?_
                    exact ct154 _ _ _ _ _ (by exact q0) (by exact q1) (by omega)
                refine Z_fr (fun fr49 => ?_)
                refine Z_rg 31 8 rfl (fun g8 g8b => ?_)
                have e33n : M49 33 net = M 33 net := congrFun (fr49 33 (by decide)).1 net
                have e33o : M49 33 oth = M 33 oth := congrFun (fr49 33 (by decide)).1 oth
                have u49 : M49 31 24 = M 31 24 := use_det hr.1 i49_2 hr.2.1 i49_5 i49_3 ok0
                have r49 : M49 31 8 = M 31 8 := i49_3.2.2 8 (by decide) (by decide) (by decide) (by decide)
                have u0 := hr.2.2.1
                have hN1 : rNt M49 net := rNt_fr (hr.2.2.2.2 net (by omega) (by omega)) (fr49 32 (by decide)).1 (fr49 33 (by decide)).1 (fr49 34 (by decide)).1 (fr49 35 (by decide)).1 (fr49 36 (by decide)).1
                have hN2z : rNt M49 oth := rNt_fr (hr.2.2.2.2 oth (by omega) (by omega)) (fr49 32 (by decide)).1 (fr49 33 (by decide)).1 (fr49 34 (by decide)).1 (fr49 35 (by decide)).1 (fr49 36 (by decide)).1
                have ha1 := hN1.2 o (by omega) (by omega)
                have hb1z := hN2z.2 o (by omega) (by omega)
                refine Z_aload_n (n := 60) dX4_equal_59 rfl rfl ?_
                refine Z_getA (n := 63) dX4_equal_60 rfl ffX4_22 rfl rfl ?_
                refine Z_iconst (n := 64) dX4_equal_63 rfl (by decide) ?_
                refine Z_iload_n (n := 65) dX4_equal_64 rfl rfl ?_
                refine Z_imul (n := 66) dX4_equal_65 rfl (by omega) ?_
                refine Z_iload_n (n := 67) dX4_equal_66 rfl rfl ?_
                refine Z_iadd (n := 68) dX4_equal_67 rfl (by omega) ?_
                refine Z_iald (n := 69) dX4_equal_68 rfl rfl rfl (by first | decide | assumption) (by omega) (by omega) (fun r68 s68 => ?_)
                refine Z_istore (L' := [_, _, _, _, _, _, _, _]) (n := 71) dX4_equal_69 rfl (by decide) rfl rfl ?_
                refine Z_aload_n (n := 72) dX4_equal_71 rfl rfl ?_
                refine Z_getA (n := 75) dX4_equal_72 rfl ffX4_22 rfl rfl ?_
                refine Z_iconst (n := 76) dX4_equal_75 rfl (by decide) ?_
                refine Z_iload_n (n := 77) dX4_equal_76 rfl rfl ?_
                refine Z_imul (n := 78) dX4_equal_77 rfl (by omega) ?_
                refine Z_iload_n (n := 79) dX4_equal_78 rfl rfl ?_
                refine Z_iadd (n := 80) dX4_equal_79 rfl (by omega) ?_
                refine Z_iald (n := 81) dX4_equal_80 rfl rfl rfl (by first | decide | assumption) (by omega) (by omega) (fun r80 s80 => ?_)
                refine Z_istore (L' := [_, _, _, _, _, _, _, _]) (n := 83) dX4_equal_81 rfl (by decide) rfl rfl ?_
                refine Z_rg 32 net rfl (fun g32 g32b => ?_)
                refine Z_rg 32 oth rfl (fun o32 o32b => ?_)
                refine Z_rg 36 (4 * net + o) rfl (fun g36 g36b => ?_)
                refine Z_rg 36 (4 * oth + o) rfl (fun o36 o36b => ?_)
                refine Z_aload_n (n := 84) dX4_equal_83 rfl rfl ?_
                refine Z_iload_n (n := 85) dX4_equal_84 rfl rfl ?_
                refine Z_iload (n := 87) dX4_equal_85 rfl rfl ?_
                refine Z_callVi (n := 90) [_, _] _ dX4_equal_87 rfl cwX4_216 rfl rfl rfl (Nat.le_of_ble_eq_true rfl) (by refine ⟨?_, ?_, ?_, ?_⟩ <;> exact Nat.le_of_ble_eq_true rfl) (fun _ h => h) (zX4_builds  (by omega) (by omega) (by omega) (by exact ha1) (by exact hN1) (by exact i49_2) (by exact fun y a b => i49_5 (12 + y) (by omega) (by omega)) (by omega) (by omega)) ?_
                intro x87 M87 J87 z87 f87 q87
                obtain ⟨ti87, hd87, mk87, hi87, bi87, bx87⟩ := q87
                refine Z_istore (L' := [_, _, _, _, _, _, _, _]) (n := 92) dX4_equal_90 rfl (by decide) rfl rfl ?_
                refine Z_iload (n := 94) dX4_equal_92 rfl rfl ?_
                refine Z_if_eq (n := 97) (t := 126) dX4_equal_94 rfl (by decide) (fun c94 => ?_) (fun c94 => ?_)
                · have q0 := ti87
                  have q1 := hdl_t i49_3 hd87
                  have q4 : x87 = 0 ∨ (M87 43 55 = 0 ∧ M87 31 24 ≤ M87 31 8) := Or.inl c94
                  refine Z_loc (L' := [some _, some _, some _, some _, some _, some _, some _, none]) (lsub_same (lsub_same (lsub_same (lsub_same (lsub_same (lsub_same (lsub_same (lsub_none lsub_nil)))))))) ?_
                  exact ct126 _ _ _ _ _ (by exact q0) (by exact q1) (by omega) (by omega) (by exact q4)
                · obtain ⟨-, b87⟩ := bx87.resolve_right (by omega)
                  clear bx87
                  refine Z_rg 31 8 rfl (fun g8c g8cb => ?_)
                  have b87a := b87.1
                  refine Z_aload_n (n := 98) dX4_equal_97 rfl rfl ?_
                  refine Z_bipush (n := 100) dX4_equal_98 rfl (by decide) (by decide) ?_
                  refine Z_iload (n := 102) dX4_equal_100 rfl rfl ?_
                  refine Z_iadd (n := 103) dX4_equal_102 rfl (by omega) ?_
                  refine Z_bipush (n := 105) dX4_equal_103 rfl (by decide) (by decide) ?_
                  refine Z_callVv (n := 108) [_, _] _ dX4_equal_105 rfl cwX4_182 rfl rfl rfl (Nat.le_of_ble_eq_true rfl) (by refine ⟨?_, ?_, ?_, ?_⟩ <;> exact Nat.le_of_ble_eq_true rfl) (fun a h => by unfold kRg at h; unfold kTk; omega) (zX4_take  (by omega) (by omega) (by omega) (by omega) (by omega) (by exact ti87) (by exact b87.2.1) (by omega) (by omega)) ?_
                  intro M105 J105 f105 q105
                  obtain ⟨ti105, ah105, am105, au105, af105, b1105, b2105⟩ := q105
                  
                  refine Z_aload_n (n := 109) dX4_equal_108 rfl rfl ?_
                  refine Z_bipush (n := 111) dX4_equal_109 rfl (by decide) (by decide) ?_
                  refine Z_iload (n := 113) dX4_equal_111 rfl rfl ?_
                  refine Z_iadd (n := 114) dX4_equal_113 rfl (by omega) ?_
                  refine Z_callVv (n := 117) [_] _ dX4_equal_114 rfl cwX4_179 rfl rfl rfl (Nat.le_of_ble_eq_true rfl) (by refine ⟨?_, ?_, ?_, ?_⟩ <;> exact Nat.le_of_ble_eq_true rfl) (fun a h => by unfold kRg at h; unfold kRv; omega) (zX4_remove  (by omega) (by omega) (by exact ti105)) ?_
                  intro M114 J114 f114 q114
                  obtain ⟨ti114, ah114, am114, au114, af114⟩ := q114
                  have hd114 : hdl M M114 := hdl_t i49_3 (hdl_t hd87 (hdl_t (hdl_a af105 (by decide)) (hdl_a af114 (by omega))))
                  have e114 : ∀ a : Nat, kRg a → M114 a = M87 a := fun a ha => ((f114 a (by unfold kRg at ha; unfold kRv; omega)).1).trans (f105 a (by unfold kRg at ha; unfold kTk; omega)).1
                  have hN2 : rNt M114 oth := rNt_fr hN2z ((e114 32 (by decide)).trans (f87 32 (by decide)).1) ((e114 33 (by decide)).trans (f87 33 (by decide)).1) ((e114 34 (by decide)).trans (f87 34 (by decide)).1) ((e114 35 (by decide)).trans (f87 35 (by decide)).1) ((e114 36 (by decide)).trans (f87 36 (by decide)).1)
                  have hb1 : M49 36 (4 * oth + o) < M114 32 oth := by rw [e114 32 (by decide), (f87 32 (by decide)).1]; exact hb1z
                  have hh114 : ∀ y : Int, 0 ≤ y → y < 40 → M114 43 (12 + y) = 0 := fun y a b => by
                    by_cases e : y = M49 36 (4 * net + o)
                    · rw [e]; exact ah114
                    · rw [(af114.1 _ (by omega)).2, (af105.1 _ (by omega)).2]; exact b87.2.2 y a b e
                  have h55 : M114 43 55 = 0 := by
                    rw [(af114.1 55 (by omega)).2, (af105.1 55 (by decide)).2, hi87 55 (by decide) (by decide)]
                    exact i49_5 55 (by decide) (by decide)
                  have r114 : M114 31 8 = M87 31 8 := (af114.2.2 8 (by decide) (by decide) (by decide) (by decide)).trans (af105.2.2 8 (by decide) (by decide) (by decide) (by decide))
                  refine Z_aload_n (n := 118) dX4_equal_117 rfl rfl ?_
                  refine Z_iload_n (n := 119) dX4_equal_118 rfl rfl ?_
                  refine Z_iload (n := 121) dX4_equal_119 rfl rfl ?_
                  refine Z_callVi (n := 124) [_, _] _ dX4_equal_121 rfl cwX4_216 rfl rfl rfl (Nat.le_of_ble_eq_true rfl) (by refine ⟨?_, ?_, ?_, ?_⟩ <;> exact Nat.le_of_ble_eq_true rfl) (fun _ h => h) (zX4_builds  (by omega) (by omega) (by omega) (by exact hb1) (by exact hN2) (by exact ti114) (by exact hh114) (by omega) (by omega)) ?_
                  intro x121 M121 J121 z121 f121 q121
                  obtain ⟨ti121, hd121, mk121, hi121, bi121, bx121⟩ := q121
                  have q0 := ti121
                  have q1 := hdl_t hd114 hd121
                  have q4 : x121 = 0 ∨ (M121 43 55 = 0 ∧ M121 31 24 ≤ M121 31 8) := by
                    rcases bx121 with ⟨-, a, -⟩ | a
                    · exact Or.inr ⟨(hi121 55 (by decide) (by decide)).trans h55, a⟩
                    · exact Or.inl a
                  clear bx121
                  refine Z_istore (L' := [_, _, _, _, _, _, _, _]) (n := 126) dX4_equal_124 rfl (by decide) rfl rfl ?_
                  refine Z_loc (L' := [some _, some _, some _, some _, some _, some _, some _, none]) (lsub_same (lsub_same (lsub_same (lsub_same (lsub_same (lsub_same (lsub_same (lsub_none lsub_nil)))))))) ?_
                  exact ct126 _ _ _ _ _ (by exact q0) (by exact q1) (by omega) (by omega) (by exact q4)
          refine Z_loc (L' := [some _, some _, some _, some _, none, none, none, none]) (lsub_same (lsub_same (lsub_same (lsub_same (lsub_none (lsub_none (lsub_none (lsub_none lsub_nil)))))))) ?_
          exact lp49 _ _ _ _ (Nat.lt_succ_self _) (by first | assumption | omega | decide) (by first | assumption | omega | decide) (by exact t49) (by exact d49) (by exact m49) (by exact h49)
        · refine Z_aload_n (n := 44) dX4_equal_43 rfl rfl ?_
          refine Z_callVv (n := 47) [] _ dX4_equal_44 rfl cwX4_213 rfl rfl rfl (Nat.le_of_ble_eq_true rfl) (by refine ⟨?_, ?_, ?_, ?_⟩ <;> exact Nat.le_of_ble_eq_true rfl) (fun _ h => h) (zX4_begin  (by decide)) ?_
          intro M44 J44 f44 q44
          obtain ⟨e44_1, e44_2⟩ := q44
          replace e44_1 := e44_1.symm; subst e44_1
          replace e44_2 := e44_2.symm; subst e44_2
          obtain ⟨tb, hb, ub, mb, db, ob⟩ := begin_ok hr
          refine Z_nm (fun M44 e44 => ?_)
          rw [← e44] at tb hb ub mb db ob
          clear e44
          refine Z_rg 31 8 rfl (fun gb8 gb8b => ?_)
          have t49 := tb
          have d49 := db
          have m49 : M44 31 27 ≤ M 31 27 + 82 * 0 := by omega
          have h49 := hb
          refine Z_iconst (n := 48) dX4_equal_47 rfl (by decide) ?_
          refine Z_istore_n (L' := [_, _, _, _, _, _, _, _]) (n := 49) dX4_equal_48 rfl (by decide) rfl rfl ?_
          have lp49 : ∀ (N49 : Nat) (o : Int) (M49 : zM) (J49 : zJ), ((4 - o).toNat) < N49 → (0 ≤ o) → (o ≤ 4) → (TI M49 J49) → (hdl M M49) → (M49 31 27 ≤ M 31 27 + 82 * o) → (hnd0 M49) → TZ G mX4_equal (tl_rm 6 0 0) 0 0 kRg M J 49 [some (vR 31), some (vI net), some (vI oth), some (vI o), none, none, none, none] [] F1 M49 J49 (ZM G (zPost G kRg F1 M J (qI (fun x M' J' => RI M' J' ∧ M' 31 27 ≤ M 31 27 + 400))) 0 0) := by
            intro N49
            induction N49 with
            | zero => intro o M49 J49 hN; omega
            | succ N49 ih49 =>
              intro o M49 J49 hN49 i49_0 i49_1 i49_2 i49_3 i49_4 i49_5
              refine Z_iload_n (n := 50) dX4_equal_49 rfl rfl ?_
              refine Z_aload_n (n := 51) dX4_equal_50 rfl rfl ?_
              refine Z_getA (n := 54) dX4_equal_51 rfl ffX4_13 rfl rfl ?_
              refine Z_iload_n (n := 55) dX4_equal_54 rfl rfl ?_
              refine Z_iald (n := 56) dX4_equal_55 rfl rfl rfl (by first | decide | assumption) (by omega) (by omega) (fun r55 s55 => ?_)
              refine Z_icmp_ge (n := 59) (t := 212) dX4_equal_56 rfl (by decide) (fun c56 => ?_) (fun c56 => ?_)
              · refine Z_iconst (n := 213) dX4_equal_212 rfl (by decide) ?_
                refine Z_fr (fun frR => ?_)
                refine Z_iret dX4_equal_213 rfl ?_
                have u49 : M49 31 24 = M 31 24 := use_det hr.1 i49_2 hr.2.1 i49_5 i49_3 ok0
                have r49 : M49 31 8 = M 31 8 := i49_3.2.2 8 (by decide) (by decide) (by decide) (by decide)
                have u0 := hr.2.2.1
                exact ⟨RI_mk hr frR i49_2 i49_5 (by omega), by omega⟩
              · have ct172 : ∀ (a b y p : Int) (M172 : zM) (J172 : zJ), (TI M172 J172) → (hdl M M172) → (M172 31 27 ≤ M 31 27 + (82 * o + 82)) → TZ G mX4_equal (tl_rm 6 0 0) 0 0 kRg M J 172 [some (vR 31), some (vI net), some (vI oth), some (vI o), some (vI a), some (vI b), some (vI y), some (vI p)] [] F1 M172 J172 (ZM G (zPost G kRg F1 M J (qI (fun x M' J' => RI M' J' ∧ M' 31 27 ≤ M 31 27 + 400))) 0 0) := by
                  intro a b y p M172 J172 i172_0 i172_1 i172_2
                  refine Z_aload_n (n := 173) dX4_equal_172 rfl rfl ?_
                  refine Z_callVv (n := 176) [] _ dX4_equal_173 rfl cwX4_185 rfl rfl rfl (Nat.le_of_ble_eq_true rfl) (by refine ⟨?_, ?_, ?_, ?_⟩ <;> exact Nat.le_of_ble_eq_true rfl) (fun a h => by unfold kRg at h; unfold kRv; omega) (zX4_clearHand  (by exact i172_0)) ?_
                  intro M173 J173 f173 q173
                  obtain ⟨ti173, hn173, am173, au173, hd173⟩ := q173
                  have hd2 := hdl_t i172_1 hd173
                  have u173 : M173 31 24 = M 31 24 := use_det hr.1 ti173 hr.2.1 hn173 hd2 ok0
                  have r173 : M173 31 8 = M 31 8 := hd2.2.2 8 (by decide) (by decide) (by decide) (by decide)
                  have u0 := hr.2.2.1
                  refine Z_iload (n := 178) dX4_equal_176 rfl rfl ?_
                  refine Z_if_ne (n := 181) (t := 184) dX4_equal_178 rfl (by decide) (fun c178 => ?_) (fun c178 => ?_)
                  · refine Z_iload (n := 186) dX4_equal_184 rfl rfl ?_
                    refine Z_if_lt (n := 189) (t := 206) dX4_equal_186 rfl (by decide) (fun c186 => ?_) (fun c186 => ?_)
                    · refine Z_iinc (L' := [_, _, _, _, _, _, _, _]) (n := 209) dX4_equal_206 rfl rfl (by decide) rfl rfl (by omega) rfl ?_
                      refine Z_goto (t := 49) dX4_equal_209 (by decide) ?_
                      refine Z_loc (L' := [some _, some _, some _, some _, none, none, none, none]) (lsub_same (lsub_same (lsub_same (lsub_same (lsub_none (lsub_none (lsub_none (lsub_none lsub_nil)))))))) ?_
                      exact ih49 _ _ _ (by omega) (by first | assumption | omega | decide) (by first | assumption | omega | decide) (by exact ti173) (by exact hd2) (by omega) (by exact hn173)
                    · refine Z_aload_n (n := 190) dX4_equal_189 rfl rfl ?_
                      refine Z_iload_n (n := 191) dX4_equal_190 rfl rfl ?_
                      refine Z_putI (n := 194) (ki := 33) dX4_equal_191 rfl ffX4_106 rfl (by decide) rfl rfl (by first | omega | exact (show zI o from by omega).1) (by first | omega | exact (show zI o from by omega).1) (by decide) ?_
                      refine Z_aload_n (n := 195) dX4_equal_194 rfl rfl ?_
                      refine Z_aload_n (n := 196) dX4_equal_195 rfl rfl ?_
                      refine Z_iload (n := 198) dX4_equal_196 rfl rfl ?_
                      refine Z_callVi (n := 201) [_] _ dX4_equal_198 rfl cwX4_250 rfl rfl rfl (Nat.le_of_ble_eq_true rfl) (by refine ⟨?_, ?_, ?_, ?_⟩ <;> exact Nat.le_of_ble_eq_true rfl) (fun _ _ => trivial) (zX4_assignmentAt  ) ?_
                      intro x198 M198 J198 z198 f198 q198
                      obtain ⟨e198_1, e198_2, h198⟩ := q198
                      replace e198_1 := e198_1.symm; subst e198_1
                      replace e198_2 := e198_2.symm; subst e198_2
                      refine Z_putI (n := 204) (ki := 34) dX4_equal_201 rfl ffX4_109 rfl (by decide) rfl rfl (by first | exact z198.1 | exact z198.2) (by first | exact z198.1 | exact z198.2) (by decide) ?_
                      refine Z_iconst (n := 205) dX4_equal_204 rfl (by decide) ?_
                      refine Z_fr (fun frR => ?_)
                      refine Z_iret dX4_equal_205 rfl ?_
                      exact ⟨RI_mk hr frR (TI_31 (TI_31 ti173 (by decide) (by decide) (by decide)) (by decide) (by decide) (by decide)) (fun g a b => by rw [uz_oo (by decide), uz_oo (by decide)]; exact hn173 g a b) (by rw [uz_n (by decide), uz_n (by decide), uz_n (by decide), uz_n (by decide)]; omega), by rw [uz_n (by decide), uz_n (by decide)]; omega⟩
                  · refine Z_bipush (n := 183) dX4_equal_181 rfl (by decide) (by decide) ?_
                    refine Z_fr (fun frR => ?_)
                    refine Z_iret dX4_equal_183 rfl ?_
                    exact ⟨RI_mk hr frR ti173 hn173 (by omega), by omega⟩
                have ct154 : ∀ (a b y : Int) (M154 : zM) (J154 : zJ), (TI M154 J154) → (hdl M M154) → (M154 31 27 ≤ M 31 27 + (82 * o + 82)) → TZ G mX4_equal (tl_rm 6 0 0) 0 0 kRg M J 154 [some (vR 31), some (vI net), some (vI oth), some (vI o), some (vI a), some (vI b), some (vI y), none] [] F1 M154 J154 (ZM G (zPost G kRg F1 M J (qI (fun x M' J' => RI M' J' ∧ M' 31 27 ≤ M 31 27 + 400))) 0 0) := by
                  intro a b y M154 J154 i154_0 i154_1 i154_2
                  refine Z_iload (n := 156) dX4_equal_154 rfl rfl ?_
                  refine Z_if_eq (n := 159) (t := 169) dX4_equal_156 rfl (by decide) (fun c156 => ?_) (fun c156 => ?_)
                  · have q0 := i154_0
                    have q1 := i154_1
                    refine Z_iconst (n := 170) dX4_equal_169 rfl (by decide) ?_
                    refine Z_istore (L' := [_, _, _, _, _, _, _, _]) (n := 172) dX4_equal_170 rfl (by decide) rfl rfl ?_
                    refine Z_loc (L' := [some _, some _, some _, some _, some _, some _, some _, some _]) (lsub_same (lsub_same (lsub_same (lsub_same (lsub_same (lsub_same (lsub_same (lsub_same lsub_nil)))))))) ?_
                    exact ct172 _ _ _ _ _ _ (by assumption) (by assumption) (by omega)
                  · have q0 := i154_0
                    have q1 := i154_1
                    refine Z_aload_n (n := 160) dX4_equal_159 rfl rfl ?_
                    refine Z_bipush (n := 162) dX4_equal_160 rfl (by decide) (by decide) ?_
                    refine Z_iconst (n := 163) dX4_equal_162 rfl (by decide) ?_
                    refine Z_callVi (n := 166) [_, _] _ dX4_equal_163 rfl cwX4_246 rfl rfl rfl (Nat.le_of_ble_eq_true rfl) (by refine ⟨?_, ?_, ?_, ?_⟩ <;> exact Nat.le_of_ble_eq_true rfl) (fun _ _ => trivial) (zX4_leastOf  (by omega) (by omega)) ?_
                    intro x163 M163 J163 z163 f163 q163
                    obtain ⟨e163_1, e163_2, h163⟩ := q163
                    replace e163_1 := e163_1.symm; subst e163_1
                    replace e163_2 := e163_2.symm; subst e163_2
                    refine Z_goto (t := 170) dX4_equal_166 (by decide) ?_
                    refine Z_istore (L' := [_, _, _, _, _, _, _, _]) (n := 172) dX4_equal_170 rfl (by decide) rfl rfl ?_
                    refine Z_loc (L' := [some _, some _, some _, some _, some _, some _, some _, some _]) (lsub_same (lsub_same (lsub_same (lsub_same (lsub_same (lsub_same (lsub_same (lsub_same lsub_nil)))))))) ?_
                    exact ct172 _ _ _ _ _ _ (by assumption) (by assumption) (by omega)
                have ct126 : ∀ (a b y : Int) (M126 : zM) (J126 : zJ), (TI M126 J126) → (hdl M M126) → (M126 31 27 ≤ M 31 27 + (82 * o + 81)) → (0 ≤ b ∧ b < 40) → (y = 0 ∨ (M126 43 55 = 0 ∧ M126 31 24 ≤ M126 31 8)) → TZ G mX4_equal (tl_rm 6 0 0) 0 0 kRg M J 126 [some (vR 31), some (vI net), some (vI oth), some (vI o), some (vI a), some (vI b), some (vI y), none] [] F1 M126 J126 (ZM G (zPost G kRg F1 M J (qI (fun x M' J' => RI M' J' ∧ M' 31 27 ≤ M 31 27 + 400))) 0 0) := by
                  intro a b y M126 J126 i126_0 i126_1 i126_2 i126_3 i126_4
                  
                  refine Z_iload (n := 128) dX4_equal_126 rfl rfl ?_
                  refine Z_if_eq (n := 131) (t := 154) dX4_equal_128 rfl (by decide) (fun c128 => ?_) (fun c128 => ?_)
                  · have q0 := i126_0
                    have q1 := i126_1
                    refine Z_loc (L' := [some _, some _, some _, some _, some _, some _, some _, none]) (lsub_same (lsub_same (lsub_same (lsub_same (lsub_same (lsub_same (lsub_same (lsub_none lsub_nil)))))))) ?_
                    exact ct154 _ _ _ _ _ (by exact q0) (by exact q1) (by omega)
                  · have hy := i126_4.resolve_left c128
                    have hyb := hy.2
                    refine Z_rg 31 8 rfl (fun g8d g8db => ?_)
                    refine Z_aload_n (n := 132) dX4_equal_131 rfl rfl ?_
                    refine Z_bipush (n := 134) dX4_equal_132 rfl (by decide) (by decide) ?_
                    refine Z_bipush (n := 136) dX4_equal_134 rfl (by decide) (by decide) ?_
                    refine Z_bipush (n := 138) dX4_equal_136 rfl (by decide) (by decide) ?_
                    refine Z_bipush (n := 140) dX4_equal_138 rfl (by decide) (by decide) ?_
                    refine Z_iload (n := 142) dX4_equal_140 rfl rfl ?_
                    refine Z_iadd (n := 143) dX4_equal_142 rfl (by omega) ?_
                    refine Z_callVv (n := 146) [_, _, _, _] _ dX4_equal_143 rfl cwX4_204 rfl rfl rfl (Nat.le_of_ble_eq_true rfl) (by refine ⟨?_, ?_, ?_, ?_⟩ <;> exact Nat.le_of_ble_eq_true rfl) (fun a h => by unfold kRg at h; unfold kBits; omega) (zX4_makeOf  (by omega) (by omega) (by omega) (by omega) (by omega) (by omega)) ?_
                    intro M143 J143 f143 q143
                    obtain ⟨e143_1, mo143, mb143, vo143⟩ := q143
                    replace e143_1 := e143_1.symm; subst e143_1
                    refine Z_aload_n (n := 147) dX4_equal_146 rfl rfl ?_
                    refine Z_bipush (n := 149) dX4_equal_147 rfl (by decide) (by decide) ?_
                    refine Z_callVi (n := 152) [_] _ dX4_equal_149 rfl cwX4_207 rfl rfl rfl (Nat.le_of_ble_eq_true rfl) (by refine ⟨?_, ?_, ?_, ?_⟩ <;> exact Nat.le_of_ble_eq_true rfl) (fun a h => by unfold kRg at h; unfold kAd; omega) (zX4_steps  (by omega) (by omega) (by exact TI_bits i126_0 hy.1 (f143 48 (by decide)).2 vo143) (by exact hy.1) (by omega) (by omega)) ?_
                    intro x149 M149 J149 z149 f149 q149
                    obtain ⟨ti149, ah149, am149, au149, af149, xs149⟩ := q149
                    have q0 := ti149
                    have q1 := hdl_t i126_1 (hdl_a af149 (by decide))
                    refine Z_istore (L' := [_, _, _, _, _, _, _, _]) (n := 154) dX4_equal_152 rfl (by decide) rfl rfl ?_
                    refine Z_loc (L' := [some _, some _, some _, some _, some _, some _, some _, none]) (lsub_same (lsub_same (lsub_same (lsub_same (lsub_same (lsub_same (lsub_same (lsub_none lsub_nil)))))))) ?_
                    exact ct154 _ _ _ _ _ (by exact q0) (by exact q1) (by omega)
                refine Z_fr (fun fr49 => ?_)
                refine Z_rg 31 8 rfl (fun g8 g8b => ?_)
                have e33n : M49 33 net = M 33 net := congrFun (fr49 33 (by decide)).1 net
                have e33o : M49 33 oth = M 33 oth := congrFun (fr49 33 (by decide)).1 oth
                have u49 : M49 31 24 = M 31 24 := use_det hr.1 i49_2 hr.2.1 i49_5 i49_3 ok0
                have r49 : M49 31 8 = M 31 8 := i49_3.2.2 8 (by decide) (by decide) (by decide) (by decide)
                have u0 := hr.2.2.1
                have hN1 : rNt M49 net := rNt_fr (hr.2.2.2.2 net (by omega) (by omega)) (fr49 32 (by decide)).1 (fr49 33 (by decide)).1 (fr49 34 (by decide)).1 (fr49 35 (by decide)).1 (fr49 36 (by decide)).1
                have hN2z : rNt M49 oth := rNt_fr (hr.2.2.2.2 oth (by omega) (by omega)) (fr49 32 (by decide)).1 (fr49 33 (by decide)).1 (fr49 34 (by decide)).1 (fr49 35 (by decide)).1 (fr49 36 (by decide)).1
                have ha1 := hN1.2 o (by omega) (by omega)
                have hb1z := hN2z.2 o (by omega) (by omega)
                refine Z_aload_n (n := 60) dX4_equal_59 rfl rfl ?_
                refine Z_getA (n := 63) dX4_equal_60 rfl ffX4_22 rfl rfl ?_
                refine Z_iconst (n := 64) dX4_equal_63 rfl (by decide) ?_
                refine Z_iload_n (n := 65) dX4_equal_64 rfl rfl ?_
                refine Z_imul (n := 66) dX4_equal_65 rfl (by omega) ?_
                refine Z_iload_n (n := 67) dX4_equal_66 rfl rfl ?_
                refine Z_iadd (n := 68) dX4_equal_67 rfl (by omega) ?_
                refine Z_iald (n := 69) dX4_equal_68 rfl rfl rfl (by first | decide | assumption) (by omega) (by omega) (fun r68 s68 => ?_)
                refine Z_istore (L' := [_, _, _, _, _, _, _, _]) (n := 71) dX4_equal_69 rfl (by decide) rfl rfl ?_
                refine Z_aload_n (n := 72) dX4_equal_71 rfl rfl ?_
                refine Z_getA (n := 75) dX4_equal_72 rfl ffX4_22 rfl rfl ?_
                refine Z_iconst (n := 76) dX4_equal_75 rfl (by decide) ?_
                refine Z_iload_n (n := 77) dX4_equal_76 rfl rfl ?_
                refine Z_imul (n := 78) dX4_equal_77 rfl (by omega) ?_
                refine Z_iload_n (n := 79) dX4_equal_78 rfl rfl ?_
                refine Z_iadd (n := 80) dX4_equal_79 rfl (by omega) ?_
                refine Z_iald (n := 81) dX4_equal_80 rfl rfl rfl (by first | decide | assumption) (by omega) (by omega) (fun r80 s80 => ?_)
                refine Z_istore (L' := [_, _, _, _, _, _, _, _]) (n := 83) dX4_equal_81 rfl (by decide) rfl rfl ?_
                refine Z_rg 32 net rfl (fun g32 g32b => ?_)
                refine Z_rg 32 oth rfl (fun o32 o32b => ?_)
                refine Z_rg 36 (4 * net + o) rfl (fun g36 g36b => ?_)
                refine Z_rg 36 (4 * oth + o) rfl (fun o36 o36b => ?_)
                refine Z_aload_n (n := 84) dX4_equal_83 rfl rfl ?_
                refine Z_iload_n (n := 85) dX4_equal_84 rfl rfl ?_
                refine Z_iload (n := 87) dX4_equal_85 rfl rfl ?_
                refine Z_callVi (n := 90) [_, _] _ dX4_equal_87 rfl cwX4_216 rfl rfl rfl (Nat.le_of_ble_eq_true rfl) (by refine ⟨?_, ?_, ?_, ?_⟩ <;> exact Nat.le_of_ble_eq_true rfl) (fun _ h => h) (zX4_builds  (by omega) (by omega) (by omega) (by exact ha1) (by exact hN1) (by exact i49_2) (by exact fun y a b => i49_5 (12 + y) (by omega) (by omega)) (by omega) (by omega)) ?_
                intro x87 M87 J87 z87 f87 q87
                obtain ⟨ti87, hd87, mk87, hi87, bi87, bx87⟩ := q87
                refine Z_istore (L' := [_, _, _, _, _, _, _, _]) (n := 92) dX4_equal_90 rfl (by decide) rfl rfl ?_
                refine Z_iload (n := 94) dX4_equal_92 rfl rfl ?_
                refine Z_if_eq (n := 97) (t := 126) dX4_equal_94 rfl (by decide) (fun c94 => ?_) (fun c94 => ?_)
                · have q0 := ti87
                  have q1 := hdl_t i49_3 hd87
                  have q4 : x87 = 0 ∨ (M87 43 55 = 0 ∧ M87 31 24 ≤ M87 31 8) := Or.inl c94
                  refine Z_loc (L' := [some _, some _, some _, some _, some _, some _, some _, none]) (lsub_same (lsub_same (lsub_same (lsub_same (lsub_same (lsub_same (lsub_same (lsub_none lsub_nil)))))))) ?_
                  exact ct126 _ _ _ _ _ (by exact q0) (by exact q1) (by omega) (by omega) (by exact q4)
                · obtain ⟨-, b87⟩ := bx87.resolve_right (by omega)
                  clear bx87
                  refine Z_rg 31 8 rfl (fun g8c g8cb => ?_)
                  have b87a := b87.1
                  refine Z_aload_n (n := 98) dX4_equal_97 rfl rfl ?_
                  refine Z_bipush (n := 100) dX4_equal_98 rfl (by decide) (by decide) ?_
                  refine Z_iload (n := 102) dX4_equal_100 rfl rfl ?_
                  refine Z_iadd (n := 103) dX4_equal_102 rfl (by omega) ?_
                  refine Z_bipush (n := 105) dX4_equal_103 rfl (by decide) (by decide) ?_
                  refine Z_callVv (n := 108) [_, _] _ dX4_equal_105 rfl cwX4_182 rfl rfl rfl (Nat.le_of_ble_eq_true rfl) (by refine ⟨?_, ?_, ?_, ?_⟩ <;> exact Nat.le_of_ble_eq_true rfl) (fun a h => by unfold kRg at h; unfold kTk; omega) (zX4_take  (by omega) (by omega) (by omega) (by omega) (by omega) (by exact ti87) (by exact b87.2.1) (by omega) (by omega)) ?_
                  intro M105 J105 f105 q105
                  obtain ⟨ti105, ah105, am105, au105, af105, b1105, b2105⟩ := q105
                  
                  refine Z_aload_n (n := 109) dX4_equal_108 rfl rfl ?_
                  refine Z_bipush (n := 111) dX4_equal_109 rfl (by decide) (by decide) ?_
                  refine Z_iload (n := 113) dX4_equal_111 rfl rfl ?_
                  refine Z_iadd (n := 114) dX4_equal_113 rfl (by omega) ?_
                  refine Z_callVv (n := 117) [_] _ dX4_equal_114 rfl cwX4_179 rfl rfl rfl (Nat.le_of_ble_eq_true rfl) (by refine ⟨?_, ?_, ?_, ?_⟩ <;> exact Nat.le_of_ble_eq_true rfl) (fun a h => by unfold kRg at h; unfold kRv; omega) (zX4_remove  (by omega) (by omega) (by exact ti105)) ?_
                  intro M114 J114 f114 q114
                  obtain ⟨ti114, ah114, am114, au114, af114⟩ := q114
                  have hd114 : hdl M M114 := hdl_t i49_3 (hdl_t hd87 (hdl_t (hdl_a af105 (by decide)) (hdl_a af114 (by omega))))
                  have e114 : ∀ a : Nat, kRg a → M114 a = M87 a := fun a ha => ((f114 a (by unfold kRg at ha; unfold kRv; omega)).1).trans (f105 a (by unfold kRg at ha; unfold kTk; omega)).1
                  have hN2 : rNt M114 oth := rNt_fr hN2z ((e114 32 (by decide)).trans (f87 32 (by decide)).1) ((e114 33 (by decide)).trans (f87 33 (by decide)).1) ((e114 34 (by decide)).trans (f87 34 (by decide)).1) ((e114 35 (by decide)).trans (f87 35 (by decide)).1) ((e114 36 (by decide)).trans (f87 36 (by decide)).1)
                  have hb1 : M49 36 (4 * oth + o) < M114 32 oth := by rw [e114 32 (by decide), (f87 32 (by decide)).1]; exact hb1z
                  have hh114 : ∀ y : Int, 0 ≤ y → y < 40 → M114 43 (12 + y) = 0 := fun y a b => by
                    by_cases e : y = M49 36 (4 * net + o)
                    · rw [e]; exact ah114
                    · rw [(af114.1 _ (by omega)).2, (af105.1 _ (by omega)).2]; exact b87.2.2 y a b e
                  have h55 : M114 43 55 = 0 := by
                    rw [(af114.1 55 (by omega)).2, (af105.1 55 (by decide)).2, hi87 55 (by decide) (by decide)]
                    exact i49_5 55 (by decide) (by decide)
                  have r114 : M114 31 8 = M87 31 8 := (af114.2.2 8 (by decide) (by decide) (by decide) (by decide)).trans (af105.2.2 8 (by decide) (by decide) (by decide) (by decide))
                  refine Z_aload_n (n := 118) dX4_equal_117 rfl rfl ?_
                  refine Z_iload_n (n := 119) dX4_equal_118 rfl rfl ?_
                  refine Z_iload (n := 121) dX4_equal_119 rfl rfl ?_
                  refine Z_callVi (n := 124) [_, _] _ dX4_equal_121 rfl cwX4_216 rfl rfl rfl (Nat.le_of_ble_eq_true rfl) (by refine ⟨?_, ?_, ?_, ?_⟩ <;> exact Nat.le_of_ble_eq_true rfl) (fun _ h => h) (zX4_builds  (by omega) (by omega) (by omega) (by exact hb1) (by exact hN2) (by exact ti114) (by exact hh114) (by omega) (by omega)) ?_
                  intro x121 M121 J121 z121 f121 q121
                  obtain ⟨ti121, hd121, mk121, hi121, bi121, bx121⟩ := q121
                  have q0 := ti121
                  have q1 := hdl_t hd114 hd121
                  have q4 : x121 = 0 ∨ (M121 43 55 = 0 ∧ M121 31 24 ≤ M121 31 8) := by
                    rcases bx121 with ⟨-, a, -⟩ | a
                    · exact Or.inr ⟨(hi121 55 (by decide) (by decide)).trans h55, a⟩
                    · exact Or.inl a
                  clear bx121
                  refine Z_istore (L' := [_, _, _, _, _, _, _, _]) (n := 126) dX4_equal_124 rfl (by decide) rfl rfl ?_
                  refine Z_loc (L' := [some _, some _, some _, some _, some _, some _, some _, none]) (lsub_same (lsub_same (lsub_same (lsub_same (lsub_same (lsub_same (lsub_same (lsub_none lsub_nil)))))))) ?_
                  exact ct126 _ _ _ _ _ (by exact q0) (by exact q1) (by omega) (by omega) (by exact q4)
          refine Z_loc (L' := [some _, some _, some _, some _, none, none, none, none]) (lsub_same (lsub_same (lsub_same (lsub_same (lsub_none (lsub_none (lsub_none (lsub_none lsub_nil)))))))) ?_
          exact lp49 _ _ _ _ (Nat.lt_succ_self _) (by first | assumption | omega | decide) (by first | assumption | omega | decide) (by exact t49) (by exact d49) (by exact m49) (by exact h49)
      · refine Z_bipush (n := 33) dX4_equal_31 rfl (by decide) (by decide) ?_
        refine Z_iret dX4_equal_33 rfl ?_
        exact ⟨hr, by omega⟩
    · refine Z_iconst (n := 15) dX4_equal_14 rfl (by decide) ?_
      refine Z_iret dX4_equal_15 rfl ?_
      exact ⟨hr, by omega⟩
def cmF (k a b : Int) : Int := if k = 1 then 0 else if k = 2 then 1 else if k = 3 then 1 - a else if k = 4 then (if a = 0 then 0 else b) else if k = 5 then (if a = 0 then b else 1) else if k = 6 then (if a = b then 0 else 1) else if k = 7 then (if a = 0 then 1 else 1 - b) else if k = 8 then (if a = 0 then 1 - b else 0) else (if a = b then 1 else 0)
abbrev kOn (a : Nat) : Prop := ¬ a = 37
set_option maxRecDepth 20000 in
theorem zX4_combined {G : tl_G} {M : zM} {J : zJ} {k a b : Int} (a0 : 0 ≤ a) (a1 : a ≤ 1) (b0 : 0 ≤ b) (b1 : b ≤ 1) : ZN G yX4_combined mX4_combined 0 kAll [vI k, vI a, vI b] F1 M J (qI (fun x M' J' => M' = M ∧ J' = J ∧ x = cmF k a b ∧ 0 ≤ x ∧ x ≤ 1)) := by
  refine ZN_of (L := [_, _, _]) (by decide) rfl rfl (Nat.le_of_ble_eq_true rfl) rfl (fun hav => ?_)
  refine Z_iload_n (n := 1) dX4_combined_0 rfl rfl ?_
  refine Z_tsw (td := 129) dX4_combined_1 rfl (by decide) (by decide) ?_ (fun c1 => ?_)
  · refine zcases_cons (fun c1 t ht => ?_) ?_
    · obtain rfl : t = 48 := by omega
      refine Z_iconst (n := 49) dX4_combined_48 rfl (by decide) ?_
      refine Z_zret dX4_combined_49 rfl (by first | assumption | omega | decide) (by first | assumption | omega | decide) ?_
      refine ⟨rfl, rfl, ?_, by decide, by decide⟩
      unfold cmF
      (repeat first | rw [if_neg (by omega)] | rw [if_pos (by omega)]) <;> omega
    refine zcases_cons (fun c1 t ht => ?_) ?_
    · obtain rfl : t = 50 := by omega
      refine Z_iconst (n := 51) dX4_combined_50 rfl (by decide) ?_
      refine Z_zret dX4_combined_51 rfl (by first | assumption | omega | decide) (by first | assumption | omega | decide) ?_
      refine ⟨rfl, rfl, ?_, by decide, by decide⟩
      unfold cmF
      (repeat first | rw [if_neg (by omega)] | rw [if_pos (by omega)]) <;> omega
    refine zcases_cons (fun c1 t ht => ?_) ?_
    · obtain rfl : t = 52 := by omega
      refine Z_iload_n (n := 53) dX4_combined_52 rfl rfl ?_
      refine Z_if_ne (n := 56) (t := 60) dX4_combined_53 rfl (by decide) (fun c53 => ?_) (fun c53 => ?_)
      · refine Z_iconst (n := 61) dX4_combined_60 rfl (by decide) ?_
        refine Z_zret dX4_combined_61 rfl (by first | assumption | omega | decide) (by first | assumption | omega | decide) ?_
        refine ⟨rfl, rfl, ?_, by decide, by decide⟩
        unfold cmF
        (repeat first | rw [if_neg (by omega)] | rw [if_pos (by omega)]) <;> omega
      · refine Z_iconst (n := 57) dX4_combined_56 rfl (by decide) ?_
        refine Z_goto (t := 61) dX4_combined_57 (by decide) ?_
        refine Z_zret dX4_combined_61 rfl (by first | assumption | omega | decide) (by first | assumption | omega | decide) ?_
        refine ⟨rfl, rfl, ?_, by decide, by decide⟩
        unfold cmF
        (repeat first | rw [if_neg (by omega)] | rw [if_pos (by omega)]) <;> omega
    refine zcases_cons (fun c1 t ht => ?_) ?_
    · obtain rfl : t = 62 := by omega
      refine Z_iload_n (n := 63) dX4_combined_62 rfl rfl ?_
      refine Z_if_eq (n := 66) (t := 74) dX4_combined_63 rfl (by decide) (fun c63 => ?_) (fun c63 => ?_)
      · refine Z_iconst (n := 75) dX4_combined_74 rfl (by decide) ?_
        refine Z_zret dX4_combined_75 rfl (by first | assumption | omega | decide) (by first | assumption | omega | decide) ?_
        refine ⟨rfl, rfl, ?_, by decide, by decide⟩
        unfold cmF
        (repeat first | rw [if_neg (by omega)] | rw [if_pos (by omega)]) <;> omega
      · refine Z_iload_n (n := 67) dX4_combined_66 rfl rfl ?_
        refine Z_if_eq (n := 70) (t := 74) dX4_combined_67 rfl (by decide) (fun c67 => ?_) (fun c67 => ?_)
        · refine Z_iconst (n := 75) dX4_combined_74 rfl (by decide) ?_
          refine Z_zret dX4_combined_75 rfl (by first | assumption | omega | decide) (by first | assumption | omega | decide) ?_
          refine ⟨rfl, rfl, ?_, by decide, by decide⟩
          unfold cmF
          (repeat first | rw [if_neg (by omega)] | rw [if_pos (by omega)]) <;> omega
        · refine Z_iconst (n := 71) dX4_combined_70 rfl (by decide) ?_
          refine Z_goto (t := 75) dX4_combined_71 (by decide) ?_
          refine Z_zret dX4_combined_75 rfl (by first | assumption | omega | decide) (by first | assumption | omega | decide) ?_
          refine ⟨rfl, rfl, ?_, by decide, by decide⟩
          unfold cmF
          (repeat first | rw [if_neg (by omega)] | rw [if_pos (by omega)]) <;> omega
    refine zcases_cons (fun c1 t ht => ?_) ?_
    · obtain rfl : t = 76 := by omega
      refine Z_iload_n (n := 77) dX4_combined_76 rfl rfl ?_
      refine Z_if_ne (n := 80) (t := 84) dX4_combined_77 rfl (by decide) (fun c77 => ?_) (fun c77 => ?_)
      · refine Z_iconst (n := 85) dX4_combined_84 rfl (by decide) ?_
        refine Z_goto (t := 89) dX4_combined_85 (by decide) ?_
        refine Z_zret dX4_combined_89 rfl (by first | assumption | omega | decide) (by first | assumption | omega | decide) ?_
        refine ⟨rfl, rfl, ?_, by decide, by decide⟩
        unfold cmF
        (repeat first | rw [if_neg (by omega)] | rw [if_pos (by omega)]) <;> omega
      · refine Z_iload_n (n := 81) dX4_combined_80 rfl rfl ?_
        refine Z_if_eq (n := 84) (t := 88) dX4_combined_81 rfl (by decide) (fun c81 => ?_) (fun c81 => ?_)
        · refine Z_iconst (n := 89) dX4_combined_88 rfl (by decide) ?_
          refine Z_zret dX4_combined_89 rfl (by first | assumption | omega | decide) (by first | assumption | omega | decide) ?_
          refine ⟨rfl, rfl, ?_, by decide, by decide⟩
          unfold cmF
          (repeat first | rw [if_neg (by omega)] | rw [if_pos (by omega)]) <;> omega
        · refine Z_iconst (n := 85) dX4_combined_84 rfl (by decide) ?_
          refine Z_goto (t := 89) dX4_combined_85 (by decide) ?_
          refine Z_zret dX4_combined_89 rfl (by first | assumption | omega | decide) (by first | assumption | omega | decide) ?_
          refine ⟨rfl, rfl, ?_, by decide, by decide⟩
          unfold cmF
          (repeat first | rw [if_neg (by omega)] | rw [if_pos (by omega)]) <;> omega
    refine zcases_cons (fun c1 t ht => ?_) ?_
    · obtain rfl : t = 90 := by omega
      refine Z_iload_n (n := 91) dX4_combined_90 rfl rfl ?_
      refine Z_iload_n (n := 92) dX4_combined_91 rfl rfl ?_
      refine Z_icmp_eq (n := 95) (t := 99) dX4_combined_92 rfl (by decide) (fun c92 => ?_) (fun c92 => ?_)
      · refine Z_iconst (n := 100) dX4_combined_99 rfl (by decide) ?_
        refine Z_zret dX4_combined_100 rfl (by first | assumption | omega | decide) (by first | assumption | omega | decide) ?_
        refine ⟨rfl, rfl, ?_, by decide, by decide⟩
        unfold cmF
        (repeat first | rw [if_neg (by omega)] | rw [if_pos (by omega)]) <;> omega
      · refine Z_iconst (n := 96) dX4_combined_95 rfl (by decide) ?_
        refine Z_goto (t := 100) dX4_combined_96 (by decide) ?_
        refine Z_zret dX4_combined_100 rfl (by first | assumption | omega | decide) (by first | assumption | omega | decide) ?_
        refine ⟨rfl, rfl, ?_, by decide, by decide⟩
        unfold cmF
        (repeat first | rw [if_neg (by omega)] | rw [if_pos (by omega)]) <;> omega
    refine zcases_cons (fun c1 t ht => ?_) ?_
    · obtain rfl : t = 101 := by omega
      refine Z_iload_n (n := 102) dX4_combined_101 rfl rfl ?_
      refine Z_if_eq (n := 105) (t := 109) dX4_combined_102 rfl (by decide) (fun c102 => ?_) (fun c102 => ?_)
      · refine Z_iconst (n := 110) dX4_combined_109 rfl (by decide) ?_
        refine Z_goto (t := 114) dX4_combined_110 (by decide) ?_
        refine Z_zret dX4_combined_114 rfl (by first | assumption | omega | decide) (by first | assumption | omega | decide) ?_
        refine ⟨rfl, rfl, ?_, by decide, by decide⟩
        unfold cmF
        (repeat first | rw [if_neg (by omega)] | rw [if_pos (by omega)]) <;> omega
      · refine Z_iload_n (n := 106) dX4_combined_105 rfl rfl ?_
        refine Z_if_ne (n := 109) (t := 113) dX4_combined_106 rfl (by decide) (fun c106 => ?_) (fun c106 => ?_)
        · refine Z_iconst (n := 114) dX4_combined_113 rfl (by decide) ?_
          refine Z_zret dX4_combined_114 rfl (by first | assumption | omega | decide) (by first | assumption | omega | decide) ?_
          refine ⟨rfl, rfl, ?_, by decide, by decide⟩
          unfold cmF
          (repeat first | rw [if_neg (by omega)] | rw [if_pos (by omega)]) <;> omega
        · refine Z_iconst (n := 110) dX4_combined_109 rfl (by decide) ?_
          refine Z_goto (t := 114) dX4_combined_110 (by decide) ?_
          refine Z_zret dX4_combined_114 rfl (by first | assumption | omega | decide) (by first | assumption | omega | decide) ?_
          refine ⟨rfl, rfl, ?_, by decide, by decide⟩
          unfold cmF
          (repeat first | rw [if_neg (by omega)] | rw [if_pos (by omega)]) <;> omega
    refine zcases_cons (fun c1 t ht => ?_) ?_
    · obtain rfl : t = 115 := by omega
      refine Z_iload_n (n := 116) dX4_combined_115 rfl rfl ?_
      refine Z_if_ne (n := 119) (t := 127) dX4_combined_116 rfl (by decide) (fun c116 => ?_) (fun c116 => ?_)
      · refine Z_iconst (n := 128) dX4_combined_127 rfl (by decide) ?_
        refine Z_zret dX4_combined_128 rfl (by first | assumption | omega | decide) (by first | assumption | omega | decide) ?_
        refine ⟨rfl, rfl, ?_, by decide, by decide⟩
        unfold cmF
        (repeat first | rw [if_neg (by omega)] | rw [if_pos (by omega)]) <;> omega
      · refine Z_iload_n (n := 120) dX4_combined_119 rfl rfl ?_
        refine Z_if_ne (n := 123) (t := 127) dX4_combined_120 rfl (by decide) (fun c120 => ?_) (fun c120 => ?_)
        · refine Z_iconst (n := 128) dX4_combined_127 rfl (by decide) ?_
          refine Z_zret dX4_combined_128 rfl (by first | assumption | omega | decide) (by first | assumption | omega | decide) ?_
          refine ⟨rfl, rfl, ?_, by decide, by decide⟩
          unfold cmF
          (repeat first | rw [if_neg (by omega)] | rw [if_pos (by omega)]) <;> omega
        · refine Z_iconst (n := 124) dX4_combined_123 rfl (by decide) ?_
          refine Z_goto (t := 128) dX4_combined_124 (by decide) ?_
          refine Z_zret dX4_combined_128 rfl (by first | assumption | omega | decide) (by first | assumption | omega | decide) ?_
          refine ⟨rfl, rfl, ?_, by decide, by decide⟩
          unfold cmF
          (repeat first | rw [if_neg (by omega)] | rw [if_pos (by omega)]) <;> omega
    exact zcases_nil
  · refine Z_iload_n (n := 130) dX4_combined_129 rfl rfl ?_
    refine Z_iload_n (n := 131) dX4_combined_130 rfl rfl ?_
    refine Z_icmp_ne (n := 134) (t := 138) dX4_combined_131 rfl (by decide) (fun c131 => ?_) (fun c131 => ?_)
    · refine Z_iconst (n := 139) dX4_combined_138 rfl (by decide) ?_
      refine Z_zret dX4_combined_139 rfl (by first | assumption | omega | decide) (by first | assumption | omega | decide) ?_
      refine ⟨rfl, rfl, ?_, by decide, by decide⟩
      unfold cmF
      (repeat first | rw [if_neg (by omega)] | rw [if_pos (by omega)]) <;> omega
    · refine Z_iconst (n := 135) dX4_combined_134 rfl (by decide) ?_
      refine Z_goto (t := 139) dX4_combined_135 (by decide) ?_
      refine Z_zret dX4_combined_139 rfl (by first | assumption | omega | decide) (by first | assumption | omega | decide) ?_
      refine ⟨rfl, rfl, ?_, by decide, by decide⟩
      unfold cmF
      (repeat first | rw [if_neg (by omega)] | rw [if_pos (by omega)]) <;> omega
set_option maxRecDepth 20000 in
theorem zX4_gives_s {G : tl_G} {M : zM} {J : zJ} {net o a : Int} (hN : ∀ net : Int, 0 ≤ net → net < 3 → rNt M net) : ZN G yX4_gives mX4_gives 4 kOn [vR 31, vI net, vI o, vI a] F1 M J (qI (fun x M' J' => J' = J)) := by
  refine ZN_of (L := [_, _, _, _, _, _, _, _, _, _]) (by decide) rfl rfl (Nat.le_of_ble_eq_true rfl) rfl (fun hav => ?_)
  refine Z_aload_n (n := 1) dX4_gives_0 rfl rfl ?_
  refine Z_iload_n (n := 2) dX4_gives_1 rfl rfl ?_
  refine Z_iload_n (n := 3) dX4_gives_2 rfl rfl ?_
  refine Z_callVi (n := 6) [_, _] _ dX4_gives_3 rfl cwX4_128 rfl rfl rfl (Nat.le_of_ble_eq_true rfl) (by refine ⟨?_, ?_, ?_, ?_⟩ <;> exact Nat.le_of_ble_eq_true rfl) (fun _ _ => trivial) (zX4_isOutput  ) ?_
  intro x3 M3 J3 z3 f3 q3
  obtain ⟨e3_1, e3_2, h3⟩ := q3
  replace e3_1 := e3_1.symm; subst e3_1
  replace e3_2 := e3_2.symm; subst e3_2
  refine Z_if_ne (n := 9) (t := 11) dX4_gives_6 rfl (by decide) (fun c6 => ?_) (fun c6 => ?_)
  · refine Z_rg 33 net rfl (fun g33 g33b => ?_)
    refine Z_rg 32 net rfl (fun g32 g32b => ?_)
    have hNn := hN net (by omega) (by omega)
    refine Z_iload_n (n := 12) dX4_gives_11 rfl rfl ?_
    refine Z_iconst (n := 13) dX4_gives_12 rfl (by decide) ?_
    refine Z_sipush (n := 16) dX4_gives_13 rfl (by decide) (by decide) ?_
    refine Z_callSi (n := 19) [_, _, _] _ dX4_gives_16 rfl cwX4_112 rfl rfl (Nat.le_of_ble_eq_true rfl) (by refine ⟨?_, ?_, ?_, ?_⟩ <;> exact Nat.le_of_ble_eq_true rfl) (fun _ _ => trivial) (zX4_in  ) ?_
    intro x16 M16 J16 z16 f16 q16
    obtain ⟨e16_1, e16_2, h16⟩ := q16
    replace e16_1 := e16_1.symm; subst e16_1
    replace e16_2 := e16_2.symm; subst e16_2
    refine Z_if_ne (n := 22) (t := 25) dX4_gives_19 rfl (by decide) (fun c19 => ?_) (fun c19 => ?_)
    · refine Z_iconst (n := 26) dX4_gives_25 rfl (by decide) ?_
      refine Z_istore (L' := [_, _, _, _, _, _, _, _, _, _]) (n := 28) dX4_gives_26 rfl (by decide) rfl rfl ?_
      have lp28 : ∀ (N28 : Nat) (g : Int) (M28 : zM) (J28 : zJ), ((M 32 net - g).toNat) < N28 → (J28 = J) → (0 ≤ g) → (g ≤ M 32 net) → TZ G mX4_gives (tl_rm 4 0 0) 0 0 kOn M J 28 [some (vR 31), some (vI net), some (vI o), some (vI a), some (vI g), none, none, none, none, none] [] F1 M28 J28 (ZM G (zPost G kOn F1 M J (qI (fun x M' J' => J' = J))) 0 0) := by
        intro N28
        induction N28 with
        | zero => intro g M28 J28 hN; omega
        | succ N28 ih28 =>
          intro g M28 J28 hN28 i28_0 i28_1 i28_2
          refine Z_iload (n := 30) dX4_gives_28 rfl rfl ?_
          refine Z_aload_n (n := 31) dX4_gives_30 rfl rfl ?_
          refine Z_getA (n := 34) dX4_gives_31 rfl ffX4_7 rfl rfl ?_
          refine Z_fr (fun fr28 => ?_)
          have e32 : M28 32 net = M 32 net := congrFun (fr28 32 (by decide)).1 net
          refine Z_iload_n (n := 35) dX4_gives_34 rfl rfl ?_
          refine Z_iald (n := 36) dX4_gives_35 rfl rfl rfl (by first | decide | assumption) (by omega) (by omega) (fun r35 s35 => ?_)
          refine Z_icmp_ge (n := 39) (t := 213) dX4_gives_36 rfl (by decide) (fun c36 => ?_) (fun c36 => ?_)
          · refine Z_aload_n (n := 214) dX4_gives_213 rfl rfl ?_
            refine Z_getA (n := 217) dX4_gives_214 rfl ffX4_25 rfl rfl ?_
            refine Z_aload_n (n := 218) dX4_gives_217 rfl rfl ?_
            refine Z_getA (n := 221) dX4_gives_218 rfl ffX4_22 rfl rfl ?_
            refine Z_iconst (n := 222) dX4_gives_221 rfl (by decide) ?_
            refine Z_iload_n (n := 223) dX4_gives_222 rfl rfl ?_
            refine Z_imul (n := 224) dX4_gives_223 rfl (by omega) ?_
            refine Z_iload_n (n := 225) dX4_gives_224 rfl rfl ?_
            refine Z_iadd (n := 226) dX4_gives_225 rfl (by omega) ?_
            refine Z_iald (n := 227) dX4_gives_226 rfl rfl rfl (by first | decide | assumption) (by omega) (by omega) (fun r226 s226 => ?_)
            refine Z_zald (n := 228) dX4_gives_227 rfl rfl rfl (by first | decide | assumption) (by omega) (by omega) (fun r227 s227 => ?_)
            refine Z_if_eq (n := 231) (t := 235) dX4_gives_228 rfl (by decide) (fun c228 => ?_) (fun c228 => ?_)
            · refine Z_iconst (n := 236) dX4_gives_235 rfl (by decide) ?_
              refine Z_iret dX4_gives_236 rfl ?_
              assumption
            · refine Z_iconst (n := 232) dX4_gives_231 rfl (by decide) ?_
              refine Z_goto (t := 236) dX4_gives_232 (by decide) ?_
              refine Z_iret dX4_gives_236 rfl ?_
              assumption
          · have hNg : rNt M28 net := rNt_fr hNn (fr28 32 (by decide)).1 (fr28 33 (by decide)).1 (fr28 34 (by decide)).1 (fr28 35 (by decide)).1 (fr28 36 (by decide)).1
            have hgt := hNg.1 g (by omega) (by omega)
            have ho0 : opF (M28 34 (40 * net + g)) > 0 → 0 ≤ M28 35 (3 * (40 * net + g)) ∧ M28 35 (3 * (40 * net + g)) < g := fun q => by
              have z := hgt.1 0 (by omega) (by omega)
              rw [Int.add_zero] at z
              exact z
            have ho1 := hgt.1 1 (by omega)
            have ho2 := hgt.1 2 (by omega)
            refine Z_bipush (n := 41) dX4_gives_39 rfl (by decide) (by decide) ?_
            refine Z_iload_n (n := 42) dX4_gives_41 rfl rfl ?_
            refine Z_imul (n := 43) dX4_gives_42 rfl (by omega) ?_
            refine Z_iload (n := 45) dX4_gives_43 rfl rfl ?_
            refine Z_iadd (n := 46) dX4_gives_45 rfl (by omega) ?_
            refine Z_istore (L' := [_, _, _, _, _, _, _, _, _, _]) (n := 48) dX4_gives_46 rfl (by decide) rfl rfl ?_
            refine Z_aload_n (n := 49) dX4_gives_48 rfl rfl ?_
            refine Z_getA (n := 52) dX4_gives_49 rfl ffX4_16 rfl rfl ?_
            refine Z_iload (n := 54) dX4_gives_52 rfl rfl ?_
            refine Z_iald (n := 55) dX4_gives_54 rfl rfl rfl (by first | decide | assumption) (by omega) (by omega) (fun r54 s54 => ?_)
            refine Z_istore (L' := [_, _, _, _, _, _, _, _, _, _]) (n := 57) dX4_gives_55 rfl (by decide) rfl rfl ?_
            refine Z_iload (n := 59) dX4_gives_57 rfl rfl ?_
            refine Z_callSi (n := 62) [_] _ dX4_gives_59 rfl cwX4_120 rfl rfl (Nat.le_of_ble_eq_true rfl) (by refine ⟨?_, ?_, ?_, ?_⟩ <;> exact Nat.le_of_ble_eq_true rfl) (fun _ _ => trivial) (zX4_wants  ) ?_
            intro x59 M59 J59 z59 f59 q59
            obtain ⟨e59_1, e59_2, h59⟩ := q59
            replace e59_1 := e59_1.symm; subst e59_1
            replace e59_2 := e59_2.symm; subst e59_2
            have ct206 : ∀ (q p r : Int) , (0 ≤ q) → (q ≤ 1) → TZ G mX4_gives (tl_rm 4 0 0) 0 0 kOn M J 206 [some (vR 31), some (vI net), some (vI o), some (vI a), some (vI g), none, none, none, some (vI p), some (vI r)] [vI q, vI g, vR 37] F1 M28 J28 (ZM G (zPost G kOn F1 M J (qI (fun x M' J' => J' = J))) 0 0) := by
              intro q p r  i206_0 i206_1
              refine Z_zast (n := 207) dX4_gives_206 rfl rfl rfl (by first | decide | assumption) (by omega) (by omega) (by first | assumption | omega | decide) (by first | assumption | omega | decide) (by decide) ?_
              refine Z_iinc (L' := [_, _, _, _, _, _, _, _, _, _]) (n := 210) dX4_gives_207 rfl rfl (by decide) rfl rfl (by omega) rfl ?_
              refine Z_goto (t := 28) dX4_gives_210 (by decide) ?_
              refine Z_loc (L' := [some _, some _, some _, some _, some _, none, none, none, none, none]) (lsub_same (lsub_same (lsub_same (lsub_same (lsub_same (lsub_none (lsub_none (lsub_none (lsub_none (lsub_none lsub_nil)))))))))) ?_
              exact ih28 _ _ _ (by omega) (by first | rfl | assumption) (by first | assumption | omega | decide) (by first | assumption | omega | decide)
            have ct125 : ∀ (p r : Int) , (0 ≤ p) → (p ≤ 1) → (0 ≤ r) → (r ≤ 1) → TZ G mX4_gives (tl_rm 4 0 0) 0 0 kOn M J 125 [some (vR 31), some (vI net), some (vI o), some (vI a), some (vI g), some (vI (40 * net + g)), some (vI (M28 34 (40 * net + g))), some (vI x59), some (vI p), some (vI r)] [] F1 M28 J28 (ZM G (zPost G kOn F1 M J (qI (fun x M' J' => J' = J))) 0 0) := by
              intro p r  i125_0 i125_1 i125_2 i125_3
              refine Z_aload_n (n := 126) dX4_gives_125 rfl rfl ?_
              refine Z_getA (n := 129) dX4_gives_126 rfl ffX4_25 rfl rfl ?_
              refine Z_iload (n := 131) dX4_gives_129 rfl rfl ?_
              refine Z_iload (n := 133) dX4_gives_131 rfl rfl ?_
              refine Z_if_ne (n := 136) (t := 161) dX4_gives_133 rfl (by decide) (fun c133 => ?_) (fun c133 => ?_)
              · refine Z_iload (n := 163) dX4_gives_161 rfl rfl ?_
                refine Z_bipush (n := 165) dX4_gives_163 rfl (by decide) (by decide) ?_
                refine Z_icmp_ne (n := 168) (t := 197) dX4_gives_165 rfl (by decide) (fun c165 => ?_) (fun c165 => ?_)
                · refine Z_iload (n := 199) dX4_gives_197 rfl rfl ?_
                  refine Z_iload (n := 201) dX4_gives_199 rfl rfl ?_
                  refine Z_iload (n := 203) dX4_gives_201 rfl rfl ?_
                  refine Z_callSi (n := 206) [_, _, _] _ dX4_gives_203 rfl cwX4_131 rfl rfl (Nat.le_of_ble_eq_true rfl) (by refine ⟨?_, ?_, ?_, ?_⟩ <;> exact Nat.le_of_ble_eq_true rfl) (fun _ _ => trivial) (zX4_combined  (by first | assumption | omega | decide) (by first | assumption | omega | decide) (by first | assumption | omega | decide) (by first | assumption | omega | decide)) ?_
                  intro x203 M203 J203 z203 f203 q203
                  obtain ⟨e203_1, e203_2, h203, l203, u203⟩ := q203
                  replace e203_1 := e203_1.symm; subst e203_1
                  replace e203_2 := e203_2.symm; subst e203_2
                  refine Z_loc (L' := [some _, some _, some _, some _, some _, none, none, none, some _, some _]) (lsub_same (lsub_same (lsub_same (lsub_same (lsub_same (lsub_none (lsub_none (lsub_none (lsub_same (lsub_same lsub_nil)))))))))) ?_
                  exact ct206 _ _ _  (by first | assumption | omega | decide) (by first | assumption | omega | decide)
                · refine Z_iload (n := 170) dX4_gives_168 rfl rfl ?_
                  refine Z_if_eq (n := 173) (t := 178) dX4_gives_170 rfl (by decide) (fun c170 => ?_) (fun c170 => ?_)
                  · have hq3 : opF (M28 34 (40 * net + g)) = 3 := by rw [c165]; rfl
                    have hp2 := ho2 (by omega)
                    refine Z_aload_n (n := 179) dX4_gives_178 rfl rfl ?_
                    refine Z_getA (n := 182) dX4_gives_179 rfl ffX4_25 rfl rfl ?_
                    refine Z_aload_n (n := 183) dX4_gives_182 rfl rfl ?_
                    refine Z_getA (n := 186) dX4_gives_183 rfl ffX4_19 rfl rfl ?_
                    refine Z_iconst (n := 187) dX4_gives_186 rfl (by decide) ?_
                    refine Z_iload (n := 189) dX4_gives_187 rfl rfl ?_
                    refine Z_imul (n := 190) dX4_gives_189 rfl (by omega) ?_
                    refine Z_iconst (n := 191) dX4_gives_190 rfl (by decide) ?_
                    refine Z_iadd (n := 192) dX4_gives_191 rfl (by omega) ?_
                    refine Z_iald (n := 193) dX4_gives_192 rfl rfl rfl (by first | decide | assumption) (by omega) (by omega) (fun r192 s192 => ?_)
                    refine Z_zald (n := 194) dX4_gives_193 rfl rfl rfl (by first | decide | assumption) (by omega) (by omega) (fun r193 s193 => ?_)
                    refine Z_goto (t := 206) dX4_gives_194 (by decide) ?_
                    refine Z_loc (L' := [some _, some _, some _, some _, some _, none, none, none, some _, some _]) (lsub_same (lsub_same (lsub_same (lsub_same (lsub_same (lsub_none (lsub_none (lsub_none (lsub_same (lsub_same lsub_nil)))))))))) ?_
                    exact ct206 _ _ _  (by first | assumption | omega | decide) (by first | assumption | omega | decide)
                  · refine Z_iload (n := 175) dX4_gives_173 rfl rfl ?_
                    refine Z_goto (t := 206) dX4_gives_175 (by decide) ?_
                    refine Z_loc (L' := [some _, some _, some _, some _, some _, none, none, none, some _, some _]) (lsub_same (lsub_same (lsub_same (lsub_same (lsub_same (lsub_none (lsub_none (lsub_none (lsub_same (lsub_same lsub_nil)))))))))) ?_
                    exact ct206 _ _ _  (by first | assumption | omega | decide) (by first | assumption | omega | decide)
              · refine Z_iload_n (n := 137) dX4_gives_136 rfl rfl ?_
                refine Z_aload_n (n := 138) dX4_gives_137 rfl rfl ?_
                refine Z_getA (n := 141) dX4_gives_138 rfl ffX4_19 rfl rfl ?_
                refine Z_iconst (n := 142) dX4_gives_141 rfl (by decide) ?_
                refine Z_iload (n := 144) dX4_gives_142 rfl rfl ?_
                refine Z_imul (n := 145) dX4_gives_144 rfl (by omega) ?_
                refine Z_iald (n := 146) dX4_gives_145 rfl rfl rfl (by first | decide | assumption) (by omega) (by omega) (fun r145 s145 => ?_)
                refine Z_ishr (n := 147) dX4_gives_146 rfl ?_
                refine Z_iconst (n := 148) dX4_gives_147 rfl (by decide) ?_
                refine Z_iand (n := 149) dX4_gives_148 rfl ?_
                refine Z_iconst (n := 150) dX4_gives_149 rfl (by decide) ?_
                refine Z_icmp_ne (n := 153) (t := 157) dX4_gives_150 rfl (by decide) (fun c150 => ?_) (fun c150 => ?_)
                · refine Z_iconst (n := 158) dX4_gives_157 rfl (by decide) ?_
                  refine Z_goto (t := 206) dX4_gives_158 (by decide) ?_
                  refine Z_loc (L' := [some _, some _, some _, some _, some _, none, none, none, some _, some _]) (lsub_same (lsub_same (lsub_same (lsub_same (lsub_same (lsub_none (lsub_none (lsub_none (lsub_same (lsub_same lsub_nil)))))))))) ?_
                  exact ct206 _ _ _  (by first | assumption | omega | decide) (by first | assumption | omega | decide)
                · refine Z_iconst (n := 154) dX4_gives_153 rfl (by decide) ?_
                  refine Z_goto (t := 206) dX4_gives_154 (by decide) ?_
                  refine Z_loc (L' := [some _, some _, some _, some _, some _, none, none, none, some _, some _]) (lsub_same (lsub_same (lsub_same (lsub_same (lsub_same (lsub_none (lsub_none (lsub_none (lsub_same (lsub_same lsub_nil)))))))))) ?_
                  exact ct206 _ _ _  (by first | assumption | omega | decide) (by first | assumption | omega | decide)
            have ct93 : ∀ (p : Int) , (0 ≤ p) → (p ≤ 1) → TZ G mX4_gives (tl_rm 4 0 0) 0 0 kOn M J 93 [some (vR 31), some (vI net), some (vI o), some (vI a), some (vI g), some (vI (40 * net + g)), some (vI (M28 34 (40 * net + g))), some (vI x59), some (vI p), none] [] F1 M28 J28 (ZM G (zPost G kOn F1 M J (qI (fun x M' J' => J' = J))) 0 0) := by
              intro p  i93_0 i93_1
              refine Z_iload (n := 95) dX4_gives_93 rfl rfl ?_
              refine Z_iconst (n := 96) dX4_gives_95 rfl (by decide) ?_
              refine Z_icmp_le (n := 99) (t := 122) dX4_gives_96 rfl (by decide) (fun c96 => ?_) (fun c96 => ?_)
              · refine Z_iconst (n := 123) dX4_gives_122 rfl (by decide) ?_
                refine Z_istore (L' := [_, _, _, _, _, _, _, _, _, _]) (n := 125) dX4_gives_123 rfl (by decide) rfl rfl ?_
                refine Z_loc (L' := [some _, some _, some _, some _, some _, some _, some _, some _, some _, some _]) (lsub_same (lsub_same (lsub_same (lsub_same (lsub_same (lsub_same (lsub_same (lsub_same (lsub_same (lsub_same lsub_nil)))))))))) ?_
                exact ct125 _ _  (by first | assumption | omega | decide) (by first | assumption | omega | decide) (by first | assumption | omega | decide) (by first | assumption | omega | decide)
              · have hp1 := ho1 (by omega)
                refine Z_aload_n (n := 100) dX4_gives_99 rfl rfl ?_
                refine Z_getA (n := 103) dX4_gives_100 rfl ffX4_25 rfl rfl ?_
                refine Z_aload_n (n := 104) dX4_gives_103 rfl rfl ?_
                refine Z_getA (n := 107) dX4_gives_104 rfl ffX4_19 rfl rfl ?_
                refine Z_iconst (n := 108) dX4_gives_107 rfl (by decide) ?_
                refine Z_iload (n := 110) dX4_gives_108 rfl rfl ?_
                refine Z_imul (n := 111) dX4_gives_110 rfl (by omega) ?_
                refine Z_iconst (n := 112) dX4_gives_111 rfl (by decide) ?_
                refine Z_iadd (n := 113) dX4_gives_112 rfl (by omega) ?_
                refine Z_iald (n := 114) dX4_gives_113 rfl rfl rfl (by first | decide | assumption) (by omega) (by omega) (fun r113 s113 => ?_)
                refine Z_zald (n := 115) dX4_gives_114 rfl rfl rfl (by first | decide | assumption) (by omega) (by omega) (fun r114 s114 => ?_)
                refine Z_if_eq (n := 118) (t := 122) dX4_gives_115 rfl (by decide) (fun c115 => ?_) (fun c115 => ?_)
                · refine Z_iconst (n := 123) dX4_gives_122 rfl (by decide) ?_
                  refine Z_istore (L' := [_, _, _, _, _, _, _, _, _, _]) (n := 125) dX4_gives_123 rfl (by decide) rfl rfl ?_
                  refine Z_loc (L' := [some _, some _, some _, some _, some _, some _, some _, some _, some _, some _]) (lsub_same (lsub_same (lsub_same (lsub_same (lsub_same (lsub_same (lsub_same (lsub_same (lsub_same (lsub_same lsub_nil)))))))))) ?_
                  exact ct125 _ _  (by first | assumption | omega | decide) (by first | assumption | omega | decide) (by first | assumption | omega | decide) (by first | assumption | omega | decide)
                · refine Z_iconst (n := 119) dX4_gives_118 rfl (by decide) ?_
                  refine Z_goto (t := 123) dX4_gives_119 (by decide) ?_
                  refine Z_istore (L' := [_, _, _, _, _, _, _, _, _, _]) (n := 125) dX4_gives_123 rfl (by decide) rfl rfl ?_
                  refine Z_loc (L' := [some _, some _, some _, some _, some _, some _, some _, some _, some _, some _]) (lsub_same (lsub_same (lsub_same (lsub_same (lsub_same (lsub_same (lsub_same (lsub_same (lsub_same (lsub_same lsub_nil)))))))))) ?_
                  exact ct125 _ _  (by first | assumption | omega | decide) (by first | assumption | omega | decide) (by first | assumption | omega | decide) (by first | assumption | omega | decide)
            refine Z_istore (L' := [_, _, _, _, _, _, _, _, _, _]) (n := 64) dX4_gives_62 rfl (by decide) rfl rfl ?_
            refine Z_iload (n := 66) dX4_gives_64 rfl rfl ?_
            refine Z_if_le (n := 69) (t := 90) dX4_gives_66 rfl (by decide) (fun c66 => ?_) (fun c66 => ?_)
            · refine Z_iconst (n := 91) dX4_gives_90 rfl (by decide) ?_
              refine Z_istore (L' := [_, _, _, _, _, _, _, _, _, _]) (n := 93) dX4_gives_91 rfl (by decide) rfl rfl ?_
              refine Z_loc (L' := [some _, some _, some _, some _, some _, some _, some _, some _, some _, none]) (lsub_same (lsub_same (lsub_same (lsub_same (lsub_same (lsub_same (lsub_same (lsub_same (lsub_same (lsub_none lsub_nil)))))))))) ?_
              exact ct93 _  (by first | assumption | omega | decide) (by first | assumption | omega | decide)
            · have hp0 := ho0 (by omega)
              refine Z_aload_n (n := 70) dX4_gives_69 rfl rfl ?_
              refine Z_getA (n := 73) dX4_gives_70 rfl ffX4_25 rfl rfl ?_
              refine Z_aload_n (n := 74) dX4_gives_73 rfl rfl ?_
              refine Z_getA (n := 77) dX4_gives_74 rfl ffX4_19 rfl rfl ?_
              refine Z_iconst (n := 78) dX4_gives_77 rfl (by decide) ?_
              refine Z_iload (n := 80) dX4_gives_78 rfl rfl ?_
              refine Z_imul (n := 81) dX4_gives_80 rfl (by omega) ?_
              refine Z_iald (n := 82) dX4_gives_81 rfl rfl rfl (by first | decide | assumption) (by omega) (by omega) (fun r81 s81 => ?_)
              refine Z_zald (n := 83) dX4_gives_82 rfl rfl rfl (by first | decide | assumption) (by omega) (by omega) (fun r82 s82 => ?_)
              refine Z_if_eq (n := 86) (t := 90) dX4_gives_83 rfl (by decide) (fun c83 => ?_) (fun c83 => ?_)
              · refine Z_iconst (n := 91) dX4_gives_90 rfl (by decide) ?_
                refine Z_istore (L' := [_, _, _, _, _, _, _, _, _, _]) (n := 93) dX4_gives_91 rfl (by decide) rfl rfl ?_
                refine Z_loc (L' := [some _, some _, some _, some _, some _, some _, some _, some _, some _, none]) (lsub_same (lsub_same (lsub_same (lsub_same (lsub_same (lsub_same (lsub_same (lsub_same (lsub_same (lsub_none lsub_nil)))))))))) ?_
                exact ct93 _  (by first | assumption | omega | decide) (by first | assumption | omega | decide)
              · refine Z_iconst (n := 87) dX4_gives_86 rfl (by decide) ?_
                refine Z_goto (t := 91) dX4_gives_87 (by decide) ?_
                refine Z_istore (L' := [_, _, _, _, _, _, _, _, _, _]) (n := 93) dX4_gives_91 rfl (by decide) rfl rfl ?_
                refine Z_loc (L' := [some _, some _, some _, some _, some _, some _, some _, some _, some _, none]) (lsub_same (lsub_same (lsub_same (lsub_same (lsub_same (lsub_same (lsub_same (lsub_same (lsub_same (lsub_none lsub_nil)))))))))) ?_
                exact ct93 _  (by first | assumption | omega | decide) (by first | assumption | omega | decide)
      refine Z_loc (L' := [some _, some _, some _, some _, some _, none, none, none, none, none]) (lsub_same (lsub_same (lsub_same (lsub_same (lsub_same (lsub_none (lsub_none (lsub_none (lsub_none (lsub_none lsub_nil)))))))))) ?_
      exact lp28 _ _ _ _ (Nat.lt_succ_self _) (by first | rfl | assumption) (by first | assumption | omega | decide) (by first | assumption | omega | decide)
    · refine Z_bipush (n := 24) dX4_gives_22 rfl (by decide) (by decide) ?_
      refine Z_iret dX4_gives_24 rfl ?_
      rfl
  · refine Z_iconst (n := 10) dX4_gives_9 rfl (by decide) ?_
    refine Z_iret dX4_gives_10 rfl ?_
    rfl
