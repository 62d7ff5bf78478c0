/-! ===== the reference: equal keeps the handles ===== -/
def eqR (M : zM) (J : zJ) (M' : zM) (J' : zJ) : Prop := (∀ j : Int, j < 12 → M' 43 j = M 43 j) ∧ (∀ j : Int, j < 48 → J' 44 j = J 44 j) ∧ M' 31 8 = M 31 8
theorem eqR_h {M M' : zM} {J J' : zJ} (h : hdl M M') (b : ∀ j : Int, j < 48 → J' 44 j = J 44 j) : eqR M J M' J' := ⟨fun j hj => (h.1 j hj).2, b, h.2.2 8 (by decide) (by decide) (by decide) (by decide)⟩
theorem eqR_u {M M' : zM} {J J' : zJ} {v w : Int} (h : eqR M J M' J') : eqR M J (uz (uz M' 31 33 v) 31 34 w) J' := ⟨fun j hj => by rw [uz_oo (by decide), uz_oo (by decide)]; exact h.1 j hj, h.2.1, by rw [uz_n (by decide), uz_n (by decide)]; exact h.2.2⟩
set_option maxRecDepth 20000 in
theorem zX4_equal_g {G : tl_G} {M : zM} {J : zJ} {net oth : Int} (hr : RI M J) (hk : M 31 27 ≤ 2000000000) (hW : whOK J) : ZN G yX4_equal mX4_equal 6 kRg [vR 31, vI net, vI oth] F1 M J (qI (fun x M' J' => RI M' J' ∧ M' 31 27 ≤ M 31 27 + 400 ∧ eqR M J M' J')) := by
  refine ZN_of (L := [_, _, _, _, _, _, _, _]) (by decide) rfl rfl (Nat.le_of_ble_eq_true rfl) rfl (fun hav => ?_)
  refine Z_ok (fun ok0 => ?_)
  refine Z_iload_n (n := 1) dX4_equal_0 rfl rfl ?_
  refine Z_callSi (n := 4) [_] _ dX4_equal_1 rfl cwX4_116 rfl rfl (Nat.le_of_ble_eq_true rfl) (by refine ⟨?_, ?_, ?_, ?_⟩ <;> exact Nat.le_of_ble_eq_true rfl) (fun _ _ => trivial) (zX4_isNet  ) ?_
  intro x1 M1 J1 z1 f1 q1
  obtain ⟨e1_1, e1_2, h1⟩ := q1
  replace e1_1 := e1_1.symm; subst e1_1
  replace e1_2 := e1_2.symm; subst e1_2
  refine Z_if_eq (n := 7) (t := 14) dX4_equal_4 rfl (by decide) (fun c4 => ?_) (fun c4 => ?_)
  · refine Z_iconst (n := 15) dX4_equal_14 rfl (by decide) ?_
    refine Z_iret dX4_equal_15 rfl ?_
    exact ⟨hr, by omega, eqR_h hdl_0 (fun _ _ => rfl)⟩
  · refine Z_iload_n (n := 8) dX4_equal_7 rfl rfl ?_
    refine Z_callSi (n := 11) [_] _ dX4_equal_8 rfl cwX4_116 rfl rfl (Nat.le_of_ble_eq_true rfl) (by refine ⟨?_, ?_, ?_, ?_⟩ <;> exact Nat.le_of_ble_eq_true rfl) (fun _ _ => trivial) (zX4_isNet  ) ?_
    intro x8 M8 J8 z8 f8 q8
    obtain ⟨e8_1, e8_2, h8⟩ := q8
    replace e8_1 := e8_1.symm; subst e8_1
    replace e8_2 := e8_2.symm; subst e8_2
    refine Z_if_ne (n := 14) (t := 16) dX4_equal_11 rfl (by decide) (fun c11 => ?_) (fun c11 => ?_)
    · refine Z_aload_n (n := 17) dX4_equal_16 rfl rfl ?_
      refine Z_getA (n := 20) dX4_equal_17 rfl ffX4_13 rfl rfl ?_
      refine Z_iload_n (n := 21) dX4_equal_20 rfl rfl ?_
      refine Z_iald (n := 22) dX4_equal_21 rfl rfl rfl (by first | decide | assumption) (by omega) (by omega) (fun r21 s21 => ?_)
      refine Z_aload_n (n := 23) dX4_equal_22 rfl rfl ?_
      refine Z_getA (n := 26) dX4_equal_23 rfl ffX4_13 rfl rfl ?_
      refine Z_iload_n (n := 27) dX4_equal_26 rfl rfl ?_
      refine Z_iald (n := 28) dX4_equal_27 rfl rfl rfl (by first | decide | assumption) (by omega) (by omega) (fun r27 s27 => ?_)
      refine Z_icmp_eq (n := 31) (t := 34) dX4_equal_28 rfl (by decide) (fun c28 => ?_) (fun c28 => ?_)
      · refine Z_rg 33 net rfl (fun g33 g33b => ?_)
        refine Z_rg 33 oth rfl (fun o33 o33b => ?_)
        refine Z_aload_n (n := 35) dX4_equal_34 rfl rfl ?_
        refine Z_getA (n := 38) dX4_equal_35 rfl ffX4_13 rfl rfl ?_
        refine Z_iload_n (n := 39) dX4_equal_38 rfl rfl ?_
        refine Z_iald (n := 40) dX4_equal_39 rfl rfl rfl (by first | decide | assumption) (by omega) (by omega) (fun r39 s39 => ?_)
        refine Z_if_le (n := 43) (t := 47) dX4_equal_40 rfl (by decide) (fun c40 => ?_) (fun c40 => ?_)
        · have t49 := hr.1
          have d49 := hdl_0 (M := M)
          have m49 : M 31 27 ≤ M 31 27 + 82 * 0 := by omega
          have h49 := hr.2.1
          refine Z_iconst (n := 48) dX4_equal_47 rfl (by decide) ?_
          refine Z_istore_n (L' := [_, _, _, _, _, _, _, _]) (n := 49) dX4_equal_48 rfl (by decide) rfl rfl ?_
          have lp49 : ∀ (N49 : Nat) (o : Int) (M49 : zM) (J49 : zJ), ((4 - o).toNat) < N49 → (0 ≤ o) → (o ≤ 4) → (TI M49 J49) → (hdl M M49) → (M49 31 27 ≤ M 31 27 + 82 * o) → (∀ j : Int, j < 48 → J49 44 j = J 44 j) → (hnd0 M49) → TZ G mX4_equal (tl_rm 6 0 0) 0 0 kRg M J 49 [some (vR 31), some (vI net), some (vI oth), some (vI o), none, none, none, none] [] F1 M49 J49 (ZM G (zPost G kRg F1 M J (qI (fun x M' J' => RI M' J' ∧ M' 31 27 ≤ M 31 27 + 400 ∧ eqR M J M' J'))) 0 0) := by
            intro N49
            induction N49 with
            | zero => intro o M49 J49 hN; omega
            | succ N49 ih49 =>
              intro o M49 J49 hN49 i49_0 i49_1 i49_2 i49_3 i49_4 i49_5 i49_6
              refine Z_iload_n (n := 50) dX4_equal_49 rfl rfl ?_
              refine Z_aload_n (n := 51) dX4_equal_50 rfl rfl ?_
              refine Z_getA (n := 54) dX4_equal_51 rfl ffX4_13 rfl rfl ?_
              refine Z_iload_n (n := 55) dX4_equal_54 rfl rfl ?_
              refine Z_iald (n := 56) dX4_equal_55 rfl rfl rfl (by first | decide | assumption) (by omega) (by omega) (fun r55 s55 => ?_)
              refine Z_icmp_ge (n := 59) (t := 212) dX4_equal_56 rfl (by decide) (fun c56 => ?_) (fun c56 => ?_)
              · refine Z_iconst (n := 213) dX4_equal_212 rfl (by decide) ?_
                refine Z_fr (fun frR => ?_)
                refine Z_iret dX4_equal_213 rfl ?_
                have u49 : M49 31 24 = M 31 24 := use_det hr.1 i49_2 hr.2.1 i49_6 i49_3 ok0
                have r49 : M49 31 8 = M 31 8 := i49_3.2.2 8 (by decide) (by decide) (by decide) (by decide)
                have u0 := hr.2.2.1
                exact ⟨RI_mk hr frR i49_2 i49_6 (by omega), by omega, eqR_h i49_3 i49_5⟩
              · have ct172 : ∀ (a b y p : Int) (M172 : zM) (J172 : zJ), (TI M172 J172) → (hdl M M172) → (M172 31 27 ≤ M 31 27 + (82 * o + 82)) → (∀ j : Int, j < 48 → J172 44 j = J 44 j) → TZ G mX4_equal (tl_rm 6 0 0) 0 0 kRg M J 172 [some (vR 31), some (vI net), some (vI oth), some (vI o), some (vI a), some (vI b), some (vI y), some (vI p)] [] F1 M172 J172 (ZM G (zPost G kRg F1 M J (qI (fun x M' J' => RI M' J' ∧ M' 31 27 ≤ M 31 27 + 400 ∧ eqR M J M' J'))) 0 0) := by
                  intro a b y p M172 J172 i172_0 i172_1 i172_2 i172_3
                  refine Z_aload_n (n := 173) dX4_equal_172 rfl rfl ?_
                  refine Z_callVv (n := 176) [] _ dX4_equal_173 rfl cwX4_185 rfl rfl rfl (Nat.le_of_ble_eq_true rfl) (by refine ⟨?_, ?_, ?_, ?_⟩ <;> exact Nat.le_of_ble_eq_true rfl) (fun a h => by unfold kRg at h; unfold kRv; omega) (zX4_clearHand  (by exact i172_0)) ?_
                  intro M173 J173 f173 q173
                  obtain ⟨ti173, hn173, am173, au173, hd173⟩ := q173
                  have hd2 := hdl_t i172_1 hd173
                  have b173 : ∀ j : Int, j < 48 → J173 44 j = J 44 j := fun j hj => (congrFun (f173 44 (by decide)).2 j).trans (i172_3 j hj)
                  have u173 : M173 31 24 = M 31 24 := use_det hr.1 ti173 hr.2.1 hn173 hd2 ok0
                  have r173 : M173 31 8 = M 31 8 := hd2.2.2 8 (by decide) (by decide) (by decide) (by decide)
                  have u0 := hr.2.2.1
                  refine Z_iload (n := 178) dX4_equal_176 rfl rfl ?_
                  refine Z_if_ne (n := 181) (t := 184) dX4_equal_178 rfl (by decide) (fun c178 => ?_) (fun c178 => ?_)
                  · refine Z_iload (n := 186) dX4_equal_184 rfl rfl ?_
                    refine Z_if_lt (n := 189) (t := 206) dX4_equal_186 rfl (by decide) (fun c186 => ?_) (fun c186 => ?_)
                    · refine Z_iinc (L' := [_, _, _, _, _, _, _, _]) (n := 209) dX4_equal_206 rfl rfl (by decide) rfl rfl (by omega) rfl ?_
                      refine Z_goto (t := 49) dX4_equal_209 (by decide) ?_
                      refine Z_loc (L' := [some _, some _, some _, some _, none, none, none, none]) (lsub_same (lsub_same (lsub_same (lsub_same (lsub_none (lsub_none (lsub_none (lsub_none lsub_nil)))))))) ?_
                      exact ih49 _ _ _ (by omega) (by first | assumption | omega | decide) (by first | assumption | omega | decide) (by exact ti173) (by exact hd2) (by omega) (by exact b173) (by exact hn173)
                    · refine Z_aload_n (n := 190) dX4_equal_189 rfl rfl ?_
                      refine Z_iload_n (n := 191) dX4_equal_190 rfl rfl ?_
                      refine Z_putI (n := 194) (ki := 33) dX4_equal_191 rfl ffX4_106 rfl (by decide) rfl rfl (by first | omega | exact (show zI o from by omega).1) (by first | omega | exact (show zI o from by omega).1) (by decide) ?_
                      refine Z_aload_n (n := 195) dX4_equal_194 rfl rfl ?_
                      refine Z_aload_n (n := 196) dX4_equal_195 rfl rfl ?_
                      refine Z_iload (n := 198) dX4_equal_196 rfl rfl ?_
                      refine Z_callVi (n := 201) [_] _ dX4_equal_198 rfl cwX4_250 rfl rfl rfl (Nat.le_of_ble_eq_true rfl) (by refine ⟨?_, ?_, ?_, ?_⟩ <;> exact Nat.le_of_ble_eq_true rfl) (fun _ _ => trivial) (zX4_assignmentAt  ) ?_
                      intro x198 M198 J198 z198 f198 q198
                      obtain ⟨e198_1, e198_2, h198⟩ := q198
                      replace e198_1 := e198_1.symm; subst e198_1
                      replace e198_2 := e198_2.symm; subst e198_2
                      refine Z_putI (n := 204) (ki := 34) dX4_equal_201 rfl ffX4_109 rfl (by decide) rfl rfl (by first | exact z198.1 | exact z198.2) (by first | exact z198.1 | exact z198.2) (by decide) ?_
                      refine Z_iconst (n := 205) dX4_equal_204 rfl (by decide) ?_
                      refine Z_fr (fun frR => ?_)
                      refine Z_iret dX4_equal_205 rfl ?_
                      exact ⟨RI_mk hr frR (TI_31 (TI_31 ti173 (by decide) (by decide) (by decide)) (by decide) (by decide) (by decide)) (fun g a b => by rw [uz_oo (by decide), uz_oo (by decide)]; exact hn173 g a b) (by rw [uz_n (by decide), uz_n (by decide), uz_n (by decide), uz_n (by decide)]; omega), by rw [uz_n (by decide), uz_n (by decide)]; omega, eqR_u (eqR_h hd2 b173)⟩
                  · refine Z_bipush (n := 183) dX4_equal_181 rfl (by decide) (by decide) ?_
                    refine Z_fr (fun frR => ?_)
                    refine Z_iret dX4_equal_183 rfl ?_
                    exact ⟨RI_mk hr frR ti173 hn173 (by omega), by omega, eqR_h hd2 b173⟩
                have ct154 : ∀ (a b y : Int) (M154 : zM) (J154 : zJ), (TI M154 J154) → (hdl M M154) → (M154 31 27 ≤ M 31 27 + (82 * o + 82)) → (∀ j : Int, j < 48 → J154 44 j = J 44 j) → TZ G mX4_equal (tl_rm 6 0 0) 0 0 kRg M J 154 [some (vR 31), some (vI net), some (vI oth), some (vI o), some (vI a), some (vI b), some (vI y), none] [] F1 M154 J154 (ZM G (zPost G kRg F1 M J (qI (fun x M' J' => RI M' J' ∧ M' 31 27 ≤ M 31 27 + 400 ∧ eqR M J M' J'))) 0 0) := by
                  intro a b y M154 J154 i154_0 i154_1 i154_2 i154_3
                  refine Z_iload (n := 156) dX4_equal_154 rfl rfl ?_
                  refine Z_if_eq (n := 159) (t := 169) dX4_equal_156 rfl (by decide) (fun c156 => ?_) (fun c156 => ?_)
                  · have q0 := i154_0
                    have q1 := i154_1
                    have q3 := i154_3
                    refine Z_iconst (n := 170) dX4_equal_169 rfl (by decide) ?_
                    refine Z_istore (L' := [_, _, _, _, _, _, _, _]) (n := 172) dX4_equal_170 rfl (by decide) rfl rfl ?_
                    refine Z_loc (L' := [some _, some _, some _, some _, some _, some _, some _, some _]) (lsub_same (lsub_same (lsub_same (lsub_same (lsub_same (lsub_same (lsub_same (lsub_same lsub_nil)))))))) ?_
                    exact ct172 _ _ _ _ _ _ (by exact q0) (by exact q1) (by omega) (by exact q3)
                  · have q0 := i154_0
                    have q1 := i154_1
                    have q3 := i154_3
                    refine Z_aload_n (n := 160) dX4_equal_159 rfl rfl ?_
                    refine Z_bipush (n := 162) dX4_equal_160 rfl (by decide) (by decide) ?_
                    refine Z_iconst (n := 163) dX4_equal_162 rfl (by decide) ?_
                    refine Z_callVi (n := 166) [_, _] _ dX4_equal_163 rfl cwX4_246 rfl rfl rfl (Nat.le_of_ble_eq_true rfl) (by refine ⟨?_, ?_, ?_, ?_⟩ <;> exact Nat.le_of_ble_eq_true rfl) (fun _ _ => trivial) (zX4_leastOf  (by omega) (by omega)) ?_
                    intro x163 M163 J163 z163 f163 q163
                    obtain ⟨e163_1, e163_2, h163⟩ := q163
                    replace e163_1 := e163_1.symm; subst e163_1
                    replace e163_2 := e163_2.symm; subst e163_2
                    refine Z_goto (t := 170) dX4_equal_166 (by decide) ?_
                    refine Z_istore (L' := [_, _, _, _, _, _, _, _]) (n := 172) dX4_equal_170 rfl (by decide) rfl rfl ?_
                    refine Z_loc (L' := [some _, some _, some _, some _, some _, some _, some _, some _]) (lsub_same (lsub_same (lsub_same (lsub_same (lsub_same (lsub_same (lsub_same (lsub_same lsub_nil)))))))) ?_
                    exact ct172 _ _ _ _ _ _ (by exact q0) (by exact q1) (by omega) (by exact q3)
                have ct126 : ∀ (a b y : Int) (M126 : zM) (J126 : zJ), (TI M126 J126) → (hdl M M126) → (M126 31 27 ≤ M 31 27 + (82 * o + 81)) → (∀ j : Int, j < 48 → J126 44 j = J 44 j) → (0 ≤ b ∧ b < 40) → (y = 0 ∨ (M126 43 55 = 0 ∧ M126 31 24 ≤ M126 31 8)) → TZ G mX4_equal (tl_rm 6 0 0) 0 0 kRg M J 126 [some (vR 31), some (vI net), some (vI oth), some (vI o), some (vI a), some (vI b), some (vI y), none] [] F1 M126 J126 (ZM G (zPost G kRg F1 M J (qI (fun x M' J' => RI M' J' ∧ M' 31 27 ≤ M 31 27 + 400 ∧ eqR M J M' J'))) 0 0) := by
                  intro a b y M126 J126 i126_0 i126_1 i126_2 i126_3 i126_4 i126_5
                  
                  refine Z_iload (n := 128) dX4_equal_126 rfl rfl ?_
                  refine Z_if_eq (n := 131) (t := 154) dX4_equal_128 rfl (by decide) (fun c128 => ?_) (fun c128 => ?_)
                  · have q0 := i126_0
                    have q1 := i126_1
                    have q3 := i126_3
                    refine Z_loc (L' := [some _, some _, some _, some _, some _, some _, some _, none]) (lsub_same (lsub_same (lsub_same (lsub_same (lsub_same (lsub_same (lsub_same (lsub_none lsub_nil)))))))) ?_
                    exact ct154 _ _ _ _ _ (by exact q0) (by exact q1) (by omega) (by exact q3)
                  · have hy := i126_5.resolve_left c128
                    have hyb := hy.2
                    refine Z_rg 31 8 rfl (fun g8d g8db => ?_)
                    refine Z_aload_n (n := 132) dX4_equal_131 rfl rfl ?_
                    refine Z_bipush (n := 134) dX4_equal_132 rfl (by decide) (by decide) ?_
                    refine Z_bipush (n := 136) dX4_equal_134 rfl (by decide) (by decide) ?_
                    refine Z_bipush (n := 138) dX4_equal_136 rfl (by decide) (by decide) ?_
                    refine Z_bipush (n := 140) dX4_equal_138 rfl (by decide) (by decide) ?_
                    refine Z_iload (n := 142) dX4_equal_140 rfl rfl ?_
                    refine Z_iadd (n := 143) dX4_equal_142 rfl (by omega) ?_
                    refine Z_callVv (n := 146) [_, _, _, _] _ dX4_equal_143 rfl cwX4_204 rfl rfl rfl (Nat.le_of_ble_eq_true rfl) (by refine ⟨?_, ?_, ?_, ?_⟩ <;> exact Nat.le_of_ble_eq_true rfl) (fun a h => by unfold kRg at h; unfold kBits; omega) (zX4_makeOf  (by omega) (by omega) (by omega) (by omega) (by omega) (by omega)) ?_
                    intro M143 J143 f143 q143
                    obtain ⟨e143_1, mo143, mb143, vo143⟩ := q143
                    replace e143_1 := e143_1.symm; subst e143_1
                    refine Z_aload_n (n := 147) dX4_equal_146 rfl rfl ?_
                    refine Z_bipush (n := 149) dX4_equal_147 rfl (by decide) (by decide) ?_
                    refine Z_callVi (n := 152) [_] _ dX4_equal_149 rfl cwX4_207 rfl rfl rfl (Nat.le_of_ble_eq_true rfl) (by refine ⟨?_, ?_, ?_, ?_⟩ <;> exact Nat.le_of_ble_eq_true rfl) (fun a h => by unfold kRg at h; unfold kAd; omega) (zX4_steps  (by omega) (by omega) (by exact TI_bits i126_0 hy.1 (f143 48 (by decide)).2 vo143) (by exact hy.1) (by omega) (by omega)) ?_
                    intro x149 M149 J149 z149 f149 q149
                    obtain ⟨ti149, ah149, am149, au149, af149, xs149⟩ := q149
                    have q0 := ti149
                    have q1 := hdl_t i126_1 (hdl_a af149 (by decide))
                    have q3 : ∀ j : Int, j < 48 → J149 44 j = J 44 j := fun j hj => (congrFun (f149 44 (by decide)).2 j).trans ((vo143 j (by omega)).trans (i126_3 j hj))
                    refine Z_istore (L' := [_, _, _, _, _, _, _, _]) (n := 154) dX4_equal_152 rfl (by decide) rfl rfl ?_
                    refine Z_loc (L' := [some _, some _, some _, some _, some _, some _, some _, none]) (lsub_same (lsub_same (lsub_same (lsub_same (lsub_same (lsub_same (lsub_same (lsub_none lsub_nil)))))))) ?_
                    exact ct154 _ _ _ _ _ (by exact q0) (by exact q1) (by omega) (by exact q3)
                refine Z_fr (fun fr49 => ?_)
                refine Z_rg 31 8 rfl (fun g8 g8b => ?_)
                have e33n : M49 33 net = M 33 net := congrFun (fr49 33 (by decide)).1 net
                have e33o : M49 33 oth = M 33 oth := congrFun (fr49 33 (by decide)).1 oth
                have u49 : M49 31 24 = M 31 24 := use_det hr.1 i49_2 hr.2.1 i49_6 i49_3 ok0
                have r49 : M49 31 8 = M 31 8 := i49_3.2.2 8 (by decide) (by decide) (by decide) (by decide)
                have u0 := hr.2.2.1
                have hN1 : rNt M49 net := rNt_fr (hr.2.2.2.2 net (by omega) (by omega)) (fr49 32 (by decide)).1 (fr49 33 (by decide)).1 (fr49 34 (by decide)).1 (fr49 35 (by decide)).1 (fr49 36 (by decide)).1
                have hN2z : rNt M49 oth := rNt_fr (hr.2.2.2.2 oth (by omega) (by omega)) (fr49 32 (by decide)).1 (fr49 33 (by decide)).1 (fr49 34 (by decide)).1 (fr49 35 (by decide)).1 (fr49 36 (by decide)).1
                have ha1 := hN1.2 o (by omega) (by omega)
                have hb1z := hN2z.2 o (by omega) (by omega)
                have hW49 : whOK J49 := fun q a b => by rw [(fr49 54 (by decide)).2]; exact hW q a b
                have ob49 : rOrd M49 := rOrd_fr hr.2.2.2.1 (fr49 39 (by decide)).1
                refine Z_aload_n (n := 60) dX4_equal_59 rfl rfl ?_
                refine Z_getA (n := 63) dX4_equal_60 rfl ffX4_22 rfl rfl ?_
                refine Z_iconst (n := 64) dX4_equal_63 rfl (by decide) ?_
                refine Z_iload_n (n := 65) dX4_equal_64 rfl rfl ?_
                refine Z_imul (n := 66) dX4_equal_65 rfl (by omega) ?_
                refine Z_iload_n (n := 67) dX4_equal_66 rfl rfl ?_
                refine Z_iadd (n := 68) dX4_equal_67 rfl (by omega) ?_
                refine Z_iald (n := 69) dX4_equal_68 rfl rfl rfl (by first | decide | assumption) (by omega) (by omega) (fun r68 s68 => ?_)
                refine Z_istore (L' := [_, _, _, _, _, _, _, _]) (n := 71) dX4_equal_69 rfl (by decide) rfl rfl ?_
                refine Z_aload_n (n := 72) dX4_equal_71 rfl rfl ?_
                refine Z_getA (n := 75) dX4_equal_72 rfl ffX4_22 rfl rfl ?_
                refine Z_iconst (n := 76) dX4_equal_75 rfl (by decide) ?_
                refine Z_iload_n (n := 77) dX4_equal_76 rfl rfl ?_
                refine Z_imul (n := 78) dX4_equal_77 rfl (by omega) ?_
                refine Z_iload_n (n := 79) dX4_equal_78 rfl rfl ?_
                refine Z_iadd (n := 80) dX4_equal_79 rfl (by omega) ?_
                refine Z_iald (n := 81) dX4_equal_80 rfl rfl rfl (by first | decide | assumption) (by omega) (by omega) (fun r80 s80 => ?_)
                refine Z_istore (L' := [_, _, _, _, _, _, _, _]) (n := 83) dX4_equal_81 rfl (by decide) rfl rfl ?_
                refine Z_rg 32 net rfl (fun g32 g32b => ?_)
                refine Z_rg 32 oth rfl (fun o32 o32b => ?_)
                refine Z_rg 36 (4 * net + o) rfl (fun g36 g36b => ?_)
                refine Z_rg 36 (4 * oth + o) rfl (fun o36 o36b => ?_)
                refine Z_aload_n (n := 84) dX4_equal_83 rfl rfl ?_
                refine Z_iload_n (n := 85) dX4_equal_84 rfl rfl ?_
                refine Z_iload (n := 87) dX4_equal_85 rfl rfl ?_
                refine Z_callVi (n := 90) [_, _] _ dX4_equal_87 rfl cwX4_216 rfl rfl rfl (Nat.le_of_ble_eq_true rfl) (by refine ⟨?_, ?_, ?_, ?_⟩ <;> exact Nat.le_of_ble_eq_true rfl) (fun _ h => h) (zX4_builds_g  (by omega) (by omega) (by omega) (by exact ha1) (by exact hN1) (by exact i49_2) (by exact fun y a b => i49_6 (12 + y) (by omega) (by omega)) (by omega) (by omega) (by exact hW49) (by exact ob49)) ?_
                intro x87 M87 J87 z87 f87 q87
                obtain ⟨ti87, hd87, mk87, hi87, bi87, bx87, rb87⟩ := q87
                have bj87 : ∀ j : Int, j < 48 → J87 44 j = J 44 j := fun j hj => (bi87 j (Or.inl hj)).trans (i49_5 j hj)
                refine Z_istore (L' := [_, _, _, _, _, _, _, _]) (n := 92) dX4_equal_90 rfl (by decide) rfl rfl ?_
                refine Z_iload (n := 94) dX4_equal_92 rfl rfl ?_
                refine Z_if_eq (n := 97) (t := 126) dX4_equal_94 rfl (by decide) (fun c94 => ?_) (fun c94 => ?_)
                · have q0 := ti87
                  have q1 := hdl_t i49_3 hd87
                  have q3 := bj87
                  have q4 : x87 = 0 ∨ (M87 43 55 = 0 ∧ M87 31 24 ≤ M87 31 8) := Or.inl c94
                  refine Z_loc (L' := [some _, some _, some _, some _, some _, some _, some _, none]) (lsub_same (lsub_same (lsub_same (lsub_same (lsub_same (lsub_same (lsub_same (lsub_none lsub_nil)))))))) ?_
                  exact ct126 _ _ _ _ _ (by exact q0) (by exact q1) (by omega) (by exact q3) (by omega) (by exact q4)
                · obtain ⟨-, b87⟩ := bx87.resolve_right (by omega)
                  clear bx87
                  refine Z_rg 31 8 rfl (fun g8c g8cb => ?_)
                  have b87a := b87.1
                  refine Z_aload_n (n := 98) dX4_equal_97 rfl rfl ?_
                  refine Z_bipush (n := 100) dX4_equal_98 rfl (by decide) (by decide) ?_
                  refine Z_iload (n := 102) dX4_equal_100 rfl rfl ?_
                  refine Z_iadd (n := 103) dX4_equal_102 rfl (by omega) ?_
                  refine Z_bipush (n := 105) dX4_equal_103 rfl (by decide) (by decide) ?_
                  refine Z_callVv (n := 108) [_, _] _ dX4_equal_105 rfl cwX4_182 rfl rfl rfl (Nat.le_of_ble_eq_true rfl) (by refine ⟨?_, ?_, ?_, ?_⟩ <;> exact Nat.le_of_ble_eq_true rfl) (fun a h => by unfold kRg at h; unfold kTk; omega) (zX4_take  (by omega) (by omega) (by omega) (by omega) (by omega) (by exact ti87) (by exact b87.2.1) (by omega) (by omega)) ?_
                  intro M105 J105 f105 q105
                  obtain ⟨ti105, ah105, am105, au105, af105, b1105, b2105⟩ := q105
                  
                  refine Z_aload_n (n := 109) dX4_equal_108 rfl rfl ?_
                  refine Z_bipush (n := 111) dX4_equal_109 rfl (by decide) (by decide) ?_
                  refine Z_iload (n := 113) dX4_equal_111 rfl rfl ?_
                  refine Z_iadd (n := 114) dX4_equal_113 rfl (by omega) ?_
                  refine Z_callVv (n := 117) [_] _ dX4_equal_114 rfl cwX4_179 rfl rfl rfl (Nat.le_of_ble_eq_true rfl) (by refine ⟨?_, ?_, ?_, ?_⟩ <;> exact Nat.le_of_ble_eq_true rfl) (fun a h => by unfold kRg at h; unfold kRv; omega) (zX4_remove  (by omega) (by omega) (by exact ti105)) ?_
                  intro M114 J114 f114 q114
                  obtain ⟨ti114, ah114, am114, au114, af114⟩ := q114
                  have hd114 : hdl M M114 := hdl_t i49_3 (hdl_t hd87 (hdl_t (hdl_a af105 (by decide)) (hdl_a af114 (by omega))))
                  have bj114 : ∀ j : Int, j < 48 → J114 44 j = J 44 j := fun j hj => (congrFun (f114 44 (by decide)).2 j).trans ((b2105 j (by omega)).trans (bj87 j hj))
                  have e114 : ∀ a : Nat, kRg a → M114 a = M87 a := fun a ha => ((f114 a (by unfold kRg at ha; unfold kRv; omega)).1).trans (f105 a (by unfold kRg at ha; unfold kTk; omega)).1
                  have hN2 : rNt M114 oth := rNt_fr hN2z ((e114 32 (by decide)).trans (f87 32 (by decide)).1) ((e114 33 (by decide)).trans (f87 33 (by decide)).1) ((e114 34 (by decide)).trans (f87 34 (by decide)).1) ((e114 35 (by decide)).trans (f87 35 (by decide)).1) ((e114 36 (by decide)).trans (f87 36 (by decide)).1)
                  have hb1 : M49 36 (4 * oth + o) < M114 32 oth := by rw [e114 32 (by decide), (f87 32 (by decide)).1]; exact hb1z
                  have hh114 : ∀ y : Int, 0 ≤ y → y < 40 → M114 43 (12 + y) = 0 := fun y a b => by
                    by_cases e : y = M49 36 (4 * net + o)
                    · rw [e]; exact ah114
                    · rw [(af114.1 _ (by omega)).2, (af105.1 _ (by omega)).2]; exact b87.2.2 y a b e
                  have h55 : M114 43 55 = 0 := by
                    rw [(af114.1 55 (by omega)).2, (af105.1 55 (by decide)).2, hi87 55 (by decide) (by decide)]
                    exact i49_6 55 (by decide) (by decide)
                  have hW114 : whOK J114 := fun q a b => by rw [(f114 54 (by decide)).2, (f105 54 (by decide)).2, (f87 54 (by decide)).2]; exact hW49 q a b
                  have ob114 : rOrd M114 := rOrd_fr ob49 ((e114 39 (by decide)).trans (f87 39 (by decide)).1)
                  have r114 : M114 31 8 = M87 31 8 := (af114.2.2 8 (by decide) (by decide) (by decide) (by decide)).trans (af105.2.2 8 (by decide) (by decide) (by decide) (by decide))
                  refine Z_aload_n (n := 118) dX4_equal_117 rfl rfl ?_
                  refine Z_iload_n (n := 119) dX4_equal_118 rfl rfl ?_
                  refine Z_iload (n := 121) dX4_equal_119 rfl rfl ?_
                  refine Z_callVi (n := 124) [_, _] _ dX4_equal_121 rfl cwX4_216 rfl rfl rfl (Nat.le_of_ble_eq_true rfl) (by refine ⟨?_, ?_, ?_, ?_⟩ <;> exact Nat.le_of_ble_eq_true rfl) (fun _ h => h) (zX4_builds_g  (by omega) (by omega) (by omega) (by exact hb1) (by exact hN2) (by exact ti114) (by exact hh114) (by omega) (by omega) (by exact hW114) (by exact ob114)) ?_
                  intro x121 M121 J121 z121 f121 q121
                  obtain ⟨ti121, hd121, mk121, hi121, bi121, bx121, rb121⟩ := q121
                  have q0 := ti121
                  have q1 := hdl_t hd114 hd121
                  have q3 : ∀ j : Int, j < 48 → J121 44 j = J 44 j := fun j hj => (bi121 j (Or.inl hj)).trans (bj114 j hj)
                  have q4 : x121 = 0 ∨ (M121 43 55 = 0 ∧ M121 31 24 ≤ M121 31 8) := by
                    rcases bx121 with ⟨-, a, -⟩ | a
                    · exact Or.inr ⟨(hi121 55 (by decide) (by decide)).trans h55, a⟩
                    · exact Or.inl a
                  clear bx121
                  refine Z_istore (L' := [_, _, _, _, _, _, _, _]) (n := 126) dX4_equal_124 rfl (by decide) rfl rfl ?_
                  refine Z_loc (L' := [some _, some _, some _, some _, some _, some _, some _, none]) (lsub_same (lsub_same (lsub_same (lsub_same (lsub_same (lsub_same (lsub_same (lsub_none lsub_nil)))))))) ?_
                  exact ct126 _ _ _ _ _ (by exact q0) (by exact q1) (by omega) (by exact q3) (by omega) (by exact q4)
          refine Z_loc (L' := [some _, some _, some _, some _, none, none, none, none]) (lsub_same (lsub_same (lsub_same (lsub_same (lsub_none (lsub_none (lsub_none (lsub_none lsub_nil)))))))) ?_
          exact lp49 _ _ _ _ (Nat.lt_succ_self _) (by first | assumption | omega | decide) (by first | assumption | omega | decide) (by exact t49) (by exact d49) (by exact m49) (by exact fun _ _ => rfl) (by exact h49)
        · refine Z_aload_n (n := 44) dX4_equal_43 rfl rfl ?_
          refine Z_callVv (n := 47) [] _ dX4_equal_44 rfl cwX4_213 rfl rfl rfl (Nat.le_of_ble_eq_true rfl) (by refine ⟨?_, ?_, ?_, ?_⟩ <;> exact Nat.le_of_ble_eq_true rfl) (fun _ h => h) (zX4_begin  (by decide)) ?_
          intro M44 J44 f44 q44
          obtain ⟨e44_1, e44_2⟩ := q44
          replace e44_1 := e44_1.symm; subst e44_1
          replace e44_2 := e44_2.symm; subst e44_2
          obtain ⟨tb, hb, ub, mb, db, ob⟩ := begin_ok hr
          refine Z_nm (fun M44 e44 => ?_)
          rw [← e44] at tb hb ub mb db ob
          clear e44
          refine Z_rg 31 8 rfl (fun gb8 gb8b => ?_)
          have t49 := tb
          have d49 := db
          have m49 : M44 31 27 ≤ M 31 27 + 82 * 0 := by omega
          have h49 := hb
          refine Z_iconst (n := 48) dX4_equal_47 rfl (by decide) ?_
          refine Z_istore_n (L' := [_, _, _, _, _, _, _, _]) (n := 49) dX4_equal_48 rfl (by decide) rfl rfl ?_
          have lp49 : ∀ (N49 : Nat) (o : Int) (M49 : zM) (J49 : zJ), ((4 - o).toNat) < N49 → (0 ≤ o) → (o ≤ 4) → (TI M49 J49) → (hdl M M49) → (M49 31 27 ≤ M 31 27 + 82 * o) → (∀ j : Int, j < 48 → J49 44 j = J 44 j) → (hnd0 M49) → TZ G mX4_equal (tl_rm 6 0 0) 0 0 kRg M J 49 [some (vR 31), some (vI net), some (vI oth), some (vI o), none, none, none, none] [] F1 M49 J49 (ZM G (zPost G kRg F1 M J (qI (fun x M' J' => RI M' J' ∧ M' 31 27 ≤ M 31 27 + 400 ∧ eqR M J M' J'))) 0 0) := by
            intro N49
            induction N49 with
            | zero => intro o M49 J49 hN; omega
            | succ N49 ih49 =>
              intro o M49 J49 hN49 i49_0 i49_1 i49_2 i49_3 i49_4 i49_5 i49_6
              refine Z_iload_n (n := 50) dX4_equal_49 rfl rfl ?_
              refine Z_aload_n (n := 51) dX4_equal_50 rfl rfl ?_
              refine Z_getA (n := 54) dX4_equal_51 rfl ffX4_13 rfl rfl ?_
              refine Z_iload_n (n := 55) dX4_equal_54 rfl rfl ?_
              refine Z_iald (n := 56) dX4_equal_55 rfl rfl rfl (by first | decide | assumption) (by omega) (by omega) (fun r55 s55 => ?_)
              refine Z_icmp_ge (n := 59) (t := 212) dX4_equal_56 rfl (by decide) (fun c56 => ?_) (fun c56 => ?_)
              · refine Z_iconst (n := 213) dX4_equal_212 rfl (by decide) ?_
                refine Z_fr (fun frR => ?_)
                refine Z_iret dX4_equal_213 rfl ?_
                have u49 : M49 31 24 = M 31 24 := use_det hr.1 i49_2 hr.2.1 i49_6 i49_3 ok0
                have r49 : M49 31 8 = M 31 8 := i49_3.2.2 8 (by decide) (by decide) (by decide) (by decide)
                have u0 := hr.2.2.1
                exact ⟨RI_mk hr frR i49_2 i49_6 (by omega), by omega, eqR_h i49_3 i49_5⟩
              · have ct172 : ∀ (a b y p : Int) (M172 : zM) (J172 : zJ), (TI M172 J172) → (hdl M M172) → (M172 31 27 ≤ M 31 27 + (82 * o + 82)) → (∀ j : Int, j < 48 → J172 44 j = J 44 j) → TZ G mX4_equal (tl_rm 6 0 0) 0 0 kRg M J 172 [some (vR 31), some (vI net), some (vI oth), some (vI o), some (vI a), some (vI b), some (vI y), some (vI p)] [] F1 M172 J172 (ZM G (zPost G kRg F1 M J (qI (fun x M' J' => RI M' J' ∧ M' 31 27 ≤ M 31 27 + 400 ∧ eqR M J M' J'))) 0 0) := by
                  intro a b y p M172 J172 i172_0 i172_1 i172_2 i172_3
                  refine Z_aload_n (n := 173) dX4_equal_172 rfl rfl ?_
                  refine Z_callVv (n := 176) [] _ dX4_equal_173 rfl cwX4_185 rfl rfl rfl (Nat.le_of_ble_eq_true rfl) (by refine ⟨?_, ?_, ?_, ?_⟩ <;> exact Nat.le_of_ble_eq_true rfl) (fun a h => by unfold kRg at h; unfold kRv; omega) (zX4_clearHand  (by exact i172_0)) ?_
                  intro M173 J173 f173 q173
                  obtain ⟨ti173, hn173, am173, au173, hd173⟩ := q173
                  have hd2 := hdl_t i172_1 hd173
                  have b173 : ∀ j : Int, j < 48 → J173 44 j = J 44 j := fun j hj => (congrFun (f173 44 (by decide)).2 j).trans (i172_3 j hj)
                  have u173 : M173 31 24 = M 31 24 := use_det hr.1 ti173 hr.2.1 hn173 hd2 ok0
                  have r173 : M173 31 8 = M 31 8 := hd2.2.2 8 (by decide) (by decide) (by decide) (by decide)
                  have u0 := hr.2.2.1
                  refine Z_iload (n := 178) dX4_equal_176 rfl rfl ?_
                  refine Z_if_ne (n := 181) (t := 184) dX4_equal_178 rfl (by decide) (fun c178 => ?_) (fun c178 => ?_)
                  · refine Z_iload (n := 186) dX4_equal_184 rfl rfl ?_
                    refine Z_if_lt (n := 189) (t := 206) dX4_equal_186 rfl (by decide) (fun c186 => ?_) (fun c186 => ?_)
                    · refine Z_iinc (L' := [_, _, _, _, _, _, _, _]) (n := 209) dX4_equal_206 rfl rfl (by decide) rfl rfl (by omega) rfl ?_
                      refine Z_goto (t := 49) dX4_equal_209 (by decide) ?_
                      refine Z_loc (L' := [some _, some _, some _, some _, none, none, none, none]) (lsub_same (lsub_same (lsub_same (lsub_same (lsub_none (lsub_none (lsub_none (lsub_none lsub_nil)))))))) ?_
                      exact ih49 _ _ _ (by omega) (by first | assumption | omega | decide) (by first | assumption | omega | decide) (by exact ti173) (by exact hd2) (by omega) (by exact b173) (by exact hn173)
                    · refine Z_aload_n (n := 190) dX4_equal_189 rfl rfl ?_
                      refine Z_iload_n (n := 191) dX4_equal_190 rfl rfl ?_
                      refine Z_putI (n := 194) (ki := 33) dX4_equal_191 rfl ffX4_106 rfl (by decide) rfl rfl (by first | omega | exact (show zI o from by omega).1) (by first | omega | exact (show zI o from by omega).1) (by decide) ?_
                      refine Z_aload_n (n := 195) dX4_equal_194 rfl rfl ?_
                      refine Z_aload_n (n := 196) dX4_equal_195 rfl rfl ?_
                      refine Z_iload (n := 198) dX4_equal_196 rfl rfl ?_
                      refine Z_callVi (n := 201) [_] _ dX4_equal_198 rfl cwX4_250 rfl rfl rfl (Nat.le_of_ble_eq_true rfl) (by refine ⟨?_, ?_, ?_, ?_⟩ <;> exact Nat.le_of_ble_eq_true rfl) (fun _ _ => trivial) (zX4_assignmentAt  ) ?_
                      intro x198 M198 J198 z198 f198 q198
                      obtain ⟨e198_1, e198_2, h198⟩ := q198
                      replace e198_1 := e198_1.symm; subst e198_1
                      replace e198_2 := e198_2.symm; subst e198_2
                      refine Z_putI (n := 204) (ki := 34) dX4_equal_201 rfl ffX4_109 rfl (by decide) rfl rfl (by first | exact z198.1 | exact z198.2) (by first | exact z198.1 | exact z198.2) (by decide) ?_
                      refine Z_iconst (n := 205) dX4_equal_204 rfl (by decide) ?_
                      refine Z_fr (fun frR => ?_)
                      refine Z_iret dX4_equal_205 rfl ?_
                      exact ⟨RI_mk hr frR (TI_31 (TI_31 ti173 (by decide) (by decide) (by decide)) (by decide) (by decide) (by decide)) (fun g a b => by rw [uz_oo (by decide), uz_oo (by decide)]; exact hn173 g a b) (by rw [uz_n (by decide), uz_n (by decide), uz_n (by decide), uz_n (by decide)]; omega), by rw [uz_n (by decide), uz_n (by decide)]; omega, eqR_u (eqR_h hd2 b173)⟩
                  · refine Z_bipush (n := 183) dX4_equal_181 rfl (by decide) (by decide) ?_
                    refine Z_fr (fun frR => ?_)
                    refine Z_iret dX4_equal_183 rfl ?_
                    exact ⟨RI_mk hr frR ti173 hn173 (by omega), by omega, eqR_h hd2 b173⟩
                have ct154 : ∀ (a b y : Int) (M154 : zM) (J154 : zJ), (TI M154 J154) → (hdl M M154) → (M154 31 27 ≤ M 31 27 + (82 * o + 82)) → (∀ j : Int, j < 48 → J154 44 j = J 44 j) → TZ G mX4_equal (tl_rm 6 0 0) 0 0 kRg M J 154 [some (vR 31), some (vI net), some (vI oth), some (vI o), some (vI a), some (vI b), some (vI y), none] [] F1 M154 J154 (ZM G (zPost G kRg F1 M J (qI (fun x M' J' => RI M' J' ∧ M' 31 27 ≤ M 31 27 + 400 ∧ eqR M J M' J'))) 0 0) := by
                  intro a b y M154 J154 i154_0 i154_1 i154_2 i154_3
                  refine Z_iload (n := 156) dX4_equal_154 rfl rfl ?_
                  refine Z_if_eq (n := 159) (t := 169) dX4_equal_156 rfl (by decide) (fun c156 => ?_) (fun c156 => ?_)
                  · have q0 := i154_0
                    have q1 := i154_1
                    have q3 := i154_3
                    refine Z_iconst (n := 170) dX4_equal_169 rfl (by decide) ?_
                    refine Z_istore (L' := [_, _, _, _, _, _, _, _]) (n := 172) dX4_equal_170 rfl (by decide) rfl rfl ?_
                    refine Z_loc (L' := [some _, some _, some _, some _, some _, some _, some _, some _]) (lsub_same (lsub_same (lsub_same (lsub_same (lsub_same (lsub_same (lsub_same (lsub_same lsub_nil)))))))) ?_
                    exact ct172 _ _ _ _ _ _ (by exact q0) (by exact q1) (by omega) (by exact q3)
                  · have q0 := i154_0
                    have q1 := i154_1
                    have q3 := i154_3
                    refine Z_aload_n (n := 160) dX4_equal_159 rfl rfl ?_
                    refine Z_bipush (n := 162) dX4_equal_160 rfl (by decide) (by decide) ?_
                    refine Z_iconst (n := 163) dX4_equal_162 rfl (by decide) ?_
                    refine Z_callVi (n := 166) [_, _] _ dX4_equal_163 rfl cwX4_246 rfl rfl rfl (Nat.le_of_ble_eq_true rfl) (by refine ⟨?_, ?_, ?_, ?_⟩ <;> exact Nat.le_of_ble_eq_true rfl) (fun _ _ => trivial) (zX4_leastOf  (by omega) (by omega)) ?_
                    intro x163 M163 J163 z163 f163 q163
                    obtain ⟨e163_1, e163_2, h163⟩ := q163
                    replace e163_1 := e163_1.symm; subst e163_1
                    replace e163_2 := e163_2.symm; subst e163_2
                    refine Z_goto (t := 170) dX4_equal_166 (by decide) ?_
                    refine Z_istore (L' := [_, _, _, _, _, _, _, _]) (n := 172) dX4_equal_170 rfl (by decide) rfl rfl ?_
                    refine Z_loc (L' := [some _, some _, some _, some _, some _, some _, some _, some _]) (lsub_same (lsub_same (lsub_same (lsub_same (lsub_same (lsub_same (lsub_same (lsub_same lsub_nil)))))))) ?_
                    exact ct172 _ _ _ _ _ _ (by exact q0) (by exact q1) (by omega) (by exact q3)
                have ct126 : ∀ (a b y : Int) (M126 : zM) (J126 : zJ), (TI M126 J126) → (hdl M M126) → (M126 31 27 ≤ M 31 27 + (82 * o + 81)) → (∀ j : Int, j < 48 → J126 44 j = J 44 j) → (0 ≤ b ∧ b < 40) → (y = 0 ∨ (M126 43 55 = 0 ∧ M126 31 24 ≤ M126 31 8)) → TZ G mX4_equal (tl_rm 6 0 0) 0 0 kRg M J 126 [some (vR 31), some (vI net), some (vI oth), some (vI o), some (vI a), some (vI b), some (vI y), none] [] F1 M126 J126 (ZM G (zPost G kRg F1 M J (qI (fun x M' J' => RI M' J' ∧ M' 31 27 ≤ M 31 27 + 400 ∧ eqR M J M' J'))) 0 0) := by
                  intro a b y M126 J126 i126_0 i126_1 i126_2 i126_3 i126_4 i126_5
                  
                  refine Z_iload (n := 128) dX4_equal_126 rfl rfl ?_
                  refine Z_if_eq (n := 131) (t := 154) dX4_equal_128 rfl (by decide) (fun c128 => ?_) (fun c128 => ?_)
                  · have q0 := i126_0
                    have q1 := i126_1
                    have q3 := i126_3
                    refine Z_loc (L' := [some _, some _, some _, some _, some _, some _, some _, none]) (lsub_same (lsub_same (lsub_same (lsub_same (lsub_same (lsub_same (lsub_same (lsub_none lsub_nil)))))))) ?_
                    exact ct154 _ _ _ _ _ (by exact q0) (by exact q1) (by omega) (by exact q3)
                  · have hy := i126_5.resolve_left c128
                    have hyb := hy.2
                    refine Z_rg 31 8 rfl (fun g8d g8db => ?_)
                    refine Z_aload_n (n := 132) dX4_equal_131 rfl rfl ?_
                    refine Z_bipush (n := 134) dX4_equal_132 rfl (by decide) (by decide) ?_
                    refine Z_bipush (n := 136) dX4_equal_134 rfl (by decide) (by decide) ?_
                    refine Z_bipush (n := 138) dX4_equal_136 rfl (by decide) (by decide) ?_
                    refine Z_bipush (n := 140) dX4_equal_138 rfl (by decide) (by decide) ?_
                    refine Z_iload (n := 142) dX4_equal_140 rfl rfl ?_
                    refine Z_iadd (n := 143) dX4_equal_142 rfl (by omega) ?_
                    refine Z_callVv (n := 146) [_, _, _, _] _ dX4_equal_143 rfl cwX4_204 rfl rfl rfl (Nat.le_of_ble_eq_true rfl) (by refine ⟨?_, ?_, ?_, ?_⟩ <;> exact Nat.le_of_ble_eq_true rfl) (fun a h => by unfold kRg at h; unfold kBits; omega) (zX4_makeOf  (by omega) (by omega) (by omega) (by omega) (by omega) (by omega)) ?_
                    intro M143 J143 f143 q143
                    obtain ⟨e143_1, mo143, mb143, vo143⟩ := q143
                    replace e143_1 := e143_1.symm; subst e143_1
                    refine Z_aload_n (n := 147) dX4_equal_146 rfl rfl ?_
                    refine Z_bipush (n := 149) dX4_equal_147 rfl (by decide) (by decide) ?_
                    refine Z_callVi (n := 152) [_] _ dX4_equal_149 rfl cwX4_207 rfl rfl rfl (Nat.le_of_ble_eq_true rfl) (by refine ⟨?_, ?_, ?_, ?_⟩ <;> exact Nat.le_of_ble_eq_true rfl) (fun a h => by unfold kRg at h; unfold kAd; omega) (zX4_steps  (by omega) (by omega) (by exact TI_bits i126_0 hy.1 (f143 48 (by decide)).2 vo143) (by exact hy.1) (by omega) (by omega)) ?_
                    intro x149 M149 J149 z149 f149 q149
                    obtain ⟨ti149, ah149, am149, au149, af149, xs149⟩ := q149
                    have q0 := ti149
                    have q1 := hdl_t i126_1 (hdl_a af149 (by decide))
                    have q3 : ∀ j : Int, j < 48 → J149 44 j = J 44 j := fun j hj => (congrFun (f149 44 (by decide)).2 j).trans ((vo143 j (by omega)).trans (i126_3 j hj))
                    refine Z_istore (L' := [_, _, _, _, _, _, _, _]) (n := 154) dX4_equal_152 rfl (by decide) rfl rfl ?_
                    refine Z_loc (L' := [some _, some _, some _, some _, some _, some _, some _, none]) (lsub_same (lsub_same (lsub_same (lsub_same (lsub_same (lsub_same (lsub_same (lsub_none lsub_nil)))))))) ?_
                    exact ct154 _ _ _ _ _ (by exact q0) (by exact q1) (by omega) (by exact q3)
                refine Z_fr (fun fr49 => ?_)
                refine Z_rg 31 8 rfl (fun g8 g8b => ?_)
                have e33n : M49 33 net = M 33 net := congrFun (fr49 33 (by decide)).1 net
                have e33o : M49 33 oth = M 33 oth := congrFun (fr49 33 (by decide)).1 oth
                have u49 : M49 31 24 = M 31 24 := use_det hr.1 i49_2 hr.2.1 i49_6 i49_3 ok0
                have r49 : M49 31 8 = M 31 8 := i49_3.2.2 8 (by decide) (by decide) (by decide) (by decide)
                have u0 := hr.2.2.1
                have hN1 : rNt M49 net := rNt_fr (hr.2.2.2.2 net (by omega) (by omega)) (fr49 32 (by decide)).1 (fr49 33 (by decide)).1 (fr49 34 (by decide)).1 (fr49 35 (by decide)).1 (fr49 36 (by decide)).1
                have hN2z : rNt M49 oth := rNt_fr (hr.2.2.2.2 oth (by omega) (by omega)) (fr49 32 (by decide)).1 (fr49 33 (by decide)).1 (fr49 34 (by decide)).1 (fr49 35 (by decide)).1 (fr49 36 (by decide)).1
                have ha1 := hN1.2 o (by omega) (by omega)
                have hb1z := hN2z.2 o (by omega) (by omega)
                have hW49 : whOK J49 := fun q a b => by rw [(fr49 54 (by decide)).2]; exact hW q a b
                have ob49 : rOrd M49 := rOrd_fr hr.2.2.2.1 (fr49 39 (by decide)).1
                refine Z_aload_n (n := 60) dX4_equal_59 rfl rfl ?_
                refine Z_getA (n := 63) dX4_equal_60 rfl ffX4_22 rfl rfl ?_
                refine Z_iconst (n := 64) dX4_equal_63 rfl (by decide) ?_
                refine Z_iload_n (n := 65) dX4_equal_64 rfl rfl ?_
                refine Z_imul (n := 66) dX4_equal_65 rfl (by omega) ?_
                refine Z_iload_n (n := 67) dX4_equal_66 rfl rfl ?_
                refine Z_iadd (n := 68) dX4_equal_67 rfl (by omega) ?_
                refine Z_iald (n := 69) dX4_equal_68 rfl rfl rfl (by first | decide | assumption) (by omega) (by omega) (fun r68 s68 => ?_)
                refine Z_istore (L' := [_, _, _, _, _, _, _, _]) (n := 71) dX4_equal_69 rfl (by decide) rfl rfl ?_
                refine Z_aload_n (n := 72) dX4_equal_71 rfl rfl ?_
                refine Z_getA (n := 75) dX4_equal_72 rfl ffX4_22 rfl rfl ?_
                refine Z_iconst (n := 76) dX4_equal_75 rfl (by decide) ?_
                refine Z_iload_n (n := 77) dX4_equal_76 rfl rfl ?_
                refine Z_imul (n := 78) dX4_equal_77 rfl (by omega) ?_
                refine Z_iload_n (n := 79) dX4_equal_78 rfl rfl ?_
                refine Z_iadd (n := 80) dX4_equal_79 rfl (by omega) ?_
                refine Z_iald (n := 81) dX4_equal_80 rfl rfl rfl (by first | decide | assumption) (by omega) (by omega) (fun r80 s80 => ?_)
                refine Z_istore (L' := [_, _, _, _, _, _, _, _]) (n := 83) dX4_equal_81 rfl (by decide) rfl rfl ?_
                refine Z_rg 32 net rfl (fun g32 g32b => ?_)
                refine Z_rg 32 oth rfl (fun o32 o32b => ?_)
                refine Z_rg 36 (4 * net + o) rfl (fun g36 g36b => ?_)
                refine Z_rg 36 (4 * oth + o) rfl (fun o36 o36b => ?_)
                refine Z_aload_n (n := 84) dX4_equal_83 rfl rfl ?_
                refine Z_iload_n (n := 85) dX4_equal_84 rfl rfl ?_
                refine Z_iload (n := 87) dX4_equal_85 rfl rfl ?_
                refine Z_callVi (n := 90) [_, _] _ dX4_equal_87 rfl cwX4_216 rfl rfl rfl (Nat.le_of_ble_eq_true rfl) (by refine ⟨?_, ?_, ?_, ?_⟩ <;> exact Nat.le_of_ble_eq_true rfl) (fun _ h => h) (zX4_builds_g  (by omega) (by omega) (by omega) (by exact ha1) (by exact hN1) (by exact i49_2) (by exact fun y a b => i49_6 (12 + y) (by omega) (by omega)) (by omega) (by omega) (by exact hW49) (by exact ob49)) ?_
                intro x87 M87 J87 z87 f87 q87
                obtain ⟨ti87, hd87, mk87, hi87, bi87, bx87, rb87⟩ := q87
                have bj87 : ∀ j : Int, j < 48 → J87 44 j = J 44 j := fun j hj => (bi87 j (Or.inl hj)).trans (i49_5 j hj)
                refine Z_istore (L' := [_, _, _, _, _, _, _, _]) (n := 92) dX4_equal_90 rfl (by decide) rfl rfl ?_
                refine Z_iload (n := 94) dX4_equal_92 rfl rfl ?_
                refine Z_if_eq (n := 97) (t := 126) dX4_equal_94 rfl (by decide) (fun c94 => ?_) (fun c94 => ?_)
                · have q0 := ti87
                  have q1 := hdl_t i49_3 hd87
                  have q3 := bj87
                  have q4 : x87 = 0 ∨ (M87 43 55 = 0 ∧ M87 31 24 ≤ M87 31 8) := Or.inl c94
                  refine Z_loc (L' := [some _, some _, some _, some _, some _, some _, some _, none]) (lsub_same (lsub_same (lsub_same (lsub_same (lsub_same (lsub_same (lsub_same (lsub_none lsub_nil)))))))) ?_
                  exact ct126 _ _ _ _ _ (by exact q0) (by exact q1) (by omega) (by exact q3) (by omega) (by exact q4)
                · obtain ⟨-, b87⟩ := bx87.resolve_right (by omega)
                  clear bx87
                  refine Z_rg 31 8 rfl (fun g8c g8cb => ?_)
                  have b87a := b87.1
                  refine Z_aload_n (n := 98) dX4_equal_97 rfl rfl ?_
                  refine Z_bipush (n := 100) dX4_equal_98 rfl (by decide) (by decide) ?_
                  refine Z_iload (n := 102) dX4_equal_100 rfl rfl ?_
                  refine Z_iadd (n := 103) dX4_equal_102 rfl (by omega) ?_
                  refine Z_bipush (n := 105) dX4_equal_103 rfl (by decide) (by decide) ?_
                  refine Z_callVv (n := 108) [_, _] _ dX4_equal_105 rfl cwX4_182 rfl rfl rfl (Nat.le_of_ble_eq_true rfl) (by refine ⟨?_, ?_, ?_, ?_⟩ <;> exact Nat.le_of_ble_eq_true rfl) (fun a h => by unfold kRg at h; unfold kTk; omega) (zX4_take  (by omega) (by omega) (by omega) (by omega) (by omega) (by exact ti87) (by exact b87.2.1) (by omega) (by omega)) ?_
                  intro M105 J105 f105 q105
                  obtain ⟨ti105, ah105, am105, au105, af105, b1105, b2105⟩ := q105
                  
                  refine Z_aload_n (n := 109) dX4_equal_108 rfl rfl ?_
                  refine Z_bipush (n := 111) dX4_equal_109 rfl (by decide) (by decide) ?_
                  refine Z_iload (n := 113) dX4_equal_111 rfl rfl ?_
                  refine Z_iadd (n := 114) dX4_equal_113 rfl (by omega) ?_
                  refine Z_callVv (n := 117) [_] _ dX4_equal_114 rfl cwX4_179 rfl rfl rfl (Nat.le_of_ble_eq_true rfl) (by refine ⟨?_, ?_, ?_, ?_⟩ <;> exact Nat.le_of_ble_eq_true rfl) (fun a h => by unfold kRg at h; unfold kRv; omega) (zX4_remove  (by omega) (by omega) (by exact ti105)) ?_
                  intro M114 J114 f114 q114
                  obtain ⟨ti114, ah114, am114, au114, af114⟩ := q114
                  have hd114 : hdl M M114 := hdl_t i49_3 (hdl_t hd87 (hdl_t (hdl_a af105 (by decide)) (hdl_a af114 (by omega))))
                  have bj114 : ∀ j : Int, j < 48 → J114 44 j = J 44 j := fun j hj => (congrFun (f114 44 (by decide)).2 j).trans ((b2105 j (by omega)).trans (bj87 j hj))
                  have e114 : ∀ a : Nat, kRg a → M114 a = M87 a := fun a ha => ((f114 a (by unfold kRg at ha; unfold kRv; omega)).1).trans (f105 a (by unfold kRg at ha; unfold kTk; omega)).1
                  have hN2 : rNt M114 oth := rNt_fr hN2z ((e114 32 (by decide)).trans (f87 32 (by decide)).1) ((e114 33 (by decide)).trans (f87 33 (by decide)).1) ((e114 34 (by decide)).trans (f87 34 (by decide)).1) ((e114 35 (by decide)).trans (f87 35 (by decide)).1) ((e114 36 (by decide)).trans (f87 36 (by decide)).1)
                  have hb1 : M49 36 (4 * oth + o) < M114 32 oth := by rw [e114 32 (by decide), (f87 32 (by decide)).1]; exact hb1z
                  have hh114 : ∀ y : Int, 0 ≤ y → y < 40 → M114 43 (12 + y) = 0 := fun y a b => by
                    by_cases e : y = M49 36 (4 * net + o)
                    · rw [e]; exact ah114
                    · rw [(af114.1 _ (by omega)).2, (af105.1 _ (by omega)).2]; exact b87.2.2 y a b e
                  have h55 : M114 43 55 = 0 := by
                    rw [(af114.1 55 (by omega)).2, (af105.1 55 (by decide)).2, hi87 55 (by decide) (by decide)]
                    exact i49_6 55 (by decide) (by decide)
                  have hW114 : whOK J114 := fun q a b => by rw [(f114 54 (by decide)).2, (f105 54 (by decide)).2, (f87 54 (by decide)).2]; exact hW49 q a b
                  have ob114 : rOrd M114 := rOrd_fr ob49 ((e114 39 (by decide)).trans (f87 39 (by decide)).1)
                  have r114 : M114 31 8 = M87 31 8 := (af114.2.2 8 (by decide) (by decide) (by decide) (by decide)).trans (af105.2.2 8 (by decide) (by decide) (by decide) (by decide))
                  refine Z_aload_n (n := 118) dX4_equal_117 rfl rfl ?_
                  refine Z_iload_n (n := 119) dX4_equal_118 rfl rfl ?_
                  refine Z_iload (n := 121) dX4_equal_119 rfl rfl ?_
                  refine Z_callVi (n := 124) [_, _] _ dX4_equal_121 rfl cwX4_216 rfl rfl rfl (Nat.le_of_ble_eq_true rfl) (by refine ⟨?_, ?_, ?_, ?_⟩ <;> exact Nat.le_of_ble_eq_true rfl) (fun _ h => h) (zX4_builds_g  (by omega) (by omega) (by omega) (by exact hb1) (by exact hN2) (by exact ti114) (by exact hh114) (by omega) (by omega) (by exact hW114) (by exact ob114)) ?_
                  intro x121 M121 J121 z121 f121 q121
                  obtain ⟨ti121, hd121, mk121, hi121, bi121, bx121, rb121⟩ := q121
                  have q0 := ti121
                  have q1 := hdl_t hd114 hd121
                  have q3 : ∀ j : Int, j < 48 → J121 44 j = J 44 j := fun j hj => (bi121 j (Or.inl hj)).trans (bj114 j hj)
                  have q4 : x121 = 0 ∨ (M121 43 55 = 0 ∧ M121 31 24 ≤ M121 31 8) := by
                    rcases bx121 with ⟨-, a, -⟩ | a
                    · exact Or.inr ⟨(hi121 55 (by decide) (by decide)).trans h55, a⟩
                    · exact Or.inl a
                  clear bx121
                  refine Z_istore (L' := [_, _, _, _, _, _, _, _]) (n := 126) dX4_equal_124 rfl (by decide) rfl rfl ?_
                  refine Z_loc (L' := [some _, some _, some _, some _, some _, some _, some _, none]) (lsub_same (lsub_same (lsub_same (lsub_same (lsub_same (lsub_same (lsub_same (lsub_none lsub_nil)))))))) ?_
                  exact ct126 _ _ _ _ _ (by exact q0) (by exact q1) (by omega) (by exact q3) (by omega) (by exact q4)
          refine Z_loc (L' := [some _, some _, some _, some _, none, none, none, none]) (lsub_same (lsub_same (lsub_same (lsub_same (lsub_none (lsub_none (lsub_none (lsub_none lsub_nil)))))))) ?_
          exact lp49 _ _ _ _ (Nat.lt_succ_self _) (by first | assumption | omega | decide) (by first | assumption | omega | decide) (by exact t49) (by exact d49) (by exact m49) (by exact fun _ _ => rfl) (by exact h49)
      · refine Z_bipush (n := 33) dX4_equal_31 rfl (by decide) (by decide) ?_
        refine Z_iret dX4_equal_33 rfl ?_
        exact ⟨hr, by omega, eqR_h hdl_0 (fun _ _ => rfl)⟩
    · refine Z_iconst (n := 15) dX4_equal_14 rfl (by decide) ?_
      refine Z_iret dX4_equal_15 rfl ?_
      exact ⟨hr, by omega, eqR_h hdl_0 (fun _ _ => rfl)⟩
