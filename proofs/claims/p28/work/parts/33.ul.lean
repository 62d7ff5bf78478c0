/-! ===== the reference: unlink ===== -/
abbrev kUl (a : Nat) : Prop := ¬ a = 31 ∧ ¬ a = 50 ∧ ¬ a = 51 ∧ ¬ a = 53
def kyf (J : zJ) (n k : Int) : Int64 := J 48 (4 * n + k)
/-- behind unlink: n is out of its chain l and leads the free ones -/
def ulQ (M : zM) (n b : Int) (l : List Int) (M' : zM) : Prop := M' 31 23 = n ∧ (∀ j : Int, j ≠ 23 → M' 31 j = M 31 j) ∧ M' 50 n = M 31 23 ∧ (∀ m : Int, m ∉ l → m ≠ n → M' 50 m = M 50 m) ∧ (∀ c : Int, c ≠ b → M' 51 c = M 51 c) ∧ ∃ l' : List Int, chn (M' 50) (M' 51 b) l' ∧ l'.Nodup ∧ ∀ m, m ∈ l' ↔ m ∈ l ∧ m ≠ n
theorem ul_head {M : zM} {n b : Int} {r : List Int} (h : chn (M 50) n (n :: r)) (hd : (n :: r).Nodup) : ulQ M n b (n :: r) (uz (uz (uz M 51 b (M 50 n)) 50 n (M 31 23)) 31 23 n) := by
  have hn := (List.nodup_cons.mp hd).1
  refine ⟨uz_s, fun j hj => ?_, ?_, fun m hm hmn => ?_, fun c hc => ?_, r, ?_, (List.nodup_cons.mp hd).2, fun m => ?_⟩
  · rw [uz_n hj, uz_oo (by decide), uz_oo (by decide)]
  · rw [uz_oo (by decide), uz_s]
  · rw [uz_oo (by decide), uz_n hmn, uz_oo (by decide)]
  · rw [uz_oo (by decide), uz_oo (by decide), uz_n hc]
  · rw [show uz (uz (uz M 51 b (M 50 n)) 50 n (M 31 23)) 31 23 n 51 b = M 50 n by rw [uz_oo (by decide), uz_oo (by decide), uz_s]]
    refine chn_congr (fun m hm => ?_) h.2.2.2
    rw [uz_oo (by decide), uz_n (fun e => hn (by rw [← e]; exact hm)), uz_oo (by decide)]
  · constructor
    · intro hm
      exact ⟨List.mem_cons_of_mem _ hm, fun e => hn (by rw [← e]; exact hm)⟩
    · rintro ⟨hm, hne⟩
      rcases List.mem_cons.mp hm with e | e
      · exact absurd e hne
      · exact e
theorem ul_mid {M : zM} {n b k s : Int} {pre r : List Int} (h : chn (M 50) s (pre ++ k :: n :: r)) (hs : M 51 b = s) (hd : (pre ++ k :: n :: r).Nodup) : ulQ M n b (pre ++ k :: n :: r) (uz (uz (uz M 50 k (M 50 n)) 50 n (M 31 23)) 31 23 n) := by
  have hd2 := List.nodup_append.mp hd
  have hkn : n ≠ k := fun e => (List.nodup_cons.mp hd2.2.1).1 (by rw [← e]; exact List.mem_cons_self)
  have hnr : n ∉ r := (List.nodup_cons.mp (List.nodup_cons.mp hd2.2.1).2).1
  have hnp : n ∉ pre := fun e => hd2.2.2 n e n (List.mem_cons_of_mem _ List.mem_cons_self) rfl
  have hl' : n ∉ pre ++ k :: r := by
    intro e
    rcases List.mem_append.mp e with e | e
    · exact hnp e
    · rcases List.mem_cons.mp e with e | e
      · exact hkn e
      · exact hnr e
  refine ⟨uz_s, fun j hj => ?_, ?_, fun m hm hmn => ?_, fun c hc => ?_, pre ++ k :: r, ?_, ?_, fun m => ?_⟩
  · rw [uz_n hj, uz_oo (by decide), uz_oo (by decide)]
  · rw [uz_oo (by decide), uz_s]
  · rw [uz_oo (by decide), uz_n hmn, uz_n (fun e => hm (by rw [e]; exact List.mem_append_right _ List.mem_cons_self))]
  · rw [uz_oo (by decide), uz_oo (by decide), uz_oo (by decide)]
  · rw [show uz (uz (uz M 50 k (M 50 n)) 50 n (M 31 23)) 31 23 n 51 b = s by rw [uz_oo (by decide), uz_oo (by decide), uz_oo (by decide)]; exact hs]
    refine chn_congr (fun m hm => ?_) (chn_del h hd)
    rw [uz_oo (by decide), uz_n (fun e => hl' (by rw [← e]; exact hm)), uz_a]
    rfl
  · refine List.Nodup.sublist ?_ hd
    exact List.Sublist.append_left (List.Sublist.cons₂ _ (List.sublist_cons_self _ _)) _
  · constructor
    · intro hm
      refine ⟨?_, fun e => hl' (by rw [← e]; exact hm)⟩
      rcases List.mem_append.mp hm with e | e
      · exact List.mem_append_left _ e
      · rcases List.mem_cons.mp e with e | e
        · exact List.mem_append_right _ (by rw [e]; exact List.mem_cons_self)
        · exact List.mem_append_right _ (List.mem_cons_of_mem _ (List.mem_cons_of_mem _ e))
    · rintro ⟨hm, hne⟩
      rcases List.mem_append.mp hm with e | e
      · exact List.mem_append_left _ e
      · rcases List.mem_cons.mp e with e | e
        · exact List.mem_append_right _ (by rw [e]; exact List.mem_cons_self)
        · rcases List.mem_cons.mp e with e | e
          · exact absurd e hne
          · exact List.mem_append_right _ (List.mem_cons_of_mem _ e)
set_option maxRecDepth 20000 in
theorem zX4_unlink {G : tl_G} {M : zM} {J : zJ} {n : Int} {l : List Int} (n0 : 0 ≤ n) (n1 : n < 520) (hc : chn (M 50) (M 51 (bkt (M 47 n) (kyf J n))) l) (hd : l.Nodup) (hn : n ∈ l) : ZN G yX4_unlink mX4_unlink 1 kUl [vR 31, vI n] F1 M J (qV (fun M' J' => ulQ M n (bkt (M 47 n) (kyf J n)) l M')) := by
  refine ZN_of (L := [_, _, _, _]) (by decide) rfl rfl (Nat.le_of_ble_eq_true rfl) rfl (fun hav => ?_)
  refine Z_iconst (n := 1) dX4_unlink_0 rfl (by decide) ?_
  refine Z_istore_n (L' := [_, _, _, _]) (n := 2) dX4_unlink_1 rfl (by decide) rfl rfl ?_
  have lp2 : ∀ (N2 : Nat) (k : Int) (M2 : zM) (J2 : zJ), ((4 - k).toNat) < N2 → (M2 = M) → (0 ≤ k) → (k ≤ 4) → (∀ j : Int, 0 ≤ j → j < k → J2 53 j = kyf J n j) → TZ G mX4_unlink (tl_rm 1 0 0) 0 0 kUl M J 2 [some (vR 31), some (vI n), some (vI k), none] [] F1 M2 J2 (ZM G (zPost G kUl F1 M J (qV (fun M' J' => ulQ M n (bkt (M 47 n) (kyf J n)) l M'))) 0 0) := by
    intro N2
    induction N2 with
    | zero => intro k M2 J2 hN; omega
    | succ N2 ih2 =>
      intro k M2 J2 hN2 i2_0 i2_1 i2_2 i2_3
      refine Z_iload_n (n := 3) dX4_unlink_2 rfl rfl ?_
      refine Z_iconst (n := 4) dX4_unlink_3 rfl (by decide) ?_
      refine Z_icmp_ge (n := 7) (t := 29) dX4_unlink_4 rfl (by decide) (fun c4 => ?_) (fun c4 => ?_)
      · replace i2_0 := i2_0.symm; subst i2_0
        have hP : ∀ j : Int, 0 ≤ j → j < 4 → J2 53 j = kyf J n j := fun j a b => i2_3 j a (by omega)
        refine Z_aload_n (n := 30) dX4_unlink_29 rfl rfl ?_
        refine Z_aload_n (n := 31) dX4_unlink_30 rfl rfl ?_
        refine Z_getA (n := 34) dX4_unlink_31 rfl ffX4_57 rfl rfl ?_
        refine Z_iload_n (n := 35) dX4_unlink_34 rfl rfl ?_
        refine Z_iald (n := 36) dX4_unlink_35 rfl rfl rfl (by first | decide | assumption) (by omega) (by omega) (fun r35 s35 => ?_)
        refine Z_callVi (n := 39) [_] _ dX4_unlink_36 rfl cwX4_154 rfl rfl rfl (Nat.le_of_ble_eq_true rfl) (by refine ⟨?_, ?_, ?_, ?_⟩ <;> exact Nat.le_of_ble_eq_true rfl) (fun _ _ => trivial) (zX4_bucket  ) ?_
        intro x36 M36 J36 z36 f36 q36
        obtain ⟨e36_1, e36_2, h36⟩ := q36
        replace e36_1 := e36_1.symm; subst e36_1
        replace e36_2 := e36_2.symm; subst e36_2
        have hb := bkt_in (M 47 n) (J2 53)
        rw [← h36] at hb
        have hbe : x36 = bkt (M 47 n) (kyf J n) := h36.trans (bkt_congr hP)
        refine Z_istore_n (L' := [_, _, _, _]) (n := 40) dX4_unlink_39 rfl (by decide) rfl rfl ?_
        refine Z_aload_n (n := 41) dX4_unlink_40 rfl rfl ?_
        refine Z_getA (n := 44) dX4_unlink_41 rfl ffX4_69 rfl rfl ?_
        refine Z_iload_n (n := 45) dX4_unlink_44 rfl rfl ?_
        refine Z_iald (n := 46) dX4_unlink_45 rfl rfl rfl (by first | decide | assumption) (by omega) (by omega) (fun r45 s45 => ?_)
        refine Z_iload_n (n := 47) dX4_unlink_46 rfl rfl ?_
        refine Z_icmp_ne (n := 50) (t := 65) dX4_unlink_47 rfl (by decide) (fun c47 => ?_) (fun c47 => ?_)
        · obtain ⟨r0, hl0, hn0, hc0⟩ : ∃ r0, l = [] ++ M 51 x36 :: r0 ∧ n ∈ r0 ∧ chn (M 50) (M 51 x36) (M 51 x36 :: r0) := by
            rw [← hbe] at hc
            have hne : l ≠ [] := fun e => by rw [e] at hn; cases hn
            obtain ⟨m, r, rfl⟩ := List.exists_cons_of_ne_nil hne
            have e := hc.1
            refine ⟨r, by rw [e]; rfl, ?_, by rw [e] at hc ⊢; exact hc⟩
            rcases List.mem_cons.mp hn with q | q
            · exact absurd (e.trans q.symm) c47
            · exact q
          refine Z_aload_n (n := 66) dX4_unlink_65 rfl rfl ?_
          refine Z_getA (n := 69) dX4_unlink_66 rfl ffX4_69 rfl rfl ?_
          refine Z_iload_n (n := 70) dX4_unlink_69 rfl rfl ?_
          refine Z_iald (n := 71) dX4_unlink_70 rfl rfl rfl (by first | decide | assumption) (by omega) (by omega) (fun r70 s70 => ?_)
          refine Z_istore_n (L' := [_, _, _, _]) (n := 72) dX4_unlink_71 rfl (by decide) rfl rfl ?_
          have lp72 : ∀ (N72 : Nat) (k : Int) (pre r : List Int) , (r.length) < N72 → (l = pre ++ k :: r) → (n ∈ r) → (chn (M 50) k (k :: r)) → TZ G mX4_unlink (tl_rm 1 0 0) 0 0 kUl M J 72 [some (vR 31), some (vI n), some (vI x36), some (vI k)] [] F1 M J2 (ZM G (zPost G kUl F1 M J (qV (fun M' J' => ulQ M n (bkt (M 47 n) (kyf J n)) l M'))) 0 0) := by
            intro N72
            induction N72 with
            | zero => intro k pre r  hN; omega
            | succ N72 ih72 =>
              intro k pre r  hN72 i72_0 i72_1 i72_2
              
              refine Z_aload_n (n := 73) dX4_unlink_72 rfl rfl ?_
              obtain ⟨k0, k1⟩ := chn_range i72_2 k List.mem_cons_self
              obtain ⟨m, r1, hr⟩ := List.exists_cons_of_ne_nil (show r ≠ [] from fun e => by rw [e] at i72_1; cases i72_1)
              subst hr
              have hkm : M 50 k = m := i72_2.2.2.2.1
              refine Z_getA (n := 76) dX4_unlink_73 rfl ffX4_66 rfl rfl ?_
              refine Z_iload_n (n := 77) dX4_unlink_76 rfl rfl ?_
              refine Z_iald (n := 78) dX4_unlink_77 rfl rfl rfl (by first | decide | assumption) (by omega) (by omega) (fun r77 s77 => ?_)
              refine Z_iload_n (n := 79) dX4_unlink_78 rfl rfl ?_
              refine Z_icmp_eq (n := 82) (t := 92) dX4_unlink_79 rfl (by decide) (fun c79 => ?_) (fun c79 => ?_)
              · have hmn : m = n := hkm.symm.trans c79
                subst hmn
                subst i72_0
                have nr := chn_next i72_2 m (List.mem_cons_of_mem _ List.mem_cons_self)
                refine Z_aload_n (n := 93) dX4_unlink_92 rfl rfl ?_
                refine Z_getA (n := 96) dX4_unlink_93 rfl ffX4_66 rfl rfl ?_
                refine Z_iload_n (n := 97) dX4_unlink_96 rfl rfl ?_
                refine Z_aload_n (n := 98) dX4_unlink_97 rfl rfl ?_
                refine Z_getA (n := 101) dX4_unlink_98 rfl ffX4_66 rfl rfl ?_
                refine Z_iload_n (n := 102) dX4_unlink_101 rfl rfl ?_
                refine Z_iald (n := 103) dX4_unlink_102 rfl rfl rfl (by first | decide | assumption) (by omega) (by omega) (fun r102 s102 => ?_)
                refine Z_iast (n := 104) dX4_unlink_103 rfl rfl rfl (by first | decide | assumption) (by omega) (by omega) (by first | assumption | omega | decide) (by first | assumption | omega | decide) (by decide) ?_
                refine Z_aload_n (n := 105) dX4_unlink_104 rfl rfl ?_
                refine Z_getA (n := 108) dX4_unlink_105 rfl ffX4_66 rfl rfl ?_
                refine Z_iload_n (n := 109) dX4_unlink_108 rfl rfl ?_
                refine Z_aload_n (n := 110) dX4_unlink_109 rfl rfl ?_
                refine Z_getI (n := 113) (ki := 23) dX4_unlink_110 rfl ffX4_157 rfl rfl rfl (fun r110 s110 => ?_)
                try simp only [uz_oo (show (31 : Nat) ≠ 51 by decide), uz_oo (show (31 : Nat) ≠ 50 by decide)] at r110 s110 ⊢
                refine Z_iast (n := 114) dX4_unlink_113 rfl rfl rfl (by first | decide | assumption) (by omega) (by omega) (by first | assumption | omega | decide) (by first | assumption | omega | decide) (by decide) ?_
                refine Z_aload_n (n := 115) dX4_unlink_114 rfl rfl ?_
                refine Z_iload_n (n := 116) dX4_unlink_115 rfl rfl ?_
                refine Z_putI (n := 119) (ki := 23) dX4_unlink_116 rfl ffX4_157 rfl (by decide) rfl rfl (by first | assumption | omega | decide) (by first | assumption | omega | decide) (by decide) ?_
                refine Z_vret dX4_unlink_119 rfl ?_
                first
                  | (rw [← hbe]; exact ul_head hc hd)
                  | (rw [← hbe]; rw [← hbe] at hc; exact ul_mid hc rfl hd)
              · have hn1 : n ∈ r1 := by
                  rcases List.mem_cons.mp i72_1 with q | q
                  · exact absurd (hkm.trans q.symm) c79
                  · exact q
                refine Z_aload_n (n := 83) dX4_unlink_82 rfl rfl ?_
                refine Z_getA (n := 86) dX4_unlink_83 rfl ffX4_66 rfl rfl ?_
                refine Z_iload_n (n := 87) dX4_unlink_86 rfl rfl ?_
                refine Z_iald (n := 88) dX4_unlink_87 rfl rfl rfl (by first | decide | assumption) (by omega) (by omega) (fun r87 s87 => ?_)
                try simp only [hkm] at r87 s87 ⊢
                refine Z_istore_n (L' := [_, _, _, _]) (n := 89) dX4_unlink_88 rfl (by decide) rfl rfl ?_
                refine Z_goto (t := 72) dX4_unlink_89 (by decide) ?_
                refine Z_loc (L' := [some _, some _, some _, some _]) (lsub_same (lsub_same (lsub_same (lsub_same lsub_nil)))) ?_
                exact ih72 _ (pre ++ [k]) r1  (by simp only [List.length_cons] at *; omega) (by first | exact hl0 | (rw [List.append_assoc]; exact i72_0)) (by first | exact hn0 | exact hn1) (by first | exact hc0 | (have z := i72_2.2.2.2; rw [hkm] at z; exact z))
          refine Z_loc (L' := [some _, some _, some _, some _]) (lsub_same (lsub_same (lsub_same (lsub_same lsub_nil)))) ?_
          exact lp72 _ _ [] r0  (Nat.lt_succ_self _) (by first | exact hl0 | (rw [List.append_assoc]; exact i72_0)) (by first | exact hn0 | exact hn1) (by first | exact hc0 | (have z := i72_2.2.2.2; rw [hkm] at z; exact z))
        · have hl1 : ∃ r, l = n :: r := by
            rw [← hbe] at hc
            have hne : l ≠ [] := fun e => by rw [e] at hn; cases hn
            obtain ⟨m, r, rfl⟩ := List.exists_cons_of_ne_nil hne
            exact ⟨r, by rw [← hc.1, c47]⟩
          obtain ⟨r, hl1⟩ := hl1
          subst hl1
          rw [← hbe, c47] at hc
          have nr := chn_next hc n List.mem_cons_self
          refine Z_aload_n (n := 51) dX4_unlink_50 rfl rfl ?_
          refine Z_getA (n := 54) dX4_unlink_51 rfl ffX4_69 rfl rfl ?_
          refine Z_iload_n (n := 55) dX4_unlink_54 rfl rfl ?_
          refine Z_aload_n (n := 56) dX4_unlink_55 rfl rfl ?_
          refine Z_getA (n := 59) dX4_unlink_56 rfl ffX4_66 rfl rfl ?_
          refine Z_iload_n (n := 60) dX4_unlink_59 rfl rfl ?_
          refine Z_iald (n := 61) dX4_unlink_60 rfl rfl rfl (by first | decide | assumption) (by omega) (by omega) (fun r60 s60 => ?_)
          refine Z_iast (n := 62) dX4_unlink_61 rfl rfl rfl (by first | decide | assumption) (by omega) (by omega) (by first | assumption | omega | decide) (by first | assumption | omega | decide) (by decide) ?_
          refine Z_goto (t := 104) dX4_unlink_62 (by decide) ?_
          refine Z_aload_n (n := 105) dX4_unlink_104 rfl rfl ?_
          refine Z_getA (n := 108) dX4_unlink_105 rfl ffX4_66 rfl rfl ?_
          refine Z_iload_n (n := 109) dX4_unlink_108 rfl rfl ?_
          refine Z_aload_n (n := 110) dX4_unlink_109 rfl rfl ?_
          refine Z_getI (n := 113) (ki := 23) dX4_unlink_110 rfl ffX4_157 rfl rfl rfl (fun r110 s110 => ?_)
          try simp only [uz_oo (show (31 : Nat) ≠ 51 by decide), uz_oo (show (31 : Nat) ≠ 50 by decide)] at r110 s110 ⊢
          refine Z_iast (n := 114) dX4_unlink_113 rfl rfl rfl (by first | decide | assumption) (by omega) (by omega) (by first | assumption | omega | decide) (by first | assumption | omega | decide) (by decide) ?_
          refine Z_aload_n (n := 115) dX4_unlink_114 rfl rfl ?_
          refine Z_iload_n (n := 116) dX4_unlink_115 rfl rfl ?_
          refine Z_putI (n := 119) (ki := 23) dX4_unlink_116 rfl ffX4_157 rfl (by decide) rfl rfl (by first | assumption | omega | decide) (by first | assumption | omega | decide) (by decide) ?_
          refine Z_vret dX4_unlink_119 rfl ?_
          first
            | (rw [← hbe]; exact ul_head hc hd)
            | (rw [← hbe]; rw [← hbe] at hc; exact ul_mid hc rfl hd)
      · refine Z_fr (fun fr2 => ?_)
        refine Z_aload_n (n := 8) dX4_unlink_7 rfl rfl ?_
        refine Z_getA (n := 11) dX4_unlink_8 rfl ffX4_75 rfl rfl ?_
        refine Z_iload_n (n := 12) dX4_unlink_11 rfl rfl ?_
        refine Z_aload_n (n := 13) dX4_unlink_12 rfl rfl ?_
        refine Z_getA (n := 16) dX4_unlink_13 rfl ffX4_60 rfl rfl ?_
        refine Z_iconst (n := 17) dX4_unlink_16 rfl (by decide) ?_
        refine Z_iload_n (n := 18) dX4_unlink_17 rfl rfl ?_
        refine Z_imul (n := 19) dX4_unlink_18 rfl (by omega) ?_
        refine Z_iload_n (n := 20) dX4_unlink_19 rfl rfl ?_
        refine Z_iadd (n := 21) dX4_unlink_20 rfl (by omega) ?_
        refine Z_lald (n := 22) dX4_unlink_21 rfl rfl (by decide) (by omega) (by omega) ?_
        refine Z_last (n := 23) dX4_unlink_22 rfl rfl (by decide) (by omega) (by omega) (by decide) ?_
        have nx2 : ∀ j : Int, 0 ≤ j → j < k + 1 → uz J2 53 k (J2 48 (4 * n + k)) 53 j = kyf J n j := fun j a b => by
          rw [uz_a]
          split
          · rename_i e; subst e; rw [(fr2 48 (by decide)).2]; rfl
          · exact i2_3 j a (by omega)
        refine Z_iinc (L' := [_, _, _, _]) (n := 26) dX4_unlink_23 rfl rfl (by decide) rfl rfl (by omega) rfl ?_
        refine Z_goto (t := 2) dX4_unlink_26 (by decide) ?_
        refine Z_loc (L' := [some _, some _, some _, none]) (lsub_same (lsub_same (lsub_same (lsub_none lsub_nil)))) ?_
        exact ih2 _ _ _ (by omega) (by first | rfl | assumption) (by first | assumption | omega | decide) (by first | assumption | omega | decide) (by first | exact fun j j0 j1 => by omega | exact nx2)
  refine Z_loc (L' := [some _, some _, some _, none]) (lsub_same (lsub_same (lsub_same (lsub_none lsub_nil)))) ?_
  exact lp2 _ _ _ _ (Nat.lt_succ_self _) (by first | rfl | assumption) (by first | assumption | omega | decide) (by first | assumption | omega | decide) (by first | exact fun j j0 j1 => by omega | exact nx2)
