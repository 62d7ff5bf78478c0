/-! ===== Z-LAYER: making objects ===== -/
def nwF (F : zF) (t k : Nat) : zF := (up1 F.1 F.2.2 (t, k), F.2.1, F.2.2 + 1)
def pF (F : zF) (a k r : Nat) : zF := (F.1, up2 F.2.1 a k (some r), F.2.2)
def ZA (G : tl_G) (y : MethodName) (mt : tl_M) (d mc ms : Nat) (K : Nat → Prop) (av : List zV) (F F' : zF) (M : zM) (J : zJ) (Q : Option zV → zM → zJ → Prop) : Prop := gZ G → zOK M → (∀ v ∈ av, vok v) → CT G y mt d mc ms (av.map (cv G)) (tS G F M J) (zPost G K F' M J Q)
section ZNW
variable {G : tl_G} {mt : tl_M} {R : Room} {cells slots pc n : Nat} {K : Nat → Prop} {M0 : zM} {J0 : zJ} {L L' : List (Option zV)} {st : List zV} {F : zF} {M : zM} {J : zJ} {Z : tl_Z}
theorem tS_nw {t k : Nat} (hM : ∀ j, M F.2.2 j = 0) (hJ : ∀ j, J F.2.2 j = 0) (hP : ∀ j, F.2.1 F.2.2 j = none) : tl_nw (tS G F M J) t k = tS G (nwF F t k) M J := by
  have e1 : up1 (sS (tS G F M J)) (sZ (tS G F M J)) (t, k) = sS (tS G (nwF F t k) M J) := by
    funext a
    show (if a = gB G + F.2.2 then (t, k) else (if a < gB G then (0, 0) else F.1 (a - gB G))) = (if a < gB G then (0, 0) else (if a - gB G = F.2.2 then (t, k) else F.1 (a - gB G)))
    by_cases h1 : a < gB G
    · rw [if_neg (show ¬ a = gB G + F.2.2 by omega), if_pos h1, if_pos h1]
    · rw [if_neg h1, if_neg h1]
      by_cases h2 : a = gB G + F.2.2
      · rw [if_pos h2, if_pos (show a - gB G = F.2.2 by omega)]
      · rw [if_neg h2, if_neg (show ¬ a - gB G = F.2.2 by omega)]
  have e2 : zr (sM (tS G F M J)) (sZ (tS G F M J)) 0 = sM (tS G (nwF F t k) M J) := by
    funext a j
    show (if a = gB G + F.2.2 then 0 else (if a < gB G then 0 else Int32.ofInt (M (a - gB G) j))) = (if a < gB G then 0 else Int32.ofInt (M (a - gB G) j))
    by_cases h2 : a = gB G + F.2.2
    · subst h2
      rw [if_pos rfl, if_neg (show ¬ gB G + F.2.2 < gB G by omega), show gB G + F.2.2 - gB G = F.2.2 by omega, hM]
      rfl
    · rw [if_neg h2]
  have e3 : zr (sJ (tS G F M J)) (sZ (tS G F M J)) 0 = sJ (tS G (nwF F t k) M J) := by
    funext a j
    show (if a = gB G + F.2.2 then 0 else (if a < gB G then 0 else J (a - gB G) j)) = (if a < gB G then 0 else J (a - gB G) j)
    by_cases h2 : a = gB G + F.2.2
    · subst h2
      rw [if_pos rfl, if_neg (show ¬ gB G + F.2.2 < gB G by omega), show gB G + F.2.2 - gB G = F.2.2 by omega, hJ]
    · rw [if_neg h2]
  have e4 : zr (sP (tS G F M J)) (sZ (tS G F M J)) none = sP (tS G (nwF F t k) M J) := by
    funext a j
    show (if a = gB G + F.2.2 then none else (if a < gB G then none else (F.2.1 (a - gB G) j).map (fun q => gB G + q))) = (if a < gB G then none else (F.2.1 (a - gB G) j).map (fun q => gB G + q))
    by_cases h2 : a = gB G + F.2.2
    · subst h2
      rw [if_pos rfl, if_neg (show ¬ gB G + F.2.2 < gB G by omega), show gB G + F.2.2 - gB G = F.2.2 by omega, hP]
      rfl
    · rw [if_neg h2]
  unfold tl_nw
  rw [e1, e2, e3, e4]
  rfl
theorem tS_pF {a k r : Nat} : (sS (tS G F M J), sM (tS G F M J), sJ (tS G F M J), up2 (sP (tS G F M J)) (gB G + a) k (some (gB G + r)), sZ (tS G F M J)) = tS G (pF F a k r) M J := by
  have h : up2 (sP (tS G F M J)) (gB G + a) k (some (gB G + r)) = sP (tS G (pF F a k r) M J) := by
    funext a' k'
    show (if a' = gB G + a then (if k' = k then some (gB G + r) else (if a' < gB G then none else (F.2.1 (a' - gB G) k').map (fun q => gB G + q))) else (if a' < gB G then none else (F.2.1 (a' - gB G) k').map (fun q => gB G + q))) = (if a' < gB G then none else (if a' - gB G = a then (if k' = k then some r else F.2.1 (a' - gB G) k') else F.2.1 (a' - gB G) k').map (fun q => gB G + q))
    by_cases h1 : a' < gB G
    · rw [if_pos h1, if_pos h1, if_neg (show ¬ a' = gB G + a by omega)]
    · rw [if_neg h1, if_neg h1]
      by_cases h2 : a' = gB G + a
      · rw [if_pos h2, if_pos (show a' - gB G = a by omega)]
        by_cases h3 : k' = k
        · rw [if_pos h3, if_pos h3]; rfl
        · rw [if_neg h3, if_neg h3]
      · rw [if_neg h2, if_neg (show ¬ a' - gB G = a by omega)]
  rw [h]
  rfl
theorem Z_newI {N z : Nat} {j : Int} (hd : decode mt.2.1 pc = .ok (.newarray .int, 2)) (hp : pc + 2 = n) (hj : j = (N : Int)) (hN : N ≤ 100000) (hz : F.2.2 = z) (hM : ∀ k, M z k = 0) (hJ : ∀ k, J z k = 0) (hP : ∀ k, F.2.1 z k = none) (hc : cells + 1 ≤ R.cells) (hs0 : slots + N ≤ R.slots) (kk : TZ G mt R (cells + 1) (slots + N) K M0 J0 n L (vR z :: st) (nwF F 2 N) M J Z) : TZ G mt R cells slots K M0 J0 pc L (vI j :: st) F M J Z := by
  subst hz; subst hj
  intro hg hm hf hl hs
  refine T_newI (j := Int32.ofInt (N : Int)) hd hp wd_aI (i32n (by omega) (by omega)) hN hc hs0 ?_
  rw [tS_nw hM hJ hP]
  exact kk hg hm hf hl (List.forall_mem_cons.mpr ⟨trivial, (List.forall_mem_cons.mp hs).2⟩)
theorem Z_newZ {N z : Nat} {j : Int} (hd : decode mt.2.1 pc = .ok (.newarray .boolean, 2)) (hp : pc + 2 = n) (hj : j = (N : Int)) (hN : N ≤ 100000) (hz : F.2.2 = z) (hM : ∀ k, M z k = 0) (hJ : ∀ k, J z k = 0) (hP : ∀ k, F.2.1 z k = none) (hc : cells + 1 ≤ R.cells) (hs0 : slots + N ≤ R.slots) (kk : TZ G mt R (cells + 1) (slots + N) K M0 J0 n L (vR z :: st) (nwF F 3 N) M J Z) : TZ G mt R cells slots K M0 J0 pc L (vI j :: st) F M J Z := by
  subst hz; subst hj
  intro hg hm hf hl hs
  refine T_newZ (j := Int32.ofInt (N : Int)) hd hp wd_aZ (i32n (by omega) (by omega)) hN hc hs0 ?_
  rw [tS_nw hM hJ hP]
  exact kk hg hm hf hl (List.forall_mem_cons.mpr ⟨trivial, (List.forall_mem_cons.mp hs).2⟩)
theorem Z_newJ {N z : Nat} {j : Int} (hd : decode mt.2.1 pc = .ok (.newarray .long, 2)) (hp : pc + 2 = n) (hj : j = (N : Int)) (hN : N ≤ 100000) (hz : F.2.2 = z) (hM : ∀ k, M z k = 0) (hJ : ∀ k, J z k = 0) (hP : ∀ k, F.2.1 z k = none) (hc : cells + 1 ≤ R.cells) (hs0 : slots + N ≤ R.slots) (kk : TZ G mt R (cells + 1) (slots + N) K M0 J0 n L (vR z :: st) (nwF F 4 N) M J Z) : TZ G mt R cells slots K M0 J0 pc L (vI j :: st) F M J Z := by
  subst hz; subst hj
  intro hg hm hf hl hs
  refine T_newJ (j := Int32.ofInt (N : Int)) hd hp wd_aJ (i32n (by omega) (by omega)) hN hc hs0 ?_
  rw [tS_nw hM hJ hP]
  exact kk hg hm hf hl (List.forall_mem_cons.mpr ⟨trivial, (List.forall_mem_cons.mp hs).2⟩)
theorem Z_anew {N z idx : Nat} {j : Int} (hd : decode mt.2.1 pc = .ok (.anewarray idx, 3)) (hp : pc + 3 = n) (hw : Cond.classLink mt.1 idx RX0 ∈ tl_W) (hj : j = (N : Int)) (hN : N ≤ 100000) (hz : F.2.2 = z) (hM : ∀ k, M z k = 0) (hJ : ∀ k, J z k = 0) (hP : ∀ k, F.2.1 z k = none) (hc : cells + 1 ≤ R.cells) (hs0 : slots + N ≤ R.slots) (kk : TZ G mt R (cells + 1) (slots + N) K M0 J0 n L (vR z :: st) (nwF F 5 N) M J Z) : TZ G mt R cells slots K M0 J0 pc L (vI j :: st) F M J Z := by
  subst hz; subst hj
  intro hg hm hf hl hs
  refine T_anew (j := Int32.ofInt (N : Int)) hd hp hw (i32n (by omega) (by omega)) hN hc hs0 ?_
  rw [tS_nw hM hJ hP]
  exact kk hg hm hf hl (List.forall_mem_cons.mpr ⟨trivial, (List.forall_mem_cons.mp hs).2⟩)
theorem Z_new {z idx ci N : Nat} (hd : decode mt.2.1 pc = .ok (.new idx, 3)) (hp : pc + 3 = n) (hn : tl_CN mt.1 idx ci N) (hz : F.2.2 = z) (hM : ∀ k, M z k = 0) (hJ : ∀ k, J z k = 0) (hP : ∀ k, F.2.1 z k = none) (hc : cells + 1 ≤ R.cells) (hs0 : slots + N ≤ R.slots) (kk : TZ G mt R (cells + 1) (slots + N) K M0 J0 n L (vR z :: st) (nwF F 1 ci) M J Z) : TZ G mt R cells slots K M0 J0 pc L st F M J Z := by
  subst hz
  intro hg hm hf hl hs
  refine T_new hd hp hn hc hs0 ?_
  rw [tS_nw hM hJ hP]
  exact kk hg hm hf hl (List.forall_mem_cons.mpr ⟨trivial, hs⟩)
theorem Z_objI {idx a : Nat} (hd : decode mt.2.1 pc = .ok (.invokespecial idx, 3)) (hp : pc + 3 = n) (hw : Cond.methodLink mt.1 idx objectInit ∈ tl_W) (hf0 : 1 ≤ R.frames) (hlo : 20 ≤ R.locals) (hst : ((st.map (cv G)).map fun v => v.category).sum ≤ 8) (kk : TZ G mt R cells slots K M0 J0 n L st F M J Z) : TZ G mt R cells slots K M0 J0 pc L (vR a :: st) F M J Z := by
  intro hg hm hf hl hs
  exact T_objI hd hp hw wd_oI wd_oC hf0 hlo hst (kk hg hm hf hl (List.forall_mem_cons.mp hs).2)
theorem Z_putA {idx ci k a x : Nat} {t : FieldType} {fin : Bool} (hd : decode mt.2.1 pc = .ok (.putfield idx, 3)) (hp : pc + 3 = n) (hf0 : tl_FF mt.1 idx ci k (.array t) fin) (hfi : fin = true → mt.2.2.2.2 = "<init>") (hsh : F.1 a = (1, ci)) (kk : TZ G mt R cells slots K M0 J0 n L st (pF F a k x) M J Z) : TZ G mt R cells slots K M0 J0 pc L (vR x :: vR a :: st) F M J Z := by
  intro hg hm hf hl hs
  refine T_putA (x := gB G + x) hd hp hf0 hfi (by rw [tS_S]; exact hsh) ?_
  rw [tS_pF]
  exact kk hg hm hf hl (List.forall_mem_cons.mp (List.forall_mem_cons.mp hs).2).2
theorem Z_putO {idx ci k a x : Nat} {t : String} {fin : Bool} (hd : decode mt.2.1 pc = .ok (.putfield idx, 3)) (hp : pc + 3 = n) (hf0 : tl_FF mt.1 idx ci k (.object t) fin) (hfi : fin = true → mt.2.2.2.2 = "<init>") (hsh : F.1 a = (1, ci)) (kk : TZ G mt R cells slots K M0 J0 n L st (pF F a k x) M J Z) : TZ G mt R cells slots K M0 J0 pc L (vR x :: vR a :: st) F M J Z := by
  intro hg hm hf hl hs
  refine T_putO (x := gB G + x) hd hp hf0 hfi (by rw [tS_S]; exact hsh) ?_
  rw [tS_pF]
  exact kk hg hm hf hl (List.forall_mem_cons.mp (List.forall_mem_cons.mp hs).2).2
theorem Z_aast {a N v i : Nat} {j : Int} (hd : decode mt.2.1 pc = .ok (.aastore, 1)) (hp : pc + 1 = n) (hsh : F.1 a = (5, N)) (hv : F.1 v = (1, 0)) (hj : j = (i : Int)) (hi : i < N) (hN : N < 2147483648) (kk : TZ G mt R cells slots K M0 J0 n L st (pF F a i v) M J Z) : TZ G mt R cells slots K M0 J0 pc L (vR v :: vI j :: vR a :: st) F M J Z := by
  subst hj
  intro hg hm hf hl hs
  refine T_aast (j := Int32.ofInt (i : Int)) (v := gB G + v) hd hp (by rw [tS_S]; exact hsh) (by rw [tS_S]; exact hv) (i32n (by omega) (by omega)) (by omega) (by omega) ?_
  rw [tS_pF]
  exact kk hg hm hf hl (List.forall_mem_cons.mp (List.forall_mem_cons.mp (List.forall_mem_cons.mp hs).2).2).2
theorem ZA_of {y : MethodName} {d mc ms : Nat} {F' : zF} {av : List zV} {Q : Option zV → zM → zJ → Prop} (hpl : plainName y.cls = true) (hy1 : y.cls = mt.1) (hy2 : y.name = mt.2.2.2.2) (hle : (lg_sl (av.map (cv G))).length ≤ mt.2.2.1) (hL : zargs av ++ List.replicate (mt.2.2.1 - (zargs av).length) none = L) (h : (∀ v ∈ av, vok v) → TZ G mt (tl_rm d mc ms) 0 0 K M J 0 L [] F M J (ZM G (zPost G K F' M J Q) mc ms)) : ZA G y mt d mc ms K av F F' M J Q := by
  intro hg hm ha
  refine CT_of hpl hy1 hy2 hle ?_
  have h1 := h ha hg hm (fun a _ => ⟨rfl, rfl⟩) (fun v hv => ?_) (fun v hv => by cases hv)
  · rw [zargs_map, List.length_map]
    rw [← hL, List.map_append, List.map_replicate] at h1
    exact h1
  · rw [← hL] at hv
    rcases List.mem_append.mp hv with q | q
    · exact ha v (zargs_mem av v q)
    · have := List.eq_of_mem_replicate q
      cases this
theorem Z_callI {idx d mc ms b : Nat} {y : MethodName} {mt' : tl_M} {K' : Nat → Prop} {rest : List zV} {F' : zF} {Q' : zM → zJ → Prop} (hd : decode mt.2.1 pc = .ok (.invokespecial idx, 3)) (hp : pc + 3 = n) (hw : tl_CW mt.1 idx y mt' 0 ∧ Cond.instanceMethod y ∈ tl_W ∧ y.name = "<init>" ∧ mt'.2.2.2.1 = none) (hcat : ((rest.map (cv G)).map fun v => v.category).sum ≤ 8) (hR : d + 1 ≤ R.frames ∧ 8 + (mt'.2.2.1 + 11) + 40 * d ≤ R.locals ∧ cells + mc ≤ R.cells ∧ slots + ms ≤ R.slots) (hKK : ∀ a, K a → K' a) (hc : ZA G y mt' d mc ms K' [vR b] F F' M J (qV Q')) (kk : ∀ (M' : zM) (J' : zJ), (∀ a, K' a → M' a = M a ∧ J' a = J a) → Q' M' J' → TZ G mt R (cells + mc) (slots + ms) K M0 J0 n L rest F' M' J' Z) : TZ G mt R cells slots K M0 J0 pc L (vR b :: rest) F M J Z := by
  intro hg hm hf hl hs
  have h2 := (List.forall_mem_cons.mp hs).2
  refine T_callI (As := []) (rest := rest.map (cv G)) hd hp hw rfl rfl hcat hR (hc hg hm (List.forall_mem_cons.mpr ⟨trivial, fun v hv => by cases hv⟩)) ?_
  rintro v σ' ⟨v', M', J', rfl, rfl, hv, hm', hf', rfl, hQ⟩
  exact kk M' J' hf' hQ hg hm' (fr_after hKK hf hf') hl h2
end ZNW
theorem cl_X3_9 : Cond.classLink RX3 9 RX0 ∈ tl_W := by
  obtain ⟨C, T, h1, -, h3, -⟩ := cnX3_9
  cases h1
  exact h3
