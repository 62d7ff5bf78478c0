section
/-! ===== readers: what is read of a function ===== -/
theorem pos_ihd (r : Int → Int) : pos r = ihd r 8 := by
  have h := pd_mix (s := r) (d := 8) (k := 0) (r := r) rfl
  have e : mix ((8 : Nat) : Int) r r = r := by
    funext k
    unfold mix
    split <;> rfl
  rw [e] at h
  unfold pos
  rw [h]
  show ihd r 8 * 1 + 0 = ihd r 8
  omega
/-- the values that an assignment gives to the places -/
def aR (o : Int → Int) (a : Int) : Int → Int := fun k => if 0 ≤ k ∧ k < 8 then zand (zshr a (o k)) 1 else 0
theorem aR_in {o : Int → Int} {a k : Int} (h0 : 0 ≤ k) (h1 : k < 8) : aR o a k = zand (zshr a (o k)) 1 := if_pos ⟨h0, h1⟩
theorem bz_and (x : Int) : bz (zand x 1) = zand x 1 := by
  rcases zand_1 x with h | h
  · rw [h]; rfl
  · rw [h]; rfl
theorem bz_01 (x : Int) : bz x = 0 ∨ bz x = 1 := bz_in x
theorem ihd_inj {s s' : Int → Int} : ∀ {d : Nat}, ihd s d = ihd s' d → ∀ j : Int, 0 ≤ j → j < d → bz (s j) = bz (s' j)
  | 0, _, j, a, b => by omega
  | d + 1, h, j, a, b => by
    have h' : 2 * ihd s d + bz (s (d : Int)) = 2 * ihd s' d + bz (s' (d : Int)) := h
    have e1 := bz_01 (s (d : Int))
    have e2 := bz_01 (s' (d : Int))
    by_cases q : j = d
    · rw [q]; omega
    · exact ihd_inj (d := d) (by omega) j a (by omega)
theorem bits8 : ∀ a : Fin 256, (a.val : Int) = zand (zshr a.val 0) 1 + 2 * zand (zshr a.val 1) 1 + 4 * zand (zshr a.val 2) 1 + 8 * zand (zshr a.val 3) 1 + 16 * zand (zshr a.val 4) 1 + 32 * zand (zshr a.val 5) 1 + 64 * zand (zshr a.val 6) 1 + 128 * zand (zshr a.val 7) 1 := by decide +kernel
theorem bits_inj {a b : Int} (a0 : 0 ≤ a) (a1 : a < 256) (b0 : 0 ≤ b) (b1 : b < 256) (h : ∀ v : Int, 0 ≤ v → v < 8 → zand (zshr a v) 1 = zand (zshr b v) 1) : a = b := by
  have ha := bits8 ⟨a.toNat, by omega⟩
  have hb := bits8 ⟨b.toNat, by omega⟩
  dsimp only at ha hb
  rw [Int.toNat_of_nonneg a0] at ha
  rw [Int.toNat_of_nonneg b0] at hb
  have h0 := h 0 (by decide) (by decide)
  have h1 := h 1 (by decide) (by decide)
  have h2 := h 2 (by decide) (by decide)
  have h3 := h 3 (by decide) (by decide)
  have h4 := h 4 (by decide) (by decide)
  have h5 := h 5 (by decide) (by decide)
  have h6 := h 6 (by decide) (by decide)
  have h7 := h 7 (by decide) (by decide)
  omega
/-- another assignment, another place in the row -/
theorem aR_inj {A P : Int → Int} (hI : oIn A P) {a b : Int} (a0 : 0 ≤ a) (a1 : a < 256) (b0 : 0 ≤ b) (b1 : b < 256) (h : pos (aR A a) = pos (aR A b)) : a = b := by
  rw [pos_ihd, pos_ihd] at h
  refine bits_inj a0 a1 b0 b1 (fun v v0 v1 => ?_)
  obtain ⟨⟨p0, p1, p2⟩, -⟩ := hI v v0 v1
  have e := ihd_inj h (P v) p0 (by omega)
  rw [aR_in p0 p1, aR_in p0 p1, bz_and, bz_and, p2] at e
  exact e
theorem pig {g : Int → Int} {n : Nat} (hr : ∀ a : Int, 0 ≤ a → a < n → 0 ≤ g a ∧ g a < n) (hi : ∀ a b : Int, 0 ≤ a → a < n → 0 ≤ b → b < n → g a = g b → a = b) : ∀ p : Int, 0 ≤ p → p < n → ∃ a : Int, 0 ≤ a ∧ a < n ∧ g a = p := by
  intro p p0 p1
  by_cases q : ∃ a : Int, 0 ≤ a ∧ a < n ∧ g a = p
  · exact q
  · exfalso
    have hl : ((lv (fun _ => 1) n).map g).Nodup := nodup_map_on (lv_nodup n) (fun a ha b hb e => by
      have ha' := lv_mem.mp ha
      have hb' := lv_mem.mp hb
      exact hi a b ha'.1 ha'.2.1 hb'.1 hb'.2.1 e)
    have hn : (p :: (lv (fun _ => 1) n).map g).Nodup := List.nodup_cons.mpr ⟨fun m => by
      obtain ⟨a, ha, e⟩ := List.mem_map.mp m
      have ha' := lv_mem.mp ha
      exact q ⟨a, ha'.1, ha'.2.1, e⟩, hl⟩
    have hs : ∀ x ∈ p :: (lv (fun _ => 1) n).map g, x ∈ lv (fun _ => 1) n := fun x hx => by
      refine lv_mem.mpr ?_
      rcases List.mem_cons.mp hx with e | m
      · rw [e]; exact ⟨p0, p1, by show ¬ (1 : Int) = 0; decide⟩
      · obtain ⟨a, ha, e⟩ := List.mem_map.mp m
        have ha' := lv_mem.mp ha
        have z := hr a ha'.1 ha'.2.1
        rw [← e]
        exact ⟨z.1, z.2, by show ¬ (1 : Int) = 0; decide⟩
    have h1 := nodup_len hn hs
    rw [List.length_cons, List.length_map] at h1
    omega
/-- counted over assignments as over the row -/
theorem hr_bij {g s : Int → Int} {n : Nat} (hr' : ∀ a : Int, 0 ≤ a → a < n → 0 ≤ s a ∧ s a < n) (hi : ∀ a b : Int, 0 ≤ a → a < n → 0 ≤ b → b < n → s a = s b → a = b) : hr (fun a => g (s a)) n = hr g n := by
  have c1 : cnt (fun y : Lb => ∃ p : Int, (0 ≤ p ∧ p < n) ∧ ¬ g p = 0 ∧ y = (p, fun _ => 0)) (hr g n) := cnt_hr (g := fun p => (p, fun _ => 0)) (fun a b _ _ _ _ _ _ e => congrArg Prod.fst e) (fun a a0 a1 ha => ⟨a, ⟨a0, a1⟩, ha, rfl⟩) (fun x hx => by
    obtain ⟨p, pb, q, e⟩ := hx
    exact ⟨p, pb.1, pb.2, q, e.symm⟩)
  have c2 : cnt (fun y : Lb => ∃ p : Int, (0 ≤ p ∧ p < n) ∧ ¬ g p = 0 ∧ y = (p, fun _ => 0)) (hr (fun a => g (s a)) n) := cnt_hr (g := fun a => (s a, fun _ => 0)) (fun a b a0 a1 b0 b1 _ _ e => hi a b a0 a1 b0 b1 (congrArg Prod.fst e)) (fun a a0 a1 ha => ⟨s a, hr' a a0 a1, ha, rfl⟩) (fun x hx => by
    obtain ⟨p, pb, q, e⟩ := hx
    obtain ⟨a, a0, a1, w⟩ := pig hr' hi p pb.1 pb.2
    exact ⟨a, a0, a1, by show ¬ g (s a) = 0; rw [w]; exact q, by show ((s a, fun _ => 0) : Lb) = x; rw [e, w]⟩)
  exact cnt_uniq (fun _ => Iff.rfl) c2 c1
/-- a function's value at an assignment -/
def vF (F : FN) (o : Int → Int) (a : Int) : Int := F (aR o a)
theorem cnt_as {A P : Int → Int} (hI : oIn A P) (B : Int → Int64) : hr (vF (fun r => btF B (pos r)) A) 256 = hr (btF B) 256 :=
  hr_bij (g := btF B) (s := fun a => pos (aR A a)) (n := 256) (fun a _ _ => by have z := pos_in (aR A a); exact ⟨z.1, by show pos (aR A a) < ((256 : Nat) : Int); omega⟩) (fun a b a0 a1 b0 b1 e => aR_inj hI a0 (by omega) b0 (by omega) e)
/-! counts over places -/
/-! the reference's nodes of a function -/
end
section
/-! ===== readers: their answers ===== -/
set_option maxRecDepth 20000 in
theorem zX2_valueFor_f {G : tl_G} {M : zM} {J : zJ} {S : Int → Prop} {n a : Int} (hp : pst M S) (hn : okN S n) : ZN G yX2_valueFor mX2_valueFor 1 kAll [vR 5, vI n, vI a, vR 2] F1 M J (qI (fun x M' J' => M' = M ∧ J' = J ∧ x = vF (den M n) (M 3) a)) := by
  refine ZN_of (L := [_, _, _, _, _, _, _]) (by decide) rfl rfl (Nat.le_of_ble_eq_true rfl) rfl (fun hav => ?_)
  have hin := okN_in hp hn
  refine Z_iload_n (n := 1) dX2_valueFor_0 rfl rfl ?_
  refine Z_istore (L' := [_, _, _, _, _, _, _]) (n := 3) dX2_valueFor_1 rfl (by decide) rfl rfl ?_
  refine Z_iconst (n := 4) dX2_valueFor_3 rfl (by decide) ?_
  refine Z_istore (L' := [_, _, _, _, _, _, _]) (n := 6) dX2_valueFor_4 rfl (by decide) rfl rfl ?_
  have lp6 : ∀ (N6 : Nat) (c i : Int) , ((8 - i).toNat) < N6 → (0 ≤ c) → (c ≤ 251) → (0 ≤ i) → (i ≤ 8) → (okN S c) → (i ≤ M 6 c) → (den M c (aR (M 3) a) = den M n (aR (M 3) a)) → TZ G mX2_valueFor (tl_rm 1 0 0) 0 0 kAll M J 6 [some (vR 5), some (vI n), some (vI a), some (vR 2), some (vI c), some (vI i), none] [] F1 M J (ZM G (zPost G kAll F1 M J (qI (fun x M' J' => M' = M ∧ J' = J ∧ x = vF (den M n) (M 3) a))) 0 0) := by
    intro N6
    induction N6 with
    | zero => intro c i  hN; omega
    | succ N6 ih6 =>
      intro c i  hN6 i6_0 i6_1 i6_2 i6_3 i6_4 i6_5 i6_6
      refine Z_iload (n := 8) dX2_valueFor_6 rfl rfl ?_
      refine Z_bipush (n := 10) dX2_valueFor_8 rfl (by decide) (by decide) ?_
      refine Z_icmp_ge (n := 13) (t := 75) dX2_valueFor_10 rfl (by decide) (fun c10 => ?_) (fun c10 => ?_)
      · refine Z_iload (n := 77) dX2_valueFor_75 rfl rfl ?_
        refine Z_iconst (n := 78) dX2_valueFor_77 rfl (by decide) ?_
        refine Z_icmp_ne (n := 81) (t := 85) dX2_valueFor_78 rfl (by decide) (fun c78 => ?_) (fun c78 => ?_)
        · refine Z_iconst (n := 86) dX2_valueFor_85 rfl (by decide) ?_
          refine Z_iret dX2_valueFor_86 rfl ?_
          have tc : c = 0 ∨ c = 1 := by
            by_cases q : c < 2
            · omega
            · exact pst_t hp i6_4 (by omega)
          refine ⟨rfl, rfl, ?_⟩
          show _ = den M n (aR (M 3) a)
          rw [← i6_6]
          rcases tc with e | e
          · rw [e]
            first
              | exact den_0.symm
              | (exfalso; omega)
          · rw [e]
            first
              | exact den_1.symm
              | (exfalso; omega)
        · refine Z_iconst (n := 82) dX2_valueFor_81 rfl (by decide) ?_
          refine Z_goto (t := 86) dX2_valueFor_82 (by decide) ?_
          refine Z_iret dX2_valueFor_86 rfl ?_
          have tc : c = 0 ∨ c = 1 := by
            by_cases q : c < 2
            · omega
            · exact pst_t hp i6_4 (by omega)
          refine ⟨rfl, rfl, ?_⟩
          show _ = den M n (aR (M 3) a)
          rw [← i6_6]
          rcases tc with e | e
          · rw [e]
            first
              | exact den_0.symm
              | (exfalso; omega)
          · rw [e]
            first
              | exact den_1.symm
              | (exfalso; omega)
      · refine Z_iload (n := 15) dX2_valueFor_13 rfl rfl ?_
        refine Z_iconst (n := 16) dX2_valueFor_15 rfl (by decide) ?_
        refine Z_icmp_lt (n := 19) (t := 75) dX2_valueFor_16 rfl (by decide) (fun c16 => ?_) (fun c16 => ?_)
        · refine Z_iload (n := 77) dX2_valueFor_75 rfl rfl ?_
          refine Z_iconst (n := 78) dX2_valueFor_77 rfl (by decide) ?_
          refine Z_icmp_ne (n := 81) (t := 85) dX2_valueFor_78 rfl (by decide) (fun c78 => ?_) (fun c78 => ?_)
          · refine Z_iconst (n := 86) dX2_valueFor_85 rfl (by decide) ?_
            refine Z_iret dX2_valueFor_86 rfl ?_
            have tc : c = 0 ∨ c = 1 := by
              by_cases q : c < 2
              · omega
              · exact pst_t hp i6_4 (by omega)
            refine ⟨rfl, rfl, ?_⟩
            show _ = den M n (aR (M 3) a)
            rw [← i6_6]
            rcases tc with e | e
            · rw [e]
              first
                | exact den_0.symm
                | (exfalso; omega)
            · rw [e]
              first
                | exact den_1.symm
                | (exfalso; omega)
          · refine Z_iconst (n := 82) dX2_valueFor_81 rfl (by decide) ?_
            refine Z_goto (t := 86) dX2_valueFor_82 (by decide) ?_
            refine Z_iret dX2_valueFor_86 rfl ?_
            have tc : c = 0 ∨ c = 1 := by
              by_cases q : c < 2
              · omega
              · exact pst_t hp i6_4 (by omega)
            refine ⟨rfl, rfl, ?_⟩
            show _ = den M n (aR (M 3) a)
            rw [← i6_6]
            rcases tc with e | e
            · rw [e]
              first
                | exact den_0.symm
                | (exfalso; omega)
            · rw [e]
              first
                | exact den_1.symm
                | (exfalso; omega)
        · refine Z_iload_n (n := 20) dX2_valueFor_19 rfl rfl ?_
          refine Z_aload_n (n := 21) dX2_valueFor_20 rfl rfl ?_
          refine Z_aload_n (n := 22) dX2_valueFor_21 rfl rfl ?_
          refine Z_getA (n := 25) dX2_valueFor_22 rfl ffX2_11 rfl rfl ?_
          refine Z_iload (n := 27) dX2_valueFor_25 rfl rfl ?_
          refine Z_iald (n := 28) dX2_valueFor_27 rfl rfl rfl (by first | decide | assumption) (by omega) (by omega) (fun r27 s27 => ?_)
          rw [if_neg (by omega)] at s27
          have sc := okN_2 hp i6_4 (by omega)
          have pc := hp.2.1 c sc
          have pc1 := pc.2.1
          have pcl := pc.2.2.2.1.2
          have pch := pc.2.2.2.2.2
          have rv : aR (M 3) a (M 6 c) = zand (zshr a (M 3 (M 6 c))) 1 := aR_in pc1.1 pc1.2
          have dz := den_n hp sc (aR (M 3) a)
          refine Z_callVi (n := 31) [_] _ dX2_valueFor_28 rfl cwX2_95 rfl rfl rfl (Nat.le_of_ble_eq_true rfl) (by refine ⟨?_, ?_, ?_, ?_⟩ <;> exact Nat.le_of_ble_eq_true rfl) (fun _ h => h) (zX1_variableAt  (by first | assumption | omega | decide) (by first | assumption | omega | decide)) ?_
          intro x28 M28 J28 z28 f28 q28
          obtain ⟨e28_1, e28_2, h28⟩ := q28
          replace e28_1 := e28_1.symm; subst e28_1
          replace e28_2 := e28_2.symm; subst e28_2
          refine Z_ishr (n := 32) dX2_valueFor_31 rfl ?_
          refine Z_iconst (n := 33) dX2_valueFor_32 rfl (by decide) ?_
          refine Z_iand (n := 34) dX2_valueFor_33 rfl ?_
          refine Z_iconst (n := 35) dX2_valueFor_34 rfl (by decide) ?_
          refine Z_icmp_ne (n := 38) (t := 42) dX2_valueFor_35 rfl (by decide) (fun c35 => ?_) (fun c35 => ?_)
          · have yv : aR (M 3) a (M 6 c) = 0 := by
              have w := zand_1 (zshr a (M 3 (M 6 c)))
              rw [rv]
              rw [h28] at c35
              omega
            refine Z_iconst (n := 43) dX2_valueFor_42 rfl (by decide) ?_
            refine Z_istore (L' := [_, _, _, _, _, _, _]) (n := 45) dX2_valueFor_43 rfl (by decide) rfl rfl ?_
            refine Z_iload (n := 47) dX2_valueFor_45 rfl rfl ?_
            refine Z_if_eq (n := 50) (t := 60) dX2_valueFor_47 rfl (by decide) (fun c47 => ?_) (fun c47 => ?_)
            · refine Z_aload_n (n := 61) dX2_valueFor_60 rfl rfl ?_
              refine Z_getA (n := 64) dX2_valueFor_61 rfl ffX2_15 rfl rfl ?_
              refine Z_iload (n := 66) dX2_valueFor_64 rfl rfl ?_
              refine Z_iald (n := 67) dX2_valueFor_66 rfl rfl rfl (by first | decide | assumption) (by omega) (by omega) (fun r66 s66 => ?_)
              have nx4 : okN S (M 7 c) := pc.2.2.2.1.1
              have nx5 : i + 1 ≤ M 6 (M 7 c) := by omega
              have nx6 : den M (M 7 c) (aR (M 3) a) = den M n (aR (M 3) a) := by
                first
                  | (exfalso; omega)
                  | (rw [if_pos yv] at dz; exact dz.symm.trans i6_6)
              refine Z_istore (L' := [_, _, _, _, _, _, _]) (n := 69) dX2_valueFor_67 rfl (by decide) rfl rfl ?_
              refine Z_iinc (L' := [_, _, _, _, _, _, _]) (n := 72) dX2_valueFor_69 rfl rfl (by decide) rfl rfl (by omega) rfl ?_
              refine Z_goto (t := 6) dX2_valueFor_72 (by decide) ?_
              refine Z_loc (L' := [some _, some _, some _, some _, some _, some _, none]) (lsub_same (lsub_same (lsub_same (lsub_same (lsub_same (lsub_same (lsub_none lsub_nil))))))) ?_
              exact ih6 _ _  (by omega) (by first | assumption | omega | decide) (by first | assumption | omega | decide) (by first | assumption | omega | decide) (by first | assumption | omega | decide) (by exact nx4) (by exact nx5) (by exact nx6)
            · refine Z_aload_n (n := 51) dX2_valueFor_50 rfl rfl ?_
              refine Z_getA (n := 54) dX2_valueFor_51 rfl ffX2_18 rfl rfl ?_
              refine Z_iload (n := 56) dX2_valueFor_54 rfl rfl ?_
              refine Z_iald (n := 57) dX2_valueFor_56 rfl rfl rfl (by first | decide | assumption) (by omega) (by omega) (fun r56 s56 => ?_)
              have nx4 : okN S (M 8 c) := pc.2.2.2.2.1
              have nx5 : i + 1 ≤ M 6 (M 8 c) := by omega
              have nx6 : den M (M 8 c) (aR (M 3) a) = den M n (aR (M 3) a) := by
                first
                  | (exfalso; omega)
                  | (rw [if_neg yv] at dz; exact dz.symm.trans i6_6)
              refine Z_goto (t := 67) dX2_valueFor_57 (by decide) ?_
              refine Z_istore (L' := [_, _, _, _, _, _, _]) (n := 69) dX2_valueFor_67 rfl (by decide) rfl rfl ?_
              refine Z_iinc (L' := [_, _, _, _, _, _, _]) (n := 72) dX2_valueFor_69 rfl rfl (by decide) rfl rfl (by omega) rfl ?_
              refine Z_goto (t := 6) dX2_valueFor_72 (by decide) ?_
              refine Z_loc (L' := [some _, some _, some _, some _, some _, some _, none]) (lsub_same (lsub_same (lsub_same (lsub_same (lsub_same (lsub_same (lsub_none lsub_nil))))))) ?_
              exact ih6 _ _  (by omega) (by first | assumption | omega | decide) (by first | assumption | omega | decide) (by first | assumption | omega | decide) (by first | assumption | omega | decide) (by exact nx4) (by exact nx5) (by exact nx6)
          · have yv : ¬ aR (M 3) a (M 6 c) = 0 := by
              rw [rv, ← h28]
              omega
            refine Z_iconst (n := 39) dX2_valueFor_38 rfl (by decide) ?_
            refine Z_goto (t := 43) dX2_valueFor_39 (by decide) ?_
            refine Z_istore (L' := [_, _, _, _, _, _, _]) (n := 45) dX2_valueFor_43 rfl (by decide) rfl rfl ?_
            refine Z_iload (n := 47) dX2_valueFor_45 rfl rfl ?_
            refine Z_if_eq (n := 50) (t := 60) dX2_valueFor_47 rfl (by decide) (fun c47 => ?_) (fun c47 => ?_)
            · refine Z_aload_n (n := 61) dX2_valueFor_60 rfl rfl ?_
              refine Z_getA (n := 64) dX2_valueFor_61 rfl ffX2_15 rfl rfl ?_
              refine Z_iload (n := 66) dX2_valueFor_64 rfl rfl ?_
              refine Z_iald (n := 67) dX2_valueFor_66 rfl rfl rfl (by first | decide | assumption) (by omega) (by omega) (fun r66 s66 => ?_)
              have nx4 : okN S (M 7 c) := pc.2.2.2.1.1
              have nx5 : i + 1 ≤ M 6 (M 7 c) := by omega
              have nx6 : den M (M 7 c) (aR (M 3) a) = den M n (aR (M 3) a) := by
                first
                  | (exfalso; omega)
                  | (rw [if_pos yv] at dz; exact dz.symm.trans i6_6)
              refine Z_istore (L' := [_, _, _, _, _, _, _]) (n := 69) dX2_valueFor_67 rfl (by decide) rfl rfl ?_
              refine Z_iinc (L' := [_, _, _, _, _, _, _]) (n := 72) dX2_valueFor_69 rfl rfl (by decide) rfl rfl (by omega) rfl ?_
              refine Z_goto (t := 6) dX2_valueFor_72 (by decide) ?_
              refine Z_loc (L' := [some _, some _, some _, some _, some _, some _, none]) (lsub_same (lsub_same (lsub_same (lsub_same (lsub_same (lsub_same (lsub_none lsub_nil))))))) ?_
              exact ih6 _ _  (by omega) (by first | assumption | omega | decide) (by first | assumption | omega | decide) (by first | assumption | omega | decide) (by first | assumption | omega | decide) (by exact nx4) (by exact nx5) (by exact nx6)
            · refine Z_aload_n (n := 51) dX2_valueFor_50 rfl rfl ?_
              refine Z_getA (n := 54) dX2_valueFor_51 rfl ffX2_18 rfl rfl ?_
              refine Z_iload (n := 56) dX2_valueFor_54 rfl rfl ?_
              refine Z_iald (n := 57) dX2_valueFor_56 rfl rfl rfl (by first | decide | assumption) (by omega) (by omega) (fun r56 s56 => ?_)
              have nx4 : okN S (M 8 c) := pc.2.2.2.2.1
              have nx5 : i + 1 ≤ M 6 (M 8 c) := by omega
              have nx6 : den M (M 8 c) (aR (M 3) a) = den M n (aR (M 3) a) := by
                first
                  | (exfalso; omega)
                  | (rw [if_neg yv] at dz; exact dz.symm.trans i6_6)
              refine Z_goto (t := 67) dX2_valueFor_57 (by decide) ?_
              refine Z_istore (L' := [_, _, _, _, _, _, _]) (n := 69) dX2_valueFor_67 rfl (by decide) rfl rfl ?_
              refine Z_iinc (L' := [_, _, _, _, _, _, _]) (n := 72) dX2_valueFor_69 rfl rfl (by decide) rfl rfl (by omega) rfl ?_
              refine Z_goto (t := 6) dX2_valueFor_72 (by decide) ?_
              refine Z_loc (L' := [some _, some _, some _, some _, some _, some _, none]) (lsub_same (lsub_same (lsub_same (lsub_same (lsub_same (lsub_same (lsub_none lsub_nil))))))) ?_
              exact ih6 _ _  (by omega) (by first | assumption | omega | decide) (by first | assumption | omega | decide) (by first | assumption | omega | decide) (by first | assumption | omega | decide) (by exact nx4) (by exact nx5) (by exact nx6)
  refine Z_loc (L' := [some _, some _, some _, some _, some _, some _, none]) (lsub_same (lsub_same (lsub_same (lsub_same (lsub_same (lsub_same (lsub_none lsub_nil))))))) ?_
  exact lp6 _ _ _  (Nat.lt_succ_self _) (by first | assumption | omega | decide) (by first | assumption | omega | decide) (by first | assumption | omega | decide) (by first | assumption | omega | decide) (by exact hn) (by exact (pst_pl hp hn).1) (by rfl)
set_option maxRecDepth 20000 in
theorem zX3_count_f {G : tl_G} {M : zM} {J : zJ} {f : Int} (hb : CB M) : ZN G yX3_count mX3_count 2 kAll [vR 0, vI f] F1 M J (qI (fun x M' J' => M' = M ∧ J' = J ∧ (((f < 0 ∨ 12 ≤ f ∨ M 12 f = -1) ∧ x = -1) ∨ (¬ (f < 0 ∨ 12 ≤ f ∨ M 12 f = -1) ∧ x = hr (vF (den M (M 12 f)) (M 3)) 256)))) := by
  refine ZN_of (L := [_, _, _, _]) (by decide) rfl rfl (Nat.le_of_ble_eq_true rfl) rfl (fun hav => ?_)
  obtain ⟨⟨Sb, hSb, hRb⟩, -⟩ := hb
  refine Z_aload_n (n := 1) dX3_count_0 rfl rfl ?_
  refine Z_iload_n (n := 2) dX3_count_1 rfl rfl ?_
  refine Z_callVi (n := 5) [_] _ dX3_count_2 rfl cwX3_139 rfl rfl (by first | rfl | exact nS0 (nA_at (by omega) (by omega))) (Nat.le_of_ble_eq_true rfl) (by refine ⟨?_, ?_, ?_, ?_⟩ <;> exact Nat.le_of_ble_eq_true rfl) (fun _ h => h) (zX3_hasFunction  ) ?_
  intro x2 M2 J2 z2 f2 q2
  obtain ⟨e2_1, e2_2, h2⟩ := q2
  replace e2_1 := e2_1.symm; subst e2_1
  replace e2_2 := e2_2.symm; subst e2_2
  refine Z_if_ne (n := 8) (t := 10) dX3_count_5 rfl (by decide) (fun c5 => ?_) (fun c5 => ?_)
  · have okf : okN Sb (M 12 f) := (hRb _ (Or.inl ⟨f, ⟨by omega, by omega⟩, rfl⟩)).resolve_left (by omega)
    refine Z_iconst (n := 11) dX3_count_10 rfl (by decide) ?_
    refine Z_istore_n (L' := [_, _, _, _]) (n := 12) dX3_count_11 rfl (by decide) rfl rfl ?_
    refine Z_iconst (n := 13) dX3_count_12 rfl (by decide) ?_
    refine Z_istore_n (L' := [_, _, _, _]) (n := 14) dX3_count_13 rfl (by decide) rfl rfl ?_
    have lp14 : ∀ (N14 : Nat) (n a : Int) , ((256 - a).toNat) < N14 → (0 ≤ a) → (a ≤ 256) → (0 ≤ n) → (n ≤ a) → (n = hr (vF (den M (M 12 f)) (M 3)) a.toNat) → TZ G mX3_count (tl_rm 2 0 0) 0 0 kAll M J 14 [some (vR 0), some (vI f), some (vI n), some (vI a)] [] F1 M J (ZM G (zPost G kAll F1 M J (qI (fun x M' J' => M' = M ∧ J' = J ∧ (((f < 0 ∨ 12 ≤ f ∨ M 12 f = -1) ∧ x = -1) ∨ (¬ (f < 0 ∨ 12 ≤ f ∨ M 12 f = -1) ∧ x = hr (vF (den M (M 12 f)) (M 3)) 256))))) 0 0) := by
      intro N14
      induction N14 with
      | zero => intro n a  hN; omega
      | succ N14 ih14 =>
        intro n a  hN14 i14_0 i14_1 i14_2 i14_3 i14_4
        refine Z_iload_n (n := 15) dX3_count_14 rfl rfl ?_
        refine Z_sipush (n := 18) dX3_count_15 rfl (by decide) (by decide) ?_
        refine Z_icmp_ge (n := 21) (t := 48) dX3_count_18 rfl (by decide) (fun c18 => ?_) (fun c18 => ?_)
        · refine Z_iload_n (n := 49) dX3_count_48 rfl rfl ?_
          refine Z_iret dX3_count_49 rfl ?_
          refine ⟨rfl, rfl, Or.inr ⟨by omega, ?_⟩⟩
          rw [i14_4, show a = 256 by omega]
          rfl
        · refine Z_iload_n (n := 22) dX3_count_21 rfl rfl ?_
          refine Z_aload_n (n := 23) dX3_count_22 rfl rfl ?_
          refine Z_getO (n := 26) dX3_count_23 rfl ffX3_25 (by first | rfl | exact nS0 (nA_at (by omega) (by omega))) (by first | rfl | exact nS0 (nA_at (by omega) (by omega))) ?_
          refine Z_aload_n (n := 27) dX3_count_26 rfl rfl ?_
          refine Z_getA (n := 30) dX3_count_27 rfl ffX3_29 (by first | rfl | exact nS0 (nA_at (by omega) (by omega))) (by first | rfl | exact nS0 (nA_at (by omega) (by omega))) ?_
          refine Z_iload_n (n := 31) dX3_count_30 rfl rfl ?_
          refine Z_iald (n := 32) dX3_count_31 rfl (by first | rfl | exact nS0 (nA_at (by omega) (by omega))) rfl (by first | decide | assumption) (by omega) (by omega) (fun r31 s31 => ?_)
          refine Z_iload_n (n := 33) dX3_count_32 rfl rfl ?_
          refine Z_aload_n (n := 34) dX3_count_33 rfl rfl ?_
          refine Z_getO (n := 37) dX3_count_34 rfl ffX3_18 (by first | rfl | exact nS0 (nA_at (by omega) (by omega))) (by first | rfl | exact nS0 (nA_at (by omega) (by omega))) ?_
          refine Z_callVi (n := 40) [_, _, _] _ dX3_count_37 rfl cwX3_164 rfl rfl (by first | rfl | exact nS0 (nA_at (by omega) (by omega))) (Nat.le_of_ble_eq_true rfl) (by refine ⟨?_, ?_, ?_, ?_⟩ <;> exact Nat.le_of_ble_eq_true rfl) (fun _ h => h) (zX2_valueFor_f  (by exact hSb.1) (by exact okf)) ?_
          intro x37 M37 J37 z37 f37 q37
          obtain ⟨e37_1, e37_2, h37⟩ := q37
          replace e37_1 := e37_1.symm; subst e37_1
          replace e37_2 := e37_2.symm; subst e37_2
          have db : x37 = 0 ∨ x37 = 1 := by rw [h37]; exact den_bool hSb.1 okf (aR (M 3) a)
          have nx4 : n + x37 = hr (vF (den M (M 12 f)) (M 3)) (a + 1).toNat := by
            have z := hr_up (vF (den M (M 12 f)) (M 3)) (i := a) (by omega)
            rcases db with e | e
            · have nz : vF (den M (M 12 f)) (M 3) a = 0 := h37.symm.trans e
              rw [if_pos nz] at z; omega
            · have nz : ¬ vF (den M (M 12 f)) (M 3) a = 0 := by rw [← h37, e]; decide
              rw [if_neg nz] at z; omega
          refine Z_iadd (n := 41) dX3_count_40 rfl (by omega) ?_
          refine Z_istore_n (L' := [_, _, _, _]) (n := 42) dX3_count_41 rfl (by decide) rfl rfl ?_
          refine Z_iinc (L' := [_, _, _, _]) (n := 45) dX3_count_42 rfl rfl (by decide) rfl rfl (by omega) rfl ?_
          refine Z_goto (t := 14) dX3_count_45 (by decide) ?_
          refine Z_loc (L' := [some _, some _, some _, some _]) (lsub_same (lsub_same (lsub_same (lsub_same lsub_nil)))) ?_
          exact ih14 _ _  (by omega) (by first | assumption | omega | decide) (by first | assumption | omega | decide) (by first | assumption | omega | decide) (by first | assumption | omega | decide) (by exact nx4)
    refine Z_loc (L' := [some _, some _, some _, some _]) (lsub_same (lsub_same (lsub_same (lsub_same lsub_nil)))) ?_
    exact lp14 _ _ _  (Nat.lt_succ_self _) (by first | assumption | omega | decide) (by first | assumption | omega | decide) (by first | assumption | omega | decide) (by first | assumption | omega | decide) (by rfl)
  · refine Z_iconst (n := 9) dX3_count_8 rfl (by decide) ?_
    refine Z_iret dX3_count_9 rfl ?_
    exact ⟨rfl, rfl, Or.inl ⟨by omega, rfl⟩⟩
set_option maxRecDepth 20000 in
theorem zX4_count_g {G : tl_G} {M : zM} {J : zJ} {f : Int}  : ZN G yX4_count mX4_count 3 kAll [vR 31, vI f] F1 M J (qI (fun x M' J' => M' = M ∧ J' = J ∧ (((f < 0 ∨ 12 ≤ f ∨ M 43 f = 0) ∧ x = -1) ∨ (¬ (f < 0 ∨ 12 ≤ f ∨ M 43 f = 0) ∧ x = hr (btF (bitF J f)) 256)))) := by
  refine ZN_of (L := [_, _, _, _]) (by decide) rfl rfl (Nat.le_of_ble_eq_true rfl) rfl (fun hav => ?_)
  refine Z_aload_n (n := 1) dX4_count_0 rfl rfl ?_
  refine Z_iload_n (n := 2) dX4_count_1 rfl rfl ?_
  refine Z_callVi (n := 5) [_] _ dX4_count_2 rfl cwX4_223 rfl rfl rfl (Nat.le_of_ble_eq_true rfl) (by refine ⟨?_, ?_, ?_, ?_⟩ <;> exact Nat.le_of_ble_eq_true rfl) (fun _ h => h) (zX4_isFunction  ) ?_
  intro x2 M2 J2 z2 f2 q2
  obtain ⟨e2_1, e2_2, h2⟩ := q2
  replace e2_1 := e2_1.symm; subst e2_1
  replace e2_2 := e2_2.symm; subst e2_2
  refine Z_if_ne (n := 8) (t := 10) dX4_count_5 rfl (by decide) (fun c5 => ?_) (fun c5 => ?_)
  · refine Z_iconst (n := 11) dX4_count_10 rfl (by decide) ?_
    refine Z_istore_n (L' := [_, _, _, _]) (n := 12) dX4_count_11 rfl (by decide) rfl rfl ?_
    refine Z_iconst (n := 13) dX4_count_12 rfl (by decide) ?_
    refine Z_istore_n (L' := [_, _, _, _]) (n := 14) dX4_count_13 rfl (by decide) rfl rfl ?_
    have lp14 : ∀ (N14 : Nat) (n p : Int) , ((256 - p).toNat) < N14 → (0 ≤ p) → (p ≤ 256) → (0 ≤ n) → (n ≤ p) → (n = hr (btF (bitF J f)) p.toNat) → TZ G mX4_count (tl_rm 3 0 0) 0 0 kAll M J 14 [some (vR 31), some (vI f), some (vI n), some (vI p)] [] F1 M J (ZM G (zPost G kAll F1 M J (qI (fun x M' J' => M' = M ∧ J' = J ∧ (((f < 0 ∨ 12 ≤ f ∨ M 43 f = 0) ∧ x = -1) ∨ (¬ (f < 0 ∨ 12 ≤ f ∨ M 43 f = 0) ∧ x = hr (btF (bitF J f)) 256))))) 0 0) := by
      intro N14
      induction N14 with
      | zero => intro n p  hN; omega
      | succ N14 ih14 =>
        intro n p  hN14 i14_0 i14_1 i14_2 i14_3 i14_4
        refine Z_iload_n (n := 15) dX4_count_14 rfl rfl ?_
        refine Z_sipush (n := 18) dX4_count_15 rfl (by decide) (by decide) ?_
        refine Z_icmp_ge (n := 21) (t := 44) dX4_count_18 rfl (by decide) (fun c18 => ?_) (fun c18 => ?_)
        · refine Z_iload_n (n := 45) dX4_count_44 rfl rfl ?_
          refine Z_iret dX4_count_45 rfl ?_
          refine ⟨rfl, rfl, Or.inr ⟨by omega, ?_⟩⟩
          rw [i14_4, show p = 256 by omega]
          rfl
        · refine Z_iload_n (n := 22) dX4_count_21 rfl rfl ?_
          refine Z_aload_n (n := 23) dX4_count_22 rfl rfl ?_
          refine Z_iload_n (n := 24) dX4_count_23 rfl rfl ?_
          refine Z_iload_n (n := 25) dX4_count_24 rfl rfl ?_
          refine Z_callVi (n := 28) [_, _] _ dX4_count_25 rfl cwX4_240 rfl rfl rfl (Nat.le_of_ble_eq_true rfl) (by refine ⟨?_, ?_, ?_, ?_⟩ <;> exact Nat.le_of_ble_eq_true rfl) (fun _ h => h) (zX4_bit  (by first | assumption | omega | decide) (by first | assumption | omega | decide) (by first | assumption | omega | decide) (by first | assumption | omega | decide)) ?_
          intro x25 M25 J25 z25 f25 q25
          obtain ⟨e25_1, e25_2, h25⟩ := q25
          replace e25_1 := e25_1.symm; subst e25_1
          replace e25_2 := e25_2.symm; subst e25_2
          refine Z_if_eq (n := 31) (t := 35) dX4_count_28 rfl (by decide) (fun c28 => ?_) (fun c28 => ?_)
          · have nx4 : n + 0 = hr (btF (bitF J f)) (p + 1).toNat := by
              have z := hr_up (btF (bitF J f)) (i := p) (by omega)
              have nz : btF (bitF J f) p = 0 := h25.symm.trans c28
              rw [if_pos nz] at z
              omega
            refine Z_iconst (n := 36) dX4_count_35 rfl (by decide) ?_
            refine Z_iadd (n := 37) dX4_count_36 rfl (by omega) ?_
            refine Z_istore_n (L' := [_, _, _, _]) (n := 38) dX4_count_37 rfl (by decide) rfl rfl ?_
            refine Z_iinc (L' := [_, _, _, _]) (n := 41) dX4_count_38 rfl rfl (by decide) rfl rfl (by omega) rfl ?_
            refine Z_goto (t := 14) dX4_count_41 (by decide) ?_
            refine Z_loc (L' := [some _, some _, some _, some _]) (lsub_same (lsub_same (lsub_same (lsub_same lsub_nil)))) ?_
            exact ih14 _ _  (by omega) (by first | assumption | omega | decide) (by first | assumption | omega | decide) (by first | assumption | omega | decide) (by first | assumption | omega | decide) (by exact nx4)
          · have nx4 : n + 1 = hr (btF (bitF J f)) (p + 1).toNat := by
              have z := hr_up (btF (bitF J f)) (i := p) (by omega)
              have nz : ¬ btF (bitF J f) p = 0 := fun t => c28 (h25.trans t)
              rw [if_neg nz] at z
              omega
            refine Z_iconst (n := 32) dX4_count_31 rfl (by decide) ?_
            refine Z_goto (t := 36) dX4_count_32 (by decide) ?_
            refine Z_iadd (n := 37) dX4_count_36 rfl (by omega) ?_
            refine Z_istore_n (L' := [_, _, _, _]) (n := 38) dX4_count_37 rfl (by decide) rfl rfl ?_
            refine Z_iinc (L' := [_, _, _, _]) (n := 41) dX4_count_38 rfl rfl (by decide) rfl rfl (by omega) rfl ?_
            refine Z_goto (t := 14) dX4_count_41 (by decide) ?_
            refine Z_loc (L' := [some _, some _, some _, some _]) (lsub_same (lsub_same (lsub_same (lsub_same lsub_nil)))) ?_
            exact ih14 _ _  (by omega) (by first | assumption | omega | decide) (by first | assumption | omega | decide) (by first | assumption | omega | decide) (by first | assumption | omega | decide) (by exact nx4)
    refine Z_loc (L' := [some _, some _, some _, some _]) (lsub_same (lsub_same (lsub_same (lsub_same lsub_nil)))) ?_
    exact lp14 _ _ _  (Nat.lt_succ_self _) (by first | assumption | omega | decide) (by first | assumption | omega | decide) (by first | assumption | omega | decide) (by first | assumption | omega | decide) (by rfl)
  · refine Z_iconst (n := 9) dX4_count_8 rfl (by decide) ?_
    refine Z_iret dX4_count_9 rfl ?_
    exact ⟨rfl, rfl, Or.inl ⟨by omega, rfl⟩⟩
end
section
/-! ===== readers on both sides ===== -/
section RDS
variable {M M1 : zM} {J : zJ} {x y : Int}
theorem ls_k (h : LSy M J) (fr : ∀ a : Nat, 31 ≤ a → M1 a = M a) (f : Int) : f < 0 ∨ 12 ≤ f ∨ (M 12 f = -1 ∧ M1 43 f = 0) ∨ (¬ M 12 f = -1 ∧ ¬ M1 43 f = 0) := hs_k h.2.2.2.2.2 (fr 43 (by decide)) f
theorem ls_d (h : LSy M J) {f : Int} (f0 : 0 ≤ f) (f1 : f < 12) (q : ¬ M 12 f = -1) : den M (M 12 f) = phi J f := (h.2.2.2.2.2 f f0 f1).2.resolve_left q
theorem sim_count {f : Int} (h : LSy M J) (fr : ∀ a : Nat, 31 ≤ a → M1 a = M a) (hc : ((f < 0 ∨ 12 ≤ f ∨ M 12 f = -1) ∧ x = -1) ∨ (¬ (f < 0 ∨ 12 ≤ f ∨ M 12 f = -1) ∧ x = hr (vF (den M (M 12 f)) (M 3)) 256)) (hq : ((f < 0 ∨ 12 ≤ f ∨ M1 43 f = 0) ∧ y = -1) ∨ (¬ (f < 0 ∨ 12 ≤ f ∨ M1 43 f = 0) ∧ y = hr (btF (bitF J f)) 256)) : x = y := by
  have kf := ls_k h fr f
  rcases hc with ⟨a, b⟩ | ⟨a, b⟩
  · rcases hq with ⟨a', b'⟩ | ⟨a', b'⟩
    · exact b.trans b'.symm
    · exfalso; omega
  · rcases hq with ⟨a', b'⟩ | ⟨a', b'⟩
    · exfalso; omega
    · have e43 : M1 43 = M 43 := fr 43 (by decide)
      have df := ls_d h (f := f) (by omega) (by omega) (by omega)
      have nf : ¬ M 43 f = 0 := by rw [← e43]; omega
      rw [b, b', df]
      exact cnt_as h.2.2.2.1.2 (bitF J f)
end RDS
end
