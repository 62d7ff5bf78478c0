/-! ===== the reference on a fresh object: add of a variable ===== -/
def vP (p : Int) : Int → Int64 := lyP (vbF whF p) p 0
/-- one node in the table, the variable's -/
def oneS (p u h : Int) (M : zM) (J : zJ) : Prop := M 51 (bkt p (vP p)) = 0 ∧ M 50 0 = -1 ∧ mtc M J 0 p (vP p) ∧ M 31 24 = u ∧ M 49 0 = h
def emptyT (M : zM) : Prop := (∀ b : Int, 0 ≤ b → b < 512 → M 51 b = -1) ∧ M 31 23 = 0 ∧ M 50 0 = 1 ∧ M 31 24 = 0
def preS (c p : Int) (M : zM) (J : zJ) : Prop := (c = 0 ∧ emptyT M) ∨ (c = 1 ∧ oneS p 1 1 M J)
def phA (c p f k : Int) (M : zM) (J : zJ) : Prop := preS c p M J ∧ M 45 f = 0 ∧ M 52 0 ≤ k
def phB (c p f k : Int) (M : zM) (J : zJ) : Prop := oneS p 1 (c + 1) M J ∧ M 45 f = 1 ∧ M 46 (255 * f) = 0 ∧ M 52 0 = k + 1
def comS (f k r : Int) (M M' : zM) : Prop := M' 31 27 = k + 1 ∧ M' 31 8 = r ∧ (∀ g : Int, g ≠ f → M' 45 g = M 45 g ∧ M' 43 g = M 43 g) ∧ ∀ j : Int, j ≠ 255 * f → M' 46 j = M 46 j
theorem oneS_J {p u h : Int} {M : zM} {J J' : zJ} (e : J' 48 = J 48) (q : oneS p u h M J) : oneS p u h M J' := by
  unfold oneS mtc at *
  rw [e]
  exact q
theorem preS_J {c p : Int} {M : zM} {J J' : zJ} (e : J' 48 = J 48) (q : preS c p M J) : preS c p M J' := by
  rcases q with q | ⟨q1, q2⟩
  · exact Or.inl q
  · exact Or.inr ⟨q1, oneS_J e q2⟩
theorem phA_J {c p f k : Int} {M : zM} {J J' : zJ} (e : J' 48 = J 48) (q : phA c p f k M J) : phA c p f k M J' := ⟨preS_J e q.1, q.2⟩
theorem phB_J {c p f k : Int} {M : zM} {J J' : zJ} (e : J' 48 = J 48) (q : phB c p f k M J) : phB c p f k M J' := ⟨oneS_J e q.1, q.2⟩
theorem mtc_congr {M : zM} {J : zJ} {n d : Int} {P P' : Int → Int64} (e : ∀ k : Int, 0 ≤ k → k < 4 → P k = P' k) (q : mtc M J n d P) : mtc M J n d P' := by
  unfold mtc at *
  rw [← e 0 (by decide) (by decide), ← e 1 (by decide) (by decide), ← e 2 (by decide) (by decide), ← e 3 (by decide) (by decide)]
  exact q
/-- nodeFor over an empty table -/
theorem nf_empty {p : Int} {M : zM} {J : zJ} (h : emptyT M) (hP : ∀ k : Int, 0 ≤ k → k < 4 → J 53 k = vP p k) : chn (M 50) (M 51 (bkt p (J 53))) [] ∧ nfree M J p [] ∧ ∀ (x : Int) (M' : zM) (J' : zJ), nfQ M J p [] x M' J' → x = 0 ∧ oneS p 0 0 M' J' ∧ M' 31 27 = M 31 27 ∧ M' 31 8 = M 31 8 := by
  obtain ⟨h1, h2, h3, h4⟩ := h
  have hb := bkt_in p (J 53)
  have e1 := h1 _ hb.1 hb.2
  refine ⟨?_, fun _ => by rw [h2, h3]; decide, ?_⟩
  · show M 51 (bkt p (J 53)) < 0
    omega
  · rintro x M' J' (⟨n, hn, -⟩ | ⟨-, rfl, rfl, q1, q2⟩)
    · simp at hn
    · rw [h2] at q1 q2 ⊢
      have eb : bkt p (J 53) = bkt p (vP p) := bkt_congr hP
      refine ⟨rfl, ⟨?_, ?_, ⟨?_, ?_, ?_, ?_, ?_⟩, ?_, ?_⟩, ?_, ?_⟩
      · unfold nfM; rw [eb, uz_s, h2]
      · unfold nfM; rw [uz_oo (by decide), h2, uz_s, e1]
      · unfold nfM; rw [uz_oo (by decide), uz_oo (by decide), uz_oo (by decide), h2, uz_s]
      · exact (q1 0 (by decide) (by decide)).trans (hP 0 (by decide) (by decide))
      · exact (q1 1 (by decide) (by decide)).trans (hP 1 (by decide) (by decide))
      · exact (q1 2 (by decide) (by decide)).trans (hP 2 (by decide) (by decide))
      · exact (q1 3 (by decide) (by decide)).trans (hP 3 (by decide) (by decide))
      · unfold nfM; rw [uz_oo (by decide), uz_oo (by decide), uz_oo (by decide), uz_oo (by decide), uz_n (by decide)]; exact h4
      · unfold nfM; rw [uz_oo (by decide), uz_oo (by decide), h2, uz_s]
      · unfold nfM; rw [uz_oo (by decide), uz_oo (by decide), uz_oo (by decide), uz_oo (by decide), uz_n (by decide)]
      · unfold nfM; rw [uz_oo (by decide), uz_oo (by decide), uz_oo (by decide), uz_oo (by decide), uz_n (by decide)]
/-- nodeFor where the node is there -/
theorem nf_there {p u h : Int} {M : zM} {J : zJ} (hv : oneS p u h M J) (hP : ∀ k : Int, 0 ≤ k → k < 4 → J 53 k = vP p k) : chn (M 50) (M 51 (bkt p (J 53))) [0] ∧ nfree M J p [0] ∧ ∀ (x : Int) (M' : zM) (J' : zJ), nfQ M J p [0] x M' J' → x = 0 ∧ M' = M ∧ J' = J := by
  obtain ⟨h1, h2, h3, h4, h5⟩ := hv
  have eb : bkt p (J 53) = bkt p (vP p) := bkt_congr hP
  have hm : mtc M J 0 p (J 53) := mtc_congr (fun k k0 k1 => (hP k k0 k1).symm) h3
  refine ⟨⟨by rw [eb]; exact h1, by decide, by decide, by show M 50 0 < 0; omega⟩, fun q => absurd hm (q 0 List.mem_cons_self), ?_⟩
  rintro x M' J' (⟨n, hn, -, rfl, rfl, rfl⟩ | ⟨q, -⟩)
  · simp at hn
    exact ⟨hn, rfl, rfl⟩
  · exact absurd hm (q 0 List.mem_cons_self)
/-- behind nodeFor -/
def nfD (c p f k i : Int) (M' : zM) (J' : zJ) : Prop := (i = 0 ∧ oneS p c c M' J' ∧ M' 45 f = 0 ∧ M' 52 0 ≤ k) ∨ (0 < i ∧ phB c p f k M' J')
theorem nf_var {c p f k r i : Int} {M M1 : zM} {J1 : zJ} (i0 : 0 ≤ i) (hA : i = 0 → phA c p f k M1 J1) (hB : 0 < i → phB c p f k M1 J1) (hC : comS f k r M M1) (hP : ∀ k : Int, 0 ≤ k → k < 4 → J1 53 k = vP p k) : ∃ ch, chn (M1 50) (M1 51 (bkt p (J1 53))) ch ∧ nfree M1 J1 p ch ∧ ∀ (x : Int) (M' : zM) (J' : zJ), (∀ a, kNF a → M' a = M1 a ∧ J' a = J1 a) → nfQ M1 J1 p ch x M' J' → x = 0 ∧ comS f k r M M' ∧ nfD c p f k i M' J' := by
  by_cases e : i = 0
  · obtain ⟨q1, q2, q3⟩ := hA e
    rcases q1 with ⟨rfl, q1⟩ | ⟨rfl, q1⟩
    · obtain ⟨a1, a2, a3⟩ := nf_empty q1 hP
      refine ⟨[], a1, a2, fun x M' J' fr q => ?_⟩
      obtain ⟨b1, b2, b3, b4⟩ := a3 x M' J' q
      refine ⟨b1, ⟨b3.trans hC.1, b4.trans hC.2.1, fun g hg => ?_, fun j hj => ?_⟩, Or.inl ⟨e, b2, ?_, ?_⟩⟩
      · rw [(fr 45 (by decide)).1, (fr 43 (by decide)).1]; exact hC.2.2.1 g hg
      · rw [(fr 46 (by decide)).1]; exact hC.2.2.2 j hj
      · rw [(fr 45 (by decide)).1]; exact q2
      · rw [(fr 52 (by decide)).1]; exact q3
    · obtain ⟨a1, a2, a3⟩ := nf_there q1 hP
      refine ⟨[0], a1, a2, fun x M' J' fr q => ?_⟩
      obtain ⟨b1, rfl, rfl⟩ := a3 x M' J' q
      exact ⟨b1, hC, Or.inl ⟨e, q1, q2, q3⟩⟩
  · have q := hB (by omega)
    obtain ⟨a1, a2, a3⟩ := nf_there q.1 hP
    refine ⟨[0], a1, a2, fun x M' J' fr q9 => ?_⟩
    obtain ⟨b1, rfl, rfl⟩ := a3 x M' J' q9
    exact ⟨b1, hC, Or.inr ⟨by omega, q⟩⟩
/-- the node is counted -/
theorem upd_var {c p f k : Int} {M : zM} {J : zJ} {u : Int} (hc : c = 0 ∨ c = 1) (hv : oneS p c c M J) (hu : u = 1) : phB c p f k (uz (uz (uz (uz (uz M 52 0 (k + 1)) 31 24 u) 49 0 (c + 1)) 46 (255 * f + 0) 0) 45 f (0 + 1)) J := by
  obtain ⟨h1, h2, h3, h4, h5⟩ := hv
  refine ⟨⟨?_, ?_, ⟨?_, h3.2⟩, ?_, ?_⟩, ?_, ?_, ?_⟩
  · rw [uz_oo (by decide), uz_oo (by decide), uz_oo (by decide), uz_oo (by decide), uz_oo (by decide)]; exact h1
  · rw [uz_oo (by decide), uz_oo (by decide), uz_oo (by decide), uz_oo (by decide), uz_oo (by decide)]; exact h2
  · rw [uz_oo (by decide), uz_oo (by decide), uz_oo (by decide), uz_oo (by decide), uz_oo (by decide)]; exact h3.1
  · rw [uz_oo (by decide), uz_oo (by decide), uz_oo (by decide), uz_s]; exact hu
  · rw [uz_oo (by decide), uz_oo (by decide), uz_s]
  · rw [uz_s]; rfl
  · rw [uz_oo (by decide), Int.add_zero, uz_s]
  · rw [uz_oo (by decide), uz_oo (by decide), uz_oo (by decide), uz_oo (by decide), uz_s]
theorem upd_com {f k r u h n : Int} {M M1 : zM} (hC : comS f k r M M1) : comS f k r M (uz (uz (uz (uz (uz M1 52 0 (k + 1)) 31 24 u) 49 0 h) 46 (255 * f + 0) 0) 45 f n) := by
  obtain ⟨h1, h2, h3, h4⟩ := hC
  refine ⟨?_, ?_, fun g hg => ⟨?_, ?_⟩, fun j hj => ?_⟩
  · rw [uz_oo (by decide), uz_oo (by decide), uz_oo (by decide), uz_n (by decide), uz_oo (by decide)]; exact h1
  · rw [uz_oo (by decide), uz_oo (by decide), uz_oo (by decide), uz_n (by decide), uz_oo (by decide)]; exact h2
  · rw [uz_n hg, uz_oo (by decide), uz_oo (by decide), uz_oo (by decide), uz_oo (by decide)]; exact (h3 g hg).1
  · rw [uz_oo (by decide), uz_oo (by decide), uz_oo (by decide), uz_oo (by decide), uz_oo (by decide)]; exact (h3 g hg).2
  · rw [uz_oo (by decide), uz_n (by omega), uz_oo (by decide), uz_oo (by decide), uz_oo (by decide)]; exact h4 j hj
theorem com_ad0 {f : Int} {M : zM} : comS f (M 31 27) (M 31 8) M (ad0 M f) := by
  unfold ad0
  refine ⟨uz_s, ?_, fun g hg => ⟨?_, ?_⟩, fun j hj => ?_⟩
  · rw [uz_n (by decide), uz_oo (by decide), uz_oo (by decide)]
  · rw [uz_oo (by decide), uz_n hg, uz_oo (by decide)]
  · rw [uz_oo (by decide), uz_oo (by decide), uz_n hg]
  · rw [uz_oo (by decide), uz_oo (by decide), uz_oo (by decide)]
theorem phA_ad0 {c p f : Int} {M : zM} {J : zJ} (h : preS c p M J) (hm : M 52 0 ≤ M 31 27) : phA c p f (M 31 27) (ad0 M f) J := by
  unfold ad0
  refine ⟨?_, by rw [uz_oo (by decide), uz_s], by rw [uz_oo (by decide), uz_oo (by decide), uz_oo (by decide)]; exact hm⟩
  rcases h with ⟨rfl, h1, h2, h3, h4⟩ | ⟨rfl, h1, h2, h3, h4, h5⟩
  · refine Or.inl ⟨rfl, fun b b0 b1 => ?_, ?_, ?_, ?_⟩
    · rw [uz_oo (by decide), uz_oo (by decide), uz_oo (by decide)]; exact h1 b b0 b1
    · rw [uz_n (by decide), uz_oo (by decide), uz_oo (by decide)]; exact h2
    · rw [uz_oo (by decide), uz_oo (by decide), uz_oo (by decide)]; exact h3
    · rw [uz_n (by decide), uz_oo (by decide), uz_oo (by decide)]; exact h4
  · refine Or.inr ⟨rfl, ?_, ?_, ⟨?_, h3.2⟩, ?_, ?_⟩
    · rw [uz_oo (by decide), uz_oo (by decide), uz_oo (by decide)]; exact h1
    · rw [uz_oo (by decide), uz_oo (by decide), uz_oo (by decide)]; exact h2
    · rw [uz_oo (by decide), uz_oo (by decide), uz_oo (by decide)]; exact h3.1
    · rw [uz_n (by decide), uz_oo (by decide), uz_oo (by decide)]; exact h4
    · rw [uz_oo (by decide), uz_oo (by decide), uz_oo (by decide)]; exact h5
set_option maxRecDepth 20000 in
theorem zX4_add_var {G : tl_G} {M : zM} {J : zJ} {f p c : Int} (f0 : 0 ≤ f) (f1 : f < 56) (p0 : 0 ≤ p) (p1 : p ≤ 7) (hc : c = 0 ∨ c = 1) (hB : ∀ k : Int, 0 ≤ k → k < 4 → bitF J f k = vbF whF p k) (hS : preS c p M J) (hm : M 52 0 ≤ M 31 27) (hk : M 31 27 < 2147483647) : ZN G yX4_add mX4_add 2 kAd [vR 31, vI f] F1 M J (qV (fun M' J' => comS f (M 31 27) (M 31 8) M M' ∧ phB c p f (M 31 27) M' J')) := by
  refine ZN_of (L := [_, _, _, _, _]) (by decide) rfl rfl (Nat.le_of_ble_eq_true rfl) rfl (fun hav => ?_)
  refine Z_aload_n (n := 1) dX4_add_0 rfl rfl ?_
  refine Z_getA (n := 4) dX4_add_1 rfl ffX4_44 rfl rfl ?_
  refine Z_iload_n (n := 5) dX4_add_4 rfl rfl ?_
  refine Z_iconst (n := 6) dX4_add_5 rfl (by decide) ?_
  refine Z_zast (n := 7) dX4_add_6 rfl rfl rfl (by first | decide | assumption) (by omega) (by omega) (by first | assumption | omega | decide) (by first | assumption | omega | decide) (by decide) ?_
  refine Z_aload_n (n := 8) dX4_add_7 rfl rfl ?_
  refine Z_getA (n := 11) dX4_add_8 rfl ffX4_51 rfl rfl ?_
  refine Z_iload_n (n := 12) dX4_add_11 rfl rfl ?_
  refine Z_iconst (n := 13) dX4_add_12 rfl (by decide) ?_
  refine Z_iast (n := 14) dX4_add_13 rfl rfl rfl (by first | decide | assumption) (by omega) (by omega) (by first | assumption | omega | decide) (by first | assumption | omega | decide) (by decide) ?_
  refine Z_aload_n (n := 15) dX4_add_14 rfl rfl ?_
  refine Z_dup (n := 16) dX4_add_15 rfl rfl ?_
  refine Z_getI (n := 19) (ki := 27) dX4_add_16 rfl ffX4_160 rfl rfl rfl (fun r16 s16 => ?_)
  try simp only [uz_oo (show (31 : Nat) ≠ 45 by decide), uz_oo (show (31 : Nat) ≠ 43 by decide)] at r16 s16 ⊢
  refine Z_iconst (n := 20) dX4_add_19 rfl (by decide) ?_
  refine Z_iadd (n := 21) dX4_add_20 rfl (by omega) ?_
  refine Z_putI (n := 24) (ki := 27) dX4_add_21 rfl ffX4_160 rfl (by decide) rfl rfl (by first | assumption | omega | decide) (by first | assumption | omega | decide) (by decide) ?_
  refine Z_iconst (n := 25) dX4_add_24 rfl (by decide) ?_
  refine Z_istore_n (L' := [_, _, _, _, _]) (n := 26) dX4_add_25 rfl (by decide) rfl rfl ?_
  have lp26 : ∀ (N26 : Nat) (d : Int) (M26 : zM) (J26 : zJ), ((8 - d).toNat) < N26 → (0 ≤ d) → (d ≤ 8) → (comS f (M 31 27) (M 31 8) M M26) → (d ≤ p → phA c p f (M 31 27) M26 J26) → (p < d → phB c p f (M 31 27) M26 J26) → TZ G mX4_add (tl_rm 2 0 0) 0 0 kAd M J 26 [some (vR 31), some (vI f), some (vI d), none, none] [] F1 M26 J26 (ZM G (zPost G kAd F1 M J (qV (fun M' J' => comS f (M 31 27) (M 31 8) M M' ∧ phB c p f (M 31 27) M' J'))) 0 0) := by
    intro N26
    induction N26 with
    | zero => intro d M26 J26 hN; omega
    | succ N26 ih26 =>
      intro d M26 J26 hN26 i26_0 i26_1 i26_2 i26_3 i26_4
      refine Z_iload_n (n := 27) dX4_add_26 rfl rfl ?_
      refine Z_bipush (n := 29) dX4_add_27 rfl (by decide) (by decide) ?_
      refine Z_icmp_ge (n := 32) (t := 159) dX4_add_29 rfl (by decide) (fun c29 => ?_) (fun c29 => ?_)
      · refine Z_vret dX4_add_159 rfl ?_
        exact ⟨i26_2, i26_4 (by omega)⟩
      · have hs := zshl1 (d := d) (by omega) (by omega)
        refine Z_iconst (n := 33) dX4_add_32 rfl (by decide) ?_
        refine Z_istore_n (L' := [_, _, _, _, _]) (n := 34) dX4_add_33 rfl (by decide) rfl rfl ?_
        have lp34 : ∀ (N34 : Nat) (i : Int) (M34 : zM) (J34 : zJ), ((zshl 1 d - i).toNat) < N34 → (0 ≤ i) → (i ≤ zshl 1 d) → (comS f (M 31 27) (M 31 8) M M34) → ((d < p ∨ (d = p ∧ i = 0)) → phA c p f (M 31 27) M34 J34) → ((p < d ∨ (d = p ∧ 0 < i)) → phB c p f (M 31 27) M34 J34) → TZ G mX4_add (tl_rm 2 0 0) 0 0 kAd M J 34 [some (vR 31), some (vI f), some (vI d), some (vI i), none] [] F1 M34 J34 (ZM G (zPost G kAd F1 M J (qV (fun M' J' => comS f (M 31 27) (M 31 8) M M' ∧ phB c p f (M 31 27) M' J'))) 0 0) := by
          intro N34
          induction N34 with
          | zero => intro i M34 J34 hN; omega
          | succ N34 ih34 =>
            intro i M34 J34 hN34 i34_0 i34_1 i34_2 i34_3 i34_4
            refine Z_iload_n (n := 35) dX4_add_34 rfl rfl ?_
            refine Z_iconst (n := 36) dX4_add_35 rfl (by decide) ?_
            refine Z_iload_n (n := 37) dX4_add_36 rfl rfl ?_
            refine Z_ishl (n := 38) dX4_add_37 rfl ?_
            refine Z_icmp_ge (n := 41) (t := 153) dX4_add_38 rfl (by decide) (fun c38 => ?_) (fun c38 => ?_)
            · refine Z_iinc (L' := [_, _, _, _, _]) (n := 156) dX4_add_153 rfl rfl (by decide) rfl rfl (by omega) rfl ?_
              refine Z_goto (t := 26) dX4_add_156 (by decide) ?_
              refine Z_loc (L' := [some _, some _, some _, none, none]) (lsub_same (lsub_same (lsub_same (lsub_none (lsub_none lsub_nil))))) ?_
              exact ih26 _ _ _ (by omega) (by first | assumption | omega | decide) (by first | assumption | omega | decide) (by first | exact com_ad0 | assumption) (by first | exact fun _ => phA_ad0 hS hm | exact fun q => i34_3 (by omega)) (by first | exact fun q => by omega | exact fun q => i34_4 (by omega))
            · refine Z_aload_n (n := 42) dX4_add_41 rfl rfl ?_
              refine Z_iload_n (n := 43) dX4_add_42 rfl rfl ?_
              refine Z_iload_n (n := 44) dX4_add_43 rfl rfl ?_
              refine Z_iload_n (n := 45) dX4_add_44 rfl rfl ?_
              refine Z_fr (fun fr34 => ?_)
              refine Z_callVi (n := 48) [_, _, _] _ dX4_add_45 rfl cwX4_163 rfl rfl rfl (Nat.le_of_ble_eq_true rfl) (by refine ⟨?_, ?_, ?_, ?_⟩ <;> exact Nat.le_of_ble_eq_true rfl) (fun a h => by unfold kAd at h; unfold kPart; omega) (zX4_lays  (by first | assumption | omega | decide) (by first | assumption | omega | decide) (by first | assumption | omega | decide) (by first | assumption | omega | decide) (by first | assumption | omega | decide) (by first | assumption | omega | decide)) ?_
              intro x45 M45 J45 z45 f45 q45
              obtain ⟨e45_1, h45⟩ := q45
              replace e45_1 := e45_1.symm; subst e45_1
              have hBJ : ∀ k : Int, 0 ≤ k → k < 4 → bitF J34 f k = vbF whF p k := by rw [bitF_congr (fr34 44 (by decide)).2 f]; exact hB
              have hly := var_ly p0 p1 (d := d) (i := i) (by omega) (by omega) (by omega) (by omega)
              have hlR := lyR_congr (B := bitF J34 f) (B' := vbF whF p) hBJ (d := d) (i := i) (by omega) (by omega) (by omega) (by omega)
              have hlP := lyP_congr (B := bitF J34 f) (B' := vbF whF p) hBJ (d := d) (i := i) (by omega) (by omega) (by omega) (by omega)
              have hdp : (x45 = 1 ∧ d = p ∧ ∀ k : Int, 0 ≤ k → k < 4 → J45 53 k = vP p k) ∨ (x45 = 0 ∧ ¬ d = p) := by
                rcases h45 with ⟨a1, a2, a3⟩ | ⟨a1, a2⟩
                · have e : d = p := hly.1.mp (hlR ▸ a2)
                  exact Or.inl ⟨a1, e, fun k k0 k1 => (a3 k k0 k1).trans ((hlP k k0 k1).trans (hly.2 e k k0 k1))⟩
                · refine Or.inr ⟨a1, fun e => ?_⟩
                  have := hly.1.mpr e
                  rw [← hlR, a2] at this
                  cases this
              refine Z_if_eq (n := 51) (t := 147) dX4_add_48 rfl (by decide) (fun c48 => ?_) (fun c48 => ?_)
              · 
                refine Z_iinc (L' := [_, _, _, _, _]) (n := 150) dX4_add_147 rfl rfl (by decide) rfl rfl (by omega) rfl ?_
                refine Z_goto (t := 34) dX4_add_150 (by decide) ?_
                refine Z_loc (L' := [some _, some _, some _, some _, none]) (lsub_same (lsub_same (lsub_same (lsub_same (lsub_none lsub_nil))))) ?_
                exact ih34 _ _ _ (by omega) (by first | assumption | omega | decide) (by first | assumption | omega | decide) (by first | assumption | exact upd_com cm53) (by first | exact fun q => i26_3 (by omega) | exact fun q => phA_J (f45 48 (by decide)).2 (i34_3 (by omega)) | exact fun q => by omega) (by first | exact fun q => i26_4 (by omega) | exact fun q => phB_J (f45 48 (by decide)).2 (i34_4 (by omega)) | exact fun _ => pB53 | exact fun _ => upd_var hc vs53 (by omega))
              · obtain ⟨hdp1, hdp2⟩ : d = p ∧ ∀ k : Int, 0 ≤ k → k < 4 → J45 53 k = vP p k := by
                  rcases hdp with ⟨-, a1, a2⟩ | ⟨a1, -⟩
                  · exact ⟨a1, a2⟩
                  · omega
                obtain ⟨ch, hch, hnf, hres⟩ := nf_var (c := c) (p := p) (f := f) (k := M 31 27) (r := M 31 8) (i := i) (M := M) (M1 := M34) (J1 := J45) (by omega) (fun e => phA_J (f45 48 (by decide)).2 (i34_3 (by omega))) (fun e => phB_J (f45 48 (by decide)).2 (i34_4 (by omega))) i34_2 hdp2
                refine Z_aload_n (n := 52) dX4_add_51 rfl rfl ?_
                refine Z_iload_n (n := 53) dX4_add_52 rfl rfl ?_
                refine Z_callVi (n := 56) [_] _ dX4_add_53 rfl cwX4_166 rfl rfl rfl (Nat.le_of_ble_eq_true rfl) (by refine ⟨?_, ?_, ?_, ?_⟩ <;> exact Nat.le_of_ble_eq_true rfl) (fun a h => by unfold kAd at h; unfold kNF; omega) (zX4_nodeFor (ch := ch) (by omega) (by omega) (by rw [hdp1]; exact hch) (by rw [hdp1]; exact hnf)) ?_
                intro x53 M53 J53 z53 f53 q53
                rw [hdp1] at q53
                obtain ⟨hx0, cm53, nd53⟩ := hres _ _ _ f53 q53
                subst hx0
                refine Z_istore (L' := [_, _, _, _, _]) (n := 58) dX4_add_56 rfl (by decide) rfl rfl ?_
                refine Z_aload_n (n := 59) dX4_add_58 rfl rfl ?_
                refine Z_getA (n := 62) dX4_add_59 rfl ffX4_72 rfl rfl ?_
                refine Z_iload (n := 64) dX4_add_62 rfl rfl ?_
                refine Z_iald (n := 65) dX4_add_64 rfl rfl rfl (by first | decide | assumption) (by omega) (by omega) (fun r64 s64 => ?_)
                refine Z_aload_n (n := 66) dX4_add_65 rfl rfl ?_
                refine Z_getI (n := 69) (ki := 27) dX4_add_66 rfl ffX4_160 rfl rfl rfl (fun r66 s66 => ?_)
                try simp only [cm53.1] at r66 s66 ⊢
                refine Z_icmp_eq (n := 72) (t := 147) dX4_add_69 rfl (by decide) (fun c69 => ?_) (fun c69 => ?_)
                · have pB53 : phB c p f (M 31 27) M53 J53 := by
                    rcases nd53 with ⟨-, -, -, e⟩ | ⟨-, e⟩
                    · exfalso; omega
                    · exact e
                  
                  refine Z_iinc (L' := [_, _, _, _, _]) (n := 150) dX4_add_147 rfl rfl (by decide) rfl rfl (by omega) rfl ?_
                  refine Z_goto (t := 34) dX4_add_150 (by decide) ?_
                  refine Z_loc (L' := [some _, some _, some _, some _, none]) (lsub_same (lsub_same (lsub_same (lsub_same (lsub_none lsub_nil))))) ?_
                  exact ih34 _ _ _ (by omega) (by first | assumption | omega | decide) (by first | assumption | omega | decide) (by first | assumption | exact upd_com cm53) (by first | exact fun q => i26_3 (by omega) | exact fun q => phA_J (f45 48 (by decide)).2 (i34_3 (by omega)) | exact fun q => by omega) (by first | exact fun q => i26_4 (by omega) | exact fun q => phB_J (f45 48 (by decide)).2 (i34_4 (by omega)) | exact fun _ => pB53 | exact fun _ => upd_var hc vs53 (by omega))
                · obtain ⟨vs53, nm53⟩ : oneS p c c M53 J53 ∧ M53 45 f = 0 := by
                    rcases nd53 with ⟨-, e1, e2, -⟩ | ⟨-, e⟩
                    · exact ⟨e1, e2⟩
                    · exfalso; have := e.2.2.2; omega
                  have u53 := vs53.2.2.2.1
                  have h53 := vs53.2.2.2.2
                  refine Z_aload_n (n := 73) dX4_add_72 rfl rfl ?_
                  refine Z_getA (n := 76) dX4_add_73 rfl ffX4_72 rfl rfl ?_
                  refine Z_iload (n := 78) dX4_add_76 rfl rfl ?_
                  refine Z_aload_n (n := 79) dX4_add_78 rfl rfl ?_
                  refine Z_getI (n := 82) (ki := 27) dX4_add_79 rfl ffX4_160 rfl rfl rfl (fun r79 s79 => ?_)
                  try simp only [cm53.1] at r79 s79 ⊢
                  refine Z_iast (n := 83) dX4_add_82 rfl rfl rfl (by first | decide | assumption) (by omega) (by omega) (by first | assumption | omega | decide) (by first | assumption | omega | decide) (by decide) ?_
                  refine Z_aload_n (n := 84) dX4_add_83 rfl rfl ?_
                  refine Z_dup (n := 85) dX4_add_84 rfl rfl ?_
                  refine Z_getI (n := 88) (ki := 24) dX4_add_85 rfl ffX4_149 rfl rfl rfl (fun r85 s85 => ?_)
                  try simp only [uz_oo (show (31 : Nat) ≠ 52 by decide), uz_oo (show (49 : Nat) ≠ 52 by decide), uz_oo (show (49 : Nat) ≠ 31 by decide), uz_oo (show (45 : Nat) ≠ 49 by decide), uz_oo (show (45 : Nat) ≠ 31 by decide), uz_oo (show (45 : Nat) ≠ 52 by decide), uz_oo (show (45 : Nat) ≠ 46 by decide), uz_oo (show (52 : Nat) ≠ 31 by decide), u53] at r85 s85 ⊢
                  refine Z_aload_n (n := 89) dX4_add_88 rfl rfl ?_
                  refine Z_getA (n := 92) dX4_add_89 rfl ffX4_63 rfl rfl ?_
                  refine Z_iload (n := 94) dX4_add_92 rfl rfl ?_
                  refine Z_iald (n := 95) dX4_add_94 rfl rfl rfl (by first | decide | assumption) (by omega) (by omega) (fun r94 s94 => ?_)
                  try simp only [uz_oo (show (31 : Nat) ≠ 52 by decide), uz_oo (show (49 : Nat) ≠ 52 by decide), uz_oo (show (49 : Nat) ≠ 31 by decide), uz_oo (show (45 : Nat) ≠ 49 by decide), uz_oo (show (45 : Nat) ≠ 31 by decide), uz_oo (show (45 : Nat) ≠ 52 by decide), uz_oo (show (45 : Nat) ≠ 46 by decide), uz_oo (show (52 : Nat) ≠ 31 by decide), h53] at r94 s94 ⊢
                  refine Z_if_ne (n := 98) (t := 102) dX4_add_95 rfl (by decide) (fun c95 => ?_) (fun c95 => ?_)
                  · refine Z_iconst (n := 103) dX4_add_102 rfl (by decide) ?_
                    refine Z_iadd (n := 104) dX4_add_103 rfl (by omega) ?_
                    refine Z_putI (n := 107) (ki := 24) dX4_add_104 rfl ffX4_149 rfl (by decide) rfl rfl (by first | assumption | omega | decide) (by first | assumption | omega | decide) (by decide) ?_
                    refine Z_aload_n (n := 108) dX4_add_107 rfl rfl ?_
                    refine Z_getA (n := 111) dX4_add_108 rfl ffX4_63 rfl rfl ?_
                    refine Z_iload (n := 113) dX4_add_111 rfl rfl ?_
                    refine Z_dup2 (n := 114) dX4_add_113 rfl rfl rfl ?_
                    refine Z_iald (n := 115) dX4_add_114 rfl rfl rfl (by first | decide | assumption) (by omega) (by omega) (fun r114 s114 => ?_)
                    try simp only [uz_oo (show (31 : Nat) ≠ 52 by decide), uz_oo (show (49 : Nat) ≠ 52 by decide), uz_oo (show (49 : Nat) ≠ 31 by decide), uz_oo (show (45 : Nat) ≠ 49 by decide), uz_oo (show (45 : Nat) ≠ 31 by decide), uz_oo (show (45 : Nat) ≠ 52 by decide), uz_oo (show (45 : Nat) ≠ 46 by decide), uz_oo (show (52 : Nat) ≠ 31 by decide), h53] at r114 s114 ⊢
                    refine Z_iconst (n := 116) dX4_add_115 rfl (by decide) ?_
                    refine Z_iadd (n := 117) dX4_add_116 rfl (by omega) ?_
                    refine Z_iast (n := 118) dX4_add_117 rfl rfl rfl (by first | decide | assumption) (by omega) (by omega) (by first | assumption | omega | decide) (by first | assumption | omega | decide) (by decide) ?_
                    refine Z_aload_n (n := 119) dX4_add_118 rfl rfl ?_
                    refine Z_getA (n := 122) dX4_add_119 rfl ffX4_54 rfl rfl ?_
                    refine Z_sipush (n := 125) dX4_add_122 rfl (by decide) (by decide) ?_
                    refine Z_iload_n (n := 126) dX4_add_125 rfl rfl ?_
                    refine Z_imul (n := 127) dX4_add_126 rfl (by omega) ?_
                    refine Z_aload_n (n := 128) dX4_add_127 rfl rfl ?_
                    refine Z_getA (n := 131) dX4_add_128 rfl ffX4_51 rfl rfl ?_
                    refine Z_iload_n (n := 132) dX4_add_131 rfl rfl ?_
                    refine Z_iald (n := 133) dX4_add_132 rfl rfl rfl (by first | decide | assumption) (by omega) (by omega) (fun r132 s132 => ?_)
                    try simp only [uz_oo (show (31 : Nat) ≠ 52 by decide), uz_oo (show (49 : Nat) ≠ 52 by decide), uz_oo (show (49 : Nat) ≠ 31 by decide), uz_oo (show (45 : Nat) ≠ 49 by decide), uz_oo (show (45 : Nat) ≠ 31 by decide), uz_oo (show (45 : Nat) ≠ 52 by decide), uz_oo (show (45 : Nat) ≠ 46 by decide), uz_oo (show (52 : Nat) ≠ 31 by decide), nm53] at r132 s132 ⊢
                    refine Z_iadd (n := 134) dX4_add_133 rfl (by omega) ?_
                    refine Z_iload (n := 136) dX4_add_134 rfl rfl ?_
                    refine Z_iast (n := 137) dX4_add_136 rfl rfl rfl (by first | decide | assumption) (by omega) (by omega) (by first | assumption | omega | decide) (by first | assumption | omega | decide) (by decide) ?_
                    refine Z_aload_n (n := 138) dX4_add_137 rfl rfl ?_
                    refine Z_getA (n := 141) dX4_add_138 rfl ffX4_51 rfl rfl ?_
                    refine Z_iload_n (n := 142) dX4_add_141 rfl rfl ?_
                    refine Z_dup2 (n := 143) dX4_add_142 rfl rfl rfl ?_
                    refine Z_iald (n := 144) dX4_add_143 rfl rfl rfl (by first | decide | assumption) (by omega) (by omega) (fun r143 s143 => ?_)
                    try simp only [uz_oo (show (31 : Nat) ≠ 52 by decide), uz_oo (show (49 : Nat) ≠ 52 by decide), uz_oo (show (49 : Nat) ≠ 31 by decide), uz_oo (show (45 : Nat) ≠ 49 by decide), uz_oo (show (45 : Nat) ≠ 31 by decide), uz_oo (show (45 : Nat) ≠ 52 by decide), uz_oo (show (45 : Nat) ≠ 46 by decide), uz_oo (show (52 : Nat) ≠ 31 by decide), nm53] at r143 s143 ⊢
                    refine Z_iconst (n := 145) dX4_add_144 rfl (by decide) ?_
                    refine Z_iadd (n := 146) dX4_add_145 rfl (by omega) ?_
                    refine Z_iast (n := 147) dX4_add_146 rfl rfl rfl (by first | decide | assumption) (by omega) (by omega) (by first | assumption | omega | decide) (by first | assumption | omega | decide) (by decide) ?_
                    
                    
                    refine Z_iinc (L' := [_, _, _, _, _]) (n := 150) dX4_add_147 rfl rfl (by decide) rfl rfl (by omega) rfl ?_
                    refine Z_goto (t := 34) dX4_add_150 (by decide) ?_
                    refine Z_loc (L' := [some _, some _, some _, some _, none]) (lsub_same (lsub_same (lsub_same (lsub_same (lsub_none lsub_nil))))) ?_
                    exact ih34 _ _ _ (by omega) (by first | assumption | omega | decide) (by first | assumption | omega | decide) (by first | assumption | exact upd_com cm53) (by first | exact fun q => i26_3 (by omega) | exact fun q => phA_J (f45 48 (by decide)).2 (i34_3 (by omega)) | exact fun q => by omega) (by first | exact fun q => i26_4 (by omega) | exact fun q => phB_J (f45 48 (by decide)).2 (i34_4 (by omega)) | exact fun _ => pB53 | exact fun _ => upd_var hc vs53 (by omega))
                  · refine Z_iconst (n := 99) dX4_add_98 rfl (by decide) ?_
                    refine Z_goto (t := 103) dX4_add_99 (by decide) ?_
                    refine Z_iadd (n := 104) dX4_add_103 rfl (by omega) ?_
                    refine Z_putI (n := 107) (ki := 24) dX4_add_104 rfl ffX4_149 rfl (by decide) rfl rfl (by first | assumption | omega | decide) (by first | assumption | omega | decide) (by decide) ?_
                    refine Z_aload_n (n := 108) dX4_add_107 rfl rfl ?_
                    refine Z_getA (n := 111) dX4_add_108 rfl ffX4_63 rfl rfl ?_
                    refine Z_iload (n := 113) dX4_add_111 rfl rfl ?_
                    refine Z_dup2 (n := 114) dX4_add_113 rfl rfl rfl ?_
                    refine Z_iald (n := 115) dX4_add_114 rfl rfl rfl (by first | decide | assumption) (by omega) (by omega) (fun r114 s114 => ?_)
                    try simp only [uz_oo (show (31 : Nat) ≠ 52 by decide), uz_oo (show (49 : Nat) ≠ 52 by decide), uz_oo (show (49 : Nat) ≠ 31 by decide), uz_oo (show (45 : Nat) ≠ 49 by decide), uz_oo (show (45 : Nat) ≠ 31 by decide), uz_oo (show (45 : Nat) ≠ 52 by decide), uz_oo (show (45 : Nat) ≠ 46 by decide), uz_oo (show (52 : Nat) ≠ 31 by decide), h53] at r114 s114 ⊢
                    refine Z_iconst (n := 116) dX4_add_115 rfl (by decide) ?_
                    refine Z_iadd (n := 117) dX4_add_116 rfl (by omega) ?_
                    refine Z_iast (n := 118) dX4_add_117 rfl rfl rfl (by first | decide | assumption) (by omega) (by omega) (by first | assumption | omega | decide) (by first | assumption | omega | decide) (by decide) ?_
                    refine Z_aload_n (n := 119) dX4_add_118 rfl rfl ?_
                    refine Z_getA (n := 122) dX4_add_119 rfl ffX4_54 rfl rfl ?_
                    refine Z_sipush (n := 125) dX4_add_122 rfl (by decide) (by decide) ?_
                    refine Z_iload_n (n := 126) dX4_add_125 rfl rfl ?_
                    refine Z_imul (n := 127) dX4_add_126 rfl (by omega) ?_
                    refine Z_aload_n (n := 128) dX4_add_127 rfl rfl ?_
                    refine Z_getA (n := 131) dX4_add_128 rfl ffX4_51 rfl rfl ?_
                    refine Z_iload_n (n := 132) dX4_add_131 rfl rfl ?_
                    refine Z_iald (n := 133) dX4_add_132 rfl rfl rfl (by first | decide | assumption) (by omega) (by omega) (fun r132 s132 => ?_)
                    try simp only [uz_oo (show (31 : Nat) ≠ 52 by decide), uz_oo (show (49 : Nat) ≠ 52 by decide), uz_oo (show (49 : Nat) ≠ 31 by decide), uz_oo (show (45 : Nat) ≠ 49 by decide), uz_oo (show (45 : Nat) ≠ 31 by decide), uz_oo (show (45 : Nat) ≠ 52 by decide), uz_oo (show (45 : Nat) ≠ 46 by decide), uz_oo (show (52 : Nat) ≠ 31 by decide), nm53] at r132 s132 ⊢
                    refine Z_iadd (n := 134) dX4_add_133 rfl (by omega) ?_
                    refine Z_iload (n := 136) dX4_add_134 rfl rfl ?_
                    refine Z_iast (n := 137) dX4_add_136 rfl rfl rfl (by first | decide | assumption) (by omega) (by omega) (by first | assumption | omega | decide) (by first | assumption | omega | decide) (by decide) ?_
                    refine Z_aload_n (n := 138) dX4_add_137 rfl rfl ?_
                    refine Z_getA (n := 141) dX4_add_138 rfl ffX4_51 rfl rfl ?_
                    refine Z_iload_n (n := 142) dX4_add_141 rfl rfl ?_
                    refine Z_dup2 (n := 143) dX4_add_142 rfl rfl rfl ?_
                    refine Z_iald (n := 144) dX4_add_143 rfl rfl rfl (by first | decide | assumption) (by omega) (by omega) (fun r143 s143 => ?_)
                    try simp only [uz_oo (show (31 : Nat) ≠ 52 by decide), uz_oo (show (49 : Nat) ≠ 52 by decide), uz_oo (show (49 : Nat) ≠ 31 by decide), uz_oo (show (45 : Nat) ≠ 49 by decide), uz_oo (show (45 : Nat) ≠ 31 by decide), uz_oo (show (45 : Nat) ≠ 52 by decide), uz_oo (show (45 : Nat) ≠ 46 by decide), uz_oo (show (52 : Nat) ≠ 31 by decide), nm53] at r143 s143 ⊢
                    refine Z_iconst (n := 145) dX4_add_144 rfl (by decide) ?_
                    refine Z_iadd (n := 146) dX4_add_145 rfl (by omega) ?_
                    refine Z_iast (n := 147) dX4_add_146 rfl rfl rfl (by first | decide | assumption) (by omega) (by omega) (by first | assumption | omega | decide) (by first | assumption | omega | decide) (by decide) ?_
                    
                    
                    refine Z_iinc (L' := [_, _, _, _, _]) (n := 150) dX4_add_147 rfl rfl (by decide) rfl rfl (by omega) rfl ?_
                    refine Z_goto (t := 34) dX4_add_150 (by decide) ?_
                    refine Z_loc (L' := [some _, some _, some _, some _, none]) (lsub_same (lsub_same (lsub_same (lsub_same (lsub_none lsub_nil))))) ?_
                    exact ih34 _ _ _ (by omega) (by first | assumption | omega | decide) (by first | assumption | omega | decide) (by first | assumption | exact upd_com cm53) (by first | exact fun q => i26_3 (by omega) | exact fun q => phA_J (f45 48 (by decide)).2 (i34_3 (by omega)) | exact fun q => by omega) (by first | exact fun q => i26_4 (by omega) | exact fun q => phB_J (f45 48 (by decide)).2 (i34_4 (by omega)) | exact fun _ => pB53 | exact fun _ => upd_var hc vs53 (by omega))
        refine Z_loc (L' := [some _, some _, some _, some _, none]) (lsub_same (lsub_same (lsub_same (lsub_same (lsub_none lsub_nil))))) ?_
        exact lp34 _ _ _ _ (Nat.lt_succ_self _) (by first | assumption | omega | decide) (by first | assumption | omega | decide) (by first | assumption | exact upd_com cm53) (by first | exact fun q => i26_3 (by omega) | exact fun q => phA_J (f45 48 (by decide)).2 (i34_3 (by omega)) | exact fun q => by omega) (by first | exact fun q => i26_4 (by omega) | exact fun q => phB_J (f45 48 (by decide)).2 (i34_4 (by omega)) | exact fun _ => pB53 | exact fun _ => upd_var hc vs53 (by omega))
  refine Z_loc (L' := [some _, some _, some _, none, none]) (lsub_same (lsub_same (lsub_same (lsub_none (lsub_none lsub_nil))))) ?_
  exact lp26 _ _ _ _ (Nat.lt_succ_self _) (by first | assumption | omega | decide) (by first | assumption | omega | decide) (by first | exact com_ad0 | assumption) (by first | exact fun _ => phA_ad0 hS hm | exact fun q => i34_3 (by omega)) (by first | exact fun q => by omega | exact fun q => i34_4 (by omega))
