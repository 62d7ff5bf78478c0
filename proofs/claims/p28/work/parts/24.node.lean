/-! ===== the reference: bucket, nodeFor, what makes bits ===== -/
def bkH (d : Int) (P : Int → Int64) : Nat → Int64
  | 0 => (Int32.ofInt d).toInt64
  | n + 1 => bkH d P n * 1000003 + (P (n : Int) ^^^ zlushr (P (n : Int)) 29)
def bkt (d : Int) (P : Int → Int64) : Int := zand (zl2i (zlushr (bkH d P 4) 7 ^^^ zlushr (bkH d P 4) 31)) 511
theorem bkt_in (d : Int) (P : Int → Int64) : 0 ≤ bkt d P ∧ bkt d P < 512 := by
  have := zand_mask (zl2i (zlushr (bkH d P 4) 7 ^^^ zlushr (bkH d P 4) 31)) 9 (by decide) (m := 511) (by decide)
  unfold bkt
  omega
theorem bkH_up (d : Int) (P : Int → Int64) {i : Int} (h : 0 ≤ i) : bkH d P (i + 1).toNat = bkH d P i.toNat * 1000003 + (P i ^^^ zlushr (P i) 29) := by
  rw [show (i + 1).toNat = i.toNat + 1 by omega]
  show bkH d P i.toNat * 1000003 + (P (i.toNat : Int) ^^^ zlushr (P (i.toNat : Int)) 29) = _
  rw [Int.toNat_of_nonneg h]
theorem bkH_congr {d : Int} {P P' : Int → Int64} : ∀ {n : Nat}, n ≤ 4 → (∀ k : Int, 0 ≤ k → k < 4 → P k = P' k) → bkH d P n = bkH d P' n
  | 0, _, _ => rfl
  | n + 1, h, e => by
    unfold bkH
    rw [bkH_congr (n := n) (by omega) e, e n (by omega) (by omega)]
theorem bkt_congr {d : Int} {P P' : Int → Int64} (e : ∀ k : Int, 0 ≤ k → k < 4 → P k = P' k) : bkt d P = bkt d P' := by
  unfold bkt
  rw [bkH_congr (n := 4) (by decide) e]
/-- a chain of nodes from s on -/
def chn (nx : Int → Int) : Int → List Int → Prop
  | s, [] => s < 0
  | s, n :: r => s = n ∧ 0 ≤ n ∧ n < 520 ∧ chn nx (nx n) r
theorem chn_cons {nx : Int → Int} {s : Int} {l : List Int} (h : chn nx s l) (hs : ¬ s < 0) : ∃ r, l = s :: r ∧ 0 ≤ s ∧ s < 520 ∧ chn nx (nx s) r := by
  cases l with
  | nil => exact absurd h hs
  | cons n r =>
    obtain ⟨rfl, h1, h2, h3⟩ := h
    exact ⟨r, rfl, h1, h2, h3⟩
theorem chn_nil {nx : Int → Int} {s : Int} {l : List Int} (h : chn nx s l) (hs : s < 0) : l = [] := by
  cases l with
  | nil => rfl
  | cons n r =>
    obtain ⟨rfl, h1, h2, h3⟩ := h
    omega
def mtc (M : zM) (J : zJ) (n d : Int) (P : Int → Int64) : Prop := M 47 n = d ∧ J 48 (4 * n) = P 0 ∧ J 48 (4 * n + 1) = P 1 ∧ J 48 (4 * n + 2) = P 2 ∧ J 48 (4 * n + 3) = P 3
/-- the memory behind a new node -/
def nfM (M : zM) (d b : Int) : zM := uz (uz (uz (uz (uz M 31 23 (M 50 (M 31 23))) 47 (M 31 23) d) 49 (M 31 23) 0) 50 (M 31 23) (M 51 b)) 51 b (M 31 23)
def nfQ (M : zM) (J : zJ) (d : Int) (ch : List Int) (x : Int) (M' : zM) (J' : zJ) : Prop :=
  (∃ n ∈ ch, mtc M J n d (J 53) ∧ x = n ∧ M' = M ∧ J' = J) ∨ ((∀ n ∈ ch, ¬ mtc M J n d (J 53)) ∧ x = M 31 23 ∧ M' = nfM M d (bkt d (J 53)) ∧ (∀ k : Int, 0 ≤ k → k < 4 → J' 48 (4 * x + k) = J 53 k) ∧ ∀ j : Int, (j < 4 * x ∨ 4 * x + 4 ≤ j) → J' 48 j = J 48 j)
abbrev kNF (a : Nat) : Prop := ¬ a = 31 ∧ ¬ (47 ≤ a ∧ a ≤ 51)
def nfree (M : zM) (J : zJ) (d : Int) (ch : List Int) : Prop := (∀ n ∈ ch, ¬ mtc M J n d (J 53)) → 0 ≤ M 31 23 ∧ M 50 (M 31 23) ≤ 519
set_option maxRecDepth 20000 in
theorem zX4_bucket {G : tl_G} {M : zM} {J : zJ} {d : Int}  : ZN G yX4_bucket mX4_bucket 0 kAll [vR 31, vI d] F1 M J (qI (fun x M' J' => M' = M ∧ J' = J ∧ x = bkt d (J 53))) := by
  refine ZN_of (L := [_, _, _, _, _]) (by decide) rfl rfl (Nat.le_of_ble_eq_true rfl) rfl (fun hav => ?_)
  refine Z_iload_n (n := 1) dX4_bucket_0 rfl rfl ?_
  refine Z_i2l (n := 2) dX4_bucket_1 rfl ?_
  refine Z_lstore_n (L' := [_, _, _, _, _]) (n := 3) dX4_bucket_2 rfl (by decide) rfl rfl ?_
  refine Z_iconst (n := 4) dX4_bucket_3 rfl (by decide) ?_
  refine Z_istore (L' := [_, _, _, _, _]) (n := 6) dX4_bucket_4 rfl (by decide) rfl rfl ?_
  have lp6 : ∀ (N6 : Nat) (h : Int64) (k : Int) , ((4 - k).toNat) < N6 → (0 ≤ k) → (k ≤ 4) → (h = bkH d (J 53) k.toNat) → TZ G mX4_bucket (tl_rm 0 0 0) 0 0 kAll M J 6 [some (vR 31), some (vI d), some (vJ h), none, some (vI k)] [] F1 M J (ZM G (zPost G kAll F1 M J (qI (fun x M' J' => M' = M ∧ J' = J ∧ x = bkt d (J 53)))) 0 0) := by
    intro N6
    induction N6 with
    | zero => intro h k  hN; omega
    | succ N6 ih6 =>
      intro h k  hN6 i6_0 i6_1 i6_2
      refine Z_iload (n := 8) dX4_bucket_6 rfl rfl ?_
      refine Z_iconst (n := 9) dX4_bucket_8 rfl (by decide) ?_
      refine Z_icmp_ge (n := 12) (t := 43) dX4_bucket_9 rfl (by decide) (fun c9 => ?_) (fun c9 => ?_)
      · refine Z_lload_n (n := 44) dX4_bucket_43 rfl rfl ?_
        refine Z_bipush (n := 46) dX4_bucket_44 rfl (by decide) (by decide) ?_
        refine Z_lushr (n := 47) dX4_bucket_46 rfl ?_
        refine Z_lload_n (n := 48) dX4_bucket_47 rfl rfl ?_
        refine Z_bipush (n := 50) dX4_bucket_48 rfl (by decide) (by decide) ?_
        refine Z_lushr (n := 51) dX4_bucket_50 rfl ?_
        refine Z_lxor (n := 52) dX4_bucket_51 rfl ?_
        refine Z_l2i (n := 53) dX4_bucket_52 rfl ?_
        refine Z_sipush (n := 56) dX4_bucket_53 rfl (by decide) (by decide) ?_
        refine Z_iand (n := 57) dX4_bucket_56 rfl ?_
        refine Z_iret dX4_bucket_57 rfl ?_
        refine ⟨rfl, rfl, ?_⟩; rw [i6_2, show k = 4 by omega]; rfl
      · refine Z_lload_n (n := 13) dX4_bucket_12 rfl rfl ?_
        refine Z_ldc2 (n := 16) dX4_bucket_13 rfl clX4_152 ?_
        refine Z_lmul (n := 17) dX4_bucket_16 rfl ?_
        refine Z_aload_n (n := 18) dX4_bucket_17 rfl rfl ?_
        refine Z_getA (n := 21) dX4_bucket_18 rfl ffX4_75 rfl rfl ?_
        refine Z_iload (n := 23) dX4_bucket_21 rfl rfl ?_
        refine Z_lald (n := 24) dX4_bucket_23 rfl rfl (by decide) (by omega) (by omega) ?_
        refine Z_aload_n (n := 25) dX4_bucket_24 rfl rfl ?_
        refine Z_getA (n := 28) dX4_bucket_25 rfl ffX4_75 rfl rfl ?_
        refine Z_iload (n := 30) dX4_bucket_28 rfl rfl ?_
        refine Z_lald (n := 31) dX4_bucket_30 rfl rfl (by decide) (by omega) (by omega) ?_
        refine Z_bipush (n := 33) dX4_bucket_31 rfl (by decide) (by decide) ?_
        refine Z_lushr (n := 34) dX4_bucket_33 rfl ?_
        refine Z_lxor (n := 35) dX4_bucket_34 rfl ?_
        refine Z_ladd (n := 36) dX4_bucket_35 rfl ?_
        refine Z_lstore_n (L' := [_, _, _, _, _]) (n := 37) dX4_bucket_36 rfl (by decide) rfl rfl ?_
        refine Z_iinc (L' := [_, _, _, _, _]) (n := 40) dX4_bucket_37 rfl rfl (by decide) rfl rfl (by omega) rfl ?_
        refine Z_goto (t := 6) dX4_bucket_40 (by decide) ?_
        refine Z_loc (L' := [some _, some _, some _, none, some _]) (lsub_same (lsub_same (lsub_same (lsub_none (lsub_same lsub_nil))))) ?_
        exact ih6 _ _  (by omega) (by first | assumption | omega | decide) (by first | assumption | omega | decide) (by first | rfl | (rw [bkH_up _ _ (by assumption), ← i6_2]))
  refine Z_loc (L' := [some _, some _, some _, none, some _]) (lsub_same (lsub_same (lsub_same (lsub_none (lsub_same lsub_nil))))) ?_
  exact lp6 _ _ _  (Nat.lt_succ_self _) (by first | assumption | omega | decide) (by first | assumption | omega | decide) (by first | rfl | (rw [bkH_up _ _ (by assumption), ← i6_2]))
set_option maxRecDepth 20000 in
theorem zX4_nodeFor {G : tl_G} {M : zM} {J : zJ} {d : Int} {ch : List Int} (h0 : 0 ≤ d) (h1 : d ≤ 7) (hc : chn (M 50) (M 51 (bkt d (J 53))) ch) (hf : nfree M J d ch) : ZN G yX4_nodeFor mX4_nodeFor 1 kNF [vR 31, vI d] F1 M J (qI (fun x M' J' => nfQ M J d ch x M' J')) := by
  refine ZN_of (L := [_, _, _, _, _]) (by decide) rfl rfl (Nat.le_of_ble_eq_true rfl) rfl (fun hav => ?_)
  refine Z_aload_n (n := 1) dX4_nodeFor_0 rfl rfl ?_
  refine Z_iload_n (n := 2) dX4_nodeFor_1 rfl rfl ?_
  refine Z_callVi (n := 5) [_] _ dX4_nodeFor_2 rfl cwX4_154 rfl rfl rfl (Nat.le_of_ble_eq_true rfl) (by refine ⟨?_, ?_, ?_, ?_⟩ <;> exact Nat.le_of_ble_eq_true rfl) (fun _ _ => trivial) (zX4_bucket  ) ?_
  intro x2 M2 J2 z2 f2 q2
  obtain ⟨e2_1, e2_2, h2⟩ := q2
  replace e2_1 := e2_1.symm; subst e2_1
  replace e2_2 := e2_2.symm; subst e2_2
  have hb := bkt_in d (J 53)
  rw [← h2] at hb
  refine Z_istore_n (L' := [_, _, _, _, _]) (n := 6) dX4_nodeFor_5 rfl (by decide) rfl rfl ?_
  refine Z_aload_n (n := 7) dX4_nodeFor_6 rfl rfl ?_
  refine Z_getA (n := 10) dX4_nodeFor_7 rfl ffX4_69 rfl rfl ?_
  refine Z_iload_n (n := 11) dX4_nodeFor_10 rfl rfl ?_
  refine Z_iald (n := 12) dX4_nodeFor_11 rfl rfl rfl (by first | decide | assumption) (by omega) (by omega) (fun r11 s11 => ?_)
  refine Z_istore_n (L' := [_, _, _, _, _]) (n := 13) dX4_nodeFor_12 rfl (by decide) rfl rfl ?_
  have lp13 : ∀ (N13 : Nat) (n : Int) (r : List Int) , (r.length) < N13 → (chn (M 50) n r) → (∀ m ∈ ch, m ∈ r ∨ ¬ mtc M J m d (J 53)) → (∀ m ∈ r, m ∈ ch) → TZ G mX4_nodeFor (tl_rm 1 0 0) 0 0 kNF M J 13 [some (vR 31), some (vI d), some (vI x2), some (vI n), none] [] F1 M J (ZM G (zPost G kNF F1 M J (qI (fun x M' J' => nfQ M J d ch x M' J'))) 0 0) := by
    intro N13
    induction N13 with
    | zero => intro n r  hN; omega
    | succ N13 ih13 =>
      intro n r  hN13 i13_0 i13_1 i13_2
      refine Z_iload_n (n := 14) dX4_nodeFor_13 rfl rfl ?_
      refine Z_if_lt (n := 17) (t := 117) dX4_nodeFor_14 rfl (by decide) (fun c14 => ?_) (fun c14 => ?_)
      · have hnil := chn_nil i13_0 c14
        subst hnil
        have hno : ∀ m ∈ ch, ¬ mtc M J m d (J 53) := fun m hm => (i13_1 m hm).resolve_left (by simp)
        obtain ⟨f0, f1⟩ := hf hno
        refine Z_rg 31 23 rfl (fun g23 g23b => ?_)
        refine Z_rg 51 x2 rfl (fun g51 g51b => ?_)
        refine Z_aload_n (n := 118) dX4_nodeFor_117 rfl rfl ?_
        refine Z_getI (n := 121) (ki := 23) dX4_nodeFor_118 rfl ffX4_157 rfl rfl rfl (fun r118 s118 => ?_)
        refine Z_istore_n (L' := [_, _, _, _, _]) (n := 122) dX4_nodeFor_121 rfl (by decide) rfl rfl ?_
        refine Z_aload_n (n := 123) dX4_nodeFor_122 rfl rfl ?_
        refine Z_aload_n (n := 124) dX4_nodeFor_123 rfl rfl ?_
        refine Z_getA (n := 127) dX4_nodeFor_124 rfl ffX4_66 rfl rfl ?_
        refine Z_iload_n (n := 128) dX4_nodeFor_127 rfl rfl ?_
        refine Z_iald (n := 129) dX4_nodeFor_128 rfl rfl rfl (by first | decide | assumption) (by omega) (by omega) (fun r128 s128 => ?_)
        refine Z_putI (n := 132) (ki := 23) dX4_nodeFor_129 rfl ffX4_157 rfl (by decide) rfl rfl (by first | assumption | omega | decide) (by first | assumption | omega | decide) (by decide) ?_
        refine Z_aload_n (n := 133) dX4_nodeFor_132 rfl rfl ?_
        refine Z_getA (n := 136) dX4_nodeFor_133 rfl ffX4_57 rfl rfl ?_
        refine Z_iload_n (n := 137) dX4_nodeFor_136 rfl rfl ?_
        refine Z_iload_n (n := 138) dX4_nodeFor_137 rfl rfl ?_
        refine Z_iast (n := 139) dX4_nodeFor_138 rfl rfl rfl (by first | decide | assumption) (by omega) (by omega) (by first | assumption | omega | decide) (by first | assumption | omega | decide) (by decide) ?_
        refine Z_iconst (n := 140) dX4_nodeFor_139 rfl (by decide) ?_
        refine Z_istore (L' := [_, _, _, _, _]) (n := 142) dX4_nodeFor_140 rfl (by decide) rfl rfl ?_
        have lp142 : ∀ (N142 : Nat) (k : Int) (M142 : zM) (J142 : zJ), ((4 - k).toNat) < N142 → (0 ≤ k) → (k ≤ 4) → (M142 = uz (uz M 31 23 (M 50 (M 31 23))) 47 (M 31 23) d) → (∀ j : Int, 0 ≤ j → j < k → J142 48 (4 * M 31 23 + j) = J 53 j) → (∀ j : Int, (j < 4 * M 31 23 ∨ 4 * M 31 23 + 4 ≤ j) → J142 48 j = J 48 j) → TZ G mX4_nodeFor (tl_rm 1 0 0) 0 0 kNF M J 142 [some (vR 31), some (vI d), some (vI x2), some (vI (M 31 23)), some (vI k)] [] F1 M142 J142 (ZM G (zPost G kNF F1 M J (qI (fun x M' J' => nfQ M J d ch x M' J'))) 0 0) := by
          intro N142
          induction N142 with
          | zero => intro k M142 J142 hN; omega
          | succ N142 ih142 =>
            intro k M142 J142 hN142 i142_0 i142_1 i142_2 i142_3 i142_4
            refine Z_iload (n := 144) dX4_nodeFor_142 rfl rfl ?_
            refine Z_iconst (n := 145) dX4_nodeFor_144 rfl (by decide) ?_
            refine Z_icmp_ge (n := 148) (t := 172) dX4_nodeFor_145 rfl (by decide) (fun c145 => ?_) (fun c145 => ?_)
            · refine Z_aload_n (n := 173) dX4_nodeFor_172 rfl rfl ?_
              refine Z_getA (n := 176) dX4_nodeFor_173 rfl ffX4_63 rfl rfl ?_
              refine Z_iload_n (n := 177) dX4_nodeFor_176 rfl rfl ?_
              refine Z_iconst (n := 178) dX4_nodeFor_177 rfl (by decide) ?_
              refine Z_iast (n := 179) dX4_nodeFor_178 rfl rfl rfl (by first | decide | assumption) (by omega) (by omega) (by first | assumption | omega | decide) (by first | assumption | omega | decide) (by decide) ?_
              refine Z_aload_n (n := 180) dX4_nodeFor_179 rfl rfl ?_
              refine Z_getA (n := 183) dX4_nodeFor_180 rfl ffX4_66 rfl rfl ?_
              refine Z_iload_n (n := 184) dX4_nodeFor_183 rfl rfl ?_
              refine Z_aload_n (n := 185) dX4_nodeFor_184 rfl rfl ?_
              refine Z_getA (n := 188) dX4_nodeFor_185 rfl ffX4_69 rfl rfl ?_
              refine Z_iload_n (n := 189) dX4_nodeFor_188 rfl rfl ?_
              refine Z_iald (n := 190) dX4_nodeFor_189 rfl rfl rfl (by first | decide | assumption) (by omega) (by omega) (fun r189 s189 => ?_)
              try simp only [uz_oo (show (51 : Nat) ≠ 49 by decide), uz_oo (show (51 : Nat) ≠ 47 by decide), uz_oo (show (51 : Nat) ≠ 31 by decide)] at r189 s189 ⊢
              refine Z_iast (n := 191) dX4_nodeFor_190 rfl rfl rfl (by first | decide | assumption) (by omega) (by omega) (by first | assumption | omega | decide) (by first | assumption | omega | decide) (by decide) ?_
              refine Z_aload_n (n := 192) dX4_nodeFor_191 rfl rfl ?_
              refine Z_getA (n := 195) dX4_nodeFor_192 rfl ffX4_69 rfl rfl ?_
              refine Z_iload_n (n := 196) dX4_nodeFor_195 rfl rfl ?_
              refine Z_iload_n (n := 197) dX4_nodeFor_196 rfl rfl ?_
              refine Z_iast (n := 198) dX4_nodeFor_197 rfl rfl rfl (by first | decide | assumption) (by omega) (by omega) (by first | assumption | omega | decide) (by first | assumption | omega | decide) (by decide) ?_
              refine Z_iload_n (n := 199) dX4_nodeFor_198 rfl rfl ?_
              refine Z_iret dX4_nodeFor_199 rfl ?_
              subst i142_2
              subst h2
              exact Or.inr ⟨hno, rfl, rfl, fun k k0 k1 => i142_3 k k0 (by omega), i142_4⟩
            · refine Z_fr (fun fr142 => ?_)
              refine Z_aload_n (n := 149) dX4_nodeFor_148 rfl rfl ?_
              refine Z_getA (n := 152) dX4_nodeFor_149 rfl ffX4_60 rfl rfl ?_
              refine Z_iconst (n := 153) dX4_nodeFor_152 rfl (by decide) ?_
              refine Z_iload_n (n := 154) dX4_nodeFor_153 rfl rfl ?_
              refine Z_imul (n := 155) dX4_nodeFor_154 rfl (by omega) ?_
              refine Z_iload (n := 157) dX4_nodeFor_155 rfl rfl ?_
              refine Z_iadd (n := 158) dX4_nodeFor_157 rfl (by omega) ?_
              refine Z_aload_n (n := 159) dX4_nodeFor_158 rfl rfl ?_
              refine Z_getA (n := 162) dX4_nodeFor_159 rfl ffX4_75 rfl rfl ?_
              refine Z_iload (n := 164) dX4_nodeFor_162 rfl rfl ?_
              refine Z_lald (n := 165) dX4_nodeFor_164 rfl rfl (by decide) (by omega) (by omega) ?_
              refine Z_last (n := 166) dX4_nodeFor_165 rfl rfl (by decide) (by omega) (by omega) (by decide) ?_
              have nx3 : ∀ j : Int, 0 ≤ j → j < k + 1 → uz J142 48 (4 * M 31 23 + k) (J142 53 k) 48 (4 * M 31 23 + j) = J 53 j := fun j j0 j1 => by
                rw [uz_a]
                split
                · rw [show j = k by omega, (fr142 53 (by decide)).2]
                · exact i142_3 j j0 (by omega)
              have nx4 : ∀ j : Int, (j < 4 * M 31 23 ∨ 4 * M 31 23 + 4 ≤ j) → uz J142 48 (4 * M 31 23 + k) (J142 53 k) 48 j = J 48 j := fun j hj => by
                rw [uz_n (by omega)]
                exact i142_4 j hj
              refine Z_iinc (L' := [_, _, _, _, _]) (n := 169) dX4_nodeFor_166 rfl rfl (by decide) rfl rfl (by omega) rfl ?_
              refine Z_goto (t := 142) dX4_nodeFor_169 (by decide) ?_
              refine Z_loc (L' := [some _, some _, some _, some _, some _]) (lsub_same (lsub_same (lsub_same (lsub_same (lsub_same lsub_nil))))) ?_
              exact ih142 _ _ _ (by omega) (by first | assumption | omega | decide) (by first | assumption | omega | decide) (by first | rfl | assumption) (by first | exact fun j j0 j1 => by omega | exact nx3) (by first | exact fun j _ => rfl | exact nx4)
        refine Z_loc (L' := [some _, some _, some _, some _, some _]) (lsub_same (lsub_same (lsub_same (lsub_same (lsub_same lsub_nil))))) ?_
        exact lp142 _ _ _ _ (Nat.lt_succ_self _) (by first | assumption | omega | decide) (by first | assumption | omega | decide) (by first | rfl | assumption) (by first | exact fun j j0 j1 => by omega | exact nx3) (by first | exact fun j _ => rfl | exact nx4)
      · obtain ⟨r1, hr, n0, n1, hc1⟩ := chn_cons i13_0 c14
        subst hr
        refine Z_aload_n (n := 18) dX4_nodeFor_17 rfl rfl ?_
        refine Z_getA (n := 21) dX4_nodeFor_18 rfl ffX4_57 rfl rfl ?_
        refine Z_iload_n (n := 22) dX4_nodeFor_21 rfl rfl ?_
        refine Z_iald (n := 23) dX4_nodeFor_22 rfl rfl rfl (by first | decide | assumption) (by omega) (by omega) (fun r22 s22 => ?_)
        refine Z_iload_n (n := 24) dX4_nodeFor_23 rfl rfl ?_
        refine Z_icmp_ne (n := 27) (t := 107) dX4_nodeFor_24 rfl (by decide) (fun c24 => ?_) (fun c24 => ?_)
        · have nx1 : ∀ m ∈ ch, m ∈ r1 ∨ ¬ mtc M J m d (J 53) := fun m hm => by
            rcases i13_1 m hm with q | q
            · rcases List.mem_cons.mp q with e | e
              · refine Or.inr ?_
                rw [e]
                rintro ⟨t1, t2, t3, t4, t5⟩
                first
                  | exact c24 t1
                  | exact c42 ((zcmp_eq _ _).mpr t2)
                  | exact c62 ((zcmp_eq _ _).mpr t3)
                  | exact c82 ((zcmp_eq _ _).mpr t4)
                  | exact c102 ((zcmp_eq _ _).mpr t5)
              · exact Or.inl e
            · exact Or.inr q
          refine Z_aload_n (n := 108) dX4_nodeFor_107 rfl rfl ?_
          refine Z_getA (n := 111) dX4_nodeFor_108 rfl ffX4_66 rfl rfl ?_
          refine Z_iload_n (n := 112) dX4_nodeFor_111 rfl rfl ?_
          refine Z_iald (n := 113) dX4_nodeFor_112 rfl rfl rfl (by first | decide | assumption) (by omega) (by omega) (fun r112 s112 => ?_)
          refine Z_istore_n (L' := [_, _, _, _, _]) (n := 114) dX4_nodeFor_113 rfl (by decide) rfl rfl ?_
          refine Z_goto (t := 13) dX4_nodeFor_114 (by decide) ?_
          refine Z_loc (L' := [some _, some _, some _, some _, none]) (lsub_same (lsub_same (lsub_same (lsub_same (lsub_none lsub_nil))))) ?_
          exact ih13 _ r1  (by simp only [List.length_cons] at *; omega) (by first | (rw [h2]; exact hc) | exact hc1) (by first | exact fun m hm => Or.inl hm | exact nx1) (by first | exact fun m hm => hm | exact fun m hm => i13_2 m (List.mem_cons_of_mem _ hm))
        · refine Z_aload_n (n := 28) dX4_nodeFor_27 rfl rfl ?_
          refine Z_getA (n := 31) dX4_nodeFor_28 rfl ffX4_60 rfl rfl ?_
          refine Z_iconst (n := 32) dX4_nodeFor_31 rfl (by decide) ?_
          refine Z_iload_n (n := 33) dX4_nodeFor_32 rfl rfl ?_
          refine Z_imul (n := 34) dX4_nodeFor_33 rfl (by omega) ?_
          refine Z_lald (n := 35) dX4_nodeFor_34 rfl rfl (by decide) (by omega) (by omega) ?_
          refine Z_aload_n (n := 36) dX4_nodeFor_35 rfl rfl ?_
          refine Z_getA (n := 39) dX4_nodeFor_36 rfl ffX4_75 rfl rfl ?_
          refine Z_iconst (n := 40) dX4_nodeFor_39 rfl (by decide) ?_
          refine Z_lald (n := 41) dX4_nodeFor_40 rfl rfl (by decide) (by omega) (by omega) ?_
          refine Z_lcmp (n := 42) dX4_nodeFor_41 rfl ?_
          refine Z_if_ne (n := 45) (t := 107) dX4_nodeFor_42 rfl (by decide) (fun c42 => ?_) (fun c42 => ?_)
          · have nx1 : ∀ m ∈ ch, m ∈ r1 ∨ ¬ mtc M J m d (J 53) := fun m hm => by
              rcases i13_1 m hm with q | q
              · rcases List.mem_cons.mp q with e | e
                · refine Or.inr ?_
                  rw [e]
                  rintro ⟨t1, t2, t3, t4, t5⟩
                  first
                    | exact c24 t1
                    | exact c42 ((zcmp_eq _ _).mpr t2)
                    | exact c62 ((zcmp_eq _ _).mpr t3)
                    | exact c82 ((zcmp_eq _ _).mpr t4)
                    | exact c102 ((zcmp_eq _ _).mpr t5)
                · exact Or.inl e
              · exact Or.inr q
            refine Z_aload_n (n := 108) dX4_nodeFor_107 rfl rfl ?_
            refine Z_getA (n := 111) dX4_nodeFor_108 rfl ffX4_66 rfl rfl ?_
            refine Z_iload_n (n := 112) dX4_nodeFor_111 rfl rfl ?_
            refine Z_iald (n := 113) dX4_nodeFor_112 rfl rfl rfl (by first | decide | assumption) (by omega) (by omega) (fun r112 s112 => ?_)
            refine Z_istore_n (L' := [_, _, _, _, _]) (n := 114) dX4_nodeFor_113 rfl (by decide) rfl rfl ?_
            refine Z_goto (t := 13) dX4_nodeFor_114 (by decide) ?_
            refine Z_loc (L' := [some _, some _, some _, some _, none]) (lsub_same (lsub_same (lsub_same (lsub_same (lsub_none lsub_nil))))) ?_
            exact ih13 _ r1  (by simp only [List.length_cons] at *; omega) (by first | (rw [h2]; exact hc) | exact hc1) (by first | exact fun m hm => Or.inl hm | exact nx1) (by first | exact fun m hm => hm | exact fun m hm => i13_2 m (List.mem_cons_of_mem _ hm))
          · refine Z_aload_n (n := 46) dX4_nodeFor_45 rfl rfl ?_
            refine Z_getA (n := 49) dX4_nodeFor_46 rfl ffX4_60 rfl rfl ?_
            refine Z_iconst (n := 50) dX4_nodeFor_49 rfl (by decide) ?_
            refine Z_iload_n (n := 51) dX4_nodeFor_50 rfl rfl ?_
            refine Z_imul (n := 52) dX4_nodeFor_51 rfl (by omega) ?_
            refine Z_iconst (n := 53) dX4_nodeFor_52 rfl (by decide) ?_
            refine Z_iadd (n := 54) dX4_nodeFor_53 rfl (by omega) ?_
            refine Z_lald (n := 55) dX4_nodeFor_54 rfl rfl (by decide) (by omega) (by omega) ?_
            refine Z_aload_n (n := 56) dX4_nodeFor_55 rfl rfl ?_
            refine Z_getA (n := 59) dX4_nodeFor_56 rfl ffX4_75 rfl rfl ?_
            refine Z_iconst (n := 60) dX4_nodeFor_59 rfl (by decide) ?_
            refine Z_lald (n := 61) dX4_nodeFor_60 rfl rfl (by decide) (by omega) (by omega) ?_
            refine Z_lcmp (n := 62) dX4_nodeFor_61 rfl ?_
            refine Z_if_ne (n := 65) (t := 107) dX4_nodeFor_62 rfl (by decide) (fun c62 => ?_) (fun c62 => ?_)
            · have nx1 : ∀ m ∈ ch, m ∈ r1 ∨ ¬ mtc M J m d (J 53) := fun m hm => by
                rcases i13_1 m hm with q | q
                · rcases List.mem_cons.mp q with e | e
                  · refine Or.inr ?_
                    rw [e]
                    rintro ⟨t1, t2, t3, t4, t5⟩
                    first
                      | exact c24 t1
                      | exact c42 ((zcmp_eq _ _).mpr t2)
                      | exact c62 ((zcmp_eq _ _).mpr t3)
                      | exact c82 ((zcmp_eq _ _).mpr t4)
                      | exact c102 ((zcmp_eq _ _).mpr t5)
                  · exact Or.inl e
                · exact Or.inr q
              refine Z_aload_n (n := 108) dX4_nodeFor_107 rfl rfl ?_
              refine Z_getA (n := 111) dX4_nodeFor_108 rfl ffX4_66 rfl rfl ?_
              refine Z_iload_n (n := 112) dX4_nodeFor_111 rfl rfl ?_
              refine Z_iald (n := 113) dX4_nodeFor_112 rfl rfl rfl (by first | decide | assumption) (by omega) (by omega) (fun r112 s112 => ?_)
              refine Z_istore_n (L' := [_, _, _, _, _]) (n := 114) dX4_nodeFor_113 rfl (by decide) rfl rfl ?_
              refine Z_goto (t := 13) dX4_nodeFor_114 (by decide) ?_
              refine Z_loc (L' := [some _, some _, some _, some _, none]) (lsub_same (lsub_same (lsub_same (lsub_same (lsub_none lsub_nil))))) ?_
              exact ih13 _ r1  (by simp only [List.length_cons] at *; omega) (by first | (rw [h2]; exact hc) | exact hc1) (by first | exact fun m hm => Or.inl hm | exact nx1) (by first | exact fun m hm => hm | exact fun m hm => i13_2 m (List.mem_cons_of_mem _ hm))
            · refine Z_aload_n (n := 66) dX4_nodeFor_65 rfl rfl ?_
              refine Z_getA (n := 69) dX4_nodeFor_66 rfl ffX4_60 rfl rfl ?_
              refine Z_iconst (n := 70) dX4_nodeFor_69 rfl (by decide) ?_
              refine Z_iload_n (n := 71) dX4_nodeFor_70 rfl rfl ?_
              refine Z_imul (n := 72) dX4_nodeFor_71 rfl (by omega) ?_
              refine Z_iconst (n := 73) dX4_nodeFor_72 rfl (by decide) ?_
              refine Z_iadd (n := 74) dX4_nodeFor_73 rfl (by omega) ?_
              refine Z_lald (n := 75) dX4_nodeFor_74 rfl rfl (by decide) (by omega) (by omega) ?_
              refine Z_aload_n (n := 76) dX4_nodeFor_75 rfl rfl ?_
              refine Z_getA (n := 79) dX4_nodeFor_76 rfl ffX4_75 rfl rfl ?_
              refine Z_iconst (n := 80) dX4_nodeFor_79 rfl (by decide) ?_
              refine Z_lald (n := 81) dX4_nodeFor_80 rfl rfl (by decide) (by omega) (by omega) ?_
              refine Z_lcmp (n := 82) dX4_nodeFor_81 rfl ?_
              refine Z_if_ne (n := 85) (t := 107) dX4_nodeFor_82 rfl (by decide) (fun c82 => ?_) (fun c82 => ?_)
              · have nx1 : ∀ m ∈ ch, m ∈ r1 ∨ ¬ mtc M J m d (J 53) := fun m hm => by
                  rcases i13_1 m hm with q | q
                  · rcases List.mem_cons.mp q with e | e
                    · refine Or.inr ?_
                      rw [e]
                      rintro ⟨t1, t2, t3, t4, t5⟩
                      first
                        | exact c24 t1
                        | exact c42 ((zcmp_eq _ _).mpr t2)
                        | exact c62 ((zcmp_eq _ _).mpr t3)
                        | exact c82 ((zcmp_eq _ _).mpr t4)
                        | exact c102 ((zcmp_eq _ _).mpr t5)
                    · exact Or.inl e
                  · exact Or.inr q
                refine Z_aload_n (n := 108) dX4_nodeFor_107 rfl rfl ?_
                refine Z_getA (n := 111) dX4_nodeFor_108 rfl ffX4_66 rfl rfl ?_
                refine Z_iload_n (n := 112) dX4_nodeFor_111 rfl rfl ?_
                refine Z_iald (n := 113) dX4_nodeFor_112 rfl rfl rfl (by first | decide | assumption) (by omega) (by omega) (fun r112 s112 => ?_)
                refine Z_istore_n (L' := [_, _, _, _, _]) (n := 114) dX4_nodeFor_113 rfl (by decide) rfl rfl ?_
                refine Z_goto (t := 13) dX4_nodeFor_114 (by decide) ?_
                refine Z_loc (L' := [some _, some _, some _, some _, none]) (lsub_same (lsub_same (lsub_same (lsub_same (lsub_none lsub_nil))))) ?_
                exact ih13 _ r1  (by simp only [List.length_cons] at *; omega) (by first | (rw [h2]; exact hc) | exact hc1) (by first | exact fun m hm => Or.inl hm | exact nx1) (by first | exact fun m hm => hm | exact fun m hm => i13_2 m (List.mem_cons_of_mem _ hm))
              · refine Z_aload_n (n := 86) dX4_nodeFor_85 rfl rfl ?_
                refine Z_getA (n := 89) dX4_nodeFor_86 rfl ffX4_60 rfl rfl ?_
                refine Z_iconst (n := 90) dX4_nodeFor_89 rfl (by decide) ?_
                refine Z_iload_n (n := 91) dX4_nodeFor_90 rfl rfl ?_
                refine Z_imul (n := 92) dX4_nodeFor_91 rfl (by omega) ?_
                refine Z_iconst (n := 93) dX4_nodeFor_92 rfl (by decide) ?_
                refine Z_iadd (n := 94) dX4_nodeFor_93 rfl (by omega) ?_
                refine Z_lald (n := 95) dX4_nodeFor_94 rfl rfl (by decide) (by omega) (by omega) ?_
                refine Z_aload_n (n := 96) dX4_nodeFor_95 rfl rfl ?_
                refine Z_getA (n := 99) dX4_nodeFor_96 rfl ffX4_75 rfl rfl ?_
                refine Z_iconst (n := 100) dX4_nodeFor_99 rfl (by decide) ?_
                refine Z_lald (n := 101) dX4_nodeFor_100 rfl rfl (by decide) (by omega) (by omega) ?_
                refine Z_lcmp (n := 102) dX4_nodeFor_101 rfl ?_
                refine Z_if_ne (n := 105) (t := 107) dX4_nodeFor_102 rfl (by decide) (fun c102 => ?_) (fun c102 => ?_)
                · have nx1 : ∀ m ∈ ch, m ∈ r1 ∨ ¬ mtc M J m d (J 53) := fun m hm => by
                    rcases i13_1 m hm with q | q
                    · rcases List.mem_cons.mp q with e | e
                      · refine Or.inr ?_
                        rw [e]
                        rintro ⟨t1, t2, t3, t4, t5⟩
                        first
                          | exact c24 t1
                          | exact c42 ((zcmp_eq _ _).mpr t2)
                          | exact c62 ((zcmp_eq _ _).mpr t3)
                          | exact c82 ((zcmp_eq _ _).mpr t4)
                          | exact c102 ((zcmp_eq _ _).mpr t5)
                      · exact Or.inl e
                    · exact Or.inr q
                  refine Z_aload_n (n := 108) dX4_nodeFor_107 rfl rfl ?_
                  refine Z_getA (n := 111) dX4_nodeFor_108 rfl ffX4_66 rfl rfl ?_
                  refine Z_iload_n (n := 112) dX4_nodeFor_111 rfl rfl ?_
                  refine Z_iald (n := 113) dX4_nodeFor_112 rfl rfl rfl (by first | decide | assumption) (by omega) (by omega) (fun r112 s112 => ?_)
                  refine Z_istore_n (L' := [_, _, _, _, _]) (n := 114) dX4_nodeFor_113 rfl (by decide) rfl rfl ?_
                  refine Z_goto (t := 13) dX4_nodeFor_114 (by decide) ?_
                  refine Z_loc (L' := [some _, some _, some _, some _, none]) (lsub_same (lsub_same (lsub_same (lsub_same (lsub_none lsub_nil))))) ?_
                  exact ih13 _ r1  (by simp only [List.length_cons] at *; omega) (by first | (rw [h2]; exact hc) | exact hc1) (by first | exact fun m hm => Or.inl hm | exact nx1) (by first | exact fun m hm => hm | exact fun m hm => i13_2 m (List.mem_cons_of_mem _ hm))
                · refine Z_iload_n (n := 106) dX4_nodeFor_105 rfl rfl ?_
                  refine Z_iret dX4_nodeFor_106 rfl ?_
                  refine Or.inl ⟨n, i13_2 n List.mem_cons_self, ⟨by omega, ?_, ?_, ?_, ?_⟩, rfl, rfl, rfl⟩
                  · exact (zcmp_eq _ _).mp c42
                  · exact (zcmp_eq _ _).mp c62
                  · exact (zcmp_eq _ _).mp c82
                  · exact (zcmp_eq _ _).mp c102
  refine Z_loc (L' := [some _, some _, some _, some _, none]) (lsub_same (lsub_same (lsub_same (lsub_same (lsub_none lsub_nil))))) ?_
  exact lp13 _ _ ch  (Nat.lt_succ_self _) (by first | (rw [h2]; exact hc) | exact hc1) (by first | exact fun m hm => Or.inl hm | exact nx1) (by first | exact fun m hm => hm | exact fun m hm => i13_2 m (List.mem_cons_of_mem _ hm))
theorem st_step {X : Int → Int64} {J1 : zJ} {a : Nat} {c k : Int} {u : Int64} (hu : u = X k) (h : ∀ j : Int, 0 ≤ j → j < k → J1 a (c + j) = X j) : ∀ j : Int, 0 ≤ j → j < k + 1 → uz J1 a (c + k) u a (c + j) = X j := by
  intro j j0 j1
  rw [uz_a]
  split
  · rw [show j = k by omega]; exact hu
  · exact h j j0 (by omega)
def joinF (k : Int) (a b : Int64) : Int64 := if k = 1 then 0 else if k = 2 then -1 else if k = 3 then a ^^^ -1 else if k = 4 then a &&& b else if k = 5 then a ||| b else if k = 6 then a ^^^ b else if k = 7 then (a &&& b) ^^^ -1 else if k = 8 then (a ||| b) ^^^ -1 else (a ^^^ b) ^^^ -1
abbrev kBits (a : Nat) : Prop := ¬ a = 44
def whF (p : Int) : Int64 := if p = 2 then -4294967296 else if p = 3 then -281470681808896 else if p = 4 then -71777214294589696 else if p = 5 then -1085102592571150096 else if p = 6 then -3689348814741910324 else if p = 7 then -6148914691236517206 else 0
def vbF (W : Int → Int64) (p k : Int) : Int64 := if 1 < p then W p else if (p = 0 ∧ 1 < k) ∨ (¬ p = 0 ∧ zrem k 2 = 1) then -1 else 0
set_option maxRecDepth 20000 in
theorem zX4_joined {G : tl_G} {M : zM} {J : zJ} {k : Int} {a b : Int64}  : ZN G yX4_joined mX4_joined 0 kAll [vI k, vJ a, vJ b] F1 M J (qL (fun x M' J' => M' = M ∧ J' = J ∧ x = joinF k a b)) := by
  refine ZN_of (L := [_, _, _, _, _]) (by decide) rfl rfl (Nat.le_of_ble_eq_true rfl) rfl (fun hav => ?_)
  refine Z_iload_n (n := 1) dX4_joined_0 rfl rfl ?_
  refine Z_tsw (td := 88) dX4_joined_1 rfl (by decide) (by decide) ?_ (fun c1 => ?_)
  · refine zcases_cons (fun c1 t ht => ?_) ?_
    · obtain rfl : t = 48 := by omega
      refine Z_lconst (v := 0) (n := 49) dX4_joined_48 rfl (by decide) ?_
      refine Z_lret dX4_joined_49 rfl ?_
      refine ⟨rfl, rfl, ?_⟩
      unfold joinF
      (repeat rw [if_neg (by omega)]) <;> first | rfl | (rw [if_pos (by omega)])
    refine zcases_cons (fun c1 t ht => ?_) ?_
    · obtain rfl : t = 50 := by omega
      refine Z_ldc2 (n := 53) dX4_joined_50 rfl clX4_188 ?_
      refine Z_lret dX4_joined_53 rfl ?_
      refine ⟨rfl, rfl, ?_⟩
      unfold joinF
      (repeat rw [if_neg (by omega)]) <;> first | rfl | (rw [if_pos (by omega)])
    refine zcases_cons (fun c1 t ht => ?_) ?_
    · obtain rfl : t = 54 := by omega
      refine Z_lload_n (n := 55) dX4_joined_54 rfl rfl ?_
      refine Z_ldc2 (n := 58) dX4_joined_55 rfl clX4_188 ?_
      refine Z_lxor (n := 59) dX4_joined_58 rfl ?_
      refine Z_lret dX4_joined_59 rfl ?_
      refine ⟨rfl, rfl, ?_⟩
      unfold joinF
      (repeat rw [if_neg (by omega)]) <;> first | rfl | (rw [if_pos (by omega)])
    refine zcases_cons (fun c1 t ht => ?_) ?_
    · obtain rfl : t = 60 := by omega
      refine Z_lload_n (n := 61) dX4_joined_60 rfl rfl ?_
      refine Z_lload_n (n := 62) dX4_joined_61 rfl rfl ?_
      refine Z_land (n := 63) dX4_joined_62 rfl ?_
      refine Z_lret dX4_joined_63 rfl ?_
      refine ⟨rfl, rfl, ?_⟩
      unfold joinF
      (repeat rw [if_neg (by omega)]) <;> first | rfl | (rw [if_pos (by omega)])
    refine zcases_cons (fun c1 t ht => ?_) ?_
    · obtain rfl : t = 64 := by omega
      refine Z_lload_n (n := 65) dX4_joined_64 rfl rfl ?_
      refine Z_lload_n (n := 66) dX4_joined_65 rfl rfl ?_
      refine Z_lor (n := 67) dX4_joined_66 rfl ?_
      refine Z_lret dX4_joined_67 rfl ?_
      refine ⟨rfl, rfl, ?_⟩
      unfold joinF
      (repeat rw [if_neg (by omega)]) <;> first | rfl | (rw [if_pos (by omega)])
    refine zcases_cons (fun c1 t ht => ?_) ?_
    · obtain rfl : t = 68 := by omega
      refine Z_lload_n (n := 69) dX4_joined_68 rfl rfl ?_
      refine Z_lload_n (n := 70) dX4_joined_69 rfl rfl ?_
      refine Z_lxor (n := 71) dX4_joined_70 rfl ?_
      refine Z_lret dX4_joined_71 rfl ?_
      refine ⟨rfl, rfl, ?_⟩
      unfold joinF
      (repeat rw [if_neg (by omega)]) <;> first | rfl | (rw [if_pos (by omega)])
    refine zcases_cons (fun c1 t ht => ?_) ?_
    · obtain rfl : t = 72 := by omega
      refine Z_lload_n (n := 73) dX4_joined_72 rfl rfl ?_
      refine Z_lload_n (n := 74) dX4_joined_73 rfl rfl ?_
      refine Z_land (n := 75) dX4_joined_74 rfl ?_
      refine Z_ldc2 (n := 78) dX4_joined_75 rfl clX4_188 ?_
      refine Z_lxor (n := 79) dX4_joined_78 rfl ?_
      refine Z_lret dX4_joined_79 rfl ?_
      refine ⟨rfl, rfl, ?_⟩
      unfold joinF
      (repeat rw [if_neg (by omega)]) <;> first | rfl | (rw [if_pos (by omega)])
    refine zcases_cons (fun c1 t ht => ?_) ?_
    · obtain rfl : t = 80 := by omega
      refine Z_lload_n (n := 81) dX4_joined_80 rfl rfl ?_
      refine Z_lload_n (n := 82) dX4_joined_81 rfl rfl ?_
      refine Z_lor (n := 83) dX4_joined_82 rfl ?_
      refine Z_ldc2 (n := 86) dX4_joined_83 rfl clX4_188 ?_
      refine Z_lxor (n := 87) dX4_joined_86 rfl ?_
      refine Z_lret dX4_joined_87 rfl ?_
      refine ⟨rfl, rfl, ?_⟩
      unfold joinF
      (repeat rw [if_neg (by omega)]) <;> first | rfl | (rw [if_pos (by omega)])
    exact zcases_nil
  · refine Z_lload_n (n := 89) dX4_joined_88 rfl rfl ?_
    refine Z_lload_n (n := 90) dX4_joined_89 rfl rfl ?_
    refine Z_lxor (n := 91) dX4_joined_90 rfl ?_
    refine Z_ldc2 (n := 94) dX4_joined_91 rfl clX4_188 ?_
    refine Z_lxor (n := 95) dX4_joined_94 rfl ?_
    refine Z_lret dX4_joined_95 rfl ?_
    refine ⟨rfl, rfl, ?_⟩
    unfold joinF
    (repeat rw [if_neg (by omega)]) <;> first | rfl | (rw [if_pos (by omega)])
set_option maxRecDepth 20000 in
theorem zX4_makeVariable {G : tl_G} {M : zM} {J : zJ} {f v : Int} (f0 : 0 ≤ f) (f1 : f < 56) (v0 : 0 ≤ v) (v1 : v < 8) : ZN G yX4_makeVariable mX4_makeVariable 0 kBits [vR 31, vI f, vI v] F1 M J (qV (fun M' J' => M' = M ∧ (∀ k : Int, 0 ≤ k → k < 4 → J' 44 (4 * f + k) = vbF (J 54) (M 39 v) k) ∧ ∀ j : Int, (j < 4 * f ∨ 4 * f + 4 ≤ j) → J' 44 j = J 44 j)) := by
  refine ZN_of (L := [_, _, _, _, _]) (by decide) rfl rfl (Nat.le_of_ble_eq_true rfl) rfl (fun hav => ?_)
  refine Z_aload_n (n := 1) dX4_makeVariable_0 rfl rfl ?_
  refine Z_getA (n := 4) dX4_makeVariable_1 rfl ffX4_32 rfl rfl ?_
  refine Z_iload_n (n := 5) dX4_makeVariable_4 rfl rfl ?_
  refine Z_iald (n := 6) dX4_makeVariable_5 rfl rfl rfl (by first | decide | assumption) (by omega) (by omega) (fun r5 s5 => ?_)
  refine Z_istore_n (L' := [_, _, _, _, _]) (n := 7) dX4_makeVariable_6 rfl (by decide) rfl rfl ?_
  refine Z_iconst (n := 8) dX4_makeVariable_7 rfl (by decide) ?_
  refine Z_istore (L' := [_, _, _, _, _]) (n := 10) dX4_makeVariable_8 rfl (by decide) rfl rfl ?_
  have lp10 : ∀ (N10 : Nat) (k : Int) (M10 : zM) (J10 : zJ), ((4 - k).toNat) < N10 → (M10 = M) → (0 ≤ k) → (k ≤ 4) → (∀ j : Int, 0 ≤ j → j < k → J10 44 (4 * f + j) = vbF (J 54) (M 39 v) j) → (∀ j : Int, (j < 4 * f ∨ 4 * f + 4 ≤ j) → J10 44 j = J 44 j) → TZ G mX4_makeVariable (tl_rm 0 0 0) 0 0 kBits M J 10 [some (vR 31), some (vI f), some (vI v), some (vI (M 39 v)), some (vI k)] [] F1 M10 J10 (ZM G (zPost G kBits F1 M J (qV (fun M' J' => M' = M ∧ (∀ k : Int, 0 ≤ k → k < 4 → J' 44 (4 * f + k) = vbF (J 54) (M 39 v) k) ∧ ∀ j : Int, (j < 4 * f ∨ 4 * f + 4 ≤ j) → J' 44 j = J 44 j))) 0 0) := by
    intro N10
    induction N10 with
    | zero => intro k M10 J10 hN; omega
    | succ N10 ih10 =>
      intro k M10 J10 hN10 i10_0 i10_1 i10_2 i10_3 i10_4
      refine Z_iload (n := 12) dX4_makeVariable_10 rfl rfl ?_
      refine Z_iconst (n := 13) dX4_makeVariable_12 rfl (by decide) ?_
      refine Z_icmp_ge (n := 16) (t := 75) dX4_makeVariable_13 rfl (by decide) (fun c13 => ?_) (fun c13 => ?_)
      · refine Z_vret dX4_makeVariable_75 rfl ?_
        exact ⟨i10_0, fun j j0 j1 => i10_3 j j0 (by omega), i10_4⟩
      · refine Z_fr (fun fr10 => ?_)
        refine Z_aload_n (n := 17) dX4_makeVariable_16 rfl rfl ?_
        refine Z_getA (n := 20) dX4_makeVariable_17 rfl ffX4_47 rfl rfl ?_
        refine Z_iconst (n := 21) dX4_makeVariable_20 rfl (by decide) ?_
        refine Z_iload_n (n := 22) dX4_makeVariable_21 rfl rfl ?_
        refine Z_imul (n := 23) dX4_makeVariable_22 rfl (by omega) ?_
        refine Z_iload (n := 25) dX4_makeVariable_23 rfl rfl ?_
        refine Z_iadd (n := 26) dX4_makeVariable_25 rfl (by omega) ?_
        refine Z_iload_n (n := 27) dX4_makeVariable_26 rfl rfl ?_
        refine Z_iconst (n := 28) dX4_makeVariable_27 rfl (by decide) ?_
        refine Z_icmp_le (n := 31) (t := 40) dX4_makeVariable_28 rfl (by decide) (fun c28 => ?_) (fun c28 => ?_)
        · refine Z_iload_n (n := 41) dX4_makeVariable_40 rfl rfl ?_
          refine Z_if_ne (n := 44) (t := 53) dX4_makeVariable_41 rfl (by decide) (fun c41 => ?_) (fun c41 => ?_)
          · refine Z_iload (n := 55) dX4_makeVariable_53 rfl rfl ?_
            refine Z_iconst (n := 56) dX4_makeVariable_55 rfl (by decide) ?_
            refine Z_irem (n := 57) dX4_makeVariable_56 rfl (by decide) (by decide) ?_
            refine Z_iconst (n := 58) dX4_makeVariable_57 rfl (by decide) ?_
            refine Z_icmp_ne (n := 61) (t := 67) dX4_makeVariable_58 rfl (by decide) (fun c58 => ?_) (fun c58 => ?_)
            · refine Z_lconst (v := 0) (n := 68) dX4_makeVariable_67 rfl (by decide) ?_
              refine Z_last (n := 69) dX4_makeVariable_68 rfl rfl (by decide) (by omega) (by omega) (by decide) ?_
              refine Z_iinc (L' := [_, _, _, _, _]) (n := 72) dX4_makeVariable_69 rfl rfl (by decide) rfl rfl (by omega) rfl ?_
              refine Z_goto (t := 10) dX4_makeVariable_72 (by decide) ?_
              refine Z_loc (L' := [some _, some _, some _, some _, some _]) (lsub_same (lsub_same (lsub_same (lsub_same (lsub_same lsub_nil))))) ?_
              exact ih10 _ _ _ (by omega) (by first | rfl | assumption) (by first | assumption | omega | decide) (by first | assumption | omega | decide) (by first | exact fun j j0 j1 => by omega | exact st_step (by unfold vbF; first | (rw [if_pos (by omega)]; exact congrFun (fr10 54 (by decide)).2 _) | (rw [if_neg (by omega), if_pos (by omega)]) | (rw [if_neg (by omega), if_neg (by omega)])) i10_3) (by first | exact fun j _ => rfl | exact fun j hj => by rw [uz_n (by omega)]; exact i10_4 j hj)
            · refine Z_ldc2 (n := 64) dX4_makeVariable_61 rfl clX4_188 ?_
              refine Z_goto (t := 68) dX4_makeVariable_64 (by decide) ?_
              refine Z_last (n := 69) dX4_makeVariable_68 rfl rfl (by decide) (by omega) (by omega) (by decide) ?_
              refine Z_iinc (L' := [_, _, _, _, _]) (n := 72) dX4_makeVariable_69 rfl rfl (by decide) rfl rfl (by omega) rfl ?_
              refine Z_goto (t := 10) dX4_makeVariable_72 (by decide) ?_
              refine Z_loc (L' := [some _, some _, some _, some _, some _]) (lsub_same (lsub_same (lsub_same (lsub_same (lsub_same lsub_nil))))) ?_
              exact ih10 _ _ _ (by omega) (by first | rfl | assumption) (by first | assumption | omega | decide) (by first | assumption | omega | decide) (by first | exact fun j j0 j1 => by omega | exact st_step (by unfold vbF; first | (rw [if_pos (by omega)]; exact congrFun (fr10 54 (by decide)).2 _) | (rw [if_neg (by omega), if_pos (by omega)]) | (rw [if_neg (by omega), if_neg (by omega)])) i10_3) (by first | exact fun j _ => rfl | exact fun j hj => by rw [uz_n (by omega)]; exact i10_4 j hj)
          · refine Z_iload (n := 46) dX4_makeVariable_44 rfl rfl ?_
            refine Z_iconst (n := 47) dX4_makeVariable_46 rfl (by decide) ?_
            refine Z_icmp_le (n := 50) (t := 67) dX4_makeVariable_47 rfl (by decide) (fun c47 => ?_) (fun c47 => ?_)
            · refine Z_lconst (v := 0) (n := 68) dX4_makeVariable_67 rfl (by decide) ?_
              refine Z_last (n := 69) dX4_makeVariable_68 rfl rfl (by decide) (by omega) (by omega) (by decide) ?_
              refine Z_iinc (L' := [_, _, _, _, _]) (n := 72) dX4_makeVariable_69 rfl rfl (by decide) rfl rfl (by omega) rfl ?_
              refine Z_goto (t := 10) dX4_makeVariable_72 (by decide) ?_
              refine Z_loc (L' := [some _, some _, some _, some _, some _]) (lsub_same (lsub_same (lsub_same (lsub_same (lsub_same lsub_nil))))) ?_
              exact ih10 _ _ _ (by omega) (by first | rfl | assumption) (by first | assumption | omega | decide) (by first | assumption | omega | decide) (by first | exact fun j j0 j1 => by omega | exact st_step (by unfold vbF; first | (rw [if_pos (by omega)]; exact congrFun (fr10 54 (by decide)).2 _) | (rw [if_neg (by omega), if_pos (by omega)]) | (rw [if_neg (by omega), if_neg (by omega)])) i10_3) (by first | exact fun j _ => rfl | exact fun j hj => by rw [uz_n (by omega)]; exact i10_4 j hj)
            · refine Z_goto (t := 61) dX4_makeVariable_50 (by decide) ?_
              refine Z_ldc2 (n := 64) dX4_makeVariable_61 rfl clX4_188 ?_
              refine Z_goto (t := 68) dX4_makeVariable_64 (by decide) ?_
              refine Z_last (n := 69) dX4_makeVariable_68 rfl rfl (by decide) (by omega) (by omega) (by decide) ?_
              refine Z_iinc (L' := [_, _, _, _, _]) (n := 72) dX4_makeVariable_69 rfl rfl (by decide) rfl rfl (by omega) rfl ?_
              refine Z_goto (t := 10) dX4_makeVariable_72 (by decide) ?_
              refine Z_loc (L' := [some _, some _, some _, some _, some _]) (lsub_same (lsub_same (lsub_same (lsub_same (lsub_same lsub_nil))))) ?_
              exact ih10 _ _ _ (by omega) (by first | rfl | assumption) (by first | assumption | omega | decide) (by first | assumption | omega | decide) (by first | exact fun j j0 j1 => by omega | exact st_step (by unfold vbF; first | (rw [if_pos (by omega)]; exact congrFun (fr10 54 (by decide)).2 _) | (rw [if_neg (by omega), if_pos (by omega)]) | (rw [if_neg (by omega), if_neg (by omega)])) i10_3) (by first | exact fun j _ => rfl | exact fun j hj => by rw [uz_n (by omega)]; exact i10_4 j hj)
        · refine Z_aload_n (n := 32) dX4_makeVariable_31 rfl rfl ?_
          refine Z_getA (n := 35) dX4_makeVariable_32 rfl ffX4_90 rfl rfl ?_
          refine Z_iload_n (n := 36) dX4_makeVariable_35 rfl rfl ?_
          refine Z_lald (n := 37) dX4_makeVariable_36 rfl rfl (by decide) (by omega) (by omega) ?_
          refine Z_goto (t := 68) dX4_makeVariable_37 (by decide) ?_
          refine Z_last (n := 69) dX4_makeVariable_68 rfl rfl (by decide) (by omega) (by omega) (by decide) ?_
          refine Z_iinc (L' := [_, _, _, _, _]) (n := 72) dX4_makeVariable_69 rfl rfl (by decide) rfl rfl (by omega) rfl ?_
          refine Z_goto (t := 10) dX4_makeVariable_72 (by decide) ?_
          refine Z_loc (L' := [some _, some _, some _, some _, some _]) (lsub_same (lsub_same (lsub_same (lsub_same (lsub_same lsub_nil))))) ?_
          exact ih10 _ _ _ (by omega) (by first | rfl | assumption) (by first | assumption | omega | decide) (by first | assumption | omega | decide) (by first | exact fun j j0 j1 => by omega | exact st_step (by unfold vbF; first | (rw [if_pos (by omega)]; exact congrFun (fr10 54 (by decide)).2 _) | (rw [if_neg (by omega), if_pos (by omega)]) | (rw [if_neg (by omega), if_neg (by omega)])) i10_3) (by first | exact fun j _ => rfl | exact fun j hj => by rw [uz_n (by omega)]; exact i10_4 j hj)
  refine Z_loc (L' := [some _, some _, some _, some _, some _]) (lsub_same (lsub_same (lsub_same (lsub_same (lsub_same lsub_nil))))) ?_
  exact lp10 _ _ _ _ (Nat.lt_succ_self _) (by first | rfl | assumption) (by first | assumption | omega | decide) (by first | assumption | omega | decide) (by first | exact fun j j0 j1 => by omega | exact st_step (by unfold vbF; first | (rw [if_pos (by omega)]; exact congrFun (fr10 54 (by decide)).2 _) | (rw [if_neg (by omega), if_pos (by omega)]) | (rw [if_neg (by omega), if_neg (by omega)])) i10_3) (by first | exact fun j _ => rfl | exact fun j hj => by rw [uz_n (by omega)]; exact i10_4 j hj)
set_option maxRecDepth 20000 in
theorem zX4_makeOf {G : tl_G} {M : zM} {J : zJ} {t k f g : Int} (t0 : 0 ≤ t) (t1 : t < 56) (f0 : 0 ≤ f) (f1 : f < 56) (g0 : 0 ≤ g) (g1 : g < 56) : ZN G yX4_makeOf mX4_makeOf 1 kBits [vR 31, vI t, vI k, vI f, vI g] F1 M J (qV (fun M' J' => M' = M ∧ ∃ B : Int → Int64, (∀ j : Int, 0 ≤ j → j < 4 → J' 44 (4 * t + j) = B j ∧ (k = 1 → B j = 0) ∧ (k = 2 → B j = -1)) ∧ ∀ j : Int, (j < 4 * t ∨ 4 * t + 4 ≤ j) → J' 44 j = J 44 j)) := by
  refine ZN_of (L := [_, _, _, _, _, _]) (by decide) rfl rfl (Nat.le_of_ble_eq_true rfl) rfl (fun hav => ?_)
  refine Z_iconst (n := 1) dX4_makeOf_0 rfl (by decide) ?_
  refine Z_istore (L' := [_, _, _, _, _, _]) (n := 3) dX4_makeOf_1 rfl (by decide) rfl rfl ?_
  have lp3 : ∀ (N3 : Nat) (q : Int) (M3 : zM) (J3 : zJ), ((4 - q).toNat) < N3 → (M3 = M) → (0 ≤ q) → (q ≤ 4) → (∀ j : Int, 0 ≤ j → j < q → (k = 1 → J3 44 (4 * t + j) = 0) ∧ (k = 2 → J3 44 (4 * t + j) = -1)) → (∀ j : Int, (j < 4 * t ∨ 4 * t + 4 ≤ j) → J3 44 j = J 44 j) → TZ G mX4_makeOf (tl_rm 1 0 0) 0 0 kBits M J 3 [some (vR 31), some (vI t), some (vI k), some (vI f), some (vI g), some (vI q)] [] F1 M3 J3 (ZM G (zPost G kBits F1 M J (qV (fun M' J' => M' = M ∧ ∃ B : Int → Int64, (∀ j : Int, 0 ≤ j → j < 4 → J' 44 (4 * t + j) = B j ∧ (k = 1 → B j = 0) ∧ (k = 2 → B j = -1)) ∧ ∀ j : Int, (j < 4 * t ∨ 4 * t + 4 ≤ j) → J' 44 j = J 44 j))) 0 0) := by
    intro N3
    induction N3 with
    | zero => intro q M3 J3 hN; omega
    | succ N3 ih3 =>
      intro q M3 J3 hN3 i3_0 i3_1 i3_2 i3_3 i3_4
      refine Z_iload (n := 5) dX4_makeOf_3 rfl rfl ?_
      refine Z_iconst (n := 6) dX4_makeOf_5 rfl (by decide) ?_
      refine Z_icmp_ge (n := 9) (t := 53) dX4_makeOf_6 rfl (by decide) (fun c6 => ?_) (fun c6 => ?_)
      · refine Z_vret dX4_makeOf_53 rfl ?_
        exact ⟨i3_0, fun j => J3 44 (4 * t + j), fun j j0 j1 => ⟨rfl, i3_3 j j0 (by omega)⟩, i3_4⟩
      · refine Z_aload_n (n := 10) dX4_makeOf_9 rfl rfl ?_
        refine Z_getA (n := 13) dX4_makeOf_10 rfl ffX4_47 rfl rfl ?_
        refine Z_iconst (n := 14) dX4_makeOf_13 rfl (by decide) ?_
        refine Z_iload_n (n := 15) dX4_makeOf_14 rfl rfl ?_
        refine Z_imul (n := 16) dX4_makeOf_15 rfl (by omega) ?_
        refine Z_iload (n := 18) dX4_makeOf_16 rfl rfl ?_
        refine Z_iadd (n := 19) dX4_makeOf_18 rfl (by omega) ?_
        refine Z_iload_n (n := 20) dX4_makeOf_19 rfl rfl ?_
        refine Z_aload_n (n := 21) dX4_makeOf_20 rfl rfl ?_
        refine Z_getA (n := 24) dX4_makeOf_21 rfl ffX4_47 rfl rfl ?_
        refine Z_iconst (n := 25) dX4_makeOf_24 rfl (by decide) ?_
        refine Z_iload_n (n := 26) dX4_makeOf_25 rfl rfl ?_
        refine Z_imul (n := 27) dX4_makeOf_26 rfl (by omega) ?_
        refine Z_iload (n := 29) dX4_makeOf_27 rfl rfl ?_
        refine Z_iadd (n := 30) dX4_makeOf_29 rfl (by omega) ?_
        refine Z_lald (n := 31) dX4_makeOf_30 rfl rfl (by decide) (by omega) (by omega) ?_
        refine Z_aload_n (n := 32) dX4_makeOf_31 rfl rfl ?_
        refine Z_getA (n := 35) dX4_makeOf_32 rfl ffX4_47 rfl rfl ?_
        refine Z_iconst (n := 36) dX4_makeOf_35 rfl (by decide) ?_
        refine Z_iload (n := 38) dX4_makeOf_36 rfl rfl ?_
        refine Z_imul (n := 39) dX4_makeOf_38 rfl (by omega) ?_
        refine Z_iload (n := 41) dX4_makeOf_39 rfl rfl ?_
        refine Z_iadd (n := 42) dX4_makeOf_41 rfl (by omega) ?_
        refine Z_lald (n := 43) dX4_makeOf_42 rfl rfl (by decide) (by omega) (by omega) ?_
        refine Z_callSl (n := 46) [_, _, _] _ dX4_makeOf_43 rfl cwX4_190 rfl rfl (Nat.le_of_ble_eq_true rfl) (by refine ⟨?_, ?_, ?_, ?_⟩ <;> exact Nat.le_of_ble_eq_true rfl) (fun _ _ => trivial) (zX4_joined  ) ?_
        intro x43 M43 J43 f43 q43
        obtain ⟨e43_1, e43_2, h43⟩ := q43
        replace e43_1 := e43_1.symm; subst e43_1
        replace e43_2 := e43_2.symm; subst e43_2
        refine Z_last (n := 47) dX4_makeOf_46 rfl rfl (by decide) (by omega) (by omega) (by decide) ?_
        have nx3 : ∀ j : Int, 0 ≤ j → j < q + 1 → (k = 1 → uz J3 44 (4 * t + q) x43 44 (4 * t + j) = 0) ∧ (k = 2 → uz J3 44 (4 * t + q) x43 44 (4 * t + j) = -1) := fun j j0 j1 => by
          rw [uz_a]
          split
          · exact ⟨fun e => by subst e; rw [h43]; rfl, fun e => by subst e; rw [h43]; rfl⟩
          · exact i3_3 j j0 (by omega)
        refine Z_iinc (L' := [_, _, _, _, _, _]) (n := 50) dX4_makeOf_47 rfl rfl (by decide) rfl rfl (by omega) rfl ?_
        refine Z_goto (t := 3) dX4_makeOf_50 (by decide) ?_
        refine Z_loc (L' := [some _, some _, some _, some _, some _, some _]) (lsub_same (lsub_same (lsub_same (lsub_same (lsub_same (lsub_same lsub_nil)))))) ?_
        exact ih3 _ _ _ (by omega) (by first | rfl | assumption) (by first | assumption | omega | decide) (by first | assumption | omega | decide) (by first | exact fun j j0 j1 => by omega | exact nx3) (by first | exact fun j _ => rfl | exact fun j hj => by rw [uz_n (by omega)]; exact i3_4 j hj)
  refine Z_loc (L' := [some _, some _, some _, some _, some _, some _]) (lsub_same (lsub_same (lsub_same (lsub_same (lsub_same (lsub_same lsub_nil)))))) ?_
  exact lp3 _ _ _ _ (Nat.lt_succ_self _) (by first | rfl | assumption) (by first | assumption | omega | decide) (by first | assumption | omega | decide) (by first | exact fun j j0 j1 => by omega | exact nx3) (by first | exact fun j _ => rfl | exact fun j hj => by rw [uz_n (by omega)]; exact i3_4 j hj)
