section
/-! ===== readers: what is read of a function ===== -/
theorem pw2_cs {k : Nat} (hk : k ≤ 7) : pw2 k = 1 ∨ pw2 k = 2 ∨ pw2 k = 4 ∨ pw2 k = 8 ∨ pw2 k = 16 ∨ pw2 k = 32 ∨ pw2 k = 64 ∨ pw2 k = 128 := by
  rcases (show k = 0 ∨ k = 1 ∨ k = 2 ∨ k = 3 ∨ k = 4 ∨ k = 5 ∨ k = 6 ∨ k = 7 by omega) with e | e | e | e | e | e | e | e <;> rw [e] <;> decide
/-! counts over places -/
/-! the reference's nodes of a function -/
end
section
/-! ===== readers on both sides ===== -/
section RDS
variable {M M1 : zM} {J : zJ} {x y : Int}
theorem ls_k (h : LSy M J) (fr : ∀ a : Nat, 31 ≤ a → M1 a = M a) (f : Int) : f < 0 ∨ 12 ≤ f ∨ (M 12 f = -1 ∧ M1 43 f = 0) ∨ (¬ M 12 f = -1 ∧ ¬ M1 43 f = 0) := hs_k h.2.2.2.2.2 (fr 43 (by decide)) f
theorem ls_d (h : LSy M J) {f : Int} (f0 : 0 ≤ f) (f1 : f < 12) (q : ¬ M 12 f = -1) : den M (M 12 f) = phi J f := (h.2.2.2.2.2 f f0 f1).2.resolve_left q
theorem ls_n (h : LSy M J) {f : Int} (f0 : 0 ≤ f) (f1 : f < 12) (q : ¬ M 12 f = -1) : ∃ S : Int → Prop, pst M S ∧ ∀ g : Int, 0 ≤ g → g < 12 → ¬ M 12 g = -1 → okN S (M 12 g) := by
  obtain ⟨⟨S, hS, hR⟩, -⟩ := h.2.1
  exact ⟨S, hS.1, fun g g0 g1 n => (hR _ (Or.inl ⟨g, ⟨g0, g1⟩, rfl⟩)).resolve_left n⟩
end RDS
end
section
/-! ===== ways to an end ===== -/
def pt (M : zM) (y : Int) : Nat → Int → Int
  | 0, n => if n = y then 1 else 0
  | k + 1, n => if n < 2 then (if n = y then 1 else 0) else pt M y k (M 7 n) + pt M y k (M 8 n)
theorem pt_01 {n y : Int} : 0 ≤ (if n = y then (1 : Int) else 0) ∧ (if n = y then (1 : Int) else 0) ≤ 1 := by
  split
  · decide
  · decide
theorem pt_in {M : zM} {y : Int} : ∀ (k : Nat) (n : Int), 0 ≤ pt M y k n ∧ pt M y k n ≤ pw2 k
  | 0, n => pt_01
  | k + 1, n => by
    have h1 := pt_in (M := M) (y := y) k (M 7 n)
    have h2 := pt_in (M := M) (y := y) k (M 8 n)
    have h3 := pt_01 (n := n) (y := y)
    have h4 := pw2_pos k
    have h5 : pw2 (k + 1) = 2 * pw2 k := rfl
    show 0 ≤ (if n < 2 then (if n = y then (1 : Int) else 0) else pt M y k (M 7 n) + pt M y k (M 8 n)) ∧ (if n < 2 then (if n = y then (1 : Int) else 0) else pt M y k (M 7 n) + pt M y k (M 8 n)) ≤ pw2 (k + 1)
    by_cases q : n < 2
    · rw [if_pos q, h5]; omega
    · rw [if_neg q, h5]; omega
theorem pt_t {M : zM} {y n : Int} (h : n < 2) : ∀ k : Nat, pt M y k n = if n = y then 1 else 0
  | 0 => rfl
  | k + 1 => if_pos h
def wy (B : Int → Int64) (y : Int) : Nat → Int → Int
  | 0, i => if btF B i = y then 1 else 0
  | k + 1, i => if lyR B (7 - (k : Int)) i = true then wy B y k (2 * i) + wy B y k (2 * i + 1) else wy B y k (2 * i)
theorem wy_in {B : Int → Int64} {y : Int} : ∀ (k : Nat) (i : Int), 0 ≤ wy B y k i ∧ wy B y k i ≤ pw2 k
  | 0, i => pt_01
  | k + 1, i => by
    have h1 := wy_in (B := B) (y := y) k (2 * i)
    have h2 := wy_in (B := B) (y := y) k (2 * i + 1)
    have h4 := pw2_pos k
    have h5 : pw2 (k + 1) = 2 * pw2 k := rfl
    show 0 ≤ (if lyR B (7 - (k : Int)) i = true then wy B y k (2 * i) + wy B y k (2 * i + 1) else wy B y k (2 * i)) ∧ (if lyR B (7 - (k : Int)) i = true then wy B y k (2 * i) + wy B y k (2 * i + 1) else wy B y k (2 * i)) ≤ pw2 (k + 1)
    by_cases q : lyR B (7 - (k : Int)) i = true
    · rw [if_pos q, h5]; omega
    · rw [if_neg q, h5]; omega
theorem pt_wy {M : zM} {S : Int → Prop} {B : Int → Int64} {y : Int} (hp : pst M S) : ∀ (k : Nat) (c i : Int) (j : Nat), okN S c → k ≤ 8 → 8 - (k : Int) ≤ M 6 c → 0 ≤ i → i < pw2 (8 - k) → (∀ r : Int → Int, btF B (i * pw2 k + pd r k) = den M c r) → 8 - M 6 c ≤ j → pt M y j c = wy B y k i := by
  intro k
  induction k with
  | zero =>
    intro c i j hc _ h8 i0 i1 hB hj
    have t := pst_t hp hc (by omega)
    have z := hB (fun _ => 0)
    have e : i * pw2 0 + pd (fun _ => 0) 0 = i := by show i * 1 + 0 = i; omega
    rw [e, den_lt (show c < 2 by omega)] at z
    rw [pt_t (show c < 2 by omega)]
    show _ = if btF B i = y then 1 else 0
    rcases t with w | w
    · rw [z, w]; rfl
    · rw [z, w]; rfl
  | succ k ih =>
    intro c i j hc hk h8 i0 i1 hB hj
    have h5 : pw2 (k + 1) = 2 * pw2 k := rfl
    have h7 : pw2 (8 - k) = 2 * pw2 (8 - (k + 1)) := by rw [show 8 - k = (8 - (k + 1)) + 1 by omega]; rfl
    have ed : ((7 - (k : Int)).toNat) = 8 - (k + 1) := by omega
    have ly := lyR_ly (B := B) (d := 7 - (k : Int)) (i := i) (k := k) (by omega) (by omega) i0 (by rw [ed]; exact i1)
    have up : ∀ (r : Int → Int) (v : Int), i * pw2 (k + 1) + pd (updI r (7 - (k : Int)) v) (k + 1) = i * pw2 (k + 1) + bz v * pw2 k + pd r k := fun r v => by rw [pd_up]; omega
    have e2 : i * pw2 (k + 1) = 2 * i * pw2 k := by rw [h5, Int.mul_comm 2 i, Int.mul_assoc]
    have e3 : (2 * i + 1) * pw2 k = 2 * i * pw2 k + pw2 k := by rw [Int.add_mul, Int.one_mul]
    have lo : ∀ r : Int → Int, btF B (2 * i * pw2 k + pd r k) = den M c (updI r (7 - (k : Int)) 0) := fun r => by
      rw [← hB, up r 0, bz_0, e2]
      congr 1
      omega
    have hi : ∀ r : Int → Int, btF B ((2 * i + 1) * pw2 k + pd r k) = den M c (updI r (7 - (k : Int)) 1) := fun r => by
      rw [← hB, up r 1, bz_1, e2, e3]
      congr 1
      omega
    show _ = if lyR B (7 - (k : Int)) i = true then wy B y k (2 * i) + wy B y k (2 * i + 1) else wy B y k (2 * i)
    by_cases q : M 6 c = 7 - (k : Int)
    · have sc : S c := by
        rcases hc with w | w | w
        · rw [w, hp.1.1] at q; omega
        · rw [w, hp.1.2] at q; omega
        · exact w
      obtain ⟨rg, pl, ne, ⟨l1, l2⟩, ⟨u1, u2⟩⟩ := hp.2.1 c sc
      have hne : ¬ ∀ r : Int → Int, den M (M 7 c) r = den M (M 8 c) r := fun t => ne (den_inj hp l1 u1 (funext t))
      have lt : lyR B (7 - (k : Int)) i = true := by
        by_cases t : lyR B (7 - (k : Int)) i = true
        · exact t
        · exfalso
          refine hne (fun r => ?_)
          by_cases w : den M (M 7 c) r = den M (M 8 c) r
          · exact w
          · refine absurd (ly.mpr ⟨pd r k, pd_in r k, fun v => w ?_⟩) t
            have a1 := lo r
            have a2 := hi r
            rw [← q, den_low hp sc] at a1
            rw [← q, den_high hp sc (by decide)] at a2
            rw [← a1, ← a2, e3, ← e2, v]
            congr 1
            omega
      rw [if_pos lt]
      cases j with
      | zero => exfalso; omega
      | succ j =>
        show (if c < 2 then (if c = y then (1 : Int) else 0) else pt M y j (M 7 c) + pt M y j (M 8 c)) = _
        rw [if_neg (show ¬ c < 2 by omega), ih (M 7 c) (2 * i) j l1 (by omega) (by omega) (by omega) (by omega) (fun r => by rw [lo r, ← q]; exact den_low hp sc r) (by omega), ih (M 8 c) (2 * i + 1) j u1 (by omega) (by omega) (by omega) (by omega) (fun r => by rw [hi r, ← q]; exact den_high hp sc (by decide) r) (by omega)]
    · have gt : 7 - (k : Int) < M 6 c := by omega
      have lf : ¬ lyR B (7 - (k : Int)) i = true := fun t => by
        obtain ⟨p, pb, w⟩ := ly.mp t
        obtain ⟨r, er⟩ := pd_onto k p pb.1 pb.2
        have a1 := lo r
        have a2 := hi r
        rw [den_ig hp hc gt, er] at a1
        rw [den_ig hp hc gt, er, e3] at a2
        refine w ?_
        rw [e2, a1, ← a2]
        congr 1
        omega
      rw [if_neg lf]
      exact ih c (2 * i) j hc (by omega) (by omega) (by omega) (by omega) (fun r => by rw [lo r]; exact den_ig hp hc gt r) hj
end
section
/-! ===== paths: both sides ===== -/
set_option maxRecDepth 20000 in
theorem zX2_pathsFrom_f {G : tl_G} {M : zM} {J : zJ} (k : Nat) {n s e : Int} (h0 : 0 ≤ n) (h1 : n ≤ 251) (h6 : 0 ≤ e) (h7 : e + k = 8) : ZN G yX2_pathsFrom mX2_pathsFrom (k) kAll [vR 5, vI n, vI s, vI e] F1 M J (qI (fun x M' J' => M' = M ∧ J' = J ∧ x = pt M s k n)) := by
  induction k generalizing M J n s e with
  | zero =>
    refine ZN_of (L := [_, _, _, _]) (by decide) rfl rfl (Nat.le_of_ble_eq_true rfl) rfl (fun hav => ?_)
    refine Z_iload_n (n := 1) dX2_pathsFrom_0 rfl rfl ?_
    refine Z_iconst (n := 2) dX2_pathsFrom_1 rfl (by decide) ?_
    refine Z_icmp_lt (n := 5) (t := 11) dX2_pathsFrom_2 rfl (by decide) (fun c2 => ?_) (fun c2 => ?_)
    · refine Z_iload_n (n := 12) dX2_pathsFrom_11 rfl rfl ?_
      refine Z_iload_n (n := 13) dX2_pathsFrom_12 rfl rfl ?_
      refine Z_icmp_ne (n := 16) (t := 20) dX2_pathsFrom_13 rfl (by decide) (fun c13 => ?_) (fun c13 => ?_)
      · refine Z_iconst (n := 21) dX2_pathsFrom_20 rfl (by decide) ?_
        refine Z_iret dX2_pathsFrom_21 rfl ?_
        refine ⟨rfl, rfl, ?_⟩
        first
          | (exfalso; omega)
          | exact (if_pos c13).symm
          | exact (if_neg c13).symm
          | (rw [pt_t (show n < 2 by omega)]; exact (if_pos c13).symm)
          | (rw [pt_t (show n < 2 by omega)]; exact (if_neg c13).symm)
      · refine Z_iconst (n := 17) dX2_pathsFrom_16 rfl (by decide) ?_
        refine Z_goto (t := 21) dX2_pathsFrom_17 (by decide) ?_
        refine Z_iret dX2_pathsFrom_21 rfl ?_
        refine ⟨rfl, rfl, ?_⟩
        first
          | (exfalso; omega)
          | exact (if_pos c13).symm
          | exact (if_neg c13).symm
          | (rw [pt_t (show n < 2 by omega)]; exact (if_pos c13).symm)
          | (rw [pt_t (show n < 2 by omega)]; exact (if_neg c13).symm)
    · refine Z_iload_n (n := 6) dX2_pathsFrom_5 rfl rfl ?_
      refine Z_bipush (n := 8) dX2_pathsFrom_6 rfl (by decide) (by decide) ?_
      refine Z_icmp_lt (n := 11) (t := 22) dX2_pathsFrom_8 rfl (by decide) (fun c8 => ?_) (fun c8 => ?_)
      · omega
      · refine Z_iload_n (n := 12) dX2_pathsFrom_11 rfl rfl ?_
        refine Z_iload_n (n := 13) dX2_pathsFrom_12 rfl rfl ?_
        refine Z_icmp_ne (n := 16) (t := 20) dX2_pathsFrom_13 rfl (by decide) (fun c13 => ?_) (fun c13 => ?_)
        · refine Z_iconst (n := 21) dX2_pathsFrom_20 rfl (by decide) ?_
          refine Z_iret dX2_pathsFrom_21 rfl ?_
          refine ⟨rfl, rfl, ?_⟩
          first
            | (exfalso; omega)
            | exact (if_pos c13).symm
            | exact (if_neg c13).symm
            | (rw [pt_t (show n < 2 by omega)]; exact (if_pos c13).symm)
            | (rw [pt_t (show n < 2 by omega)]; exact (if_neg c13).symm)
        · refine Z_iconst (n := 17) dX2_pathsFrom_16 rfl (by decide) ?_
          refine Z_goto (t := 21) dX2_pathsFrom_17 (by decide) ?_
          refine Z_iret dX2_pathsFrom_21 rfl ?_
          refine ⟨rfl, rfl, ?_⟩
          first
            | (exfalso; omega)
            | exact (if_pos c13).symm
            | exact (if_neg c13).symm
            | (rw [pt_t (show n < 2 by omega)]; exact (if_pos c13).symm)
            | (rw [pt_t (show n < 2 by omega)]; exact (if_neg c13).symm)
  | succ k ih =>
    refine ZN_of (L := [_, _, _, _]) (by decide) rfl rfl (Nat.le_of_ble_eq_true rfl) rfl (fun hav => ?_)
    refine Z_iload_n (n := 1) dX2_pathsFrom_0 rfl rfl ?_
    refine Z_iconst (n := 2) dX2_pathsFrom_1 rfl (by decide) ?_
    refine Z_icmp_lt (n := 5) (t := 11) dX2_pathsFrom_2 rfl (by decide) (fun c2 => ?_) (fun c2 => ?_)
    · refine Z_iload_n (n := 12) dX2_pathsFrom_11 rfl rfl ?_
      refine Z_iload_n (n := 13) dX2_pathsFrom_12 rfl rfl ?_
      refine Z_icmp_ne (n := 16) (t := 20) dX2_pathsFrom_13 rfl (by decide) (fun c13 => ?_) (fun c13 => ?_)
      · refine Z_iconst (n := 21) dX2_pathsFrom_20 rfl (by decide) ?_
        refine Z_iret dX2_pathsFrom_21 rfl ?_
        refine ⟨rfl, rfl, ?_⟩
        first
          | (exfalso; omega)
          | exact (if_pos c13).symm
          | exact (if_neg c13).symm
          | (rw [pt_t (show n < 2 by omega)]; exact (if_pos c13).symm)
          | (rw [pt_t (show n < 2 by omega)]; exact (if_neg c13).symm)
      · refine Z_iconst (n := 17) dX2_pathsFrom_16 rfl (by decide) ?_
        refine Z_goto (t := 21) dX2_pathsFrom_17 (by decide) ?_
        refine Z_iret dX2_pathsFrom_21 rfl ?_
        refine ⟨rfl, rfl, ?_⟩
        first
          | (exfalso; omega)
          | exact (if_pos c13).symm
          | exact (if_neg c13).symm
          | (rw [pt_t (show n < 2 by omega)]; exact (if_pos c13).symm)
          | (rw [pt_t (show n < 2 by omega)]; exact (if_neg c13).symm)
    · refine Z_iload_n (n := 6) dX2_pathsFrom_5 rfl rfl ?_
      refine Z_bipush (n := 8) dX2_pathsFrom_6 rfl (by decide) (by decide) ?_
      refine Z_icmp_lt (n := 11) (t := 22) dX2_pathsFrom_8 rfl (by decide) (fun c8 => ?_) (fun c8 => ?_)
      · refine Z_aload_n (n := 23) dX2_pathsFrom_22 rfl rfl ?_
        refine Z_aload_n (n := 24) dX2_pathsFrom_23 rfl rfl ?_
        refine Z_getA (n := 27) dX2_pathsFrom_24 rfl ffX2_15 rfl rfl ?_
        refine Z_iload_n (n := 28) dX2_pathsFrom_27 rfl rfl ?_
        refine Z_iald (n := 29) dX2_pathsFrom_28 rfl rfl rfl (by first | decide | assumption) (by omega) (by omega) (fun r28 s28 => ?_)
        refine Z_iload_n (n := 30) dX2_pathsFrom_29 rfl rfl ?_
        refine Z_iload_n (n := 31) dX2_pathsFrom_30 rfl rfl ?_
        refine Z_iconst (n := 32) dX2_pathsFrom_31 rfl (by decide) ?_
        refine Z_iadd (n := 33) dX2_pathsFrom_32 rfl (by omega) ?_
        refine Z_callVi (n := 36) [_, _, _] _ dX2_pathsFrom_33 rfl cwX2_100 rfl rfl rfl (Nat.le_of_ble_eq_true rfl) ⟨by show (k) + 1 ≤ ((k + 1)); omega, by show 8 + (4 + 11) + 40 * (k) ≤ 40 * ((k + 1)); omega, Nat.le_refl _, Nat.le_refl _⟩ (fun _ h => h) (@ih _ _ _ _ _  (by first | assumption | omega | decide) (by first | assumption | omega | decide) (by first | assumption | omega | decide) (by first | assumption | omega | decide)) ?_
        intro x33 M33 J33 z33 f33 q33
        obtain ⟨e33_1, e33_2, h33⟩ := q33
        replace e33_1 := e33_1.symm; subst e33_1
        replace e33_2 := e33_2.symm; subst e33_2
        refine Z_aload_n (n := 37) dX2_pathsFrom_36 rfl rfl ?_
        refine Z_aload_n (n := 38) dX2_pathsFrom_37 rfl rfl ?_
        refine Z_getA (n := 41) dX2_pathsFrom_38 rfl ffX2_18 rfl rfl ?_
        refine Z_iload_n (n := 42) dX2_pathsFrom_41 rfl rfl ?_
        refine Z_iald (n := 43) dX2_pathsFrom_42 rfl rfl rfl (by first | decide | assumption) (by omega) (by omega) (fun r42 s42 => ?_)
        refine Z_iload_n (n := 44) dX2_pathsFrom_43 rfl rfl ?_
        refine Z_iload_n (n := 45) dX2_pathsFrom_44 rfl rfl ?_
        refine Z_iconst (n := 46) dX2_pathsFrom_45 rfl (by decide) ?_
        refine Z_iadd (n := 47) dX2_pathsFrom_46 rfl (by omega) ?_
        refine Z_callVi (n := 50) [_, _, _] _ dX2_pathsFrom_47 rfl cwX2_100 rfl rfl rfl (Nat.le_of_ble_eq_true rfl) ⟨by show (k) + 1 ≤ ((k + 1)); omega, by show 8 + (4 + 11) + 40 * (k) ≤ 40 * ((k + 1)); omega, Nat.le_refl _, Nat.le_refl _⟩ (fun _ h => h) (@ih _ _ _ _ _  (by first | assumption | omega | decide) (by first | assumption | omega | decide) (by first | assumption | omega | decide) (by first | assumption | omega | decide)) ?_
        intro x47 M47 J47 z47 f47 q47
        obtain ⟨e47_1, e47_2, h47⟩ := q47
        replace e47_1 := e47_1.symm; subst e47_1
        replace e47_2 := e47_2.symm; subst e47_2
        have p1 := pt_in (M := M) (y := s) k (M 7 n)
        have p2 := pt_in (M := M) (y := s) k (M 8 n)
        have pw := pw2_cs (k := k) (by omega)
        rw [← h33] at p1
        rw [← h47] at p2
        refine Z_iadd (n := 51) dX2_pathsFrom_50 rfl (by omega) ?_
        refine Z_iret dX2_pathsFrom_51 rfl ?_
        refine ⟨rfl, rfl, ?_⟩
        rw [h33, h47]
        exact (if_neg (show ¬ n < 2 by omega)).symm
      · refine Z_iload_n (n := 12) dX2_pathsFrom_11 rfl rfl ?_
        refine Z_iload_n (n := 13) dX2_pathsFrom_12 rfl rfl ?_
        refine Z_icmp_ne (n := 16) (t := 20) dX2_pathsFrom_13 rfl (by decide) (fun c13 => ?_) (fun c13 => ?_)
        · refine Z_iconst (n := 21) dX2_pathsFrom_20 rfl (by decide) ?_
          refine Z_iret dX2_pathsFrom_21 rfl ?_
          refine ⟨rfl, rfl, ?_⟩
          first
            | (exfalso; omega)
            | exact (if_pos c13).symm
            | exact (if_neg c13).symm
            | (rw [pt_t (show n < 2 by omega)]; exact (if_pos c13).symm)
            | (rw [pt_t (show n < 2 by omega)]; exact (if_neg c13).symm)
        · refine Z_iconst (n := 17) dX2_pathsFrom_16 rfl (by decide) ?_
          refine Z_goto (t := 21) dX2_pathsFrom_17 (by decide) ?_
          refine Z_iret dX2_pathsFrom_21 rfl ?_
          refine ⟨rfl, rfl, ?_⟩
          first
            | (exfalso; omega)
            | exact (if_pos c13).symm
            | exact (if_neg c13).symm
            | (rw [pt_t (show n < 2 by omega)]; exact (if_pos c13).symm)
            | (rw [pt_t (show n < 2 by omega)]; exact (if_neg c13).symm)
set_option maxRecDepth 20000 in
theorem zX2_pathCount_f {G : tl_G} {M : zM} {J : zJ} {n s : Int} (h0 : 0 ≤ n) (h1 : n ≤ 251) : ZN G yX2_pathCount mX2_pathCount 9 kAll [vR 5, vI n, vI s] F1 M J (qI (fun x M' J' => M' = M ∧ J' = J ∧ x = pt M s 8 n)) := by
  refine ZN_of (L := [_, _, _]) (by decide) rfl rfl (Nat.le_of_ble_eq_true rfl) rfl (fun hav => ?_)
  refine Z_aload_n (n := 1) dX2_pathCount_0 rfl rfl ?_
  refine Z_iload_n (n := 2) dX2_pathCount_1 rfl rfl ?_
  refine Z_iload_n (n := 3) dX2_pathCount_2 rfl rfl ?_
  refine Z_iconst (n := 4) dX2_pathCount_3 rfl (by decide) ?_
  refine Z_callVi (n := 7) [_, _, _] _ dX2_pathCount_4 rfl cwX2_100 rfl rfl rfl (Nat.le_of_ble_eq_true rfl) (by refine ⟨?_, ?_, ?_, ?_⟩ <;> exact Nat.le_of_ble_eq_true rfl) (fun _ h => h) (zX2_pathsFrom_f 8  (by first | assumption | omega | decide) (by first | assumption | omega | decide) (by first | assumption | omega | decide) (by first | assumption | omega | decide)) ?_
  intro x4 M4 J4 z4 f4 q4
  obtain ⟨e4_1, e4_2, h4⟩ := q4
  replace e4_1 := e4_1.symm; subst e4_1
  replace e4_2 := e4_2.symm; subst e4_2
  refine Z_iret dX2_pathCount_7 rfl ?_
  exact ⟨rfl, rfl, by assumption⟩
set_option maxRecDepth 20000 in
theorem zX3_paths_f {G : tl_G} {M : zM} {J : zJ} {f y : Int}  : ZN G yX3_paths mX3_paths 10 kAll [vR 0, vI f, vI y] F1 M J (qI (fun x M' J' => M' = M ∧ J' = J ∧ (((f < 0 ∨ 12 ≤ f ∨ M 12 f = -1) ∧ x = -1) ∨ (¬ (f < 0 ∨ 12 ≤ f ∨ M 12 f = -1) ∧ x = pt M (if y = 0 then 0 else 1) 8 (M 12 f))))) := by
  refine ZN_of (L := [_, _, _]) (by decide) rfl rfl (Nat.le_of_ble_eq_true rfl) rfl (fun hav => ?_)
  refine Z_aload_n (n := 1) dX3_paths_0 rfl rfl ?_
  refine Z_iload_n (n := 2) dX3_paths_1 rfl rfl ?_
  refine Z_callVi (n := 5) [_] _ dX3_paths_2 rfl cwX3_139 rfl rfl (by first | rfl | exact nS0 (nA_at (by omega) (by omega))) (Nat.le_of_ble_eq_true rfl) (by refine ⟨?_, ?_, ?_, ?_⟩ <;> exact Nat.le_of_ble_eq_true rfl) (fun _ h => h) (zX3_hasFunction  ) ?_
  intro x2 M2 J2 z2 f2 q2
  obtain ⟨e2_1, e2_2, h2⟩ := q2
  replace e2_1 := e2_1.symm; subst e2_1
  replace e2_2 := e2_2.symm; subst e2_2
  refine Z_if_ne (n := 8) (t := 10) dX3_paths_5 rfl (by decide) (fun c5 => ?_) (fun c5 => ?_)
  · refine Z_aload_n (n := 11) dX3_paths_10 rfl rfl ?_
    refine Z_getO (n := 14) dX3_paths_11 rfl ffX3_25 (by first | rfl | exact nS0 (nA_at (by omega) (by omega))) (by first | rfl | exact nS0 (nA_at (by omega) (by omega))) ?_
    refine Z_aload_n (n := 15) dX3_paths_14 rfl rfl ?_
    refine Z_getA (n := 18) dX3_paths_15 rfl ffX3_29 (by first | rfl | exact nS0 (nA_at (by omega) (by omega))) (by first | rfl | exact nS0 (nA_at (by omega) (by omega))) ?_
    refine Z_iload_n (n := 19) dX3_paths_18 rfl rfl ?_
    refine Z_iald (n := 20) dX3_paths_19 rfl (by first | rfl | exact nS0 (nA_at (by omega) (by omega))) rfl (by first | decide | assumption) (by omega) (by omega) (fun r19 s19 => ?_)
    refine Z_iload_n (n := 21) dX3_paths_20 rfl rfl ?_
    refine Z_if_eq (n := 24) (t := 28) dX3_paths_21 rfl (by decide) (fun c21 => ?_) (fun c21 => ?_)
    · refine Z_iconst (n := 29) dX3_paths_28 rfl (by decide) ?_
      refine Z_callVi (n := 32) [_, _] _ dX3_paths_29 rfl cwX3_178 rfl rfl (by first | rfl | exact nS0 (nA_at (by omega) (by omega))) (Nat.le_of_ble_eq_true rfl) (by refine ⟨?_, ?_, ?_, ?_⟩ <;> exact Nat.le_of_ble_eq_true rfl) (fun _ h => h) (zX2_pathCount_f  (by first | assumption | omega | decide) (by first | assumption | omega | decide)) ?_
      intro x29 M29 J29 z29 f29 q29
      obtain ⟨e29_1, e29_2, h29⟩ := q29
      replace e29_1 := e29_1.symm; subst e29_1
      replace e29_2 := e29_2.symm; subst e29_2
      refine Z_iret dX3_paths_32 rfl ?_
      refine ⟨rfl, rfl, Or.inr ⟨by omega, ?_⟩⟩
      first
        | (rw [if_pos (show y = 0 by omega)]; exact h29)
        | (rw [if_neg (show ¬ y = 0 by omega)]; exact h29)
    · refine Z_iconst (n := 25) dX3_paths_24 rfl (by decide) ?_
      refine Z_goto (t := 29) dX3_paths_25 (by decide) ?_
      refine Z_callVi (n := 32) [_, _] _ dX3_paths_29 rfl cwX3_178 rfl rfl (by first | rfl | exact nS0 (nA_at (by omega) (by omega))) (Nat.le_of_ble_eq_true rfl) (by refine ⟨?_, ?_, ?_, ?_⟩ <;> exact Nat.le_of_ble_eq_true rfl) (fun _ h => h) (zX2_pathCount_f  (by first | assumption | omega | decide) (by first | assumption | omega | decide)) ?_
      intro x29 M29 J29 z29 f29 q29
      obtain ⟨e29_1, e29_2, h29⟩ := q29
      replace e29_1 := e29_1.symm; subst e29_1
      replace e29_2 := e29_2.symm; subst e29_2
      refine Z_iret dX3_paths_32 rfl ?_
      refine ⟨rfl, rfl, Or.inr ⟨by omega, ?_⟩⟩
      first
        | (rw [if_pos (show y = 0 by omega)]; exact h29)
        | (rw [if_neg (show ¬ y = 0 by omega)]; exact h29)
  · refine Z_iconst (n := 9) dX3_paths_8 rfl (by decide) ?_
    refine Z_iret dX3_paths_9 rfl ?_
    exact ⟨rfl, rfl, Or.inl ⟨by omega, rfl⟩⟩
def wyI (B : Int → Int64) (y d i : Int) (w : Int → Int) : Prop := (∀ q : Int, 0 ≤ q → q < i → w q = wy B y (8 - d).toNat q) ∧ ∀ q : Int, i ≤ q → q < pw2 (d + 1).toNat → w q = wy B y (7 - d).toNat q
theorem wyI_st {B : Int → Int64} {y d i v : Int} {w : Int → Int} (h : wyI B y d i w) (d0 : 0 ≤ d) (d1 : d ≤ 7) (i0 : 0 ≤ i) (hv : v = wy B y (8 - d).toNat i) : wyI B y d (i + 1) (updI w i v) := by
  refine ⟨fun q q0 q1 => ?_, fun q q0 q1 => ?_⟩
  · by_cases e : q = i
    · rw [e, updI_s]; exact hv
    · rw [updI_n e]; exact h.1 q q0 (by omega)
  · rw [updI_n (by omega)]
    exact h.2 q (by omega) q1
theorem wy_up {B : Int → Int64} {y d i : Int} (d0 : 0 ≤ d) (d1 : d ≤ 7) : wy B y (8 - d).toNat i = if lyR B d i = true then wy B y (7 - d).toNat (2 * i) + wy B y (7 - d).toNat (2 * i + 1) else wy B y (7 - d).toNat (2 * i) := by
  rw [show (8 - d).toNat = (7 - d).toNat + 1 by omega]
  show (if lyR B (7 - (((7 - d).toNat : Nat) : Int)) i = true then _ else _) = _
  rw [show (7 : Int) - (((7 - d).toNat : Nat) : Int) = d by omega]
theorem ly_iff {B : Int → Int64} {d i x : Int} {J' : zJ} (h : lyQ B d i x J') : (lyR B d i = true ↔ x = 1) ∧ (x = 0 ∨ x = 1) := by
  rcases h with ⟨a, b, -⟩ | ⟨a, b⟩
  · exact ⟨⟨fun _ => a, fun _ => b⟩, Or.inr a⟩
  · refine ⟨⟨fun t => ?_, fun t => by omega⟩, Or.inl a⟩
    rw [b] at t
    cases t
theorem pw2_d {d : Int} (d0 : 0 ≤ d) (d1 : d ≤ 7) : pw2 (d + 1).toNat = 2 * pw2 d.toNat ∧ zshl 1 d = pw2 d.toNat := by
  refine ⟨?_, zshl_pw d0 d1⟩
  rw [show (d + 1).toNat = d.toNat + 1 by omega]
  rfl
set_option maxRecDepth 20000 in
theorem zX4_paths_g {G : tl_G} {M : zM} {J : zJ} {f y : Int}  : ZN G yX4_paths mX4_paths 3 kWy [vR 31, vI f, vI y] F1 M J (qI (fun x M' J' => (((f < 0 ∨ 12 ≤ f ∨ M 43 f = 0) ∧ x = -1) ∨ (¬ (f < 0 ∨ 12 ≤ f ∨ M 43 f = 0) ∧ x = wy (bitF J f) y 8 0)))) := by
  refine ZN_of (L := [_, _, _, _, _]) (by decide) rfl rfl (Nat.le_of_ble_eq_true rfl) rfl (fun hav => ?_)
  refine Z_aload_n (n := 1) dX4_paths_0 rfl rfl ?_
  refine Z_iload_n (n := 2) dX4_paths_1 rfl rfl ?_
  refine Z_callVi (n := 5) [_] _ dX4_paths_2 rfl cwX4_223 rfl rfl rfl (Nat.le_of_ble_eq_true rfl) (by refine ⟨?_, ?_, ?_, ?_⟩ <;> exact Nat.le_of_ble_eq_true rfl) (fun _ _ => trivial) (zX4_isFunction  ) ?_
  intro x2 M2 J2 z2 f2 q2
  obtain ⟨e2_1, e2_2, h2⟩ := q2
  replace e2_1 := e2_1.symm; subst e2_1
  replace e2_2 := e2_2.symm; subst e2_2
  refine Z_if_ne (n := 8) (t := 10) dX4_paths_5 rfl (by decide) (fun c5 => ?_) (fun c5 => ?_)
  · refine Z_iconst (n := 11) dX4_paths_10 rfl (by decide) ?_
    refine Z_istore_n (L' := [_, _, _, _, _]) (n := 12) dX4_paths_11 rfl (by decide) rfl rfl ?_
    have lp12 : ∀ (N12 : Nat) (p : Int) (M12 : zM) (J12 : zJ), ((256 - p).toNat) < N12 → (0 ≤ p) → (p ≤ 256) → (∀ q : Int, 0 ≤ q → q < p → M12 57 q = wy (bitF J f) y 0 q) → TZ G mX4_paths (tl_rm 3 0 0) 0 0 kWy M J 12 [some (vR 31), some (vI f), some (vI y), some (vI p), none] [] F1 M12 J12 (ZM G (zPost G kWy F1 M J (qI (fun x M' J' => (((f < 0 ∨ 12 ≤ f ∨ M 43 f = 0) ∧ x = -1) ∨ (¬ (f < 0 ∨ 12 ≤ f ∨ M 43 f = 0) ∧ x = wy (bitF J f) y 8 0))))) 0 0) := by
      intro N12
      induction N12 with
      | zero => intro p M12 J12 hN; omega
      | succ N12 ih12 =>
        intro p M12 J12 hN12 i12_0 i12_1 i12_2
        refine Z_iload_n (n := 13) dX4_paths_12 rfl rfl ?_
        refine Z_sipush (n := 16) dX4_paths_13 rfl (by decide) (by decide) ?_
        refine Z_icmp_ge (n := 19) (t := 46) dX4_paths_16 rfl (by decide) (fun c16 => ?_) (fun c16 => ?_)
        · have en49 : ∀ q : Int, 0 ≤ q → q < pw2 ((7 : Int) + 1).toNat → M12 57 q = wy (bitF J f) y ((7 : Int) - 7).toNat q := fun q a b => by
            rw [show pw2 ((7 : Int) + 1).toNat = 256 by decide] at b
            rw [show ((7 : Int) - 7).toNat = 0 by decide]
            exact i12_2 q a (by omega)
          refine Z_bipush (n := 48) dX4_paths_46 rfl (by decide) (by decide) ?_
          refine Z_istore_n (L' := [_, _, _, _, _]) (n := 49) dX4_paths_48 rfl (by decide) rfl rfl ?_
          have lp49 : ∀ (N49 : Nat) (d : Int) (M49 : zM) (J49 : zJ), ((d + 1).toNat) < N49 → (-1 ≤ d) → (d ≤ 7) → (∀ q : Int, 0 ≤ q → q < pw2 (d + 1).toNat → M49 57 q = wy (bitF J f) y (7 - d).toNat q) → TZ G mX4_paths (tl_rm 3 0 0) 0 0 kWy M J 49 [some (vR 31), some (vI f), some (vI y), some (vI d), none] [] F1 M49 J49 (ZM G (zPost G kWy F1 M J (qI (fun x M' J' => (((f < 0 ∨ 12 ≤ f ∨ M 43 f = 0) ∧ x = -1) ∨ (¬ (f < 0 ∨ 12 ≤ f ∨ M 43 f = 0) ∧ x = wy (bitF J f) y 8 0))))) 0 0) := by
            intro N49
            induction N49 with
            | zero => intro d M49 J49 hN; omega
            | succ N49 ih49 =>
              intro d M49 J49 hN49 i49_0 i49_1 i49_2
              refine Z_iload_n (n := 50) dX4_paths_49 rfl rfl ?_
              refine Z_if_lt (n := 53) (t := 127) dX4_paths_50 rfl (by decide) (fun c50 => ?_) (fun c50 => ?_)
              · refine Z_aload_n (n := 128) dX4_paths_127 rfl rfl ?_
                refine Z_getA (n := 131) dX4_paths_128 rfl ffX4_99 rfl rfl ?_
                refine Z_iconst (n := 132) dX4_paths_131 rfl (by decide) ?_
                refine Z_iald (n := 133) dX4_paths_132 rfl rfl rfl (by first | decide | assumption) (by omega) (by omega) (fun r132 s132 => ?_)
                refine Z_iret dX4_paths_133 rfl ?_
                refine Or.inr ⟨by omega, ?_⟩
                have z := i49_2 0 (by decide) (by rw [show d = -1 by omega]; decide)
                rw [show d = -1 by omega, show ((7 : Int) - (-1)).toNat = 8 by decide] at z
                exact z
              · have hs := zshl1 (d := d) (by omega) (by omega)
                have hpw := pw2_d (d := d) (by omega) (by omega)
                refine Z_iconst (n := 54) dX4_paths_53 rfl (by decide) ?_
                refine Z_istore (L' := [_, _, _, _, _]) (n := 56) dX4_paths_54 rfl (by decide) rfl rfl ?_
                have lp56 : ∀ (N56 : Nat) (i : Int) (M56 : zM) (J56 : zJ), ((zshl 1 d - i).toNat) < N56 → (0 ≤ i) → (i ≤ zshl 1 d) → (wyI (bitF J f) y d i (M56 57)) → TZ G mX4_paths (tl_rm 3 0 0) 0 0 kWy M J 56 [some (vR 31), some (vI f), some (vI y), some (vI d), some (vI i)] [] F1 M56 J56 (ZM G (zPost G kWy F1 M J (qI (fun x M' J' => (((f < 0 ∨ 12 ≤ f ∨ M 43 f = 0) ∧ x = -1) ∨ (¬ (f < 0 ∨ 12 ≤ f ∨ M 43 f = 0) ∧ x = wy (bitF J f) y 8 0))))) 0 0) := by
                  intro N56
                  induction N56 with
                  | zero => intro i M56 J56 hN; omega
                  | succ N56 ih56 =>
                    intro i M56 J56 hN56 i56_0 i56_1 i56_2
                    refine Z_iload (n := 58) dX4_paths_56 rfl rfl ?_
                    refine Z_iconst (n := 59) dX4_paths_58 rfl (by decide) ?_
                    refine Z_iload_n (n := 60) dX4_paths_59 rfl rfl ?_
                    refine Z_ishl (n := 61) dX4_paths_60 rfl ?_
                    refine Z_icmp_ge (n := 64) (t := 121) dX4_paths_61 rfl (by decide) (fun c61 => ?_) (fun c61 => ?_)
                    · have nx49 : ∀ q : Int, 0 ≤ q → q < pw2 (d + -1 + 1).toNat → M56 57 q = wy (bitF J f) y (7 - (d + -1)).toNat q := fun q a b => by
                        rw [show d + -1 + 1 = d by omega] at b
                        rw [show 7 - (d + -1) = 8 - d by omega]
                        exact i56_2.1 q a (by omega)
                      refine Z_iinc (L' := [_, _, _, _, _]) (n := 124) dX4_paths_121 rfl rfl (by decide) rfl rfl (by omega) rfl ?_
                      refine Z_goto (t := 49) dX4_paths_124 (by decide) ?_
                      refine Z_loc (L' := [some _, some _, some _, some _, none]) (lsub_same (lsub_same (lsub_same (lsub_same (lsub_none lsub_nil))))) ?_
                      exact ih49 _ _ _ (by omega) (by first | assumption | omega | decide) (by first | assumption | omega | decide) (by exact nx49)
                    · refine Z_fr (fun fr56 => ?_)
                      have eB56 : bitF J56 f = bitF J f := by
                        funext k
                        unfold bitF
                        rw [(fr56 44 (by decide)).2]
                      have v0 := i56_2.2 (2 * i) (by omega) (by omega)
                      have v1 := i56_2.2 (2 * i + 1) (by omega) (by omega)
                      have b0 := wy_in (B := bitF J f) (y := y) (7 - d).toNat (2 * i)
                      have b1 := wy_in (B := bitF J f) (y := y) (7 - d).toNat (2 * i + 1)
                      have bw := pw2_cs (k := (7 - d).toNat) (by omega)
                      have wu := wy_up (B := bitF J f) (y := y) (d := d) (i := i) (by omega) (by omega)
                      rw [← v0] at b0
                      rw [← v1] at b1
                      refine Z_aload_n (n := 65) dX4_paths_64 rfl rfl ?_
                      refine Z_getA (n := 68) dX4_paths_65 rfl ffX4_99 rfl rfl ?_
                      refine Z_iload (n := 70) dX4_paths_68 rfl rfl ?_
                      refine Z_aload_n (n := 71) dX4_paths_70 rfl rfl ?_
                      refine Z_iload_n (n := 72) dX4_paths_71 rfl rfl ?_
                      refine Z_iload_n (n := 73) dX4_paths_72 rfl rfl ?_
                      refine Z_iload (n := 75) dX4_paths_73 rfl rfl ?_
                      refine Z_callVi (n := 78) [_, _, _] _ dX4_paths_75 rfl cwX4_163 rfl rfl rfl (Nat.le_of_ble_eq_true rfl) (by refine ⟨?_, ?_, ?_, ?_⟩ <;> exact Nat.le_of_ble_eq_true rfl) (fun a h => by unfold kWy at h; unfold kPart; omega) (zX4_lays  (by first | assumption | omega | decide) (by first | assumption | omega | decide) (by first | assumption | omega | decide) (by first | assumption | omega | decide) (by first | assumption | omega | decide) (by first | assumption | omega | decide)) ?_
                      intro x75 M75 J75 z75 f75 q75
                      obtain ⟨e75_1, lq75⟩ := q75
                      replace e75_1 := e75_1.symm; subst e75_1
                      have ly75 := ly_iff lq75
                      refine Z_if_eq (n := 81) (t := 105) dX4_paths_78 rfl (by decide) (fun c78 => ?_) (fun c78 => ?_)
                      · have nz : ¬ lyR (bitF J f) d i = true := fun t => by
                          rw [← eB56] at t
                          have := ly75.1.mp t
                          omega
                        rw [if_neg nz] at wu
                        refine Z_aload_n (n := 106) dX4_paths_105 rfl rfl ?_
                        refine Z_getA (n := 109) dX4_paths_106 rfl ffX4_99 rfl rfl ?_
                        refine Z_iconst (n := 110) dX4_paths_109 rfl (by decide) ?_
                        refine Z_iload (n := 112) dX4_paths_110 rfl rfl ?_
                        refine Z_imul (n := 113) dX4_paths_112 rfl (by omega) ?_
                        refine Z_iald (n := 114) dX4_paths_113 rfl rfl rfl (by first | decide | assumption) (by omega) (by omega) (fun r113 s113 => ?_)
                        refine Z_iast (n := 115) dX4_paths_114 rfl rfl rfl (by first | decide | assumption) (by omega) (by omega) (by first | omega | exact r113 | exact s113) (by first | omega | exact r113 | exact s113) (by decide) ?_
                        refine Z_nm (fun M114 e114 => ?_)
                        have nx56 : wyI (bitF J f) y d (i + 1) (M114 57) := by
                          rw [e114, uz_fn]
                          exact wyI_st i56_2 (by omega) (by omega) (by omega) (by omega)
                        clear e114
                        refine Z_iinc (L' := [_, _, _, _, _]) (n := 118) dX4_paths_115 rfl rfl (by decide) rfl rfl (by omega) rfl ?_
                        refine Z_goto (t := 56) dX4_paths_118 (by decide) ?_
                        refine Z_loc (L' := [some _, some _, some _, some _, some _]) (lsub_same (lsub_same (lsub_same (lsub_same (lsub_same lsub_nil))))) ?_
                        exact ih56 _ _ _ (by omega) (by first | assumption | omega | decide) (by first | assumption | omega | decide) (by exact nx56)
                      · have nz : lyR (bitF J f) d i = true := by rw [← eB56]; exact ly75.1.mpr (by omega)
                        rw [if_pos nz] at wu
                        refine Z_aload_n (n := 82) dX4_paths_81 rfl rfl ?_
                        refine Z_getA (n := 85) dX4_paths_82 rfl ffX4_99 rfl rfl ?_
                        refine Z_iconst (n := 86) dX4_paths_85 rfl (by decide) ?_
                        refine Z_iload (n := 88) dX4_paths_86 rfl rfl ?_
                        refine Z_imul (n := 89) dX4_paths_88 rfl (by omega) ?_
                        refine Z_iald (n := 90) dX4_paths_89 rfl rfl rfl (by first | decide | assumption) (by omega) (by omega) (fun r89 s89 => ?_)
                        refine Z_aload_n (n := 91) dX4_paths_90 rfl rfl ?_
                        refine Z_getA (n := 94) dX4_paths_91 rfl ffX4_99 rfl rfl ?_
                        refine Z_iconst (n := 95) dX4_paths_94 rfl (by decide) ?_
                        refine Z_iload (n := 97) dX4_paths_95 rfl rfl ?_
                        refine Z_imul (n := 98) dX4_paths_97 rfl (by omega) ?_
                        refine Z_iconst (n := 99) dX4_paths_98 rfl (by decide) ?_
                        refine Z_iadd (n := 100) dX4_paths_99 rfl (by omega) ?_
                        refine Z_iald (n := 101) dX4_paths_100 rfl rfl rfl (by first | decide | assumption) (by omega) (by omega) (fun r100 s100 => ?_)
                        refine Z_iadd (n := 102) dX4_paths_101 rfl (by omega) ?_
                        refine Z_goto (t := 114) dX4_paths_102 (by decide) ?_
                        refine Z_iast (n := 115) dX4_paths_114 rfl rfl rfl (by first | decide | assumption) (by omega) (by omega) (by first | omega | exact r113 | exact s113) (by first | omega | exact r113 | exact s113) (by decide) ?_
                        refine Z_nm (fun M114 e114 => ?_)
                        have nx56 : wyI (bitF J f) y d (i + 1) (M114 57) := by
                          rw [e114, uz_fn]
                          exact wyI_st i56_2 (by omega) (by omega) (by omega) (by omega)
                        clear e114
                        refine Z_iinc (L' := [_, _, _, _, _]) (n := 118) dX4_paths_115 rfl rfl (by decide) rfl rfl (by omega) rfl ?_
                        refine Z_goto (t := 56) dX4_paths_118 (by decide) ?_
                        refine Z_loc (L' := [some _, some _, some _, some _, some _]) (lsub_same (lsub_same (lsub_same (lsub_same (lsub_same lsub_nil))))) ?_
                        exact ih56 _ _ _ (by omega) (by first | assumption | omega | decide) (by first | assumption | omega | decide) (by exact nx56)
                refine Z_loc (L' := [some _, some _, some _, some _, some _]) (lsub_same (lsub_same (lsub_same (lsub_same (lsub_same lsub_nil))))) ?_
                exact lp56 _ _ _ _ (Nat.lt_succ_self _) (by first | assumption | omega | decide) (by first | assumption | omega | decide) (by exact ⟨fun q a b => by omega, fun q a b => i49_2 q a b⟩)
          refine Z_loc (L' := [some _, some _, some _, some _, none]) (lsub_same (lsub_same (lsub_same (lsub_same (lsub_none lsub_nil))))) ?_
          exact lp49 _ _ _ _ (Nat.lt_succ_self _) (by first | assumption | omega | decide) (by first | assumption | omega | decide) (by exact en49)
        · refine Z_fr (fun fr12 => ?_)
          have eB12 : bitF J12 f = bitF J f := by
            funext k
            unfold bitF
            rw [(fr12 44 (by decide)).2]
          refine Z_aload_n (n := 20) dX4_paths_19 rfl rfl ?_
          refine Z_getA (n := 23) dX4_paths_20 rfl ffX4_99 rfl rfl ?_
          refine Z_iload_n (n := 24) dX4_paths_23 rfl rfl ?_
          refine Z_aload_n (n := 25) dX4_paths_24 rfl rfl ?_
          refine Z_iload_n (n := 26) dX4_paths_25 rfl rfl ?_
          refine Z_iload_n (n := 27) dX4_paths_26 rfl rfl ?_
          refine Z_callVi (n := 30) [_, _] _ dX4_paths_27 rfl cwX4_240 rfl rfl rfl (Nat.le_of_ble_eq_true rfl) (by refine ⟨?_, ?_, ?_, ?_⟩ <;> exact Nat.le_of_ble_eq_true rfl) (fun _ _ => trivial) (zX4_bit  (by first | assumption | omega | decide) (by first | assumption | omega | decide) (by first | assumption | omega | decide) (by first | assumption | omega | decide)) ?_
          intro x27 M27 J27 z27 f27 q27
          obtain ⟨e27_1, e27_2, h27⟩ := q27
          replace e27_1 := e27_1.symm; subst e27_1
          replace e27_2 := e27_2.symm; subst e27_2
          refine Z_iload_n (n := 31) dX4_paths_30 rfl rfl ?_
          refine Z_icmp_ne (n := 34) (t := 38) dX4_paths_31 rfl (by decide) (fun c31 => ?_) (fun c31 => ?_)
          · have nv : (0 : Int) = wy (bitF J f) y 0 p := by
              have q : ¬ btF (bitF J f) p = y := fun t => c31 (by rw [h27, eB12]; exact t)
              exact (if_neg q).symm
            refine Z_iconst (n := 39) dX4_paths_38 rfl (by decide) ?_
            refine Z_iast (n := 40) dX4_paths_39 rfl rfl rfl (by first | decide | assumption) (by omega) (by omega) (by decide) (by decide) (by decide) ?_
            refine Z_nm (fun M39 e39 => ?_)
            have nx12 : ∀ q : Int, 0 ≤ q → q < p + 1 → M39 57 q = wy (bitF J f) y 0 q := fun q a b => by
              rw [e39, uz_fn]
              by_cases e : q = p
              · rw [e, updI_s]; exact nv
              · rw [updI_n e]; exact i12_2 q a (by omega)
            clear e39
            refine Z_iinc (L' := [_, _, _, _, _]) (n := 43) dX4_paths_40 rfl rfl (by decide) rfl rfl (by omega) rfl ?_
            refine Z_goto (t := 12) dX4_paths_43 (by decide) ?_
            refine Z_loc (L' := [some _, some _, some _, some _, none]) (lsub_same (lsub_same (lsub_same (lsub_same (lsub_none lsub_nil))))) ?_
            exact ih12 _ _ _ (by omega) (by first | assumption | omega | decide) (by first | assumption | omega | decide) (by exact nx12)
          · have nv : (1 : Int) = wy (bitF J f) y 0 p := by
              have q : btF (bitF J f) p = y := by rw [← eB12, ← h27]; exact c31
              exact (if_pos q).symm
            refine Z_iconst (n := 35) dX4_paths_34 rfl (by decide) ?_
            refine Z_goto (t := 39) dX4_paths_35 (by decide) ?_
            refine Z_iast (n := 40) dX4_paths_39 rfl rfl rfl (by first | decide | assumption) (by omega) (by omega) (by decide) (by decide) (by decide) ?_
            refine Z_nm (fun M39 e39 => ?_)
            have nx12 : ∀ q : Int, 0 ≤ q → q < p + 1 → M39 57 q = wy (bitF J f) y 0 q := fun q a b => by
              rw [e39, uz_fn]
              by_cases e : q = p
              · rw [e, updI_s]; exact nv
              · rw [updI_n e]; exact i12_2 q a (by omega)
            clear e39
            refine Z_iinc (L' := [_, _, _, _, _]) (n := 43) dX4_paths_40 rfl rfl (by decide) rfl rfl (by omega) rfl ?_
            refine Z_goto (t := 12) dX4_paths_43 (by decide) ?_
            refine Z_loc (L' := [some _, some _, some _, some _, none]) (lsub_same (lsub_same (lsub_same (lsub_same (lsub_none lsub_nil))))) ?_
            exact ih12 _ _ _ (by omega) (by first | assumption | omega | decide) (by first | assumption | omega | decide) (by exact nx12)
    refine Z_loc (L' := [some _, some _, some _, some _, none]) (lsub_same (lsub_same (lsub_same (lsub_same (lsub_none lsub_nil))))) ?_
    exact lp12 _ _ _ _ (Nat.lt_succ_self _) (by first | assumption | omega | decide) (by first | assumption | omega | decide) (by exact fun q a b => by omega)
  · refine Z_iconst (n := 9) dX4_paths_8 rfl (by decide) ?_
    refine Z_iret dX4_paths_9 rfl ?_
    exact Or.inl ⟨by omega, rfl⟩
theorem sim_paths {M M1 : zM} {J : zJ} {x y f z w : Int} (h : LSy M J) (fr : ∀ a : Nat, 31 ≤ a → M1 a = M a) (hw : (if z = 0 then 0 else 1) = w) (hc : ((f < 0 ∨ 12 ≤ f ∨ M 12 f = -1) ∧ x = -1) ∨ (¬ (f < 0 ∨ 12 ≤ f ∨ M 12 f = -1) ∧ x = pt M (if z = 0 then 0 else 1) 8 (M 12 f))) (hq : ((f < 0 ∨ 12 ≤ f ∨ M1 43 f = 0) ∧ y = -1) ∨ (¬ (f < 0 ∨ 12 ≤ f ∨ M1 43 f = 0) ∧ y = wy (bitF J f) w 8 0)) : x = y := by
  have kf := ls_k h fr f
  rcases hc with ⟨a, b⟩ | ⟨a, b⟩
  · rcases hq with ⟨a', b'⟩ | ⟨a', b'⟩
    · exact b.trans b'.symm
    · exfalso; omega
  · rcases hq with ⟨a', b'⟩ | ⟨a', b'⟩
    · exfalso; omega
    · have df := ls_d h (f := f) (by omega) (by omega) (by omega)
      obtain ⟨S, hS, hN⟩ := ls_n h (f := f) (by omega) (by omega) (by omega)
      have okn := hN f (by omega) (by omega) (by omega)
      have pl := pst_pl hS okn
      rw [hw] at b
      rw [b, b']
      refine pt_wy hS 8 (M 12 f) 0 8 okn (Nat.le_refl 8) (by omega) (Int.le_refl 0) (by decide) (fun r => ?_) (by omega)
      rw [df, Int.zero_mul, Int.zero_add]
      rfl
end
