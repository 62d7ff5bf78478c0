/-! ===== ways to an end ===== -/
def pt (M : zM) (y : Int) : Nat → Int → Int
  | 0, n => if n = y then 1 else 0
  | k + 1, n => if n < 2 then (if n = y then 1 else 0) else pt M y k (M 7 n) + pt M y k (M 8 n)
theorem pt_01 {n y : Int} : 0 ≤ (if n = y then (1 : Int) else 0) ∧ (if n = y then (1 : Int) else 0) ≤ 1 := by
  split
  · decide
  · decide
theorem pt_in {M : zM} {y : Int} : ∀ (k : Nat) (n : Int), 0 ≤ pt M y k n ∧ pt M y k n ≤ pw2 k
  | 0, n => pt_01
  | k + 1, n => by
    have h1 := pt_in (M := M) (y := y) k (M 7 n)
    have h2 := pt_in (M := M) (y := y) k (M 8 n)
    have h3 := pt_01 (n := n) (y := y)
    have h4 := pw2_pos k
    have h5 : pw2 (k + 1) = 2 * pw2 k := rfl
    show 0 ≤ (if n < 2 then (if n = y then (1 : Int) else 0) else pt M y k (M 7 n) + pt M y k (M 8 n)) ∧ (if n < 2 then (if n = y then (1 : Int) else 0) else pt M y k (M 7 n) + pt M y k (M 8 n)) ≤ pw2 (k + 1)
    by_cases q : n < 2
    · rw [if_pos q, h5]; omega
    · rw [if_neg q, h5]; omega
theorem pt_t {M : zM} {y n : Int} (h : n < 2) : ∀ k : Nat, pt M y k n = if n = y then 1 else 0
  | 0 => rfl
  | k + 1 => if_pos h
def wy (B : Int → Int64) (y : Int) : Nat → Int → Int
  | 0, i => if btF B i = y then 1 else 0
  | k + 1, i => if lyR B (7 - (k : Int)) i = true then wy B y k (2 * i) + wy B y k (2 * i + 1) else wy B y k (2 * i)
theorem wy_in {B : Int → Int64} {y : Int} : ∀ (k : Nat) (i : Int), 0 ≤ wy B y k i ∧ wy B y k i ≤ pw2 k
  | 0, i => pt_01
  | k + 1, i => by
    have h1 := wy_in (B := B) (y := y) k (2 * i)
    have h2 := wy_in (B := B) (y := y) k (2 * i + 1)
    have h4 := pw2_pos k
    have h5 : pw2 (k + 1) = 2 * pw2 k := rfl
    show 0 ≤ (if lyR B (7 - (k : Int)) i = true then wy B y k (2 * i) + wy B y k (2 * i + 1) else wy B y k (2 * i)) ∧ (if lyR B (7 - (k : Int)) i = true then wy B y k (2 * i) + wy B y k (2 * i + 1) else wy B y k (2 * i)) ≤ pw2 (k + 1)
    by_cases q : lyR B (7 - (k : Int)) i = true
    · rw [if_pos q, h5]; omega
    · rw [if_neg q, h5]; omega
theorem pt_wy {M : zM} {S : Int → Prop} {B : Int → Int64} {y : Int} (hp : pst M S) : ∀ (k : Nat) (c i : Int) (j : Nat), okN S c → k ≤ 8 → 8 - (k : Int) ≤ M 6 c → 0 ≤ i → i < pw2 (8 - k) → (∀ r : Int → Int, btF B (i * pw2 k + pd r k) = den M c r) → 8 - M 6 c ≤ j → pt M y j c = wy B y k i := by
  intro k
  induction k with
  | zero =>
    intro c i j hc _ h8 i0 i1 hB hj
    have t := pst_t hp hc (by omega)
    have z := hB (fun _ => 0)
    have e : i * pw2 0 + pd (fun _ => 0) 0 = i := by show i * 1 + 0 = i; omega
    rw [e, den_lt (show c < 2 by omega)] at z
    rw [pt_t (show c < 2 by omega)]
    show _ = if btF B i = y then 1 else 0
    rcases t with w | w
    · rw [z, w]; rfl
    · rw [z, w]; rfl
  | succ k ih =>
    intro c i j hc hk h8 i0 i1 hB hj
    have h5 : pw2 (k + 1) = 2 * pw2 k := rfl
    have h7 : pw2 (8 - k) = 2 * pw2 (8 - (k + 1)) := by rw [show 8 - k = (8 - (k + 1)) + 1 by omega]; rfl
    have ed : ((7 - (k : Int)).toNat) = 8 - (k + 1) := by omega
    have ly := lyR_ly (B := B) (d := 7 - (k : Int)) (i := i) (k := k) (by omega) (by omega) i0 (by rw [ed]; exact i1)
    have up : ∀ (r : Int → Int) (v : Int), i * pw2 (k + 1) + pd (updI r (7 - (k : Int)) v) (k + 1) = i * pw2 (k + 1) + bz v * pw2 k + pd r k := fun r v => by rw [pd_up]; omega
    have e2 : i * pw2 (k + 1) = 2 * i * pw2 k := by rw [h5, Int.mul_comm 2 i, Int.mul_assoc]
    have e3 : (2 * i + 1) * pw2 k = 2 * i * pw2 k + pw2 k := by rw [Int.add_mul, Int.one_mul]
    have lo : ∀ r : Int → Int, btF B (2 * i * pw2 k + pd r k) = den M c (updI r (7 - (k : Int)) 0) := fun r => by
      rw [← hB, up r 0, bz_0, e2]
      congr 1
      omega
    have hi : ∀ r : Int → Int, btF B ((2 * i + 1) * pw2 k + pd r k) = den M c (updI r (7 - (k : Int)) 1) := fun r => by
      rw [← hB, up r 1, bz_1, e2, e3]
      congr 1
      omega
    show _ = if lyR B (7 - (k : Int)) i = true then wy B y k (2 * i) + wy B y k (2 * i + 1) else wy B y k (2 * i)
    by_cases q : M 6 c = 7 - (k : Int)
    · have sc : S c := by
        rcases hc with w | w | w
        · rw [w, hp.1.1] at q; omega
        · rw [w, hp.1.2] at q; omega
        · exact w
      obtain ⟨rg, pl, ne, ⟨l1, l2⟩, ⟨u1, u2⟩⟩ := hp.2.1 c sc
      have hne : ¬ ∀ r : Int → Int, den M (M 7 c) r = den M (M 8 c) r := fun t => ne (den_inj hp l1 u1 (funext t))
      have lt : lyR B (7 - (k : Int)) i = true := by
        by_cases t : lyR B (7 - (k : Int)) i = true
        · exact t
        · exfalso
          refine hne (fun r => ?_)
          by_cases w : den M (M 7 c) r = den M (M 8 c) r
          · exact w
          · refine absurd (ly.mpr ⟨pd r k, pd_in r k, fun v => w ?_⟩) t
            have a1 := lo r
            have a2 := hi r
            rw [← q, den_low hp sc] at a1
            rw [← q, den_high hp sc (by decide)] at a2
            rw [← a1, ← a2, e3, ← e2, v]
            congr 1
            omega
      rw [if_pos lt]
      cases j with
      | zero => exfalso; omega
      | succ j =>
        show (if c < 2 then (if c = y then (1 : Int) else 0) else pt M y j (M 7 c) + pt M y j (M 8 c)) = _
        rw [if_neg (show ¬ c < 2 by omega), ih (M 7 c) (2 * i) j l1 (by omega) (by omega) (by omega) (by omega) (fun r => by rw [lo r, ← q]; exact den_low hp sc r) (by omega), ih (M 8 c) (2 * i + 1) j u1 (by omega) (by omega) (by omega) (by omega) (fun r => by rw [hi r, ← q]; exact den_high hp sc (by decide) r) (by omega)]
    · have gt : 7 - (k : Int) < M 6 c := by omega
      have lf : ¬ lyR B (7 - (k : Int)) i = true := fun t => by
        obtain ⟨p, pb, w⟩ := ly.mp t
        obtain ⟨r, er⟩ := pd_onto k p pb.1 pb.2
        have a1 := lo r
        have a2 := hi r
        rw [den_ig hp hc gt, er] at a1
        rw [den_ig hp hc gt, er, e3] at a2
        refine w ?_
        rw [e2, a1, ← a2]
        congr 1
        omega
      rw [if_neg lf]
      exact ih c (2 * i) j hc (by omega) (by omega) (by omega) (by omega) (fun r => by rw [lo r]; exact den_ig hp hc gt r) hj
