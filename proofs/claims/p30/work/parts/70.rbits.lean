section
/-! ===== the reference's bits as functions ===== -/
theorem bz_b (x : Int) : 0 ≤ bz x ∧ bz x ≤ 1 := by rcases bz_in x with e | e <;> rw [e] <;> decide
theorem pos_e (r : Int → Int) : pos r = bz (r 0) * 128 + bz (r 1) * 64 + bz (r 2) * 32 + bz (r 3) * 16 + bz (r 4) * 8 + bz (r 5) * 4 + bz (r 6) * 2 + bz (r 7) * 1 := by
  have h : pos r = (bz (r (7 - ((7 : Nat) : Int))) * pw2 7 + (bz (r (7 - ((6 : Nat) : Int))) * pw2 6 + (bz (r (7 - ((5 : Nat) : Int))) * pw2 5 + (bz (r (7 - ((4 : Nat) : Int))) * pw2 4 + (bz (r (7 - ((3 : Nat) : Int))) * pw2 3 + (bz (r (7 - ((2 : Nat) : Int))) * pw2 2 + (bz (r (7 - ((1 : Nat) : Int))) * pw2 1 + (bz (r (7 - ((0 : Nat) : Int))) * pw2 0 + 0)))))))) := rfl
  obtain ⟨w0, w1, w2, w3, w4, w5, w6, w7, -⟩ := pw2_v
  rw [h, w0, w1, w2, w3, w4, w5, w6, w7]
  rw [show (7 : Int) - ((0 : Nat) : Int) = 7 from rfl, show (7 : Int) - ((1 : Nat) : Int) = 6 from rfl, show (7 : Int) - ((2 : Nat) : Int) = 5 from rfl, show (7 : Int) - ((3 : Nat) : Int) = 4 from rfl, show (7 : Int) - ((4 : Nat) : Int) = 3 from rfl, show (7 : Int) - ((5 : Nat) : Int) = 2 from rfl, show (7 : Int) - ((6 : Nat) : Int) = 1 from rfl, show (7 : Int) - ((7 : Nat) : Int) = 0 from rfl]
  omega
/-- x with the bit of place p as c -/
def stb (x p c : Int) : Int := x - (x / pw2 (7 - p).toNat % 2) * pw2 (7 - p).toNat + c * pw2 (7 - p).toNat
theorem pos_bit {p : Int} (h0 : 0 ≤ p) (h1 : p ≤ 7) (r : Int → Int) : pos r / pw2 (7 - p).toNat % 2 = bz (r p) := by
  have e := pos_e r
  have b0 := bz_b (r 0)
  have b1 := bz_b (r 1)
  have b2 := bz_b (r 2)
  have b3 := bz_b (r 3)
  have b4 := bz_b (r 4)
  have b5 := bz_b (r 5)
  have b6 := bz_b (r 6)
  have b7 := bz_b (r 7)
  obtain ⟨w0, w1, w2, w3, w4, w5, w6, w7, -⟩ := pw2_v
  rcases (show p = 0 ∨ p = 1 ∨ p = 2 ∨ p = 3 ∨ p = 4 ∨ p = 5 ∨ p = 6 ∨ p = 7 by omega) with q | q | q | q | q | q | q | q <;> subst q
  · rw [show (7 - (0 : Int)).toNat = 7 from rfl, w7]; omega
  · rw [show (7 - (1 : Int)).toNat = 6 from rfl, w6]; omega
  · rw [show (7 - (2 : Int)).toNat = 5 from rfl, w5]; omega
  · rw [show (7 - (3 : Int)).toNat = 4 from rfl, w4]; omega
  · rw [show (7 - (4 : Int)).toNat = 3 from rfl, w3]; omega
  · rw [show (7 - (5 : Int)).toNat = 2 from rfl, w2]; omega
  · rw [show (7 - (6 : Int)).toNat = 1 from rfl, w1]; omega
  · rw [show (7 - (7 : Int)).toNat = 0 from rfl, w0]; omega
theorem pos_up {p c : Int} (h0 : 0 ≤ p) (h1 : p ≤ 7) (r : Int → Int) : pos (updI r p c) = stb (pos r) p (bz c) := by
  have e := pos_e r
  have b0 := bz_b (r 0)
  have b1 := bz_b (r 1)
  have b2 := bz_b (r 2)
  have b3 := bz_b (r 3)
  have b4 := bz_b (r 4)
  have b5 := bz_b (r 5)
  have b6 := bz_b (r 6)
  have b7 := bz_b (r 7)
  have bc := bz_b c
  have e2 := pos_e (updI r p c)
  obtain ⟨w0, w1, w2, w3, w4, w5, w6, w7, -⟩ := pw2_v
  rcases (show p = 0 ∨ p = 1 ∨ p = 2 ∨ p = 3 ∨ p = 4 ∨ p = 5 ∨ p = 6 ∨ p = 7 by omega) with q | q | q | q | q | q | q | q <;> subst q
  · rw [updI_s, updI_n (show (1 : Int) ≠ 0 by decide), updI_n (show (2 : Int) ≠ 0 by decide), updI_n (show (3 : Int) ≠ 0 by decide), updI_n (show (4 : Int) ≠ 0 by decide), updI_n (show (5 : Int) ≠ 0 by decide), updI_n (show (6 : Int) ≠ 0 by decide), updI_n (show (7 : Int) ≠ 0 by decide)] at e2
    unfold stb
    rw [show (7 - (0 : Int)).toNat = 7 from rfl, w7]
    omega
  · rw [updI_s, updI_n (show (0 : Int) ≠ 1 by decide), updI_n (show (2 : Int) ≠ 1 by decide), updI_n (show (3 : Int) ≠ 1 by decide), updI_n (show (4 : Int) ≠ 1 by decide), updI_n (show (5 : Int) ≠ 1 by decide), updI_n (show (6 : Int) ≠ 1 by decide), updI_n (show (7 : Int) ≠ 1 by decide)] at e2
    unfold stb
    rw [show (7 - (1 : Int)).toNat = 6 from rfl, w6]
    omega
  · rw [updI_s, updI_n (show (0 : Int) ≠ 2 by decide), updI_n (show (1 : Int) ≠ 2 by decide), updI_n (show (3 : Int) ≠ 2 by decide), updI_n (show (4 : Int) ≠ 2 by decide), updI_n (show (5 : Int) ≠ 2 by decide), updI_n (show (6 : Int) ≠ 2 by decide), updI_n (show (7 : Int) ≠ 2 by decide)] at e2
    unfold stb
    rw [show (7 - (2 : Int)).toNat = 5 from rfl, w5]
    omega
  · rw [updI_s, updI_n (show (0 : Int) ≠ 3 by decide), updI_n (show (1 : Int) ≠ 3 by decide), updI_n (show (2 : Int) ≠ 3 by decide), updI_n (show (4 : Int) ≠ 3 by decide), updI_n (show (5 : Int) ≠ 3 by decide), updI_n (show (6 : Int) ≠ 3 by decide), updI_n (show (7 : Int) ≠ 3 by decide)] at e2
    unfold stb
    rw [show (7 - (3 : Int)).toNat = 4 from rfl, w4]
    omega
  · rw [updI_s, updI_n (show (0 : Int) ≠ 4 by decide), updI_n (show (1 : Int) ≠ 4 by decide), updI_n (show (2 : Int) ≠ 4 by decide), updI_n (show (3 : Int) ≠ 4 by decide), updI_n (show (5 : Int) ≠ 4 by decide), updI_n (show (6 : Int) ≠ 4 by decide), updI_n (show (7 : Int) ≠ 4 by decide)] at e2
    unfold stb
    rw [show (7 - (4 : Int)).toNat = 3 from rfl, w3]
    omega
  · rw [updI_s, updI_n (show (0 : Int) ≠ 5 by decide), updI_n (show (1 : Int) ≠ 5 by decide), updI_n (show (2 : Int) ≠ 5 by decide), updI_n (show (3 : Int) ≠ 5 by decide), updI_n (show (4 : Int) ≠ 5 by decide), updI_n (show (6 : Int) ≠ 5 by decide), updI_n (show (7 : Int) ≠ 5 by decide)] at e2
    unfold stb
    rw [show (7 - (5 : Int)).toNat = 2 from rfl, w2]
    omega
  · rw [updI_s, updI_n (show (0 : Int) ≠ 6 by decide), updI_n (show (1 : Int) ≠ 6 by decide), updI_n (show (2 : Int) ≠ 6 by decide), updI_n (show (3 : Int) ≠ 6 by decide), updI_n (show (4 : Int) ≠ 6 by decide), updI_n (show (5 : Int) ≠ 6 by decide), updI_n (show (7 : Int) ≠ 6 by decide)] at e2
    unfold stb
    rw [show (7 - (6 : Int)).toNat = 1 from rfl, w1]
    omega
  · rw [updI_s, updI_n (show (0 : Int) ≠ 7 by decide), updI_n (show (1 : Int) ≠ 7 by decide), updI_n (show (2 : Int) ≠ 7 by decide), updI_n (show (3 : Int) ≠ 7 by decide), updI_n (show (4 : Int) ≠ 7 by decide), updI_n (show (5 : Int) ≠ 7 by decide), updI_n (show (6 : Int) ≠ 7 by decide)] at e2
    unfold stb
    rw [show (7 - (7 : Int)).toNat = 0 from rfl, w0]
    omega
theorem vb_t : ∀ (p : Fin 8) (x : Fin 256), btF (vbF whF (p.val : Int)) (x.val : Int) = (x.val : Int) / pw2 (7 - p.val) % 2 := by decide +kernel
theorem vbF_w {W : Int → Int64} {p k : Int} (p1 : p ≤ 7) (hW : ∀ q : Int, 2 ≤ q → q ≤ 7 → W q = whF q) : vbF W p k = vbF whF p k := by
  unfold vbF
  by_cases h : 1 < p
  · rw [if_pos h, if_pos h]; exact hW p (by omega) p1
  · rw [if_neg h, if_neg h]
theorem phi_var {J J' : zJ} {f p : Int} (p0 : 0 ≤ p) (p1 : p ≤ 7) (hW : ∀ q : Int, 2 ≤ q → q ≤ 7 → J 54 q = whF q) (h : ∀ k : Int, 0 ≤ k → k < 4 → J' 44 (4 * f + k) = vbF (J 54) p k) : phi J' f = fun r => bz (r p) := by
  funext r
  have hp := pos_in r
  show btF (bitF J' f) (pos r) = _
  rw [btF_congr (B := bitF J' f) (B' := vbF whF p) (fun k k0 k1 => (h k k0 k1).trans (vbF_w p1 hW)) hp.1 hp.2, ← pos_bit p0 p1 r]
  have q := vb_t ⟨p.toNat, by omega⟩ ⟨(pos r).toNat, by omega⟩
  dsimp only at q
  rw [Int.toNat_of_nonneg p0, Int.toNat_of_nonneg hp.1] at q
  rw [q, show (7 - p).toNat = 7 - p.toNat by omega]
/-- a half's word -/
def hfW (W : Int → Int64) (p y : Int) (B : Int → Int64) (q : Int) : Int64 := if p < 2 then (if y = 0 then B (zand q (zxor (if p = 0 then 2 else 1) (-1))) else B (zor q (if p = 0 then 2 else 1))) else (if y = 0 then (B q &&& (W p ^^^ -1)) ||| zlshl (B q &&& (W p ^^^ -1)) (zshl 1 (7 - p)) else (B q &&& W p) ||| zlushr (B q &&& W p) (zshl 1 (7 - p)))
theorem hf_y {b v : Int64} {s : Int} {m j : Nat} (hs : s = m) (hm : m < 64) (h1 : wb v j = true) (h2 : wb v (m + j) = false) : wb ((b &&& v) ||| zlushr (b &&& v) s) j = wb b j := by
  rw [wb_or, wb_ushr (by omega) (by omega), wb_and, wb_and, show s.toNat = m by omega, h1, h2]
  cases wb b j <;> cases wb b (m + j) <;> rfl
theorem hf_y2 {b v : Int64} {s : Int} {m j : Nat} (hs : s = m) (hm : m < 64) (h1 : wb v j = false) (h2 : wb v (m + j) = true) : wb ((b &&& v) ||| zlushr (b &&& v) s) j = wb b (m + j) := by
  rw [wb_or, wb_ushr (by omega) (by omega), wb_and, wb_and, show s.toNat = m by omega, h1, h2]
  cases wb b j <;> cases wb b (m + j) <;> rfl
theorem wb_not {v : Int64} {j : Nat} (hj : j < 64) : wb (v ^^^ -1) j = !wb v j := by
  rw [wb_xor, wb_m1 ⟨j, hj⟩]
  cases wb v j <;> rfl
theorem hf_n {b v : Int64} {s : Int} {m j : Nat} (hs : s = m) (hm : m < 64) (hj : j < 64) (h1 : wb v j = false) (h2 : m ≤ j → wb v (j - m) = true) : wb ((b &&& (v ^^^ -1)) ||| zlshl (b &&& (v ^^^ -1)) s) j = wb b j := by
  rw [wb_or, wb_shl (by omega) (by omega) hj, wb_and, wb_and, show s.toNat = m by omega, wb_not hj, wb_not (show j - m < 64 by omega), h1]
  by_cases q : m ≤ j
  · rw [h2 q]
    cases wb b j <;> cases wb b (j - m) <;> simp
  · rw [decide_eq_true (show j < m by omega)]
    cases wb b j <;> simp
theorem hf_n2 {b v : Int64} {s : Int} {m j : Nat} (hs : s = m) (hm : m < 64) (hj : j < 64) (h1 : wb v j = true) (h2 : m ≤ j) (h3 : wb v (j - m) = false) : wb ((b &&& (v ^^^ -1)) ||| zlshl (b &&& (v ^^^ -1)) s) j = wb b (j - m) := by
  rw [wb_or, wb_shl (by omega) (by omega) hj, wb_and, wb_and, show s.toNat = m by omega, wb_not hj, wb_not (show j - m < 64 by omega), h1, h3, decide_eq_false (show ¬ j < m by omega)]
  cases wb b j <;> cases wb b (j - m) <;> rfl
theorem wm_t : ∀ (p : Fin 6) (j : Fin 64), (j.val / 2 ^ (5 - p.val) % 2 = 1 → wb (whF (p.val + 2 : Nat)) j.val = true ∧ wb (whF (p.val + 2 : Nat)) (2 ^ (5 - p.val) + j.val) = false ∧ 2 ^ (5 - p.val) ≤ j.val ∧ wb (whF (p.val + 2 : Nat)) (j.val - 2 ^ (5 - p.val)) = false) ∧ (j.val / 2 ^ (5 - p.val) % 2 = 0 → wb (whF (p.val + 2 : Nat)) j.val = false ∧ wb (whF (p.val + 2 : Nat)) (2 ^ (5 - p.val) + j.val) = true ∧ (2 ^ (5 - p.val) ≤ j.val → wb (whF (p.val + 2 : Nat)) (j.val - 2 ^ (5 - p.val)) = true)) := by decide +kernel
theorem wq_t : ∀ q : Fin 4, zor (q.val : Int) 2 = (q.val : Int) - (q.val : Int) / 2 % 2 * 2 + 2 ∧ zand (q.val : Int) (zxor 2 (-1)) = (q.val : Int) - (q.val : Int) / 2 % 2 * 2 ∧ zor (q.val : Int) 1 = (q.val : Int) - (q.val : Int) % 2 + 1 ∧ zand (q.val : Int) (zxor 1 (-1)) = (q.val : Int) - (q.val : Int) % 2 := by decide +kernel
theorem wq_e {q : Int} (h0 : 0 ≤ q) (h1 : q < 4) : zor q 2 = q - q / 2 % 2 * 2 + 2 ∧ zand q (zxor 2 (-1)) = q - q / 2 % 2 * 2 ∧ zor q 1 = q - q % 2 + 1 ∧ zand q (zxor 1 (-1)) = q - q % 2 := by
  have z := wq_t ⟨q.toNat, by omega⟩
  dsimp only at z
  rw [Int.toNat_of_nonneg h0] at z
  exact z
theorem sh_v : zshl 1 (7 - 2) = ((32 : Nat) : Int) ∧ zshl 1 (7 - 3) = ((16 : Nat) : Int) ∧ zshl 1 (7 - 4) = ((8 : Nat) : Int) ∧ zshl 1 (7 - 5) = ((4 : Nat) : Int) ∧ zshl 1 (7 - 6) = ((2 : Nat) : Int) ∧ zshl 1 (7 - 7) = ((1 : Nat) : Int) := by decide +kernel
theorem hf_ok {B : Int → Int64} {p y x : Int} (p0 : 0 ≤ p) (p1 : p ≤ 7) (x0 : 0 ≤ x) (x1 : x < 256) : btF (hfW whF p y B) x = btF B (stb x p (if y = 0 then 0 else 1)) := by
  obtain ⟨w0, w1, w2, w3, w4, w5, w6, w7, -⟩ := pw2_v
  obtain ⟨s2, s3, s4, s5, s6, s7⟩ := sh_v
  have hq := wq_e (q := x / 64) (by omega) (by omega)
  obtain ⟨c, hc, c0, c1⟩ : ∃ c : Int, (if y = 0 then 0 else 1) = c ∧ (y = 0 → c = 0) ∧ (¬ y = 0 → c = 1) := ⟨_, rfl, fun e => if_pos e, fun e => if_neg e⟩
  rw [hc]
  rcases (show p = 0 ∨ p = 1 ∨ p = 2 ∨ p = 3 ∨ p = 4 ∨ p = 5 ∨ p = 6 ∨ p = 7 by omega) with q | q | q | q | q | q | q | q <;> subst q
  · have e : stb x 0 c = x - (x / 128 % 2) * 128 + c * 128 := by unfold stb; rw [show (7 - (0 : Int)).toNat = 7 from rfl, w7]
    rw [e]
    clear e
    clear hc w0 w1 w2 w3 w4 w5 w6 w7
    by_cases hy : y = 0
    · rw [c0 hy, btF_eq x0 x1 (by omega) (by omega)]
      unfold hfW
      rw [if_pos (show (0 : Int) < 2 by decide), if_pos hy, if_pos (show (0 : Int) = 0 by decide)]
      rw [hq.2.1, show (x - (x / 128 % 2) * 128 + 0 * 128) / 64 = (x / 64 - x / 64 / 2 % 2 * 2) by omega, show (x - (x / 128 % 2) * 128 + 0 * 128) % 64 = x % 64 by omega]
    · rw [c1 hy, btF_eq x0 x1 (by omega) (by omega)]
      unfold hfW
      rw [if_pos (show (0 : Int) < 2 by decide), if_neg hy, if_pos (show (0 : Int) = 0 by decide)]
      rw [hq.1, show (x - (x / 128 % 2) * 128 + 1 * 128) / 64 = (x / 64 - x / 64 / 2 % 2 * 2 + 2) by omega, show (x - (x / 128 % 2) * 128 + 1 * 128) % 64 = x % 64 by omega]
  · have e : stb x 1 c = x - (x / 64 % 2) * 64 + c * 64 := by unfold stb; rw [show (7 - (1 : Int)).toNat = 6 from rfl, w6]
    rw [e]
    clear e
    clear hc w0 w1 w2 w3 w4 w5 w6 w7
    by_cases hy : y = 0
    · rw [c0 hy, btF_eq x0 x1 (by omega) (by omega)]
      unfold hfW
      rw [if_pos (show (1 : Int) < 2 by decide), if_pos hy, if_neg (show ¬ (1 : Int) = 0 by decide)]
      rw [hq.2.2.2, show (x - (x / 64 % 2) * 64 + 0 * 64) / 64 = (x / 64 - x / 64 % 2) by omega, show (x - (x / 64 % 2) * 64 + 0 * 64) % 64 = x % 64 by omega]
    · rw [c1 hy, btF_eq x0 x1 (by omega) (by omega)]
      unfold hfW
      rw [if_pos (show (1 : Int) < 2 by decide), if_neg hy, if_neg (show ¬ (1 : Int) = 0 by decide)]
      rw [hq.2.2.1, show (x - (x / 64 % 2) * 64 + 1 * 64) / 64 = (x / 64 - x / 64 % 2 + 1) by omega, show (x - (x / 64 % 2) * 64 + 1 * 64) % 64 = x % 64 by omega]
  · have e : stb x 2 c = x - (x / 32 % 2) * 32 + c * 32 := by unfold stb; rw [show (7 - (2 : Int)).toNat = 5 from rfl, w5]
    rw [e]
    clear e
    clear hc w0 w1 w2 w3 w4 w5 w6 w7 hq
    have t := wm_t ⟨0, by decide⟩ ⟨(x % 64).toNat, by omega⟩
    dsimp only at t
    rw [show ((0 + 2 : Nat) : Int) = 2 from rfl, show 2 ^ (5 - 0) = 32 from rfl] at t
    have hj : (x % 64).toNat < 64 := by omega
    by_cases hb : (x % 64).toNat / 32 % 2 = 1
    · obtain ⟨t1, t2, t3, t4⟩ := t.1 hb
      clear t
      by_cases hy : y = 0
      · rw [c0 hy, btF_eq x0 x1 (by omega) (by omega)]
        unfold hfW
        rw [if_neg (show ¬ (2 : Int) < 2 by decide), if_pos hy]
        rw [show (x - (x / 32 % 2) * 32 + 0 * 32) / 64 = x / 64 by omega]
        rw [show ((x - (x / 32 % 2) * 32 + 0 * 32) % 64).toNat = (x % 64).toNat - 32 by omega]
        exact hf_n2 s2 (by decide) hj t1 t3 t4
      · rw [c1 hy, btF_eq x0 x1 (by omega) (by omega)]
        unfold hfW
        rw [if_neg (show ¬ (2 : Int) < 2 by decide), if_neg hy]
        rw [show (x - (x / 32 % 2) * 32 + 1 * 32) / 64 = x / 64 by omega]
        rw [show ((x - (x / 32 % 2) * 32 + 1 * 32) % 64).toNat = (x % 64).toNat by omega]
        exact hf_y s2 (by decide) t1 t2
    · obtain ⟨t1, t2, t3⟩ := t.2 (by omega)
      clear t
      by_cases hy : y = 0
      · rw [c0 hy, btF_eq x0 x1 (by omega) (by omega)]
        unfold hfW
        rw [if_neg (show ¬ (2 : Int) < 2 by decide), if_pos hy]
        rw [show (x - (x / 32 % 2) * 32 + 0 * 32) / 64 = x / 64 by omega]
        rw [show ((x - (x / 32 % 2) * 32 + 0 * 32) % 64).toNat = (x % 64).toNat by omega]
        exact hf_n s2 (by decide) hj t1 t3
      · rw [c1 hy, btF_eq x0 x1 (by omega) (by omega)]
        unfold hfW
        rw [if_neg (show ¬ (2 : Int) < 2 by decide), if_neg hy]
        rw [show (x - (x / 32 % 2) * 32 + 1 * 32) / 64 = x / 64 by omega]
        rw [show ((x - (x / 32 % 2) * 32 + 1 * 32) % 64).toNat = 32 + (x % 64).toNat by omega]
        exact hf_y2 s2 (by decide) t1 t2
  · have e : stb x 3 c = x - (x / 16 % 2) * 16 + c * 16 := by unfold stb; rw [show (7 - (3 : Int)).toNat = 4 from rfl, w4]
    rw [e]
    clear e
    clear hc w0 w1 w2 w3 w4 w5 w6 w7 hq
    have t := wm_t ⟨1, by decide⟩ ⟨(x % 64).toNat, by omega⟩
    dsimp only at t
    rw [show ((1 + 2 : Nat) : Int) = 3 from rfl, show 2 ^ (5 - 1) = 16 from rfl] at t
    have hj : (x % 64).toNat < 64 := by omega
    by_cases hb : (x % 64).toNat / 16 % 2 = 1
    · obtain ⟨t1, t2, t3, t4⟩ := t.1 hb
      clear t
      by_cases hy : y = 0
      · rw [c0 hy, btF_eq x0 x1 (by omega) (by omega)]
        unfold hfW
        rw [if_neg (show ¬ (3 : Int) < 2 by decide), if_pos hy]
        rw [show (x - (x / 16 % 2) * 16 + 0 * 16) / 64 = x / 64 by omega]
        rw [show ((x - (x / 16 % 2) * 16 + 0 * 16) % 64).toNat = (x % 64).toNat - 16 by omega]
        exact hf_n2 s3 (by decide) hj t1 t3 t4
      · rw [c1 hy, btF_eq x0 x1 (by omega) (by omega)]
        unfold hfW
        rw [if_neg (show ¬ (3 : Int) < 2 by decide), if_neg hy]
        rw [show (x - (x / 16 % 2) * 16 + 1 * 16) / 64 = x / 64 by omega]
        rw [show ((x - (x / 16 % 2) * 16 + 1 * 16) % 64).toNat = (x % 64).toNat by omega]
        exact hf_y s3 (by decide) t1 t2
    · obtain ⟨t1, t2, t3⟩ := t.2 (by omega)
      clear t
      by_cases hy : y = 0
      · rw [c0 hy, btF_eq x0 x1 (by omega) (by omega)]
        unfold hfW
        rw [if_neg (show ¬ (3 : Int) < 2 by decide), if_pos hy]
        rw [show (x - (x / 16 % 2) * 16 + 0 * 16) / 64 = x / 64 by omega]
        rw [show ((x - (x / 16 % 2) * 16 + 0 * 16) % 64).toNat = (x % 64).toNat by omega]
        exact hf_n s3 (by decide) hj t1 t3
      · rw [c1 hy, btF_eq x0 x1 (by omega) (by omega)]
        unfold hfW
        rw [if_neg (show ¬ (3 : Int) < 2 by decide), if_neg hy]
        rw [show (x - (x / 16 % 2) * 16 + 1 * 16) / 64 = x / 64 by omega]
        rw [show ((x - (x / 16 % 2) * 16 + 1 * 16) % 64).toNat = 16 + (x % 64).toNat by omega]
        exact hf_y2 s3 (by decide) t1 t2
  · have e : stb x 4 c = x - (x / 8 % 2) * 8 + c * 8 := by unfold stb; rw [show (7 - (4 : Int)).toNat = 3 from rfl, w3]
    rw [e]
    clear e
    clear hc w0 w1 w2 w3 w4 w5 w6 w7 hq
    have t := wm_t ⟨2, by decide⟩ ⟨(x % 64).toNat, by omega⟩
    dsimp only at t
    rw [show ((2 + 2 : Nat) : Int) = 4 from rfl, show 2 ^ (5 - 2) = 8 from rfl] at t
    have hj : (x % 64).toNat < 64 := by omega
    by_cases hb : (x % 64).toNat / 8 % 2 = 1
    · obtain ⟨t1, t2, t3, t4⟩ := t.1 hb
      clear t
      by_cases hy : y = 0
      · rw [c0 hy, btF_eq x0 x1 (by omega) (by omega)]
        unfold hfW
        rw [if_neg (show ¬ (4 : Int) < 2 by decide), if_pos hy]
        rw [show (x - (x / 8 % 2) * 8 + 0 * 8) / 64 = x / 64 by omega]
        rw [show ((x - (x / 8 % 2) * 8 + 0 * 8) % 64).toNat = (x % 64).toNat - 8 by omega]
        exact hf_n2 s4 (by decide) hj t1 t3 t4
      · rw [c1 hy, btF_eq x0 x1 (by omega) (by omega)]
        unfold hfW
        rw [if_neg (show ¬ (4 : Int) < 2 by decide), if_neg hy]
        rw [show (x - (x / 8 % 2) * 8 + 1 * 8) / 64 = x / 64 by omega]
        rw [show ((x - (x / 8 % 2) * 8 + 1 * 8) % 64).toNat = (x % 64).toNat by omega]
        exact hf_y s4 (by decide) t1 t2
    · obtain ⟨t1, t2, t3⟩ := t.2 (by omega)
      clear t
      by_cases hy : y = 0
      · rw [c0 hy, btF_eq x0 x1 (by omega) (by omega)]
        unfold hfW
        rw [if_neg (show ¬ (4 : Int) < 2 by decide), if_pos hy]
        rw [show (x - (x / 8 % 2) * 8 + 0 * 8) / 64 = x / 64 by omega]
        rw [show ((x - (x / 8 % 2) * 8 + 0 * 8) % 64).toNat = (x % 64).toNat by omega]
        exact hf_n s4 (by decide) hj t1 t3
      · rw [c1 hy, btF_eq x0 x1 (by omega) (by omega)]
        unfold hfW
        rw [if_neg (show ¬ (4 : Int) < 2 by decide), if_neg hy]
        rw [show (x - (x / 8 % 2) * 8 + 1 * 8) / 64 = x / 64 by omega]
        rw [show ((x - (x / 8 % 2) * 8 + 1 * 8) % 64).toNat = 8 + (x % 64).toNat by omega]
        exact hf_y2 s4 (by decide) t1 t2
  · have e : stb x 5 c = x - (x / 4 % 2) * 4 + c * 4 := by unfold stb; rw [show (7 - (5 : Int)).toNat = 2 from rfl, w2]
    rw [e]
    clear e
    clear hc w0 w1 w2 w3 w4 w5 w6 w7 hq
    have t := wm_t ⟨3, by decide⟩ ⟨(x % 64).toNat, by omega⟩
    dsimp only at t
    rw [show ((3 + 2 : Nat) : Int) = 5 from rfl, show 2 ^ (5 - 3) = 4 from rfl] at t
    have hj : (x % 64).toNat < 64 := by omega
    by_cases hb : (x % 64).toNat / 4 % 2 = 1
    · obtain ⟨t1, t2, t3, t4⟩ := t.1 hb
      clear t
      by_cases hy : y = 0
      · rw [c0 hy, btF_eq x0 x1 (by omega) (by omega)]
        unfold hfW
        rw [if_neg (show ¬ (5 : Int) < 2 by decide), if_pos hy]
        rw [show (x - (x / 4 % 2) * 4 + 0 * 4) / 64 = x / 64 by omega]
        rw [show ((x - (x / 4 % 2) * 4 + 0 * 4) % 64).toNat = (x % 64).toNat - 4 by omega]
        exact hf_n2 s5 (by decide) hj t1 t3 t4
      · rw [c1 hy, btF_eq x0 x1 (by omega) (by omega)]
        unfold hfW
        rw [if_neg (show ¬ (5 : Int) < 2 by decide), if_neg hy]
        rw [show (x - (x / 4 % 2) * 4 + 1 * 4) / 64 = x / 64 by omega]
        rw [show ((x - (x / 4 % 2) * 4 + 1 * 4) % 64).toNat = (x % 64).toNat by omega]
        exact hf_y s5 (by decide) t1 t2
    · obtain ⟨t1, t2, t3⟩ := t.2 (by omega)
      clear t
      by_cases hy : y = 0
      · rw [c0 hy, btF_eq x0 x1 (by omega) (by omega)]
        unfold hfW
        rw [if_neg (show ¬ (5 : Int) < 2 by decide), if_pos hy]
        rw [show (x - (x / 4 % 2) * 4 + 0 * 4) / 64 = x / 64 by omega]
        rw [show ((x - (x / 4 % 2) * 4 + 0 * 4) % 64).toNat = (x % 64).toNat by omega]
        exact hf_n s5 (by decide) hj t1 t3
      · rw [c1 hy, btF_eq x0 x1 (by omega) (by omega)]
        unfold hfW
        rw [if_neg (show ¬ (5 : Int) < 2 by decide), if_neg hy]
        rw [show (x - (x / 4 % 2) * 4 + 1 * 4) / 64 = x / 64 by omega]
        rw [show ((x - (x / 4 % 2) * 4 + 1 * 4) % 64).toNat = 4 + (x % 64).toNat by omega]
        exact hf_y2 s5 (by decide) t1 t2
  · have e : stb x 6 c = x - (x / 2 % 2) * 2 + c * 2 := by unfold stb; rw [show (7 - (6 : Int)).toNat = 1 from rfl, w1]
    rw [e]
    clear e
    clear hc w0 w1 w2 w3 w4 w5 w6 w7 hq
    have t := wm_t ⟨4, by decide⟩ ⟨(x % 64).toNat, by omega⟩
    dsimp only at t
    rw [show ((4 + 2 : Nat) : Int) = 6 from rfl, show 2 ^ (5 - 4) = 2 from rfl] at t
    have hj : (x % 64).toNat < 64 := by omega
    by_cases hb : (x % 64).toNat / 2 % 2 = 1
    · obtain ⟨t1, t2, t3, t4⟩ := t.1 hb
      clear t
      by_cases hy : y = 0
      · rw [c0 hy, btF_eq x0 x1 (by omega) (by omega)]
        unfold hfW
        rw [if_neg (show ¬ (6 : Int) < 2 by decide), if_pos hy]
        rw [show (x - (x / 2 % 2) * 2 + 0 * 2) / 64 = x / 64 by omega]
        rw [show ((x - (x / 2 % 2) * 2 + 0 * 2) % 64).toNat = (x % 64).toNat - 2 by omega]
        exact hf_n2 s6 (by decide) hj t1 t3 t4
      · rw [c1 hy, btF_eq x0 x1 (by omega) (by omega)]
        unfold hfW
        rw [if_neg (show ¬ (6 : Int) < 2 by decide), if_neg hy]
        rw [show (x - (x / 2 % 2) * 2 + 1 * 2) / 64 = x / 64 by omega]
        rw [show ((x - (x / 2 % 2) * 2 + 1 * 2) % 64).toNat = (x % 64).toNat by omega]
        exact hf_y s6 (by decide) t1 t2
    · obtain ⟨t1, t2, t3⟩ := t.2 (by omega)
      clear t
      by_cases hy : y = 0
      · rw [c0 hy, btF_eq x0 x1 (by omega) (by omega)]
        unfold hfW
        rw [if_neg (show ¬ (6 : Int) < 2 by decide), if_pos hy]
        rw [show (x - (x / 2 % 2) * 2 + 0 * 2) / 64 = x / 64 by omega]
        rw [show ((x - (x / 2 % 2) * 2 + 0 * 2) % 64).toNat = (x % 64).toNat by omega]
        exact hf_n s6 (by decide) hj t1 t3
      · rw [c1 hy, btF_eq x0 x1 (by omega) (by omega)]
        unfold hfW
        rw [if_neg (show ¬ (6 : Int) < 2 by decide), if_neg hy]
        rw [show (x - (x / 2 % 2) * 2 + 1 * 2) / 64 = x / 64 by omega]
        rw [show ((x - (x / 2 % 2) * 2 + 1 * 2) % 64).toNat = 2 + (x % 64).toNat by omega]
        exact hf_y2 s6 (by decide) t1 t2
  · have e : stb x 7 c = x - (x / 1 % 2) * 1 + c * 1 := by unfold stb; rw [show (7 - (7 : Int)).toNat = 0 from rfl, w0]
    rw [e]
    clear e
    clear hc w0 w1 w2 w3 w4 w5 w6 w7 hq
    have t := wm_t ⟨5, by decide⟩ ⟨(x % 64).toNat, by omega⟩
    dsimp only at t
    rw [show ((5 + 2 : Nat) : Int) = 7 from rfl, show 2 ^ (5 - 5) = 1 from rfl] at t
    have hj : (x % 64).toNat < 64 := by omega
    by_cases hb : (x % 64).toNat / 1 % 2 = 1
    · obtain ⟨t1, t2, t3, t4⟩ := t.1 hb
      clear t
      by_cases hy : y = 0
      · rw [c0 hy, btF_eq x0 x1 (by omega) (by omega)]
        unfold hfW
        rw [if_neg (show ¬ (7 : Int) < 2 by decide), if_pos hy]
        rw [show (x - (x / 1 % 2) * 1 + 0 * 1) / 64 = x / 64 by omega]
        rw [show ((x - (x / 1 % 2) * 1 + 0 * 1) % 64).toNat = (x % 64).toNat - 1 by omega]
        exact hf_n2 s7 (by decide) hj t1 t3 t4
      · rw [c1 hy, btF_eq x0 x1 (by omega) (by omega)]
        unfold hfW
        rw [if_neg (show ¬ (7 : Int) < 2 by decide), if_neg hy]
        rw [show (x - (x / 1 % 2) * 1 + 1 * 1) / 64 = x / 64 by omega]
        rw [show ((x - (x / 1 % 2) * 1 + 1 * 1) % 64).toNat = (x % 64).toNat by omega]
        exact hf_y s7 (by decide) t1 t2
    · obtain ⟨t1, t2, t3⟩ := t.2 (by omega)
      clear t
      by_cases hy : y = 0
      · rw [c0 hy, btF_eq x0 x1 (by omega) (by omega)]
        unfold hfW
        rw [if_neg (show ¬ (7 : Int) < 2 by decide), if_pos hy]
        rw [show (x - (x / 1 % 2) * 1 + 0 * 1) / 64 = x / 64 by omega]
        rw [show ((x - (x / 1 % 2) * 1 + 0 * 1) % 64).toNat = (x % 64).toNat by omega]
        exact hf_n s7 (by decide) hj t1 t3
      · rw [c1 hy, btF_eq x0 x1 (by omega) (by omega)]
        unfold hfW
        rw [if_neg (show ¬ (7 : Int) < 2 by decide), if_neg hy]
        rw [show (x - (x / 1 % 2) * 1 + 1 * 1) / 64 = x / 64 by omega]
        rw [show ((x - (x / 1 % 2) * 1 + 1 * 1) % 64).toNat = 1 + (x % 64).toNat by omega]
        exact hf_y2 s7 (by decide) t1 t2
theorem hfW_w {W : Int → Int64} {p y q : Int} {B : Int → Int64} (p1 : p ≤ 7) (hW : ∀ q : Int, 2 ≤ q → q ≤ 7 → W q = whF q) : hfW W p y B q = hfW whF p y B q := by
  unfold hfW
  by_cases h : p < 2
  · rw [if_pos h, if_pos h]
  · rw [if_neg h, if_neg h, hW p (by omega) p1]
theorem phi_half {J J' : zJ} {t f p y : Int} (p0 : 0 ≤ p) (p1 : p ≤ 7) (hW : ∀ q : Int, 2 ≤ q → q ≤ 7 → J 54 q = whF q) (h : ∀ q : Int, 0 ≤ q → q < 4 → J' 44 (4 * t + q) = hfW (J 54) p y (bitF J f) q) : phi J' t = fun r => phi J f (updI r p (if y = 0 then 0 else 1)) := by
  funext r
  have hp := pos_in r
  show btF (bitF J' t) (pos r) = btF (bitF J f) (pos (updI r p (if y = 0 then 0 else 1)))
  rw [btF_congr (B := bitF J' t) (B' := hfW whF p y (bitF J f)) (fun k k0 k1 => (h k k0 k1).trans (hfW_w p1 hW)) hp.1 hp.2, hf_ok p0 p1 hp.1 hp.2, pos_up p0 p1 r]
  by_cases e : y = 0
  · rw [if_pos e, bz_0]
  · rw [if_neg e, bz_1]
def b01 (b : Bool) : Int := if b = true then 1 else 0
theorem jn_t : ∀ a b : Bool, b01 false = tbl (tabF 1) 0 0 0 ∧ b01 true = tbl (tabF 2) 0 0 0 ∧ b01 (!a) = tbl (tabF 3) (b01 a) 0 0 ∧ b01 (a && b) = tbl (tabF 4) (b01 a) (b01 b) 0 ∧ b01 (a || b) = tbl (tabF 5) (b01 a) (b01 b) 0 ∧ b01 (a ^^ b) = tbl (tabF 6) (b01 a) (b01 b) 0 ∧ b01 (!(a && b)) = tbl (tabF 7) (b01 a) (b01 b) 0 ∧ b01 (!(a || b)) = tbl (tabF 8) (b01 a) (b01 b) 0 ∧ b01 (!(a ^^ b)) = tbl (tabF 9) (b01 a) (b01 b) 0 := by decide +kernel
theorem ch_t : ∀ a b c : Bool, b01 ((a && b) || (!a && c)) = tbl (tabF 10) (b01 a) (b01 b) (b01 c) := by decide +kernel
theorem jn_wb {k : Int} {x y : Int64} {j : Nat} (k0 : 0 < k) (k1 : k ≤ 9) (hj : j < 64) : b01 (wb (joinF k x y) j) = tbl (tabF k) (if k < 3 then 0 else b01 (wb x j)) (if k ≤ 3 then 0 else b01 (wb y j)) 0 := by
  obtain ⟨t1, t2, t3, t4, t5, t6, t7, t8, t9⟩ := jn_t (wb x j) (wb y j)
  rcases (show k = 1 ∨ k = 2 ∨ k = 3 ∨ k = 4 ∨ k = 5 ∨ k = 6 ∨ k = 7 ∨ k = 8 ∨ k = 9 by omega) with q | q | q | q | q | q | q | q | q <;> subst q
  · rw [show joinF 1 x y = 0 from rfl, wb_0, if_pos (show (1 : Int) < 3 by decide), if_pos (show (1 : Int) ≤ 3 by decide)]; exact t1
  · rw [show joinF 2 x y = -1 from rfl, wb_m1 ⟨j, hj⟩, if_pos (show (2 : Int) < 3 by decide), if_pos (show (2 : Int) ≤ 3 by decide)]; exact t2
  · rw [show joinF 3 x y = x ^^^ -1 from rfl, wb_not hj, if_neg (show ¬ (3 : Int) < 3 by decide), if_pos (show (3 : Int) ≤ 3 by decide)]; exact t3
  · rw [show joinF 4 x y = x &&& y from rfl, wb_and, if_neg (show ¬ (4 : Int) < 3 by decide), if_neg (show ¬ (4 : Int) ≤ 3 by decide)]; exact t4
  · rw [show joinF 5 x y = x ||| y from rfl, wb_or, if_neg (show ¬ (5 : Int) < 3 by decide), if_neg (show ¬ (5 : Int) ≤ 3 by decide)]; exact t5
  · rw [show joinF 6 x y = x ^^^ y from rfl, wb_xor, if_neg (show ¬ (6 : Int) < 3 by decide), if_neg (show ¬ (6 : Int) ≤ 3 by decide)]; exact t6
  · rw [show joinF 7 x y = (x &&& y) ^^^ -1 from rfl, wb_not hj, wb_and, if_neg (show ¬ (7 : Int) < 3 by decide), if_neg (show ¬ (7 : Int) ≤ 3 by decide)]; exact t7
  · rw [show joinF 8 x y = (x ||| y) ^^^ -1 from rfl, wb_not hj, wb_or, if_neg (show ¬ (8 : Int) < 3 by decide), if_neg (show ¬ (8 : Int) ≤ 3 by decide)]; exact t8
  · rw [show joinF 9 x y = (x ^^^ y) ^^^ -1 from rfl, wb_not hj, wb_xor, if_neg (show ¬ (9 : Int) < 3 by decide), if_neg (show ¬ (9 : Int) ≤ 3 by decide)]; exact t9
theorem btF_01 {B : Int → Int64} {p : Int} (h0 : 0 ≤ p) (h1 : p < 256) : btF B p = b01 (wb (B (p / 64)) (p % 64).toNat) := btF_wb h0 h1
theorem phi_of {J J' : zJ} {t k f g : Int} (k0 : 0 < k) (k1 : k ≤ 9) (h : ∀ q : Int, 0 ≤ q → q < 4 → J' 44 (4 * t + q) = joinF k (J 44 (4 * f + q)) (J 44 (4 * g + q))) : phi J' t = fun r => tbl (tabF k) (if k < 3 then 0 else phi J f r) (if k ≤ 3 then 0 else phi J g r) 0 := by
  funext r
  have hp := pos_in r
  show btF (bitF J' t) (pos r) = tbl (tabF k) (if k < 3 then 0 else btF (bitF J f) (pos r)) (if k ≤ 3 then 0 else btF (bitF J g) (pos r)) 0
  rw [btF_01 hp.1 hp.2, btF_01 hp.1 hp.2, btF_01 hp.1 hp.2]
  unfold bitF
  rw [h (pos r / 64) (by omega) (by omega)]
  exact jn_wb k0 k1 (by omega)
theorem phi_ch {J J' : zJ} {t f g k : Int} (h : ∀ q : Int, 0 ≤ q → q < 4 → J' 44 (4 * t + q) = (J 44 (4 * f + q) &&& J 44 (4 * g + q)) ||| ((J 44 (4 * f + q) ^^^ -1) &&& J 44 (4 * k + q))) : phi J' t = fun r => tbl (tabF 10) (phi J f r) (phi J g r) (phi J k r) := by
  funext r
  have hp := pos_in r
  show btF (bitF J' t) (pos r) = tbl (tabF 10) (btF (bitF J f) (pos r)) (btF (bitF J g) (pos r)) (btF (bitF J k) (pos r))
  rw [btF_01 hp.1 hp.2, btF_01 hp.1 hp.2, btF_01 hp.1 hp.2, btF_01 hp.1 hp.2]
  unfold bitF
  rw [h (pos r / 64) (by omega) (by omega), wb_or, wb_and, wb_and, wb_not (by omega)]
  exact ch_t _ _ _
/-- bits as they were -/
theorem phi_cg {J J' : zJ} {f g : Int} (h : ∀ k : Int, 0 ≤ k → k < 4 → J' 44 (4 * f + k) = J 44 (4 * g + k)) : phi J' f = phi J g := by
  funext r
  have hp := pos_in r
  exact btF_congr (fun k k0 k1 => h k k0 k1) hp.1 hp.2
/-- room for F beside what the reference has and E -/
def okR (M : zM) (J : zJ) (E : Lb → Prop) (F : FN) : Prop := ¬ over (fun y => (LBr M J y ∨ E y) ∨ laid F y) (M 31 8)
/-- a step's answer -/
theorem st_ok {M M0 M1 : zM} {J J0 J1 : zJ} {E : Lb → Prop} {f x : Int} (f0 : 0 ≤ f) (f1 : f < 56) (ti : TI M1 J1) (ok : zOK M1) (ah : ¬ M1 43 f = 0) (af : adf M0 M1 f) (hJ : J1 44 = J0 44) (e8 : M0 31 8 = M 31 8) (hL : ∀ y, (LBr M0 J0 y ∨ laid (phi J0 f) y) ↔ ((LBr M J y ∨ E y) ∨ laid (phi J0 f) y)) (xs : (x = 1 ∧ M1 31 24 ≤ M1 31 8) ∨ (x = 0 ∧ M1 31 8 < M1 31 24)) : ((x = 1 ∧ okR M J E (phi J0 f)) ∨ (x = 0 ∧ ¬ okR M J E (phi J0 f))) ∧ ∀ y, LBr M1 J1 y ↔ ((LBr M J y ∨ E y) ∨ laid (phi J0 f) y) := by
  have hp : ∀ g, phi J1 g = phi J0 g := fun g => phi_cg (fun k _ _ => by rw [hJ])
  have e : M1 31 8 = M 31 8 := (af.2.2 8 (by decide) (by decide) (by decide) (by decide)).trans e8
  have hl : ∀ y, LBr M1 J1 y ↔ ((LBr M J y ∨ E y) ∨ laid (phi J0 f) y) := fun y => by
    rw [← hL y]
    constructor
    · rintro ⟨g, gb, a, b⟩
      rw [hp g] at b
      by_cases q : g = f
      · right; rw [← q]; exact b
      · left; exact ⟨g, gb, by rw [← (af.1 g q).2]; exact a, b⟩
    · rintro (⟨g, gb, a, b⟩ | b)
      · by_cases q : g = f
        · exact ⟨g, gb, by rw [q]; exact ah, by rw [hp g]; exact b⟩
        · exact ⟨g, gb, by rw [(af.1 g q).2]; exact a, by rw [hp g]; exact b⟩
      · exact ⟨f, ⟨f0, f1⟩, ah, by rw [hp f]; exact b⟩
  have c := ref_cnt ti ok
  refine ⟨?_, hl⟩
  unfold okR
  rcases xs with ⟨a, b⟩ | ⟨a, b⟩
  · left
    refine ⟨a, fun t => ?_⟩
    have z := cnt_over (fun y hy => (hl y).mpr hy) c t
    omega
  · right
    refine ⟨a, fun t => t ?_⟩
    rw [e] at b
    exact over_mono (fun y hy => (hl y).mp hy) (cnt_gt c b)
/-- what a call that gives a handle leaves in the reference -/
def finR (M : zM) (J : zJ) (h : Int) (ok : Prop) (F : FN) (x : Int) (M' : zM) (J' : zJ) : Prop := M' 31 8 = M 31 8 ∧ ((¬ ok ∧ x = -5 ∧ ∀ j : Int, 0 ≤ j → j < 12 → (M' 43 j = M 43 j ∧ phi J' j = phi J j)) ∨ (ok ∧ cnt (laid F) x ∧ (¬ M' 43 h = 0 ∧ phi J' h = F) ∧ ∀ j : Int, 0 ≤ j → j < 12 → j ≠ h → (M' 43 j = M 43 j ∧ phi J' j = phi J j)))
theorem fin_r {M M1 M' : zM} {J J1 J' : zJ} {h f y x : Int} {ok : Prop} {F : FN} (h0 : 0 ≤ h) (h1 : h < 12) (hd : hdl M M1) (hJ : ∀ j : Int, j < 48 → J1 44 j = J 44 j) (yo : (y = 1 ∧ ok ∧ phi J1 f = F) ∨ (y = 0 ∧ ¬ ok)) (ti : TI M' J') (hk : zOK M') (gx : (y = 0 ∧ x = -5 ∧ hdl M1 M' ∧ J' 44 = J1 44) ∨ (y = 1 ∧ x = M' 45 h ∧ ¬ M' 43 h = 0 ∧ M' 31 24 ≤ M1 31 24 ∧ hdx M1 M' h ∧ (∀ k : Int, 0 ≤ k → k < 4 → J' 44 (4 * h + k) = J1 44 (4 * f + k)) ∧ ∀ j : Int, (j < 4 * h ∨ 4 * h + 4 ≤ j) → J' 44 j = J1 44 j)) : finR M J h ok F x M' J' := by
  rcases gx with ⟨a, b, c, d⟩ | ⟨a, b, c, -, d, e, g⟩
  · have z := hdl_t hd c
    refine ⟨z.2.2 8 (by decide) (by decide) (by decide) (by decide), Or.inl ⟨?_, b, fun j j0 j1 => ⟨(z.1 j j1).2, phi_cg (fun k k0 k1 => by rw [d]; exact hJ _ (by omega))⟩⟩⟩
    rcases yo with ⟨q, -⟩ | ⟨-, q⟩
    · omega
    · exact q
  · obtain ⟨-, q1, q2⟩ := yo.resolve_right (fun q => by omega)
    have hF : phi J' h = F := (phi_cg (fun k k0 k1 => e k k0 k1)).trans q2
    refine ⟨(d.2 8 (by decide) (by decide) (by decide) (by decide)).trans (hd.2.2 8 (by decide) (by decide) (by decide) (by decide)), Or.inr ⟨q1, ?_, ⟨c, hF⟩, fun j j0 j1 hj => ⟨((d.1 j j1 hj).2).trans (hd.1 j j1).2, phi_cg (fun k k0 k1 => (g _ (by omega)).trans (hJ _ (by omega)))⟩⟩⟩
    rw [← hF, b]
    exact ref_nodes ti hk h0 (by omega) c
end
section
/-! ===== the reference: what makes bits, as functions ===== -/
set_option maxRecDepth 20000 in
theorem zX4_makeOf_f {G : tl_G} {M : zM} {J : zJ} {t k f g : Int} (t0 : 0 ≤ t) (t1 : t < 56) (f0 : 0 ≤ f) (f1 : f < 56) (g0 : 0 ≤ g) (g1 : g < 56) : ZN G yX4_makeOf mX4_makeOf 1 kBits [vR 31, vI t, vI k, vI f, vI g] F1 M J (qV (fun M' J' => M' = M ∧ (∀ j : Int, 0 ≤ j → j < 4 → J' 44 (4 * t + j) = joinF k (J 44 (4 * f + j)) (J 44 (4 * g + j))) ∧ ∀ j : Int, (j < 4 * t ∨ 4 * t + 4 ≤ j) → J' 44 j = J 44 j)) := by
  refine ZN_of (L := [_, _, _, _, _, _]) (by decide) rfl rfl (Nat.le_of_ble_eq_true rfl) rfl (fun hav => ?_)
  refine Z_iconst (n := 1) dX4_makeOf_0 rfl (by decide) ?_
  refine Z_istore (L' := [_, _, _, _, _, _]) (n := 3) dX4_makeOf_1 rfl (by decide) rfl rfl ?_
  have lp3 : ∀ (N3 : Nat) (q : Int) (M3 : zM) (J3 : zJ), ((4 - q).toNat) < N3 → (M3 = M) → (0 ≤ q) → (q ≤ 4) → (∀ j : Int, 0 ≤ j → j < q → J3 44 (4 * t + j) = joinF k (J 44 (4 * f + j)) (J 44 (4 * g + j))) → (∀ j : Int, (j < 4 * t ∨ 4 * t + q ≤ j) → J3 44 j = J 44 j) → TZ G mX4_makeOf (tl_rm 1 0 0) 0 0 kBits M J 3 [some (vR 31), some (vI t), some (vI k), some (vI f), some (vI g), some (vI q)] [] F1 M3 J3 (ZM G (zPost G kBits F1 M J (qV (fun M' J' => M' = M ∧ (∀ j : Int, 0 ≤ j → j < 4 → J' 44 (4 * t + j) = joinF k (J 44 (4 * f + j)) (J 44 (4 * g + j))) ∧ ∀ j : Int, (j < 4 * t ∨ 4 * t + 4 ≤ j) → J' 44 j = J 44 j))) 0 0) := by
    intro N3
    induction N3 with
    | zero => intro q M3 J3 hN; omega
    | succ N3 ih3 =>
      intro q M3 J3 hN3 i3_0 i3_1 i3_2 i3_3 i3_4
      refine Z_iload (n := 5) dX4_makeOf_3 rfl rfl ?_
      refine Z_iconst (n := 6) dX4_makeOf_5 rfl (by decide) ?_
      refine Z_icmp_ge (n := 9) (t := 53) dX4_makeOf_6 rfl (by decide) (fun c6 => ?_) (fun c6 => ?_)
      · refine Z_vret dX4_makeOf_53 rfl ?_
        exact ⟨i3_0, fun j j0 j1 => i3_3 j j0 (by omega), fun j hj => i3_4 j (by omega)⟩
      · refine Z_aload_n (n := 10) dX4_makeOf_9 rfl rfl ?_
        refine Z_getA (n := 13) dX4_makeOf_10 rfl ffX4_47 rfl rfl ?_
        refine Z_iconst (n := 14) dX4_makeOf_13 rfl (by decide) ?_
        refine Z_iload_n (n := 15) dX4_makeOf_14 rfl rfl ?_
        refine Z_imul (n := 16) dX4_makeOf_15 rfl (by omega) ?_
        refine Z_iload (n := 18) dX4_makeOf_16 rfl rfl ?_
        refine Z_iadd (n := 19) dX4_makeOf_18 rfl (by omega) ?_
        refine Z_iload_n (n := 20) dX4_makeOf_19 rfl rfl ?_
        refine Z_aload_n (n := 21) dX4_makeOf_20 rfl rfl ?_
        refine Z_getA (n := 24) dX4_makeOf_21 rfl ffX4_47 rfl rfl ?_
        refine Z_iconst (n := 25) dX4_makeOf_24 rfl (by decide) ?_
        refine Z_iload_n (n := 26) dX4_makeOf_25 rfl rfl ?_
        refine Z_imul (n := 27) dX4_makeOf_26 rfl (by omega) ?_
        refine Z_iload (n := 29) dX4_makeOf_27 rfl rfl ?_
        refine Z_iadd (n := 30) dX4_makeOf_29 rfl (by omega) ?_
        refine Z_lald (n := 31) dX4_makeOf_30 rfl rfl (by decide) (by omega) (by omega) ?_
        refine Z_aload_n (n := 32) dX4_makeOf_31 rfl rfl ?_
        refine Z_getA (n := 35) dX4_makeOf_32 rfl ffX4_47 rfl rfl ?_
        refine Z_iconst (n := 36) dX4_makeOf_35 rfl (by decide) ?_
        refine Z_iload (n := 38) dX4_makeOf_36 rfl rfl ?_
        refine Z_imul (n := 39) dX4_makeOf_38 rfl (by omega) ?_
        refine Z_iload (n := 41) dX4_makeOf_39 rfl rfl ?_
        refine Z_iadd (n := 42) dX4_makeOf_41 rfl (by omega) ?_
        refine Z_lald (n := 43) dX4_makeOf_42 rfl rfl (by decide) (by omega) (by omega) ?_
        refine Z_callSl (n := 46) [_, _, _] _ dX4_makeOf_43 rfl cwX4_190 rfl rfl (Nat.le_of_ble_eq_true rfl) (by refine ⟨?_, ?_, ?_, ?_⟩ <;> exact Nat.le_of_ble_eq_true rfl) (fun _ _ => trivial) (zX4_joined  ) ?_
        intro x43 M43 J43 f43 q43
        obtain ⟨e43_1, e43_2, h43⟩ := q43
        replace e43_1 := e43_1.symm; subst e43_1
        replace e43_2 := e43_2.symm; subst e43_2
        refine Z_last (n := 47) dX4_makeOf_46 rfl rfl (by decide) (by omega) (by omega) (by decide) ?_
        have nx3 : ∀ j : Int, 0 ≤ j → j < q + 1 → uz J3 44 (4 * t + q) x43 44 (4 * t + j) = joinF k (J 44 (4 * f + j)) (J 44 (4 * g + j)) := fun j j0 j1 => by
          rw [uz_a]
          split
          · rw [show j = q by omega, h43, i3_4 (4 * f + q) (by omega), i3_4 (4 * g + q) (by omega)]
          · exact i3_3 j j0 (by omega)
        refine Z_iinc (L' := [_, _, _, _, _, _]) (n := 50) dX4_makeOf_47 rfl rfl (by decide) rfl rfl (by omega) rfl ?_
        refine Z_goto (t := 3) dX4_makeOf_50 (by decide) ?_
        refine Z_loc (L' := [some _, some _, some _, some _, some _, some _]) (lsub_same (lsub_same (lsub_same (lsub_same (lsub_same (lsub_same lsub_nil)))))) ?_
        exact ih3 _ _ _ (by omega) (by first | rfl | assumption) (by first | assumption | omega | decide) (by first | assumption | omega | decide) (by exact nx3) (by exact fun j hj => by rw [uz_n (by omega)]; exact i3_4 j (by omega))
  refine Z_loc (L' := [some _, some _, some _, some _, some _, some _]) (lsub_same (lsub_same (lsub_same (lsub_same (lsub_same (lsub_same lsub_nil)))))) ?_
  exact lp3 _ _ _ _ (Nat.lt_succ_self _) (by rfl) (by first | assumption | omega | decide) (by first | assumption | omega | decide) (by exact fun j j0 j1 => by omega) (by exact fun j _ => rfl)
set_option maxRecDepth 20000 in
theorem zX4_makeHalf_f {G : tl_G} {M : zM} {J : zJ} {t f v y : Int} (t0 : 0 ≤ t) (t1 : t < 56) (f0 : 0 ≤ f) (f1 : f < 56) (v0 : 0 ≤ v) (v1 : v < 8) (hO : rOrd M) (hft : f ≠ t) : ZN G yX4_makeHalf mX4_makeHalf 0 kBits [vR 31, vI t, vI f, vI v, vI y] F1 M J (qV (fun M' J' => M' = M ∧ (∀ j : Int, 0 ≤ j → j < 4 → J' 44 (4 * t + j) = hfW (J 54) (M 39 v) y (bitF J f) j) ∧ ∀ j : Int, (j < 4 * t ∨ 4 * t + 4 ≤ j) → J' 44 j = J 44 j)) := by
  refine ZN_of (L := [_, _, _, _, _, _, _, _, _, _]) (by decide) rfl rfl (Nat.le_of_ble_eq_true rfl) rfl (fun hav => ?_)
  have hw := hO v v0 v1
  refine Z_aload_n (n := 1) dX4_makeHalf_0 rfl rfl ?_
  refine Z_getA (n := 4) dX4_makeHalf_1 rfl ffX4_32 rfl rfl ?_
  refine Z_iload_n (n := 5) dX4_makeHalf_4 rfl rfl ?_
  refine Z_iald (n := 6) dX4_makeHalf_5 rfl rfl rfl (by first | decide | assumption) (by omega) (by omega) (fun r5 s5 => ?_)
  refine Z_istore (L' := [_, _, _, _, _, _, _, _, _, _]) (n := 8) dX4_makeHalf_6 rfl (by decide) rfl rfl ?_
  refine Z_iconst (n := 9) dX4_makeHalf_8 rfl (by decide) ?_
  refine Z_istore (L' := [_, _, _, _, _, _, _, _, _, _]) (n := 11) dX4_makeHalf_9 rfl (by decide) rfl rfl ?_
  have lp11 : ∀ (N11 : Nat) (q : Int) (M11 : zM) (J11 : zJ), ((4 - q).toNat) < N11 → (M11 = M) → (0 ≤ q) → (q ≤ 4) → (∀ j : Int, 0 ≤ j → j < q → J11 44 (4 * t + j) = hfW (J 54) (M 39 v) y (bitF J f) j) → (∀ j : Int, (j < 4 * t ∨ 4 * t + 4 ≤ j) → J11 44 j = J 44 j) → TZ G mX4_makeHalf (tl_rm 0 0 0) 0 0 kBits M J 11 [some (vR 31), some (vI t), some (vI f), some (vI v), some (vI y), some (vI (M 39 v)), some (vI q), none, none, none] [] F1 M11 J11 (ZM G (zPost G kBits F1 M J (qV (fun M' J' => M' = M ∧ (∀ j : Int, 0 ≤ j → j < 4 → J' 44 (4 * t + j) = hfW (J 54) (M 39 v) y (bitF J f) j) ∧ ∀ j : Int, (j < 4 * t ∨ 4 * t + 4 ≤ j) → J' 44 j = J 44 j))) 0 0) := by
    intro N11
    induction N11 with
    | zero => intro q M11 J11 hN; omega
    | succ N11 ih11 =>
      intro q M11 J11 hN11 i11_0 i11_1 i11_2 i11_3 i11_4
      refine Z_iload (n := 13) dX4_makeHalf_11 rfl rfl ?_
      refine Z_iconst (n := 14) dX4_makeHalf_13 rfl (by decide) ?_
      refine Z_icmp_ge (n := 17) (t := 168) dX4_makeHalf_14 rfl (by decide) (fun c14 => ?_) (fun c14 => ?_)
      · refine Z_vret dX4_makeHalf_168 rfl ?_
        exact ⟨i11_0, fun j j0 j1 => i11_3 j j0 (by omega), i11_4⟩
      · refine Z_fr (fun fr11 => ?_)
        replace i11_0 := i11_0.symm; subst i11_0
        refine Z_iload (n := 19) dX4_makeHalf_17 rfl rfl ?_
        refine Z_iconst (n := 20) dX4_makeHalf_19 rfl (by decide) ?_
        refine Z_icmp_ge (n := 23) (t := 78) dX4_makeHalf_20 rfl (by decide) (fun c20 => ?_) (fun c20 => ?_)
        · refine Z_iconst (n := 79) dX4_makeHalf_78 rfl (by decide) ?_
          refine Z_bipush (n := 81) dX4_makeHalf_79 rfl (by decide) (by decide) ?_
          refine Z_iload (n := 83) dX4_makeHalf_81 rfl rfl ?_
          refine Z_isub (n := 84) dX4_makeHalf_83 rfl (by omega) ?_
          refine Z_ishl (n := 85) dX4_makeHalf_84 rfl ?_
          refine Z_istore (L' := [_, _, _, _, _, _, _, _, _, _]) (n := 87) dX4_makeHalf_85 rfl (by decide) rfl rfl ?_
          refine Z_aload_n (n := 88) dX4_makeHalf_87 rfl rfl ?_
          refine Z_getA (n := 91) dX4_makeHalf_88 rfl ffX4_47 rfl rfl ?_
          refine Z_iconst (n := 92) dX4_makeHalf_91 rfl (by decide) ?_
          refine Z_iload_n (n := 93) dX4_makeHalf_92 rfl rfl ?_
          refine Z_imul (n := 94) dX4_makeHalf_93 rfl (by omega) ?_
          refine Z_iload (n := 96) dX4_makeHalf_94 rfl rfl ?_
          refine Z_iadd (n := 97) dX4_makeHalf_96 rfl (by omega) ?_
          refine Z_lald (n := 98) dX4_makeHalf_97 rfl rfl (by decide) (by omega) (by omega) ?_
          refine Z_iload (n := 100) dX4_makeHalf_98 rfl rfl ?_
          refine Z_if_eq (n := 103) (t := 113) dX4_makeHalf_100 rfl (by decide) (fun c100 => ?_) (fun c100 => ?_)
          · refine Z_aload_n (n := 114) dX4_makeHalf_113 rfl rfl ?_
            refine Z_getA (n := 117) dX4_makeHalf_114 rfl ffX4_90 rfl rfl ?_
            refine Z_iload (n := 119) dX4_makeHalf_117 rfl rfl ?_
            refine Z_lald (n := 120) dX4_makeHalf_119 rfl rfl (by decide) (by omega) (by omega) ?_
            refine Z_ldc2 (n := 123) dX4_makeHalf_120 rfl clX4_188 ?_
            refine Z_lxor (n := 124) dX4_makeHalf_123 rfl ?_
            refine Z_land (n := 125) dX4_makeHalf_124 rfl ?_
            refine Z_lstore (L' := [_, _, _, _, _, _, _, _, _, _]) (n := 127) dX4_makeHalf_125 rfl (by decide) rfl rfl ?_
            refine Z_aload_n (n := 128) dX4_makeHalf_127 rfl rfl ?_
            refine Z_getA (n := 131) dX4_makeHalf_128 rfl ffX4_47 rfl rfl ?_
            refine Z_iconst (n := 132) dX4_makeHalf_131 rfl (by decide) ?_
            refine Z_iload_n (n := 133) dX4_makeHalf_132 rfl rfl ?_
            refine Z_imul (n := 134) dX4_makeHalf_133 rfl (by omega) ?_
            refine Z_iload (n := 136) dX4_makeHalf_134 rfl rfl ?_
            refine Z_iadd (n := 137) dX4_makeHalf_136 rfl (by omega) ?_
            refine Z_iload (n := 139) dX4_makeHalf_137 rfl rfl ?_
            refine Z_if_eq (n := 142) (t := 153) dX4_makeHalf_139 rfl (by decide) (fun c139 => ?_) (fun c139 => ?_)
            · refine Z_lload (n := 155) dX4_makeHalf_153 rfl rfl ?_
              refine Z_lload (n := 157) dX4_makeHalf_155 rfl rfl ?_
              refine Z_iload (n := 159) dX4_makeHalf_157 rfl rfl ?_
              refine Z_lshl (n := 160) dX4_makeHalf_159 rfl ?_
              refine Z_lor (n := 161) dX4_makeHalf_160 rfl ?_
              refine Z_last (n := 162) dX4_makeHalf_161 rfl rfl (by decide) (by omega) (by omega) (by decide) ?_
              refine Z_iinc (L' := [_, _, _, _, _, _, _, _, _, _]) (n := 165) dX4_makeHalf_162 rfl rfl (by decide) rfl rfl (by omega) rfl ?_
              refine Z_goto (t := 11) dX4_makeHalf_165 (by decide) ?_
              refine Z_loc (L' := [some _, some _, some _, some _, some _, some _, some _, none, none, none]) (lsub_same (lsub_same (lsub_same (lsub_same (lsub_same (lsub_same (lsub_same (lsub_none (lsub_none (lsub_none lsub_nil)))))))))) ?_
              exact ih11 _ _ _ (by omega) (by first | rfl | assumption) (by first | assumption | omega | decide) (by first | assumption | omega | decide) (by exact st_step (by unfold hfW bitF; first  | (exfalso; omega)  | (rw [if_pos (show M 39 v < 2 by omega), if_neg (show ¬ y = 0 by omega), if_pos (show M 39 v = 0 by omega)]; exact i11_4 _ (by omega))  | (rw [if_pos (show M 39 v < 2 by omega), if_neg (show ¬ y = 0 by omega), if_neg (show ¬ M 39 v = 0 by omega)]; exact i11_4 _ (by omega))  | (rw [if_pos (show M 39 v < 2 by omega), if_pos (show y = 0 by omega), if_pos (show M 39 v = 0 by omega)]; exact i11_4 _ (by omega))  | (rw [if_pos (show M 39 v < 2 by omega), if_pos (show y = 0 by omega), if_neg (show ¬ M 39 v = 0 by omega)]; exact i11_4 _ (by omega))  | (rw [if_neg (show ¬ M 39 v < 2 by omega), if_neg (show ¬ y = 0 by omega), i11_4 (4 * f + q) (by omega), congrFun (fr11 54 (by decide)).2 (M 39 v)])  | (rw [if_neg (show ¬ M 39 v < 2 by omega), if_pos (show y = 0 by omega), i11_4 (4 * f + q) (by omega), congrFun (fr11 54 (by decide)).2 (M 39 v)])) i11_3) (by exact fun j hj => by rw [uz_n (by omega)]; exact i11_4 j hj)
            · refine Z_lload (n := 144) dX4_makeHalf_142 rfl rfl ?_
              refine Z_lload (n := 146) dX4_makeHalf_144 rfl rfl ?_
              refine Z_iload (n := 148) dX4_makeHalf_146 rfl rfl ?_
              refine Z_lushr (n := 149) dX4_makeHalf_148 rfl ?_
              refine Z_lor (n := 150) dX4_makeHalf_149 rfl ?_
              refine Z_goto (t := 161) dX4_makeHalf_150 (by decide) ?_
              refine Z_last (n := 162) dX4_makeHalf_161 rfl rfl (by decide) (by omega) (by omega) (by decide) ?_
              refine Z_iinc (L' := [_, _, _, _, _, _, _, _, _, _]) (n := 165) dX4_makeHalf_162 rfl rfl (by decide) rfl rfl (by omega) rfl ?_
              refine Z_goto (t := 11) dX4_makeHalf_165 (by decide) ?_
              refine Z_loc (L' := [some _, some _, some _, some _, some _, some _, some _, none, none, none]) (lsub_same (lsub_same (lsub_same (lsub_same (lsub_same (lsub_same (lsub_same (lsub_none (lsub_none (lsub_none lsub_nil)))))))))) ?_
              exact ih11 _ _ _ (by omega) (by first | rfl | assumption) (by first | assumption | omega | decide) (by first | assumption | omega | decide) (by exact st_step (by unfold hfW bitF; first  | (exfalso; omega)  | (rw [if_pos (show M 39 v < 2 by omega), if_neg (show ¬ y = 0 by omega), if_pos (show M 39 v = 0 by omega)]; exact i11_4 _ (by omega))  | (rw [if_pos (show M 39 v < 2 by omega), if_neg (show ¬ y = 0 by omega), if_neg (show ¬ M 39 v = 0 by omega)]; exact i11_4 _ (by omega))  | (rw [if_pos (show M 39 v < 2 by omega), if_pos (show y = 0 by omega), if_pos (show M 39 v = 0 by omega)]; exact i11_4 _ (by omega))  | (rw [if_pos (show M 39 v < 2 by omega), if_pos (show y = 0 by omega), if_neg (show ¬ M 39 v = 0 by omega)]; exact i11_4 _ (by omega))  | (rw [if_neg (show ¬ M 39 v < 2 by omega), if_neg (show ¬ y = 0 by omega), i11_4 (4 * f + q) (by omega), congrFun (fr11 54 (by decide)).2 (M 39 v)])  | (rw [if_neg (show ¬ M 39 v < 2 by omega), if_pos (show y = 0 by omega), i11_4 (4 * f + q) (by omega), congrFun (fr11 54 (by decide)).2 (M 39 v)])) i11_3) (by exact fun j hj => by rw [uz_n (by omega)]; exact i11_4 j hj)
          · refine Z_aload_n (n := 104) dX4_makeHalf_103 rfl rfl ?_
            refine Z_getA (n := 107) dX4_makeHalf_104 rfl ffX4_90 rfl rfl ?_
            refine Z_iload (n := 109) dX4_makeHalf_107 rfl rfl ?_
            refine Z_lald (n := 110) dX4_makeHalf_109 rfl rfl (by decide) (by omega) (by omega) ?_
            refine Z_goto (t := 124) dX4_makeHalf_110 (by decide) ?_
            refine Z_land (n := 125) dX4_makeHalf_124 rfl ?_
            refine Z_lstore (L' := [_, _, _, _, _, _, _, _, _, _]) (n := 127) dX4_makeHalf_125 rfl (by decide) rfl rfl ?_
            refine Z_aload_n (n := 128) dX4_makeHalf_127 rfl rfl ?_
            refine Z_getA (n := 131) dX4_makeHalf_128 rfl ffX4_47 rfl rfl ?_
            refine Z_iconst (n := 132) dX4_makeHalf_131 rfl (by decide) ?_
            refine Z_iload_n (n := 133) dX4_makeHalf_132 rfl rfl ?_
            refine Z_imul (n := 134) dX4_makeHalf_133 rfl (by omega) ?_
            refine Z_iload (n := 136) dX4_makeHalf_134 rfl rfl ?_
            refine Z_iadd (n := 137) dX4_makeHalf_136 rfl (by omega) ?_
            refine Z_iload (n := 139) dX4_makeHalf_137 rfl rfl ?_
            refine Z_if_eq (n := 142) (t := 153) dX4_makeHalf_139 rfl (by decide) (fun c139 => ?_) (fun c139 => ?_)
            · refine Z_lload (n := 155) dX4_makeHalf_153 rfl rfl ?_
              refine Z_lload (n := 157) dX4_makeHalf_155 rfl rfl ?_
              refine Z_iload (n := 159) dX4_makeHalf_157 rfl rfl ?_
              refine Z_lshl (n := 160) dX4_makeHalf_159 rfl ?_
              refine Z_lor (n := 161) dX4_makeHalf_160 rfl ?_
              refine Z_last (n := 162) dX4_makeHalf_161 rfl rfl (by decide) (by omega) (by omega) (by decide) ?_
              refine Z_iinc (L' := [_, _, _, _, _, _, _, _, _, _]) (n := 165) dX4_makeHalf_162 rfl rfl (by decide) rfl rfl (by omega) rfl ?_
              refine Z_goto (t := 11) dX4_makeHalf_165 (by decide) ?_
              refine Z_loc (L' := [some _, some _, some _, some _, some _, some _, some _, none, none, none]) (lsub_same (lsub_same (lsub_same (lsub_same (lsub_same (lsub_same (lsub_same (lsub_none (lsub_none (lsub_none lsub_nil)))))))))) ?_
              exact ih11 _ _ _ (by omega) (by first | rfl | assumption) (by first | assumption | omega | decide) (by first | assumption | omega | decide) (by exact st_step (by unfold hfW bitF; first  | (exfalso; omega)  | (rw [if_pos (show M 39 v < 2 by omega), if_neg (show ¬ y = 0 by omega), if_pos (show M 39 v = 0 by omega)]; exact i11_4 _ (by omega))  | (rw [if_pos (show M 39 v < 2 by omega), if_neg (show ¬ y = 0 by omega), if_neg (show ¬ M 39 v = 0 by omega)]; exact i11_4 _ (by omega))  | (rw [if_pos (show M 39 v < 2 by omega), if_pos (show y = 0 by omega), if_pos (show M 39 v = 0 by omega)]; exact i11_4 _ (by omega))  | (rw [if_pos (show M 39 v < 2 by omega), if_pos (show y = 0 by omega), if_neg (show ¬ M 39 v = 0 by omega)]; exact i11_4 _ (by omega))  | (rw [if_neg (show ¬ M 39 v < 2 by omega), if_neg (show ¬ y = 0 by omega), i11_4 (4 * f + q) (by omega), congrFun (fr11 54 (by decide)).2 (M 39 v)])  | (rw [if_neg (show ¬ M 39 v < 2 by omega), if_pos (show y = 0 by omega), i11_4 (4 * f + q) (by omega), congrFun (fr11 54 (by decide)).2 (M 39 v)])) i11_3) (by exact fun j hj => by rw [uz_n (by omega)]; exact i11_4 j hj)
            · refine Z_lload (n := 144) dX4_makeHalf_142 rfl rfl ?_
              refine Z_lload (n := 146) dX4_makeHalf_144 rfl rfl ?_
              refine Z_iload (n := 148) dX4_makeHalf_146 rfl rfl ?_
              refine Z_lushr (n := 149) dX4_makeHalf_148 rfl ?_
              refine Z_lor (n := 150) dX4_makeHalf_149 rfl ?_
              refine Z_goto (t := 161) dX4_makeHalf_150 (by decide) ?_
              refine Z_last (n := 162) dX4_makeHalf_161 rfl rfl (by decide) (by omega) (by omega) (by decide) ?_
              refine Z_iinc (L' := [_, _, _, _, _, _, _, _, _, _]) (n := 165) dX4_makeHalf_162 rfl rfl (by decide) rfl rfl (by omega) rfl ?_
              refine Z_goto (t := 11) dX4_makeHalf_165 (by decide) ?_
              refine Z_loc (L' := [some _, some _, some _, some _, some _, some _, some _, none, none, none]) (lsub_same (lsub_same (lsub_same (lsub_same (lsub_same (lsub_same (lsub_same (lsub_none (lsub_none (lsub_none lsub_nil)))))))))) ?_
              exact ih11 _ _ _ (by omega) (by first | rfl | assumption) (by first | assumption | omega | decide) (by first | assumption | omega | decide) (by exact st_step (by unfold hfW bitF; first  | (exfalso; omega)  | (rw [if_pos (show M 39 v < 2 by omega), if_neg (show ¬ y = 0 by omega), if_pos (show M 39 v = 0 by omega)]; exact i11_4 _ (by omega))  | (rw [if_pos (show M 39 v < 2 by omega), if_neg (show ¬ y = 0 by omega), if_neg (show ¬ M 39 v = 0 by omega)]; exact i11_4 _ (by omega))  | (rw [if_pos (show M 39 v < 2 by omega), if_pos (show y = 0 by omega), if_pos (show M 39 v = 0 by omega)]; exact i11_4 _ (by omega))  | (rw [if_pos (show M 39 v < 2 by omega), if_pos (show y = 0 by omega), if_neg (show ¬ M 39 v = 0 by omega)]; exact i11_4 _ (by omega))  | (rw [if_neg (show ¬ M 39 v < 2 by omega), if_neg (show ¬ y = 0 by omega), i11_4 (4 * f + q) (by omega), congrFun (fr11 54 (by decide)).2 (M 39 v)])  | (rw [if_neg (show ¬ M 39 v < 2 by omega), if_pos (show y = 0 by omega), i11_4 (4 * f + q) (by omega), congrFun (fr11 54 (by decide)).2 (M 39 v)])) i11_3) (by exact fun j hj => by rw [uz_n (by omega)]; exact i11_4 j hj)
        · refine Z_iload (n := 25) dX4_makeHalf_23 rfl rfl ?_
          refine Z_if_ne (n := 28) (t := 32) dX4_makeHalf_25 rfl (by decide) (fun c25 => ?_) (fun c25 => ?_)
          · refine Z_iconst (n := 33) dX4_makeHalf_32 rfl (by decide) ?_
            refine Z_istore (L' := [_, _, _, _, _, _, _, _, _, _]) (n := 35) dX4_makeHalf_33 rfl (by decide) rfl rfl ?_
            refine Z_aload_n (n := 36) dX4_makeHalf_35 rfl rfl ?_
            refine Z_getA (n := 39) dX4_makeHalf_36 rfl ffX4_47 rfl rfl ?_
            refine Z_iconst (n := 40) dX4_makeHalf_39 rfl (by decide) ?_
            refine Z_iload_n (n := 41) dX4_makeHalf_40 rfl rfl ?_
            refine Z_imul (n := 42) dX4_makeHalf_41 rfl (by omega) ?_
            refine Z_iload (n := 44) dX4_makeHalf_42 rfl rfl ?_
            refine Z_iadd (n := 45) dX4_makeHalf_44 rfl (by omega) ?_
            refine Z_aload_n (n := 46) dX4_makeHalf_45 rfl rfl ?_
            refine Z_getA (n := 49) dX4_makeHalf_46 rfl ffX4_47 rfl rfl ?_
            refine Z_iconst (n := 50) dX4_makeHalf_49 rfl (by decide) ?_
            refine Z_iload_n (n := 51) dX4_makeHalf_50 rfl rfl ?_
            refine Z_imul (n := 52) dX4_makeHalf_51 rfl (by omega) ?_
            refine Z_iload (n := 54) dX4_makeHalf_52 rfl rfl ?_
            refine Z_if_eq (n := 57) (t := 65) dX4_makeHalf_54 rfl (by decide) (fun c54 => ?_) (fun c54 => ?_)
            · have hz2 : 0 ≤ zand q (zxor 2 (-1)) ∧ zand q (zxor 2 (-1)) < 4 := zandn_2 (by omega) (by omega) (by decide)
              have hz1 : 0 ≤ zand q (zxor 1 (-1)) ∧ zand q (zxor 1 (-1)) < 4 := zandn_2 (by omega) (by omega) (by decide)
              refine Z_iload (n := 67) dX4_makeHalf_65 rfl rfl ?_
              refine Z_iload (n := 69) dX4_makeHalf_67 rfl rfl ?_
              refine Z_iconst (n := 70) dX4_makeHalf_69 rfl (by decide) ?_
              refine Z_ixor (n := 71) dX4_makeHalf_70 rfl ?_
              refine Z_iand (n := 72) dX4_makeHalf_71 rfl ?_
              refine Z_iadd (n := 73) dX4_makeHalf_72 rfl (by omega) ?_
              refine Z_lald (n := 74) dX4_makeHalf_73 rfl rfl (by decide) (by omega) (by omega) ?_
              refine Z_last (n := 75) dX4_makeHalf_74 rfl rfl (by decide) (by omega) (by omega) (by decide) ?_
              refine Z_goto (t := 162) dX4_makeHalf_75 (by decide) ?_
              refine Z_iinc (L' := [_, _, _, _, _, _, _, _, _, _]) (n := 165) dX4_makeHalf_162 rfl rfl (by decide) rfl rfl (by omega) rfl ?_
              refine Z_goto (t := 11) dX4_makeHalf_165 (by decide) ?_
              refine Z_loc (L' := [some _, some _, some _, some _, some _, some _, some _, none, none, none]) (lsub_same (lsub_same (lsub_same (lsub_same (lsub_same (lsub_same (lsub_same (lsub_none (lsub_none (lsub_none lsub_nil)))))))))) ?_
              exact ih11 _ _ _ (by omega) (by first | rfl | assumption) (by first | assumption | omega | decide) (by first | assumption | omega | decide) (by exact st_step (by unfold hfW bitF; first  | (exfalso; omega)  | (rw [if_pos (show M 39 v < 2 by omega), if_neg (show ¬ y = 0 by omega), if_pos (show M 39 v = 0 by omega)]; exact i11_4 _ (by omega))  | (rw [if_pos (show M 39 v < 2 by omega), if_neg (show ¬ y = 0 by omega), if_neg (show ¬ M 39 v = 0 by omega)]; exact i11_4 _ (by omega))  | (rw [if_pos (show M 39 v < 2 by omega), if_pos (show y = 0 by omega), if_pos (show M 39 v = 0 by omega)]; exact i11_4 _ (by omega))  | (rw [if_pos (show M 39 v < 2 by omega), if_pos (show y = 0 by omega), if_neg (show ¬ M 39 v = 0 by omega)]; exact i11_4 _ (by omega))  | (rw [if_neg (show ¬ M 39 v < 2 by omega), if_neg (show ¬ y = 0 by omega), i11_4 (4 * f + q) (by omega), congrFun (fr11 54 (by decide)).2 (M 39 v)])  | (rw [if_neg (show ¬ M 39 v < 2 by omega), if_pos (show y = 0 by omega), i11_4 (4 * f + q) (by omega), congrFun (fr11 54 (by decide)).2 (M 39 v)])) i11_3) (by exact fun j hj => by rw [uz_n (by omega)]; exact i11_4 j hj)
            · have hz2 : 0 ≤ zor q 2 ∧ zor q 2 < 4 := zor_2 (by omega) (by omega) (by decide)
              have hz1 : 0 ≤ zor q 1 ∧ zor q 1 < 4 := zor_2 (by omega) (by omega) (by decide)
              refine Z_iload (n := 59) dX4_makeHalf_57 rfl rfl ?_
              refine Z_iload (n := 61) dX4_makeHalf_59 rfl rfl ?_
              refine Z_ior (n := 62) dX4_makeHalf_61 rfl ?_
              refine Z_goto (t := 72) dX4_makeHalf_62 (by decide) ?_
              refine Z_iadd (n := 73) dX4_makeHalf_72 rfl (by omega) ?_
              refine Z_lald (n := 74) dX4_makeHalf_73 rfl rfl (by decide) (by omega) (by omega) ?_
              refine Z_last (n := 75) dX4_makeHalf_74 rfl rfl (by decide) (by omega) (by omega) (by decide) ?_
              refine Z_goto (t := 162) dX4_makeHalf_75 (by decide) ?_
              refine Z_iinc (L' := [_, _, _, _, _, _, _, _, _, _]) (n := 165) dX4_makeHalf_162 rfl rfl (by decide) rfl rfl (by omega) rfl ?_
              refine Z_goto (t := 11) dX4_makeHalf_165 (by decide) ?_
              refine Z_loc (L' := [some _, some _, some _, some _, some _, some _, some _, none, none, none]) (lsub_same (lsub_same (lsub_same (lsub_same (lsub_same (lsub_same (lsub_same (lsub_none (lsub_none (lsub_none lsub_nil)))))))))) ?_
              exact ih11 _ _ _ (by omega) (by first | rfl | assumption) (by first | assumption | omega | decide) (by first | assumption | omega | decide) (by exact st_step (by unfold hfW bitF; first  | (exfalso; omega)  | (rw [if_pos (show M 39 v < 2 by omega), if_neg (show ¬ y = 0 by omega), if_pos (show M 39 v = 0 by omega)]; exact i11_4 _ (by omega))  | (rw [if_pos (show M 39 v < 2 by omega), if_neg (show ¬ y = 0 by omega), if_neg (show ¬ M 39 v = 0 by omega)]; exact i11_4 _ (by omega))  | (rw [if_pos (show M 39 v < 2 by omega), if_pos (show y = 0 by omega), if_pos (show M 39 v = 0 by omega)]; exact i11_4 _ (by omega))  | (rw [if_pos (show M 39 v < 2 by omega), if_pos (show y = 0 by omega), if_neg (show ¬ M 39 v = 0 by omega)]; exact i11_4 _ (by omega))  | (rw [if_neg (show ¬ M 39 v < 2 by omega), if_neg (show ¬ y = 0 by omega), i11_4 (4 * f + q) (by omega), congrFun (fr11 54 (by decide)).2 (M 39 v)])  | (rw [if_neg (show ¬ M 39 v < 2 by omega), if_pos (show y = 0 by omega), i11_4 (4 * f + q) (by omega), congrFun (fr11 54 (by decide)).2 (M 39 v)])) i11_3) (by exact fun j hj => by rw [uz_n (by omega)]; exact i11_4 j hj)
          · refine Z_iconst (n := 29) dX4_makeHalf_28 rfl (by decide) ?_
            refine Z_goto (t := 33) dX4_makeHalf_29 (by decide) ?_
            refine Z_istore (L' := [_, _, _, _, _, _, _, _, _, _]) (n := 35) dX4_makeHalf_33 rfl (by decide) rfl rfl ?_
            refine Z_aload_n (n := 36) dX4_makeHalf_35 rfl rfl ?_
            refine Z_getA (n := 39) dX4_makeHalf_36 rfl ffX4_47 rfl rfl ?_
            refine Z_iconst (n := 40) dX4_makeHalf_39 rfl (by decide) ?_
            refine Z_iload_n (n := 41) dX4_makeHalf_40 rfl rfl ?_
            refine Z_imul (n := 42) dX4_makeHalf_41 rfl (by omega) ?_
            refine Z_iload (n := 44) dX4_makeHalf_42 rfl rfl ?_
            refine Z_iadd (n := 45) dX4_makeHalf_44 rfl (by omega) ?_
            refine Z_aload_n (n := 46) dX4_makeHalf_45 rfl rfl ?_
            refine Z_getA (n := 49) dX4_makeHalf_46 rfl ffX4_47 rfl rfl ?_
            refine Z_iconst (n := 50) dX4_makeHalf_49 rfl (by decide) ?_
            refine Z_iload_n (n := 51) dX4_makeHalf_50 rfl rfl ?_
            refine Z_imul (n := 52) dX4_makeHalf_51 rfl (by omega) ?_
            refine Z_iload (n := 54) dX4_makeHalf_52 rfl rfl ?_
            refine Z_if_eq (n := 57) (t := 65) dX4_makeHalf_54 rfl (by decide) (fun c54 => ?_) (fun c54 => ?_)
            · have hz2 : 0 ≤ zand q (zxor 2 (-1)) ∧ zand q (zxor 2 (-1)) < 4 := zandn_2 (by omega) (by omega) (by decide)
              have hz1 : 0 ≤ zand q (zxor 1 (-1)) ∧ zand q (zxor 1 (-1)) < 4 := zandn_2 (by omega) (by omega) (by decide)
              refine Z_iload (n := 67) dX4_makeHalf_65 rfl rfl ?_
              refine Z_iload (n := 69) dX4_makeHalf_67 rfl rfl ?_
              refine Z_iconst (n := 70) dX4_makeHalf_69 rfl (by decide) ?_
              refine Z_ixor (n := 71) dX4_makeHalf_70 rfl ?_
              refine Z_iand (n := 72) dX4_makeHalf_71 rfl ?_
              refine Z_iadd (n := 73) dX4_makeHalf_72 rfl (by omega) ?_
              refine Z_lald (n := 74) dX4_makeHalf_73 rfl rfl (by decide) (by omega) (by omega) ?_
              refine Z_last (n := 75) dX4_makeHalf_74 rfl rfl (by decide) (by omega) (by omega) (by decide) ?_
              refine Z_goto (t := 162) dX4_makeHalf_75 (by decide) ?_
              refine Z_iinc (L' := [_, _, _, _, _, _, _, _, _, _]) (n := 165) dX4_makeHalf_162 rfl rfl (by decide) rfl rfl (by omega) rfl ?_
              refine Z_goto (t := 11) dX4_makeHalf_165 (by decide) ?_
              refine Z_loc (L' := [some _, some _, some _, some _, some _, some _, some _, none, none, none]) (lsub_same (lsub_same (lsub_same (lsub_same (lsub_same (lsub_same (lsub_same (lsub_none (lsub_none (lsub_none lsub_nil)))))))))) ?_
              exact ih11 _ _ _ (by omega) (by first | rfl | assumption) (by first | assumption | omega | decide) (by first | assumption | omega | decide) (by exact st_step (by unfold hfW bitF; first  | (exfalso; omega)  | (rw [if_pos (show M 39 v < 2 by omega), if_neg (show ¬ y = 0 by omega), if_pos (show M 39 v = 0 by omega)]; exact i11_4 _ (by omega))  | (rw [if_pos (show M 39 v < 2 by omega), if_neg (show ¬ y = 0 by omega), if_neg (show ¬ M 39 v = 0 by omega)]; exact i11_4 _ (by omega))  | (rw [if_pos (show M 39 v < 2 by omega), if_pos (show y = 0 by omega), if_pos (show M 39 v = 0 by omega)]; exact i11_4 _ (by omega))  | (rw [if_pos (show M 39 v < 2 by omega), if_pos (show y = 0 by omega), if_neg (show ¬ M 39 v = 0 by omega)]; exact i11_4 _ (by omega))  | (rw [if_neg (show ¬ M 39 v < 2 by omega), if_neg (show ¬ y = 0 by omega), i11_4 (4 * f + q) (by omega), congrFun (fr11 54 (by decide)).2 (M 39 v)])  | (rw [if_neg (show ¬ M 39 v < 2 by omega), if_pos (show y = 0 by omega), i11_4 (4 * f + q) (by omega), congrFun (fr11 54 (by decide)).2 (M 39 v)])) i11_3) (by exact fun j hj => by rw [uz_n (by omega)]; exact i11_4 j hj)
            · have hz2 : 0 ≤ zor q 2 ∧ zor q 2 < 4 := zor_2 (by omega) (by omega) (by decide)
              have hz1 : 0 ≤ zor q 1 ∧ zor q 1 < 4 := zor_2 (by omega) (by omega) (by decide)
              refine Z_iload (n := 59) dX4_makeHalf_57 rfl rfl ?_
              refine Z_iload (n := 61) dX4_makeHalf_59 rfl rfl ?_
              refine Z_ior (n := 62) dX4_makeHalf_61 rfl ?_
              refine Z_goto (t := 72) dX4_makeHalf_62 (by decide) ?_
              refine Z_iadd (n := 73) dX4_makeHalf_72 rfl (by omega) ?_
              refine Z_lald (n := 74) dX4_makeHalf_73 rfl rfl (by decide) (by omega) (by omega) ?_
              refine Z_last (n := 75) dX4_makeHalf_74 rfl rfl (by decide) (by omega) (by omega) (by decide) ?_
              refine Z_goto (t := 162) dX4_makeHalf_75 (by decide) ?_
              refine Z_iinc (L' := [_, _, _, _, _, _, _, _, _, _]) (n := 165) dX4_makeHalf_162 rfl rfl (by decide) rfl rfl (by omega) rfl ?_
              refine Z_goto (t := 11) dX4_makeHalf_165 (by decide) ?_
              refine Z_loc (L' := [some _, some _, some _, some _, some _, some _, some _, none, none, none]) (lsub_same (lsub_same (lsub_same (lsub_same (lsub_same (lsub_same (lsub_same (lsub_none (lsub_none (lsub_none lsub_nil)))))))))) ?_
              exact ih11 _ _ _ (by omega) (by first | rfl | assumption) (by first | assumption | omega | decide) (by first | assumption | omega | decide) (by exact st_step (by unfold hfW bitF; first  | (exfalso; omega)  | (rw [if_pos (show M 39 v < 2 by omega), if_neg (show ¬ y = 0 by omega), if_pos (show M 39 v = 0 by omega)]; exact i11_4 _ (by omega))  | (rw [if_pos (show M 39 v < 2 by omega), if_neg (show ¬ y = 0 by omega), if_neg (show ¬ M 39 v = 0 by omega)]; exact i11_4 _ (by omega))  | (rw [if_pos (show M 39 v < 2 by omega), if_pos (show y = 0 by omega), if_pos (show M 39 v = 0 by omega)]; exact i11_4 _ (by omega))  | (rw [if_pos (show M 39 v < 2 by omega), if_pos (show y = 0 by omega), if_neg (show ¬ M 39 v = 0 by omega)]; exact i11_4 _ (by omega))  | (rw [if_neg (show ¬ M 39 v < 2 by omega), if_neg (show ¬ y = 0 by omega), i11_4 (4 * f + q) (by omega), congrFun (fr11 54 (by decide)).2 (M 39 v)])  | (rw [if_neg (show ¬ M 39 v < 2 by omega), if_pos (show y = 0 by omega), i11_4 (4 * f + q) (by omega), congrFun (fr11 54 (by decide)).2 (M 39 v)])) i11_3) (by exact fun j hj => by rw [uz_n (by omega)]; exact i11_4 j hj)
  refine Z_loc (L' := [some _, some _, some _, some _, some _, some _, some _, none, none, none]) (lsub_same (lsub_same (lsub_same (lsub_same (lsub_same (lsub_same (lsub_same (lsub_none (lsub_none (lsub_none lsub_nil)))))))))) ?_
  exact lp11 _ _ _ _ (Nat.lt_succ_self _) (by rfl) (by first | assumption | omega | decide) (by first | assumption | omega | decide) (by exact fun j j0 j1 => by omega) (by exact fun j _ => rfl)
end
