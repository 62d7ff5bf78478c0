/-! ===== words and bits; positions ===== -/
def wb (w : Int64) (j : Nat) : Bool := w.toBitVec.getLsbD j
theorem wb_ext {x y : Int64} (h : ∀ j : Nat, j < 64 → wb x j = wb y j) : x = y := Int64.toBitVec_inj.1 (BitVec.eq_of_getLsbD_eq (fun i hi => h i hi))
theorem wb_and {x y : Int64} {j : Nat} : wb (x &&& y) j = (wb x j && wb y j) := BitVec.getLsbD_and
theorem wb_or {x y : Int64} {j : Nat} : wb (x ||| y) j = (wb x j || wb y j) := BitVec.getLsbD_or
theorem wb_xor {x y : Int64} {j : Nat} : wb (x ^^^ y) j = (wb x j ^^ wb y j) := BitVec.getLsbD_xor
theorem wb_0 {j : Nat} : wb 0 j = false := BitVec.getLsbD_zero
theorem wb_m1 : ∀ j : Fin 64, wb (-1) j = true := by decide +kernel
theorem sh_r : ∀ s : Fin 64, (((Int32.ofInt (s.val : Int)).toInt64.toUInt64 &&& Int64.toUInt64 63).toBitVec % 64).toNat = s.val := by decide +kernel
theorem sh_l : ∀ s : Fin 64, (((Int32.ofInt (s.val : Int)).toInt64 &&& 63).toBitVec.smod 64).toNat = s.val := by decide +kernel
theorem wb_ushr {x : Int64} {s : Int} {j : Nat} (h0 : 0 ≤ s) (h1 : s < 64) : wb (zlushr x s) j = wb x (s.toNat + j) := by
  have q := sh_r ⟨s.toNat, by omega⟩
  dsimp only at q
  rw [Int.toNat_of_nonneg h0] at q
  show (x.toBitVec >>> (((Int32.ofInt s).toInt64.toUInt64 &&& Int64.toUInt64 63).toBitVec % 64)).getLsbD j = _
  rw [BitVec.ushiftRight_eq', q, BitVec.getLsbD_ushiftRight]
  rfl
theorem wb_shl {x : Int64} {s : Int} {j : Nat} (h0 : 0 ≤ s) (h1 : s < 64) (hj : j < 64) : wb (zlshl x s) j = (!decide (j < s.toNat) && wb x (j - s.toNat)) := by
  have q := sh_l ⟨s.toNat, by omega⟩
  dsimp only at q
  rw [Int.toNat_of_nonneg h0] at q
  show (x.toBitVec <<< (((Int32.ofInt s).toInt64 &&& 63).toBitVec.smod 64)).getLsbD j = _
  rw [BitVec.shiftLeft_eq', q, BitVec.getLsbD_shiftLeft]
  simp [hj, wb]
theorem wb_sshr {x : Int64} {s : Int} (h0 : 0 ≤ s) (h1 : s < 64) : wb (zlshr x s) 0 = wb x s.toNat := by
  have q := sh_l ⟨s.toNat, by omega⟩
  dsimp only at q
  rw [Int.toNat_of_nonneg h0] at q
  show (x.toBitVec.sshiftRight' (((Int32.ofInt s).toInt64 &&& 63).toBitVec.smod 64)).getLsbD 0 = _
  rw [BitVec.sshiftRight_eq', q, BitVec.getLsbD_sshiftRight]
  have : ¬ 64 ≤ 0 := by decide
  simp [wb]
  omega
theorem and1_eq {x : Int64} : (x &&& 1 = 1) ↔ wb x 0 = true := by
  constructor
  · intro h
    have q : wb (x &&& 1) 0 = wb 1 0 := by rw [h]
    rw [wb_and, show wb 1 0 = true by decide +kernel, Bool.and_true] at q
    exact q
  · intro h
    refine wb_ext (fun j hj => ?_)
    have q1 : ∀ j : Fin 64, wb 1 j = decide (j.val = 0) := by decide +kernel
    rw [wb_and, q1 ⟨j, hj⟩]
    by_cases e : j = 0
    · subst e; rw [h]; rfl
    · simp [e]
theorem pdiv : ∀ p : Fin 256, zshr (p.val : Int) 6 = ((p.val / 64 : Nat) : Int) ∧ zand (p.val : Int) 63 = ((p.val % 64 : Nat) : Int) := by decide +kernel
theorem zshr_6 {p : Int} (h0 : 0 ≤ p) (h1 : p < 256) : zshr p 6 = p / 64 ∧ zand p 63 = p % 64 := by
  have q := pdiv ⟨p.toNat, by omega⟩
  dsimp only at q
  rw [Int.toNat_of_nonneg h0] at q
  refine ⟨q.1.trans ?_, q.2.trans ?_⟩ <;> omega
theorem btF_wb {B : Int → Int64} {p : Int} (h0 : 0 ≤ p) (h1 : p < 256) : btF B p = if wb (B (p / 64)) (p % 64).toNat = true then 1 else 0 := by
  unfold btF
  rw [(zshr_6 h0 h1).1, (zshr_6 h0 h1).2]
  by_cases e : zlshr (B (p / 64)) (p % 64) &&& 1 = 1
  · rw [if_pos e, if_pos (by rw [← wb_sshr (by omega) (by omega)]; exact and1_eq.mp e)]
  · rw [if_neg e, if_neg (fun q => e (and1_eq.mpr (by rw [wb_sshr (by omega) (by omega)]; exact q)))]
theorem btF_eq {B B' : Int → Int64} {p p' : Int} (h0 : 0 ≤ p) (h1 : p < 256) (h0' : 0 ≤ p') (h1' : p' < 256) : btF B p = btF B' p' ↔ wb (B (p / 64)) (p % 64).toNat = wb (B' (p' / 64)) (p' % 64).toNat := by
  rw [btF_wb h0 h1, btF_wb h0' h1']
  cases wb (B (p / 64)) (p % 64).toNat <;> cases wb (B' (p' / 64)) (p' % 64).toNat <;> simp
theorem btF_congr {B B' : Int → Int64} (h : ∀ k : Int, 0 ≤ k → k < 4 → B k = B' k) {p : Int} (h0 : 0 ≤ p) (h1 : p < 256) : btF B p = btF B' p := by
  rw [btF_wb h0 h1, btF_wb h0 h1, h _ (by omega) (by omega)]
/-- all bits alike: all words alike -/
theorem btF_inj {B B' : Int → Int64} (h : ∀ p : Int, 0 ≤ p → p < 256 → btF B p = btF B' p) : ∀ k : Int, 0 ≤ k → k < 4 → B k = B' k := by
  intro k k0 k1
  refine wb_ext (fun j hj => ?_)
  have q := (btF_eq (by omega) (by omega) (by omega) (by omega)).mp (h (64 * k + j) (by omega) (by omega))
  rw [show (64 * k + (j : Int)) / 64 = k by omega, show ((64 * k + (j : Int)) % 64).toNat = j by omega] at q
  exact q
/-! positions -/
def bz (x : Int) : Int := if x = 0 then 0 else 1
theorem bz_in (x : Int) : bz x = 0 ∨ bz x = 1 := by
  unfold bz
  split
  · exact Or.inl rfl
  · exact Or.inr rfl
theorem bz_0 : bz 0 = 0 := rfl
theorem bz_1 : bz 1 = 1 := rfl
/-- the lowest k places as a number -/
def pd (r : Int → Int) : Nat → Int
  | 0 => 0
  | k + 1 => bz (r (7 - (k : Int))) * pw2 k + pd r k
theorem pw2_pos : ∀ k : Nat, 1 ≤ pw2 k
  | 0 => by decide
  | k + 1 => by
    have := pw2_pos k
    unfold pw2
    omega
theorem pd_in (r : Int → Int) : ∀ k : Nat, 0 ≤ pd r k ∧ pd r k < pw2 k
  | 0 => by
    show (0 : Int) ≤ 0 ∧ (0 : Int) < 1
    decide
  | k + 1 => by
    have h := pd_in r k
    have hp := pw2_pos k
    unfold pd
    rw [show pw2 (k + 1) = 2 * pw2 k from rfl]
    rcases bz_in (r (7 - (k : Int))) with e | e <;> rw [e] <;> omega
theorem pd_ag {r r' : Int → Int} : ∀ {k : Nat}, (∀ j : Int, 8 - (k : Int) ≤ j → r j = r' j) → pd r k = pd r' k
  | 0, _ => rfl
  | k + 1, h => by
    unfold pd
    rw [h (7 - (k : Int)) (by omega), pd_ag (k := k) (fun j hj => h j (by omega))]
theorem pd_up {r : Int → Int} {k : Nat} {v : Int} : pd (updI r (7 - (k : Int)) v) (k + 1) = bz v * pw2 k + pd r k := by
  show bz (updI r (7 - (k : Int)) v (7 - (k : Int))) * pw2 k + pd (updI r (7 - (k : Int)) v) k = _
  rw [updI_s, pd_ag (fun j hj => updI_n (by omega))]
theorem pd_onto : ∀ (k : Nat) (q : Int), 0 ≤ q → q < pw2 k → ∃ r : Int → Int, pd r k = q
  | 0, q, h0, h1 => ⟨fun _ => 0, by have : q < 1 := h1; show (0 : Int) = q; omega⟩
  | k + 1, q, h0, h1 => by
    rw [show pw2 (k + 1) = 2 * pw2 k from rfl] at h1
    have hp := pw2_pos k
    by_cases e : q < pw2 k
    · obtain ⟨r, hr⟩ := pd_onto k q h0 e
      exact ⟨updI r (7 - (k : Int)) 0, by rw [pd_up, hr, bz_0]; omega⟩
    · obtain ⟨r, hr⟩ := pd_onto k (q - pw2 k) (by omega) (by omega)
      exact ⟨updI r (7 - (k : Int)) 1, by rw [pd_up, hr, bz_1]; omega⟩
/-- the first d places as a number -/
def ihd (s : Int → Int) : Nat → Int
  | 0 => 0
  | d + 1 => 2 * ihd s d + bz (s (d : Int))
theorem ihd_in (s : Int → Int) : ∀ d : Nat, 0 ≤ ihd s d ∧ ihd s d < pw2 d
  | 0 => by
    show (0 : Int) ≤ 0 ∧ (0 : Int) < 1
    decide
  | d + 1 => by
    have h := ihd_in s d
    unfold ihd
    rw [show pw2 (d + 1) = 2 * pw2 d from rfl]
    rcases bz_in (s (d : Int)) with e | e <;> rw [e] <;> omega
theorem ihd_ag {s s' : Int → Int} : ∀ {d : Nat}, (∀ j : Int, j < d → s j = s' j) → ihd s d = ihd s' d
  | 0, _ => rfl
  | d + 1, h => by
    unfold ihd
    rw [h d (by omega), ihd_ag (d := d) (fun j hj => h j (by omega))]
theorem ihd_onto : ∀ (d : Nat) (i : Int), 0 ≤ i → i < pw2 d → ∃ s : Int → Int, ihd s d = i
  | 0, i, h0, h1 => ⟨fun _ => 0, by have : i < 1 := h1; show (0 : Int) = i; omega⟩
  | d + 1, i, h0, h1 => by
    rw [show pw2 (d + 1) = 2 * pw2 d from rfl] at h1
    obtain ⟨s, hs⟩ := ihd_onto d (i / 2) (by omega) (by omega)
    refine ⟨updI s d (i % 2), ?_⟩
    show 2 * ihd (updI s d (i % 2)) d + bz (updI s d (i % 2) d) = i
    rw [updI_s, ihd_ag (s' := s) (fun j hj => updI_n (by omega)), hs]
    rcases (show i % 2 = 0 ∨ i % 2 = 1 by omega) with e | e <;> rw [e] <;> simp [bz] <;> omega
theorem mix_up {d : Int} {s r : Int → Int} : mix (d + 1) s r = mix d s (updI r d (s d)) := by
  funext k
  by_cases h : k < d
  · rw [mix_lt (by omega), mix_lt h]
  · rw [mix_ge (d := d) (by omega)]
    by_cases e : k = d
    · rw [e, updI_s, mix_lt (by omega)]
    · rw [updI_n e, mix_ge (by omega)]
theorem pd_mix {s : Int → Int} : ∀ {d k : Nat} {r : Int → Int}, d + k = 8 → pd (mix (d : Int) s r) 8 = ihd s d * pw2 k + pd r k
  | 0, k, r, h => by
    have e : k = 8 := by omega
    subst e
    rw [show mix ((0 : Nat) : Int) s r = mix 0 s r from rfl]
    rw [pd_ag (r := mix 0 s r) (r' := r) (fun j hj => mix_ge (by omega))]
    show _ = 0 * _ + _
    omega
  | d + 1, k, r, h => by
    have q := pd_mix (s := s) (d := d) (k := k + 1) (r := updI r d (s d)) (by omega)
    rw [show (((d + 1 : Nat) : Int)) = (d : Int) + 1 by omega, mix_up, q]
    have e : (d : Int) = 7 - (k : Int) := by omega
    rw [show updI r (d : Int) (s d) = updI r (7 - (k : Int)) (s d) by rw [e], pd_up]
    show ihd s d * (2 * pw2 k) + _ = (2 * ihd s d + bz (s d)) * pw2 k + _
    rw [Int.add_mul, Int.mul_comm 2 (ihd s d), Int.mul_assoc]
    omega
/-- the whole position -/
def pos (r : Int → Int) : Int := pd r 8
theorem pw2_v : pw2 0 = 1 ∧ pw2 1 = 2 ∧ pw2 2 = 4 ∧ pw2 3 = 8 ∧ pw2 4 = 16 ∧ pw2 5 = 32 ∧ pw2 6 = 64 ∧ pw2 7 = 128 ∧ pw2 8 = 256 := by decide
theorem pos_in (r : Int → Int) : 0 ≤ pos r ∧ pos r < 256 := pd_in r 8
/-! ===== laid parts of a word's function ===== -/
theorem msk_ok : ∀ (n : Fin 6) (j : Fin 64), wb (zlshl 1 (pw2 n.val) - 1) j.val = decide ((j.val : Int) < pw2 n.val) := by decide +kernel
theorem dep_v : ∀ d : Fin 8, zshr 256 (d.val : Int) = pw2 (8 - d.val) ∧ zshl 1 (d.val : Int) = pw2 d.val ∧ (1 < d.val → zdiv (zshr 256 (d.val : Int)) 2 = pw2 (7 - d.val)) := by decide +kernel
theorem wd_ok {B : Int → Int64} {a : Int} {j : Nat} (a0 : 0 ≤ a) (a1 : a < 256) (h : a % 64 + j < 64) : wb (zlushr (B (zshr a 6)) (zand a 63)) j = wb (B ((a + j) / 64)) ((a + j) % 64).toNat := by
  rw [(zshr_6 a0 a1).1, (zshr_6 a0 a1).2, wb_ushr (by omega) (by omega)]
  rw [show (a + (j : Int)) / 64 = a / 64 by omega, show ((a + (j : Int)) % 64).toNat = (a % 64).toNat + j by omega]
theorem lyw_wb {B : Int → Int64} {d i : Int} {k : Nat} (hk : d + k = 8) (hd : 2 ≤ d) (h1 : d ≤ 7) (i0 : 0 ≤ i) (i1 : i < pw2 d.toNat) {j : Nat} (hj : (j : Int) < pw2 k) : wb (lyw B d i) j = wb (B ((i * pw2 k + j) / 64)) ((i * pw2 k + j) % 64).toNat := by
  have v := dep_v ⟨d.toNat, by omega⟩
  dsimp only at v
  rw [Int.toNat_of_nonneg (by omega)] at v
  have w := pw2_v
  have e : zshr 256 d = pw2 k := by rw [v.1]; congr 1; omega
  have key : 0 ≤ i * pw2 k ∧ i * pw2 k < 256 ∧ (i * pw2 k) % 64 + j < 64 := by
    rcases (show (d = 2 ∧ k = 6) ∨ (d = 3 ∧ k = 5) ∨ (d = 4 ∧ k = 4) ∨ (d = 5 ∧ k = 3) ∨ (d = 6 ∧ k = 2) ∨ (d = 7 ∧ k = 1) by omega) with ⟨z, y⟩ | ⟨z, y⟩ | ⟨z, y⟩ | ⟨z, y⟩ | ⟨z, y⟩ | ⟨z, y⟩ <;> subst z <;> subst y <;> simp only [show (2 : Int).toNat = 2 from rfl, show (3 : Int).toNat = 3 from rfl, show (4 : Int).toNat = 4 from rfl, show (5 : Int).toNat = 5 from rfl, show (6 : Int).toNat = 6 from rfl, show (7 : Int).toNat = 7 from rfl, w] at * <;> omega
  unfold lyw
  rw [e]
  exact wd_ok key.1 key.2.1 key.2.2
theorem btF_ly {B : Int → Int64} {d i : Int} {k : Nat} (hk : d + k = 8) (h0 : 0 ≤ d) (h1 : d ≤ 7) (i0 : 0 ≤ i) (i1 : i < pw2 d.toNat) {q : Int} (q0 : 0 ≤ q) (q1 : q < 256) : btF (lyP B d i) q = if q < pw2 k then btF B (i * pw2 k + q) else 0 := by
  have w := pw2_v
  have v := dep_v ⟨d.toNat, by omega⟩
  dsimp only at v
  rw [Int.toNat_of_nonneg h0] at v
  by_cases e0 : d = 0
  · subst e0
    have hk8 : k = 8 := by omega
    subst hk8
    have hi : i = 0 := by have : i < pw2 0 := i1; omega
    subst hi
    rw [if_pos (by omega), show (0 : Int) * pw2 8 + q = q by omega]
    rfl
  · by_cases e1 : d = 1
    · subst e1
      have hk7 : k = 7 := by omega
      subst hk7
      have hi : i = 0 ∨ i = 1 := by have : i < pw2 1 := i1; omega
      have eP : i * pw2 7 = i * 128 := by rw [show pw2 7 = 128 by decide]
      by_cases c : q < pw2 7
      · rw [if_pos c, btF_eq q0 q1 (by omega) (by omega)]
        have hq : q / 64 = 0 ∨ q / 64 = 1 := by omega
        have hP : lyP B 1 i (q / 64) = B ((i * pw2 7 + q) / 64) := by
          show (if q / 64 = 0 then B (2 * i) else if q / 64 = 1 then B (2 * i + 1) else 0) = _
          rcases hq with z | z
          · rw [if_pos z]; congr 1; omega
          · rw [if_neg (by omega), if_pos z]; congr 1; omega
        rw [hP]
        congr 1
        omega
      · rw [if_neg c, btF_wb q0 q1, if_neg]
        show ¬ wb (if q / 64 = 0 then B (2 * i) else if q / 64 = 1 then B (2 * i + 1) else 0) _ = true
        rw [if_neg (by omega), if_neg (by omega), wb_0]
        decide
    · have hd : 2 ≤ d := by omega
      have e : zshr 256 d = pw2 k := by rw [v.1]; congr 1; omega
      have hk6 : k ≤ 6 := by omega
      have hp6 : pw2 k ≤ 64 := by
        rcases (show k = 1 ∨ k = 2 ∨ k = 3 ∨ k = 4 ∨ k = 5 ∨ k = 6 by omega) with z | z | z | z | z | z <;> rw [z] <;> omega
      have hib : 0 ≤ i * pw2 k ∧ i * pw2 k + pw2 k ≤ 256 := by
        rcases (show (d = 2 ∧ k = 6) ∨ (d = 3 ∧ k = 5) ∨ (d = 4 ∧ k = 4) ∨ (d = 5 ∧ k = 3) ∨ (d = 6 ∧ k = 2) ∨ (d = 7 ∧ k = 1) by omega) with ⟨z, y⟩ | ⟨z, y⟩ | ⟨z, y⟩ | ⟨z, y⟩ | ⟨z, y⟩ | ⟨z, y⟩ <;> subst z <;> subst y <;> simp only [show (2 : Int).toNat = 2 from rfl, show (3 : Int).toNat = 3 from rfl, show (4 : Int).toNat = 4 from rfl, show (5 : Int).toNat = 5 from rfl, show (6 : Int).toNat = 6 from rfl, show (7 : Int).toNat = 7 from rfl, w] at * <;> omega
      by_cases c : q < pw2 k
      · have t := lyw_wb (B := B) hk hd h1 i0 i1 (j := q.toNat) (by omega)
        rw [Int.toNat_of_nonneg q0] at t
        rw [if_pos c, btF_eq q0 q1 (by omega) (by omega), ← t]
        rw [show q / 64 = 0 by omega, show (q % 64).toNat = q.toNat by omega]
        unfold lyP
        rw [if_pos (by omega), if_pos rfl, e]
        by_cases z : pw2 k = 64
        · rw [if_pos z]
        · rw [if_neg z, wb_and]
          have m := msk_ok ⟨k, by
            rcases (show k = 1 ∨ k = 2 ∨ k = 3 ∨ k = 4 ∨ k = 5 ∨ k = 6 by omega) with y | y | y | y | y | y
            · omega
            · omega
            · omega
            · omega
            · omega
            · rw [y] at z; omega⟩ ⟨q.toNat, by omega⟩
          dsimp only at m
          rw [m, decide_eq_true (by omega), Bool.and_true]
      · rw [if_neg c, btF_wb q0 q1, if_neg]
        unfold lyP
        rw [if_pos (by omega)]
        by_cases y : q / 64 = 0
        · rw [if_pos y, e]
          by_cases z : pw2 k = 64
          · omega
          · rw [if_neg z, wb_and]
            have m := msk_ok ⟨k, by
              rcases (show k = 1 ∨ k = 2 ∨ k = 3 ∨ k = 4 ∨ k = 5 ∨ k = 6 by omega) with y | y | y | y | y | y
              · omega
              · omega
              · omega
              · omega
              · omega
              · rw [y] at z; omega⟩ ⟨(q % 64).toNat, by omega⟩
            dsimp only at m
            rw [m, decide_eq_false (by omega), Bool.and_false]
            decide
        · rw [if_neg y, wb_0]
          decide
theorem bool_ne {a b : Bool} : (a ^^ b) = false ↔ a = b := by cases a <;> cases b <;> decide
theorem lyR_ly {B : Int → Int64} {d i : Int} {k : Nat} (hk : d + (k + 1) = 8) (h0 : 0 ≤ d) (i0 : 0 ≤ i) (i1 : i < pw2 d.toNat) : lyR B d i = true ↔ ∃ q : Int, (0 ≤ q ∧ q < pw2 k) ∧ ¬ btF B (i * pw2 (k + 1) + q) = btF B (i * pw2 (k + 1) + q + pw2 k) := by
  have w := pw2_v
  have v := dep_v ⟨d.toNat, by omega⟩
  dsimp only at v
  rw [Int.toNat_of_nonneg h0] at v
  have h2 : pw2 (k + 1) = 2 * pw2 k := rfl
  by_cases e0 : d = 0
  · subst e0
    have hk7 : k = 7 := by omega
    subst hk7
    have hi : i = 0 := by have : i < pw2 0 := i1; omega
    subst hi
    rw [lyR_0, decide_eq_true_iff]
    constructor
    · intro h
      by_cases z : ∃ q : Int, (0 ≤ q ∧ q < pw2 7) ∧ ¬ btF B (0 * pw2 (7 + 1) + q) = btF B (0 * pw2 (7 + 1) + q + pw2 7)
      · exact z
      · exfalso
        have key : ∀ c : Int, (c = 0 ∨ c = 1) → B c = B (c + 2) := fun c hc => wb_ext (fun j hj => by
          by_cases y : wb (B c) j = wb (B (c + 2)) j
          · exact y
          · exfalso
            refine z ⟨64 * c + j, by omega, fun t => y ?_⟩
            rw [btF_eq (by omega) (by omega) (by omega) (by omega)] at t
            rw [show (0 * pw2 (7 + 1) + (64 * c + (j : Int))) / 64 = c by omega, show ((0 * pw2 (7 + 1) + (64 * c + (j : Int))) % 64).toNat = j by omega, show (0 * pw2 (7 + 1) + (64 * c + (j : Int)) + pw2 7) / 64 = c + 2 by omega, show ((0 * pw2 (7 + 1) + (64 * c + (j : Int)) + pw2 7) % 64).toNat = j by omega] at t
            exact t)
        rcases h with h | h
        · exact h (key 0 (Or.inl rfl))
        · exact h (key 1 (Or.inr rfl))
    · rintro ⟨q, qb, hq⟩
      by_cases z : B 0 = B 2
      · right
        intro y
        refine hq ?_
        rw [btF_eq (by omega) (by omega) (by omega) (by omega)]
        rw [show ((0 * pw2 (7 + 1) + q + pw2 7) % 64).toNat = ((0 * pw2 (7 + 1) + q) % 64).toNat by omega]
        rcases (show (0 * pw2 (7 + 1) + q) / 64 = 0 ∨ (0 * pw2 (7 + 1) + q) / 64 = 1 by omega) with t | t
        · rw [t, show (0 * pw2 (7 + 1) + q + pw2 7) / 64 = 2 by omega, z]
        · rw [t, show (0 * pw2 (7 + 1) + q + pw2 7) / 64 = 3 by omega, y]
      · exact Or.inl z
  · by_cases e1 : d = 1
    · subst e1
      have hk6 : k = 6 := by omega
      subst hk6
      have hi : i = 0 ∨ i = 1 := by have : i < pw2 1 := i1; omega
      have eP : i * pw2 (6 + 1) = i * 128 := by rw [show pw2 (6 + 1) = 128 by decide]
      rw [lyR_1, decide_eq_true_iff]
      constructor
      · intro h
        by_cases z : ∃ q : Int, (0 ≤ q ∧ q < pw2 6) ∧ ¬ btF B (i * pw2 (6 + 1) + q) = btF B (i * pw2 (6 + 1) + q + pw2 6)
        · exact z
        · exfalso
          refine h (wb_ext (fun j hj => ?_))
          by_cases y : wb (B (2 * i)) j = wb (B (2 * i + 1)) j
          · exact y
          · exfalso
            refine z ⟨j, by omega, fun t => y ?_⟩
            rw [btF_eq (by omega) (by omega) (by omega) (by omega)] at t
            rw [show (i * pw2 (6 + 1) + (j : Int)) / 64 = 2 * i by omega, show ((i * pw2 (6 + 1) + (j : Int)) % 64).toNat = j by omega, show (i * pw2 (6 + 1) + (j : Int) + pw2 6) / 64 = 2 * i + 1 by omega, show ((i * pw2 (6 + 1) + (j : Int) + pw2 6) % 64).toNat = j by omega] at t
            exact t
      · rintro ⟨q, qb, hq⟩ y
        refine hq ?_
        rw [btF_eq (by omega) (by omega) (by omega) (by omega)]
        rw [show (i * pw2 (6 + 1) + q) / 64 = 2 * i by omega, show (i * pw2 (6 + 1) + q + pw2 6) / 64 = 2 * i + 1 by omega, show ((i * pw2 (6 + 1) + q + pw2 6) % 64).toNat = ((i * pw2 (6 + 1) + q) % 64).toNat by omega, y]
    · have hd : 2 ≤ d := by omega
      have hk5 : k ≤ 5 := by omega
      have hp5 : pw2 k ≤ 32 ∧ 1 ≤ pw2 k := by
        rcases (show k = 0 ∨ k = 1 ∨ k = 2 ∨ k = 3 ∨ k = 4 ∨ k = 5 by omega) with z | z | z | z | z | z <;> rw [z] <;> omega
      have e : zdiv (zshr 256 d) 2 = pw2 k := by rw [v.2.2 (by omega)]; congr 1; omega
      have hib : 0 ≤ i * pw2 (k + 1) ∧ i * pw2 (k + 1) + pw2 (k + 1) ≤ 256 := by
        rcases (show (d = 2 ∧ k = 5) ∨ (d = 3 ∧ k = 4) ∨ (d = 4 ∧ k = 3) ∨ (d = 5 ∧ k = 2) ∨ (d = 6 ∧ k = 1) ∨ (d = 7 ∧ k = 0) by omega) with ⟨z, y⟩ | ⟨z, y⟩ | ⟨z, y⟩ | ⟨z, y⟩ | ⟨z, y⟩ | ⟨z, y⟩ <;> subst z <;> subst y <;> simp only [show (2 : Int).toNat = 2 from rfl, show (3 : Int).toNat = 3 from rfl, show (4 : Int).toNat = 4 from rfl, show (5 : Int).toNat = 5 from rfl, show (6 : Int).toNat = 6 from rfl, show (7 : Int).toNat = 7 from rfl, Nat.reduceAdd, w] at * <;> omega
      have cb : ∀ j : Nat, j < 64 → wb (lyc B d i) j = if (j : Int) < pw2 k then (wb (lyw B d i) j ^^ wb (lyw B d i) (j + (pw2 k).toNat)) else false := fun j hj => by
        unfold lyc
        rw [e, wb_and, wb_xor, wb_ushr (by omega) (by omega)]
        have m := msk_ok ⟨k, by omega⟩ ⟨j, hj⟩
        dsimp only at m
        rw [m, Nat.add_comm]
        by_cases y : (j : Int) < pw2 k
        · rw [if_pos y, decide_eq_true y, Bool.and_true]
        · rw [if_neg y, decide_eq_false y, Bool.and_false]
      have lw : ∀ q : Int, 0 ≤ q → q < pw2 k → (wb (lyw B d i) q.toNat = wb (lyw B d i) (q.toNat + (pw2 k).toNat) ↔ btF B (i * pw2 (k + 1) + q) = btF B (i * pw2 (k + 1) + q + pw2 k)) := fun q q0 q1 => by
        rw [btF_eq (by omega) (by omega) (by omega) (by omega)]
        have a := lyw_wb (B := B) (k := k + 1) (by omega) hd (by omega) i0 i1 (j := q.toNat) (by omega)
        have b := lyw_wb (B := B) (k := k + 1) (by omega) hd (by omega) i0 i1 (j := q.toNat + (pw2 k).toNat) (by omega)
        rw [show ((q.toNat + (pw2 k).toNat : Nat) : Int) = q + pw2 k by omega] at b
        rw [Int.toNat_of_nonneg q0] at a
        rw [a, b, show i * pw2 (k + 1) + (q + pw2 k) = i * pw2 (k + 1) + q + pw2 k by omega]
      rw [lyR_2 (by omega), decide_eq_true_iff]
      constructor
      · intro h
        by_cases z : ∃ q : Int, (0 ≤ q ∧ q < pw2 k) ∧ ¬ btF B (i * pw2 (k + 1) + q) = btF B (i * pw2 (k + 1) + q + pw2 k)
        · exact z
        · exfalso
          refine h (wb_ext (fun j hj => ?_))
          rw [cb j hj, wb_0]
          by_cases y : (j : Int) < pw2 k
          · rw [if_pos y]
            refine bool_ne.mpr ?_
            have t := lw j (by omega) y
            rw [Int.toNat_natCast] at t
            refine t.mpr ?_
            by_cases u : btF B (i * pw2 (k + 1) + j) = btF B (i * pw2 (k + 1) + j + pw2 k)
            · exact u
            · exact absurd ⟨(j : Int), ⟨by omega, y⟩, u⟩ z
          · rw [if_neg y]
      · rintro ⟨q, qb, hq⟩ h
        refine hq ((lw q qb.1 qb.2).mp ?_)
        have t := cb q.toNat (by omega)
        rw [h, wb_0, if_pos (by omega)] at t
        exact bool_ne.mp t.symm
