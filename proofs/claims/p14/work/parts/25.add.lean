/-! ===== the reference on a fresh object: add ===== -/
abbrev kAd (a : Nat) : Prop := a < 31 ∨ (31 < a ∧ a < 43) ∨ a = 44 ∨ 53 < a
theorem bitF_congr {J J' : zJ} (h : J' 44 = J 44) (f : Int) : bitF J' f = bitF J f := by
  funext k
  unfold bitF
  rw [h]
theorem lyw_congr {B B' : Int → Int64} {d i : Int} (h : ∀ k : Int, 0 ≤ k → k < 4 → B k = B' k) (z : 0 ≤ i * zshr 256 d ∧ i * zshr 256 d < 256) : lyw B d i = lyw B' d i := by
  have q := zshr6' z.1 z.2
  unfold lyw
  rw [h _ q.1 (by omega)]
theorem lyc_congr {B B' : Int → Int64} {d i : Int} (h : ∀ k : Int, 0 ≤ k → k < 4 → B k = B' k) (z : 0 ≤ i * zshr 256 d ∧ i * zshr 256 d < 256) : lyc B d i = lyc B' d i := by
  unfold lyc
  rw [lyw_congr h z]
theorem lyR_congr {B B' : Int → Int64} {d i : Int} (h : ∀ k : Int, 0 ≤ k → k < 4 → B k = B' k) (h0 : 0 ≤ d) (h1 : d ≤ 7) (i0 : 0 ≤ i) (i1 : i < zshl 1 d) : lyR B d i = lyR B' d i := by
  obtain ⟨-, z, -, -, z5⟩ := zlay h0 h1 i0 i1
  unfold lyR
  rw [lyc_congr h z, h 0 (by decide) (by decide), h 1 (by decide) (by decide), h 2 (by decide) (by decide), h 3 (by decide) (by decide)]
  by_cases e : 1 < d
  · rw [if_pos e, if_pos e]
  · rw [if_neg e, if_neg e]
    by_cases e0 : d = 0
    · rw [if_pos e0, if_pos e0]
    · rw [if_neg e0, if_neg e0]
      have := z5 (by omega)
      rw [h (2 * i) (by omega) (by omega), h (2 * i + 1) (by omega) (by omega)]
theorem lyP_congr {B B' : Int → Int64} {d i : Int} (h : ∀ k : Int, 0 ≤ k → k < 4 → B k = B' k) (h0 : 0 ≤ d) (h1 : d ≤ 7) (i0 : 0 ≤ i) (i1 : i < zshl 1 d) : ∀ k : Int, 0 ≤ k → k < 4 → lyP B d i k = lyP B' d i k := by
  intro k k0 k1
  obtain ⟨-, z, -, -, z5⟩ := zlay h0 h1 i0 i1
  unfold lyP
  rw [lyw_congr h z, h k k0 k1]
  by_cases e : 1 < d
  · rw [if_pos e, if_pos e]
  · rw [if_neg e, if_neg e]
    by_cases e0 : d = 0
    · rw [if_pos e0, if_pos e0]
    · rw [if_neg e0, if_neg e0]
      have := z5 (by omega)
      rw [h (2 * i) (by omega) (by omega), h (2 * i + 1) (by omega) (by omega)]
def ad0 (M : zM) (f : Int) : zM := uz (uz (uz M 43 f 1) 45 f 0) 31 27 (M 31 27 + 1)
