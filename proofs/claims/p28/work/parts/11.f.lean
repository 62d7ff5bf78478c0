/-! ===== the heap's shape behind both constructors; kept addresses; small facts ===== -/
def F1S : List (Nat × Nat) := [(1, 3), (5, 3), (1, 1), (2, 8), (2, 8), (1, 2), (2, 252), (2, 252), (2, 252), (2, 252), (2, 252), (2, 256), (2, 12), (2, 40), (2, 40), (2, 8),
  (1, 0), (2, 40), (2, 120), (2, 4), (2, 40), (1, 0), (2, 40), (2, 120), (2, 4), (2, 40), (1, 0), (2, 40), (2, 120), (2, 4), (2, 40),
  (1, 4), (2, 3), (2, 3), (2, 120), (2, 360), (2, 12), (3, 40), (2, 8), (2, 8), (3, 40), (2, 41), (2, 41), (3, 56), (4, 224), (2, 56), (2, 14280), (2, 520), (4, 2080), (2, 520), (2, 520), (2, 512), (2, 520), (4, 4), (4, 8), (3, 40), (2, 40), (2, 256)]
def F1P : List (List (Option Nat)) := [[some 1, some 2, some 5, some 12, some 13, some 14, some 15], [some 16, some 21, some 26], [some 3, some 4], [], [], [some 6, some 7, some 8, some 9, some 10, some 11], [], [], [], [], [], [], [], [], [], [],
  [some 17, some 18, some 19, some 20], [], [], [], [], [some 22, some 23, some 24, some 25], [], [], [], [], [some 27, some 28, some 29, some 30], [], [], [], [],
  [some 32, some 33, some 34, some 35, some 36, some 37, some 38, some 39, none, some 40, some 41, some 42, none, none, some 43, some 44, some 45, some 46, some 47, some 48, some 49, some 50, some 51, none, none, none, some 52, none, some 53, some 54, some 55, some 56, some 57]]
def F1 : zF := (fun a => F1S.getD a (0, 0), fun a k => (F1P.getD a []).getD k none, 58)
abbrev kAll (_ : Nat) : Prop := True
abbrev kPool (a : Nat) : Prop := a < 5 ∨ 11 < a
abbrev kOrd (a : Nat) : Prop := a < 2 ∨ 4 < a
/-- all but what a step may change: the bench's fields, the pool, ofGate, lastNeed, kept -/
abbrev kStep (a : Nat) : Prop := (0 < a ∧ a < 5) ∨ a = 12 ∨ 15 < a
/-- all but the class's own, nets aside -/
abbrev kHeld (a : Nat) : Prop := (0 < a ∧ a < 5) ∨ 15 < a
abbrev NetAt (b : Nat) : Prop := b = 16 ∨ b = 21 ∨ b = 26
theorem nS0 {b : Nat} (h : NetAt b) : F1.1 b = (1, 0) := by rcases h with rfl | rfl | rfl <;> rfl
theorem nS1 {b : Nat} (h : NetAt b) : F1.1 (b + 1) = (2, 40) := by rcases h with rfl | rfl | rfl <;> rfl
theorem nS2 {b : Nat} (h : NetAt b) : F1.1 (b + 2) = (2, 120) := by rcases h with rfl | rfl | rfl <;> rfl
theorem nS3 {b : Nat} (h : NetAt b) : F1.1 (b + 3) = (2, 4) := by rcases h with rfl | rfl | rfl <;> rfl
theorem nS4 {b : Nat} (h : NetAt b) : F1.1 (b + 4) = (2, 40) := by rcases h with rfl | rfl | rfl <;> rfl
theorem nP0 {b : Nat} (h : NetAt b) : F1.2.1 b 0 = some (b + 1) := by rcases h with rfl | rfl | rfl <;> rfl
theorem nP1 {b : Nat} (h : NetAt b) : F1.2.1 b 1 = some (b + 2) := by rcases h with rfl | rfl | rfl <;> rfl
theorem nP2 {b : Nat} (h : NetAt b) : F1.2.1 b 2 = some (b + 3) := by rcases h with rfl | rfl | rfl <;> rfl
theorem nP3 {b : Nat} (h : NetAt b) : F1.2.1 b 3 = some (b + 4) := by rcases h with rfl | rfl | rfl <;> rfl
theorem nTg {b : Nat} (h : NetAt b) : zT b 4 = (0, 40) := by rcases h with rfl | rfl | rfl <;> rfl
theorem nTo {b : Nat} (h : NetAt b) : zT b 5 = (0, 4) := by rcases h with rfl | rfl | rfl <;> rfl
theorem nT1 {b : Nat} {j : Int} (h : NetAt b) : zT (b + 1) j = (0, 10) := by rcases h with rfl | rfl | rfl <;> rfl
theorem nT2 {b : Nat} {j : Int} (h : NetAt b) : zT (b + 2) j = (-2147483648, 2147483647) := by rcases h with rfl | rfl | rfl <;> rfl
theorem nT3 {b : Nat} {j : Int} (h : NetAt b) : zT (b + 3) j = (0, 39) := by rcases h with rfl | rfl | rfl <;> rfl
theorem nT4 {b : Nat} {j : Int} (h : NetAt b) : zT (b + 4) j = (0, 1) := by rcases h with rfl | rfl | rfl <;> rfl
/-- where net j stands -/
abbrev nA (j : Int) : Nat := 16 + 5 * j.toNat
theorem nA_at {j : Int} (h0 : 0 ≤ j) (h1 : j < 3) : NetAt (nA j) := by
  show 16 + 5 * j.toNat = 16 ∨ 16 + 5 * j.toNat = 21 ∨ 16 + 5 * j.toNat = 26
  omega
theorem nA_P {j : Int} (h0 : 0 ≤ j) (h1 : j < 3) : F1.2.1 1 j.toNat = some (nA j) := by
  rcases (show j = 0 ∨ j = 1 ∨ j = 2 by omega) with rfl | rfl | rfl <;> rfl
/-! bits -/
theorem nx_and (a b : Nat) : nI a &&& nI b = nI (a &&& b) := by
  apply Int32.toBitVec_inj.1
  show BitVec.ofNat 32 a &&& BitVec.ofNat 32 b = BitVec.ofNat 32 (a &&& b)
  apply BitVec.eq_of_getLsbD_eq
  intro i hi
  simp [hi]
theorem nx_xor (a b : Nat) : nI a ^^^ nI b = nI (a ^^^ b) := by
  apply Int32.toBitVec_inj.1
  show BitVec.ofNat 32 a ^^^ BitVec.ofNat 32 b = BitVec.ofNat 32 (a ^^^ b)
  apply BitVec.eq_of_getLsbD_eq
  intro i hi
  simp [hi]
theorem nx_or (a b : Nat) : nI a ||| nI b = nI (a ||| b) := by
  apply Int32.toBitVec_inj.1
  show BitVec.ofNat 32 a ||| BitVec.ofNat 32 b = BitVec.ofNat 32 (a ||| b)
  apply BitVec.eq_of_getLsbD_eq
  intro i hi
  simp [hi]
theorem zxor_nat {x y : Int} (hx : 0 ≤ x) (hx1 : x < 65536) (hy : 0 ≤ y) (hy1 : y < 65536) : zxor x y = ((x.toNat ^^^ y.toNat : Nat) : Int) := by
  unfold zxor
  rw [i32n hx (by omega), i32n hy (by omega), nx_xor, nI_toInt]
  have : x.toNat ^^^ y.toNat < 2 ^ 16 := Nat.xor_lt_two_pow (by omega) (by omega)
  omega
theorem zor_nat {x y : Int} (hx : 0 ≤ x) (hx1 : x < 65536) (hy : 0 ≤ y) (hy1 : y < 65536) : zor x y = ((x.toNat ||| y.toNat : Nat) : Int) := by
  unfold zor
  rw [i32n hx (by omega), i32n hy (by omega), nx_or, nI_toInt]
  have : x.toNat ||| y.toNat < 2 ^ 16 := Nat.or_lt_two_pow (by omega) (by omega)
  omega
theorem zand_nat {x y : Int} (hx : 0 ≤ x) (hx1 : x < 2147483648) (hy : 0 ≤ y) (hy1 : y < 65536) : zand x y = ((x.toNat &&& y.toNat : Nat) : Int) := by
  unfold zand
  rw [i32n hx (by omega), i32n hy (by omega), nx_and, nI_toInt]
  have : x.toNat &&& y.toNat < 2 ^ 16 := Nat.and_lt_two_pow _ (by omega)
  omega
theorem zxor_in {x y : Int} (hx : 0 ≤ x) (hx1 : x < 256) (hy : 0 ≤ y) (hy1 : y < 256) : 0 ≤ zxor x y ∧ zxor x y < 256 := by
  rw [zxor_nat hx (by omega) hy (by omega)]
  have : x.toNat ^^^ y.toNat < 2 ^ 8 := Nat.xor_lt_two_pow (by omega) (by omega)
  omega
theorem zor_in3 {x y : Int} (hx : 0 ≤ x) (hx1 : x ≤ 3) (hy : 0 ≤ y) (hy1 : y ≤ 3) : 0 ≤ zor x y ∧ zor x y ≤ 3 := by
  rw [zor_nat hx (by omega) hy (by omega)]
  have : x.toNat ||| y.toNat < 2 ^ 2 := Nat.or_lt_two_pow (by omega) (by omega)
  omega
theorem zand_mask (x : Int) (k : Nat) (hk : k ≤ 16) {m : Int} (hm : m = 2 ^ k - 1) : 0 ≤ zand x m ∧ zand x m < 2 ^ k := by
  have hp : (0 : Int) < 2 ^ k := Int.pow_pos (by decide)
  have hle0 : 2 ^ k ≤ 2 ^ 16 := Nat.pow_le_pow_right (by decide) hk
  have h40 : ((2 ^ k : Nat) : Int) = 2 ^ k := by simp
  have hle : (2 : Int) ^ k ≤ 65536 := by omega
  have hm0 : 0 ≤ m := by omega
  have hm1 : m < 65536 := by omega
  unfold zand
  have h1 : Int32.ofInt x = nI (Int32.ofInt x).toBitVec.toNat := by
    apply Int32.toBitVec_inj.1
    show (Int32.ofInt x).toBitVec = BitVec.ofNat 32 (Int32.ofInt x).toBitVec.toNat
    rw [BitVec.ofNat_toNat, BitVec.setWidth_eq]
  rw [h1, i32n hm0 (by omega), nx_and, nI_toInt]
  · have h3 : (Int32.ofInt x).toBitVec.toNat &&& m.toNat < 2 ^ k := Nat.and_lt_two_pow _ (by
      have : ((2 ^ k : Nat) : Int) = 2 ^ k := by simp
      omega)
    have h4 : ((2 ^ k : Nat) : Int) = 2 ^ k := by simp
    omega
  · have h3 : (Int32.ofInt x).toBitVec.toNat &&& m.toNat < 2 ^ 16 := Nat.and_lt_two_pow _ (by omega)
    omega
theorem zand_1 (x : Int) : zand x 1 = 0 ∨ zand x 1 = 1 := by
  have := zand_mask x 1 (by decide) (m := 1) (by decide)
  omega
theorem zand_31 (x : Int) : 0 ≤ zand x 31 ∧ zand x 31 ≤ 31 := by
  have := zand_mask x 5 (by decide) (m := 31) (by decide)
  omega
/-! Math -/
theorem T_mmax {G : tl_G} {mt : tl_M} {R : Room} {cells slots pc n idx : Nat} {L : List (Option Value)} {st : List Value} {σ : tl_S} {Z : tl_Z} {x y : Int32} (hd : decode mt.2.1 pc = .ok (.invokestatic idx, 3)) (hp : pc + 3 = n) (hw : tl_CW mt.1 idx Lib.Math.max.name mMath_max 2 ∧ Cond.static Lib.Math.max.name ∈ tl_W) (hcat : (st.map fun v => v.category).sum ≤ 8) (hR : 1 ≤ R.frames ∧ 21 ≤ R.locals ∧ cells ≤ R.cells ∧ slots ≤ R.slots) (k : TW G mt R cells slots n L (.int (if x < y then y else x) :: st) σ Z) : TW G mt R cells slots pc L (.int y :: .int x :: st) σ Z := by
  subst hp
  intro p e s m args below meth c H locs ls hC hH hlo hl
  exact va_mmax hC.1 hC.2.1 (by rw [hC.2.2.1, hl.1]) hC.2.2.2.2.2.2.1 (hC.2.2.2.2.2.2.2.1 _ hw.1.1) (hC.2.2.2.2.2.2.2.1 _ hw.2) (hC.2.2.2.2.2.2.2.1 _ hw.1.2.1) (hC.2.2.2.2.2.2.2.1 _ hw.1.2.2.1) hR.1 (by omega) hR.2.2.1 hR.2.2.2 hd (k p e s m args below meth c H locs ls hC hH hlo hl)
theorem Z_mmax {G : tl_G} {mt : tl_M} {R : Room} {cells slots pc n idx : Nat} {K : Nat → Prop} {M0 : zM} {J0 : zJ} {L : List (Option zV)} {st : List zV} {F : zF} {M : zM} {J : zJ} {Z : tl_Z} {u v : Int} (hd : decode mt.2.1 pc = .ok (.invokestatic idx, 3)) (hp : pc + 3 = n) (hw : tl_CW mt.1 idx Lib.Math.max.name mMath_max 2 ∧ Cond.static Lib.Math.max.name ∈ tl_W) (hcat : ((st.map (cv G)).map fun v => v.category).sum ≤ 8) (hR : 1 ≤ R.frames ∧ 21 ≤ R.locals ∧ cells ≤ R.cells ∧ slots ≤ R.slots) (k : ∀ x : Int, ((x = u ∧ v ≤ u) ∨ (x = v ∧ u ≤ v)) → TZ G mt R cells slots K M0 J0 n L (vI x :: st) F M J Z) : TZ G mt R cells slots K M0 J0 pc L (vI v :: vI u :: st) F M J Z := by
  intro hg hm hf hl hs
  have hv : zI v := (List.forall_mem_cons.mp hs).1
  have h2 := (List.forall_mem_cons.mp hs).2
  have hu : zI u := (List.forall_mem_cons.mp h2).1
  have h3 := (List.forall_mem_cons.mp h2).2
  refine T_mmax (x := Int32.ofInt u) (y := Int32.ofInt v) hd hp hw hcat hR ?_
  by_cases h : u < v
  · rw [if_pos ((i32lt hu hv).mpr h)]
    exact k v (by omega) hg hm hf hl (List.forall_mem_cons.mpr ⟨hv, h3⟩)
  · rw [if_neg (fun e => h ((i32lt hu hv).mp e))]
    exact k u (by omega) hg hm hf hl (List.forall_mem_cons.mpr ⟨hu, h3⟩)
theorem T_mmin {G : tl_G} {mt : tl_M} {R : Room} {cells slots pc n idx : Nat} {L : List (Option Value)} {st : List Value} {σ : tl_S} {Z : tl_Z} {x y : Int32} (hd : decode mt.2.1 pc = .ok (.invokestatic idx, 3)) (hp : pc + 3 = n) (hw : tl_CW mt.1 idx Lib.Math.min.name mMath_min 2 ∧ Cond.static Lib.Math.min.name ∈ tl_W) (hcat : (st.map fun v => v.category).sum ≤ 8) (hR : 1 ≤ R.frames ∧ 21 ≤ R.locals ∧ cells ≤ R.cells ∧ slots ≤ R.slots) (k : TW G mt R cells slots n L (.int (if y < x then y else x) :: st) σ Z) : TW G mt R cells slots pc L (.int y :: .int x :: st) σ Z := by
  subst hp
  intro p e s m args below meth c H locs ls hC hH hlo hl
  exact va_mmin hC.1 hC.2.1 (by rw [hC.2.2.1, hl.1]) hC.2.2.2.2.2.2.1 (hC.2.2.2.2.2.2.2.1 _ hw.1.1) (hC.2.2.2.2.2.2.2.1 _ hw.2) (hC.2.2.2.2.2.2.2.1 _ hw.1.2.1) (hC.2.2.2.2.2.2.2.1 _ hw.1.2.2.1) hR.1 (by omega) hR.2.2.1 hR.2.2.2 hd (k p e s m args below meth c H locs ls hC hH hlo hl)
theorem Z_mmin {G : tl_G} {mt : tl_M} {R : Room} {cells slots pc n idx : Nat} {K : Nat → Prop} {M0 : zM} {J0 : zJ} {L : List (Option zV)} {st : List zV} {F : zF} {M : zM} {J : zJ} {Z : tl_Z} {u v : Int} (hd : decode mt.2.1 pc = .ok (.invokestatic idx, 3)) (hp : pc + 3 = n) (hw : tl_CW mt.1 idx Lib.Math.min.name mMath_min 2 ∧ Cond.static Lib.Math.min.name ∈ tl_W) (hcat : ((st.map (cv G)).map fun v => v.category).sum ≤ 8) (hR : 1 ≤ R.frames ∧ 21 ≤ R.locals ∧ cells ≤ R.cells ∧ slots ≤ R.slots) (k : ∀ x : Int, ((x = u ∧ u ≤ v) ∨ (x = v ∧ v ≤ u)) → TZ G mt R cells slots K M0 J0 n L (vI x :: st) F M J Z) : TZ G mt R cells slots K M0 J0 pc L (vI v :: vI u :: st) F M J Z := by
  intro hg hm hf hl hs
  have hv : zI v := (List.forall_mem_cons.mp hs).1
  have h2 := (List.forall_mem_cons.mp hs).2
  have hu : zI u := (List.forall_mem_cons.mp h2).1
  have h3 := (List.forall_mem_cons.mp h2).2
  refine T_mmin (x := Int32.ofInt u) (y := Int32.ofInt v) hd hp hw hcat hR ?_
  by_cases h : v < u
  · rw [if_pos ((i32lt hv hu).mpr h)]
    exact k v (by omega) hg hm hf hl (List.forall_mem_cons.mpr ⟨hv, h3⟩)
  · rw [if_neg (fun e => h ((i32lt hv hu).mp e))]
    exact k u (by omega) hg hm hf hl (List.forall_mem_cons.mpr ⟨hu, h3⟩)
