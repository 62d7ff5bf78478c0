section
/-! ===== the reference: lays, bucket, nodeFor ===== -/
abbrev kPart (a : Nat) : Prop := ¬ a = 53
theorem zcmp_eq (x y : Int64) : zcmp x y = 0 ↔ x = y := by
  unfold zcmp lg_cmp
  by_cases h : x > y
  · rw [if_pos h]
    exact ⟨fun e => absurd e (by decide), fun e => absurd (e ▸ h) (Int64.lt_irrefl)⟩
  · rw [if_neg h]
    by_cases h2 : x = y
    · rw [if_pos h2]; exact ⟨fun _ => h2, fun _ => rfl⟩
    · rw [if_neg h2]; exact ⟨fun e => absurd e (by decide), fun e => absurd e h2⟩
theorem zlay {d i : Int} (h0 : 0 ≤ d) (h1 : d ≤ 7) (i0 : 0 ≤ i) (i1 : i < zshl 1 d) : (2 ≤ zshr 256 d ∧ zshr 256 d ≤ 256) ∧ (0 ≤ i * zshr 256 d ∧ i * zshr 256 d < 256) ∧ i < 128 ∧ (d = 0 → i = 0) ∧ (d = 1 → i ≤ 1) := by
  have e0 : zshl 1 0 = 1 ∧ zshr 256 0 = 256 := by decide +kernel
  have e1 : zshl 1 1 = 2 ∧ zshr 256 1 = 128 := by decide +kernel
  have e2 : zshl 1 2 = 4 ∧ zshr 256 2 = 64 := by decide +kernel
  have e3 : zshl 1 3 = 8 ∧ zshr 256 3 = 32 := by decide +kernel
  have e4 : zshl 1 4 = 16 ∧ zshr 256 4 = 16 := by decide +kernel
  have e5 : zshl 1 5 = 32 ∧ zshr 256 5 = 8 := by decide +kernel
  have e6 : zshl 1 6 = 64 ∧ zshr 256 6 = 4 := by decide +kernel
  have e7 : zshl 1 7 = 128 ∧ zshr 256 7 = 2 := by decide +kernel
  rcases (show d = 0 ∨ d = 1 ∨ d = 2 ∨ d = 3 ∨ d = 4 ∨ d = 5 ∨ d = 6 ∨ d = 7 by omega) with rfl | rfl | rfl | rfl | rfl | rfl | rfl | rfl
  · rw [e0.2]; rw [e0.1] at i1; omega
  · rw [e1.2]; rw [e1.1] at i1; omega
  · rw [e2.2]; rw [e2.1] at i1; omega
  · rw [e3.2]; rw [e3.1] at i1; omega
  · rw [e4.2]; rw [e4.1] at i1; omega
  · rw [e5.2]; rw [e5.1] at i1; omega
  · rw [e6.2]; rw [e6.1] at i1; omega
  · rw [e7.2]; rw [e7.1] at i1; omega
theorem zshl1 {d : Int} (h0 : 0 ≤ d) (h1 : d ≤ 7) : 1 ≤ zshl 1 d ∧ zshl 1 d ≤ 128 ∧ zshl 1 d = 2 ^ d.toNat := by
  rcases (show d = 0 ∨ d = 1 ∨ d = 2 ∨ d = 3 ∨ d = 4 ∨ d = 5 ∨ d = 6 ∨ d = 7 by omega) with rfl | rfl | rfl | rfl | rfl | rfl | rfl | rfl <;> decide +kernel
theorem zshr6 : ∀ k : Nat, k < 256 → 0 ≤ zshr (k : Int) 6 ∧ zshr (k : Int) 6 ≤ 3 := by decide +kernel
theorem zshr6' {x : Int} (h0 : 0 ≤ x) (h1 : x < 256) : 0 ≤ zshr x 6 ∧ zshr x 6 ≤ 3 := by
  have := zshr6 x.toNat (by omega)
  rwa [Int.toNat_of_nonneg h0] at this
def bitF (J : zJ) (f k : Int) : Int64 := J 44 (4 * f + k)
def lyw (B : Int → Int64) (d i : Int) : Int64 := zlushr (B (zshr (i * zshr 256 d) 6)) (zand (i * zshr 256 d) 63)
def lyc (B : Int → Int64) (d i : Int) : Int64 := (lyw B d i ^^^ zlushr (lyw B d i) (zdiv (zshr 256 d) 2)) &&& (zlshl 1 (zdiv (zshr 256 d) 2) - 1)
def lyR (B : Int → Int64) (d i : Int) : Bool := if 1 < d then decide (¬ lyc B d i = 0) else if d = 0 then decide (¬ B 0 = B 2 ∨ ¬ B 1 = B 3) else decide (¬ B (2 * i) = B (2 * i + 1))
def lyP (B : Int → Int64) (d i k : Int) : Int64 := if 1 < d then (if k = 0 then (if zshr 256 d = 64 then lyw B d i else lyw B d i &&& (zlshl 1 (zshr 256 d) - 1)) else 0) else if d = 0 then B k else (if k = 0 then B (2 * i) else if k = 1 then B (2 * i + 1) else 0)
theorem lyR_2 {B : Int → Int64} {d i : Int} (h : 1 < d) : lyR B d i = decide (¬ lyc B d i = 0) := by unfold lyR; rw [if_pos h]
theorem lyR_0 {B : Int → Int64} {i : Int} : lyR B 0 i = decide (¬ B 0 = B 2 ∨ ¬ B 1 = B 3) := rfl
theorem lyR_1 {B : Int → Int64} {i : Int} : lyR B 1 i = decide (¬ B (2 * i) = B (2 * i + 1)) := rfl
theorem four {P : Int → Prop} (h0 : P 0) (h1 : P 1) (h2 : P 2) (h3 : P 3) : ∀ k : Int, 0 ≤ k → k < 4 → P k := by
  intro k k0 k1
  rcases (show k = 0 ∨ k = 1 ∨ k = 2 ∨ k = 3 by omega) with rfl | rfl | rfl | rfl
  · exact h0
  · exact h1
  · exact h2
  · exact h3
def pz (J : zJ) (p q r s : Int64) : zJ := uz (uz (uz (uz J 53 0 p) 53 1 q) 53 2 r) 53 3 s
/-- what lays says -/
def lyQ (B : Int → Int64) (d i x : Int) (J' : zJ) : Prop := (x = 1 ∧ lyR B d i = true ∧ ∀ k : Int, 0 ≤ k → k < 4 → J' 53 k = lyP B d i k) ∨ (x = 0 ∧ lyR B d i = false)
theorem Z_nmJ {G : tl_G} {mt : tl_M} {R : Room} {cells slots pc : Nat} {K : Nat → Prop} {M0 : zM} {J0 : zJ} {L : List (Option zV)} {st : List zV} {F : zF} {M : zM} {J : zJ} {Z : tl_Z} (k : ∀ J1, J1 = J → TZ G mt R cells slots K M0 J0 pc L st F M J1 Z) : TZ G mt R cells slots K M0 J0 pc L st F M J Z := k J rfl
set_option maxRecDepth 20000 in
theorem zX4_lays {G : tl_G} {M : zM} {J : zJ} {f d i : Int} (f0 : 0 ≤ f) (f1 : f < 56) (h0 : 0 ≤ d) (h1 : d ≤ 7) (i0 : 0 ≤ i) (i1 : i < zshl 1 d) : ZN G yX4_lays mX4_lays 0 kPart [vR 31, vI f, vI d, vI i] F1 M J (qI (fun x M' J' => M' = M ∧ lyQ (bitF J f) d i x J')) := by
  refine ZN_of (L := [_, _, _, _, _, _, _, _, _, _]) (by decide) rfl rfl (Nat.le_of_ble_eq_true rfl) rfl (fun hav => ?_)
  obtain ⟨z1, z2, z3, z4, z5⟩ := zlay h0 h1 i0 i1
  refine Z_iload_n (n := 1) dX4_lays_0 rfl rfl ?_
  refine Z_iconst (n := 2) dX4_lays_1 rfl (by decide) ?_
  refine Z_icmp_le (n := 5) (t := 120) dX4_lays_2 rfl (by decide) (fun c2 => ?_) (fun c2 => ?_)
  · refine Z_aload_n (n := 121) dX4_lays_120 rfl rfl ?_
    refine Z_getA (n := 124) dX4_lays_121 rfl ffX4_75 rfl rfl ?_
    refine Z_iconst (n := 125) dX4_lays_124 rfl (by decide) ?_
    refine Z_lconst (v := 0) (n := 126) dX4_lays_125 rfl (by decide) ?_
    refine Z_last (n := 127) dX4_lays_126 rfl rfl (by decide) (by omega) (by omega) (by decide) ?_
    refine Z_aload_n (n := 128) dX4_lays_127 rfl rfl ?_
    refine Z_getA (n := 131) dX4_lays_128 rfl ffX4_75 rfl rfl ?_
    refine Z_iconst (n := 132) dX4_lays_131 rfl (by decide) ?_
    refine Z_lconst (v := 0) (n := 133) dX4_lays_132 rfl (by decide) ?_
    refine Z_last (n := 134) dX4_lays_133 rfl rfl (by decide) (by omega) (by omega) (by decide) ?_
    refine Z_iload_n (n := 135) dX4_lays_134 rfl rfl ?_
    refine Z_if_ne (n := 138) (t := 209) dX4_lays_135 rfl (by decide) (fun c135 => ?_) (fun c135 => ?_)
    · refine Z_aload_n (n := 210) dX4_lays_209 rfl rfl ?_
      refine Z_getA (n := 213) dX4_lays_210 rfl ffX4_75 rfl rfl ?_
      refine Z_iconst (n := 214) dX4_lays_213 rfl (by decide) ?_
      refine Z_aload_n (n := 215) dX4_lays_214 rfl rfl ?_
      refine Z_getA (n := 218) dX4_lays_215 rfl ffX4_47 rfl rfl ?_
      refine Z_iconst (n := 219) dX4_lays_218 rfl (by decide) ?_
      refine Z_iload_n (n := 220) dX4_lays_219 rfl rfl ?_
      refine Z_imul (n := 221) dX4_lays_220 rfl (by omega) ?_
      refine Z_iconst (n := 222) dX4_lays_221 rfl (by decide) ?_
      refine Z_iload_n (n := 223) dX4_lays_222 rfl rfl ?_
      refine Z_imul (n := 224) dX4_lays_223 rfl (by omega) ?_
      refine Z_iadd (n := 225) dX4_lays_224 rfl (by omega) ?_
      refine Z_lald (n := 226) dX4_lays_225 rfl rfl (by decide) (by omega) (by omega) ?_
      refine Z_last (n := 227) dX4_lays_226 rfl rfl (by decide) (by omega) (by omega) (by decide) ?_
      refine Z_aload_n (n := 228) dX4_lays_227 rfl rfl ?_
      refine Z_getA (n := 231) dX4_lays_228 rfl ffX4_75 rfl rfl ?_
      refine Z_iconst (n := 232) dX4_lays_231 rfl (by decide) ?_
      refine Z_aload_n (n := 233) dX4_lays_232 rfl rfl ?_
      refine Z_getA (n := 236) dX4_lays_233 rfl ffX4_47 rfl rfl ?_
      refine Z_iconst (n := 237) dX4_lays_236 rfl (by decide) ?_
      refine Z_iload_n (n := 238) dX4_lays_237 rfl rfl ?_
      refine Z_imul (n := 239) dX4_lays_238 rfl (by omega) ?_
      refine Z_iconst (n := 240) dX4_lays_239 rfl (by decide) ?_
      refine Z_iload_n (n := 241) dX4_lays_240 rfl rfl ?_
      refine Z_imul (n := 242) dX4_lays_241 rfl (by omega) ?_
      refine Z_iadd (n := 243) dX4_lays_242 rfl (by omega) ?_
      refine Z_iconst (n := 244) dX4_lays_243 rfl (by decide) ?_
      refine Z_iadd (n := 245) dX4_lays_244 rfl (by omega) ?_
      refine Z_lald (n := 246) dX4_lays_245 rfl rfl (by decide) (by omega) (by omega) ?_
      refine Z_last (n := 247) dX4_lays_246 rfl rfl (by decide) (by omega) (by omega) (by decide) ?_
      refine Z_nmJ (fun J246 e246 => ?_)
      have e44 : J246 44 = J 44 := by
        rw [e246]
        simp only [uz_o (show (44 : Nat) ≠ 53 by decide)]
      have e1 : J246 53 0 = bitF J f (2 * i) := by
        rw [e246, uz_n (by decide), uz_s, uz_oo (by decide), uz_oo (by decide)]
        show J 44 (4 * f + 2 * i) = J 44 (4 * f + 2 * i)
        rfl
      have e2 : J246 53 1 = bitF J f (2 * i + 1) := by
        rw [e246, uz_s, uz_oo (by decide), uz_oo (by decide), uz_oo (by decide)]
        show J 44 (4 * f + 2 * i + 1) = J 44 (4 * f + (2 * i + 1))
        rw [Int.add_assoc]
      have e3 : J246 53 2 = 0 := by
        rw [e246, uz_n (by decide), uz_n (by decide), uz_n (by decide), uz_s]
      have e4 : J246 53 3 = 0 := by
        rw [e246, uz_n (by decide), uz_n (by decide), uz_s]
      clear e246
      refine Z_aload_n (n := 248) dX4_lays_247 rfl rfl ?_
      refine Z_getA (n := 251) dX4_lays_248 rfl ffX4_75 rfl rfl ?_
      refine Z_iconst (n := 252) dX4_lays_251 rfl (by decide) ?_
      refine Z_lald (n := 253) dX4_lays_252 rfl rfl (by decide) (by omega) (by omega) ?_
      refine Z_aload_n (n := 254) dX4_lays_253 rfl rfl ?_
      refine Z_getA (n := 257) dX4_lays_254 rfl ffX4_75 rfl rfl ?_
      refine Z_iconst (n := 258) dX4_lays_257 rfl (by decide) ?_
      refine Z_lald (n := 259) dX4_lays_258 rfl rfl (by decide) (by omega) (by omega) ?_
      refine Z_lcmp (n := 260) dX4_lays_259 rfl ?_
      refine Z_if_eq (n := 263) (t := 267) dX4_lays_260 rfl (by decide) (fun c260 => ?_) (fun c260 => ?_)
      · refine Z_iconst (n := 268) dX4_lays_267 rfl (by decide) ?_
        refine Z_zret dX4_lays_268 rfl (by first | assumption | omega | decide) (by first | assumption | omega | decide) ?_
        refine ⟨rfl, ?_⟩
        have hd : d = 1 := by omega
        subst hd
        first
          | exact Or.inl ⟨rfl, by rw [lyR_1]; exact decide_eq_true (fun e => c260 ((zcmp_eq _ _).mpr (e1.trans (e.trans e2.symm)))), four e1 e2 e3 e4⟩
          | exact Or.inr ⟨rfl, by rw [lyR_1]; exact decide_eq_false (fun e => e (e1.symm.trans (((zcmp_eq _ _).mp c260).trans e2)))⟩
      · refine Z_iconst (n := 264) dX4_lays_263 rfl (by decide) ?_
        refine Z_goto (t := 268) dX4_lays_264 (by decide) ?_
        refine Z_zret dX4_lays_268 rfl (by first | assumption | omega | decide) (by first | assumption | omega | decide) ?_
        refine ⟨rfl, ?_⟩
        have hd : d = 1 := by omega
        subst hd
        first
          | exact Or.inl ⟨rfl, by rw [lyR_1]; exact decide_eq_true (fun e => c260 ((zcmp_eq _ _).mpr (e1.trans (e.trans e2.symm)))), four e1 e2 e3 e4⟩
          | exact Or.inr ⟨rfl, by rw [lyR_1]; exact decide_eq_false (fun e => e (e1.symm.trans (((zcmp_eq _ _).mp c260).trans e2)))⟩
    · refine Z_iconst (n := 139) dX4_lays_138 rfl (by decide) ?_
      refine Z_istore (L' := [_, _, _, _, _, _, _, _, _, _]) (n := 141) dX4_lays_139 rfl (by decide) rfl rfl ?_
      have lp141 : ∀ (N141 : Nat) (k : Int) (M141 : zM) (J141 : zJ), ((4 - k).toNat) < N141 → (M141 = M) → (0 ≤ k) → (k ≤ 4) → (∀ j : Int, 0 ≤ j → j < k → J141 53 j = bitF J f j) → TZ G mX4_lays (tl_rm 0 0 0) 0 0 kPart M J 141 [some (vR 31), some (vI f), some (vI d), some (vI i), some (vI k), none, none, none, none, none] [] F1 M141 J141 (ZM G (zPost G kPart F1 M J (qI (fun x M' J' => M' = M ∧ lyQ (bitF J f) d i x J'))) 0 0) := by
        intro N141
        induction N141 with
        | zero => intro k M141 J141 hN; omega
        | succ N141 ih141 =>
          intro k M141 J141 hN141 i141_0 i141_1 i141_2 i141_3
          refine Z_iload (n := 143) dX4_lays_141 rfl rfl ?_
          refine Z_iconst (n := 144) dX4_lays_143 rfl (by decide) ?_
          refine Z_icmp_ge (n := 147) (t := 171) dX4_lays_144 rfl (by decide) (fun c144 => ?_) (fun c144 => ?_)
          · refine Z_aload_n (n := 172) dX4_lays_171 rfl rfl ?_
            refine Z_getA (n := 175) dX4_lays_172 rfl ffX4_75 rfl rfl ?_
            refine Z_iconst (n := 176) dX4_lays_175 rfl (by decide) ?_
            refine Z_lald (n := 177) dX4_lays_176 rfl rfl (by decide) (by omega) (by omega) ?_
            refine Z_aload_n (n := 178) dX4_lays_177 rfl rfl ?_
            refine Z_getA (n := 181) dX4_lays_178 rfl ffX4_75 rfl rfl ?_
            refine Z_iconst (n := 182) dX4_lays_181 rfl (by decide) ?_
            refine Z_lald (n := 183) dX4_lays_182 rfl rfl (by decide) (by omega) (by omega) ?_
            refine Z_lcmp (n := 184) dX4_lays_183 rfl ?_
            refine Z_if_ne (n := 187) (t := 203) dX4_lays_184 rfl (by decide) (fun c184 => ?_) (fun c184 => ?_)
            · refine Z_iconst (n := 204) dX4_lays_203 rfl (by decide) ?_
              refine Z_goto (t := 208) dX4_lays_204 (by decide) ?_
              refine Z_zret dX4_lays_208 rfl (by first | assumption | omega | decide) (by first | assumption | omega | decide) ?_
              refine ⟨i141_0, ?_⟩
              have hd : d = 0 := by omega
              subst hd
              have q : ∀ j : Int, 0 ≤ j → j < 4 → J141 53 j = bitF J f j := fun j j0 j1 => i141_3 j j0 (by omega)
              simp only [zcmp_eq, q 0 (by decide) (by decide), q 1 (by decide) (by decide), q 2 (by decide) (by decide), q 3 (by decide) (by decide)] at *
              first
                | exact Or.inl ⟨rfl, by rw [lyR_0]; exact decide_eq_true (by first | exact Or.inl (by assumption) | exact Or.inr (by assumption)), fun k k0 k1 => by rw [q k k0 k1]; rfl⟩
                | exact Or.inr ⟨rfl, by rw [lyR_0]; exact decide_eq_false (by rintro (e | e) <;> exact e (by assumption))⟩
            · refine Z_aload_n (n := 188) dX4_lays_187 rfl rfl ?_
              refine Z_getA (n := 191) dX4_lays_188 rfl ffX4_75 rfl rfl ?_
              refine Z_iconst (n := 192) dX4_lays_191 rfl (by decide) ?_
              refine Z_lald (n := 193) dX4_lays_192 rfl rfl (by decide) (by omega) (by omega) ?_
              refine Z_aload_n (n := 194) dX4_lays_193 rfl rfl ?_
              refine Z_getA (n := 197) dX4_lays_194 rfl ffX4_75 rfl rfl ?_
              refine Z_iconst (n := 198) dX4_lays_197 rfl (by decide) ?_
              refine Z_lald (n := 199) dX4_lays_198 rfl rfl (by decide) (by omega) (by omega) ?_
              refine Z_lcmp (n := 200) dX4_lays_199 rfl ?_
              refine Z_if_eq (n := 203) (t := 207) dX4_lays_200 rfl (by decide) (fun c200 => ?_) (fun c200 => ?_)
              · refine Z_iconst (n := 208) dX4_lays_207 rfl (by decide) ?_
                refine Z_zret dX4_lays_208 rfl (by first | assumption | omega | decide) (by first | assumption | omega | decide) ?_
                refine ⟨i141_0, ?_⟩
                have hd : d = 0 := by omega
                subst hd
                have q : ∀ j : Int, 0 ≤ j → j < 4 → J141 53 j = bitF J f j := fun j j0 j1 => i141_3 j j0 (by omega)
                simp only [zcmp_eq, q 0 (by decide) (by decide), q 1 (by decide) (by decide), q 2 (by decide) (by decide), q 3 (by decide) (by decide)] at *
                first
                  | exact Or.inl ⟨rfl, by rw [lyR_0]; exact decide_eq_true (by first | exact Or.inl (by assumption) | exact Or.inr (by assumption)), fun k k0 k1 => by rw [q k k0 k1]; rfl⟩
                  | exact Or.inr ⟨rfl, by rw [lyR_0]; exact decide_eq_false (by rintro (e | e) <;> exact e (by assumption))⟩
              · refine Z_iconst (n := 204) dX4_lays_203 rfl (by decide) ?_
                refine Z_goto (t := 208) dX4_lays_204 (by decide) ?_
                refine Z_zret dX4_lays_208 rfl (by first | assumption | omega | decide) (by first | assumption | omega | decide) ?_
                refine ⟨i141_0, ?_⟩
                have hd : d = 0 := by omega
                subst hd
                have q : ∀ j : Int, 0 ≤ j → j < 4 → J141 53 j = bitF J f j := fun j j0 j1 => i141_3 j j0 (by omega)
                simp only [zcmp_eq, q 0 (by decide) (by decide), q 1 (by decide) (by decide), q 2 (by decide) (by decide), q 3 (by decide) (by decide)] at *
                first
                  | exact Or.inl ⟨rfl, by rw [lyR_0]; exact decide_eq_true (by first | exact Or.inl (by assumption) | exact Or.inr (by assumption)), fun k k0 k1 => by rw [q k k0 k1]; rfl⟩
                  | exact Or.inr ⟨rfl, by rw [lyR_0]; exact decide_eq_false (by rintro (e | e) <;> exact e (by assumption))⟩
          · refine Z_fr (fun fr141 => ?_)
            refine Z_aload_n (n := 148) dX4_lays_147 rfl rfl ?_
            refine Z_getA (n := 151) dX4_lays_148 rfl ffX4_75 rfl rfl ?_
            refine Z_iload (n := 153) dX4_lays_151 rfl rfl ?_
            refine Z_aload_n (n := 154) dX4_lays_153 rfl rfl ?_
            refine Z_getA (n := 157) dX4_lays_154 rfl ffX4_47 rfl rfl ?_
            refine Z_iconst (n := 158) dX4_lays_157 rfl (by decide) ?_
            refine Z_iload_n (n := 159) dX4_lays_158 rfl rfl ?_
            refine Z_imul (n := 160) dX4_lays_159 rfl (by omega) ?_
            refine Z_iload (n := 162) dX4_lays_160 rfl rfl ?_
            refine Z_iadd (n := 163) dX4_lays_162 rfl (by omega) ?_
            refine Z_lald (n := 164) dX4_lays_163 rfl rfl (by decide) (by omega) (by omega) ?_
            refine Z_last (n := 165) dX4_lays_164 rfl rfl (by decide) (by omega) (by omega) (by decide) ?_
            have nx141 : ∀ j : Int, 0 ≤ j → j < k + 1 → uz J141 53 k (J141 44 (4 * f + k)) 53 j = bitF J f j := fun j j0 j1 => by
              rw [uz_a]
              split
              · rename_i e; subst e; rw [(fr141 44 (by decide)).2]; rfl
              · exact i141_3 j j0 (by omega)
            refine Z_iinc (L' := [_, _, _, _, _, _, _, _, _, _]) (n := 168) dX4_lays_165 rfl rfl (by decide) rfl rfl (by omega) rfl ?_
            refine Z_goto (t := 141) dX4_lays_168 (by decide) ?_
            refine Z_loc (L' := [some _, some _, some _, some _, some _, none, none, none, none, none]) (lsub_same (lsub_same (lsub_same (lsub_same (lsub_same (lsub_none (lsub_none (lsub_none (lsub_none (lsub_none lsub_nil)))))))))) ?_
            exact ih141 _ _ _ (by omega) (by first | rfl | assumption) (by first | assumption | omega | decide) (by first | assumption | omega | decide) (by first | exact fun j j0 j1 => by omega | exact nx141)
      refine Z_loc (L' := [some _, some _, some _, some _, some _, none, none, none, none, none]) (lsub_same (lsub_same (lsub_same (lsub_same (lsub_same (lsub_none (lsub_none (lsub_none (lsub_none (lsub_none lsub_nil)))))))))) ?_
      exact lp141 _ _ _ _ (Nat.lt_succ_self _) (by first | rfl | assumption) (by first | assumption | omega | decide) (by first | assumption | omega | decide) (by first | exact fun j j0 j1 => by omega | exact nx141)
  · refine Z_sipush (n := 8) dX4_lays_5 rfl (by decide) (by decide) ?_
    refine Z_iload_n (n := 9) dX4_lays_8 rfl rfl ?_
    refine Z_ishr (n := 10) dX4_lays_9 rfl ?_
    refine Z_istore (L' := [_, _, _, _, _, _, _, _, _, _]) (n := 12) dX4_lays_10 rfl (by decide) rfl rfl ?_
    refine Z_iload_n (n := 13) dX4_lays_12 rfl rfl ?_
    refine Z_iload (n := 15) dX4_lays_13 rfl rfl ?_
    refine Z_imul (n := 16) dX4_lays_15 rfl (by omega) ?_
    refine Z_istore (L' := [_, _, _, _, _, _, _, _, _, _]) (n := 18) dX4_lays_16 rfl (by decide) rfl rfl ?_
    refine Z_aload_n (n := 19) dX4_lays_18 rfl rfl ?_
    refine Z_getA (n := 22) dX4_lays_19 rfl ffX4_47 rfl rfl ?_
    refine Z_iconst (n := 23) dX4_lays_22 rfl (by decide) ?_
    refine Z_iload_n (n := 24) dX4_lays_23 rfl rfl ?_
    refine Z_imul (n := 25) dX4_lays_24 rfl (by omega) ?_
    refine Z_iload (n := 27) dX4_lays_25 rfl rfl ?_
    refine Z_bipush (n := 29) dX4_lays_27 rfl (by decide) (by decide) ?_
    refine Z_ishr (n := 30) dX4_lays_29 rfl ?_
    have z6 := zshr6' z2.1 z2.2
    refine Z_iadd (n := 31) dX4_lays_30 rfl (by omega) ?_
    have z6 := zshr6' z2.1 z2.2
    refine Z_lald (n := 32) dX4_lays_31 rfl rfl (by decide) (by omega) (by omega) ?_
    refine Z_iload (n := 34) dX4_lays_32 rfl rfl ?_
    refine Z_bipush (n := 36) dX4_lays_34 rfl (by decide) (by decide) ?_
    refine Z_iand (n := 37) dX4_lays_36 rfl ?_
    refine Z_lushr (n := 38) dX4_lays_37 rfl ?_
    refine Z_lstore (L' := [_, _, _, _, _, _, _, _, _, _]) (n := 40) dX4_lays_38 rfl (by decide) rfl rfl ?_
    refine Z_lconst (v := 1) (n := 41) dX4_lays_40 rfl (by decide) ?_
    refine Z_iload (n := 43) dX4_lays_41 rfl rfl ?_
    refine Z_iconst (n := 44) dX4_lays_43 rfl (by decide) ?_
    refine Z_idiv (n := 45) dX4_lays_44 rfl (by decide) (by decide) ?_
    refine Z_lshl (n := 46) dX4_lays_45 rfl ?_
    refine Z_lconst (v := 1) (n := 47) dX4_lays_46 rfl (by decide) ?_
    refine Z_lsub (n := 48) dX4_lays_47 rfl ?_
    refine Z_lstore (L' := [_, _, _, _, _, _, _, _, _, _]) (n := 50) dX4_lays_48 rfl (by decide) rfl rfl ?_
    refine Z_lload (n := 52) dX4_lays_50 rfl rfl ?_
    refine Z_lload (n := 54) dX4_lays_52 rfl rfl ?_
    refine Z_iload (n := 56) dX4_lays_54 rfl rfl ?_
    refine Z_iconst (n := 57) dX4_lays_56 rfl (by decide) ?_
    refine Z_idiv (n := 58) dX4_lays_57 rfl (by decide) (by decide) ?_
    refine Z_lushr (n := 59) dX4_lays_58 rfl ?_
    refine Z_lxor (n := 60) dX4_lays_59 rfl ?_
    refine Z_lload (n := 62) dX4_lays_60 rfl rfl ?_
    refine Z_land (n := 63) dX4_lays_62 rfl ?_
    refine Z_lconst (v := 0) (n := 64) dX4_lays_63 rfl (by decide) ?_
    refine Z_lcmp (n := 65) dX4_lays_64 rfl ?_
    refine Z_if_ne (n := 68) (t := 70) dX4_lays_65 rfl (by decide) (fun c65 => ?_) (fun c65 => ?_)
    · refine Z_aload_n (n := 71) dX4_lays_70 rfl rfl ?_
      refine Z_getA (n := 74) dX4_lays_71 rfl ffX4_75 rfl rfl ?_
      refine Z_iconst (n := 75) dX4_lays_74 rfl (by decide) ?_
      refine Z_iload (n := 77) dX4_lays_75 rfl rfl ?_
      refine Z_bipush (n := 79) dX4_lays_77 rfl (by decide) (by decide) ?_
      refine Z_icmp_ne (n := 82) (t := 87) dX4_lays_79 rfl (by decide) (fun c79 => ?_) (fun c79 => ?_)
      · refine Z_lload (n := 89) dX4_lays_87 rfl rfl ?_
        refine Z_lconst (v := 1) (n := 90) dX4_lays_89 rfl (by decide) ?_
        refine Z_iload (n := 92) dX4_lays_90 rfl rfl ?_
        refine Z_lshl (n := 93) dX4_lays_92 rfl ?_
        refine Z_lconst (v := 1) (n := 94) dX4_lays_93 rfl (by decide) ?_
        refine Z_lsub (n := 95) dX4_lays_94 rfl ?_
        refine Z_land (n := 96) dX4_lays_95 rfl ?_
        refine Z_last (n := 97) dX4_lays_96 rfl rfl (by decide) (by omega) (by omega) (by decide) ?_
        refine Z_aload_n (n := 98) dX4_lays_97 rfl rfl ?_
        refine Z_getA (n := 101) dX4_lays_98 rfl ffX4_75 rfl rfl ?_
        refine Z_iconst (n := 102) dX4_lays_101 rfl (by decide) ?_
        refine Z_lconst (v := 0) (n := 103) dX4_lays_102 rfl (by decide) ?_
        refine Z_last (n := 104) dX4_lays_103 rfl rfl (by decide) (by omega) (by omega) (by decide) ?_
        refine Z_aload_n (n := 105) dX4_lays_104 rfl rfl ?_
        refine Z_getA (n := 108) dX4_lays_105 rfl ffX4_75 rfl rfl ?_
        refine Z_iconst (n := 109) dX4_lays_108 rfl (by decide) ?_
        refine Z_lconst (v := 0) (n := 110) dX4_lays_109 rfl (by decide) ?_
        refine Z_last (n := 111) dX4_lays_110 rfl rfl (by decide) (by omega) (by omega) (by decide) ?_
        refine Z_aload_n (n := 112) dX4_lays_111 rfl rfl ?_
        refine Z_getA (n := 115) dX4_lays_112 rfl ffX4_75 rfl rfl ?_
        refine Z_iconst (n := 116) dX4_lays_115 rfl (by decide) ?_
        refine Z_lconst (v := 0) (n := 117) dX4_lays_116 rfl (by decide) ?_
        refine Z_last (n := 118) dX4_lays_117 rfl rfl (by decide) (by omega) (by omega) (by decide) ?_
        refine Z_iconst (n := 119) dX4_lays_118 rfl (by decide) ?_
        refine Z_zret dX4_lays_119 rfl (by first | assumption | omega | decide) (by first | assumption | omega | decide) ?_
        refine ⟨rfl, Or.inl ⟨rfl, ?_, four ?_ ?_ ?_ ?_⟩⟩
        · rw [lyR_2 (by omega)]; exact decide_eq_true (fun e => c65 ((zcmp_eq _ _).mpr e))
        · rw [uz_n (by decide), uz_n (by decide), uz_n (by decide), uz_s]
          unfold lyP
          rw [if_pos (by omega), if_pos rfl]
          first | rw [if_pos (by assumption)]; rfl | rw [if_neg (by assumption)]; rfl
        · rw [uz_n (by decide), uz_n (by decide), uz_s]; unfold lyP; rw [if_pos (by omega), if_neg (by decide)]
        · rw [uz_n (by decide), uz_s]; unfold lyP; rw [if_pos (by omega), if_neg (by decide)]
        · rw [uz_s]; unfold lyP; rw [if_pos (by omega), if_neg (by decide)]
      · refine Z_lload (n := 84) dX4_lays_82 rfl rfl ?_
        refine Z_goto (t := 96) dX4_lays_84 (by decide) ?_
        refine Z_last (n := 97) dX4_lays_96 rfl rfl (by decide) (by omega) (by omega) (by decide) ?_
        refine Z_aload_n (n := 98) dX4_lays_97 rfl rfl ?_
        refine Z_getA (n := 101) dX4_lays_98 rfl ffX4_75 rfl rfl ?_
        refine Z_iconst (n := 102) dX4_lays_101 rfl (by decide) ?_
        refine Z_lconst (v := 0) (n := 103) dX4_lays_102 rfl (by decide) ?_
        refine Z_last (n := 104) dX4_lays_103 rfl rfl (by decide) (by omega) (by omega) (by decide) ?_
        refine Z_aload_n (n := 105) dX4_lays_104 rfl rfl ?_
        refine Z_getA (n := 108) dX4_lays_105 rfl ffX4_75 rfl rfl ?_
        refine Z_iconst (n := 109) dX4_lays_108 rfl (by decide) ?_
        refine Z_lconst (v := 0) (n := 110) dX4_lays_109 rfl (by decide) ?_
        refine Z_last (n := 111) dX4_lays_110 rfl rfl (by decide) (by omega) (by omega) (by decide) ?_
        refine Z_aload_n (n := 112) dX4_lays_111 rfl rfl ?_
        refine Z_getA (n := 115) dX4_lays_112 rfl ffX4_75 rfl rfl ?_
        refine Z_iconst (n := 116) dX4_lays_115 rfl (by decide) ?_
        refine Z_lconst (v := 0) (n := 117) dX4_lays_116 rfl (by decide) ?_
        refine Z_last (n := 118) dX4_lays_117 rfl rfl (by decide) (by omega) (by omega) (by decide) ?_
        refine Z_iconst (n := 119) dX4_lays_118 rfl (by decide) ?_
        refine Z_zret dX4_lays_119 rfl (by first | assumption | omega | decide) (by first | assumption | omega | decide) ?_
        refine ⟨rfl, Or.inl ⟨rfl, ?_, four ?_ ?_ ?_ ?_⟩⟩
        · rw [lyR_2 (by omega)]; exact decide_eq_true (fun e => c65 ((zcmp_eq _ _).mpr e))
        · rw [uz_n (by decide), uz_n (by decide), uz_n (by decide), uz_s]
          unfold lyP
          rw [if_pos (by omega), if_pos rfl]
          first | rw [if_pos (by assumption)]; rfl | rw [if_neg (by assumption)]; rfl
        · rw [uz_n (by decide), uz_n (by decide), uz_s]; unfold lyP; rw [if_pos (by omega), if_neg (by decide)]
        · rw [uz_n (by decide), uz_s]; unfold lyP; rw [if_pos (by omega), if_neg (by decide)]
        · rw [uz_s]; unfold lyP; rw [if_pos (by omega), if_neg (by decide)]
    · refine Z_iconst (n := 69) dX4_lays_68 rfl (by decide) ?_
      refine Z_zret dX4_lays_69 rfl (by first | assumption | omega | decide) (by first | assumption | omega | decide) ?_
      refine ⟨rfl, Or.inr ⟨rfl, ?_⟩⟩
      rw [lyR_2 (by omega)]
      exact decide_eq_false (fun e => e ((zcmp_eq _ _).mp c65))
end
section
/-! ===== the reference: bucket, nodeFor, what makes bits ===== -/
def bkH (d : Int) (P : Int → Int64) : Nat → Int64
  | 0 => (Int32.ofInt d).toInt64
  | n + 1 => bkH d P n * 1000003 + (P (n : Int) ^^^ zlushr (P (n : Int)) 29)
def bkt (d : Int) (P : Int → Int64) : Int := zand (zl2i (zlushr (bkH d P 4) 7 ^^^ zlushr (bkH d P 4) 31)) 511
theorem bkt_in (d : Int) (P : Int → Int64) : 0 ≤ bkt d P ∧ bkt d P < 512 := by
  have := zand_mask (zl2i (zlushr (bkH d P 4) 7 ^^^ zlushr (bkH d P 4) 31)) 9 (by decide) (m := 511) (by decide)
  unfold bkt
  omega
theorem bkH_up (d : Int) (P : Int → Int64) {i : Int} (h : 0 ≤ i) : bkH d P (i + 1).toNat = bkH d P i.toNat * 1000003 + (P i ^^^ zlushr (P i) 29) := by
  rw [show (i + 1).toNat = i.toNat + 1 by omega]
  show bkH d P i.toNat * 1000003 + (P (i.toNat : Int) ^^^ zlushr (P (i.toNat : Int)) 29) = _
  rw [Int.toNat_of_nonneg h]
theorem bkH_congr {d : Int} {P P' : Int → Int64} : ∀ {n : Nat}, n ≤ 4 → (∀ k : Int, 0 ≤ k → k < 4 → P k = P' k) → bkH d P n = bkH d P' n
  | 0, _, _ => rfl
  | n + 1, h, e => by
    unfold bkH
    rw [bkH_congr (n := n) (by omega) e, e n (by omega) (by omega)]
theorem bkt_congr {d : Int} {P P' : Int → Int64} (e : ∀ k : Int, 0 ≤ k → k < 4 → P k = P' k) : bkt d P = bkt d P' := by
  unfold bkt
  rw [bkH_congr (n := 4) (by decide) e]
/-- a chain of nodes from s on -/
def chn (nx : Int → Int) : Int → List Int → Prop
  | s, [] => s < 0
  | s, n :: r => s = n ∧ 0 ≤ n ∧ n < 520 ∧ chn nx (nx n) r
theorem chn_cons {nx : Int → Int} {s : Int} {l : List Int} (h : chn nx s l) (hs : ¬ s < 0) : ∃ r, l = s :: r ∧ 0 ≤ s ∧ s < 520 ∧ chn nx (nx s) r := by
  cases l with
  | nil => exact absurd h hs
  | cons n r =>
    obtain ⟨rfl, h1, h2, h3⟩ := h
    exact ⟨r, rfl, h1, h2, h3⟩
theorem chn_nil {nx : Int → Int} {s : Int} {l : List Int} (h : chn nx s l) (hs : s < 0) : l = [] := by
  cases l with
  | nil => rfl
  | cons n r =>
    obtain ⟨rfl, h1, h2, h3⟩ := h
    omega
def mtc (M : zM) (J : zJ) (n d : Int) (P : Int → Int64) : Prop := M 47 n = d ∧ J 48 (4 * n) = P 0 ∧ J 48 (4 * n + 1) = P 1 ∧ J 48 (4 * n + 2) = P 2 ∧ J 48 (4 * n + 3) = P 3
/-- the memory behind a new node -/
def nfM (M : zM) (d b : Int) : zM := uz (uz (uz (uz (uz M 31 23 (M 50 (M 31 23))) 47 (M 31 23) d) 49 (M 31 23) 0) 50 (M 31 23) (M 51 b)) 51 b (M 31 23)
def nfQ (M : zM) (J : zJ) (d : Int) (ch : List Int) (x : Int) (M' : zM) (J' : zJ) : Prop :=
  (∃ n ∈ ch, mtc M J n d (J 53) ∧ x = n ∧ M' = M ∧ J' = J) ∨ ((∀ n ∈ ch, ¬ mtc M J n d (J 53)) ∧ x = M 31 23 ∧ M' = nfM M d (bkt d (J 53)) ∧ (∀ k : Int, 0 ≤ k → k < 4 → J' 48 (4 * x + k) = J 53 k) ∧ ∀ j : Int, (j < 4 * x ∨ 4 * x + 4 ≤ j) → J' 48 j = J 48 j)
abbrev kNF (a : Nat) : Prop := ¬ a = 31 ∧ ¬ (47 ≤ a ∧ a ≤ 51)
def nfree (M : zM) (J : zJ) (d : Int) (ch : List Int) : Prop := (∀ n ∈ ch, ¬ mtc M J n d (J 53)) → 0 ≤ M 31 23 ∧ M 50 (M 31 23) ≤ 519
set_option maxRecDepth 20000 in
theorem zX4_bucket {G : tl_G} {M : zM} {J : zJ} {d : Int}  : ZN G yX4_bucket mX4_bucket 0 kAll [vR 31, vI d] F1 M J (qI (fun x M' J' => M' = M ∧ J' = J ∧ x = bkt d (J 53))) := by
  refine ZN_of (L := [_, _, _, _, _]) (by decide) rfl rfl (Nat.le_of_ble_eq_true rfl) rfl (fun hav => ?_)
  refine Z_iload_n (n := 1) dX4_bucket_0 rfl rfl ?_
  refine Z_i2l (n := 2) dX4_bucket_1 rfl ?_
  refine Z_lstore_n (L' := [_, _, _, _, _]) (n := 3) dX4_bucket_2 rfl (by decide) rfl rfl ?_
  refine Z_iconst (n := 4) dX4_bucket_3 rfl (by decide) ?_
  refine Z_istore (L' := [_, _, _, _, _]) (n := 6) dX4_bucket_4 rfl (by decide) rfl rfl ?_
  have lp6 : ∀ (N6 : Nat) (h : Int64) (k : Int) , ((4 - k).toNat) < N6 → (0 ≤ k) → (k ≤ 4) → (h = bkH d (J 53) k.toNat) → TZ G mX4_bucket (tl_rm 0 0 0) 0 0 kAll M J 6 [some (vR 31), some (vI d), some (vJ h), none, some (vI k)] [] F1 M J (ZM G (zPost G kAll F1 M J (qI (fun x M' J' => M' = M ∧ J' = J ∧ x = bkt d (J 53)))) 0 0) := by
    intro N6
    induction N6 with
    | zero => intro h k  hN; omega
    | succ N6 ih6 =>
      intro h k  hN6 i6_0 i6_1 i6_2
      refine Z_iload (n := 8) dX4_bucket_6 rfl rfl ?_
      refine Z_iconst (n := 9) dX4_bucket_8 rfl (by decide) ?_
      refine Z_icmp_ge (n := 12) (t := 43) dX4_bucket_9 rfl (by decide) (fun c9 => ?_) (fun c9 => ?_)
      · refine Z_lload_n (n := 44) dX4_bucket_43 rfl rfl ?_
        refine Z_bipush (n := 46) dX4_bucket_44 rfl (by decide) (by decide) ?_
        refine Z_lushr (n := 47) dX4_bucket_46 rfl ?_
        refine Z_lload_n (n := 48) dX4_bucket_47 rfl rfl ?_
        refine Z_bipush (n := 50) dX4_bucket_48 rfl (by decide) (by decide) ?_
        refine Z_lushr (n := 51) dX4_bucket_50 rfl ?_
        refine Z_lxor (n := 52) dX4_bucket_51 rfl ?_
        refine Z_l2i (n := 53) dX4_bucket_52 rfl ?_
        refine Z_sipush (n := 56) dX4_bucket_53 rfl (by decide) (by decide) ?_
        refine Z_iand (n := 57) dX4_bucket_56 rfl ?_
        refine Z_iret dX4_bucket_57 rfl ?_
        refine ⟨rfl, rfl, ?_⟩; rw [i6_2, show k = 4 by omega]; rfl
      · refine Z_lload_n (n := 13) dX4_bucket_12 rfl rfl ?_
        refine Z_ldc2 (n := 16) dX4_bucket_13 rfl clX4_152 ?_
        refine Z_lmul (n := 17) dX4_bucket_16 rfl ?_
        refine Z_aload_n (n := 18) dX4_bucket_17 rfl rfl ?_
        refine Z_getA (n := 21) dX4_bucket_18 rfl ffX4_75 rfl rfl ?_
        refine Z_iload (n := 23) dX4_bucket_21 rfl rfl ?_
        refine Z_lald (n := 24) dX4_bucket_23 rfl rfl (by decide) (by omega) (by omega) ?_
        refine Z_aload_n (n := 25) dX4_bucket_24 rfl rfl ?_
        refine Z_getA (n := 28) dX4_bucket_25 rfl ffX4_75 rfl rfl ?_
        refine Z_iload (n := 30) dX4_bucket_28 rfl rfl ?_
        refine Z_lald (n := 31) dX4_bucket_30 rfl rfl (by decide) (by omega) (by omega) ?_
        refine Z_bipush (n := 33) dX4_bucket_31 rfl (by decide) (by decide) ?_
        refine Z_lushr (n := 34) dX4_bucket_33 rfl ?_
        refine Z_lxor (n := 35) dX4_bucket_34 rfl ?_
        refine Z_ladd (n := 36) dX4_bucket_35 rfl ?_
        refine Z_lstore_n (L' := [_, _, _, _, _]) (n := 37) dX4_bucket_36 rfl (by decide) rfl rfl ?_
        refine Z_iinc (L' := [_, _, _, _, _]) (n := 40) dX4_bucket_37 rfl rfl (by decide) rfl rfl (by omega) rfl ?_
        refine Z_goto (t := 6) dX4_bucket_40 (by decide) ?_
        refine Z_loc (L' := [some _, some _, some _, none, some _]) (lsub_same (lsub_same (lsub_same (lsub_none (lsub_same lsub_nil))))) ?_
        exact ih6 _ _  (by omega) (by first | assumption | omega | decide) (by first | assumption | omega | decide) (by first | rfl | (rw [bkH_up _ _ (by assumption), ← i6_2]))
  refine Z_loc (L' := [some _, some _, some _, none, some _]) (lsub_same (lsub_same (lsub_same (lsub_none (lsub_same lsub_nil))))) ?_
  exact lp6 _ _ _  (Nat.lt_succ_self _) (by first | assumption | omega | decide) (by first | assumption | omega | decide) (by first | rfl | (rw [bkH_up _ _ (by assumption), ← i6_2]))
set_option maxRecDepth 20000 in
theorem zX4_nodeFor {G : tl_G} {M : zM} {J : zJ} {d : Int} {ch : List Int} (h0 : 0 ≤ d) (h1 : d ≤ 7) (hc : chn (M 50) (M 51 (bkt d (J 53))) ch) (hf : nfree M J d ch) : ZN G yX4_nodeFor mX4_nodeFor 1 kNF [vR 31, vI d] F1 M J (qI (fun x M' J' => nfQ M J d ch x M' J')) := by
  refine ZN_of (L := [_, _, _, _, _]) (by decide) rfl rfl (Nat.le_of_ble_eq_true rfl) rfl (fun hav => ?_)
  refine Z_aload_n (n := 1) dX4_nodeFor_0 rfl rfl ?_
  refine Z_iload_n (n := 2) dX4_nodeFor_1 rfl rfl ?_
  refine Z_callVi (n := 5) [_] _ dX4_nodeFor_2 rfl cwX4_154 rfl rfl rfl (Nat.le_of_ble_eq_true rfl) (by refine ⟨?_, ?_, ?_, ?_⟩ <;> exact Nat.le_of_ble_eq_true rfl) (fun _ _ => trivial) (zX4_bucket  ) ?_
  intro x2 M2 J2 z2 f2 q2
  obtain ⟨e2_1, e2_2, h2⟩ := q2
  replace e2_1 := e2_1.symm; subst e2_1
  replace e2_2 := e2_2.symm; subst e2_2
  have hb := bkt_in d (J 53)
  rw [← h2] at hb
  refine Z_istore_n (L' := [_, _, _, _, _]) (n := 6) dX4_nodeFor_5 rfl (by decide) rfl rfl ?_
  refine Z_aload_n (n := 7) dX4_nodeFor_6 rfl rfl ?_
  refine Z_getA (n := 10) dX4_nodeFor_7 rfl ffX4_69 rfl rfl ?_
  refine Z_iload_n (n := 11) dX4_nodeFor_10 rfl rfl ?_
  refine Z_iald (n := 12) dX4_nodeFor_11 rfl rfl rfl (by first | decide | assumption) (by omega) (by omega) (fun r11 s11 => ?_)
  refine Z_istore_n (L' := [_, _, _, _, _]) (n := 13) dX4_nodeFor_12 rfl (by decide) rfl rfl ?_
  have lp13 : ∀ (N13 : Nat) (n : Int) (r : List Int) , (r.length) < N13 → (chn (M 50) n r) → (∀ m ∈ ch, m ∈ r ∨ ¬ mtc M J m d (J 53)) → (∀ m ∈ r, m ∈ ch) → TZ G mX4_nodeFor (tl_rm 1 0 0) 0 0 kNF M J 13 [some (vR 31), some (vI d), some (vI x2), some (vI n), none] [] F1 M J (ZM G (zPost G kNF F1 M J (qI (fun x M' J' => nfQ M J d ch x M' J'))) 0 0) := by
    intro N13
    induction N13 with
    | zero => intro n r  hN; omega
    | succ N13 ih13 =>
      intro n r  hN13 i13_0 i13_1 i13_2
      refine Z_iload_n (n := 14) dX4_nodeFor_13 rfl rfl ?_
      refine Z_if_lt (n := 17) (t := 117) dX4_nodeFor_14 rfl (by decide) (fun c14 => ?_) (fun c14 => ?_)
      · have hnil := chn_nil i13_0 c14
        subst hnil
        have hno : ∀ m ∈ ch, ¬ mtc M J m d (J 53) := fun m hm => (i13_1 m hm).resolve_left (by simp)
        obtain ⟨f0, f1⟩ := hf hno
        refine Z_rg 31 23 rfl (fun g23 g23b => ?_)
        refine Z_rg 51 x2 rfl (fun g51 g51b => ?_)
        refine Z_aload_n (n := 118) dX4_nodeFor_117 rfl rfl ?_
        refine Z_getI (n := 121) (ki := 23) dX4_nodeFor_118 rfl ffX4_157 rfl rfl rfl (fun r118 s118 => ?_)
        refine Z_istore_n (L' := [_, _, _, _, _]) (n := 122) dX4_nodeFor_121 rfl (by decide) rfl rfl ?_
        refine Z_aload_n (n := 123) dX4_nodeFor_122 rfl rfl ?_
        refine Z_aload_n (n := 124) dX4_nodeFor_123 rfl rfl ?_
        refine Z_getA (n := 127) dX4_nodeFor_124 rfl ffX4_66 rfl rfl ?_
        refine Z_iload_n (n := 128) dX4_nodeFor_127 rfl rfl ?_
        refine Z_iald (n := 129) dX4_nodeFor_128 rfl rfl rfl (by first | decide | assumption) (by omega) (by omega) (fun r128 s128 => ?_)
        refine Z_putI (n := 132) (ki := 23) dX4_nodeFor_129 rfl ffX4_157 rfl (by decide) rfl rfl (by first | assumption | omega | decide) (by first | assumption | omega | decide) (by decide) ?_
        refine Z_aload_n (n := 133) dX4_nodeFor_132 rfl rfl ?_
        refine Z_getA (n := 136) dX4_nodeFor_133 rfl ffX4_57 rfl rfl ?_
        refine Z_iload_n (n := 137) dX4_nodeFor_136 rfl rfl ?_
        refine Z_iload_n (n := 138) dX4_nodeFor_137 rfl rfl ?_
        refine Z_iast (n := 139) dX4_nodeFor_138 rfl rfl rfl (by first | decide | assumption) (by omega) (by omega) (by first | assumption | omega | decide) (by first | assumption | omega | decide) (by decide) ?_
        refine Z_iconst (n := 140) dX4_nodeFor_139 rfl (by decide) ?_
        refine Z_istore (L' := [_, _, _, _, _]) (n := 142) dX4_nodeFor_140 rfl (by decide) rfl rfl ?_
        have lp142 : ∀ (N142 : Nat) (k : Int) (M142 : zM) (J142 : zJ), ((4 - k).toNat) < N142 → (0 ≤ k) → (k ≤ 4) → (M142 = uz (uz M 31 23 (M 50 (M 31 23))) 47 (M 31 23) d) → (∀ j : Int, 0 ≤ j → j < k → J142 48 (4 * M 31 23 + j) = J 53 j) → (∀ j : Int, (j < 4 * M 31 23 ∨ 4 * M 31 23 + 4 ≤ j) → J142 48 j = J 48 j) → TZ G mX4_nodeFor (tl_rm 1 0 0) 0 0 kNF M J 142 [some (vR 31), some (vI d), some (vI x2), some (vI (M 31 23)), some (vI k)] [] F1 M142 J142 (ZM G (zPost G kNF F1 M J (qI (fun x M' J' => nfQ M J d ch x M' J'))) 0 0) := by
          intro N142
          induction N142 with
          | zero => intro k M142 J142 hN; omega
          | succ N142 ih142 =>
            intro k M142 J142 hN142 i142_0 i142_1 i142_2 i142_3 i142_4
            refine Z_iload (n := 144) dX4_nodeFor_142 rfl rfl ?_
            refine Z_iconst (n := 145) dX4_nodeFor_144 rfl (by decide) ?_
            refine Z_icmp_ge (n := 148) (t := 172) dX4_nodeFor_145 rfl (by decide) (fun c145 => ?_) (fun c145 => ?_)
            · refine Z_aload_n (n := 173) dX4_nodeFor_172 rfl rfl ?_
              refine Z_getA (n := 176) dX4_nodeFor_173 rfl ffX4_63 rfl rfl ?_
              refine Z_iload_n (n := 177) dX4_nodeFor_176 rfl rfl ?_
              refine Z_iconst (n := 178) dX4_nodeFor_177 rfl (by decide) ?_
              refine Z_iast (n := 179) dX4_nodeFor_178 rfl rfl rfl (by first | decide | assumption) (by omega) (by omega) (by first | assumption | omega | decide) (by first | assumption | omega | decide) (by decide) ?_
              refine Z_aload_n (n := 180) dX4_nodeFor_179 rfl rfl ?_
              refine Z_getA (n := 183) dX4_nodeFor_180 rfl ffX4_66 rfl rfl ?_
              refine Z_iload_n (n := 184) dX4_nodeFor_183 rfl rfl ?_
              refine Z_aload_n (n := 185) dX4_nodeFor_184 rfl rfl ?_
              refine Z_getA (n := 188) dX4_nodeFor_185 rfl ffX4_69 rfl rfl ?_
              refine Z_iload_n (n := 189) dX4_nodeFor_188 rfl rfl ?_
              refine Z_iald (n := 190) dX4_nodeFor_189 rfl rfl rfl (by first | decide | assumption) (by omega) (by omega) (fun r189 s189 => ?_)
              try simp only [uz_oo (show (51 : Nat) ≠ 49 by decide), uz_oo (show (51 : Nat) ≠ 47 by decide), uz_oo (show (51 : Nat) ≠ 31 by decide)] at r189 s189 ⊢
              refine Z_iast (n := 191) dX4_nodeFor_190 rfl rfl rfl (by first | decide | assumption) (by omega) (by omega) (by first | assumption | omega | decide) (by first | assumption | omega | decide) (by decide) ?_
              refine Z_aload_n (n := 192) dX4_nodeFor_191 rfl rfl ?_
              refine Z_getA (n := 195) dX4_nodeFor_192 rfl ffX4_69 rfl rfl ?_
              refine Z_iload_n (n := 196) dX4_nodeFor_195 rfl rfl ?_
              refine Z_iload_n (n := 197) dX4_nodeFor_196 rfl rfl ?_
              refine Z_iast (n := 198) dX4_nodeFor_197 rfl rfl rfl (by first | decide | assumption) (by omega) (by omega) (by first | assumption | omega | decide) (by first | assumption | omega | decide) (by decide) ?_
              refine Z_iload_n (n := 199) dX4_nodeFor_198 rfl rfl ?_
              refine Z_iret dX4_nodeFor_199 rfl ?_
              subst i142_2
              subst h2
              exact Or.inr ⟨hno, rfl, rfl, fun k k0 k1 => i142_3 k k0 (by omega), i142_4⟩
            · refine Z_fr (fun fr142 => ?_)
              refine Z_aload_n (n := 149) dX4_nodeFor_148 rfl rfl ?_
              refine Z_getA (n := 152) dX4_nodeFor_149 rfl ffX4_60 rfl rfl ?_
              refine Z_iconst (n := 153) dX4_nodeFor_152 rfl (by decide) ?_
              refine Z_iload_n (n := 154) dX4_nodeFor_153 rfl rfl ?_
              refine Z_imul (n := 155) dX4_nodeFor_154 rfl (by omega) ?_
              refine Z_iload (n := 157) dX4_nodeFor_155 rfl rfl ?_
              refine Z_iadd (n := 158) dX4_nodeFor_157 rfl (by omega) ?_
              refine Z_aload_n (n := 159) dX4_nodeFor_158 rfl rfl ?_
              refine Z_getA (n := 162) dX4_nodeFor_159 rfl ffX4_75 rfl rfl ?_
              refine Z_iload (n := 164) dX4_nodeFor_162 rfl rfl ?_
              refine Z_lald (n := 165) dX4_nodeFor_164 rfl rfl (by decide) (by omega) (by omega) ?_
              refine Z_last (n := 166) dX4_nodeFor_165 rfl rfl (by decide) (by omega) (by omega) (by decide) ?_
              have nx3 : ∀ j : Int, 0 ≤ j → j < k + 1 → uz J142 48 (4 * M 31 23 + k) (J142 53 k) 48 (4 * M 31 23 + j) = J 53 j := fun j j0 j1 => by
                rw [uz_a]
                split
                · rw [show j = k by omega, (fr142 53 (by decide)).2]
                · exact i142_3 j j0 (by omega)
              have nx4 : ∀ j : Int, (j < 4 * M 31 23 ∨ 4 * M 31 23 + 4 ≤ j) → uz J142 48 (4 * M 31 23 + k) (J142 53 k) 48 j = J 48 j := fun j hj => by
                rw [uz_n (by omega)]
                exact i142_4 j hj
              refine Z_iinc (L' := [_, _, _, _, _]) (n := 169) dX4_nodeFor_166 rfl rfl (by decide) rfl rfl (by omega) rfl ?_
              refine Z_goto (t := 142) dX4_nodeFor_169 (by decide) ?_
              refine Z_loc (L' := [some _, some _, some _, some _, some _]) (lsub_same (lsub_same (lsub_same (lsub_same (lsub_same lsub_nil))))) ?_
              exact ih142 _ _ _ (by omega) (by first | assumption | omega | decide) (by first | assumption | omega | decide) (by first | rfl | assumption) (by first | exact fun j j0 j1 => by omega | exact nx3) (by first | exact fun j _ => rfl | exact nx4)
        refine Z_loc (L' := [some _, some _, some _, some _, some _]) (lsub_same (lsub_same (lsub_same (lsub_same (lsub_same lsub_nil))))) ?_
        exact lp142 _ _ _ _ (Nat.lt_succ_self _) (by first | assumption | omega | decide) (by first | assumption | omega | decide) (by first | rfl | assumption) (by first | exact fun j j0 j1 => by omega | exact nx3) (by first | exact fun j _ => rfl | exact nx4)
      · obtain ⟨r1, hr, n0, n1, hc1⟩ := chn_cons i13_0 c14
        subst hr
        refine Z_aload_n (n := 18) dX4_nodeFor_17 rfl rfl ?_
        refine Z_getA (n := 21) dX4_nodeFor_18 rfl ffX4_57 rfl rfl ?_
        refine Z_iload_n (n := 22) dX4_nodeFor_21 rfl rfl ?_
        refine Z_iald (n := 23) dX4_nodeFor_22 rfl rfl rfl (by first | decide | assumption) (by omega) (by omega) (fun r22 s22 => ?_)
        refine Z_iload_n (n := 24) dX4_nodeFor_23 rfl rfl ?_
        refine Z_icmp_ne (n := 27) (t := 107) dX4_nodeFor_24 rfl (by decide) (fun c24 => ?_) (fun c24 => ?_)
        · have nx1 : ∀ m ∈ ch, m ∈ r1 ∨ ¬ mtc M J m d (J 53) := fun m hm => by
            rcases i13_1 m hm with q | q
            · rcases List.mem_cons.mp q with e | e
              · refine Or.inr ?_
                rw [e]
                rintro ⟨t1, t2, t3, t4, t5⟩
                first
                  | exact c24 t1
                  | exact c42 ((zcmp_eq _ _).mpr t2)
                  | exact c62 ((zcmp_eq _ _).mpr t3)
                  | exact c82 ((zcmp_eq _ _).mpr t4)
                  | exact c102 ((zcmp_eq _ _).mpr t5)
              · exact Or.inl e
            · exact Or.inr q
          refine Z_aload_n (n := 108) dX4_nodeFor_107 rfl rfl ?_
          refine Z_getA (n := 111) dX4_nodeFor_108 rfl ffX4_66 rfl rfl ?_
          refine Z_iload_n (n := 112) dX4_nodeFor_111 rfl rfl ?_
          refine Z_iald (n := 113) dX4_nodeFor_112 rfl rfl rfl (by first | decide | assumption) (by omega) (by omega) (fun r112 s112 => ?_)
          refine Z_istore_n (L' := [_, _, _, _, _]) (n := 114) dX4_nodeFor_113 rfl (by decide) rfl rfl ?_
          refine Z_goto (t := 13) dX4_nodeFor_114 (by decide) ?_
          refine Z_loc (L' := [some _, some _, some _, some _, none]) (lsub_same (lsub_same (lsub_same (lsub_same (lsub_none lsub_nil))))) ?_
          exact ih13 _ r1  (by simp only [List.length_cons] at *; omega) (by first | (rw [h2]; exact hc) | exact hc1) (by first | exact fun m hm => Or.inl hm | exact nx1) (by first | exact fun m hm => hm | exact fun m hm => i13_2 m (List.mem_cons_of_mem _ hm))
        · refine Z_aload_n (n := 28) dX4_nodeFor_27 rfl rfl ?_
          refine Z_getA (n := 31) dX4_nodeFor_28 rfl ffX4_60 rfl rfl ?_
          refine Z_iconst (n := 32) dX4_nodeFor_31 rfl (by decide) ?_
          refine Z_iload_n (n := 33) dX4_nodeFor_32 rfl rfl ?_
          refine Z_imul (n := 34) dX4_nodeFor_33 rfl (by omega) ?_
          refine Z_lald (n := 35) dX4_nodeFor_34 rfl rfl (by decide) (by omega) (by omega) ?_
          refine Z_aload_n (n := 36) dX4_nodeFor_35 rfl rfl ?_
          refine Z_getA (n := 39) dX4_nodeFor_36 rfl ffX4_75 rfl rfl ?_
          refine Z_iconst (n := 40) dX4_nodeFor_39 rfl (by decide) ?_
          refine Z_lald (n := 41) dX4_nodeFor_40 rfl rfl (by decide) (by omega) (by omega) ?_
          refine Z_lcmp (n := 42) dX4_nodeFor_41 rfl ?_
          refine Z_if_ne (n := 45) (t := 107) dX4_nodeFor_42 rfl (by decide) (fun c42 => ?_) (fun c42 => ?_)
          · have nx1 : ∀ m ∈ ch, m ∈ r1 ∨ ¬ mtc M J m d (J 53) := fun m hm => by
              rcases i13_1 m hm with q | q
              · rcases List.mem_cons.mp q with e | e
                · refine Or.inr ?_
                  rw [e]
                  rintro ⟨t1, t2, t3, t4, t5⟩
                  first
                    | exact c24 t1
                    | exact c42 ((zcmp_eq _ _).mpr t2)
                    | exact c62 ((zcmp_eq _ _).mpr t3)
                    | exact c82 ((zcmp_eq _ _).mpr t4)
                    | exact c102 ((zcmp_eq _ _).mpr t5)
                · exact Or.inl e
              · exact Or.inr q
            refine Z_aload_n (n := 108) dX4_nodeFor_107 rfl rfl ?_
            refine Z_getA (n := 111) dX4_nodeFor_108 rfl ffX4_66 rfl rfl ?_
            refine Z_iload_n (n := 112) dX4_nodeFor_111 rfl rfl ?_
            refine Z_iald (n := 113) dX4_nodeFor_112 rfl rfl rfl (by first | decide | assumption) (by omega) (by omega) (fun r112 s112 => ?_)
            refine Z_istore_n (L' := [_, _, _, _, _]) (n := 114) dX4_nodeFor_113 rfl (by decide) rfl rfl ?_
            refine Z_goto (t := 13) dX4_nodeFor_114 (by decide) ?_
            refine Z_loc (L' := [some _, some _, some _, some _, none]) (lsub_same (lsub_same (lsub_same (lsub_same (lsub_none lsub_nil))))) ?_
            exact ih13 _ r1  (by simp only [List.length_cons] at *; omega) (by first | (rw [h2]; exact hc) | exact hc1) (by first | exact fun m hm => Or.inl hm | exact nx1) (by first | exact fun m hm => hm | exact fun m hm => i13_2 m (List.mem_cons_of_mem _ hm))
          · refine Z_aload_n (n := 46) dX4_nodeFor_45 rfl rfl ?_
            refine Z_getA (n := 49) dX4_nodeFor_46 rfl ffX4_60 rfl rfl ?_
            refine Z_iconst (n := 50) dX4_nodeFor_49 rfl (by decide) ?_
            refine Z_iload_n (n := 51) dX4_nodeFor_50 rfl rfl ?_
            refine Z_imul (n := 52) dX4_nodeFor_51 rfl (by omega) ?_
            refine Z_iconst (n := 53) dX4_nodeFor_52 rfl (by decide) ?_
            refine Z_iadd (n := 54) dX4_nodeFor_53 rfl (by omega) ?_
            refine Z_lald (n := 55) dX4_nodeFor_54 rfl rfl (by decide) (by omega) (by omega) ?_
            refine Z_aload_n (n := 56) dX4_nodeFor_55 rfl rfl ?_
            refine Z_getA (n := 59) dX4_nodeFor_56 rfl ffX4_75 rfl rfl ?_
            refine Z_iconst (n := 60) dX4_nodeFor_59 rfl (by decide) ?_
            refine Z_lald (n := 61) dX4_nodeFor_60 rfl rfl (by decide) (by omega) (by omega) ?_
            refine Z_lcmp (n := 62) dX4_nodeFor_61 rfl ?_
            refine Z_if_ne (n := 65) (t := 107) dX4_nodeFor_62 rfl (by decide) (fun c62 => ?_) (fun c62 => ?_)
            · have nx1 : ∀ m ∈ ch, m ∈ r1 ∨ ¬ mtc M J m d (J 53) := fun m hm => by
                rcases i13_1 m hm with q | q
                · rcases List.mem_cons.mp q with e | e
                  · refine Or.inr ?_
                    rw [e]
                    rintro ⟨t1, t2, t3, t4, t5⟩
                    first
                      | exact c24 t1
                      | exact c42 ((zcmp_eq _ _).mpr t2)
                      | exact c62 ((zcmp_eq _ _).mpr t3)
                      | exact c82 ((zcmp_eq _ _).mpr t4)
                      | exact c102 ((zcmp_eq _ _).mpr t5)
                  · exact Or.inl e
                · exact Or.inr q
              refine Z_aload_n (n := 108) dX4_nodeFor_107 rfl rfl ?_
              refine Z_getA (n := 111) dX4_nodeFor_108 rfl ffX4_66 rfl rfl ?_
              refine Z_iload_n (n := 112) dX4_nodeFor_111 rfl rfl ?_
              refine Z_iald (n := 113) dX4_nodeFor_112 rfl rfl rfl (by first | decide | assumption) (by omega) (by omega) (fun r112 s112 => ?_)
              refine Z_istore_n (L' := [_, _, _, _, _]) (n := 114) dX4_nodeFor_113 rfl (by decide) rfl rfl ?_
              refine Z_goto (t := 13) dX4_nodeFor_114 (by decide) ?_
              refine Z_loc (L' := [some _, some _, some _, some _, none]) (lsub_same (lsub_same (lsub_same (lsub_same (lsub_none lsub_nil))))) ?_
              exact ih13 _ r1  (by simp only [List.length_cons] at *; omega) (by first | (rw [h2]; exact hc) | exact hc1) (by first | exact fun m hm => Or.inl hm | exact nx1) (by first | exact fun m hm => hm | exact fun m hm => i13_2 m (List.mem_cons_of_mem _ hm))
            · refine Z_aload_n (n := 66) dX4_nodeFor_65 rfl rfl ?_
              refine Z_getA (n := 69) dX4_nodeFor_66 rfl ffX4_60 rfl rfl ?_
              refine Z_iconst (n := 70) dX4_nodeFor_69 rfl (by decide) ?_
              refine Z_iload_n (n := 71) dX4_nodeFor_70 rfl rfl ?_
              refine Z_imul (n := 72) dX4_nodeFor_71 rfl (by omega) ?_
              refine Z_iconst (n := 73) dX4_nodeFor_72 rfl (by decide) ?_
              refine Z_iadd (n := 74) dX4_nodeFor_73 rfl (by omega) ?_
              refine Z_lald (n := 75) dX4_nodeFor_74 rfl rfl (by decide) (by omega) (by omega) ?_
              refine Z_aload_n (n := 76) dX4_nodeFor_75 rfl rfl ?_
              refine Z_getA (n := 79) dX4_nodeFor_76 rfl ffX4_75 rfl rfl ?_
              refine Z_iconst (n := 80) dX4_nodeFor_79 rfl (by decide) ?_
              refine Z_lald (n := 81) dX4_nodeFor_80 rfl rfl (by decide) (by omega) (by omega) ?_
              refine Z_lcmp (n := 82) dX4_nodeFor_81 rfl ?_
              refine Z_if_ne (n := 85) (t := 107) dX4_nodeFor_82 rfl (by decide) (fun c82 => ?_) (fun c82 => ?_)
              · have nx1 : ∀ m ∈ ch, m ∈ r1 ∨ ¬ mtc M J m d (J 53) := fun m hm => by
                  rcases i13_1 m hm with q | q
                  · rcases List.mem_cons.mp q with e | e
                    · refine Or.inr ?_
                      rw [e]
                      rintro ⟨t1, t2, t3, t4, t5⟩
                      first
                        | exact c24 t1
                        | exact c42 ((zcmp_eq _ _).mpr t2)
                        | exact c62 ((zcmp_eq _ _).mpr t3)
                        | exact c82 ((zcmp_eq _ _).mpr t4)
                        | exact c102 ((zcmp_eq _ _).mpr t5)
                    · exact Or.inl e
                  · exact Or.inr q
                refine Z_aload_n (n := 108) dX4_nodeFor_107 rfl rfl ?_
                refine Z_getA (n := 111) dX4_nodeFor_108 rfl ffX4_66 rfl rfl ?_
                refine Z_iload_n (n := 112) dX4_nodeFor_111 rfl rfl ?_
                refine Z_iald (n := 113) dX4_nodeFor_112 rfl rfl rfl (by first | decide | assumption) (by omega) (by omega) (fun r112 s112 => ?_)
                refine Z_istore_n (L' := [_, _, _, _, _]) (n := 114) dX4_nodeFor_113 rfl (by decide) rfl rfl ?_
                refine Z_goto (t := 13) dX4_nodeFor_114 (by decide) ?_
                refine Z_loc (L' := [some _, some _, some _, some _, none]) (lsub_same (lsub_same (lsub_same (lsub_same (lsub_none lsub_nil))))) ?_
                exact ih13 _ r1  (by simp only [List.length_cons] at *; omega) (by first | (rw [h2]; exact hc) | exact hc1) (by first | exact fun m hm => Or.inl hm | exact nx1) (by first | exact fun m hm => hm | exact fun m hm => i13_2 m (List.mem_cons_of_mem _ hm))
              · refine Z_aload_n (n := 86) dX4_nodeFor_85 rfl rfl ?_
                refine Z_getA (n := 89) dX4_nodeFor_86 rfl ffX4_60 rfl rfl ?_
                refine Z_iconst (n := 90) dX4_nodeFor_89 rfl (by decide) ?_
                refine Z_iload_n (n := 91) dX4_nodeFor_90 rfl rfl ?_
                refine Z_imul (n := 92) dX4_nodeFor_91 rfl (by omega) ?_
                refine Z_iconst (n := 93) dX4_nodeFor_92 rfl (by decide) ?_
                refine Z_iadd (n := 94) dX4_nodeFor_93 rfl (by omega) ?_
                refine Z_lald (n := 95) dX4_nodeFor_94 rfl rfl (by decide) (by omega) (by omega) ?_
                refine Z_aload_n (n := 96) dX4_nodeFor_95 rfl rfl ?_
                refine Z_getA (n := 99) dX4_nodeFor_96 rfl ffX4_75 rfl rfl ?_
                refine Z_iconst (n := 100) dX4_nodeFor_99 rfl (by decide) ?_
                refine Z_lald (n := 101) dX4_nodeFor_100 rfl rfl (by decide) (by omega) (by omega) ?_
                refine Z_lcmp (n := 102) dX4_nodeFor_101 rfl ?_
                refine Z_if_ne (n := 105) (t := 107) dX4_nodeFor_102 rfl (by decide) (fun c102 => ?_) (fun c102 => ?_)
                · have nx1 : ∀ m ∈ ch, m ∈ r1 ∨ ¬ mtc M J m d (J 53) := fun m hm => by
                    rcases i13_1 m hm with q | q
                    · rcases List.mem_cons.mp q with e | e
                      · refine Or.inr ?_
                        rw [e]
                        rintro ⟨t1, t2, t3, t4, t5⟩
                        first
                          | exact c24 t1
                          | exact c42 ((zcmp_eq _ _).mpr t2)
                          | exact c62 ((zcmp_eq _ _).mpr t3)
                          | exact c82 ((zcmp_eq _ _).mpr t4)
                          | exact c102 ((zcmp_eq _ _).mpr t5)
                      · exact Or.inl e
                    · exact Or.inr q
                  refine Z_aload_n (n := 108) dX4_nodeFor_107 rfl rfl ?_
                  refine Z_getA (n := 111) dX4_nodeFor_108 rfl ffX4_66 rfl rfl ?_
                  refine Z_iload_n (n := 112) dX4_nodeFor_111 rfl rfl ?_
                  refine Z_iald (n := 113) dX4_nodeFor_112 rfl rfl rfl (by first | decide | assumption) (by omega) (by omega) (fun r112 s112 => ?_)
                  refine Z_istore_n (L' := [_, _, _, _, _]) (n := 114) dX4_nodeFor_113 rfl (by decide) rfl rfl ?_
                  refine Z_goto (t := 13) dX4_nodeFor_114 (by decide) ?_
                  refine Z_loc (L' := [some _, some _, some _, some _, none]) (lsub_same (lsub_same (lsub_same (lsub_same (lsub_none lsub_nil))))) ?_
                  exact ih13 _ r1  (by simp only [List.length_cons] at *; omega) (by first | (rw [h2]; exact hc) | exact hc1) (by first | exact fun m hm => Or.inl hm | exact nx1) (by first | exact fun m hm => hm | exact fun m hm => i13_2 m (List.mem_cons_of_mem _ hm))
                · refine Z_iload_n (n := 106) dX4_nodeFor_105 rfl rfl ?_
                  refine Z_iret dX4_nodeFor_106 rfl ?_
                  refine Or.inl ⟨n, i13_2 n List.mem_cons_self, ⟨by omega, ?_, ?_, ?_, ?_⟩, rfl, rfl, rfl⟩
                  · exact (zcmp_eq _ _).mp c42
                  · exact (zcmp_eq _ _).mp c62
                  · exact (zcmp_eq _ _).mp c82
                  · exact (zcmp_eq _ _).mp c102
  refine Z_loc (L' := [some _, some _, some _, some _, none]) (lsub_same (lsub_same (lsub_same (lsub_same (lsub_none lsub_nil))))) ?_
  exact lp13 _ _ ch  (Nat.lt_succ_self _) (by first | (rw [h2]; exact hc) | exact hc1) (by first | exact fun m hm => Or.inl hm | exact nx1) (by first | exact fun m hm => hm | exact fun m hm => i13_2 m (List.mem_cons_of_mem _ hm))
theorem st_step {X : Int → Int64} {J1 : zJ} {a : Nat} {c k : Int} {u : Int64} (hu : u = X k) (h : ∀ j : Int, 0 ≤ j → j < k → J1 a (c + j) = X j) : ∀ j : Int, 0 ≤ j → j < k + 1 → uz J1 a (c + k) u a (c + j) = X j := by
  intro j j0 j1
  rw [uz_a]
  split
  · rw [show j = k by omega]; exact hu
  · exact h j j0 (by omega)
def joinF (k : Int) (a b : Int64) : Int64 := if k = 1 then 0 else if k = 2 then -1 else if k = 3 then a ^^^ -1 else if k = 4 then a &&& b else if k = 5 then a ||| b else if k = 6 then a ^^^ b else if k = 7 then (a &&& b) ^^^ -1 else if k = 8 then (a ||| b) ^^^ -1 else (a ^^^ b) ^^^ -1
abbrev kBits (a : Nat) : Prop := ¬ a = 44
def whF (p : Int) : Int64 := if p = 2 then -4294967296 else if p = 3 then -281470681808896 else if p = 4 then -71777214294589696 else if p = 5 then -1085102592571150096 else if p = 6 then -3689348814741910324 else if p = 7 then -6148914691236517206 else 0
def vbF (W : Int → Int64) (p k : Int) : Int64 := if 1 < p then W p else if (p = 0 ∧ 1 < k) ∨ (¬ p = 0 ∧ zrem k 2 = 1) then -1 else 0
set_option maxRecDepth 20000 in
theorem zX4_joined {G : tl_G} {M : zM} {J : zJ} {k : Int} {a b : Int64}  : ZN G yX4_joined mX4_joined 0 kAll [vI k, vJ a, vJ b] F1 M J (qL (fun x M' J' => M' = M ∧ J' = J ∧ x = joinF k a b)) := by
  refine ZN_of (L := [_, _, _, _, _]) (by decide) rfl rfl (Nat.le_of_ble_eq_true rfl) rfl (fun hav => ?_)
  refine Z_iload_n (n := 1) dX4_joined_0 rfl rfl ?_
  refine Z_tsw (td := 88) dX4_joined_1 rfl (by decide) (by decide) ?_ (fun c1 => ?_)
  · refine zcases_cons (fun c1 t ht => ?_) ?_
    · obtain rfl : t = 48 := by omega
      refine Z_lconst (v := 0) (n := 49) dX4_joined_48 rfl (by decide) ?_
      refine Z_lret dX4_joined_49 rfl ?_
      refine ⟨rfl, rfl, ?_⟩
      unfold joinF
      (repeat rw [if_neg (by omega)]) <;> first | rfl | (rw [if_pos (by omega)])
    refine zcases_cons (fun c1 t ht => ?_) ?_
    · obtain rfl : t = 50 := by omega
      refine Z_ldc2 (n := 53) dX4_joined_50 rfl clX4_188 ?_
      refine Z_lret dX4_joined_53 rfl ?_
      refine ⟨rfl, rfl, ?_⟩
      unfold joinF
      (repeat rw [if_neg (by omega)]) <;> first | rfl | (rw [if_pos (by omega)])
    refine zcases_cons (fun c1 t ht => ?_) ?_
    · obtain rfl : t = 54 := by omega
      refine Z_lload_n (n := 55) dX4_joined_54 rfl rfl ?_
      refine Z_ldc2 (n := 58) dX4_joined_55 rfl clX4_188 ?_
      refine Z_lxor (n := 59) dX4_joined_58 rfl ?_
      refine Z_lret dX4_joined_59 rfl ?_
      refine ⟨rfl, rfl, ?_⟩
      unfold joinF
      (repeat rw [if_neg (by omega)]) <;> first | rfl | (rw [if_pos (by omega)])
    refine zcases_cons (fun c1 t ht => ?_) ?_
    · obtain rfl : t = 60 := by omega
      refine Z_lload_n (n := 61) dX4_joined_60 rfl rfl ?_
      refine Z_lload_n (n := 62) dX4_joined_61 rfl rfl ?_
      refine Z_land (n := 63) dX4_joined_62 rfl ?_
      refine Z_lret dX4_joined_63 rfl ?_
      refine ⟨rfl, rfl, ?_⟩
      unfold joinF
      (repeat rw [if_neg (by omega)]) <;> first | rfl | (rw [if_pos (by omega)])
    refine zcases_cons (fun c1 t ht => ?_) ?_
    · obtain rfl : t = 64 := by omega
      refine Z_lload_n (n := 65) dX4_joined_64 rfl rfl ?_
      refine Z_lload_n (n := 66) dX4_joined_65 rfl rfl ?_
      refine Z_lor (n := 67) dX4_joined_66 rfl ?_
      refine Z_lret dX4_joined_67 rfl ?_
      refine ⟨rfl, rfl, ?_⟩
      unfold joinF
      (repeat rw [if_neg (by omega)]) <;> first | rfl | (rw [if_pos (by omega)])
    refine zcases_cons (fun c1 t ht => ?_) ?_
    · obtain rfl : t = 68 := by omega
      refine Z_lload_n (n := 69) dX4_joined_68 rfl rfl ?_
      refine Z_lload_n (n := 70) dX4_joined_69 rfl rfl ?_
      refine Z_lxor (n := 71) dX4_joined_70 rfl ?_
      refine Z_lret dX4_joined_71 rfl ?_
      refine ⟨rfl, rfl, ?_⟩
      unfold joinF
      (repeat rw [if_neg (by omega)]) <;> first | rfl | (rw [if_pos (by omega)])
    refine zcases_cons (fun c1 t ht => ?_) ?_
    · obtain rfl : t = 72 := by omega
      refine Z_lload_n (n := 73) dX4_joined_72 rfl rfl ?_
      refine Z_lload_n (n := 74) dX4_joined_73 rfl rfl ?_
      refine Z_land (n := 75) dX4_joined_74 rfl ?_
      refine Z_ldc2 (n := 78) dX4_joined_75 rfl clX4_188 ?_
      refine Z_lxor (n := 79) dX4_joined_78 rfl ?_
      refine Z_lret dX4_joined_79 rfl ?_
      refine ⟨rfl, rfl, ?_⟩
      unfold joinF
      (repeat rw [if_neg (by omega)]) <;> first | rfl | (rw [if_pos (by omega)])
    refine zcases_cons (fun c1 t ht => ?_) ?_
    · obtain rfl : t = 80 := by omega
      refine Z_lload_n (n := 81) dX4_joined_80 rfl rfl ?_
      refine Z_lload_n (n := 82) dX4_joined_81 rfl rfl ?_
      refine Z_lor (n := 83) dX4_joined_82 rfl ?_
      refine Z_ldc2 (n := 86) dX4_joined_83 rfl clX4_188 ?_
      refine Z_lxor (n := 87) dX4_joined_86 rfl ?_
      refine Z_lret dX4_joined_87 rfl ?_
      refine ⟨rfl, rfl, ?_⟩
      unfold joinF
      (repeat rw [if_neg (by omega)]) <;> first | rfl | (rw [if_pos (by omega)])
    exact zcases_nil
  · refine Z_lload_n (n := 89) dX4_joined_88 rfl rfl ?_
    refine Z_lload_n (n := 90) dX4_joined_89 rfl rfl ?_
    refine Z_lxor (n := 91) dX4_joined_90 rfl ?_
    refine Z_ldc2 (n := 94) dX4_joined_91 rfl clX4_188 ?_
    refine Z_lxor (n := 95) dX4_joined_94 rfl ?_
    refine Z_lret dX4_joined_95 rfl ?_
    refine ⟨rfl, rfl, ?_⟩
    unfold joinF
    (repeat rw [if_neg (by omega)]) <;> first | rfl | (rw [if_pos (by omega)])
set_option maxRecDepth 20000 in
theorem zX4_makeVariable {G : tl_G} {M : zM} {J : zJ} {f v : Int} (f0 : 0 ≤ f) (f1 : f < 56) (v0 : 0 ≤ v) (v1 : v < 8) : ZN G yX4_makeVariable mX4_makeVariable 0 kBits [vR 31, vI f, vI v] F1 M J (qV (fun M' J' => M' = M ∧ (∀ k : Int, 0 ≤ k → k < 4 → J' 44 (4 * f + k) = vbF (J 54) (M 39 v) k) ∧ ∀ j : Int, (j < 4 * f ∨ 4 * f + 4 ≤ j) → J' 44 j = J 44 j)) := by
  refine ZN_of (L := [_, _, _, _, _]) (by decide) rfl rfl (Nat.le_of_ble_eq_true rfl) rfl (fun hav => ?_)
  refine Z_aload_n (n := 1) dX4_makeVariable_0 rfl rfl ?_
  refine Z_getA (n := 4) dX4_makeVariable_1 rfl ffX4_32 rfl rfl ?_
  refine Z_iload_n (n := 5) dX4_makeVariable_4 rfl rfl ?_
  refine Z_iald (n := 6) dX4_makeVariable_5 rfl rfl rfl (by first | decide | assumption) (by omega) (by omega) (fun r5 s5 => ?_)
  refine Z_istore_n (L' := [_, _, _, _, _]) (n := 7) dX4_makeVariable_6 rfl (by decide) rfl rfl ?_
  refine Z_iconst (n := 8) dX4_makeVariable_7 rfl (by decide) ?_
  refine Z_istore (L' := [_, _, _, _, _]) (n := 10) dX4_makeVariable_8 rfl (by decide) rfl rfl ?_
  have lp10 : ∀ (N10 : Nat) (k : Int) (M10 : zM) (J10 : zJ), ((4 - k).toNat) < N10 → (M10 = M) → (0 ≤ k) → (k ≤ 4) → (∀ j : Int, 0 ≤ j → j < k → J10 44 (4 * f + j) = vbF (J 54) (M 39 v) j) → (∀ j : Int, (j < 4 * f ∨ 4 * f + 4 ≤ j) → J10 44 j = J 44 j) → TZ G mX4_makeVariable (tl_rm 0 0 0) 0 0 kBits M J 10 [some (vR 31), some (vI f), some (vI v), some (vI (M 39 v)), some (vI k)] [] F1 M10 J10 (ZM G (zPost G kBits F1 M J (qV (fun M' J' => M' = M ∧ (∀ k : Int, 0 ≤ k → k < 4 → J' 44 (4 * f + k) = vbF (J 54) (M 39 v) k) ∧ ∀ j : Int, (j < 4 * f ∨ 4 * f + 4 ≤ j) → J' 44 j = J 44 j))) 0 0) := by
    intro N10
    induction N10 with
    | zero => intro k M10 J10 hN; omega
    | succ N10 ih10 =>
      intro k M10 J10 hN10 i10_0 i10_1 i10_2 i10_3 i10_4
      refine Z_iload (n := 12) dX4_makeVariable_10 rfl rfl ?_
      refine Z_iconst (n := 13) dX4_makeVariable_12 rfl (by decide) ?_
      refine Z_icmp_ge (n := 16) (t := 75) dX4_makeVariable_13 rfl (by decide) (fun c13 => ?_) (fun c13 => ?_)
      · refine Z_vret dX4_makeVariable_75 rfl ?_
        exact ⟨i10_0, fun j j0 j1 => i10_3 j j0 (by omega), i10_4⟩
      · refine Z_fr (fun fr10 => ?_)
        refine Z_aload_n (n := 17) dX4_makeVariable_16 rfl rfl ?_
        refine Z_getA (n := 20) dX4_makeVariable_17 rfl ffX4_47 rfl rfl ?_
        refine Z_iconst (n := 21) dX4_makeVariable_20 rfl (by decide) ?_
        refine Z_iload_n (n := 22) dX4_makeVariable_21 rfl rfl ?_
        refine Z_imul (n := 23) dX4_makeVariable_22 rfl (by omega) ?_
        refine Z_iload (n := 25) dX4_makeVariable_23 rfl rfl ?_
        refine Z_iadd (n := 26) dX4_makeVariable_25 rfl (by omega) ?_
        refine Z_iload_n (n := 27) dX4_makeVariable_26 rfl rfl ?_
        refine Z_iconst (n := 28) dX4_makeVariable_27 rfl (by decide) ?_
        refine Z_icmp_le (n := 31) (t := 40) dX4_makeVariable_28 rfl (by decide) (fun c28 => ?_) (fun c28 => ?_)
        · refine Z_iload_n (n := 41) dX4_makeVariable_40 rfl rfl ?_
          refine Z_if_ne (n := 44) (t := 53) dX4_makeVariable_41 rfl (by decide) (fun c41 => ?_) (fun c41 => ?_)
          · refine Z_iload (n := 55) dX4_makeVariable_53 rfl rfl ?_
            refine Z_iconst (n := 56) dX4_makeVariable_55 rfl (by decide) ?_
            refine Z_irem (n := 57) dX4_makeVariable_56 rfl (by decide) (by decide) ?_
            refine Z_iconst (n := 58) dX4_makeVariable_57 rfl (by decide) ?_
            refine Z_icmp_ne (n := 61) (t := 67) dX4_makeVariable_58 rfl (by decide) (fun c58 => ?_) (fun c58 => ?_)
            · refine Z_lconst (v := 0) (n := 68) dX4_makeVariable_67 rfl (by decide) ?_
              refine Z_last (n := 69) dX4_makeVariable_68 rfl rfl (by decide) (by omega) (by omega) (by decide) ?_
              refine Z_iinc (L' := [_, _, _, _, _]) (n := 72) dX4_makeVariable_69 rfl rfl (by decide) rfl rfl (by omega) rfl ?_
              refine Z_goto (t := 10) dX4_makeVariable_72 (by decide) ?_
              refine Z_loc (L' := [some _, some _, some _, some _, some _]) (lsub_same (lsub_same (lsub_same (lsub_same (lsub_same lsub_nil))))) ?_
              exact ih10 _ _ _ (by omega) (by first | rfl | assumption) (by first | assumption | omega | decide) (by first | assumption | omega | decide) (by first | exact fun j j0 j1 => by omega | exact st_step (by unfold vbF; first | (rw [if_pos (by omega)]; exact congrFun (fr10 54 (by decide)).2 _) | (rw [if_neg (by omega), if_pos (by omega)]) | (rw [if_neg (by omega), if_neg (by omega)])) i10_3) (by first | exact fun j _ => rfl | exact fun j hj => by rw [uz_n (by omega)]; exact i10_4 j hj)
            · refine Z_ldc2 (n := 64) dX4_makeVariable_61 rfl clX4_188 ?_
              refine Z_goto (t := 68) dX4_makeVariable_64 (by decide) ?_
              refine Z_last (n := 69) dX4_makeVariable_68 rfl rfl (by decide) (by omega) (by omega) (by decide) ?_
              refine Z_iinc (L' := [_, _, _, _, _]) (n := 72) dX4_makeVariable_69 rfl rfl (by decide) rfl rfl (by omega) rfl ?_
              refine Z_goto (t := 10) dX4_makeVariable_72 (by decide) ?_
              refine Z_loc (L' := [some _, some _, some _, some _, some _]) (lsub_same (lsub_same (lsub_same (lsub_same (lsub_same lsub_nil))))) ?_
              exact ih10 _ _ _ (by omega) (by first | rfl | assumption) (by first | assumption | omega | decide) (by first | assumption | omega | decide) (by first | exact fun j j0 j1 => by omega | exact st_step (by unfold vbF; first | (rw [if_pos (by omega)]; exact congrFun (fr10 54 (by decide)).2 _) | (rw [if_neg (by omega), if_pos (by omega)]) | (rw [if_neg (by omega), if_neg (by omega)])) i10_3) (by first | exact fun j _ => rfl | exact fun j hj => by rw [uz_n (by omega)]; exact i10_4 j hj)
          · refine Z_iload (n := 46) dX4_makeVariable_44 rfl rfl ?_
            refine Z_iconst (n := 47) dX4_makeVariable_46 rfl (by decide) ?_
            refine Z_icmp_le (n := 50) (t := 67) dX4_makeVariable_47 rfl (by decide) (fun c47 => ?_) (fun c47 => ?_)
            · refine Z_lconst (v := 0) (n := 68) dX4_makeVariable_67 rfl (by decide) ?_
              refine Z_last (n := 69) dX4_makeVariable_68 rfl rfl (by decide) (by omega) (by omega) (by decide) ?_
              refine Z_iinc (L' := [_, _, _, _, _]) (n := 72) dX4_makeVariable_69 rfl rfl (by decide) rfl rfl (by omega) rfl ?_
              refine Z_goto (t := 10) dX4_makeVariable_72 (by decide) ?_
              refine Z_loc (L' := [some _, some _, some _, some _, some _]) (lsub_same (lsub_same (lsub_same (lsub_same (lsub_same lsub_nil))))) ?_
              exact ih10 _ _ _ (by omega) (by first | rfl | assumption) (by first | assumption | omega | decide) (by first | assumption | omega | decide) (by first | exact fun j j0 j1 => by omega | exact st_step (by unfold vbF; first | (rw [if_pos (by omega)]; exact congrFun (fr10 54 (by decide)).2 _) | (rw [if_neg (by omega), if_pos (by omega)]) | (rw [if_neg (by omega), if_neg (by omega)])) i10_3) (by first | exact fun j _ => rfl | exact fun j hj => by rw [uz_n (by omega)]; exact i10_4 j hj)
            · refine Z_goto (t := 61) dX4_makeVariable_50 (by decide) ?_
              refine Z_ldc2 (n := 64) dX4_makeVariable_61 rfl clX4_188 ?_
              refine Z_goto (t := 68) dX4_makeVariable_64 (by decide) ?_
              refine Z_last (n := 69) dX4_makeVariable_68 rfl rfl (by decide) (by omega) (by omega) (by decide) ?_
              refine Z_iinc (L' := [_, _, _, _, _]) (n := 72) dX4_makeVariable_69 rfl rfl (by decide) rfl rfl (by omega) rfl ?_
              refine Z_goto (t := 10) dX4_makeVariable_72 (by decide) ?_
              refine Z_loc (L' := [some _, some _, some _, some _, some _]) (lsub_same (lsub_same (lsub_same (lsub_same (lsub_same lsub_nil))))) ?_
              exact ih10 _ _ _ (by omega) (by first | rfl | assumption) (by first | assumption | omega | decide) (by first | assumption | omega | decide) (by first | exact fun j j0 j1 => by omega | exact st_step (by unfold vbF; first | (rw [if_pos (by omega)]; exact congrFun (fr10 54 (by decide)).2 _) | (rw [if_neg (by omega), if_pos (by omega)]) | (rw [if_neg (by omega), if_neg (by omega)])) i10_3) (by first | exact fun j _ => rfl | exact fun j hj => by rw [uz_n (by omega)]; exact i10_4 j hj)
        · refine Z_aload_n (n := 32) dX4_makeVariable_31 rfl rfl ?_
          refine Z_getA (n := 35) dX4_makeVariable_32 rfl ffX4_90 rfl rfl ?_
          refine Z_iload_n (n := 36) dX4_makeVariable_35 rfl rfl ?_
          refine Z_lald (n := 37) dX4_makeVariable_36 rfl rfl (by decide) (by omega) (by omega) ?_
          refine Z_goto (t := 68) dX4_makeVariable_37 (by decide) ?_
          refine Z_last (n := 69) dX4_makeVariable_68 rfl rfl (by decide) (by omega) (by omega) (by decide) ?_
          refine Z_iinc (L' := [_, _, _, _, _]) (n := 72) dX4_makeVariable_69 rfl rfl (by decide) rfl rfl (by omega) rfl ?_
          refine Z_goto (t := 10) dX4_makeVariable_72 (by decide) ?_
          refine Z_loc (L' := [some _, some _, some _, some _, some _]) (lsub_same (lsub_same (lsub_same (lsub_same (lsub_same lsub_nil))))) ?_
          exact ih10 _ _ _ (by omega) (by first | rfl | assumption) (by first | assumption | omega | decide) (by first | assumption | omega | decide) (by first | exact fun j j0 j1 => by omega | exact st_step (by unfold vbF; first | (rw [if_pos (by omega)]; exact congrFun (fr10 54 (by decide)).2 _) | (rw [if_neg (by omega), if_pos (by omega)]) | (rw [if_neg (by omega), if_neg (by omega)])) i10_3) (by first | exact fun j _ => rfl | exact fun j hj => by rw [uz_n (by omega)]; exact i10_4 j hj)
  refine Z_loc (L' := [some _, some _, some _, some _, some _]) (lsub_same (lsub_same (lsub_same (lsub_same (lsub_same lsub_nil))))) ?_
  exact lp10 _ _ _ _ (Nat.lt_succ_self _) (by first | rfl | assumption) (by first | assumption | omega | decide) (by first | assumption | omega | decide) (by first | exact fun j j0 j1 => by omega | exact st_step (by unfold vbF; first | (rw [if_pos (by omega)]; exact congrFun (fr10 54 (by decide)).2 _) | (rw [if_neg (by omega), if_pos (by omega)]) | (rw [if_neg (by omega), if_neg (by omega)])) i10_3) (by first | exact fun j _ => rfl | exact fun j hj => by rw [uz_n (by omega)]; exact i10_4 j hj)
set_option maxRecDepth 20000 in
theorem zX4_makeOf {G : tl_G} {M : zM} {J : zJ} {t k f g : Int} (t0 : 0 ≤ t) (t1 : t < 56) (f0 : 0 ≤ f) (f1 : f < 56) (g0 : 0 ≤ g) (g1 : g < 56) : ZN G yX4_makeOf mX4_makeOf 1 kBits [vR 31, vI t, vI k, vI f, vI g] F1 M J (qV (fun M' J' => M' = M ∧ ∃ B : Int → Int64, (∀ j : Int, 0 ≤ j → j < 4 → J' 44 (4 * t + j) = B j ∧ (k = 1 → B j = 0) ∧ (k = 2 → B j = -1)) ∧ ∀ j : Int, (j < 4 * t ∨ 4 * t + 4 ≤ j) → J' 44 j = J 44 j)) := by
  refine ZN_of (L := [_, _, _, _, _, _]) (by decide) rfl rfl (Nat.le_of_ble_eq_true rfl) rfl (fun hav => ?_)
  refine Z_iconst (n := 1) dX4_makeOf_0 rfl (by decide) ?_
  refine Z_istore (L' := [_, _, _, _, _, _]) (n := 3) dX4_makeOf_1 rfl (by decide) rfl rfl ?_
  have lp3 : ∀ (N3 : Nat) (q : Int) (M3 : zM) (J3 : zJ), ((4 - q).toNat) < N3 → (M3 = M) → (0 ≤ q) → (q ≤ 4) → (∀ j : Int, 0 ≤ j → j < q → (k = 1 → J3 44 (4 * t + j) = 0) ∧ (k = 2 → J3 44 (4 * t + j) = -1)) → (∀ j : Int, (j < 4 * t ∨ 4 * t + 4 ≤ j) → J3 44 j = J 44 j) → TZ G mX4_makeOf (tl_rm 1 0 0) 0 0 kBits M J 3 [some (vR 31), some (vI t), some (vI k), some (vI f), some (vI g), some (vI q)] [] F1 M3 J3 (ZM G (zPost G kBits F1 M J (qV (fun M' J' => M' = M ∧ ∃ B : Int → Int64, (∀ j : Int, 0 ≤ j → j < 4 → J' 44 (4 * t + j) = B j ∧ (k = 1 → B j = 0) ∧ (k = 2 → B j = -1)) ∧ ∀ j : Int, (j < 4 * t ∨ 4 * t + 4 ≤ j) → J' 44 j = J 44 j))) 0 0) := by
    intro N3
    induction N3 with
    | zero => intro q M3 J3 hN; omega
    | succ N3 ih3 =>
      intro q M3 J3 hN3 i3_0 i3_1 i3_2 i3_3 i3_4
      refine Z_iload (n := 5) dX4_makeOf_3 rfl rfl ?_
      refine Z_iconst (n := 6) dX4_makeOf_5 rfl (by decide) ?_
      refine Z_icmp_ge (n := 9) (t := 53) dX4_makeOf_6 rfl (by decide) (fun c6 => ?_) (fun c6 => ?_)
      · refine Z_vret dX4_makeOf_53 rfl ?_
        exact ⟨i3_0, fun j => J3 44 (4 * t + j), fun j j0 j1 => ⟨rfl, i3_3 j j0 (by omega)⟩, i3_4⟩
      · refine Z_aload_n (n := 10) dX4_makeOf_9 rfl rfl ?_
        refine Z_getA (n := 13) dX4_makeOf_10 rfl ffX4_47 rfl rfl ?_
        refine Z_iconst (n := 14) dX4_makeOf_13 rfl (by decide) ?_
        refine Z_iload_n (n := 15) dX4_makeOf_14 rfl rfl ?_
        refine Z_imul (n := 16) dX4_makeOf_15 rfl (by omega) ?_
        refine Z_iload (n := 18) dX4_makeOf_16 rfl rfl ?_
        refine Z_iadd (n := 19) dX4_makeOf_18 rfl (by omega) ?_
        refine Z_iload_n (n := 20) dX4_makeOf_19 rfl rfl ?_
        refine Z_aload_n (n := 21) dX4_makeOf_20 rfl rfl ?_
        refine Z_getA (n := 24) dX4_makeOf_21 rfl ffX4_47 rfl rfl ?_
        refine Z_iconst (n := 25) dX4_makeOf_24 rfl (by decide) ?_
        refine Z_iload_n (n := 26) dX4_makeOf_25 rfl rfl ?_
        refine Z_imul (n := 27) dX4_makeOf_26 rfl (by omega) ?_
        refine Z_iload (n := 29) dX4_makeOf_27 rfl rfl ?_
        refine Z_iadd (n := 30) dX4_makeOf_29 rfl (by omega) ?_
        refine Z_lald (n := 31) dX4_makeOf_30 rfl rfl (by decide) (by omega) (by omega) ?_
        refine Z_aload_n (n := 32) dX4_makeOf_31 rfl rfl ?_
        refine Z_getA (n := 35) dX4_makeOf_32 rfl ffX4_47 rfl rfl ?_
        refine Z_iconst (n := 36) dX4_makeOf_35 rfl (by decide) ?_
        refine Z_iload (n := 38) dX4_makeOf_36 rfl rfl ?_
        refine Z_imul (n := 39) dX4_makeOf_38 rfl (by omega) ?_
        refine Z_iload (n := 41) dX4_makeOf_39 rfl rfl ?_
        refine Z_iadd (n := 42) dX4_makeOf_41 rfl (by omega) ?_
        refine Z_lald (n := 43) dX4_makeOf_42 rfl rfl (by decide) (by omega) (by omega) ?_
        refine Z_callSl (n := 46) [_, _, _] _ dX4_makeOf_43 rfl cwX4_190 rfl rfl (Nat.le_of_ble_eq_true rfl) (by refine ⟨?_, ?_, ?_, ?_⟩ <;> exact Nat.le_of_ble_eq_true rfl) (fun _ _ => trivial) (zX4_joined  ) ?_
        intro x43 M43 J43 f43 q43
        obtain ⟨e43_1, e43_2, h43⟩ := q43
        replace e43_1 := e43_1.symm; subst e43_1
        replace e43_2 := e43_2.symm; subst e43_2
        refine Z_last (n := 47) dX4_makeOf_46 rfl rfl (by decide) (by omega) (by omega) (by decide) ?_
        have nx3 : ∀ j : Int, 0 ≤ j → j < q + 1 → (k = 1 → uz J3 44 (4 * t + q) x43 44 (4 * t + j) = 0) ∧ (k = 2 → uz J3 44 (4 * t + q) x43 44 (4 * t + j) = -1) := fun j j0 j1 => by
          rw [uz_a]
          split
          · exact ⟨fun e => by subst e; rw [h43]; rfl, fun e => by subst e; rw [h43]; rfl⟩
          · exact i3_3 j j0 (by omega)
        refine Z_iinc (L' := [_, _, _, _, _, _]) (n := 50) dX4_makeOf_47 rfl rfl (by decide) rfl rfl (by omega) rfl ?_
        refine Z_goto (t := 3) dX4_makeOf_50 (by decide) ?_
        refine Z_loc (L' := [some _, some _, some _, some _, some _, some _]) (lsub_same (lsub_same (lsub_same (lsub_same (lsub_same (lsub_same lsub_nil)))))) ?_
        exact ih3 _ _ _ (by omega) (by first | rfl | assumption) (by first | assumption | omega | decide) (by first | assumption | omega | decide) (by first | exact fun j j0 j1 => by omega | exact nx3) (by first | exact fun j _ => rfl | exact fun j hj => by rw [uz_n (by omega)]; exact i3_4 j hj)
  refine Z_loc (L' := [some _, some _, some _, some _, some _, some _]) (lsub_same (lsub_same (lsub_same (lsub_same (lsub_same (lsub_same lsub_nil)))))) ?_
  exact lp3 _ _ _ _ (Nat.lt_succ_self _) (by first | rfl | assumption) (by first | assumption | omega | decide) (by first | assumption | omega | decide) (by first | exact fun j j0 j1 => by omega | exact nx3) (by first | exact fun j _ => rfl | exact fun j hj => by rw [uz_n (by omega)]; exact i3_4 j hj)
end
section
/-! ===== the reference on a fresh object: add ===== -/
abbrev kAd (a : Nat) : Prop := a < 31 ∨ (31 < a ∧ a < 43) ∨ a = 44 ∨ 53 < a
theorem bitF_congr {J J' : zJ} (h : J' 44 = J 44) (f : Int) : bitF J' f = bitF J f := by
  funext k
  unfold bitF
  rw [h]
theorem lyw_congr {B B' : Int → Int64} {d i : Int} (h : ∀ k : Int, 0 ≤ k → k < 4 → B k = B' k) (z : 0 ≤ i * zshr 256 d ∧ i * zshr 256 d < 256) : lyw B d i = lyw B' d i := by
  have q := zshr6' z.1 z.2
  unfold lyw
  rw [h _ q.1 (by omega)]
theorem lyc_congr {B B' : Int → Int64} {d i : Int} (h : ∀ k : Int, 0 ≤ k → k < 4 → B k = B' k) (z : 0 ≤ i * zshr 256 d ∧ i * zshr 256 d < 256) : lyc B d i = lyc B' d i := by
  unfold lyc
  rw [lyw_congr h z]
theorem lyR_congr {B B' : Int → Int64} {d i : Int} (h : ∀ k : Int, 0 ≤ k → k < 4 → B k = B' k) (h0 : 0 ≤ d) (h1 : d ≤ 7) (i0 : 0 ≤ i) (i1 : i < zshl 1 d) : lyR B d i = lyR B' d i := by
  obtain ⟨-, z, -, -, z5⟩ := zlay h0 h1 i0 i1
  unfold lyR
  rw [lyc_congr h z, h 0 (by decide) (by decide), h 1 (by decide) (by decide), h 2 (by decide) (by decide), h 3 (by decide) (by decide)]
  by_cases e : 1 < d
  · rw [if_pos e, if_pos e]
  · rw [if_neg e, if_neg e]
    by_cases e0 : d = 0
    · rw [if_pos e0, if_pos e0]
    · rw [if_neg e0, if_neg e0]
      have := z5 (by omega)
      rw [h (2 * i) (by omega) (by omega), h (2 * i + 1) (by omega) (by omega)]
theorem lyP_congr {B B' : Int → Int64} {d i : Int} (h : ∀ k : Int, 0 ≤ k → k < 4 → B k = B' k) (h0 : 0 ≤ d) (h1 : d ≤ 7) (i0 : 0 ≤ i) (i1 : i < zshl 1 d) : ∀ k : Int, 0 ≤ k → k < 4 → lyP B d i k = lyP B' d i k := by
  intro k k0 k1
  obtain ⟨-, z, -, -, z5⟩ := zlay h0 h1 i0 i1
  unfold lyP
  rw [lyw_congr h z, h k k0 k1]
  by_cases e : 1 < d
  · rw [if_pos e, if_pos e]
  · rw [if_neg e, if_neg e]
    by_cases e0 : d = 0
    · rw [if_pos e0, if_pos e0]
    · rw [if_neg e0, if_neg e0]
      have := z5 (by omega)
      rw [h (2 * i) (by omega) (by omega), h (2 * i + 1) (by omega) (by omega)]
def ad0 (M : zM) (f : Int) : zM := uz (uz (uz M 43 f 1) 45 f 0) 31 27 (M 31 27 + 1)
end
section
/-! ===== the reference on a fresh object: add of a variable ===== -/
theorem mtc_congr {M : zM} {J : zJ} {n d : Int} {P P' : Int → Int64} (e : ∀ k : Int, 0 ≤ k → k < 4 → P k = P' k) (q : mtc M J n d P) : mtc M J n d P' := by
  unfold mtc at *
  rw [← e 0 (by decide) (by decide), ← e 1 (by decide) (by decide), ← e 2 (by decide) (by decide), ← e 3 (by decide) (by decide)]
  exact q
end
section
/-! ===== Z-LAYER: making objects ===== -/
def nwF (F : zF) (t k : Nat) : zF := (up1 F.1 F.2.2 (t, k), F.2.1, F.2.2 + 1)
def pF (F : zF) (a k r : Nat) : zF := (F.1, up2 F.2.1 a k (some r), F.2.2)
def ZA (G : tl_G) (y : MethodName) (mt : tl_M) (d mc ms : Nat) (K : Nat → Prop) (av : List zV) (F F' : zF) (M : zM) (J : zJ) (Q : Option zV → zM → zJ → Prop) : Prop := gZ G → zOK M → (∀ v ∈ av, vok v) → CT G y mt d mc ms (av.map (cv G)) (tS G F M J) (zPost G K F' M J Q)
section ZNW
variable {G : tl_G} {mt : tl_M} {R : Room} {cells slots pc n : Nat} {K : Nat → Prop} {M0 : zM} {J0 : zJ} {L L' : List (Option zV)} {st : List zV} {F : zF} {M : zM} {J : zJ} {Z : tl_Z}
theorem tS_nw {t k : Nat} (hM : ∀ j, M F.2.2 j = 0) (hJ : ∀ j, J F.2.2 j = 0) (hP : ∀ j, F.2.1 F.2.2 j = none) : tl_nw (tS G F M J) t k = tS G (nwF F t k) M J := by
  have e1 : up1 (sS (tS G F M J)) (sZ (tS G F M J)) (t, k) = sS (tS G (nwF F t k) M J) := by
    funext a
    show (if a = gB G + F.2.2 then (t, k) else (if a < gB G then (0, 0) else F.1 (a - gB G))) = (if a < gB G then (0, 0) else (if a - gB G = F.2.2 then (t, k) else F.1 (a - gB G)))
    by_cases h1 : a < gB G
    · rw [if_neg (show ¬ a = gB G + F.2.2 by omega), if_pos h1, if_pos h1]
    · rw [if_neg h1, if_neg h1]
      by_cases h2 : a = gB G + F.2.2
      · rw [if_pos h2, if_pos (show a - gB G = F.2.2 by omega)]
      · rw [if_neg h2, if_neg (show ¬ a - gB G = F.2.2 by omega)]
  have e2 : zr (sM (tS G F M J)) (sZ (tS G F M J)) 0 = sM (tS G (nwF F t k) M J) := by
    funext a j
    show (if a = gB G + F.2.2 then 0 else (if a < gB G then 0 else Int32.ofInt (M (a - gB G) j))) = (if a < gB G then 0 else Int32.ofInt (M (a - gB G) j))
    by_cases h2 : a = gB G + F.2.2
    · subst h2
      rw [if_pos rfl, if_neg (show ¬ gB G + F.2.2 < gB G by omega), show gB G + F.2.2 - gB G = F.2.2 by omega, hM]
      rfl
    · rw [if_neg h2]
  have e3 : zr (sJ (tS G F M J)) (sZ (tS G F M J)) 0 = sJ (tS G (nwF F t k) M J) := by
    funext a j
    show (if a = gB G + F.2.2 then 0 else (if a < gB G then 0 else J (a - gB G) j)) = (if a < gB G then 0 else J (a - gB G) j)
    by_cases h2 : a = gB G + F.2.2
    · subst h2
      rw [if_pos rfl, if_neg (show ¬ gB G + F.2.2 < gB G by omega), show gB G + F.2.2 - gB G = F.2.2 by omega, hJ]
    · rw [if_neg h2]
  have e4 : zr (sP (tS G F M J)) (sZ (tS G F M J)) none = sP (tS G (nwF F t k) M J) := by
    funext a j
    show (if a = gB G + F.2.2 then none else (if a < gB G then none else (F.2.1 (a - gB G) j).map (fun q => gB G + q))) = (if a < gB G then none else (F.2.1 (a - gB G) j).map (fun q => gB G + q))
    by_cases h2 : a = gB G + F.2.2
    · subst h2
      rw [if_pos rfl, if_neg (show ¬ gB G + F.2.2 < gB G by omega), show gB G + F.2.2 - gB G = F.2.2 by omega, hP]
      rfl
    · rw [if_neg h2]
  unfold tl_nw
  rw [e1, e2, e3, e4]
  rfl
theorem tS_pF {a k r : Nat} : (sS (tS G F M J), sM (tS G F M J), sJ (tS G F M J), up2 (sP (tS G F M J)) (gB G + a) k (some (gB G + r)), sZ (tS G F M J)) = tS G (pF F a k r) M J := by
  have h : up2 (sP (tS G F M J)) (gB G + a) k (some (gB G + r)) = sP (tS G (pF F a k r) M J) := by
    funext a' k'
    show (if a' = gB G + a then (if k' = k then some (gB G + r) else (if a' < gB G then none else (F.2.1 (a' - gB G) k').map (fun q => gB G + q))) else (if a' < gB G then none else (F.2.1 (a' - gB G) k').map (fun q => gB G + q))) = (if a' < gB G then none else (if a' - gB G = a then (if k' = k then some r else F.2.1 (a' - gB G) k') else F.2.1 (a' - gB G) k').map (fun q => gB G + q))
    by_cases h1 : a' < gB G
    · rw [if_pos h1, if_pos h1, if_neg (show ¬ a' = gB G + a by omega)]
    · rw [if_neg h1, if_neg h1]
      by_cases h2 : a' = gB G + a
      · rw [if_pos h2, if_pos (show a' - gB G = a by omega)]
        by_cases h3 : k' = k
        · rw [if_pos h3, if_pos h3]; rfl
        · rw [if_neg h3, if_neg h3]
      · rw [if_neg h2, if_neg (show ¬ a' - gB G = a by omega)]
  rw [h]
  rfl
theorem Z_newI {N z : Nat} {j : Int} (hd : decode mt.2.1 pc = .ok (.newarray .int, 2)) (hp : pc + 2 = n) (hj : j = (N : Int)) (hN : N ≤ 100000) (hz : F.2.2 = z) (hM : ∀ k, M z k = 0) (hJ : ∀ k, J z k = 0) (hP : ∀ k, F.2.1 z k = none) (hc : cells + 1 ≤ R.cells) (hs0 : slots + N ≤ R.slots) (kk : TZ G mt R (cells + 1) (slots + N) K M0 J0 n L (vR z :: st) (nwF F 2 N) M J Z) : TZ G mt R cells slots K M0 J0 pc L (vI j :: st) F M J Z := by
  subst hz; subst hj
  intro hg hm hf hl hs
  refine T_newI (j := Int32.ofInt (N : Int)) hd hp wd_aI (i32n (by omega) (by omega)) hN hc hs0 ?_
  rw [tS_nw hM hJ hP]
  exact kk hg hm hf hl (List.forall_mem_cons.mpr ⟨trivial, (List.forall_mem_cons.mp hs).2⟩)
theorem Z_newZ {N z : Nat} {j : Int} (hd : decode mt.2.1 pc = .ok (.newarray .boolean, 2)) (hp : pc + 2 = n) (hj : j = (N : Int)) (hN : N ≤ 100000) (hz : F.2.2 = z) (hM : ∀ k, M z k = 0) (hJ : ∀ k, J z k = 0) (hP : ∀ k, F.2.1 z k = none) (hc : cells + 1 ≤ R.cells) (hs0 : slots + N ≤ R.slots) (kk : TZ G mt R (cells + 1) (slots + N) K M0 J0 n L (vR z :: st) (nwF F 3 N) M J Z) : TZ G mt R cells slots K M0 J0 pc L (vI j :: st) F M J Z := by
  subst hz; subst hj
  intro hg hm hf hl hs
  refine T_newZ (j := Int32.ofInt (N : Int)) hd hp wd_aZ (i32n (by omega) (by omega)) hN hc hs0 ?_
  rw [tS_nw hM hJ hP]
  exact kk hg hm hf hl (List.forall_mem_cons.mpr ⟨trivial, (List.forall_mem_cons.mp hs).2⟩)
theorem Z_newJ {N z : Nat} {j : Int} (hd : decode mt.2.1 pc = .ok (.newarray .long, 2)) (hp : pc + 2 = n) (hj : j = (N : Int)) (hN : N ≤ 100000) (hz : F.2.2 = z) (hM : ∀ k, M z k = 0) (hJ : ∀ k, J z k = 0) (hP : ∀ k, F.2.1 z k = none) (hc : cells + 1 ≤ R.cells) (hs0 : slots + N ≤ R.slots) (kk : TZ G mt R (cells + 1) (slots + N) K M0 J0 n L (vR z :: st) (nwF F 4 N) M J Z) : TZ G mt R cells slots K M0 J0 pc L (vI j :: st) F M J Z := by
  subst hz; subst hj
  intro hg hm hf hl hs
  refine T_newJ (j := Int32.ofInt (N : Int)) hd hp wd_aJ (i32n (by omega) (by omega)) hN hc hs0 ?_
  rw [tS_nw hM hJ hP]
  exact kk hg hm hf hl (List.forall_mem_cons.mpr ⟨trivial, (List.forall_mem_cons.mp hs).2⟩)
theorem Z_anew {N z idx : Nat} {j : Int} (hd : decode mt.2.1 pc = .ok (.anewarray idx, 3)) (hp : pc + 3 = n) (hw : Cond.classLink mt.1 idx RX0 ∈ tl_W) (hj : j = (N : Int)) (hN : N ≤ 100000) (hz : F.2.2 = z) (hM : ∀ k, M z k = 0) (hJ : ∀ k, J z k = 0) (hP : ∀ k, F.2.1 z k = none) (hc : cells + 1 ≤ R.cells) (hs0 : slots + N ≤ R.slots) (kk : TZ G mt R (cells + 1) (slots + N) K M0 J0 n L (vR z :: st) (nwF F 5 N) M J Z) : TZ G mt R cells slots K M0 J0 pc L (vI j :: st) F M J Z := by
  subst hz; subst hj
  intro hg hm hf hl hs
  refine T_anew (j := Int32.ofInt (N : Int)) hd hp hw (i32n (by omega) (by omega)) hN hc hs0 ?_
  rw [tS_nw hM hJ hP]
  exact kk hg hm hf hl (List.forall_mem_cons.mpr ⟨trivial, (List.forall_mem_cons.mp hs).2⟩)
theorem Z_new {z idx ci N : Nat} (hd : decode mt.2.1 pc = .ok (.new idx, 3)) (hp : pc + 3 = n) (hn : tl_CN mt.1 idx ci N) (hz : F.2.2 = z) (hM : ∀ k, M z k = 0) (hJ : ∀ k, J z k = 0) (hP : ∀ k, F.2.1 z k = none) (hc : cells + 1 ≤ R.cells) (hs0 : slots + N ≤ R.slots) (kk : TZ G mt R (cells + 1) (slots + N) K M0 J0 n L (vR z :: st) (nwF F 1 ci) M J Z) : TZ G mt R cells slots K M0 J0 pc L st F M J Z := by
  subst hz
  intro hg hm hf hl hs
  refine T_new hd hp hn hc hs0 ?_
  rw [tS_nw hM hJ hP]
  exact kk hg hm hf hl (List.forall_mem_cons.mpr ⟨trivial, hs⟩)
theorem Z_objI {idx a : Nat} (hd : decode mt.2.1 pc = .ok (.invokespecial idx, 3)) (hp : pc + 3 = n) (hw : Cond.methodLink mt.1 idx objectInit ∈ tl_W) (hf0 : 1 ≤ R.frames) (hlo : 20 ≤ R.locals) (hst : ((st.map (cv G)).map fun v => v.category).sum ≤ 8) (kk : TZ G mt R cells slots K M0 J0 n L st F M J Z) : TZ G mt R cells slots K M0 J0 pc L (vR a :: st) F M J Z := by
  intro hg hm hf hl hs
  exact T_objI hd hp hw wd_oI wd_oC hf0 hlo hst (kk hg hm hf hl (List.forall_mem_cons.mp hs).2)
theorem Z_putA {idx ci k a x : Nat} {t : FieldType} {fin : Bool} (hd : decode mt.2.1 pc = .ok (.putfield idx, 3)) (hp : pc + 3 = n) (hf0 : tl_FF mt.1 idx ci k (.array t) fin) (hfi : fin = true → mt.2.2.2.2 = "<init>") (hsh : F.1 a = (1, ci)) (kk : TZ G mt R cells slots K M0 J0 n L st (pF F a k x) M J Z) : TZ G mt R cells slots K M0 J0 pc L (vR x :: vR a :: st) F M J Z := by
  intro hg hm hf hl hs
  refine T_putA (x := gB G + x) hd hp hf0 hfi (by rw [tS_S]; exact hsh) ?_
  rw [tS_pF]
  exact kk hg hm hf hl (List.forall_mem_cons.mp (List.forall_mem_cons.mp hs).2).2
theorem Z_putO {idx ci k a x : Nat} {t : String} {fin : Bool} (hd : decode mt.2.1 pc = .ok (.putfield idx, 3)) (hp : pc + 3 = n) (hf0 : tl_FF mt.1 idx ci k (.object t) fin) (hfi : fin = true → mt.2.2.2.2 = "<init>") (hsh : F.1 a = (1, ci)) (kk : TZ G mt R cells slots K M0 J0 n L st (pF F a k x) M J Z) : TZ G mt R cells slots K M0 J0 pc L (vR x :: vR a :: st) F M J Z := by
  intro hg hm hf hl hs
  refine T_putO (x := gB G + x) hd hp hf0 hfi (by rw [tS_S]; exact hsh) ?_
  rw [tS_pF]
  exact kk hg hm hf hl (List.forall_mem_cons.mp (List.forall_mem_cons.mp hs).2).2
theorem Z_aast {a N v i : Nat} {j : Int} (hd : decode mt.2.1 pc = .ok (.aastore, 1)) (hp : pc + 1 = n) (hsh : F.1 a = (5, N)) (hv : F.1 v = (1, 0)) (hj : j = (i : Int)) (hi : i < N) (hN : N < 2147483648) (kk : TZ G mt R cells slots K M0 J0 n L st (pF F a i v) M J Z) : TZ G mt R cells slots K M0 J0 pc L (vR v :: vI j :: vR a :: st) F M J Z := by
  subst hj
  intro hg hm hf hl hs
  refine T_aast (j := Int32.ofInt (i : Int)) (v := gB G + v) hd hp (by rw [tS_S]; exact hsh) (by rw [tS_S]; exact hv) (i32n (by omega) (by omega)) (by omega) (by omega) ?_
  rw [tS_pF]
  exact kk hg hm hf hl (List.forall_mem_cons.mp (List.forall_mem_cons.mp (List.forall_mem_cons.mp hs).2).2).2
theorem ZA_of {y : MethodName} {d mc ms : Nat} {F' : zF} {av : List zV} {Q : Option zV → zM → zJ → Prop} (hpl : plainName y.cls = true) (hy1 : y.cls = mt.1) (hy2 : y.name = mt.2.2.2.2) (hle : (lg_sl (av.map (cv G))).length ≤ mt.2.2.1) (hL : zargs av ++ List.replicate (mt.2.2.1 - (zargs av).length) none = L) (h : (∀ v ∈ av, vok v) → TZ G mt (tl_rm d mc ms) 0 0 K M J 0 L [] F M J (ZM G (zPost G K F' M J Q) mc ms)) : ZA G y mt d mc ms K av F F' M J Q := by
  intro hg hm ha
  refine CT_of hpl hy1 hy2 hle ?_
  have h1 := h ha hg hm (fun a _ => ⟨rfl, rfl⟩) (fun v hv => ?_) (fun v hv => by cases hv)
  · rw [zargs_map, List.length_map]
    rw [← hL, List.map_append, List.map_replicate] at h1
    exact h1
  · rw [← hL] at hv
    rcases List.mem_append.mp hv with q | q
    · exact ha v (zargs_mem av v q)
    · have := List.eq_of_mem_replicate q
      cases this
theorem Z_callI {idx d mc ms b : Nat} {y : MethodName} {mt' : tl_M} {K' : Nat → Prop} {rest : List zV} {F' : zF} {Q' : zM → zJ → Prop} (hd : decode mt.2.1 pc = .ok (.invokespecial idx, 3)) (hp : pc + 3 = n) (hw : tl_CW mt.1 idx y mt' 0 ∧ Cond.instanceMethod y ∈ tl_W ∧ y.name = "<init>" ∧ mt'.2.2.2.1 = none) (hcat : ((rest.map (cv G)).map fun v => v.category).sum ≤ 8) (hR : d + 1 ≤ R.frames ∧ 8 + (mt'.2.2.1 + 11) + 40 * d ≤ R.locals ∧ cells + mc ≤ R.cells ∧ slots + ms ≤ R.slots) (hKK : ∀ a, K a → K' a) (hc : ZA G y mt' d mc ms K' [vR b] F F' M J (qV Q')) (kk : ∀ (M' : zM) (J' : zJ), (∀ a, K' a → M' a = M a ∧ J' a = J a) → Q' M' J' → TZ G mt R (cells + mc) (slots + ms) K M0 J0 n L rest F' M' J' Z) : TZ G mt R cells slots K M0 J0 pc L (vR b :: rest) F M J Z := by
  intro hg hm hf hl hs
  have h2 := (List.forall_mem_cons.mp hs).2
  refine T_callI (As := []) (rest := rest.map (cv G)) hd hp hw rfl rfl hcat hR (hc hg hm (List.forall_mem_cons.mpr ⟨trivial, fun v hv => by cases hv⟩)) ?_
  rintro v σ' ⟨v', M', J', rfl, rfl, hv, hm', hf', rfl, hQ⟩
  exact kk M' J' hf' hQ hg hm' (fr_after hKK hf hf') hl h2
end ZNW
theorem cl_X3_9 : Cond.classLink RX3 9 RX0 ∈ tl_W := by
  obtain ⟨C, T, h1, -, h3, -⟩ := cnX3_9
  cases h1
  exact h3
end
section
/-! ===== constructors ===== -/
abbrev kNw (b a : Nat) : Prop := ¬ a = b
abbrev kBench (a : Nat) : Prop := 30 < a
abbrev kModel (a : Nat) : Prop := a < 31
def F_ord (F : zF) : zF := pF (nwF (pF (nwF F 2 8) 2 0 3) 2 8) 2 1 4
def F_pool (F : zF) : zF := pF (nwF (pF (nwF (pF (nwF (pF (nwF (pF (nwF (pF (nwF F 2 252) 5 0 6) 2 252) 5 1 7) 2 252) 5 2 8) 2 252) 5 3 9) 2 252) 5 4 10) 2 256) 5 5 11
def F_net (b : Nat) (F : zF) : zF := pF (nwF (pF (nwF (pF (nwF (pF (nwF F 2 40) b 0 (b + 1)) 2 120) b 1 (b + 2)) 2 4) b 2 (b + 3)) 2 40) b 3 (b + 4)
def F_model (F : zF) : zF := pF (nwF (pF (nwF (pF (nwF (pF (nwF (pF (nwF (pF (nwF (pF (nwF (pF (nwF (pF (nwF (pF (nwF (pF (nwF (pF (nwF (pF (nwF (pF (nwF (pF (nwF (pF (nwF (pF (nwF (pF (nwF (pF (nwF (pF (nwF (pF (nwF (pF (nwF (pF (nwF (pF (nwF (pF (nwF (pF (nwF F 2 3) 31 0 32) 2 3) 31 1 33) 2 120) 31 2 34) 2 360) 31 3 35) 2 12) 31 4 36) 3 40) 31 5 37) 2 8) 31 6 38) 2 8) 31 7 39) 3 40) 31 9 40) 2 41) 31 10 41) 2 41) 31 11 42) 3 56) 31 14 43) 4 224) 31 15 44) 2 56) 31 16 45) 2 14280) 31 17 46) 2 520) 31 18 47) 4 2080) 31 19 48) 2 520) 31 20 49) 2 520) 31 21 50) 2 512) 31 22 51) 2 520) 31 26 52) 4 4) 31 28 53) 4 8) 31 29 54) 3 40) 31 30 55) 2 40) 31 31 56) 2 256) 31 32 57
def F00 : zF := (fun _ => (0, 0), fun _ _ => none, 0)
def Fb0 : zF := nwF F00 1 3
def Fb3 : zF := nwF (pF (nwF Fb0 5 3) 0 0 1) 1 1
def Fb5 : zF := nwF (pF (F_ord Fb3) 0 1 2) 1 2
def Fb6 : zF := pF (nwF (pF (nwF (pF (nwF (pF (nwF (pF (F_pool Fb5) 0 2 5) 2 12) 0 3 12) 2 40) 0 4 13) 2 40) 0 5 14) 2 8) 0 6 15
def Fn0 : zF := nwF Fb6 1 0
def Fn1 : zF := nwF (pF (F_net 16 Fn0) 1 0 16) 1 0
def Fn2 : zF := nwF (pF (F_net 21 Fn1) 1 1 21) 1 0
def Fb9 : zF := pF (F_net 26 Fn2) 1 2 26
def Fm0 : zF := nwF Fb9 1 4
set_option maxRecDepth 20000 in
theorem zX1_init {G : tl_G} {M : zM} {J : zJ}  (hM0 : ∀ a : Nat, 2 ≤ a → ∀ k, M a k = 0) (hJ0 : ∀ a : Nat, 2 ≤ a → ∀ k, J a k = 0) : ZA G yX1_init mX1_init 1 2 16 kOrd [vR 2] Fb3 (F_ord Fb3) M J (qV (fun M' J' => J' = J ∧ M' 2 2 = 0 ∧ ∀ v : Int, 0 ≤ v → v < 8 → M' 3 v = v ∧ M' 4 v = v)) := by
  refine ZA_of (L := [_, _]) (by decide) rfl rfl (Nat.le_of_ble_eq_true rfl) rfl (fun hav => ?_)
  refine Z_aload_n (n := 1) dX1_init_0 rfl rfl ?_
  refine Z_objI (n := 4) dX1_init_1 rfl moX1_3 (by decide) (by decide) (Nat.le_of_ble_eq_true rfl) ?_
  refine Z_aload_n (n := 5) dX1_init_4 rfl rfl ?_
  refine Z_bipush (n := 7) dX1_init_5 rfl (by decide) (by decide) ?_
  refine Z_newI (N := 8) (z := 3) (n := 9) dX1_init_7 rfl rfl (by decide) rfl (fun k => hM0 _ (by decide) k) (fun k => hJ0 _ (by decide) k) (fun _ => rfl) (by decide) (by decide) ?_
  refine Z_putA (n := 12) dX1_init_9 rfl ffX1_9 (fun _ => rfl) rfl ?_
  refine Z_aload_n (n := 13) dX1_init_12 rfl rfl ?_
  refine Z_bipush (n := 15) dX1_init_13 rfl (by decide) (by decide) ?_
  refine Z_newI (N := 8) (z := 4) (n := 17) dX1_init_15 rfl rfl (by decide) rfl (fun k => hM0 _ (by decide) k) (fun k => hJ0 _ (by decide) k) (fun _ => rfl) (by decide) (by decide) ?_
  refine Z_putA (n := 20) dX1_init_17 rfl ffX1_15 (fun _ => rfl) rfl ?_
  refine Z_aload_n (n := 21) dX1_init_20 rfl rfl ?_
  refine Z_iconst (n := 22) dX1_init_21 rfl (by decide) ?_
  refine Z_putI (n := 25) (ki := 2) dX1_init_22 rfl ffX1_18 rfl (by decide) rfl rfl (by first | assumption | omega | decide) (by first | assumption | omega | decide) (by decide) ?_
  refine Z_iconst (n := 26) dX1_init_25 rfl (by decide) ?_
  refine Z_istore_n (L' := [_, _]) (n := 27) dX1_init_26 rfl (by decide) rfl rfl ?_
  have lp27 : ∀ (N27 : Nat) (v : Int) (M27 : zM) (J27 : zJ), ((8 - v).toNat) < N27 → (J27 = J) → (0 ≤ v) → (v ≤ 8) → (M27 2 2 = 0) → (∀ w : Int, 0 ≤ w → w < v → M27 3 w = w ∧ M27 4 w = w) → TZ G mX1_init (tl_rm 1 2 16) 2 16 kOrd M J 27 [some (vR 2), some (vI v)] [] (F_ord Fb3) M27 J27 (ZM G (zPost G kOrd (F_ord Fb3) M J (qV (fun M' J' => J' = J ∧ M' 2 2 = 0 ∧ ∀ v : Int, 0 ≤ v → v < 8 → M' 3 v = v ∧ M' 4 v = v))) 2 16) := by
    intro N27
    induction N27 with
    | zero => intro v M27 J27 hN; omega
    | succ N27 ih27 =>
      intro v M27 J27 hN27 i27_0 i27_1 i27_2 i27_3 i27_4
      refine Z_iload_n (n := 28) dX1_init_27 rfl rfl ?_
      refine Z_bipush (n := 30) dX1_init_28 rfl (by decide) (by decide) ?_
      refine Z_icmp_ge (n := 33) (t := 53) dX1_init_30 rfl (by decide) (fun c30 => ?_) (fun c30 => ?_)
      · refine Z_vret dX1_init_53 rfl ?_
        exact ⟨i27_0, i27_3, fun w a b => i27_4 w a (by omega)⟩
      · refine Z_aload_n (n := 34) dX1_init_33 rfl rfl ?_
        refine Z_getA (n := 37) dX1_init_34 rfl ffX1_9 rfl rfl ?_
        refine Z_iload_n (n := 38) dX1_init_37 rfl rfl ?_
        refine Z_iload_n (n := 39) dX1_init_38 rfl rfl ?_
        refine Z_iast (n := 40) dX1_init_39 rfl rfl rfl (by first | decide | assumption) (by omega) (by omega) (by first | assumption | omega | decide) (by first | assumption | omega | decide) (by decide) ?_
        refine Z_aload_n (n := 41) dX1_init_40 rfl rfl ?_
        refine Z_getA (n := 44) dX1_init_41 rfl ffX1_15 rfl rfl ?_
        refine Z_iload_n (n := 45) dX1_init_44 rfl rfl ?_
        refine Z_iload_n (n := 46) dX1_init_45 rfl rfl ?_
        refine Z_iast (n := 47) dX1_init_46 rfl rfl rfl (by first | decide | assumption) (by omega) (by omega) (by first | assumption | omega | decide) (by first | assumption | omega | decide) (by decide) ?_
        have nx : ∀ w : Int, 0 ≤ w → w < v + 1 → uz (uz M27 3 v v) 4 v v 3 w = w ∧ uz (uz M27 3 v v) 4 v v 4 w = w := fun w a b => by
          rw [uz_oo (show (3 : Nat) ≠ 4 by decide), uz_a, uz_a, uz_oo (show (4 : Nat) ≠ 3 by decide)]
          by_cases e : w = v
          · rw [if_pos e, if_pos e]; exact ⟨e.symm, e.symm⟩
          · rw [if_neg e, if_neg e]; exact i27_4 w a (by omega)
        refine Z_iinc (L' := [_, _]) (n := 50) dX1_init_47 rfl rfl (by decide) rfl rfl (by omega) rfl ?_
        refine Z_goto (t := 27) dX1_init_50 (by decide) ?_
        refine Z_loc (L' := [some _, some _]) (lsub_same (lsub_same lsub_nil)) ?_
        exact ih27 _ _ _ (by omega) (by first | rfl | assumption) (by first | assumption | omega | decide) (by first | assumption | omega | decide) (by first | exact uz_s | (rw [uz_oo (by decide), uz_oo (by decide)]; exact i27_3)) (by first | exact fun w a b => by omega | exact nx)
  refine Z_loc (L' := [some _, some _]) (lsub_same (lsub_same lsub_nil)) ?_
  exact lp27 _ _ _ _ (Nat.lt_succ_self _) (by first | rfl | assumption) (by first | assumption | omega | decide) (by first | assumption | omega | decide) (by first | exact uz_s | (rw [uz_oo (by decide), uz_oo (by decide)]; exact i27_3)) (by first | exact fun w a b => by omega | exact nx)
set_option maxRecDepth 20000 in
theorem zX0_init_16 {G : tl_G} {M : zM} {J : zJ}  (hM0 : ∀ a : Nat, 16 ≤ a → ∀ k, M a k = 0) (hJ0 : ∀ a : Nat, 16 ≤ a → ∀ k, J a k = 0) : ZA G yX0_init mX0_init 1 4 204 (kNw 16) [vR 16] Fn0 (F_net 16 Fn0) M J (qV (fun M' J' => J' = J ∧ M' 16 4 = 0 ∧ M' 16 5 = 0)) := by
  refine ZA_of (L := [_]) (by decide) rfl rfl (Nat.le_of_ble_eq_true rfl) rfl (fun hav => ?_)
  refine Z_aload_n (n := 1) dX0_init_0 rfl rfl ?_
  refine Z_objI (n := 4) dX0_init_1 rfl moX0_3 (by decide) (by decide) (Nat.le_of_ble_eq_true rfl) ?_
  refine Z_aload_n (n := 5) dX0_init_4 rfl rfl ?_
  refine Z_bipush (n := 7) dX0_init_5 rfl (by decide) (by decide) ?_
  refine Z_newI (N := 40) (z := 17) (n := 9) dX0_init_7 rfl rfl (by decide) rfl (fun k => hM0 _ (by decide) k) (fun k => hJ0 _ (by decide) k) (fun _ => rfl) (by decide) (by decide) ?_
  refine Z_putA (n := 12) dX0_init_9 rfl ffX0_9 (fun _ => rfl) rfl ?_
  refine Z_aload_n (n := 13) dX0_init_12 rfl rfl ?_
  refine Z_bipush (n := 15) dX0_init_13 rfl (by decide) (by decide) ?_
  refine Z_newI (N := 120) (z := 18) (n := 17) dX0_init_15 rfl rfl (by decide) rfl (fun k => hM0 _ (by decide) k) (fun k => hJ0 _ (by decide) k) (fun _ => rfl) (by decide) (by decide) ?_
  refine Z_putA (n := 20) dX0_init_17 rfl ffX0_15 (fun _ => rfl) rfl ?_
  refine Z_aload_n (n := 21) dX0_init_20 rfl rfl ?_
  refine Z_iconst (n := 22) dX0_init_21 rfl (by decide) ?_
  refine Z_newI (N := 4) (z := 19) (n := 24) dX0_init_22 rfl rfl (by decide) rfl (fun k => hM0 _ (by decide) k) (fun k => hJ0 _ (by decide) k) (fun _ => rfl) (by decide) (by decide) ?_
  refine Z_putA (n := 27) dX0_init_24 rfl ffX0_18 (fun _ => rfl) rfl ?_
  refine Z_aload_n (n := 28) dX0_init_27 rfl rfl ?_
  refine Z_bipush (n := 30) dX0_init_28 rfl (by decide) (by decide) ?_
  refine Z_newI (N := 40) (z := 20) (n := 32) dX0_init_30 rfl rfl (by decide) rfl (fun k => hM0 _ (by decide) k) (fun k => hJ0 _ (by decide) k) (fun _ => rfl) (by decide) (by decide) ?_
  refine Z_putA (n := 35) dX0_init_32 rfl ffX0_21 (fun _ => rfl) rfl ?_
  refine Z_aload_n (n := 36) dX0_init_35 rfl rfl ?_
  refine Z_iconst (n := 37) dX0_init_36 rfl (by decide) ?_
  refine Z_putI (n := 40) (ki := 4) dX0_init_37 rfl ffX0_24 rfl (by decide) rfl rfl (by first | assumption | omega | decide) (by first | assumption | omega | decide) (by decide) ?_
  refine Z_aload_n (n := 41) dX0_init_40 rfl rfl ?_
  refine Z_iconst (n := 42) dX0_init_41 rfl (by decide) ?_
  refine Z_putI (n := 45) (ki := 5) dX0_init_42 rfl ffX0_28 rfl (by decide) rfl rfl (by first | assumption | omega | decide) (by first | assumption | omega | decide) (by decide) ?_
  refine Z_vret dX0_init_45 rfl ?_
  exact ⟨rfl, by rw [uz_n (by decide), uz_s], uz_s⟩
set_option maxRecDepth 20000 in
theorem zX0_init_21 {G : tl_G} {M : zM} {J : zJ}  (hM0 : ∀ a : Nat, 21 ≤ a → ∀ k, M a k = 0) (hJ0 : ∀ a : Nat, 21 ≤ a → ∀ k, J a k = 0) : ZA G yX0_init mX0_init 1 4 204 (kNw 21) [vR 21] Fn1 (F_net 21 Fn1) M J (qV (fun M' J' => J' = J ∧ M' 21 4 = 0 ∧ M' 21 5 = 0)) := by
  refine ZA_of (L := [_]) (by decide) rfl rfl (Nat.le_of_ble_eq_true rfl) rfl (fun hav => ?_)
  refine Z_aload_n (n := 1) dX0_init_0 rfl rfl ?_
  refine Z_objI (n := 4) dX0_init_1 rfl moX0_3 (by decide) (by decide) (Nat.le_of_ble_eq_true rfl) ?_
  refine Z_aload_n (n := 5) dX0_init_4 rfl rfl ?_
  refine Z_bipush (n := 7) dX0_init_5 rfl (by decide) (by decide) ?_
  refine Z_newI (N := 40) (z := 22) (n := 9) dX0_init_7 rfl rfl (by decide) rfl (fun k => hM0 _ (by decide) k) (fun k => hJ0 _ (by decide) k) (fun _ => rfl) (by decide) (by decide) ?_
  refine Z_putA (n := 12) dX0_init_9 rfl ffX0_9 (fun _ => rfl) rfl ?_
  refine Z_aload_n (n := 13) dX0_init_12 rfl rfl ?_
  refine Z_bipush (n := 15) dX0_init_13 rfl (by decide) (by decide) ?_
  refine Z_newI (N := 120) (z := 23) (n := 17) dX0_init_15 rfl rfl (by decide) rfl (fun k => hM0 _ (by decide) k) (fun k => hJ0 _ (by decide) k) (fun _ => rfl) (by decide) (by decide) ?_
  refine Z_putA (n := 20) dX0_init_17 rfl ffX0_15 (fun _ => rfl) rfl ?_
  refine Z_aload_n (n := 21) dX0_init_20 rfl rfl ?_
  refine Z_iconst (n := 22) dX0_init_21 rfl (by decide) ?_
  refine Z_newI (N := 4) (z := 24) (n := 24) dX0_init_22 rfl rfl (by decide) rfl (fun k => hM0 _ (by decide) k) (fun k => hJ0 _ (by decide) k) (fun _ => rfl) (by decide) (by decide) ?_
  refine Z_putA (n := 27) dX0_init_24 rfl ffX0_18 (fun _ => rfl) rfl ?_
  refine Z_aload_n (n := 28) dX0_init_27 rfl rfl ?_
  refine Z_bipush (n := 30) dX0_init_28 rfl (by decide) (by decide) ?_
  refine Z_newI (N := 40) (z := 25) (n := 32) dX0_init_30 rfl rfl (by decide) rfl (fun k => hM0 _ (by decide) k) (fun k => hJ0 _ (by decide) k) (fun _ => rfl) (by decide) (by decide) ?_
  refine Z_putA (n := 35) dX0_init_32 rfl ffX0_21 (fun _ => rfl) rfl ?_
  refine Z_aload_n (n := 36) dX0_init_35 rfl rfl ?_
  refine Z_iconst (n := 37) dX0_init_36 rfl (by decide) ?_
  refine Z_putI (n := 40) (ki := 4) dX0_init_37 rfl ffX0_24 rfl (by decide) rfl rfl (by first | assumption | omega | decide) (by first | assumption | omega | decide) (by decide) ?_
  refine Z_aload_n (n := 41) dX0_init_40 rfl rfl ?_
  refine Z_iconst (n := 42) dX0_init_41 rfl (by decide) ?_
  refine Z_putI (n := 45) (ki := 5) dX0_init_42 rfl ffX0_28 rfl (by decide) rfl rfl (by first | assumption | omega | decide) (by first | assumption | omega | decide) (by decide) ?_
  refine Z_vret dX0_init_45 rfl ?_
  exact ⟨rfl, by rw [uz_n (by decide), uz_s], uz_s⟩
set_option maxRecDepth 20000 in
theorem zX0_init_26 {G : tl_G} {M : zM} {J : zJ}  (hM0 : ∀ a : Nat, 26 ≤ a → ∀ k, M a k = 0) (hJ0 : ∀ a : Nat, 26 ≤ a → ∀ k, J a k = 0) : ZA G yX0_init mX0_init 1 4 204 (kNw 26) [vR 26] Fn2 (F_net 26 Fn2) M J (qV (fun M' J' => J' = J ∧ M' 26 4 = 0 ∧ M' 26 5 = 0)) := by
  refine ZA_of (L := [_]) (by decide) rfl rfl (Nat.le_of_ble_eq_true rfl) rfl (fun hav => ?_)
  refine Z_aload_n (n := 1) dX0_init_0 rfl rfl ?_
  refine Z_objI (n := 4) dX0_init_1 rfl moX0_3 (by decide) (by decide) (Nat.le_of_ble_eq_true rfl) ?_
  refine Z_aload_n (n := 5) dX0_init_4 rfl rfl ?_
  refine Z_bipush (n := 7) dX0_init_5 rfl (by decide) (by decide) ?_
  refine Z_newI (N := 40) (z := 27) (n := 9) dX0_init_7 rfl rfl (by decide) rfl (fun k => hM0 _ (by decide) k) (fun k => hJ0 _ (by decide) k) (fun _ => rfl) (by decide) (by decide) ?_
  refine Z_putA (n := 12) dX0_init_9 rfl ffX0_9 (fun _ => rfl) rfl ?_
  refine Z_aload_n (n := 13) dX0_init_12 rfl rfl ?_
  refine Z_bipush (n := 15) dX0_init_13 rfl (by decide) (by decide) ?_
  refine Z_newI (N := 120) (z := 28) (n := 17) dX0_init_15 rfl rfl (by decide) rfl (fun k => hM0 _ (by decide) k) (fun k => hJ0 _ (by decide) k) (fun _ => rfl) (by decide) (by decide) ?_
  refine Z_putA (n := 20) dX0_init_17 rfl ffX0_15 (fun _ => rfl) rfl ?_
  refine Z_aload_n (n := 21) dX0_init_20 rfl rfl ?_
  refine Z_iconst (n := 22) dX0_init_21 rfl (by decide) ?_
  refine Z_newI (N := 4) (z := 29) (n := 24) dX0_init_22 rfl rfl (by decide) rfl (fun k => hM0 _ (by decide) k) (fun k => hJ0 _ (by decide) k) (fun _ => rfl) (by decide) (by decide) ?_
  refine Z_putA (n := 27) dX0_init_24 rfl ffX0_18 (fun _ => rfl) rfl ?_
  refine Z_aload_n (n := 28) dX0_init_27 rfl rfl ?_
  refine Z_bipush (n := 30) dX0_init_28 rfl (by decide) (by decide) ?_
  refine Z_newI (N := 40) (z := 30) (n := 32) dX0_init_30 rfl rfl (by decide) rfl (fun k => hM0 _ (by decide) k) (fun k => hJ0 _ (by decide) k) (fun _ => rfl) (by decide) (by decide) ?_
  refine Z_putA (n := 35) dX0_init_32 rfl ffX0_21 (fun _ => rfl) rfl ?_
  refine Z_aload_n (n := 36) dX0_init_35 rfl rfl ?_
  refine Z_iconst (n := 37) dX0_init_36 rfl (by decide) ?_
  refine Z_putI (n := 40) (ki := 4) dX0_init_37 rfl ffX0_24 rfl (by decide) rfl rfl (by first | assumption | omega | decide) (by first | assumption | omega | decide) (by decide) ?_
  refine Z_aload_n (n := 41) dX0_init_40 rfl rfl ?_
  refine Z_iconst (n := 42) dX0_init_41 rfl (by decide) ?_
  refine Z_putI (n := 45) (ki := 5) dX0_init_42 rfl ffX0_28 rfl (by decide) rfl rfl (by first | assumption | omega | decide) (by first | assumption | omega | decide) (by decide) ?_
  refine Z_vret dX0_init_45 rfl ?_
  exact ⟨rfl, by rw [uz_n (by decide), uz_s], uz_s⟩
end
section
/-! ===== the constructors of the class and of the reference ===== -/
/-- the class's fresh state -/
def cF (M : zM) : Prop := cI M ∧ frsh M ∧ M 5 8 = 250 ∧ noOut M ∧ (∀ j : Int, 0 ≤ j → j < 3 → M (nA j) 4 = 0) ∧ (∀ v : Int, 0 ≤ v → v < 8 → M 3 v = v ∧ M 4 v = v) ∧ M 0 8 = 0 ∧ M 0 9 = -9 ∧ M 0 10 = -9
theorem netOK_0 {M : zM} {b : Nat} (h4 : M b 4 = 0) (h5 : M b 5 = 0) : netOK M b := ⟨fun g g0 g1 => by omega, fun o o0 o1 => by omega⟩
theorem cF_mk {M N : zM} (hf : ∀ a : Nat, a ≠ 12 → a ≠ 13 → M a = N a) (h12 : ∀ h : Int, 0 ≤ h → h < 12 → M 12 h = -1) (h13 : ∀ h : Int, 0 ≤ h → h < 40 → M 13 h = -1) (hp : pI N) (h58 : N 5 8 = 250) (ho : ∀ v : Int, 0 ≤ v → v < 8 → N 3 v = v ∧ N 4 v = v) (h0 : N 0 7 = 0 ∧ N 0 8 = 0 ∧ N 0 9 = -9 ∧ N 0 10 = -9) (h16 : N 16 4 = 0 ∧ N 16 5 = 0) (h21 : N 21 4 = 0 ∧ N 21 5 = 0) (h26 : N 26 4 = 0 ∧ N 26 5 = 0) : cF M := by
  have e0 := hf 0 (by decide) (by decide)
  have e3 := hf 3 (by decide) (by decide)
  have e4 := hf 4 (by decide) (by decide)
  have e5 := hf 5 (by decide) (by decide)
  have e16 := hf 16 (by decide) (by decide)
  have e21 := hf 21 (by decide) (by decide)
  have e26 := hf 26 (by decide) (by decide)
  refine ⟨⟨pI_fr hp e5 (hf 6 (by decide) (by decide)) (hf 10 (by decide) (by decide)) (hf 11 (by decide) (by decide)), fun v v0 v1 => ?_, ?_, ?_, ?_⟩, ⟨h12, h13, ?_⟩, ?_, fun j j0 j1 => ?_, fun j j0 j1 => ?_, fun v v0 v1 => ?_, ?_, ?_, ?_⟩
  · rw [e4, (ho v v0 v1).2]; exact v0
  · exact netOK_0 (by rw [e16]; exact h16.1) (by rw [e16]; exact h16.2)
  · exact netOK_0 (by rw [e21]; exact h21.1) (by rw [e21]; exact h21.2)
  · exact netOK_0 (by rw [e26]; exact h26.1) (by rw [e26]; exact h26.2)
  · rw [e0]; exact h0.1
  · rw [e5]; exact h58
  · rcases (show j = 0 ∨ j = 1 ∨ j = 2 by omega) with rfl | rfl | rfl
    · exact (congrFun e16 5).trans h16.2
    · exact (congrFun e21 5).trans h21.2
    · exact (congrFun e26 5).trans h26.2
  · rcases (show j = 0 ∨ j = 1 ∨ j = 2 by omega) with rfl | rfl | rfl
    · exact (congrFun e16 4).trans h16.1
    · exact (congrFun e21 4).trans h21.1
    · exact (congrFun e26 4).trans h26.1
  · rw [e3, e4]; exact ho v v0 v1
  · rw [e0]; exact h0.2.1
  · rw [e0]; exact h0.2.2.1
  · rw [e0]; exact h0.2.2.2
def jw (J : zJ) : zJ := uz (uz (uz (uz (uz (uz (uz (uz J 54 0 0) 54 1 0) 54 2 (-4294967296)) 54 3 (-281470681808896)) 54 4 (-71777214294589696)) 54 5 (-1085102592571150096)) 54 6 (-3689348814741910324)) 54 7 (-6148914691236517206)
theorem jw_wh {J : zJ} : ∀ p : Int, 2 ≤ p → p ≤ 7 → jw J 54 p = whF p := by
  intro p h1 h2
  rcases (show p = 2 ∨ p = 3 ∨ p = 4 ∨ p = 5 ∨ p = 6 ∨ p = 7 by omega) with rfl | rfl | rfl | rfl | rfl | rfl <;> rfl
def mdl (M M' : zM) : Prop := (∀ a : Nat, a ≠ 31 → a ≠ 38 → a ≠ 39 → a ≠ 50 → a ≠ 51 → M' a = M a) ∧ ∀ j : Int, j ≠ 8 → M' 31 j = M 31 j
theorem mdl_st {M M' : zM} {a : Nat} {j v : Int} (h : mdl M M') (ha : a = 38 ∨ a = 39 ∨ a = 50 ∨ a = 51) : mdl M (uz M' a j v) := ⟨fun b h1 h2 h3 h4 h5 => by rw [uz_o (by omega)]; exact h.1 b h1 h2 h3 h4 h5, fun k hk => by rw [uz_oo (by omega)]; exact h.2 k hk⟩
def idO (M : zM) (k : Int) : Prop := ∀ w : Int, 0 ≤ w → w < k → M 38 w = w ∧ M 39 w = w
theorem idO_st {M : zM} {a : Nat} {j v k : Int} (h : idO M k) (h1 : (38 : Nat) ≠ a) (h2 : (39 : Nat) ≠ a) : idO (uz M a j v) k := fun w a b => by rw [uz_oo h1, uz_oo h2]; exact h w a b
end
section
/-! ===== chains and counts ===== -/
def updI (f : Int → Int) (k v : Int) : Int → Int := fun j => if j = k then v else f j
theorem updI_s {f : Int → Int} {k v : Int} : updI f k v k = v := by simp [updI]
theorem updI_n {f : Int → Int} {k v j : Int} (h : j ≠ k) : updI f k v j = f j := by simp [updI, h]
theorem uz_fn {M : zM} {a : Nat} {j v : Int} : uz M a j v a = updI (M a) j v := by
  funext k
  rw [uz_a]
  rfl
theorem chn_range {nx : Int → Int} : ∀ {l : List Int} {s : Int}, chn nx s l → ∀ n ∈ l, 0 ≤ n ∧ n < 520
  | [], _, _, n, hn => by cases hn
  | m :: r, s, h, n, hn => by
    rcases List.mem_cons.mp hn with rfl | hn
    · exact ⟨h.2.1, h.2.2.1⟩
    · exact chn_range h.2.2.2 n hn
theorem chn_congr {nx nx' : Int → Int} : ∀ {l : List Int} {s : Int}, (∀ n ∈ l, nx' n = nx n) → chn nx s l → chn nx' s l
  | [], _, _, h => h
  | m :: r, s, e, h => ⟨h.1, h.2.1, h.2.2.1, by
      rw [e m List.mem_cons_self]
      exact chn_congr (fun n hn => e n (List.mem_cons_of_mem _ hn)) h.2.2.2⟩
theorem chn_push {nx : Int → Int} {l : List Int} {s n : Int} (h : chn nx s l) (h0 : 0 ≤ n) (h1 : n < 520) (hn : n ∉ l) : chn (updI nx n s) n (n :: l) :=
  ⟨rfl, h0, h1, by
    rw [updI_s]
    exact chn_congr (fun m hm => updI_n (fun e => hn (e ▸ hm))) h⟩
theorem chn_del {nx : Int → Int} {k n : Int} {r : List Int} : ∀ {pre : List Int} {s : Int}, chn nx s (pre ++ k :: n :: r) → (pre ++ k :: n :: r).Nodup → chn (updI nx k (nx n)) s (pre ++ k :: r)
  | [], s, h, hd => by
    obtain ⟨h1, h2, h3, h4⟩ := h
    obtain ⟨h5, -, -, h6⟩ := h4
    have hk : k ∉ r := fun e => (List.nodup_cons.mp hd).1 (List.mem_cons_of_mem _ e)
    refine ⟨h1, h2, h3, ?_⟩
    rw [updI_s]
    exact chn_congr (fun m hm => updI_n (fun e => hk (e ▸ hm))) h6
  | m :: pre, s, h, hd => by
    obtain ⟨h1, h2, h3, h4⟩ := h
    have hd' := List.nodup_cons.mp hd
    have hmk : m ≠ k := fun e => hd'.1 (by rw [e]; exact List.mem_append_right _ List.mem_cons_self)
    refine ⟨h1, h2, h3, ?_⟩
    rw [updI_n hmk]
    exact chn_del h4 hd'.2
/-- the next of a chain's node is a node or none -/
theorem chn_next {nx : Int → Int} : ∀ {l : List Int} {s : Int}, chn nx s l → ∀ n ∈ l, nx n < 520
  | [], _, _, n, hn => by cases hn
  | m :: r, s, h, n, hn => by
    rcases List.mem_cons.mp hn with rfl | hn
    · cases r with
      | nil => have : nx n < 0 := h.2.2.2; omega
      | cons q r' => have q1 := h.2.2.2.1; have q2 := h.2.2.2.2.2.1; omega
    · exact chn_next h.2.2.2 n hn
theorem hr_lt {f : Int → Int} : ∀ {n : Nat}, hr f n < n → ∃ k : Int, 0 ≤ k ∧ k < n ∧ f k = 0
  | 0, h => by simp [hr] at h
  | n + 1, h => by
    by_cases e : f n = 0
    · exact ⟨n, by omega, by omega, e⟩
    · unfold hr at h
      rw [if_neg e] at h
      obtain ⟨k, a, b, c⟩ := hr_lt (n := n) (f := f) (by omega)
      exact ⟨k, a, by omega, c⟩
theorem hr_congr {f g : Int → Int} : ∀ {n : Nat}, (∀ k : Int, 0 ≤ k → k < n → (f k = 0 ↔ g k = 0)) → hr f n = hr g n
  | 0, _ => rfl
  | n + 1, h => by
    unfold hr
    rw [hr_congr (n := n) (fun k a b => h k a (by omega))]
    have := h n (by omega) (by omega)
    by_cases q : f n = 0
    · rw [if_pos q, if_pos (this.mp q)]
    · rw [if_neg q, if_neg (fun e => q (this.mpr e))]
theorem hr_inc {f g : Int → Int} {v : Int} : ∀ {n : Nat}, 0 ≤ v → v < n → f v = 0 → ¬ g v = 0 → (∀ k : Int, k ≠ v → (g k = 0 ↔ f k = 0)) → hr g n = hr f n + 1
  | 0, h0, h1, _, _, _ => by omega
  | n + 1, h0, h1, h2, h3, h4 => by
    unfold hr
    by_cases e : v = n
    · subst e
      rw [if_pos h2, if_neg h3, hr_congr (f := g) (g := f) (fun k _ b => h4 k (by omega))]
      omega
    · rw [hr_inc (n := n) h0 (by omega) h2 h3 h4]
      have := h4 n (by omega)
      by_cases q : f n = 0
      · rw [if_pos q, if_pos (this.mpr q)]; try omega
      · rw [if_neg q, if_neg (fun e => q (this.mp e))]; try omega
noncomputable def ind (p : Prop) : Int := @ite Int p (Classical.propDecidable p) 1 0
theorem ind_t {p : Prop} (h : p) : ind p = 1 := by unfold ind; exact if_pos h
theorem ind_f {p : Prop} (h : ¬ p) : ind p = 0 := by unfold ind; exact if_neg h
theorem ind_congr {p q : Prop} (h : p ↔ q) : ind p = ind q := by rw [propext h]
theorem ind_in (p : Prop) : 0 ≤ ind p ∧ ind p ≤ 1 := by
  by_cases h : p
  · rw [ind_t h]; decide
  · rw [ind_f h]; decide
/-- node n is among f's nodes, from lo on -/
def inS (M : zM) (f lo n : Int) : Prop := ∃ j : Int, lo ≤ j ∧ j < M 45 f ∧ M 46 (255 * f + j) = n
/-- how many functions hold n -/
noncomputable def cfn (M : zM) (lo : Int → Int) (n : Int) : Nat → Int
  | 0 => 0
  | f + 1 => cfn M lo n f + ind (¬ M 43 (f : Int) = 0 ∧ inS M f (lo f) n)
theorem cfn_in (M : zM) (lo : Int → Int) (n : Int) : ∀ N : Nat, 0 ≤ cfn M lo n N ∧ cfn M lo n N ≤ N
  | 0 => by simp [cfn]
  | N + 1 => by
    have h := cfn_in M lo n N
    have := ind_in (¬ M 43 (N : Int) = 0 ∧ inS M N (lo N) n)
    unfold cfn
    omega
theorem cfn_congr {M M' : zM} {lo lo' : Int → Int} {n : Int} : ∀ {N : Nat}, (∀ f : Int, 0 ≤ f → f < N → ((¬ M 43 f = 0 ∧ inS M f (lo f) n) ↔ (¬ M' 43 f = 0 ∧ inS M' f (lo' f) n))) → cfn M lo n N = cfn M' lo' n N
  | 0, _ => rfl
  | N + 1, h => by
    unfold cfn
    rw [cfn_congr (N := N) (fun f a b => h f a (by omega)), ind_congr (h N (by omega) (by omega))]
/-- one function more holds n -/
theorem cfn_inc {M M' : zM} {lo lo' : Int → Int} {n g : Int} : ∀ {N : Nat}, 0 ≤ g → g < N → ¬ (¬ M 43 g = 0 ∧ inS M g (lo g) n) → (¬ M' 43 g = 0 ∧ inS M' g (lo' g) n) → (∀ f : Int, 0 ≤ f → f < N → f ≠ g → ((¬ M 43 f = 0 ∧ inS M f (lo f) n) ↔ (¬ M' 43 f = 0 ∧ inS M' f (lo' f) n))) → cfn M' lo' n N = cfn M lo n N + 1
  | 0, h0, h1, _, _, _ => by omega
  | N + 1, h0, h1, h2, h3, h4 => by
    unfold cfn
    by_cases e : g = N
    · subst e
      rw [ind_f h2, ind_t h3, cfn_congr (M := M) (M' := M') (lo := lo) (lo' := lo') (fun f a b => h4 f a (by omega) (by omega))]
      omega
    · rw [cfn_inc (N := N) h0 (by omega) h2 h3 (fun f a b c => h4 f a (by omega) c), ind_congr (h4 N (by omega) (by omega) (fun q => e q.symm))]
      omega
end
section
/-! ===== the reference: unlink ===== -/
abbrev kUl (a : Nat) : Prop := ¬ a = 31 ∧ ¬ a = 50 ∧ ¬ a = 51 ∧ ¬ a = 53
def kyf (J : zJ) (n k : Int) : Int64 := J 48 (4 * n + k)
/-- behind unlink: n is out of its chain l and leads the free ones -/
def ulQ (M : zM) (n b : Int) (l : List Int) (M' : zM) : Prop := M' 31 23 = n ∧ (∀ j : Int, j ≠ 23 → M' 31 j = M 31 j) ∧ M' 50 n = M 31 23 ∧ (∀ m : Int, m ∉ l → m ≠ n → M' 50 m = M 50 m) ∧ (∀ c : Int, c ≠ b → M' 51 c = M 51 c) ∧ ∃ l' : List Int, chn (M' 50) (M' 51 b) l' ∧ l'.Nodup ∧ ∀ m, m ∈ l' ↔ m ∈ l ∧ m ≠ n
theorem ul_head {M : zM} {n b : Int} {r : List Int} (h : chn (M 50) n (n :: r)) (hd : (n :: r).Nodup) : ulQ M n b (n :: r) (uz (uz (uz M 51 b (M 50 n)) 50 n (M 31 23)) 31 23 n) := by
  have hn := (List.nodup_cons.mp hd).1
  refine ⟨uz_s, fun j hj => ?_, ?_, fun m hm hmn => ?_, fun c hc => ?_, r, ?_, (List.nodup_cons.mp hd).2, fun m => ?_⟩
  · rw [uz_n hj, uz_oo (by decide), uz_oo (by decide)]
  · rw [uz_oo (by decide), uz_s]
  · rw [uz_oo (by decide), uz_n hmn, uz_oo (by decide)]
  · rw [uz_oo (by decide), uz_oo (by decide), uz_n hc]
  · rw [show uz (uz (uz M 51 b (M 50 n)) 50 n (M 31 23)) 31 23 n 51 b = M 50 n by rw [uz_oo (by decide), uz_oo (by decide), uz_s]]
    refine chn_congr (fun m hm => ?_) h.2.2.2
    rw [uz_oo (by decide), uz_n (fun e => hn (by rw [← e]; exact hm)), uz_oo (by decide)]
  · constructor
    · intro hm
      exact ⟨List.mem_cons_of_mem _ hm, fun e => hn (by rw [← e]; exact hm)⟩
    · rintro ⟨hm, hne⟩
      rcases List.mem_cons.mp hm with e | e
      · exact absurd e hne
      · exact e
theorem ul_mid {M : zM} {n b k s : Int} {pre r : List Int} (h : chn (M 50) s (pre ++ k :: n :: r)) (hs : M 51 b = s) (hd : (pre ++ k :: n :: r).Nodup) : ulQ M n b (pre ++ k :: n :: r) (uz (uz (uz M 50 k (M 50 n)) 50 n (M 31 23)) 31 23 n) := by
  have hd2 := List.nodup_append.mp hd
  have hkn : n ≠ k := fun e => (List.nodup_cons.mp hd2.2.1).1 (by rw [← e]; exact List.mem_cons_self)
  have hnr : n ∉ r := (List.nodup_cons.mp (List.nodup_cons.mp hd2.2.1).2).1
  have hnp : n ∉ pre := fun e => hd2.2.2 n e n (List.mem_cons_of_mem _ List.mem_cons_self) rfl
  have hl' : n ∉ pre ++ k :: r := by
    intro e
    rcases List.mem_append.mp e with e | e
    · exact hnp e
    · rcases List.mem_cons.mp e with e | e
      · exact hkn e
      · exact hnr e
  refine ⟨uz_s, fun j hj => ?_, ?_, fun m hm hmn => ?_, fun c hc => ?_, pre ++ k :: r, ?_, ?_, fun m => ?_⟩
  · rw [uz_n hj, uz_oo (by decide), uz_oo (by decide)]
  · rw [uz_oo (by decide), uz_s]
  · rw [uz_oo (by decide), uz_n hmn, uz_n (fun e => hm (by rw [e]; exact List.mem_append_right _ List.mem_cons_self))]
  · rw [uz_oo (by decide), uz_oo (by decide), uz_oo (by decide)]
  · rw [show uz (uz (uz M 50 k (M 50 n)) 50 n (M 31 23)) 31 23 n 51 b = s by rw [uz_oo (by decide), uz_oo (by decide), uz_oo (by decide)]; exact hs]
    refine chn_congr (fun m hm => ?_) (chn_del h hd)
    rw [uz_oo (by decide), uz_n (fun e => hl' (by rw [← e]; exact hm)), uz_a]
    rfl
  · refine List.Nodup.sublist ?_ hd
    exact List.Sublist.append_left (List.Sublist.cons₂ _ (List.sublist_cons_self _ _)) _
  · constructor
    · intro hm
      refine ⟨?_, fun e => hl' (by rw [← e]; exact hm)⟩
      rcases List.mem_append.mp hm with e | e
      · exact List.mem_append_left _ e
      · rcases List.mem_cons.mp e with e | e
        · exact List.mem_append_right _ (by rw [e]; exact List.mem_cons_self)
        · exact List.mem_append_right _ (List.mem_cons_of_mem _ (List.mem_cons_of_mem _ e))
    · rintro ⟨hm, hne⟩
      rcases List.mem_append.mp hm with e | e
      · exact List.mem_append_left _ e
      · rcases List.mem_cons.mp e with e | e
        · exact List.mem_append_right _ (by rw [e]; exact List.mem_cons_self)
        · rcases List.mem_cons.mp e with e | e
          · exact absurd e hne
          · exact List.mem_append_right _ (List.mem_cons_of_mem _ e)
set_option maxRecDepth 20000 in
theorem zX4_unlink {G : tl_G} {M : zM} {J : zJ} {n : Int} {l : List Int} (n0 : 0 ≤ n) (n1 : n < 520) (hc : chn (M 50) (M 51 (bkt (M 47 n) (kyf J n))) l) (hd : l.Nodup) (hn : n ∈ l) : ZN G yX4_unlink mX4_unlink 1 kUl [vR 31, vI n] F1 M J (qV (fun M' J' => ulQ M n (bkt (M 47 n) (kyf J n)) l M')) := by
  refine ZN_of (L := [_, _, _, _]) (by decide) rfl rfl (Nat.le_of_ble_eq_true rfl) rfl (fun hav => ?_)
  refine Z_iconst (n := 1) dX4_unlink_0 rfl (by decide) ?_
  refine Z_istore_n (L' := [_, _, _, _]) (n := 2) dX4_unlink_1 rfl (by decide) rfl rfl ?_
  have lp2 : ∀ (N2 : Nat) (k : Int) (M2 : zM) (J2 : zJ), ((4 - k).toNat) < N2 → (M2 = M) → (0 ≤ k) → (k ≤ 4) → (∀ j : Int, 0 ≤ j → j < k → J2 53 j = kyf J n j) → TZ G mX4_unlink (tl_rm 1 0 0) 0 0 kUl M J 2 [some (vR 31), some (vI n), some (vI k), none] [] F1 M2 J2 (ZM G (zPost G kUl F1 M J (qV (fun M' J' => ulQ M n (bkt (M 47 n) (kyf J n)) l M'))) 0 0) := by
    intro N2
    induction N2 with
    | zero => intro k M2 J2 hN; omega
    | succ N2 ih2 =>
      intro k M2 J2 hN2 i2_0 i2_1 i2_2 i2_3
      refine Z_iload_n (n := 3) dX4_unlink_2 rfl rfl ?_
      refine Z_iconst (n := 4) dX4_unlink_3 rfl (by decide) ?_
      refine Z_icmp_ge (n := 7) (t := 29) dX4_unlink_4 rfl (by decide) (fun c4 => ?_) (fun c4 => ?_)
      · replace i2_0 := i2_0.symm; subst i2_0
        have hP : ∀ j : Int, 0 ≤ j → j < 4 → J2 53 j = kyf J n j := fun j a b => i2_3 j a (by omega)
        refine Z_aload_n (n := 30) dX4_unlink_29 rfl rfl ?_
        refine Z_aload_n (n := 31) dX4_unlink_30 rfl rfl ?_
        refine Z_getA (n := 34) dX4_unlink_31 rfl ffX4_57 rfl rfl ?_
        refine Z_iload_n (n := 35) dX4_unlink_34 rfl rfl ?_
        refine Z_iald (n := 36) dX4_unlink_35 rfl rfl rfl (by first | decide | assumption) (by omega) (by omega) (fun r35 s35 => ?_)
        refine Z_callVi (n := 39) [_] _ dX4_unlink_36 rfl cwX4_154 rfl rfl rfl (Nat.le_of_ble_eq_true rfl) (by refine ⟨?_, ?_, ?_, ?_⟩ <;> exact Nat.le_of_ble_eq_true rfl) (fun _ _ => trivial) (zX4_bucket  ) ?_
        intro x36 M36 J36 z36 f36 q36
        obtain ⟨e36_1, e36_2, h36⟩ := q36
        replace e36_1 := e36_1.symm; subst e36_1
        replace e36_2 := e36_2.symm; subst e36_2
        have hb := bkt_in (M 47 n) (J2 53)
        rw [← h36] at hb
        have hbe : x36 = bkt (M 47 n) (kyf J n) := h36.trans (bkt_congr hP)
        refine Z_istore_n (L' := [_, _, _, _]) (n := 40) dX4_unlink_39 rfl (by decide) rfl rfl ?_
        refine Z_aload_n (n := 41) dX4_unlink_40 rfl rfl ?_
        refine Z_getA (n := 44) dX4_unlink_41 rfl ffX4_69 rfl rfl ?_
        refine Z_iload_n (n := 45) dX4_unlink_44 rfl rfl ?_
        refine Z_iald (n := 46) dX4_unlink_45 rfl rfl rfl (by first | decide | assumption) (by omega) (by omega) (fun r45 s45 => ?_)
        refine Z_iload_n (n := 47) dX4_unlink_46 rfl rfl ?_
        refine Z_icmp_ne (n := 50) (t := 65) dX4_unlink_47 rfl (by decide) (fun c47 => ?_) (fun c47 => ?_)
        · obtain ⟨r0, hl0, hn0, hc0⟩ : ∃ r0, l = [] ++ M 51 x36 :: r0 ∧ n ∈ r0 ∧ chn (M 50) (M 51 x36) (M 51 x36 :: r0) := by
            rw [← hbe] at hc
            have hne : l ≠ [] := fun e => by rw [e] at hn; cases hn
            obtain ⟨m, r, rfl⟩ := List.exists_cons_of_ne_nil hne
            have e := hc.1
            refine ⟨r, by rw [e]; rfl, ?_, by rw [e] at hc ⊢; exact hc⟩
            rcases List.mem_cons.mp hn with q | q
            · exact absurd (e.trans q.symm) c47
            · exact q
          refine Z_aload_n (n := 66) dX4_unlink_65 rfl rfl ?_
          refine Z_getA (n := 69) dX4_unlink_66 rfl ffX4_69 rfl rfl ?_
          refine Z_iload_n (n := 70) dX4_unlink_69 rfl rfl ?_
          refine Z_iald (n := 71) dX4_unlink_70 rfl rfl rfl (by first | decide | assumption) (by omega) (by omega) (fun r70 s70 => ?_)
          refine Z_istore_n (L' := [_, _, _, _]) (n := 72) dX4_unlink_71 rfl (by decide) rfl rfl ?_
          have lp72 : ∀ (N72 : Nat) (k : Int) (pre r : List Int) , (r.length) < N72 → (l = pre ++ k :: r) → (n ∈ r) → (chn (M 50) k (k :: r)) → TZ G mX4_unlink (tl_rm 1 0 0) 0 0 kUl M J 72 [some (vR 31), some (vI n), some (vI x36), some (vI k)] [] F1 M J2 (ZM G (zPost G kUl F1 M J (qV (fun M' J' => ulQ M n (bkt (M 47 n) (kyf J n)) l M'))) 0 0) := by
            intro N72
            induction N72 with
            | zero => intro k pre r  hN; omega
            | succ N72 ih72 =>
              intro k pre r  hN72 i72_0 i72_1 i72_2
              
              refine Z_aload_n (n := 73) dX4_unlink_72 rfl rfl ?_
              obtain ⟨k0, k1⟩ := chn_range i72_2 k List.mem_cons_self
              obtain ⟨m, r1, hr⟩ := List.exists_cons_of_ne_nil (show r ≠ [] from fun e => by rw [e] at i72_1; cases i72_1)
              subst hr
              have hkm : M 50 k = m := i72_2.2.2.2.1
              refine Z_getA (n := 76) dX4_unlink_73 rfl ffX4_66 rfl rfl ?_
              refine Z_iload_n (n := 77) dX4_unlink_76 rfl rfl ?_
              refine Z_iald (n := 78) dX4_unlink_77 rfl rfl rfl (by first | decide | assumption) (by omega) (by omega) (fun r77 s77 => ?_)
              refine Z_iload_n (n := 79) dX4_unlink_78 rfl rfl ?_
              refine Z_icmp_eq (n := 82) (t := 92) dX4_unlink_79 rfl (by decide) (fun c79 => ?_) (fun c79 => ?_)
              · have hmn : m = n := hkm.symm.trans c79
                subst hmn
                subst i72_0
                have nr := chn_next i72_2 m (List.mem_cons_of_mem _ List.mem_cons_self)
                refine Z_aload_n (n := 93) dX4_unlink_92 rfl rfl ?_
                refine Z_getA (n := 96) dX4_unlink_93 rfl ffX4_66 rfl rfl ?_
                refine Z_iload_n (n := 97) dX4_unlink_96 rfl rfl ?_
                refine Z_aload_n (n := 98) dX4_unlink_97 rfl rfl ?_
                refine Z_getA (n := 101) dX4_unlink_98 rfl ffX4_66 rfl rfl ?_
                refine Z_iload_n (n := 102) dX4_unlink_101 rfl rfl ?_
                refine Z_iald (n := 103) dX4_unlink_102 rfl rfl rfl (by first | decide | assumption) (by omega) (by omega) (fun r102 s102 => ?_)
                refine Z_iast (n := 104) dX4_unlink_103 rfl rfl rfl (by first | decide | assumption) (by omega) (by omega) (by first | assumption | omega | decide) (by first | assumption | omega | decide) (by decide) ?_
                refine Z_aload_n (n := 105) dX4_unlink_104 rfl rfl ?_
                refine Z_getA (n := 108) dX4_unlink_105 rfl ffX4_66 rfl rfl ?_
                refine Z_iload_n (n := 109) dX4_unlink_108 rfl rfl ?_
                refine Z_aload_n (n := 110) dX4_unlink_109 rfl rfl ?_
                refine Z_getI (n := 113) (ki := 23) dX4_unlink_110 rfl ffX4_157 rfl rfl rfl (fun r110 s110 => ?_)
                try simp only [uz_oo (show (31 : Nat) ≠ 51 by decide), uz_oo (show (31 : Nat) ≠ 50 by decide)] at r110 s110 ⊢
                refine Z_iast (n := 114) dX4_unlink_113 rfl rfl rfl (by first | decide | assumption) (by omega) (by omega) (by first | assumption | omega | decide) (by first | assumption | omega | decide) (by decide) ?_
                refine Z_aload_n (n := 115) dX4_unlink_114 rfl rfl ?_
                refine Z_iload_n (n := 116) dX4_unlink_115 rfl rfl ?_
                refine Z_putI (n := 119) (ki := 23) dX4_unlink_116 rfl ffX4_157 rfl (by decide) rfl rfl (by first | assumption | omega | decide) (by first | assumption | omega | decide) (by decide) ?_
                refine Z_vret dX4_unlink_119 rfl ?_
                first
                  | (rw [← hbe]; exact ul_head hc hd)
                  | (rw [← hbe]; rw [← hbe] at hc; exact ul_mid hc rfl hd)
              · have hn1 : n ∈ r1 := by
                  rcases List.mem_cons.mp i72_1 with q | q
                  · exact absurd (hkm.trans q.symm) c79
                  · exact q
                refine Z_aload_n (n := 83) dX4_unlink_82 rfl rfl ?_
                refine Z_getA (n := 86) dX4_unlink_83 rfl ffX4_66 rfl rfl ?_
                refine Z_iload_n (n := 87) dX4_unlink_86 rfl rfl ?_
                refine Z_iald (n := 88) dX4_unlink_87 rfl rfl rfl (by first | decide | assumption) (by omega) (by omega) (fun r87 s87 => ?_)
                try simp only [hkm] at r87 s87 ⊢
                refine Z_istore_n (L' := [_, _, _, _]) (n := 89) dX4_unlink_88 rfl (by decide) rfl rfl ?_
                refine Z_goto (t := 72) dX4_unlink_89 (by decide) ?_
                refine Z_loc (L' := [some _, some _, some _, some _]) (lsub_same (lsub_same (lsub_same (lsub_same lsub_nil)))) ?_
                exact ih72 _ (pre ++ [k]) r1  (by simp only [List.length_cons] at *; omega) (by first | exact hl0 | (rw [List.append_assoc]; exact i72_0)) (by first | exact hn0 | exact hn1) (by first | exact hc0 | (have z := i72_2.2.2.2; rw [hkm] at z; exact z))
          refine Z_loc (L' := [some _, some _, some _, some _]) (lsub_same (lsub_same (lsub_same (lsub_same lsub_nil)))) ?_
          exact lp72 _ _ [] r0  (Nat.lt_succ_self _) (by first | exact hl0 | (rw [List.append_assoc]; exact i72_0)) (by first | exact hn0 | exact hn1) (by first | exact hc0 | (have z := i72_2.2.2.2; rw [hkm] at z; exact z))
        · have hl1 : ∃ r, l = n :: r := by
            rw [← hbe] at hc
            have hne : l ≠ [] := fun e => by rw [e] at hn; cases hn
            obtain ⟨m, r, rfl⟩ := List.exists_cons_of_ne_nil hne
            exact ⟨r, by rw [← hc.1, c47]⟩
          obtain ⟨r, hl1⟩ := hl1
          subst hl1
          rw [← hbe, c47] at hc
          have nr := chn_next hc n List.mem_cons_self
          refine Z_aload_n (n := 51) dX4_unlink_50 rfl rfl ?_
          refine Z_getA (n := 54) dX4_unlink_51 rfl ffX4_69 rfl rfl ?_
          refine Z_iload_n (n := 55) dX4_unlink_54 rfl rfl ?_
          refine Z_aload_n (n := 56) dX4_unlink_55 rfl rfl ?_
          refine Z_getA (n := 59) dX4_unlink_56 rfl ffX4_66 rfl rfl ?_
          refine Z_iload_n (n := 60) dX4_unlink_59 rfl rfl ?_
          refine Z_iald (n := 61) dX4_unlink_60 rfl rfl rfl (by first | decide | assumption) (by omega) (by omega) (fun r60 s60 => ?_)
          refine Z_iast (n := 62) dX4_unlink_61 rfl rfl rfl (by first | decide | assumption) (by omega) (by omega) (by first | assumption | omega | decide) (by first | assumption | omega | decide) (by decide) ?_
          refine Z_goto (t := 104) dX4_unlink_62 (by decide) ?_
          refine Z_aload_n (n := 105) dX4_unlink_104 rfl rfl ?_
          refine Z_getA (n := 108) dX4_unlink_105 rfl ffX4_66 rfl rfl ?_
          refine Z_iload_n (n := 109) dX4_unlink_108 rfl rfl ?_
          refine Z_aload_n (n := 110) dX4_unlink_109 rfl rfl ?_
          refine Z_getI (n := 113) (ki := 23) dX4_unlink_110 rfl ffX4_157 rfl rfl rfl (fun r110 s110 => ?_)
          try simp only [uz_oo (show (31 : Nat) ≠ 51 by decide), uz_oo (show (31 : Nat) ≠ 50 by decide)] at r110 s110 ⊢
          refine Z_iast (n := 114) dX4_unlink_113 rfl rfl rfl (by first | decide | assumption) (by omega) (by omega) (by first | assumption | omega | decide) (by first | assumption | omega | decide) (by decide) ?_
          refine Z_aload_n (n := 115) dX4_unlink_114 rfl rfl ?_
          refine Z_iload_n (n := 116) dX4_unlink_115 rfl rfl ?_
          refine Z_putI (n := 119) (ki := 23) dX4_unlink_116 rfl ffX4_157 rfl (by decide) rfl rfl (by first | assumption | omega | decide) (by first | assumption | omega | decide) (by decide) ?_
          refine Z_vret dX4_unlink_119 rfl ?_
          first
            | (rw [← hbe]; exact ul_head hc hd)
            | (rw [← hbe]; rw [← hbe] at hc; exact ul_mid hc rfl hd)
      · refine Z_fr (fun fr2 => ?_)
        refine Z_aload_n (n := 8) dX4_unlink_7 rfl rfl ?_
        refine Z_getA (n := 11) dX4_unlink_8 rfl ffX4_75 rfl rfl ?_
        refine Z_iload_n (n := 12) dX4_unlink_11 rfl rfl ?_
        refine Z_aload_n (n := 13) dX4_unlink_12 rfl rfl ?_
        refine Z_getA (n := 16) dX4_unlink_13 rfl ffX4_60 rfl rfl ?_
        refine Z_iconst (n := 17) dX4_unlink_16 rfl (by decide) ?_
        refine Z_iload_n (n := 18) dX4_unlink_17 rfl rfl ?_
        refine Z_imul (n := 19) dX4_unlink_18 rfl (by omega) ?_
        refine Z_iload_n (n := 20) dX4_unlink_19 rfl rfl ?_
        refine Z_iadd (n := 21) dX4_unlink_20 rfl (by omega) ?_
        refine Z_lald (n := 22) dX4_unlink_21 rfl rfl (by decide) (by omega) (by omega) ?_
        refine Z_last (n := 23) dX4_unlink_22 rfl rfl (by decide) (by omega) (by omega) (by decide) ?_
        have nx2 : ∀ j : Int, 0 ≤ j → j < k + 1 → uz J2 53 k (J2 48 (4 * n + k)) 53 j = kyf J n j := fun j a b => by
          rw [uz_a]
          split
          · rename_i e; subst e; rw [(fr2 48 (by decide)).2]; rfl
          · exact i2_3 j a (by omega)
        refine Z_iinc (L' := [_, _, _, _]) (n := 26) dX4_unlink_23 rfl rfl (by decide) rfl rfl (by omega) rfl ?_
        refine Z_goto (t := 2) dX4_unlink_26 (by decide) ?_
        refine Z_loc (L' := [some _, some _, some _, none]) (lsub_same (lsub_same (lsub_same (lsub_none lsub_nil)))) ?_
        exact ih2 _ _ _ (by omega) (by first | rfl | assumption) (by first | assumption | omega | decide) (by first | assumption | omega | decide) (by first | exact fun j j0 j1 => by omega | exact nx2)
  refine Z_loc (L' := [some _, some _, some _, none]) (lsub_same (lsub_same (lsub_same (lsub_none lsub_nil)))) ?_
  exact lp2 _ _ _ _ (Nat.lt_succ_self _) (by first | rfl | assumption) (by first | assumption | omega | decide) (by first | assumption | omega | decide) (by first | exact fun j j0 j1 => by omega | exact nx2)
end
section
/-! ===== the reference's table: its invariant, a node counted ===== -/
theorem kyf_of {M : zM} {J : zJ} {n d : Int} {P : Int → Int64} (h : mtc M J n d P) : ∀ k : Int, 0 ≤ k → k < 4 → kyf J n k = P k := by
  obtain ⟨-, h0, h1, h2, h3⟩ := h
  refine four ?_ ?_ ?_ ?_
  · unfold kyf; rw [Int.add_zero]; exact h0
  · exact h1
  · exact h2
  · exact h3
theorem mtc_bkt {M : zM} {J : zJ} {n d : Int} {P : Int → Int64} (h : mtc M J n d P) : bkt (M 47 n) (kyf J n) = bkt d P := by
  rw [h.1]
  exact bkt_congr (kyf_of h)
/-- chains, free ones, the count of nodes in use -/
def tabA (M : zM) (J : zJ) (ch : Int → List Int) (fl : List Int) : Prop :=
  (∀ b : Int, 0 ≤ b → b < 512 → chn (M 50) (M 51 b) (ch b) ∧ (ch b).Nodup ∧ ∀ n ∈ ch b, bkt (M 47 n) (kyf J n) = b ∧ ¬ M 49 n = 0) ∧
  (chn (M 50) (M 31 23) fl ∧ fl.Nodup ∧ ∀ n ∈ fl, M 49 n = 0) ∧
  (∀ n : Int, 0 ≤ n → n < 520 → (M 49 n = 0 → n ∈ fl) ∧ (¬ M 49 n = 0 → n ∈ ch (bkt (M 47 n) (kyf J n)))) ∧
  M 31 24 = hr (M 49) 520
/-- who holds what -/
def tabB (M : zM) (lo : Int → Int) : Prop :=
  (∀ n : Int, 0 ≤ n → n < 520 → M 49 n = cfn M lo n 56) ∧
  ∀ f : Int, 0 ≤ f → f < 56 → (∀ i j : Int, lo f ≤ i → i < j → j < M 45 f → M 46 (255 * f + i) ≠ M 46 (255 * f + j)) ∧ (M 43 f = 0 → M 45 f = 0)
/-- each laid part of f has its node among f's -/
def tabC (M : zM) (J : zJ) (f : Int) : Prop := (∀ d i : Int, 0 ≤ d → d ≤ 7 → 0 ≤ i → i < zshl 1 d → lyR (bitF J f) d i = true → ∃ n : Int, inS M f 0 n ∧ mtc M J n d (lyP (bitF J f) d i)) ∧ ∀ n : Int, inS M f 0 n → ∃ d i : Int, ((0 ≤ d ∧ d ≤ 7) ∧ 0 ≤ i ∧ i < zshl 1 d) ∧ lyR (bitF J f) d i = true ∧ mtc M J n d (lyP (bitF J f) d i)
/-- nodes in use have other labels -/
def tabU (M : zM) (J : zJ) : Prop := ∀ n m : Int, 0 ≤ n → n < 520 → 0 ≤ m → m < 520 → ¬ M 49 n = 0 → ¬ M 49 m = 0 → M 47 n = M 47 m → (∀ k : Int, 0 ≤ k → k < 4 → kyf J n k = kyf J m k) → n = m
theorem tabU_mv {M M' : zM} {J J' : zJ} (h : tabU M J) (e49 : ∀ n : Int, ¬ M' 49 n = 0 → ¬ M 49 n = 0) (e47 : M' 47 = M 47) (e48 : J' 48 = J 48) : tabU M' J' := fun n m n0 n1 m0 m1 hn hm e q => by
  rw [e47] at e
  refine h n m n0 n1 m0 m1 (e49 n hn) (e49 m hm) e (fun k a b => ?_)
  have z := q k a b
  unfold kyf at z ⊢
  rw [e48] at z
  exact z
def lo0 : Int → Int := fun _ => 0
/-- n is counted for f -/
def puM (M : zM) (f n : Int) : zM := uz (uz (uz (uz (uz M 52 n (M 31 27)) 31 24 (M 31 24 + (if M 49 n = 0 then 1 else 0))) 49 n (M 49 n + 1)) 46 (255 * f + M 45 f) n) 45 f (M 45 f + 1)
theorem puM_o {M : zM} {f n : Int} {a : Nat} (h : a = 43 ∨ a = 47 ∨ a = 50 ∨ a = 51) : puM M f n a = M a := by
  unfold puM
  rw [uz_o (by omega), uz_o (by omega), uz_o (by omega), uz_o (by omega), uz_o (by omega)]
theorem puM_23 {M : zM} {f n j : Int} (h : j ≠ 24) : puM M f n 31 j = M 31 j := by
  unfold puM
  rw [uz_oo (by decide), uz_oo (by decide), uz_oo (by decide), uz_n h, uz_oo (by decide)]
theorem puM_24 {M : zM} {f n : Int} : puM M f n 31 24 = M 31 24 + (if M 49 n = 0 then 1 else 0) := by
  unfold puM
  rw [uz_oo (by decide), uz_oo (by decide), uz_oo (by decide), uz_s]
theorem puM_49 {M : zM} {f n : Int} : puM M f n 49 = updI (M 49) n (M 49 n + 1) := by
  unfold puM
  rw [uz_o (by decide), uz_o (by decide), uz_fn, uz_o (by decide), uz_o (by decide)]
theorem puM_52 {M : zM} {f n : Int} : puM M f n 52 = updI (M 52) n (M 31 27) := by
  unfold puM
  rw [uz_o (by decide), uz_o (by decide), uz_o (by decide), uz_o (by decide), uz_fn]
theorem puM_45 {M : zM} {f n : Int} : puM M f n 45 = updI (M 45) f (M 45 f + 1) := by
  unfold puM
  rw [uz_fn, uz_o (by decide), uz_o (by decide), uz_o (by decide), uz_o (by decide)]
theorem puM_46 {M : zM} {f n : Int} : puM M f n 46 = updI (M 46) (255 * f + M 45 f) n := by
  unfold puM
  rw [uz_o (by decide), uz_fn, uz_o (by decide), uz_o (by decide), uz_o (by decide)]
/-- the nodes of g behind it -/
theorem puM_inS {M : zM} {f n g lo m : Int} (hf : 0 ≤ f) (hg : 0 ≤ g) (hM : ∀ g : Int, 0 ≤ M 45 g ∧ M 45 g ≤ 255) (hn : M 45 f < 255) (hlo : 0 ≤ lo) (hle : lo ≤ M 45 f) : inS (puM M f n) g lo m ↔ (inS M g lo m ∨ (g = f ∧ m = n)) := by
  unfold inS
  rw [puM_45, puM_46]
  constructor
  · rintro ⟨j, h1, h2, h3⟩
    by_cases e : g = f
    · subst e
      rw [updI_s] at h2
      by_cases e2 : j = M 45 g
      · subst e2
        rw [updI_s] at h3
        exact Or.inr ⟨rfl, h3.symm⟩
      · rw [updI_n (by omega)] at h3
        exact Or.inl ⟨j, h1, by omega, h3⟩
    · rw [updI_n e] at h2
      have := hM g
      rw [updI_n (by omega)] at h3
      exact Or.inl ⟨j, h1, h2, h3⟩
  · rintro (⟨j, h1, h2, h3⟩ | ⟨rfl, rfl⟩)
    · by_cases e : g = f
      · subst e
        exact ⟨j, h1, by rw [updI_s]; omega, by rw [updI_n (by omega)]; exact h3⟩
      · have := hM g
        exact ⟨j, h1, by rw [updI_n e]; exact h2, by rw [updI_n (by omega)]; exact h3⟩
    · exact ⟨M 45 g, hle, by rw [updI_s]; omega, by rw [updI_s]⟩
/-- tabA where the node was there -/
theorem tabA_old {M : zM} {J : zJ} {ch : Int → List Int} {fl : List Int} {f n : Int} (h : tabA M J ch fl) (hok : zOK M) (hn : ¬ M 49 n = 0) : tabA (puM M f n) J ch fl := by
  obtain ⟨h1, ⟨h2, h3, h4⟩, h5, h6⟩ := h
  have hp : 0 ≤ M 49 n := (hok 49 n).1
  have hz : ∀ m : Int, (puM M f n 49 m = 0 ↔ M 49 m = 0) := by
    intro m
    rw [puM_49]
    by_cases e : m = n
    · subst e; rw [updI_s]; omega
    · rw [updI_n e]
  have e50 : puM M f n 50 = M 50 := puM_o (by decide)
  have e51 : puM M f n 51 = M 51 := puM_o (by decide)
  have e47 : puM M f n 47 = M 47 := puM_o (by decide)
  unfold tabA
  rw [e50, e51, e47, puM_23 (by decide), puM_24, if_neg hn]
  refine ⟨fun b b0 b1 => ?_, ⟨h2, h3, fun m hm => (hz m).mpr (h4 m hm)⟩, fun m m0 m1 => ?_, ?_⟩
  · obtain ⟨q1, q2, q3⟩ := h1 b b0 b1
    exact ⟨q1, q2, fun m hm => ⟨(q3 m hm).1, fun e => (q3 m hm).2 ((hz m).mp e)⟩⟩
  · obtain ⟨q1, q2⟩ := h5 m m0 m1
    exact ⟨fun e => q1 ((hz m).mp e), fun e => q2 (fun e2 => e ((hz m).mpr e2))⟩
  · rw [hr_congr (f := puM M f n 49) (g := M 49) (fun k _ _ => hz k), ← h6]
    omega
/-- who holds what, behind it -/
theorem tabB_pu {M : zM} {f n : Int} (h : tabB M lo0) (hM : ∀ g : Int, 0 ≤ M 45 g ∧ M 45 g ≤ 255) (f0 : 0 ≤ f) (f1 : f < 56) (n0 : 0 ≤ n) (n1 : n < 520) (hf : ¬ M 43 f = 0) (hnm : M 45 f < 255) (hno : ¬ inS M f 0 n) : tabB (puM M f n) lo0 := by
  obtain ⟨h1, h2⟩ := h
  have e43 : puM M f n 43 = M 43 := puM_o (by decide)
  refine ⟨fun m m0 m1 => ?_, fun g g0 g1 => ⟨fun i j hi hij hj => ?_, fun e => ?_⟩⟩
  · rw [puM_49]
    by_cases e : m = n
    · subst e
      rw [updI_s, h1 m m0 m1]
      refine (cfn_inc (M := M) (M' := puM M f m) (lo := lo0) (lo' := lo0) (g := f) f0 (by omega) (fun q => hno q.2) ⟨by rw [e43]; exact hf, (puM_inS f0 f0 hM hnm (by decide) (hM f).1).mpr (Or.inr ⟨rfl, rfl⟩)⟩ (fun g g0 _ hg => ?_)).symm
      rw [e43]
      exact and_congr Iff.rfl ((puM_inS f0 g0 hM hnm (by decide) (hM f).1).trans ⟨fun q => q.resolve_right (fun q2 => hg q2.1), Or.inl⟩).symm
    · rw [updI_n e, h1 m m0 m1]
      refine cfn_congr (fun g g0 _ => ?_)
      rw [e43]
      exact and_congr Iff.rfl ((puM_inS f0 g0 hM hnm (by decide) (hM f).1).trans ⟨fun q => q.resolve_right (fun q2 => e q2.2), Or.inl⟩).symm
  · rw [puM_46]
    rw [puM_45] at hj
    have hi0 : 0 ≤ i := hi
    have hg := hM g
    have hff := hM f
    by_cases e : g = f
    · subst e
      rw [updI_s] at hj
      rw [updI_n (show 255 * g + i ≠ 255 * g + M 45 g by omega)]
      by_cases e2 : j = M 45 g
      · subst e2
        rw [updI_s]
        exact fun q => hno ⟨i, hi0, by omega, q⟩
      · rw [updI_n (by omega)]
        exact (h2 g g0 g1).1 i j hi hij (by omega)
    · rw [updI_n e] at hj
      rw [updI_n (show 255 * g + i ≠ 255 * f + M 45 f by omega), updI_n (show 255 * g + j ≠ 255 * f + M 45 f by omega)]
      exact (h2 g g0 g1).1 i j hi hij hj
  · rw [e43] at e
    rw [puM_45]
    by_cases q : g = f
    · subst q; exact absurd e hf
    · rw [updI_n q]; exact (h2 g g0 g1).2 e
/-- tabA where the node is new: M0 ahead of nodeFor -/
theorem nfM_50 {M : zM} {d b : Int} : nfM M d b 50 = updI (M 50) (M 31 23) (M 51 b) := by
  unfold nfM
  rw [uz_o (by decide), uz_fn, uz_o (by decide), uz_o (by decide), uz_o (by decide)]
theorem nfM_51 {M : zM} {d b : Int} : nfM M d b 51 = updI (M 51) b (M 31 23) := by
  unfold nfM
  rw [uz_fn, uz_o (by decide), uz_o (by decide), uz_o (by decide), uz_o (by decide)]
theorem nfM_47 {M : zM} {d b : Int} : nfM M d b 47 = updI (M 47) (M 31 23) d := by
  unfold nfM
  rw [uz_o (by decide), uz_o (by decide), uz_o (by decide), uz_fn, uz_o (by decide)]
theorem nfM_49 {M : zM} {d b : Int} : nfM M d b 49 = updI (M 49) (M 31 23) 0 := by
  unfold nfM
  rw [uz_o (by decide), uz_o (by decide), uz_fn, uz_o (by decide), uz_o (by decide)]
theorem nfM_23 {M : zM} {d b : Int} : nfM M d b 31 23 = M 50 (M 31 23) := by
  unfold nfM
  rw [uz_oo (by decide), uz_oo (by decide), uz_oo (by decide), uz_oo (by decide), uz_s]
theorem nfM_31 {M : zM} {d b j : Int} (h : j ≠ 23) : nfM M d b 31 j = M 31 j := by
  unfold nfM
  rw [uz_oo (by decide), uz_oo (by decide), uz_oo (by decide), uz_oo (by decide), uz_n h]
theorem tabA_new {M : zM} {J0 J : zJ} {ch : Int → List Int} {fl : List Int} {f d n b : Int} (h : tabA M J0 ch fl) (hn : n = M 31 23) (n0 : 0 ≤ n) (hb : b = bkt d (J0 53)) (hJ1 : ∀ k : Int, 0 ≤ k → k < 4 → J 48 (4 * n + k) = J0 53 k) (hJ2 : ∀ j : Int, (j < 4 * n ∨ 4 * n + 4 ≤ j) → J 48 j = J0 48 j) : ∃ (ch' : Int → List Int) (fl' : List Int), tabA (puM (nfM M d b) f n) J ch' fl' := by
  obtain ⟨h1, ⟨h2, h3, h4⟩, h5, h6⟩ := h
  rw [← hn] at h2
  obtain ⟨fl', hfl, -, n1, h7⟩ := chn_cons h2 (by omega)
  subst hfl
  have hz := h4 n List.mem_cons_self
  have hb0 := bkt_in d (J0 53)
  rw [← hb] at hb0
  have hnf : n ∉ fl' := (List.nodup_cons.mp h3).1
  have hnc : ∀ c : Int, 0 ≤ c → c < 512 → n ∉ ch c := fun c c0 c1 q => ((h1 c c0 c1).2.2 n q).2 hz
  have e50 : puM (nfM M d b) f n 50 = updI (M 50) n (M 51 b) := by rw [puM_o (by decide), nfM_50, ← hn]
  have e51 : puM (nfM M d b) f n 51 = updI (M 51) b n := by rw [puM_o (by decide), nfM_51, ← hn]
  have e47 : puM (nfM M d b) f n 47 = updI (M 47) n d := by rw [puM_o (by decide), nfM_47, ← hn]
  have z49 : nfM M d b 49 n = 0 := by rw [nfM_49, ← hn, updI_s]
  have e49 : ∀ m : Int, puM (nfM M d b) f n 49 m = if m = n then 1 else M 49 m := by
    intro m
    rw [puM_49, z49]
    by_cases e : m = n
    · rw [e, updI_s, if_pos rfl]; rfl
    · rw [updI_n e, if_neg e, nfM_49, ← hn, updI_n e]
  have eky : ∀ m : Int, 0 ≤ m → m ≠ n → ∀ k : Int, 0 ≤ k → k < 4 → kyf J m k = kyf J0 m k := fun m m0 hm k k0 k1 => by
    unfold kyf
    exact hJ2 _ (by omega)
  have ebk : ∀ m : Int, 0 ≤ m → m ≠ n → bkt (puM (nfM M d b) f n 47 m) (kyf J m) = bkt (M 47 m) (kyf J0 m) := fun m m0 hm => by
    rw [e47, updI_n hm]
    exact bkt_congr (eky m m0 hm)
  have ebn : bkt (puM (nfM M d b) f n 47 n) (kyf J n) = b := by
    rw [e47, updI_s, hb]
    exact bkt_congr (fun k k0 k1 => hJ1 k k0 k1)
  refine ⟨fun c => if c = b then n :: ch b else ch c, fl', fun c c0 c1 => ?_, ⟨?_, (List.nodup_cons.mp h3).2, fun m hm => ?_⟩, fun m m0 m1 => ⟨fun e => ?_, fun e => ?_⟩, ?_⟩
  · dsimp only
    rw [e50, e51]
    obtain ⟨q1, q2, q3⟩ := h1 c c0 c1
    by_cases e : c = b
    · subst e
      rw [if_pos rfl, updI_s]
      refine ⟨chn_push q1 n0 n1 (hnc c c0 c1), List.nodup_cons.mpr ⟨hnc c c0 c1, q2⟩, fun m hm => ?_⟩
      rcases List.mem_cons.mp hm with q | q
      · subst q
        exact ⟨ebn, by rw [e49, if_pos rfl]; decide⟩
      · have hmn : m ≠ n := fun z => hnc c c0 c1 (by rw [← z]; exact q)
        exact ⟨by rw [ebk m (chn_range q1 m q).1 hmn]; exact (q3 m q).1, by rw [e49, if_neg hmn]; exact (q3 m q).2⟩
    · rw [if_neg e, updI_n e]
      refine ⟨chn_congr (fun m hm => updI_n (fun z => hnc c c0 c1 (by rw [← z]; exact hm))) q1, q2, fun m hm => ?_⟩
      have hmn : m ≠ n := fun z => hnc c c0 c1 (by rw [← z]; exact hm)
      exact ⟨by rw [ebk m (chn_range q1 m hm).1 hmn]; exact (q3 m hm).1, by rw [e49, if_neg hmn]; exact (q3 m hm).2⟩
  · rw [e50, puM_23 (by decide), nfM_23, ← hn]
    exact chn_congr (fun m hm => updI_n (fun z => hnf (by rw [← z]; exact hm))) h7
  · have hmn : m ≠ n := fun z => hnf (by rw [← z]; exact hm)
    rw [e49, if_neg hmn]
    exact h4 m (List.mem_cons_of_mem _ hm)
  · rw [e49] at e
    by_cases q : m = n
    · rw [if_pos q] at e; cases e
    · rw [if_neg q] at e
      rcases List.mem_cons.mp ((h5 m m0 m1).1 e) with z | z
      · exact absurd z q
      · exact z
  · dsimp only
    by_cases q : m = n
    · subst q
      rw [ebn, if_pos rfl]
      exact List.mem_cons_self
    · rw [ebk m m0 q]
      rw [e49, if_neg q] at e
      have z := (h5 m m0 m1).2 e
      by_cases w : bkt (M 47 m) (kyf J0 m) = b
      · rw [if_pos w]
        rw [w] at z
        exact List.mem_cons_of_mem _ z
      · rw [if_neg w]; exact z
  · rw [puM_24, if_pos z49, nfM_31 (by decide), h6]
    refine (hr_inc (f := M 49) (g := puM (nfM M d b) f n 49) (v := n) n0 (by omega) hz (by rw [e49, if_pos rfl]; decide) (fun k hk => ?_)).symm
    rw [e49, if_neg hk]
end
section
/-! ===== the reference's table: a node let go ===== -/
theorem tabB_rm {M M' : zM} {lo : Int → Int} {f k n : Int} (h : tabB M lo) (hM : ∀ g : Int, 0 ≤ M 45 g ∧ M 45 g ≤ 255) (f0 : 0 ≤ f) (f1 : f < 56) (hk : lo f = k) (k1 : k < M 45 f) (hn : M 46 (255 * f + k) = n) (hf : ¬ M 43 f = 0) (e43 : M' 43 = M 43) (e45 : M' 45 = M 45) (e46 : M' 46 = M 46) (e49 : M' 49 = updI (M 49) n (M 49 n - 1)) : tabB M' (updI lo f (k + 1)) := by
  obtain ⟨h1, h2⟩ := h
  have hinS : ∀ g l m : Int, inS M' g l m ↔ inS M g l m := fun g l m => by unfold inS; rw [e45, e46]
  have hcut : ∀ m : Int, inS M f (k + 1) m ↔ (inS M f k m ∧ m ≠ n) := by
    intro m
    constructor
    · rintro ⟨j, a, b, c⟩
      exact ⟨⟨j, by omega, b, c⟩, fun e => (h2 f f0 f1).1 k j (by omega) (by omega) b (by rw [hn, c, e])⟩
    · rintro ⟨⟨j, a, b, c⟩, q⟩
      by_cases e : j = k
      · subst e; exact absurd (c.symm.trans hn) q
      · exact ⟨j, by omega, b, c⟩
  refine ⟨fun m m0 m1 => ?_, fun g g0 g1 => ⟨fun i j hi hij hj => ?_, fun e => ?_⟩⟩
  · rw [e49]
    by_cases e : m = n
    · subst e
      rw [updI_s, h1 m m0 m1]
      have q := cfn_inc (M := M') (M' := M) (lo := updI lo f (k + 1)) (lo' := lo) (n := m) (g := f) (N := 56) f0 (by omega) (fun z => by
        have z2 := z.2
        rw [updI_s, hinS, hcut] at z2
        exact z2.2 rfl) ⟨hf, by rw [hk]; exact ⟨k, by omega, k1, hn⟩⟩ (fun g g0 g1 hg => by rw [e43, updI_n hg, hinS])
      omega
    · rw [updI_n e, h1 m m0 m1]
      refine cfn_congr (fun g g0 g1 => ?_)
      rw [e43, hinS]
      by_cases q : g = f
      · subst q
        rw [updI_s, hcut, hk]
        exact ⟨fun z => ⟨z.1, z.2, e⟩, fun z => ⟨z.1, z.2.1⟩⟩
      · rw [updI_n q]
  · rw [e45] at hj
    rw [e46]
    refine (h2 g g0 g1).1 i j ?_ hij hj
    by_cases q : g = f
    · subst q; rw [updI_s] at hi; omega
    · rw [updI_n q] at hi; exact hi
  · rw [e43] at e; rw [e45]; exact (h2 g g0 g1).2 e
/-- it is held still -/
theorem tabA_rm {M M' : zM} {J : zJ} {ch : Int → List Int} {fl : List Int} {n : Int} (h : tabA M J ch fl) (hn : ¬ M 49 n = 0) (hn1 : ¬ M 49 n - 1 = 0) (e50 : M' 50 = M 50) (e51 : M' 51 = M 51) (e47 : M' 47 = M 47) (e23 : M' 31 23 = M 31 23) (e24 : M' 31 24 = M 31 24) (e49 : M' 49 = updI (M 49) n (M 49 n - 1)) : tabA M' J ch fl := by
  obtain ⟨h1, ⟨h2, h3, h4⟩, h5, h6⟩ := h
  have hz : ∀ m : Int, (M' 49 m = 0 ↔ M 49 m = 0) := by
    intro m
    rw [e49]
    by_cases e : m = n
    · subst e; rw [updI_s]; omega
    · rw [updI_n e]
  unfold tabA
  rw [e50, e51, e47, e23, e24]
  refine ⟨fun b b0 b1 => ?_, ⟨h2, h3, fun m hm => (hz m).mpr (h4 m hm)⟩, fun m m0 m1 => ?_, ?_⟩
  · obtain ⟨q1, q2, q3⟩ := h1 b b0 b1
    exact ⟨q1, q2, fun m hm => ⟨(q3 m hm).1, fun e => (q3 m hm).2 ((hz m).mp e)⟩⟩
  · obtain ⟨q1, q2⟩ := h5 m m0 m1
    exact ⟨fun e => q1 ((hz m).mp e), fun e => q2 (fun e2 => e ((hz m).mpr e2))⟩
  · rw [hr_congr (f := M' 49) (g := M 49) (fun k _ _ => hz k)]
    exact h6
/-- nobody holds it any more: it goes to the free ones. M: ahead; M1: its count 0, one node less in use; M': behind unlink -/
theorem tabA_ul {M M1 M' : zM} {J : zJ} {ch : Int → List Int} {fl : List Int} {n : Int} (h : tabA M J ch fl) (n0 : 0 ≤ n) (n1 : n < 520) (hn : ¬ M 49 n = 0) (a50 : M1 50 = M 50) (a51 : M1 51 = M 51) (a23 : M1 31 23 = M 31 23) (a24 : M1 31 24 = M 31 24 - 1) (hu : ulQ M1 n (bkt (M 47 n) (kyf J n)) (ch (bkt (M 47 n) (kyf J n))) M') (e47 : M' 47 = M 47) (e49 : M' 49 = updI (M 49) n 0) : ∃ (ch' : Int → List Int) (fl' : List Int), tabA M' J ch' fl' := by
  obtain ⟨h1, ⟨h2, h3, h4⟩, h5, h6⟩ := h
  obtain ⟨u1, u2, u3, u4, u5, l', u6, u7, u8⟩ := hu
  have hb := bkt_in (M 47 n) (kyf J n)
  have hnl : n ∈ ch (bkt (M 47 n) (kyf J n)) := (h5 n n0 n1).2 hn
  have hnf : n ∉ fl := fun q => hn (h4 n q)
  have hout : ∀ c : Int, 0 ≤ c → c < 512 → c ≠ bkt (M 47 n) (kyf J n) → ∀ m ∈ ch c, m ∉ ch (bkt (M 47 n) (kyf J n)) ∧ m ≠ n := by
    intro c c0 c1 hc m hm
    have q := ((h1 c c0 c1).2.2 m hm).1
    refine ⟨fun z => hc ?_, fun z => hc ?_⟩
    · rw [← q]; exact ((h1 _ hb.1 hb.2).2.2 m z).1
    · rw [← q, z]
  have hflo : ∀ m ∈ fl, m ∉ ch (bkt (M 47 n) (kyf J n)) ∧ m ≠ n := by
    intro m hm
    exact ⟨fun z => ((h1 _ hb.1 hb.2).2.2 m z).2 (h4 m hm), fun z => hnf (by rw [← z]; exact hm)⟩
  refine ⟨fun c => if c = bkt (M 47 n) (kyf J n) then l' else ch c, n :: fl, fun c c0 c1 => ?_, ⟨?_, List.nodup_cons.mpr ⟨hnf, h3⟩, fun m hm => ?_⟩, fun m m0 m1 => ⟨fun e => ?_, fun e => ?_⟩, ?_⟩
  · dsimp only
    rw [e47]
    by_cases e : c = bkt (M 47 n) (kyf J n)
    · rw [if_pos e, e]
      refine ⟨u6, u7, fun m hm => ?_⟩
      have q := (u8 m).mp hm
      have z := (h1 _ hb.1 hb.2).2.2 m q.1
      exact ⟨z.1, by rw [e49, updI_n q.2]; exact z.2⟩
    · rw [if_neg e, u5 c e, a51]
      obtain ⟨q1, q2, q3⟩ := h1 c c0 c1
      refine ⟨chn_congr (fun m hm => ?_) q1, q2, fun m hm => ⟨(q3 m hm).1, ?_⟩⟩
      · rw [u4 m (hout c c0 c1 e m hm).1 (hout c c0 c1 e m hm).2, a50]
      · rw [e49, updI_n (hout c c0 c1 e m hm).2]; exact (q3 m hm).2
  · refine ⟨u1, n0, n1, ?_⟩
    rw [u3, a23]
    refine chn_congr (fun m hm => ?_) h2
    rw [u4 m (hflo m hm).1 (hflo m hm).2, a50]
  · rw [e49]
    rcases List.mem_cons.mp hm with q | q
    · rw [q, updI_s]
    · rw [updI_n (hflo m q).2]; exact h4 m q
  · rw [e49] at e
    by_cases q : m = n
    · rw [q]; exact List.mem_cons_self
    · rw [updI_n q] at e
      exact List.mem_cons_of_mem _ ((h5 m m0 m1).1 e)
  · dsimp only
    rw [e47]
    rw [e49] at e
    by_cases q : m = n
    · rw [q, updI_s] at e; exact absurd rfl e
    · rw [updI_n q] at e
      have z := (h5 m m0 m1).2 e
      by_cases w : bkt (M 47 m) (kyf J m) = bkt (M 47 n) (kyf J n)
      · rw [if_pos w]
        rw [w] at z
        exact (u8 m).mpr ⟨z, q⟩
      · rw [if_neg w]; exact z
  · rw [u2 24 (by decide), a24, h6]
    have q := hr_inc (f := M' 49) (g := M 49) (v := n) (n := 520) n0 (by omega) (by rw [e49, updI_s]) hn (fun k hk => by rw [e49, updI_n hk])
    omega
end
section
/-! ===== the reference's table: one part of a function is laid ===== -/
def TIm (M : zM) (J : zJ) (f k u0 : Int) : Prop := (∃ (ch : Int → List Int) (fl : List Int), tabA M J ch fl) ∧ tabB M lo0 ∧ (∀ g : Int, 0 ≤ g → g < 56 → g ≠ f → ¬ M 43 g = 0 → tabC M J g) ∧ (∀ n : Int, 0 ≤ n → n < 520 → M 52 n ≤ k ∧ (M 52 n = k ↔ inS M f 0 n)) ∧ ¬ M 43 f = 0 ∧ M 31 27 = k ∧ M 31 24 ≤ u0 + M 45 f ∧ tabU M J
/-- one whom a function holds is in use -/
theorem held_of {M : zM} {g n : Int} (h : tabB M lo0) (g0 : 0 ≤ g) (g1 : g < 56) (n0 : 0 ≤ n) (n1 : n < 520) (hg : ¬ M 43 g = 0) (hn : inS M g 0 n) : ¬ M 49 n = 0 := by
  rw [h.1 n n0 n1]
  have key : ∀ N : Nat, g < N → 1 ≤ cfn M lo0 n N := by
    intro N
    induction N with
    | zero => intro q; omega
    | succ N ih =>
      intro q
      have c := cfn_in M lo0 n N
      have i := ind_in (¬ M 43 (N : Int) = 0 ∧ inS M N (lo0 N) n)
      unfold cfn
      by_cases e : g = N
      · subst e
        rw [ind_t ⟨hg, hn⟩]
        omega
      · have := ih (by omega)
        omega
  have := key 56 (by omega)
  omega
/-- where f does not hold n, fewer than all hold it -/
theorem held_lt {M : zM} {f n : Int} (h : tabB M lo0) (f0 : 0 ≤ f) (f1 : f < 56) (n0 : 0 ≤ n) (n1 : n < 520) (hn : ¬ inS M f 0 n) : M 49 n ≤ 55 := by
  rw [h.1 n n0 n1]
  have key : ∀ N : Nat, f < N → cfn M lo0 n N + 1 ≤ N := by
    intro N
    induction N with
    | zero => intro q; omega
    | succ N ih =>
      intro q
      have c := cfn_in M lo0 n N
      have i := ind_in (¬ M 43 (N : Int) = 0 ∧ inS M N (lo0 N) n)
      unfold cfn
      by_cases e : f = N
      · subst e
        rw [ind_f (fun z => hn z.2)]
        omega
      · have := ih (by omega)
        omega
  have := key 56 (by omega)
  omega
theorem inS_range {M : zM} (hok : zOK M) {g lo n : Int} (h : inS M g lo n) : 0 ≤ n ∧ n < 520 := by
  obtain ⟨j, -, -, rfl⟩ := h
  have q : 0 ≤ M 46 (255 * g + j) ∧ M 46 (255 * g + j) ≤ 519 := hok 46 _
  omega
theorem tabC_pu {M : zM} {J : zJ} {f n g : Int} (h : tabC M J g) (hgf : g ≠ f) (hM : ∀ g : Int, 0 ≤ M 45 g ∧ M 45 g ≤ 255) (f0 : 0 ≤ f) (g0 : 0 ≤ g) (hnm : M 45 f < 255) : tabC (puM M f n) J g := by
  have hm : ∀ (m d : Int) (P : Int → Int64), mtc M J m d P → mtc (puM M f n) J m d P := fun m d P q => by
    unfold mtc at *
    rw [puM_o (by decide)]
    exact q
  refine ⟨fun d i a b c e q => ?_, fun m q => ?_⟩
  · obtain ⟨m, h1, h2⟩ := h.1 d i a b c e q
    exact ⟨m, (puM_inS f0 g0 hM hnm (by decide) (hM f).1).mpr (Or.inl h1), hm _ _ _ h2⟩
  · obtain ⟨d, i, h1, h2, h3⟩ := h.2 m (((puM_inS f0 g0 hM hnm (by decide) (hM f).1).mp q).resolve_right (fun z => hgf z.1))
    exact ⟨d, i, h1, h2, hm _ _ _ h3⟩
theorem push_old {M : zM} {J : zJ} {f k u0 n : Int} (hT : TIm M J f k u0) (hok : zOK M) (f0 : 0 ≤ f) (f1 : f < 56) (n0 : 0 ≤ n) (n1 : n < 520) (hnm : M 45 f ≤ 254) (hn : ¬ M 49 n = 0) (hk : ¬ M 52 n = k) : TIm (puM M f n) J f k u0 := by
  obtain ⟨⟨ch, fl, t1⟩, t2, t3, t4, t5, t6, t7, tu⟩ := hT
  have hM : ∀ g : Int, 0 ≤ M 45 g ∧ M 45 g ≤ 255 := fun g => hok 45 g
  have hno : ¬ inS M f 0 n := fun q => hk ((t4 n n0 n1).2.mpr q)
  have e43 : puM M f n 43 = M 43 := puM_o (by decide)
  refine ⟨⟨ch, fl, tabA_old t1 hok hn⟩, tabB_pu t2 hM f0 f1 n0 n1 t5 (by omega) hno, fun g g0 g1 hg q => ?_, fun m m0 m1 => ?_, by rw [e43]; exact t5, by rw [puM_23 (by decide)]; exact t6, ?_, ?_⟩
  · rw [e43] at q
    exact tabC_pu (t3 g g0 g1 hg q) hg hM f0 g0 (by omega)
  · rw [puM_52, t6, puM_inS f0 f0 hM (by omega) (by decide) (hM f).1]
    by_cases e : m = n
    · subst e
      rw [updI_s]
      exact ⟨by omega, fun _ => Or.inr ⟨rfl, rfl⟩, fun _ => rfl⟩
    · rw [updI_n e]
      exact ⟨(t4 m m0 m1).1, fun q => Or.inl ((t4 m m0 m1).2.mp q), fun q => (t4 m m0 m1).2.mpr (q.resolve_right (fun z => e z.2))⟩
  · rw [puM_24, if_neg hn, puM_45, updI_s]
    omega
  · refine tabU_mv tu (fun m hm => ?_) (puM_o (by decide)) rfl
    rw [puM_49] at hm
    by_cases e : m = n
    · rw [e]; exact hn
    · rw [updI_n e] at hm; exact hm
end
section
/-! ===== the reference's table: nodeFor and the count ===== -/
theorem nfM_o {M : zM} {d b : Int} {a : Nat} (h : a = 43 ∨ a = 45 ∨ a = 46 ∨ a = 52) : nfM M d b a = M a := by
  unfold nfM
  rw [uz_o (by omega), uz_o (by omega), uz_o (by omega), uz_o (by omega), uz_o (by omega)]
theorem nf_keep {M : zM} {J J' : zJ} {d b n m d' : Int} {P : Int → Int64} (hn : n = M 31 23) (hm : m ≠ n) (hJ2 : ∀ j : Int, (j < 4 * n ∨ 4 * n + 4 ≤ j) → J' 48 j = J 48 j) (h : mtc M J m d' P) : mtc (nfM M d b) J' m d' P := by
  obtain ⟨h0, h1, h2, h3, h4⟩ := h
  refine ⟨?_, ?_, ?_, ?_, ?_⟩
  · rw [nfM_47, ← hn, updI_n hm]; exact h0
  · rw [hJ2 _ (by omega)]; exact h1
  · rw [hJ2 _ (by omega)]; exact h2
  · rw [hJ2 _ (by omega)]; exact h3
  · rw [hJ2 _ (by omega)]; exact h4
theorem push_new {M : zM} {J J' : zJ} {f k u0 d n b : Int} (hT : TIm M J f k u0) (hok : zOK M) (f0 : 0 ≤ f) (f1 : f < 56) (hn : n = M 31 23) (n0 : 0 ≤ n) (hb : b = bkt d (J 53)) (hJ1 : ∀ j : Int, 0 ≤ j → j < 4 → J' 48 (4 * n + j) = J 53 j) (hJ2 : ∀ j : Int, (j < 4 * n ∨ 4 * n + 4 ≤ j) → J' 48 j = J 48 j) (h44 : J' 44 = J 44) (hnm : M 45 f ≤ 254) (hnl : ∀ m : Int, 0 ≤ m → m < 520 → ¬ M 49 m = 0 → ¬ mtc M J m d (J 53)) : n < 520 ∧ ¬ nfM M d b 52 n = k ∧ nfM M d b 49 n = 0 ∧ TIm (puM (nfM M d b) f n) J' f k u0 ∧ mtc (nfM M d b) J' n d (J 53) ∧ ∀ (m d' : Int) (P : Int → Int64), inS M f 0 m → mtc M J m d' P → mtc (nfM M d b) J' m d' P := by
  obtain ⟨⟨ch, fl, t1⟩, t2, t3, t4, t5, t6, t7, tu⟩ := hT
  have hM : ∀ g : Int, 0 ≤ M 45 g ∧ M 45 g ≤ 255 := fun g => hok 45 g
  have hfl := t1.2.1
  obtain ⟨fl', hfe, -, n1, -⟩ := chn_cons hfl.1 (by omega)
  rw [← hn] at n1 hfe
  have hz : M 49 n = 0 := hfl.2.2 n (by rw [hfe]; exact List.mem_cons_self)
  have hno : ∀ g : Int, 0 ≤ g → g < 56 → ¬ M 43 g = 0 → ¬ inS M g 0 n := fun g g0 g1 hg q => held_of t2 g0 g1 n0 n1 hg q hz
  have e43 : nfM M d b 43 = M 43 := nfM_o (by decide)
  have e45 : nfM M d b 45 = M 45 := nfM_o (by decide)
  have e46 : nfM M d b 46 = M 46 := nfM_o (by decide)
  have e52 : nfM M d b 52 = M 52 := nfM_o (by decide)
  have e49 : nfM M d b 49 = M 49 := by
    rw [nfM_49, ← hn]
    funext j
    by_cases e : j = n
    · rw [e, updI_s, hz]
    · rw [updI_n e]
  have eS : ∀ g l m : Int, inS (nfM M d b) g l m ↔ inS M g l m := fun g l m => by unfold inS; rw [e45, e46]
  have hM' : ∀ g : Int, 0 ≤ nfM M d b 45 g ∧ nfM M d b 45 g ≤ 255 := fun g => by rw [e45]; exact hM g
  have tB : tabB (nfM M d b) lo0 := by
    refine ⟨fun m m0 m1 => ?_, fun g g0 g1 => ?_⟩
    · rw [e49, t2.1 m m0 m1]
      exact cfn_congr (fun g _ _ => by rw [e43, eS])
    · rw [e45, e46, e43]; exact t2.2 g g0 g1
  have hk : ¬ nfM M d b 52 n = k := by
    rw [e52]
    exact fun q => hno f f0 f1 t5 ((t4 n n0 n1).2.mp q)
  have z49 : nfM M d b 49 n = 0 := by rw [e49]; exact hz
  have p43 : puM (nfM M d b) f n 43 = M 43 := by rw [puM_o (by decide), e43]
  refine ⟨n1, hk, z49, ⟨?_, ?_, fun g g0 g1 hg q => ?_, fun m m0 m1 => ?_, by rw [p43]; exact t5, by rw [puM_23 (by decide), nfM_31 (by decide)]; exact t6, ?_, ?_⟩, ?_, fun m d' P hm q => ?_⟩
  · exact tabA_new t1 hn n0 hb hJ1 hJ2
  · exact tabB_pu tB hM' f0 f1 n0 n1 (by rw [e43]; exact t5) (by rw [e45]; omega) (by rw [eS]; exact hno f f0 f1 t5)
  · rw [p43] at q
    refine tabC_pu ⟨?_, ?_⟩ hg hM' f0 g0 (by rw [e45]; omega)
    · intro d1 i1 a1 a2 a3 a4 a5
      rw [bitF_congr h44 g] at a5 ⊢
      obtain ⟨m, h1, h2⟩ := (t3 g g0 g1 hg q).1 d1 i1 a1 a2 a3 a4 a5
      exact ⟨m, (eS g 0 m).mpr h1, nf_keep hn (fun z => hno g g0 g1 q (by rw [← z]; exact h1)) hJ2 h2⟩
    · intro m hm
      rw [bitF_congr h44 g]
      have h1 := (eS g 0 m).mp hm
      obtain ⟨d1, i1, a1, a2, a3⟩ := (t3 g g0 g1 hg q).2 m h1
      exact ⟨d1, i1, a1, a2, nf_keep hn (fun z => hno g g0 g1 q (by rw [← z]; exact h1)) hJ2 a3⟩
  · rw [puM_52, nfM_31 (by decide), t6, puM_inS f0 f0 hM' (by rw [e45]; omega) (by decide) (hM' f).1, eS, e52]
    by_cases e : m = n
    · subst e
      rw [updI_s]
      exact ⟨by omega, fun _ => Or.inr ⟨rfl, rfl⟩, fun _ => rfl⟩
    · rw [updI_n e]
      exact ⟨(t4 m m0 m1).1, fun q => Or.inl ((t4 m m0 m1).2.mp q), fun q => (t4 m m0 m1).2.mpr (q.resolve_right (fun z => e z.2))⟩
  · rw [puM_24, if_pos z49, puM_45, updI_s, nfM_31 (by decide), e45]
    omega
  · have p47 : ∀ m : Int, m ≠ n → puM (nfM M d b) f n 47 m = M 47 m := fun m hm => by rw [puM_o (by decide), nfM_47, ← hn, updI_n hm]
    have p47n : puM (nfM M d b) f n 47 n = d := by rw [puM_o (by decide), nfM_47, ← hn, updI_s]
    have p49 : ∀ m : Int, m ≠ n → puM (nfM M d b) f n 49 m = M 49 m := fun m hm => by rw [puM_49, updI_n hm, e49]
    have pk : ∀ m : Int, 0 ≤ m → m ≠ n → ∀ k : Int, 0 ≤ k → k < 4 → kyf J' m k = kyf J m k := fun m m0 hm k a b => by unfold kyf; exact hJ2 _ (by omega)
    have side : ∀ m : Int, 0 ≤ m → m < 520 → m ≠ n → ¬ M 49 m = 0 → M 47 m = d → (∀ k : Int, 0 ≤ k → k < 4 → kyf J m k = J 53 k) → False := fun m m0 m1 hm hl e q => by
      refine hnl m m0 m1 hl ⟨e, ?_, q 1 (by decide) (by decide), q 2 (by decide) (by decide), q 3 (by decide) (by decide)⟩
      have z := q 0 (by decide) (by decide)
      unfold kyf at z
      rw [Int.add_zero] at z
      exact z
    intro p q p0 p1 q0 q1 hp hq e hk
    by_cases ep : p = n
    · by_cases eq : q = n
      · rw [ep, eq]
      · exfalso
        rw [p49 q eq] at hq
        rw [ep, p47n, p47 q eq] at e
        refine side q q0 q1 eq hq e.symm (fun k a b => ?_)
        rw [← pk q q0 eq k a b, ← hk k a b, ep]
        exact hJ1 k a b
    · by_cases eq : q = n
      · exfalso
        rw [p49 p ep] at hp
        rw [eq, p47n, p47 p ep] at e
        refine side p p0 p1 ep hp e (fun k a b => ?_)
        rw [← pk p p0 ep k a b, hk k a b, eq]
        exact hJ1 k a b
      · rw [p49 p ep] at hp
        rw [p49 q eq] at hq
        rw [p47 p ep, p47 q eq] at e
        exact tu p q p0 p1 q0 q1 hp hq e (fun k a b => by rw [← pk p p0 ep k a b, ← pk q q0 eq k a b]; exact hk k a b)
  · refine ⟨by rw [nfM_47, ← hn, updI_s], ?_, hJ1 1 (by decide) (by decide), hJ1 2 (by decide) (by decide), hJ1 3 (by decide) (by decide)⟩
    have := hJ1 0 (by decide) (by decide)
    rw [Int.add_zero] at this
    exact this
  · exact nf_keep hn (fun z => hno f f0 f1 t5 (by rw [← z]; exact hm)) hJ2 q
/-- behind nodeFor: the node x of the part, and what its counting gives -/
def pushQ (M : zM) (J : zJ) (f k u0 d x : Int) (M' : zM) (J' : zJ) : Prop := (0 ≤ x ∧ x < 520) ∧ (M' 31 24 < 520 ∧ M' 45 = M 45 ∧ M' 31 27 = k) ∧ (M' 52 x = k → TIm M' J' f k u0 ∧ inS M' f 0 x) ∧ (¬ M' 52 x = k → TIm (puM M' f x) J' f k u0 ∧ M' 49 x ≤ 55) ∧ mtc M' J' x d (J 53) ∧ ∀ (m d' : Int) (P : Int → Int64), inS M f 0 m → mtc M J m d' P → mtc M' J' m d' P
theorem push {M : zM} {J : zJ} {f k u0 d : Int} (hT : TIm M J f k u0) (hok : zOK M) (f0 : 0 ≤ f) (f1 : f < 56) (hnm : M 45 f ≤ 254) (hu : u0 ≤ 250) : ∃ ch : List Int, chn (M 50) (M 51 (bkt d (J 53))) ch ∧ nfree M J d ch ∧ ∀ (x : Int) (M' : zM) (J' : zJ), (∀ a, kNF a → M' a = M a ∧ J' a = J a) → nfQ M J d ch x M' J' → pushQ M J f k u0 d x M' J' := by
  have hT0 := hT
  obtain ⟨⟨ch, fl, t1⟩, t2, t3, t4, t5, t6, t7, tu⟩ := hT
  have hb := bkt_in d (J 53)
  obtain ⟨q1, q2, q3⟩ := t1.1 _ hb.1 hb.2
  have hM := hok 45 f
  refine ⟨ch (bkt d (J 53)), q1, fun _ => ?_, fun x M' J' fr hq => ?_⟩
  · have hlt : hr (M 49) 520 < 520 := by rw [← t1.2.2.2]; omega
    obtain ⟨n, n0, n1, hz⟩ := hr_lt (n := 520) hlt
    have hm := (t1.2.2.1 n n0 (by omega)).1 hz
    have hne : fl ≠ [] := fun e => by rw [e] at hm; cases hm
    obtain ⟨a, r, hfe⟩ := List.exists_cons_of_ne_nil hne
    have hc := t1.2.1.1
    rw [hfe] at hc
    have e0 := hc.1
    have e1 := hc.2.1
    have e2 := chn_next hc a List.mem_cons_self
    rw [e0]
    omega
  · rcases hq with ⟨n, hn, hm, rfl, rfl, rfl⟩ | ⟨hno, hx, rfl, hJ1, hJ2⟩
    · obtain ⟨n0, n1⟩ := chn_range q1 x hn
      have hl := (q3 x hn).2
      refine ⟨⟨n0, n1⟩, ⟨by omega, rfl, t6⟩, fun e => ⟨hT0, (t4 x n0 n1).2.mp e⟩, fun e => ⟨push_old hT0 hok f0 f1 n0 n1 hnm hl e, held_lt t2 f0 f1 n0 n1 (fun z => e ((t4 x n0 n1).2.mpr z))⟩, hm, fun m d' P _ h => h⟩
    · have hx0 : 0 ≤ x := by
        have hlt : hr (M 49) 520 < 520 := by rw [← t1.2.2.2]; omega
        obtain ⟨n, n0, n1, hz⟩ := hr_lt (n := 520) hlt
        have hm := (t1.2.2.1 n n0 (by omega)).1 hz
        have hne : fl ≠ [] := fun e => by rw [e] at hm; cases hm
        obtain ⟨a, r, hfe⟩ := List.exists_cons_of_ne_nil hne
        have hc := t1.2.1.1
        rw [hfe] at hc
        have e0 := hc.1
        have e1 := hc.2.1
        omega
      obtain ⟨w1, w2, w3, w4, w5, w6⟩ := push_new hT0 hok f0 f1 hx hx0 rfl hJ1 hJ2 (fr 44 (by decide)).2 hnm (fun m m0 m1 hm q => by
        have z := (t1.2.2.1 m m0 m1).2 hm
        rw [mtc_bkt q] at z
        exact hno m z q)
      refine ⟨⟨hx0, w1⟩, ⟨by rw [nfM_31 (by decide)]; omega, nfM_o (by decide), by rw [nfM_31 (by decide)]; exact t6⟩, fun e => absurd e w2, fun _ => ⟨w4, by rw [w3]; decide⟩, w5, w6⟩
end
section
/-! ===== the reference's table: add, begun and done ===== -/
/-- the table's whole invariant -/
def TI (M : zM) (J : zJ) : Prop := (∃ (ch : Int → List Int) (fl : List Int), tabA M J ch fl) ∧ tabB M lo0 ∧ (∀ g : Int, 0 ≤ g → g < 56 → ¬ M 43 g = 0 → tabC M J g) ∧ (∀ n : Int, 0 ≤ n → n < 520 → M 52 n ≤ M 31 27) ∧ tabU M J
theorem ad0_31 {M : zM} {f j : Int} (h : j ≠ 27) : ad0 M f 31 j = M 31 j := by
  unfold ad0
  rw [uz_n h, uz_oo (by decide), uz_oo (by decide)]
theorem ad0_o {M : zM} {f : Int} {a : Nat} (h1 : a ≠ 31) (h2 : a ≠ 43) (h3 : a ≠ 45) : ad0 M f a = M a := by
  unfold ad0
  rw [uz_o h1, uz_o h3, uz_o h2]
theorem ad0_43 {M : zM} {f : Int} : ad0 M f 43 = updI (M 43) f 1 := by
  unfold ad0
  rw [uz_o (by decide), uz_o (by decide), uz_fn]
theorem ad0_45 {M : zM} {f : Int} : ad0 M f 45 = updI (M 45) f 0 := by
  unfold ad0
  rw [uz_o (by decide), uz_fn, uz_o (by decide)]
theorem inS_none {M : zM} {g lo n : Int} (h : M 45 g ≤ lo) : ¬ inS M g lo n := by
  rintro ⟨j, a, b, -⟩
  omega
theorem TIm_ad0 {M : zM} {J : zJ} {f : Int} (h : TI M J) (f0 : 0 ≤ f) (f1 : f < 56) (hf : M 43 f = 0) : TIm (ad0 M f) J f (M 31 27 + 1) (M 31 24) := by
  obtain ⟨⟨ch, fl, t1⟩, t2, t3, t4, tu⟩ := h
  have h45 : M 45 f = 0 := (t2.2 f f0 f1).2 hf
  have e45 : ad0 M f 45 = M 45 := by
    rw [ad0_45]
    funext j
    by_cases e : j = f
    · rw [e, updI_s, h45]
    · rw [updI_n e]
  have e46 : ad0 M f 46 = M 46 := ad0_o (by decide) (by decide) (by decide)
  have e47 : ad0 M f 47 = M 47 := ad0_o (by decide) (by decide) (by decide)
  have e49 : ad0 M f 49 = M 49 := ad0_o (by decide) (by decide) (by decide)
  have e50 : ad0 M f 50 = M 50 := ad0_o (by decide) (by decide) (by decide)
  have e51 : ad0 M f 51 = M 51 := ad0_o (by decide) (by decide) (by decide)
  have e52 : ad0 M f 52 = M 52 := ad0_o (by decide) (by decide) (by decide)
  have eS : ∀ g l m : Int, inS (ad0 M f) g l m ↔ inS M g l m := fun g l m => by unfold inS; rw [e45, e46]
  have hnf : ∀ m : Int, ¬ inS M f 0 m := fun m => inS_none (by omega)
  refine ⟨⟨ch, fl, ?_⟩, ⟨fun m m0 m1 => ?_, fun g g0 g1 => ⟨?_, fun e => ?_⟩⟩, fun g g0 g1 hg q => ?_, fun m m0 m1 => ?_, ?_, ?_, ?_, ?_⟩
  · unfold tabA
    rw [e50, e51, e47, e49, ad0_31 (by decide), ad0_31 (by decide)]
    exact t1
  · rw [e49, t2.1 m m0 m1]
    refine cfn_congr (fun g _ _ => ?_)
    rw [eS]
    by_cases e : g = f
    · subst e
      exact ⟨fun z => absurd z.2 (hnf m), fun z => absurd z.2 (hnf m)⟩
    · rw [ad0_43, updI_n e]
  · rw [e45, e46]; exact (t2.2 g g0 g1).1
  · rw [e45]
    by_cases z : g = f
    · rw [z]; exact h45
    · rw [ad0_43, updI_n z] at e; exact (t2.2 g g0 g1).2 e
  · rw [ad0_43, updI_n hg] at q
    have hm : ∀ (m d : Int) (P : Int → Int64), mtc M J m d P → mtc (ad0 M f) J m d P := fun m d P z => by
      unfold mtc at *
      rw [e47]
      exact z
    refine ⟨fun d i a b c e w => ?_, fun n hn => ?_⟩
    · obtain ⟨n, h1, h2⟩ := (t3 g g0 g1 q).1 d i a b c e w
      exact ⟨n, (eS g 0 n).mpr h1, hm _ _ _ h2⟩
    · obtain ⟨d, i, h1, h2, h3⟩ := (t3 g g0 g1 q).2 n ((eS g 0 n).mp hn)
      exact ⟨d, i, h1, h2, hm _ _ _ h3⟩
  · rw [e52, eS]
    have := t4 m m0 m1
    exact ⟨by omega, fun q => by omega, fun q => absurd q (hnf m)⟩
  · rw [ad0_43, updI_s]; decide
  · unfold ad0; rw [uz_s]
  · rw [ad0_31 (by decide), e45, h45]; omega
  · exact tabU_mv tu (fun n q => by rw [e49] at q; exact q) e47 rfl
/-- what of f is laid so far has its node -/
def cov (M : zM) (J : zJ) (B : Int → Int64) (f d i : Int) : Prop := ∀ d' i' : Int, (d' < d ∨ (d' = d ∧ i' < i)) → 0 ≤ d' → d' ≤ 7 → 0 ≤ i' → i' < zshl 1 d' → lyR B d' i' = true → ∃ n : Int, inS M f 0 n ∧ mtc M J n d' (lyP B d' i')
theorem cov_0 {M : zM} {J : zJ} {B : Int → Int64} {f : Int} : cov M J B f 0 0 := fun d' i' h a b c e q => by omega
/-- a level is done -/
theorem cov_lv {M : zM} {J : zJ} {B : Int → Int64} {f d i : Int} (h : cov M J B f d i) (hi : zshl 1 d ≤ i) : cov M J B f (d + 1) 0 := fun d' i' hh a b c e q => by
  by_cases z : d' = d
  · subst z; exact h d' i' (Or.inr ⟨rfl, by omega⟩) a b c e q
  · exact h d' i' (Or.inl (by omega)) a b c e q
theorem cov_J {M : zM} {J J' : zJ} {B : Int → Int64} {f d i : Int} (h : cov M J B f d i) (e : J' 48 = J 48) : cov M J' B f d i := fun d' i' hh a b c g q => by
  obtain ⟨n, h1, h2⟩ := h d' i' hh a b c g q
  refine ⟨n, h1, ?_⟩
  unfold mtc at *
  rw [e]
  exact h2
/-- one (d, i) more -/
theorem cov_st {M M' : zM} {J J' : zJ} {B : Int → Int64} {f d i : Int} (h : cov M J B f d i) (hm : ∀ (m d' : Int) (P : Int → Int64), inS M f 0 m → mtc M J m d' P → inS M' f 0 m ∧ mtc M' J' m d' P) (hx : lyR B d i = true → ∃ n : Int, inS M' f 0 n ∧ mtc M' J' n d (lyP B d i)) : cov M' J' B f d (i + 1) := fun d' i' hh a b c g q => by
  by_cases z : d' = d ∧ i' = i
  · obtain ⟨rfl, rfl⟩ := z; exact hx q
  · obtain ⟨n, h1, h2⟩ := h d' i' (by omega) a b c g q
    exact ⟨n, hm n d' _ h1 h2⟩
/-- each node of f so far is a laid part of B -/
def cvr (M : zM) (J : zJ) (B : Int → Int64) (f : Int) : Prop := ∀ n : Int, inS M f 0 n → ∃ d i : Int, ((0 ≤ d ∧ d ≤ 7) ∧ 0 ≤ i ∧ i < zshl 1 d) ∧ lyR B d i = true ∧ mtc M J n d (lyP B d i)
theorem cvr_J {M : zM} {J J' : zJ} {B : Int → Int64} {f : Int} (h : cvr M J B f) (e : J' 48 = J 48) : cvr M J' B f := fun n hn => by
  obtain ⟨d, i, h1, h2, h3⟩ := h n hn
  refine ⟨d, i, h1, h2, ?_⟩
  unfold mtc at *
  rw [e]
  exact h3
theorem TI_of {M : zM} {J : zJ} {f k u0 : Int} (h : TIm M J f k u0) (hc : cov M J (bitF J f) f 8 0) (hv : cvr M J (bitF J f) f) : TI M J := by
  obtain ⟨t1, t2, t3, t4, t5, t6, t7, tu⟩ := h
  refine ⟨t1, t2, fun g g0 g1 hg => ?_, fun n n0 n1 => by rw [t6]; exact (t4 n n0 n1).1, tu⟩
  by_cases e : g = f
  · subst e
    exact ⟨fun d i a b c w q => hc d i (Or.inl (by omega)) a b c w q, hv⟩
  · exact t3 g g0 g1 e hg
end
