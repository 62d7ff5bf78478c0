/-! ===== the reference: lays, bucket, nodeFor ===== -/
abbrev kPart (a : Nat) : Prop := ¬ a = 53
theorem zcmp_eq (x y : Int64) : zcmp x y = 0 ↔ x = y := by
  unfold zcmp lg_cmp
  by_cases h : x > y
  · rw [if_pos h]
    exact ⟨fun e => absurd e (by decide), fun e => absurd (e ▸ h) (Int64.lt_irrefl)⟩
  · rw [if_neg h]
    by_cases h2 : x = y
    · rw [if_pos h2]; exact ⟨fun _ => h2, fun _ => rfl⟩
    · rw [if_neg h2]; exact ⟨fun e => absurd e (by decide), fun e => absurd e h2⟩
theorem zlay {d i : Int} (h0 : 0 ≤ d) (h1 : d ≤ 7) (i0 : 0 ≤ i) (i1 : i < zshl 1 d) : (2 ≤ zshr 256 d ∧ zshr 256 d ≤ 256) ∧ (0 ≤ i * zshr 256 d ∧ i * zshr 256 d < 256) ∧ i < 128 ∧ (d = 0 → i = 0) ∧ (d = 1 → i ≤ 1) := by
  have e0 : zshl 1 0 = 1 ∧ zshr 256 0 = 256 := by decide +kernel
  have e1 : zshl 1 1 = 2 ∧ zshr 256 1 = 128 := by decide +kernel
  have e2 : zshl 1 2 = 4 ∧ zshr 256 2 = 64 := by decide +kernel
  have e3 : zshl 1 3 = 8 ∧ zshr 256 3 = 32 := by decide +kernel
  have e4 : zshl 1 4 = 16 ∧ zshr 256 4 = 16 := by decide +kernel
  have e5 : zshl 1 5 = 32 ∧ zshr 256 5 = 8 := by decide +kernel
  have e6 : zshl 1 6 = 64 ∧ zshr 256 6 = 4 := by decide +kernel
  have e7 : zshl 1 7 = 128 ∧ zshr 256 7 = 2 := by decide +kernel
  rcases (show d = 0 ∨ d = 1 ∨ d = 2 ∨ d = 3 ∨ d = 4 ∨ d = 5 ∨ d = 6 ∨ d = 7 by omega) with rfl | rfl | rfl | rfl | rfl | rfl | rfl | rfl
  · rw [e0.2]; rw [e0.1] at i1; omega
  · rw [e1.2]; rw [e1.1] at i1; omega
  · rw [e2.2]; rw [e2.1] at i1; omega
  · rw [e3.2]; rw [e3.1] at i1; omega
  · rw [e4.2]; rw [e4.1] at i1; omega
  · rw [e5.2]; rw [e5.1] at i1; omega
  · rw [e6.2]; rw [e6.1] at i1; omega
  · rw [e7.2]; rw [e7.1] at i1; omega
theorem zshl1 {d : Int} (h0 : 0 ≤ d) (h1 : d ≤ 7) : 1 ≤ zshl 1 d ∧ zshl 1 d ≤ 128 ∧ zshl 1 d = 2 ^ d.toNat := by
  rcases (show d = 0 ∨ d = 1 ∨ d = 2 ∨ d = 3 ∨ d = 4 ∨ d = 5 ∨ d = 6 ∨ d = 7 by omega) with rfl | rfl | rfl | rfl | rfl | rfl | rfl | rfl <;> decide +kernel
theorem zshr6 : ∀ k : Nat, k < 256 → 0 ≤ zshr (k : Int) 6 ∧ zshr (k : Int) 6 ≤ 3 := by decide +kernel
theorem zshr6' {x : Int} (h0 : 0 ≤ x) (h1 : x < 256) : 0 ≤ zshr x 6 ∧ zshr x 6 ≤ 3 := by
  have := zshr6 x.toNat (by omega)
  rwa [Int.toNat_of_nonneg h0] at this
def bitF (J : zJ) (f k : Int) : Int64 := J 44 (4 * f + k)
def lyw (B : Int → Int64) (d i : Int) : Int64 := zlushr (B (zshr (i * zshr 256 d) 6)) (zand (i * zshr 256 d) 63)
def lyc (B : Int → Int64) (d i : Int) : Int64 := (lyw B d i ^^^ zlushr (lyw B d i) (zdiv (zshr 256 d) 2)) &&& (zlshl 1 (zdiv (zshr 256 d) 2) - 1)
def lyR (B : Int → Int64) (d i : Int) : Bool := if 1 < d then decide (¬ lyc B d i = 0) else if d = 0 then decide (¬ B 0 = B 2 ∨ ¬ B 1 = B 3) else decide (¬ B (2 * i) = B (2 * i + 1))
def lyP (B : Int → Int64) (d i k : Int) : Int64 := if 1 < d then (if k = 0 then (if zshr 256 d = 64 then lyw B d i else lyw B d i &&& (zlshl 1 (zshr 256 d) - 1)) else 0) else if d = 0 then B k else (if k = 0 then B (2 * i) else if k = 1 then B (2 * i + 1) else 0)
theorem lyR_2 {B : Int → Int64} {d i : Int} (h : 1 < d) : lyR B d i = decide (¬ lyc B d i = 0) := by unfold lyR; rw [if_pos h]
theorem lyR_0 {B : Int → Int64} {i : Int} : lyR B 0 i = decide (¬ B 0 = B 2 ∨ ¬ B 1 = B 3) := rfl
theorem lyR_1 {B : Int → Int64} {i : Int} : lyR B 1 i = decide (¬ B (2 * i) = B (2 * i + 1)) := rfl
theorem four {P : Int → Prop} (h0 : P 0) (h1 : P 1) (h2 : P 2) (h3 : P 3) : ∀ k : Int, 0 ≤ k → k < 4 → P k := by
  intro k k0 k1
  rcases (show k = 0 ∨ k = 1 ∨ k = 2 ∨ k = 3 by omega) with rfl | rfl | rfl | rfl
  · exact h0
  · exact h1
  · exact h2
  · exact h3
def pz (J : zJ) (p q r s : Int64) : zJ := uz (uz (uz (uz J 53 0 p) 53 1 q) 53 2 r) 53 3 s
/-- what lays says -/
def lyQ (B : Int → Int64) (d i x : Int) (J' : zJ) : Prop := (x = 1 ∧ lyR B d i = true ∧ ∀ k : Int, 0 ≤ k → k < 4 → J' 53 k = lyP B d i k) ∨ (x = 0 ∧ lyR B d i = false)
theorem Z_nmJ {G : tl_G} {mt : tl_M} {R : Room} {cells slots pc : Nat} {K : Nat → Prop} {M0 : zM} {J0 : zJ} {L : List (Option zV)} {st : List zV} {F : zF} {M : zM} {J : zJ} {Z : tl_Z} (k : ∀ J1, J1 = J → TZ G mt R cells slots K M0 J0 pc L st F M J1 Z) : TZ G mt R cells slots K M0 J0 pc L st F M J Z := k J rfl
set_option maxRecDepth 20000 in
theorem zX4_lays {G : tl_G} {M : zM} {J : zJ} {f d i : Int} (f0 : 0 ≤ f) (f1 : f < 56) (h0 : 0 ≤ d) (h1 : d ≤ 7) (i0 : 0 ≤ i) (i1 : i < zshl 1 d) : ZN G yX4_lays mX4_lays 0 kPart [vR 31, vI f, vI d, vI i] F1 M J (qI (fun x M' J' => M' = M ∧ lyQ (bitF J f) d i x J')) := by
  refine ZN_of (L := [_, _, _, _, _, _, _, _, _, _]) (by decide) rfl rfl (Nat.le_of_ble_eq_true rfl) rfl (fun hav => ?_)
  obtain ⟨z1, z2, z3, z4, z5⟩ := zlay h0 h1 i0 i1
  refine Z_iload_n (n := 1) dX4_lays_0 rfl rfl ?_
  refine Z_iconst (n := 2) dX4_lays_1 rfl (by decide) ?_
  refine Z_icmp_le (n := 5) (t := 120) dX4_lays_2 rfl (by decide) (fun c2 => ?_) (fun c2 => ?_)
  · refine Z_aload_n (n := 121) dX4_lays_120 rfl rfl ?_
    refine Z_getA (n := 124) dX4_lays_121 rfl ffX4_75 rfl rfl ?_
    refine Z_iconst (n := 125) dX4_lays_124 rfl (by decide) ?_
    refine Z_lconst (v := 0) (n := 126) dX4_lays_125 rfl (by decide) ?_
    refine Z_last (n := 127) dX4_lays_126 rfl rfl (by decide) (by omega) (by omega) (by decide) ?_
    refine Z_aload_n (n := 128) dX4_lays_127 rfl rfl ?_
    refine Z_getA (n := 131) dX4_lays_128 rfl ffX4_75 rfl rfl ?_
    refine Z_iconst (n := 132) dX4_lays_131 rfl (by decide) ?_
    refine Z_lconst (v := 0) (n := 133) dX4_lays_132 rfl (by decide) ?_
    refine Z_last (n := 134) dX4_lays_133 rfl rfl (by decide) (by omega) (by omega) (by decide) ?_
    refine Z_iload_n (n := 135) dX4_lays_134 rfl rfl ?_
    refine Z_if_ne (n := 138) (t := 209) dX4_lays_135 rfl (by decide) (fun c135 => ?_) (fun c135 => ?_)
    · refine Z_aload_n (n := 210) dX4_lays_209 rfl rfl ?_
      refine Z_getA (n := 213) dX4_lays_210 rfl ffX4_75 rfl rfl ?_
      refine Z_iconst (n := 214) dX4_lays_213 rfl (by decide) ?_
      refine Z_aload_n (n := 215) dX4_lays_214 rfl rfl ?_
      refine Z_getA (n := 218) dX4_lays_215 rfl ffX4_47 rfl rfl ?_
      refine Z_iconst (n := 219) dX4_lays_218 rfl (by decide) ?_
      refine Z_iload_n (n := 220) dX4_lays_219 rfl rfl ?_
      refine Z_imul (n := 221) dX4_lays_220 rfl (by omega) ?_
      refine Z_iconst (n := 222) dX4_lays_221 rfl (by decide) ?_
      refine Z_iload_n (n := 223) dX4_lays_222 rfl rfl ?_
      refine Z_imul (n := 224) dX4_lays_223 rfl (by omega) ?_
      refine Z_iadd (n := 225) dX4_lays_224 rfl (by omega) ?_
      refine Z_lald (n := 226) dX4_lays_225 rfl rfl (by decide) (by omega) (by omega) ?_
      refine Z_last (n := 227) dX4_lays_226 rfl rfl (by decide) (by omega) (by omega) (by decide) ?_
      refine Z_aload_n (n := 228) dX4_lays_227 rfl rfl ?_
      refine Z_getA (n := 231) dX4_lays_228 rfl ffX4_75 rfl rfl ?_
      refine Z_iconst (n := 232) dX4_lays_231 rfl (by decide) ?_
      refine Z_aload_n (n := 233) dX4_lays_232 rfl rfl ?_
      refine Z_getA (n := 236) dX4_lays_233 rfl ffX4_47 rfl rfl ?_
      refine Z_iconst (n := 237) dX4_lays_236 rfl (by decide) ?_
      refine Z_iload_n (n := 238) dX4_lays_237 rfl rfl ?_
      refine Z_imul (n := 239) dX4_lays_238 rfl (by omega) ?_
      refine Z_iconst (n := 240) dX4_lays_239 rfl (by decide) ?_
      refine Z_iload_n (n := 241) dX4_lays_240 rfl rfl ?_
      refine Z_imul (n := 242) dX4_lays_241 rfl (by omega) ?_
      refine Z_iadd (n := 243) dX4_lays_242 rfl (by omega) ?_
      refine Z_iconst (n := 244) dX4_lays_243 rfl (by decide) ?_
      refine Z_iadd (n := 245) dX4_lays_244 rfl (by omega) ?_
      refine Z_lald (n := 246) dX4_lays_245 rfl rfl (by decide) (by omega) (by omega) ?_
      refine Z_last (n := 247) dX4_lays_246 rfl rfl (by decide) (by omega) (by omega) (by decide) ?_
      refine Z_nmJ (fun J246 e246 => ?_)
      have e44 : J246 44 = J 44 := by
        rw [e246]
        simp only [uz_o (show (44 : Nat) ≠ 53 by decide)]
      have e1 : J246 53 0 = bitF J f (2 * i) := by
        rw [e246, uz_n (by decide), uz_s, uz_oo (by decide), uz_oo (by decide)]
        show J 44 (4 * f + 2 * i) = J 44 (4 * f + 2 * i)
        rfl
      have e2 : J246 53 1 = bitF J f (2 * i + 1) := by
        rw [e246, uz_s, uz_oo (by decide), uz_oo (by decide), uz_oo (by decide)]
        show J 44 (4 * f + 2 * i + 1) = J 44 (4 * f + (2 * i + 1))
        rw [Int.add_assoc]
      have e3 : J246 53 2 = 0 := by
        rw [e246, uz_n (by decide), uz_n (by decide), uz_n (by decide), uz_s]
      have e4 : J246 53 3 = 0 := by
        rw [e246, uz_n (by decide), uz_n (by decide), uz_s]
      clear e246
      refine Z_aload_n (n := 248) dX4_lays_247 rfl rfl ?_
      refine Z_getA (n := 251) dX4_lays_248 rfl ffX4_75 rfl rfl ?_
      refine Z_iconst (n := 252) dX4_lays_251 rfl (by decide) ?_
      refine Z_lald (n := 253) dX4_lays_252 rfl rfl (by decide) (by omega) (by omega) ?_
      refine Z_aload_n (n := 254) dX4_lays_253 rfl rfl ?_
      refine Z_getA (n := 257) dX4_lays_254 rfl ffX4_75 rfl rfl ?_
      refine Z_iconst (n := 258) dX4_lays_257 rfl (by decide) ?_
      refine Z_lald (n := 259) dX4_lays_258 rfl rfl (by decide) (by omega) (by omega) ?_
      refine Z_lcmp (n := 260) dX4_lays_259 rfl ?_
      refine Z_if_eq (n := 263) (t := 267) dX4_lays_260 rfl (by decide) (fun c260 => ?_) (fun c260 => ?_)
      · refine Z_iconst (n := 268) dX4_lays_267 rfl (by decide) ?_
        refine Z_zret dX4_lays_268 rfl (by first | assumption | omega | decide) (by first | assumption | omega | decide) ?_
        refine ⟨rfl, ?_⟩
        have hd : d = 1 := by omega
        subst hd
        first
          | exact Or.inl ⟨rfl, by rw [lyR_1]; exact decide_eq_true (fun e => c260 ((zcmp_eq _ _).mpr (e1.trans (e.trans e2.symm)))), four e1 e2 e3 e4⟩
          | exact Or.inr ⟨rfl, by rw [lyR_1]; exact decide_eq_false (fun e => e (e1.symm.trans (((zcmp_eq _ _).mp c260).trans e2)))⟩
      · refine Z_iconst (n := 264) dX4_lays_263 rfl (by decide) ?_
        refine Z_goto (t := 268) dX4_lays_264 (by decide) ?_
        refine Z_zret dX4_lays_268 rfl (by first | assumption | omega | decide) (by first | assumption | omega | decide) ?_
        refine ⟨rfl, ?_⟩
        have hd : d = 1 := by omega
        subst hd
        first
          | exact Or.inl ⟨rfl, by rw [lyR_1]; exact decide_eq_true (fun e => c260 ((zcmp_eq _ _).mpr (e1.trans (e.trans e2.symm)))), four e1 e2 e3 e4⟩
          | exact Or.inr ⟨rfl, by rw [lyR_1]; exact decide_eq_false (fun e => e (e1.symm.trans (((zcmp_eq _ _).mp c260).trans e2)))⟩
    · refine Z_iconst (n := 139) dX4_lays_138 rfl (by decide) ?_
      refine Z_istore (L' := [_, _, _, _, _, _, _, _, _, _]) (n := 141) dX4_lays_139 rfl (by decide) rfl rfl ?_
      have lp141 : ∀ (N141 : Nat) (k : Int) (M141 : zM) (J141 : zJ), ((4 - k).toNat) < N141 → (M141 = M) → (0 ≤ k) → (k ≤ 4) → (∀ j : Int, 0 ≤ j → j < k → J141 53 j = bitF J f j) → TZ G mX4_lays (tl_rm 0 0 0) 0 0 kPart M J 141 [some (vR 31), some (vI f), some (vI d), some (vI i), some (vI k), none, none, none, none, none] [] F1 M141 J141 (ZM G (zPost G kPart F1 M J (qI (fun x M' J' => M' = M ∧ lyQ (bitF J f) d i x J'))) 0 0) := by
        intro N141
        induction N141 with
        | zero => intro k M141 J141 hN; omega
        | succ N141 ih141 =>
          intro k M141 J141 hN141 i141_0 i141_1 i141_2 i141_3
          refine Z_iload (n := 143) dX4_lays_141 rfl rfl ?_
          refine Z_iconst (n := 144) dX4_lays_143 rfl (by decide) ?_
          refine Z_icmp_ge (n := 147) (t := 171) dX4_lays_144 rfl (by decide) (fun c144 => ?_) (fun c144 => ?_)
          · refine Z_aload_n (n := 172) dX4_lays_171 rfl rfl ?_
            refine Z_getA (n := 175) dX4_lays_172 rfl ffX4_75 rfl rfl ?_
            refine Z_iconst (n := 176) dX4_lays_175 rfl (by decide) ?_
            refine Z_lald (n := 177) dX4_lays_176 rfl rfl (by decide) (by omega) (by omega) ?_
            refine Z_aload_n (n := 178) dX4_lays_177 rfl rfl ?_
            refine Z_getA (n := 181) dX4_lays_178 rfl ffX4_75 rfl rfl ?_
            refine Z_iconst (n := 182) dX4_lays_181 rfl (by decide) ?_
            refine Z_lald (n := 183) dX4_lays_182 rfl rfl (by decide) (by omega) (by omega) ?_
            refine Z_lcmp (n := 184) dX4_lays_183 rfl ?_
            refine Z_if_ne (n := 187) (t := 203) dX4_lays_184 rfl (by decide) (fun c184 => ?_) (fun c184 => ?_)
            · refine Z_iconst (n := 204) dX4_lays_203 rfl (by decide) ?_
              refine Z_goto (t := 208) dX4_lays_204 (by decide) ?_
              refine Z_zret dX4_lays_208 rfl (by first | assumption | omega | decide) (by first | assumption | omega | decide) ?_
              refine ⟨i141_0, ?_⟩
              have hd : d = 0 := by omega
              subst hd
              have q : ∀ j : Int, 0 ≤ j → j < 4 → J141 53 j = bitF J f j := fun j j0 j1 => i141_3 j j0 (by omega)
              simp only [zcmp_eq, q 0 (by decide) (by decide), q 1 (by decide) (by decide), q 2 (by decide) (by decide), q 3 (by decide) (by decide)] at *
              first
                | exact Or.inl ⟨rfl, by rw [lyR_0]; exact decide_eq_true (by first | exact Or.inl (by assumption) | exact Or.inr (by assumption)), fun k k0 k1 => by rw [q k k0 k1]; rfl⟩
                | exact Or.inr ⟨rfl, by rw [lyR_0]; exact decide_eq_false (by rintro (e | e) <;> exact e (by assumption))⟩
            · refine Z_aload_n (n := 188) dX4_lays_187 rfl rfl ?_
              refine Z_getA (n := 191) dX4_lays_188 rfl ffX4_75 rfl rfl ?_
              refine Z_iconst (n := 192) dX4_lays_191 rfl (by decide) ?_
              refine Z_lald (n := 193) dX4_lays_192 rfl rfl (by decide) (by omega) (by omega) ?_
              refine Z_aload_n (n := 194) dX4_lays_193 rfl rfl ?_
              refine Z_getA (n := 197) dX4_lays_194 rfl ffX4_75 rfl rfl ?_
              refine Z_iconst (n := 198) dX4_lays_197 rfl (by decide) ?_
              refine Z_lald (n := 199) dX4_lays_198 rfl rfl (by decide) (by omega) (by omega) ?_
              refine Z_lcmp (n := 200) dX4_lays_199 rfl ?_
              refine Z_if_eq (n := 203) (t := 207) dX4_lays_200 rfl (by decide) (fun c200 => ?_) (fun c200 => ?_)
              · refine Z_iconst (n := 208) dX4_lays_207 rfl (by decide) ?_
                refine Z_zret dX4_lays_208 rfl (by first | assumption | omega | decide) (by first | assumption | omega | decide) ?_
                refine ⟨i141_0, ?_⟩
                have hd : d = 0 := by omega
                subst hd
                have q : ∀ j : Int, 0 ≤ j → j < 4 → J141 53 j = bitF J f j := fun j j0 j1 => i141_3 j j0 (by omega)
                simp only [zcmp_eq, q 0 (by decide) (by decide), q 1 (by decide) (by decide), q 2 (by decide) (by decide), q 3 (by decide) (by decide)] at *
                first
                  | exact Or.inl ⟨rfl, by rw [lyR_0]; exact decide_eq_true (by first | exact Or.inl (by assumption) | exact Or.inr (by assumption)), fun k k0 k1 => by rw [q k k0 k1]; rfl⟩
                  | exact Or.inr ⟨rfl, by rw [lyR_0]; exact decide_eq_false (by rintro (e | e) <;> exact e (by assumption))⟩
              · refine Z_iconst (n := 204) dX4_lays_203 rfl (by decide) ?_
                refine Z_goto (t := 208) dX4_lays_204 (by decide) ?_
                refine Z_zret dX4_lays_208 rfl (by first | assumption | omega | decide) (by first | assumption | omega | decide) ?_
                refine ⟨i141_0, ?_⟩
                have hd : d = 0 := by omega
                subst hd
                have q : ∀ j : Int, 0 ≤ j → j < 4 → J141 53 j = bitF J f j := fun j j0 j1 => i141_3 j j0 (by omega)
                simp only [zcmp_eq, q 0 (by decide) (by decide), q 1 (by decide) (by decide), q 2 (by decide) (by decide), q 3 (by decide) (by decide)] at *
                first
                  | exact Or.inl ⟨rfl, by rw [lyR_0]; exact decide_eq_true (by first | exact Or.inl (by assumption) | exact Or.inr (by assumption)), fun k k0 k1 => by rw [q k k0 k1]; rfl⟩
                  | exact Or.inr ⟨rfl, by rw [lyR_0]; exact decide_eq_false (by rintro (e | e) <;> exact e (by assumption))⟩
          · refine Z_fr (fun fr141 => ?_)
            refine Z_aload_n (n := 148) dX4_lays_147 rfl rfl ?_
            refine Z_getA (n := 151) dX4_lays_148 rfl ffX4_75 rfl rfl ?_
            refine Z_iload (n := 153) dX4_lays_151 rfl rfl ?_
            refine Z_aload_n (n := 154) dX4_lays_153 rfl rfl ?_
            refine Z_getA (n := 157) dX4_lays_154 rfl ffX4_47 rfl rfl ?_
            refine Z_iconst (n := 158) dX4_lays_157 rfl (by decide) ?_
            refine Z_iload_n (n := 159) dX4_lays_158 rfl rfl ?_
            refine Z_imul (n := 160) dX4_lays_159 rfl (by omega) ?_
            refine Z_iload (n := 162) dX4_lays_160 rfl rfl ?_
            refine Z_iadd (n := 163) dX4_lays_162 rfl (by omega) ?_
            refine Z_lald (n := 164) dX4_lays_163 rfl rfl (by decide) (by omega) (by omega) ?_
            refine Z_last (n := 165) dX4_lays_164 rfl rfl (by decide) (by omega) (by omega) (by decide) ?_
            have nx141 : ∀ j : Int, 0 ≤ j → j < k + 1 → uz J141 53 k (J141 44 (4 * f + k)) 53 j = bitF J f j := fun j j0 j1 => by
              rw [uz_a]
              split
              · rename_i e; subst e; rw [(fr141 44 (by decide)).2]; rfl
              · exact i141_3 j j0 (by omega)
            refine Z_iinc (L' := [_, _, _, _, _, _, _, _, _, _]) (n := 168) dX4_lays_165 rfl rfl (by decide) rfl rfl (by omega) rfl ?_
            refine Z_goto (t := 141) dX4_lays_168 (by decide) ?_
            refine Z_loc (L' := [some _, some _, some _, some _, some _, none, none, none, none, none]) (lsub_same (lsub_same (lsub_same (lsub_same (lsub_same (lsub_none (lsub_none (lsub_none (lsub_none (lsub_none lsub_nil)))))))))) ?_
            exact ih141 _ _ _ (by omega) (by first | rfl | assumption) (by first | assumption | omega | decide) (by first | assumption | omega | decide) (by first | exact fun j j0 j1 => by omega | exact nx141)
      refine Z_loc (L' := [some _, some _, some _, some _, some _, none, none, none, none, none]) (lsub_same (lsub_same (lsub_same (lsub_same (lsub_same (lsub_none (lsub_none (lsub_none (lsub_none (lsub_none lsub_nil)))))))))) ?_
      exact lp141 _ _ _ _ (Nat.lt_succ_self _) (by first | rfl | assumption) (by first | assumption | omega | decide) (by first | assumption | omega | decide) (by first | exact fun j j0 j1 => by omega | exact nx141)
  · refine Z_sipush (n := 8) dX4_lays_5 rfl (by decide) (by decide) ?_
    refine Z_iload_n (n := 9) dX4_lays_8 rfl rfl ?_
    refine Z_ishr (n := 10) dX4_lays_9 rfl ?_
    refine Z_istore (L' := [_, _, _, _, _, _, _, _, _, _]) (n := 12) dX4_lays_10 rfl (by decide) rfl rfl ?_
    refine Z_iload_n (n := 13) dX4_lays_12 rfl rfl ?_
    refine Z_iload (n := 15) dX4_lays_13 rfl rfl ?_
    refine Z_imul (n := 16) dX4_lays_15 rfl (by omega) ?_
    refine Z_istore (L' := [_, _, _, _, _, _, _, _, _, _]) (n := 18) dX4_lays_16 rfl (by decide) rfl rfl ?_
    refine Z_aload_n (n := 19) dX4_lays_18 rfl rfl ?_
    refine Z_getA (n := 22) dX4_lays_19 rfl ffX4_47 rfl rfl ?_
    refine Z_iconst (n := 23) dX4_lays_22 rfl (by decide) ?_
    refine Z_iload_n (n := 24) dX4_lays_23 rfl rfl ?_
    refine Z_imul (n := 25) dX4_lays_24 rfl (by omega) ?_
    refine Z_iload (n := 27) dX4_lays_25 rfl rfl ?_
    refine Z_bipush (n := 29) dX4_lays_27 rfl (by decide) (by decide) ?_
    refine Z_ishr (n := 30) dX4_lays_29 rfl ?_
    have z6 := zshr6' z2.1 z2.2
    refine Z_iadd (n := 31) dX4_lays_30 rfl (by omega) ?_
    have z6 := zshr6' z2.1 z2.2
    refine Z_lald (n := 32) dX4_lays_31 rfl rfl (by decide) (by omega) (by omega) ?_
    refine Z_iload (n := 34) dX4_lays_32 rfl rfl ?_
    refine Z_bipush (n := 36) dX4_lays_34 rfl (by decide) (by decide) ?_
    refine Z_iand (n := 37) dX4_lays_36 rfl ?_
    refine Z_lushr (n := 38) dX4_lays_37 rfl ?_
    refine Z_lstore (L' := [_, _, _, _, _, _, _, _, _, _]) (n := 40) dX4_lays_38 rfl (by decide) rfl rfl ?_
    refine Z_lconst (v := 1) (n := 41) dX4_lays_40 rfl (by decide) ?_
    refine Z_iload (n := 43) dX4_lays_41 rfl rfl ?_
    refine Z_iconst (n := 44) dX4_lays_43 rfl (by decide) ?_
    refine Z_idiv (n := 45) dX4_lays_44 rfl (by decide) (by decide) ?_
    refine Z_lshl (n := 46) dX4_lays_45 rfl ?_
    refine Z_lconst (v := 1) (n := 47) dX4_lays_46 rfl (by decide) ?_
    refine Z_lsub (n := 48) dX4_lays_47 rfl ?_
    refine Z_lstore (L' := [_, _, _, _, _, _, _, _, _, _]) (n := 50) dX4_lays_48 rfl (by decide) rfl rfl ?_
    refine Z_lload (n := 52) dX4_lays_50 rfl rfl ?_
    refine Z_lload (n := 54) dX4_lays_52 rfl rfl ?_
    refine Z_iload (n := 56) dX4_lays_54 rfl rfl ?_
    refine Z_iconst (n := 57) dX4_lays_56 rfl (by decide) ?_
    refine Z_idiv (n := 58) dX4_lays_57 rfl (by decide) (by decide) ?_
    refine Z_lushr (n := 59) dX4_lays_58 rfl ?_
    refine Z_lxor (n := 60) dX4_lays_59 rfl ?_
    refine Z_lload (n := 62) dX4_lays_60 rfl rfl ?_
    refine Z_land (n := 63) dX4_lays_62 rfl ?_
    refine Z_lconst (v := 0) (n := 64) dX4_lays_63 rfl (by decide) ?_
    refine Z_lcmp (n := 65) dX4_lays_64 rfl ?_
    refine Z_if_ne (n := 68) (t := 70) dX4_lays_65 rfl (by decide) (fun c65 => ?_) (fun c65 => ?_)
    · refine Z_aload_n (n := 71) dX4_lays_70 rfl rfl ?_
      refine Z_getA (n := 74) dX4_lays_71 rfl ffX4_75 rfl rfl ?_
      refine Z_iconst (n := 75) dX4_lays_74 rfl (by decide) ?_
      refine Z_iload (n := 77) dX4_lays_75 rfl rfl ?_
      refine Z_bipush (n := 79) dX4_lays_77 rfl (by decide) (by decide) ?_
      refine Z_icmp_ne (n := 82) (t := 87) dX4_lays_79 rfl (by decide) (fun c79 => ?_) (fun c79 => ?_)
      · refine Z_lload (n := 89) dX4_lays_87 rfl rfl ?_
        refine Z_lconst (v := 1) (n := 90) dX4_lays_89 rfl (by decide) ?_
        refine Z_iload (n := 92) dX4_lays_90 rfl rfl ?_
        refine Z_lshl (n := 93) dX4_lays_92 rfl ?_
        refine Z_lconst (v := 1) (n := 94) dX4_lays_93 rfl (by decide) ?_
        refine Z_lsub (n := 95) dX4_lays_94 rfl ?_
        refine Z_land (n := 96) dX4_lays_95 rfl ?_
        refine Z_last (n := 97) dX4_lays_96 rfl rfl (by decide) (by omega) (by omega) (by decide) ?_
        refine Z_aload_n (n := 98) dX4_lays_97 rfl rfl ?_
        refine Z_getA (n := 101) dX4_lays_98 rfl ffX4_75 rfl rfl ?_
        refine Z_iconst (n := 102) dX4_lays_101 rfl (by decide) ?_
        refine Z_lconst (v := 0) (n := 103) dX4_lays_102 rfl (by decide) ?_
        refine Z_last (n := 104) dX4_lays_103 rfl rfl (by decide) (by omega) (by omega) (by decide) ?_
        refine Z_aload_n (n := 105) dX4_lays_104 rfl rfl ?_
        refine Z_getA (n := 108) dX4_lays_105 rfl ffX4_75 rfl rfl ?_
        refine Z_iconst (n := 109) dX4_lays_108 rfl (by decide) ?_
        refine Z_lconst (v := 0) (n := 110) dX4_lays_109 rfl (by decide) ?_
        refine Z_last (n := 111) dX4_lays_110 rfl rfl (by decide) (by omega) (by omega) (by decide) ?_
        refine Z_aload_n (n := 112) dX4_lays_111 rfl rfl ?_
        refine Z_getA (n := 115) dX4_lays_112 rfl ffX4_75 rfl rfl ?_
        refine Z_iconst (n := 116) dX4_lays_115 rfl (by decide) ?_
        refine Z_lconst (v := 0) (n := 117) dX4_lays_116 rfl (by decide) ?_
        refine Z_last (n := 118) dX4_lays_117 rfl rfl (by decide) (by omega) (by omega) (by decide) ?_
        refine Z_iconst (n := 119) dX4_lays_118 rfl (by decide) ?_
        refine Z_zret dX4_lays_119 rfl (by first | assumption | omega | decide) (by first | assumption | omega | decide) ?_
        refine ⟨rfl, Or.inl ⟨rfl, ?_, four ?_ ?_ ?_ ?_⟩⟩
        · rw [lyR_2 (by omega)]; exact decide_eq_true (fun e => c65 ((zcmp_eq _ _).mpr e))
        · rw [uz_n (by decide), uz_n (by decide), uz_n (by decide), uz_s]
          unfold lyP
          rw [if_pos (by omega), if_pos rfl]
          first | rw [if_pos (by assumption)]; rfl | rw [if_neg (by assumption)]; rfl
        · rw [uz_n (by decide), uz_n (by decide), uz_s]; unfold lyP; rw [if_pos (by omega), if_neg (by decide)]
        · rw [uz_n (by decide), uz_s]; unfold lyP; rw [if_pos (by omega), if_neg (by decide)]
        · rw [uz_s]; unfold lyP; rw [if_pos (by omega), if_neg (by decide)]
      · refine Z_lload (n := 84) dX4_lays_82 rfl rfl ?_
        refine Z_goto (t := 96) dX4_lays_84 (by decide) ?_
        refine Z_last (n := 97) dX4_lays_96 rfl rfl (by decide) (by omega) (by omega) (by decide) ?_
        refine Z_aload_n (n := 98) dX4_lays_97 rfl rfl ?_
        refine Z_getA (n := 101) dX4_lays_98 rfl ffX4_75 rfl rfl ?_
        refine Z_iconst (n := 102) dX4_lays_101 rfl (by decide) ?_
        refine Z_lconst (v := 0) (n := 103) dX4_lays_102 rfl (by decide) ?_
        refine Z_last (n := 104) dX4_lays_103 rfl rfl (by decide) (by omega) (by omega) (by decide) ?_
        refine Z_aload_n (n := 105) dX4_lays_104 rfl rfl ?_
        refine Z_getA (n := 108) dX4_lays_105 rfl ffX4_75 rfl rfl ?_
        refine Z_iconst (n := 109) dX4_lays_108 rfl (by decide) ?_
        refine Z_lconst (v := 0) (n := 110) dX4_lays_109 rfl (by decide) ?_
        refine Z_last (n := 111) dX4_lays_110 rfl rfl (by decide) (by omega) (by omega) (by decide) ?_
        refine Z_aload_n (n := 112) dX4_lays_111 rfl rfl ?_
        refine Z_getA (n := 115) dX4_lays_112 rfl ffX4_75 rfl rfl ?_
        refine Z_iconst (n := 116) dX4_lays_115 rfl (by decide) ?_
        refine Z_lconst (v := 0) (n := 117) dX4_lays_116 rfl (by decide) ?_
        refine Z_last (n := 118) dX4_lays_117 rfl rfl (by decide) (by omega) (by omega) (by decide) ?_
        refine Z_iconst (n := 119) dX4_lays_118 rfl (by decide) ?_
        refine Z_zret dX4_lays_119 rfl (by first | assumption | omega | decide) (by first | assumption | omega | decide) ?_
        refine ⟨rfl, Or.inl ⟨rfl, ?_, four ?_ ?_ ?_ ?_⟩⟩
        · rw [lyR_2 (by omega)]; exact decide_eq_true (fun e => c65 ((zcmp_eq _ _).mpr e))
        · rw [uz_n (by decide), uz_n (by decide), uz_n (by decide), uz_s]
          unfold lyP
          rw [if_pos (by omega), if_pos rfl]
          first | rw [if_pos (by assumption)]; rfl | rw [if_neg (by assumption)]; rfl
        · rw [uz_n (by decide), uz_n (by decide), uz_s]; unfold lyP; rw [if_pos (by omega), if_neg (by decide)]
        · rw [uz_n (by decide), uz_s]; unfold lyP; rw [if_pos (by omega), if_neg (by decide)]
        · rw [uz_s]; unfold lyP; rw [if_pos (by omega), if_neg (by decide)]
    · refine Z_iconst (n := 69) dX4_lays_68 rfl (by decide) ?_
      refine Z_zret dX4_lays_69 rfl (by first | assumption | omega | decide) (by first | assumption | omega | decide) ?_
      refine ⟨rfl, Or.inr ⟨rfl, ?_⟩⟩
      rw [lyR_2 (by omega)]
      exact decide_eq_false (fun e => e ((zcmp_eq _ _).mp c65))
