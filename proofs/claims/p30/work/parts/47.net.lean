section
/-! ===== the start of the reference; nets on both sides ===== -/
/-- the reference as it is made -/
def rZ (M : zM) (J : zJ) : Prop := (∀ a : Nat, 31 < a → a ≠ 38 → a ≠ 39 → a ≠ 50 → a ≠ 51 → ∀ k, M a k = 0) ∧ (∀ j : Int, j ≠ 8 → j ≠ 33 → j ≠ 34 → M 31 j = 0) ∧ (M 31 8 = 250 ∧ M 31 33 = -9 ∧ M 31 34 = -9) ∧ ((∀ j : Int, 0 ≤ j → j < 519 → M 50 j = j + 1) ∧ M 50 519 = -1) ∧ (∀ b : Int, 0 ≤ b → b < 512 → M 51 b = -1) ∧ (∀ v : Int, 0 ≤ v → v < 8 → M 38 v = v ∧ M 39 v = v) ∧ ∀ p : Int, 2 ≤ p → p ≤ 7 → J 54 p = whF p
set_option maxRecDepth 20000 in
theorem zX4_init_s {G : tl_G} {M : zM} {J : zJ}  (hM0 : ∀ a : Nat, 31 ≤ a → ∀ k, M a k = 0) (hJ0 : ∀ a : Nat, 31 ≤ a → ∀ k, J a k = 0) : ZA G yX4_init mX4_init 1 26 20312 kModel [vR 31] Fm0 (F_model Fm0) M J (qV (fun M' J' => rZ M' J')) := by
  refine ZA_of (L := [_, _]) (by decide) rfl rfl (Nat.le_of_ble_eq_true rfl) rfl (fun hav => ?_)
  refine Z_aload_n (n := 1) dX4_init_0 rfl rfl ?_
  refine Z_objI (n := 4) dX4_init_1 rfl moX4_1 (by decide) (by decide) (Nat.le_of_ble_eq_true rfl) ?_
  refine Z_aload_n (n := 5) dX4_init_4 rfl rfl ?_
  refine Z_iconst (n := 6) dX4_init_5 rfl (by decide) ?_
  refine Z_newI (N := 3) (z := 32) (n := 8) dX4_init_6 rfl rfl (by decide) rfl (fun k => hM0 _ (by decide) k) (fun k => hJ0 _ (by decide) k) (fun _ => rfl) (by decide) (by decide) ?_
  refine Z_putA (n := 11) dX4_init_8 rfl ffX4_7 (fun _ => rfl) rfl ?_
  refine Z_aload_n (n := 12) dX4_init_11 rfl rfl ?_
  refine Z_iconst (n := 13) dX4_init_12 rfl (by decide) ?_
  refine Z_newI (N := 3) (z := 33) (n := 15) dX4_init_13 rfl rfl (by decide) rfl (fun k => hM0 _ (by decide) k) (fun k => hJ0 _ (by decide) k) (fun _ => rfl) (by decide) (by decide) ?_
  refine Z_putA (n := 18) dX4_init_15 rfl ffX4_13 (fun _ => rfl) rfl ?_
  refine Z_aload_n (n := 19) dX4_init_18 rfl rfl ?_
  refine Z_bipush (n := 21) dX4_init_19 rfl (by decide) (by decide) ?_
  refine Z_newI (N := 120) (z := 34) (n := 23) dX4_init_21 rfl rfl (by decide) rfl (fun k => hM0 _ (by decide) k) (fun k => hJ0 _ (by decide) k) (fun _ => rfl) (by decide) (by decide) ?_
  refine Z_putA (n := 26) dX4_init_23 rfl ffX4_16 (fun _ => rfl) rfl ?_
  refine Z_aload_n (n := 27) dX4_init_26 rfl rfl ?_
  refine Z_sipush (n := 30) dX4_init_27 rfl (by decide) (by decide) ?_
  refine Z_newI (N := 360) (z := 35) (n := 32) dX4_init_30 rfl rfl (by decide) rfl (fun k => hM0 _ (by decide) k) (fun k => hJ0 _ (by decide) k) (fun _ => rfl) (by decide) (by decide) ?_
  refine Z_putA (n := 35) dX4_init_32 rfl ffX4_19 (fun _ => rfl) rfl ?_
  refine Z_aload_n (n := 36) dX4_init_35 rfl rfl ?_
  refine Z_bipush (n := 38) dX4_init_36 rfl (by decide) (by decide) ?_
  refine Z_newI (N := 12) (z := 36) (n := 40) dX4_init_38 rfl rfl (by decide) rfl (fun k => hM0 _ (by decide) k) (fun k => hJ0 _ (by decide) k) (fun _ => rfl) (by decide) (by decide) ?_
  refine Z_putA (n := 43) dX4_init_40 rfl ffX4_22 (fun _ => rfl) rfl ?_
  refine Z_aload_n (n := 44) dX4_init_43 rfl rfl ?_
  refine Z_bipush (n := 46) dX4_init_44 rfl (by decide) (by decide) ?_
  refine Z_newZ (N := 40) (z := 37) (n := 48) dX4_init_46 rfl rfl (by decide) rfl (fun k => hM0 _ (by decide) k) (fun k => hJ0 _ (by decide) k) (fun _ => rfl) (by decide) (by decide) ?_
  refine Z_putA (n := 51) dX4_init_48 rfl ffX4_25 (fun _ => rfl) rfl ?_
  refine Z_aload_n (n := 52) dX4_init_51 rfl rfl ?_
  refine Z_bipush (n := 54) dX4_init_52 rfl (by decide) (by decide) ?_
  refine Z_newI (N := 8) (z := 38) (n := 56) dX4_init_54 rfl rfl (by decide) rfl (fun k => hM0 _ (by decide) k) (fun k => hJ0 _ (by decide) k) (fun _ => rfl) (by decide) (by decide) ?_
  refine Z_putA (n := 59) dX4_init_56 rfl ffX4_29 (fun _ => rfl) rfl ?_
  refine Z_aload_n (n := 60) dX4_init_59 rfl rfl ?_
  refine Z_bipush (n := 62) dX4_init_60 rfl (by decide) (by decide) ?_
  refine Z_newI (N := 8) (z := 39) (n := 64) dX4_init_62 rfl rfl (by decide) rfl (fun k => hM0 _ (by decide) k) (fun k => hJ0 _ (by decide) k) (fun _ => rfl) (by decide) (by decide) ?_
  refine Z_putA (n := 67) dX4_init_64 rfl ffX4_32 (fun _ => rfl) rfl ?_
  refine Z_aload_n (n := 68) dX4_init_67 rfl rfl ?_
  refine Z_bipush (n := 70) dX4_init_68 rfl (by decide) (by decide) ?_
  refine Z_newZ (N := 40) (z := 40) (n := 72) dX4_init_70 rfl rfl (by decide) rfl (fun k => hM0 _ (by decide) k) (fun k => hJ0 _ (by decide) k) (fun _ => rfl) (by decide) (by decide) ?_
  refine Z_putA (n := 75) dX4_init_72 rfl ffX4_35 (fun _ => rfl) rfl ?_
  refine Z_aload_n (n := 76) dX4_init_75 rfl rfl ?_
  refine Z_bipush (n := 78) dX4_init_76 rfl (by decide) (by decide) ?_
  refine Z_newI (N := 41) (z := 41) (n := 80) dX4_init_78 rfl rfl (by decide) rfl (fun k => hM0 _ (by decide) k) (fun k => hJ0 _ (by decide) k) (fun _ => rfl) (by decide) (by decide) ?_
  refine Z_putA (n := 83) dX4_init_80 rfl ffX4_38 (fun _ => rfl) rfl ?_
  refine Z_aload_n (n := 84) dX4_init_83 rfl rfl ?_
  refine Z_bipush (n := 86) dX4_init_84 rfl (by decide) (by decide) ?_
  refine Z_newI (N := 41) (z := 42) (n := 88) dX4_init_86 rfl rfl (by decide) rfl (fun k => hM0 _ (by decide) k) (fun k => hJ0 _ (by decide) k) (fun _ => rfl) (by decide) (by decide) ?_
  refine Z_putA (n := 91) dX4_init_88 rfl ffX4_41 (fun _ => rfl) rfl ?_
  refine Z_aload_n (n := 92) dX4_init_91 rfl rfl ?_
  refine Z_bipush (n := 94) dX4_init_92 rfl (by decide) (by decide) ?_
  refine Z_newZ (N := 56) (z := 43) (n := 96) dX4_init_94 rfl rfl (by decide) rfl (fun k => hM0 _ (by decide) k) (fun k => hJ0 _ (by decide) k) (fun _ => rfl) (by decide) (by decide) ?_
  refine Z_putA (n := 99) dX4_init_96 rfl ffX4_44 (fun _ => rfl) rfl ?_
  refine Z_aload_n (n := 100) dX4_init_99 rfl rfl ?_
  refine Z_sipush (n := 103) dX4_init_100 rfl (by decide) (by decide) ?_
  refine Z_newJ (N := 224) (z := 44) (n := 105) dX4_init_103 rfl rfl (by decide) rfl (fun k => hM0 _ (by decide) k) (fun k => hJ0 _ (by decide) k) (fun _ => rfl) (by decide) (by decide) ?_
  refine Z_putA (n := 108) dX4_init_105 rfl ffX4_47 (fun _ => rfl) rfl ?_
  refine Z_aload_n (n := 109) dX4_init_108 rfl rfl ?_
  refine Z_bipush (n := 111) dX4_init_109 rfl (by decide) (by decide) ?_
  refine Z_newI (N := 56) (z := 45) (n := 113) dX4_init_111 rfl rfl (by decide) rfl (fun k => hM0 _ (by decide) k) (fun k => hJ0 _ (by decide) k) (fun _ => rfl) (by decide) (by decide) ?_
  refine Z_putA (n := 116) dX4_init_113 rfl ffX4_51 (fun _ => rfl) rfl ?_
  refine Z_aload_n (n := 117) dX4_init_116 rfl rfl ?_
  refine Z_sipush (n := 120) dX4_init_117 rfl (by decide) (by decide) ?_
  refine Z_newI (N := 14280) (z := 46) (n := 122) dX4_init_120 rfl rfl (by decide) rfl (fun k => hM0 _ (by decide) k) (fun k => hJ0 _ (by decide) k) (fun _ => rfl) (by decide) (by decide) ?_
  refine Z_putA (n := 125) dX4_init_122 rfl ffX4_54 (fun _ => rfl) rfl ?_
  refine Z_aload_n (n := 126) dX4_init_125 rfl rfl ?_
  refine Z_sipush (n := 129) dX4_init_126 rfl (by decide) (by decide) ?_
  refine Z_newI (N := 520) (z := 47) (n := 131) dX4_init_129 rfl rfl (by decide) rfl (fun k => hM0 _ (by decide) k) (fun k => hJ0 _ (by decide) k) (fun _ => rfl) (by decide) (by decide) ?_
  refine Z_putA (n := 134) dX4_init_131 rfl ffX4_57 (fun _ => rfl) rfl ?_
  refine Z_aload_n (n := 135) dX4_init_134 rfl rfl ?_
  refine Z_sipush (n := 138) dX4_init_135 rfl (by decide) (by decide) ?_
  refine Z_newJ (N := 2080) (z := 48) (n := 140) dX4_init_138 rfl rfl (by decide) rfl (fun k => hM0 _ (by decide) k) (fun k => hJ0 _ (by decide) k) (fun _ => rfl) (by decide) (by decide) ?_
  refine Z_putA (n := 143) dX4_init_140 rfl ffX4_60 (fun _ => rfl) rfl ?_
  refine Z_aload_n (n := 144) dX4_init_143 rfl rfl ?_
  refine Z_sipush (n := 147) dX4_init_144 rfl (by decide) (by decide) ?_
  refine Z_newI (N := 520) (z := 49) (n := 149) dX4_init_147 rfl rfl (by decide) rfl (fun k => hM0 _ (by decide) k) (fun k => hJ0 _ (by decide) k) (fun _ => rfl) (by decide) (by decide) ?_
  refine Z_putA (n := 152) dX4_init_149 rfl ffX4_63 (fun _ => rfl) rfl ?_
  refine Z_aload_n (n := 153) dX4_init_152 rfl rfl ?_
  refine Z_sipush (n := 156) dX4_init_153 rfl (by decide) (by decide) ?_
  refine Z_newI (N := 520) (z := 50) (n := 158) dX4_init_156 rfl rfl (by decide) rfl (fun k => hM0 _ (by decide) k) (fun k => hJ0 _ (by decide) k) (fun _ => rfl) (by decide) (by decide) ?_
  refine Z_putA (n := 161) dX4_init_158 rfl ffX4_66 (fun _ => rfl) rfl ?_
  refine Z_aload_n (n := 162) dX4_init_161 rfl rfl ?_
  refine Z_sipush (n := 165) dX4_init_162 rfl (by decide) (by decide) ?_
  refine Z_newI (N := 512) (z := 51) (n := 167) dX4_init_165 rfl rfl (by decide) rfl (fun k => hM0 _ (by decide) k) (fun k => hJ0 _ (by decide) k) (fun _ => rfl) (by decide) (by decide) ?_
  refine Z_putA (n := 170) dX4_init_167 rfl ffX4_69 (fun _ => rfl) rfl ?_
  refine Z_aload_n (n := 171) dX4_init_170 rfl rfl ?_
  refine Z_sipush (n := 174) dX4_init_171 rfl (by decide) (by decide) ?_
  refine Z_newI (N := 520) (z := 52) (n := 176) dX4_init_174 rfl rfl (by decide) rfl (fun k => hM0 _ (by decide) k) (fun k => hJ0 _ (by decide) k) (fun _ => rfl) (by decide) (by decide) ?_
  refine Z_putA (n := 179) dX4_init_176 rfl ffX4_72 (fun _ => rfl) rfl ?_
  refine Z_aload_n (n := 180) dX4_init_179 rfl rfl ?_
  refine Z_iconst (n := 181) dX4_init_180 rfl (by decide) ?_
  refine Z_newJ (N := 4) (z := 53) (n := 183) dX4_init_181 rfl rfl (by decide) rfl (fun k => hM0 _ (by decide) k) (fun k => hJ0 _ (by decide) k) (fun _ => rfl) (by decide) (by decide) ?_
  refine Z_putA (n := 186) dX4_init_183 rfl ffX4_75 (fun _ => rfl) rfl ?_
  refine Z_aload_n (n := 187) dX4_init_186 rfl rfl ?_
  refine Z_bipush (n := 189) dX4_init_187 rfl (by decide) (by decide) ?_
  refine Z_newJ (N := 8) (z := 54) (n := 191) dX4_init_189 rfl rfl (by decide) rfl (fun k => hM0 _ (by decide) k) (fun k => hJ0 _ (by decide) k) (fun _ => rfl) (by decide) (by decide) ?_
  refine Z_dup (n := 192) dX4_init_191 rfl rfl ?_
  refine Z_iconst (n := 193) dX4_init_192 rfl (by decide) ?_
  refine Z_lconst (v := 0) (n := 194) dX4_init_193 rfl (by decide) ?_
  refine Z_last (n := 195) dX4_init_194 rfl rfl (by decide) (by omega) (by omega) (by decide) ?_
  refine Z_dup (n := 196) dX4_init_195 rfl rfl ?_
  refine Z_iconst (n := 197) dX4_init_196 rfl (by decide) ?_
  refine Z_lconst (v := 0) (n := 198) dX4_init_197 rfl (by decide) ?_
  refine Z_last (n := 199) dX4_init_198 rfl rfl (by decide) (by omega) (by omega) (by decide) ?_
  refine Z_dup (n := 200) dX4_init_199 rfl rfl ?_
  refine Z_iconst (n := 201) dX4_init_200 rfl (by decide) ?_
  refine Z_ldc2 (n := 204) dX4_init_201 rfl clX4_78 ?_
  refine Z_last (n := 205) dX4_init_204 rfl rfl (by decide) (by omega) (by omega) (by decide) ?_
  refine Z_dup (n := 206) dX4_init_205 rfl rfl ?_
  refine Z_iconst (n := 207) dX4_init_206 rfl (by decide) ?_
  refine Z_ldc2 (n := 210) dX4_init_207 rfl clX4_80 ?_
  refine Z_last (n := 211) dX4_init_210 rfl rfl (by decide) (by omega) (by omega) (by decide) ?_
  refine Z_dup (n := 212) dX4_init_211 rfl rfl ?_
  refine Z_iconst (n := 213) dX4_init_212 rfl (by decide) ?_
  refine Z_ldc2 (n := 216) dX4_init_213 rfl clX4_82 ?_
  refine Z_last (n := 217) dX4_init_216 rfl rfl (by decide) (by omega) (by omega) (by decide) ?_
  refine Z_dup (n := 218) dX4_init_217 rfl rfl ?_
  refine Z_iconst (n := 219) dX4_init_218 rfl (by decide) ?_
  refine Z_ldc2 (n := 222) dX4_init_219 rfl clX4_84 ?_
  refine Z_last (n := 223) dX4_init_222 rfl rfl (by decide) (by omega) (by omega) (by decide) ?_
  refine Z_dup (n := 224) dX4_init_223 rfl rfl ?_
  refine Z_bipush (n := 226) dX4_init_224 rfl (by decide) (by decide) ?_
  refine Z_ldc2 (n := 229) dX4_init_226 rfl clX4_86 ?_
  refine Z_last (n := 230) dX4_init_229 rfl rfl (by decide) (by omega) (by omega) (by decide) ?_
  refine Z_dup (n := 231) dX4_init_230 rfl rfl ?_
  refine Z_bipush (n := 233) dX4_init_231 rfl (by decide) (by decide) ?_
  refine Z_ldc2 (n := 236) dX4_init_233 rfl clX4_88 ?_
  refine Z_last (n := 237) dX4_init_236 rfl rfl (by decide) (by omega) (by omega) (by decide) ?_
  refine Z_putA (n := 240) dX4_init_237 rfl ffX4_90 (fun _ => rfl) rfl ?_
  refine Z_aload_n (n := 241) dX4_init_240 rfl rfl ?_
  refine Z_bipush (n := 243) dX4_init_241 rfl (by decide) (by decide) ?_
  refine Z_newZ (N := 40) (z := 55) (n := 245) dX4_init_243 rfl rfl (by decide) rfl (fun k => hM0 _ (by decide) k) (fun k => hJ0 _ (by decide) k) (fun _ => rfl) (by decide) (by decide) ?_
  refine Z_putA (n := 248) dX4_init_245 rfl ffX4_93 (fun _ => rfl) rfl ?_
  refine Z_aload_n (n := 249) dX4_init_248 rfl rfl ?_
  refine Z_bipush (n := 251) dX4_init_249 rfl (by decide) (by decide) ?_
  refine Z_newI (N := 40) (z := 56) (n := 253) dX4_init_251 rfl rfl (by decide) rfl (fun k => hM0 _ (by decide) k) (fun k => hJ0 _ (by decide) k) (fun _ => rfl) (by decide) (by decide) ?_
  refine Z_putA (n := 256) dX4_init_253 rfl ffX4_96 (fun _ => rfl) rfl ?_
  refine Z_aload_n (n := 257) dX4_init_256 rfl rfl ?_
  refine Z_sipush (n := 260) dX4_init_257 rfl (by decide) (by decide) ?_
  refine Z_newI (N := 256) (z := 57) (n := 262) dX4_init_260 rfl rfl (by decide) rfl (fun k => hM0 _ (by decide) k) (fun k => hJ0 _ (by decide) k) (fun _ => rfl) (by decide) (by decide) ?_
  refine Z_putA (n := 265) dX4_init_262 rfl ffX4_99 (fun _ => rfl) rfl ?_
  refine Z_iconst (n := 266) dX4_init_265 rfl (by decide) ?_
  refine Z_istore_n (L' := [_, _]) (n := 267) dX4_init_266 rfl (by decide) rfl rfl ?_
  have lp267 : ∀ (N267 : Nat) (k : Int) (M267 : zM) (J267 : zJ), ((8 - k).toNat) < N267 → (J267 = jw J) → (0 ≤ k) → (k ≤ 8) → (mdl M M267) → (M267 31 8 = 0) → (idO M267 k) → TZ G mX4_init (tl_rm 1 26 20312) 26 20312 kModel M J 267 [some (vR 31), some (vI k)] [] (F_model Fm0) M267 J267 (ZM G (zPost G kModel (F_model Fm0) M J (qV (fun M' J' => rZ M' J'))) 26 20312) := by
    intro N267
    induction N267 with
    | zero => intro k M267 J267 hN; omega
    | succ N267 ih267 =>
      intro k M267 J267 hN267 i267_0 i267_1 i267_2 i267_3 i267_4 i267_5
      refine Z_iload_n (n := 268) dX4_init_267 rfl rfl ?_
      refine Z_bipush (n := 270) dX4_init_268 rfl (by decide) (by decide) ?_
      refine Z_icmp_ge (n := 273) (t := 293) dX4_init_270 rfl (by decide) (fun c270 => ?_) (fun c270 => ?_)
      · refine Z_aload_n (n := 294) dX4_init_293 rfl rfl ?_
        refine Z_sipush (n := 297) dX4_init_294 rfl (by decide) (by decide) ?_
        refine Z_putI (n := 300) (ki := 8) dX4_init_297 rfl ffX4_102 rfl (by decide) rfl rfl (by first | assumption | omega | decide) (by first | assumption | omega | decide) (by decide) ?_
        have st3 : mdl M (uz M267 31 8 250) := ⟨fun a h1 h2 h3 h4 h5 => by rw [uz_o h1]; exact i267_3.1 a h1 h2 h3 h4 h5, fun j hj => by rw [uz_n hj]; exact i267_3.2 j hj⟩
        have st5 : idO (uz M267 31 8 250) 8 := by
          have := i267_5
          rw [show k = 8 by omega] at this
          exact idO_st this (by decide) (by decide)
        refine Z_iconst (n := 301) dX4_init_300 rfl (by decide) ?_
        refine Z_istore_n (L' := [_, _]) (n := 302) dX4_init_301 rfl (by decide) rfl rfl ?_
        have lp302 : ∀ (N302 : Nat) (k : Int) (M302 : zM) (J302 : zJ), ((520 - k).toNat) < N302 → (J302 = jw J) → (0 ≤ k) → (k ≤ 520) → (mdl M M302) → (M302 31 8 = 250) → (idO M302 8) → (∀ j : Int, 0 ≤ j → j < k → M302 50 j = j + 1) → TZ G mX4_init (tl_rm 1 26 20312) 26 20312 kModel M J 302 [some (vR 31), some (vI k)] [] (F_model Fm0) M302 J302 (ZM G (zPost G kModel (F_model Fm0) M J (qV (fun M' J' => rZ M' J'))) 26 20312) := by
          intro N302
          induction N302 with
          | zero => intro k M302 J302 hN; omega
          | succ N302 ih302 =>
            intro k M302 J302 hN302 i302_0 i302_1 i302_2 i302_3 i302_4 i302_5 i302_6
            refine Z_iload_n (n := 303) dX4_init_302 rfl rfl ?_
            refine Z_sipush (n := 306) dX4_init_303 rfl (by decide) (by decide) ?_
            refine Z_icmp_ge (n := 309) (t := 324) dX4_init_306 rfl (by decide) (fun c306 => ?_) (fun c306 => ?_)
            · refine Z_aload_n (n := 325) dX4_init_324 rfl rfl ?_
              refine Z_getA (n := 328) dX4_init_325 rfl ffX4_66 rfl rfl ?_
              refine Z_sipush (n := 331) dX4_init_328 rfl (by decide) (by decide) ?_
              refine Z_iconst (n := 332) dX4_init_331 rfl (by decide) ?_
              refine Z_iast (n := 333) dX4_init_332 rfl rfl rfl (by first | decide | assumption) (by omega) (by omega) (by first | assumption | omega | decide) (by first | assumption | omega | decide) (by decide) ?_
              refine Z_iconst (n := 334) dX4_init_333 rfl (by decide) ?_
              refine Z_istore_n (L' := [_, _]) (n := 335) dX4_init_334 rfl (by decide) rfl rfl ?_
              have lp335 : ∀ (N335 : Nat) (k : Int) (M335 : zM) (J335 : zJ), ((512 - k).toNat) < N335 → (J335 = jw J) → (0 ≤ k) → (k ≤ 512) → (mdl M M335) → (M335 31 8 = 250) → (idO M335 8) → ((∀ j : Int, 0 ≤ j → j < 519 → M335 50 j = j + 1) ∧ M335 50 519 = -1) → (∀ b : Int, 0 ≤ b → b < k → M335 51 b = -1) → TZ G mX4_init (tl_rm 1 26 20312) 26 20312 kModel M J 335 [some (vR 31), some (vI k)] [] (F_model Fm0) M335 J335 (ZM G (zPost G kModel (F_model Fm0) M J (qV (fun M' J' => rZ M' J'))) 26 20312) := by
                intro N335
                induction N335 with
                | zero => intro k M335 J335 hN; omega
                | succ N335 ih335 =>
                  intro k M335 J335 hN335 i335_0 i335_1 i335_2 i335_3 i335_4 i335_5 i335_6 i335_7
                  refine Z_iload_n (n := 336) dX4_init_335 rfl rfl ?_
                  refine Z_sipush (n := 339) dX4_init_336 rfl (by decide) (by decide) ?_
                  refine Z_icmp_ge (n := 342) (t := 355) dX4_init_339 rfl (by decide) (fun c339 => ?_) (fun c339 => ?_)
                  · refine Z_aload_n (n := 356) dX4_init_355 rfl rfl ?_
                    refine Z_bipush (n := 358) dX4_init_356 rfl (by decide) (by decide) ?_
                    refine Z_putI (n := 361) (ki := 33) dX4_init_358 rfl ffX4_106 rfl (by decide) rfl rfl (by first | assumption | omega | decide) (by first | assumption | omega | decide) (by decide) ?_
                    refine Z_aload_n (n := 362) dX4_init_361 rfl rfl ?_
                    refine Z_bipush (n := 364) dX4_init_362 rfl (by decide) (by decide) ?_
                    refine Z_putI (n := 367) (ki := 34) dX4_init_364 rfl ffX4_109 rfl (by decide) rfl rfl (by first | assumption | omega | decide) (by first | assumption | omega | decide) (by decide) ?_
                    refine Z_vret dX4_init_367 rfl ?_
                    have hz : ∀ (a : Nat) (j : Int), 31 ≤ a → a ≠ 31 → a ≠ 38 → a ≠ 39 → a ≠ 50 → a ≠ 51 → uz (uz M335 31 33 (-9)) 31 34 (-9) a j = 0 := fun a j h0 h1 h2 h3 h4 h5 => by
                      rw [uz_oo h1, uz_oo h1, i335_3.1 a h1 h2 h3 h4 h5]; exact hM0 a h0 j
                    have h31 : ∀ j : Int, j ≠ 8 → j ≠ 33 → j ≠ 34 → uz (uz M335 31 33 (-9)) 31 34 (-9) 31 j = 0 := fun j h1 h2 h3 => by
                      rw [uz_n h3, uz_n h2, i335_3.2 j h1]; exact hM0 31 (by decide) j
                    refine ⟨fun a h0 h1 h2 h3 h4 k => hz a k (by omega) (by omega) h1 h2 h3 h4, h31, ⟨?_, ?_, uz_s⟩, ?_, fun b c d => ?_, fun w a b => ?_, ?_⟩
                    · rw [uz_n (by decide), uz_n (by decide)]; exact i335_4
                    · rw [uz_n (by decide), uz_s]
                    · rw [uz_o (by decide), uz_o (by decide)]; exact i335_6
                    · rw [uz_oo (by decide), uz_oo (by decide)]; exact i335_7 b c (by omega)
                    · rw [uz_oo (by decide), uz_oo (by decide), uz_oo (by decide), uz_oo (by decide)]; exact i335_5 w a b
                    · rw [i335_0]; exact jw_wh
                  · refine Z_aload_n (n := 343) dX4_init_342 rfl rfl ?_
                    refine Z_getA (n := 346) dX4_init_343 rfl ffX4_69 rfl rfl ?_
                    refine Z_iload_n (n := 347) dX4_init_346 rfl rfl ?_
                    refine Z_iconst (n := 348) dX4_init_347 rfl (by decide) ?_
                    refine Z_iast (n := 349) dX4_init_348 rfl rfl rfl (by first | decide | assumption) (by omega) (by omega) (by first | assumption | omega | decide) (by first | assumption | omega | decide) (by decide) ?_
                    have nx335 : ∀ b : Int, 0 ≤ b → b < k + 1 → uz M335 51 k (-1) 51 b = -1 := fun b a c => by
                      rw [uz_a]
                      split
                      · rfl
                      · exact i335_7 b a (by omega)
                    refine Z_iinc (L' := [_, _]) (n := 352) dX4_init_349 rfl rfl (by decide) rfl rfl (by omega) rfl ?_
                    refine Z_goto (t := 335) dX4_init_352 (by decide) ?_
                    refine Z_loc (L' := [some _, some _]) (lsub_same (lsub_same lsub_nil)) ?_
                    exact ih335 _ _ _ (by omega) (by first | rfl | assumption) (by first | assumption | omega | decide) (by first | assumption | omega | decide) (by first | exact mdl_st i302_3 (by decide) | exact mdl_st i335_3 (by decide)) (by first | (rw [uz_oo (by decide)]; exact i302_4) | (rw [uz_oo (by decide)]; exact i335_4)) (by first | exact idO_st i302_5 (by decide) (by decide) | exact idO_st i335_5 (by decide) (by decide)) (by rw [uz_o (by decide)]; exact i335_6) (by first | exact fun b a c => by omega | exact nx335)
              refine Z_loc (L' := [some _, some _]) (lsub_same (lsub_same lsub_nil)) ?_
              exact lp335 _ _ _ _ (Nat.lt_succ_self _) (by first | rfl | assumption) (by first | assumption | omega | decide) (by first | assumption | omega | decide) (by first | exact mdl_st i302_3 (by decide) | exact mdl_st i335_3 (by decide)) (by first | (rw [uz_oo (by decide)]; exact i302_4) | (rw [uz_oo (by decide)]; exact i335_4)) (by first | exact idO_st i302_5 (by decide) (by decide) | exact idO_st i335_5 (by decide) (by decide)) (by exact ⟨fun j a b => by rw [uz_n (by omega)]; exact i302_6 j a (by omega), uz_s⟩) (by first | exact fun b a c => by omega | exact nx335)
            · refine Z_aload_n (n := 310) dX4_init_309 rfl rfl ?_
              refine Z_getA (n := 313) dX4_init_310 rfl ffX4_66 rfl rfl ?_
              refine Z_iload_n (n := 314) dX4_init_313 rfl rfl ?_
              refine Z_iload_n (n := 315) dX4_init_314 rfl rfl ?_
              refine Z_iconst (n := 316) dX4_init_315 rfl (by decide) ?_
              refine Z_iadd (n := 317) dX4_init_316 rfl (by omega) ?_
              refine Z_iast (n := 318) dX4_init_317 rfl rfl rfl (by first | decide | assumption) (by omega) (by omega) (by first | assumption | omega | decide) (by first | assumption | omega | decide) (by decide) ?_
              have nx302 : ∀ j : Int, 0 ≤ j → j < k + 1 → uz M302 50 k (k + 1) 50 j = j + 1 := fun j a b => by
                rw [uz_a]
                split
                · omega
                · exact i302_6 j a (by omega)
              refine Z_iinc (L' := [_, _]) (n := 321) dX4_init_318 rfl rfl (by decide) rfl rfl (by omega) rfl ?_
              refine Z_goto (t := 302) dX4_init_321 (by decide) ?_
              refine Z_loc (L' := [some _, some _]) (lsub_same (lsub_same lsub_nil)) ?_
              exact ih302 _ _ _ (by omega) (by first | rfl | assumption) (by first | assumption | omega | decide) (by first | assumption | omega | decide) (by first | exact st3 | exact mdl_st i302_3 (by decide)) (by first | exact uz_s | (rw [uz_oo (by decide)]; exact i302_4)) (by first | exact st5 | exact idO_st i302_5 (by decide) (by decide)) (by first | exact fun j a b => by omega | exact nx302)
        refine Z_loc (L' := [some _, some _]) (lsub_same (lsub_same lsub_nil)) ?_
        exact lp302 _ _ _ _ (Nat.lt_succ_self _) (by first | rfl | assumption) (by first | assumption | omega | decide) (by first | assumption | omega | decide) (by first | exact st3 | exact mdl_st i302_3 (by decide)) (by first | exact uz_s | (rw [uz_oo (by decide)]; exact i302_4)) (by first | exact st5 | exact idO_st i302_5 (by decide) (by decide)) (by first | exact fun j a b => by omega | exact nx302)
      · refine Z_aload_n (n := 274) dX4_init_273 rfl rfl ?_
        refine Z_getA (n := 277) dX4_init_274 rfl ffX4_29 rfl rfl ?_
        refine Z_iload_n (n := 278) dX4_init_277 rfl rfl ?_
        refine Z_iload_n (n := 279) dX4_init_278 rfl rfl ?_
        refine Z_iast (n := 280) dX4_init_279 rfl rfl rfl (by first | decide | assumption) (by omega) (by omega) (by first | assumption | omega | decide) (by first | assumption | omega | decide) (by decide) ?_
        refine Z_aload_n (n := 281) dX4_init_280 rfl rfl ?_
        refine Z_getA (n := 284) dX4_init_281 rfl ffX4_32 rfl rfl ?_
        refine Z_iload_n (n := 285) dX4_init_284 rfl rfl ?_
        refine Z_iload_n (n := 286) dX4_init_285 rfl rfl ?_
        refine Z_iast (n := 287) dX4_init_286 rfl rfl rfl (by first | decide | assumption) (by omega) (by omega) (by first | assumption | omega | decide) (by first | assumption | omega | decide) (by decide) ?_
        have nx : idO (uz (uz M267 38 k k) 39 k k) (k + 1) := fun w a b => by
          rw [uz_oo (show (38 : Nat) ≠ 39 by decide), uz_a, uz_a, uz_oo (show (39 : Nat) ≠ 38 by decide)]
          by_cases e : w = k
          · rw [if_pos e, if_pos e]; exact ⟨e.symm, e.symm⟩
          · rw [if_neg e, if_neg e]; exact i267_5 w a (by omega)
        refine Z_iinc (L' := [_, _]) (n := 290) dX4_init_287 rfl rfl (by decide) rfl rfl (by omega) rfl ?_
        refine Z_goto (t := 267) dX4_init_290 (by decide) ?_
        refine Z_loc (L' := [some _, some _]) (lsub_same (lsub_same lsub_nil)) ?_
        exact ih267 _ _ _ (by omega) (by first | rfl | assumption) (by first | assumption | omega | decide) (by first | assumption | omega | decide) (by first | exact ⟨fun _ _ _ _ _ _ => rfl, fun _ _ => rfl⟩ | exact mdl_st (mdl_st i267_3 (by decide)) (by decide)) (by first | exact hM0 31 (by decide) 8 | (rw [uz_oo (by decide), uz_oo (by decide)]; exact i267_4)) (by first | exact fun w a b => by omega | exact nx)
  refine Z_loc (L' := [some _, some _]) (lsub_same (lsub_same lsub_nil)) ?_
  exact lp267 _ _ _ _ (Nat.lt_succ_self _) (by first | rfl | assumption) (by first | assumption | omega | decide) (by first | assumption | omega | decide) (by first | exact ⟨fun _ _ _ _ _ _ => rfl, fun _ _ => rfl⟩ | exact mdl_st (mdl_st i267_3 (by decide)) (by decide)) (by first | exact hM0 31 (by decide) 8 | (rw [uz_oo (by decide), uz_oo (by decide)]; exact i267_4)) (by first | exact fun w a b => by omega | exact nx)
def flr : Nat → List Int
  | 0 => []
  | c + 1 => (519 - (c : Int)) :: flr c
theorem flr_mem : ∀ {c : Nat} {n : Int}, n ∈ flr c ↔ (520 - (c : Int) ≤ n ∧ n < 520)
  | 0, n => by
    constructor
    · intro h; cases h
    · intro h; omega
  | c + 1, n => by
    unfold flr
    rw [List.mem_cons, flr_mem (c := c)]
    omega
theorem flr_nodup : ∀ c : Nat, (flr c).Nodup
  | 0 => List.nodup_nil
  | c + 1 => by
    unfold flr
    refine List.nodup_cons.mpr ⟨fun h => ?_, flr_nodup c⟩
    have := flr_mem.mp h
    omega
theorem flr_chn {nx : Int → Int} (h : ∀ j : Int, 0 ≤ j → j < 519 → nx j = j + 1) (h9 : nx 519 = -1) : ∀ {c : Nat}, c ≤ 520 → chn nx (if c = 0 then -1 else 520 - (c : Int)) (flr c)
  | 0, _ => by show (-1 : Int) < 0; decide
  | c + 1, hc => by
    refine ⟨by rw [if_neg (by omega)]; omega, by omega, by omega, ?_⟩
    have q := flr_chn h h9 (c := c) (by omega)
    by_cases e : c = 0
    · subst e
      rw [show (519 : Int) - ((0 : Nat) : Int) = 519 by omega, h9]
      exact q
    · rw [if_neg e] at q
      rw [h _ (by omega) (by omega), show (519 : Int) - (c : Int) + 1 = 520 - (c : Int) by omega]
      exact q
theorem cfn_z {M : zM} {lo : Int → Int} {n : Int} : ∀ {N : Nat}, (∀ f : Int, 0 ≤ f → f < N → M 43 f = 0) → cfn M lo n N = 0
  | 0, _ => rfl
  | N + 1, h => by
    unfold cfn
    rw [cfn_z (N := N) (fun f a b => h f a (by omega)), ind_f (fun q => q.1 (h N (by omega) (by omega)))]
    rfl
theorem RI_z {M : zM} {J : zJ} (h : rZ M J) : RI M J := by
  obtain ⟨h1, h2, ⟨h3, -⟩, ⟨h4, h5⟩, h6, h7, -⟩ := h
  have z : ∀ a : Nat, 31 < a → a ≠ 38 → a ≠ 39 → a ≠ 50 → a ≠ 51 → ∀ k, M a k = 0 := h1
  have z43 := z 43 (by decide) (by decide) (by decide) (by decide) (by decide)
  have z45 := z 45 (by decide) (by decide) (by decide) (by decide) (by decide)
  have z49 := z 49 (by decide) (by decide) (by decide) (by decide) (by decide)
  have z52 := z 52 (by decide) (by decide) (by decide) (by decide) (by decide)
  have z32 := z 32 (by decide) (by decide) (by decide) (by decide) (by decide)
  have z33 := z 33 (by decide) (by decide) (by decide) (by decide) (by decide)
  have e23 := h2 23 (by decide) (by decide) (by decide)
  have e24 := h2 24 (by decide) (by decide) (by decide)
  have e27 := h2 27 (by decide) (by decide) (by decide)
  refine ⟨⟨⟨fun _ => [], flr 520, fun b b0 b1 => ⟨?_, List.nodup_nil, fun n hn => by cases hn⟩, ⟨?_, flr_nodup _, fun n hn => z49 n⟩, fun n n0 n1 => ⟨fun _ => flr_mem.mpr (by omega), fun q => absurd (z49 n) q⟩, ?_⟩, ⟨fun n n0 n1 => ?_, fun f f0 f1 => ⟨fun i j hi hij hj => ?_, fun _ => z45 f⟩⟩, fun g g0 g1 hg => absurd (z43 g) hg, fun n n0 n1 => ?_, fun n m _ _ _ _ hn => absurd (z49 n) hn⟩, fun g a b => z43 g, ?_, fun v a b => ?_, fun net a b => ⟨fun g g0 g1 => ?_, fun o o0 o1 => ?_⟩⟩
  · show M 51 b < 0
    rw [h6 b b0 b1]; decide
  · have q := flr_chn h4 h5 (c := 520) (by decide)
    rw [if_neg (by decide)] at q
    rw [e23]
    exact q
  · rw [e24, hr_zero (fun n _ _ => z49 n)]
  · rw [z49 n, cfn_z (fun f _ _ => z43 f)]
  · rw [z45 f] at hj
    have : 0 ≤ i := hi
    omega
  · rw [z52 n, e27]; decide
  · rw [e24, h3]; decide
  · rw [(h7 v a b).2]; exact a
  · rw [z32 net] at g1; omega
  · rw [z33 net] at o1; omega
theorem RI_fr {M M' : zM} {J : zJ} (hr : RI M J) (fr : ∀ a : Nat, 31 ≤ a → M' a = M a) : RI M' J := by
  have e31 := fr 31 (by decide)
  refine ⟨TI_cg hr.1 (fun a h _ => fr a (by omega)) (by rw [e31]) (by rw [e31]) (by rw [e31]) rfl rfl, fun g a b => by rw [fr 43 (by decide)]; exact hr.2.1 g a b, by rw [e31]; exact hr.2.2.1, ?_, fun net a b => rNt_fr (hr.2.2.2.2 net a b) (fr 32 (by decide)) (fr 33 (by decide)) (fr 34 (by decide)) (fr 35 (by decide)) (fr 36 (by decide))⟩
  unfold rOrd
  rw [fr 39 (by decide)]
  exact hr.2.2.2.1
theorem cI_lo {M M' : zM} (hc : cI M) (fr : ∀ a : Nat, a < 31 → M' a = M a) : cI M' := by
  obtain ⟨h1, h2, h3, h4, h5⟩ := hc
  exact ⟨pI_fr h1 (fr 5 (by decide)) (fr 6 (by decide)) (fr 10 (by decide)) (fr 11 (by decide)), ordOK_fr h2 (fr 4 (by decide)), netOK_fr h3 (fr _ (by decide)) (fr _ (by decide)) (fr _ (by decide)) (fr _ (by decide)), netOK_fr h4 (fr _ (by decide)) (fr _ (by decide)) (fr _ (by decide)) (fr _ (by decide)), netOK_fr h5 (fr _ (by decide)) (fr _ (by decide)) (fr _ (by decide)) (fr _ (by decide))⟩
/-- the nets of both sides are alike -/
def nSn (M : zM) (n : Int) : Prop := M (nA n) 4 = M 32 n ∧ M (nA n) 5 = M 33 n ∧ (∀ g : Int, 0 ≤ g → g < M 32 n → M (nA n + 1) g = M 34 (40 * n + g) ∧ ∀ c : Int, 0 ≤ c → c < 3 → M (nA n + 2) (3 * g + c) = M 35 (3 * (40 * n + g) + c)) ∧ ∀ o : Int, 0 ≤ o → o < M 33 n → M (nA n + 3) o = M 36 (4 * n + o)
def nSy (M : zM) : Prop := ∀ n : Int, 0 ≤ n → n < 3 → nSn M n
theorem nSn_fr {M M' : zM} {n : Int} (h : nSn M n) (e0 : M' (nA n) = M (nA n)) (e1 : M' (nA n + 1) = M (nA n + 1)) (e2 : M' (nA n + 2) = M (nA n + 2)) (e3 : M' (nA n + 3) = M (nA n + 3)) (e32 : M' 32 = M 32) (e33 : M' 33 = M 33) (e34 : M' 34 = M 34) (e35 : M' 35 = M 35) (e36 : M' 36 = M 36) : nSn M' n := by
  unfold nSn
  rw [e0, e1, e2, e3, e32, e33, e34, e35, e36]
  exact h
theorem nSy_fr {M M' : zM} (h : nSy M) (fr : ∀ a : Nat, 15 < a → a < 37 → ¬ a = 20 → ¬ a = 25 → ¬ a = 30 → ¬ a = 31 → M' a = M a) : nSy M' := fun n a b => nSn_fr (h n a b) (fr _ (by unfold nA; omega) (by unfold nA; omega) (by unfold nA; omega) (by unfold nA; omega) (by unfold nA; omega) (by unfold nA; omega)) (fr _ (by unfold nA; omega) (by unfold nA; omega) (by unfold nA; omega) (by unfold nA; omega) (by unfold nA; omega) (by unfold nA; omega)) (fr _ (by unfold nA; omega) (by unfold nA; omega) (by unfold nA; omega) (by unfold nA; omega) (by unfold nA; omega) (by unfold nA; omega)) (fr _ (by unfold nA; omega) (by unfold nA; omega) (by unfold nA; omega) (by unfold nA; omega) (by unfold nA; omega) (by unfold nA; omega)) (fr 32 (by decide) (by decide) (by decide) (by decide) (by decide) (by decide)) (fr 33 (by decide) (by decide) (by decide) (by decide) (by decide) (by decide)) (fr 34 (by decide) (by decide) (by decide) (by decide) (by decide) (by decide)) (fr 35 (by decide) (by decide) (by decide) (by decide) (by decide) (by decide)) (fr 36 (by decide) (by decide) (by decide) (by decide) (by decide) (by decide))
/-- both sides between two calls -/
def LI (M : zM) (J : zJ) : Prop := cI M ∧ RI M J ∧ nSy M
theorem LI_z {M : zM} {J : zJ} (hc : cF M) (hr : rZ M J) : LI M J := by
  refine ⟨hc.1, RI_z hr, fun n a b => ?_⟩
  have z : ∀ a : Nat, 31 < a → a ≠ 38 → a ≠ 39 → a ≠ 50 → a ≠ 51 → ∀ k, M a k = 0 := hr.1
  have z32 := z 32 (by decide) (by decide) (by decide) (by decide) (by decide) n
  have z33 := z 33 (by decide) (by decide) (by decide) (by decide) (by decide) n
  exact ⟨by rw [z32]; exact hc.2.2.2.2.1 n a b, by rw [z33]; exact hc.2.2.2.1 n a b, fun g g0 g1 => by omega, fun o o0 o1 => by omega⟩
/-- behind a call of the class that keeps the nets -/
theorem LI_c {M M' : zM} {J : zJ} (h : LI M J) (hc : cI M') (fr : ∀ a : Nat, kPub a → M' a = M a) : LI M' J :=
  ⟨hc, RI_fr h.2.1 (fun a ha => fr a (by unfold kPub; omega)), nSy_fr h.2.2 (fun a h1 _ h2 h3 h4 _ => fr a (by unfold kPub; omega))⟩
/-- behind a call of the reference that keeps the nets -/
theorem LI_r {M M' : zM} {J J' : zJ} (h : LI M J) (hr : RI M' J') (fr : ∀ a : Nat, (a < 31 ∨ (31 < a ∧ a < 37)) → M' a = M a) : LI M' J' :=
  ⟨cI_lo h.1 (fun a ha => fr a (by omega)), hr, nSy_fr h.2.2 (fun a _ h1 _ _ _ h2 => fr a (by omega))⟩
def cG (M : zM) (net k u v w : Int) : zM := uz (uz (uz (uz (uz M (nA net + 1) (M (nA net) 4) k) (nA net + 2) (3 * M (nA net) 4) u) (nA net + 2) (3 * M (nA net) 4 + 1) v) (nA net + 2) (3 * M (nA net) 4 + 2) w) (nA net) 4 (M (nA net) 4 + 1)
def rG (M : zM) (net k u v w : Int) : zM := uz (uz (uz (uz (uz M 34 (40 * net + M 32 net) k) 35 (3 * (40 * net + M 32 net)) u) 35 (3 * (40 * net + M 32 net) + 1) v) 35 (3 * (40 * net + M 32 net) + 2) w) 32 net (M 32 net + 1)
section NG
variable {M : zM} {net k u v w : Int}
theorem cG_o {a : Nat} (h0 : a ≠ nA net) (h1 : a ≠ nA net + 1) (h2 : a ≠ nA net + 2) : cG M net k u v w a = M a := by
  unfold cG
  rw [uz_o h0, uz_o h2, uz_o h2, uz_o h2, uz_o h1]
theorem cG_b {j : Int} (h : j ≠ 4) : cG M net k u v w (nA net) j = M (nA net) j := by
  unfold cG
  rw [uz_n h, uz_oo (by omega), uz_oo (by omega), uz_oo (by omega), uz_oo (by omega)]
theorem cG_4 : cG M net k u v w (nA net) 4 = M (nA net) 4 + 1 := by
  unfold cG
  rw [uz_s]
theorem cG_1 : cG M net k u v w (nA net + 1) = updI (M (nA net + 1)) (M (nA net) 4) k := by
  unfold cG
  rw [uz_o (by omega), uz_o (by omega), uz_o (by omega), uz_o (by omega), uz_fn]
theorem cG_2 {j : Int} (h : j < 3 * M (nA net) 4) : cG M net k u v w (nA net + 2) j = M (nA net + 2) j := by
  unfold cG
  rw [uz_oo (by omega), uz_n (by omega), uz_n (by omega), uz_n (by omega), uz_oo (by omega)]
theorem cG_2n {c : Int} (h0 : 0 ≤ c) (h1 : c < 3) : cG M net k u v w (nA net + 2) (3 * M (nA net) 4 + c) = if c = 0 then u else if c = 1 then v else w := by
  unfold cG
  rw [uz_oo (by omega)]
  rcases (show c = 0 ∨ c = 1 ∨ c = 2 by omega) with rfl | rfl | rfl
  · rw [uz_n (by omega), uz_n (by omega), Int.add_zero, uz_s]; rfl
  · rw [uz_n (by omega), uz_s]; rfl
  · rw [uz_s]; rfl
theorem rG_o {a : Nat} (h0 : a ≠ 32) (h1 : a ≠ 34) (h2 : a ≠ 35) : rG M net k u v w a = M a := by
  unfold rG
  rw [uz_o h0, uz_o h2, uz_o h2, uz_o h2, uz_o h1]
theorem rG_32 : rG M net k u v w 32 = updI (M 32) net (M 32 net + 1) := by
  unfold rG
  rw [uz_fn, uz_o (by decide), uz_o (by decide), uz_o (by decide), uz_o (by decide)]
theorem rG_34 : rG M net k u v w 34 = updI (M 34) (40 * net + M 32 net) k := by
  unfold rG
  rw [uz_o (by decide), uz_o (by decide), uz_o (by decide), uz_o (by decide), uz_fn]
theorem rG_35 {j : Int} (h : j < 3 * (40 * net + M 32 net) ∨ 3 * (40 * net + M 32 net) + 3 ≤ j) : rG M net k u v w 35 j = M 35 j := by
  unfold rG
  rw [uz_oo (by decide), uz_n (by omega), uz_n (by omega), uz_n (by omega), uz_oo (by decide)]
theorem rG_35n {c : Int} (h0 : 0 ≤ c) (h1 : c < 3) : rG M net k u v w 35 (3 * (40 * net + M 32 net) + c) = if c = 0 then u else if c = 1 then v else w := by
  unfold rG
  rw [uz_oo (by decide)]
  rcases (show c = 0 ∨ c = 1 ∨ c = 2 by omega) with rfl | rfl | rfl
  · rw [uz_n (by omega), uz_n (by omega), Int.add_zero, uz_s]; rfl
  · rw [uz_n (by omega), uz_s]; rfl
  · rw [uz_s]; rfl
/-- of what is told a gate more -/
theorem opd_ok {G c : Int} (hop : ((opF k < 1 ∨ (0 ≤ u ∧ u < G)) ∧ (opF k < 2 ∨ (0 ≤ v ∧ v < G)) ∧ (opF k < 3 ∨ (0 ≤ w ∧ w < G)))) (h0 : 0 ≤ c) (h1 : c < opF k) : 0 ≤ (if c = 0 then u else if c = 1 then v else w) ∧ (if c = 0 then u else if c = 1 then v else w) < G := by
  have := opF_in k
  rcases (show c = 0 ∨ c = 1 ∨ c = 2 by omega) with rfl | rfl | rfl
  · show 0 ≤ u ∧ u < G; omega
  · show 0 ≤ v ∧ v < G; omega
  · show 0 ≤ w ∧ w < G; omega
theorem netOK_g (h : netOK M (nA net)) (hop : ((opF k < 1 ∨ (0 ≤ u ∧ u < M (nA net) 4)) ∧ (opF k < 2 ∨ (0 ≤ v ∧ v < M (nA net) 4)) ∧ (opF k < 3 ∨ (0 ≤ w ∧ w < M (nA net) 4)))) (hv : ¬ k = 0 ∨ (0 ≤ u ∧ u < 8)) : netOK (cG M net k u v w) (nA net) := by
  refine ⟨fun g g0 g1 => ?_, fun o o0 o1 => ?_⟩
  · rw [cG_4] at g1
    rw [cG_1]
    by_cases e : g = M (nA net) 4
    · rw [e, updI_s]
      refine ⟨fun i i0 i1 => ?_, fun q => ?_⟩
      · have := opF_in k
        rw [cG_2n i0 (by omega)]
        exact opd_ok hop i0 i1
      · have z := cG_2n (M := M) (net := net) (k := k) (u := u) (v := v) (w := w) (c := 0) (by decide) (by decide)
        rw [Int.add_zero, if_pos rfl] at z
        rw [z]
        omega
    · rw [updI_n e]
      obtain ⟨q1, q2⟩ := h.1 g g0 (by omega)
      refine ⟨fun i i0 i1 => ?_, fun q => ?_⟩
      · have := opF_in (M (nA net + 1) g)
        rw [cG_2 (by omega)]
        exact q1 i i0 i1
      · rw [cG_2 (by omega)]
        exact q2 q
  · rw [cG_b (by decide)] at o1
    rw [cG_4, cG_o (by omega) (by omega) (by omega)]
    have := h.2 o o0 o1
    omega
theorem rNt_g {n : Int} (h : rNt M n) (n0 : 0 ≤ net) (n1 : net < 3) (hn0 : 0 ≤ n) (hn1 : n < 3) (hok : ∀ j, 0 ≤ M 32 j ∧ M 32 j ≤ 40) (hlt : M 32 net < 40) (hop : ((opF k < 1 ∨ (0 ≤ u ∧ u < M 32 net)) ∧ (opF k < 2 ∨ (0 ≤ v ∧ v < M 32 net)) ∧ (opF k < 3 ∨ (0 ≤ w ∧ w < M 32 net)))) (hv : ¬ k = 0 ∨ (0 ≤ u ∧ u < 8)) : rNt (rG M net k u v w) n := by
  have r1 := hok net
  have r2 := hok n
  refine ⟨fun g g0 g1 => ?_, fun o o0 o1 => ?_⟩
  · rw [rG_32] at g1
    rw [rG_34]
    by_cases e : n = net ∧ g = M 32 net
    · obtain ⟨rfl, rfl⟩ := e
      rw [updI_s]
      refine ⟨fun i i0 i1 => ?_, fun q => ?_⟩
      · have := opF_in k
        rw [rG_35n i0 (by omega)]
        exact opd_ok hop i0 i1
      · have z := rG_35n (M := M) (net := n) (k := k) (u := u) (v := v) (w := w) (c := 0) (by decide) (by decide)
        rw [Int.add_zero, if_pos rfl] at z
        rw [z]
        omega
    · have hg : g < M 32 n := by
        by_cases q : n = net
        · subst q
          rw [updI_s] at g1
          have : g ≠ M 32 n := fun z => e ⟨rfl, z⟩
          omega
        · rw [updI_n q] at g1; exact g1
      have hne : 40 * n + g ≠ 40 * net + M 32 net := fun z => e (by omega)
      rw [updI_n hne]
      obtain ⟨q1, q2⟩ := h.1 g g0 hg
      refine ⟨fun i i0 i1 => ?_, fun q => ?_⟩
      · have := opF_in (M 34 (40 * n + g))
        rw [rG_35 (by omega)]
        exact q1 i i0 i1
      · rw [rG_35 (by omega)]
        exact q2 q
  · rw [rG_o (by decide) (by decide) (by decide)] at o1
    have := h.2 o o0 o1
    rw [rG_32, rG_o (by decide) (by decide) (by decide)]
    by_cases q : n = net
    · subst q; rw [updI_s]; omega
    · rw [updI_n q]; exact this
end NG
theorem cI_at {M M' : zM} {net : Int} (hc : cI M) (n0 : 0 ≤ net) (n1 : net < 3) (fr : ∀ a : Nat, a < 31 → (a < nA net ∨ nA net + 3 < a) → M' a = M a) (hn : netOK M' (nA net)) : cI M' := by
  obtain ⟨h1, h2, h3, h4, h5⟩ := hc
  have key : ∀ b : Nat, (b = 16 ∨ b = 21 ∨ b = 26) → netOK M b → netOK M' b := fun b hb h => by
    by_cases e : b = nA net
    · rw [e]; exact hn
    · unfold nA at *
      exact netOK_fr h (fr _ (by omega) (by omega)) (fr _ (by omega) (by omega)) (fr _ (by omega) (by omega)) (fr _ (by omega) (by omega))
  exact ⟨pI_fr h1 (fr 5 (by decide) (by unfold nA; omega)) (fr 6 (by decide) (by unfold nA; omega)) (fr 10 (by decide) (by unfold nA; omega)) (fr 11 (by decide) (by unfold nA; omega)), ordOK_fr h2 (fr 4 (by decide) (by unfold nA; omega)), key 16 (by decide) h3, key 21 (by decide) h4, key 26 (by decide) h5⟩
theorem LI_gate {M M1 M2 : zM} {J : zJ} {net k u v w x y : Int} (h : LI M J) (hok : zOK M) (h1 : (((net < 0 ∨ 3 ≤ net) ∧ x = -1 ∧ M1 = M) ∨ (0 ≤ net ∧ net < 3 ∧ (k < 0 ∨ 10 < k) ∧ x = -2 ∧ M1 = M) ∨ (0 ≤ net ∧ net < 3 ∧ 0 ≤ k ∧ k ≤ 10 ∧ ¬ ((opF k < 1 ∨ (0 ≤ u ∧ u < M (nA net) 4)) ∧ (opF k < 2 ∨ (0 ≤ v ∧ v < M (nA net) 4)) ∧ (opF k < 3 ∨ (0 ≤ w ∧ w < M (nA net) 4))) ∧ x = -1 ∧ M1 = M) ∨ (0 ≤ net ∧ net < 3 ∧ 0 ≤ k ∧ k ≤ 10 ∧ ((opF k < 1 ∨ (0 ≤ u ∧ u < M (nA net) 4)) ∧ (opF k < 2 ∨ (0 ≤ v ∧ v < M (nA net) 4)) ∧ (opF k < 3 ∨ (0 ≤ w ∧ w < M (nA net) 4))) ∧ ((k = 0 ∧ (u < 0 ∨ 8 ≤ u) ∧ x = -2 ∧ M1 = M) ∨ ((¬ k = 0 ∨ (0 ≤ u ∧ u < 8)) ∧ ((x = -4 ∧ M1 = M ∧ 40 ≤ M (nA net) 4) ∨ (x = M (nA net) 4 ∧ M (nA net) 4 < 40 ∧ M1 = uz (uz (uz (uz (uz M (nA net + 1) (M (nA net) 4) k) (nA net + 2) (3 * M (nA net) 4) u) (nA net + 2) (3 * M (nA net) 4 + 1) v) (nA net + 2) (3 * M (nA net) 4 + 2) w) (nA net) 4 (M (nA net) 4 + 1)))))))) (h2 : (((net < 0 ∨ 3 ≤ net) ∧ y = -1 ∧ M2 = M1) ∨ (0 ≤ net ∧ net < 3 ∧ (k < 0 ∨ 10 < k) ∧ y = -2 ∧ M2 = M1) ∨ (0 ≤ net ∧ net < 3 ∧ 0 ≤ k ∧ k ≤ 10 ∧ ¬ ((opF k < 1 ∨ (0 ≤ u ∧ u < M1 32 net)) ∧ (opF k < 2 ∨ (0 ≤ v ∧ v < M1 32 net)) ∧ (opF k < 3 ∨ (0 ≤ w ∧ w < M1 32 net))) ∧ y = -1 ∧ M2 = M1) ∨ (0 ≤ net ∧ net < 3 ∧ 0 ≤ k ∧ k ≤ 10 ∧ ((opF k < 1 ∨ (0 ≤ u ∧ u < M1 32 net)) ∧ (opF k < 2 ∨ (0 ≤ v ∧ v < M1 32 net)) ∧ (opF k < 3 ∨ (0 ≤ w ∧ w < M1 32 net))) ∧ ((k = 0 ∧ (u < 0 ∨ 8 ≤ u) ∧ y = -2 ∧ M2 = M1) ∨ ((¬ k = 0 ∨ (0 ≤ u ∧ u < 8)) ∧ ((y = -4 ∧ M2 = M1 ∧ 40 ≤ M1 32 net) ∨ (y = M1 32 net ∧ M1 32 net < 40 ∧ M2 = uz (uz (uz (uz (uz M1 34 (40 * net + M1 32 net) k) 35 (3 * (40 * net + M1 32 net)) u) 35 (3 * (40 * net + M1 32 net) + 1) v) 35 (3 * (40 * net + M1 32 net) + 2) w) 32 net (M1 32 net + 1)))))))) : x = y ∧ LI M2 J ∧ M2 31 27 = M 31 27 := by
  by_cases hn : 0 ≤ net ∧ net < 3
  · obtain ⟨n0, n1⟩ := hn
    have s4 := (h.2.2 net n0 n1).1
    have key : (M1 = M ∧ M2 = M1 ∧ x = y) ∨ (x = y ∧ ((opF k < 1 ∨ (0 ≤ u ∧ u < M (nA net) 4)) ∧ (opF k < 2 ∨ (0 ≤ v ∧ v < M (nA net) 4)) ∧ (opF k < 3 ∨ (0 ≤ w ∧ w < M (nA net) 4))) ∧ (¬ k = 0 ∨ (0 ≤ u ∧ u < 8)) ∧ M 32 net < 40 ∧ M1 = cG M net k u v w ∧ M2 = rG M1 net k u v w) := by
      rcases h1 with ⟨q, -⟩ | ⟨-, -, q, hx, rfl⟩ | ⟨-, -, a1, a2, q, hx, rfl⟩ | ⟨-, -, a1, a2, q, ⟨b1, b2, hx, rfl⟩ | ⟨b1, ⟨hx, rfl, b2⟩ | ⟨hx, b2, e1⟩⟩⟩
      · omega
      · rcases h2 with ⟨q, -⟩ | ⟨-, -, -, hy, e⟩ | ⟨-, -, c1, c2, -⟩ | ⟨-, -, c1, c2, -⟩
        · omega
        · exact Or.inl ⟨rfl, e, by omega⟩
        · omega
        · omega
      · rcases h2 with ⟨z, -⟩ | ⟨-, -, z, -⟩ | ⟨-, -, -, -, -, hy, e⟩ | ⟨-, -, -, -, z, -⟩
        · omega
        · omega
        · exact Or.inl ⟨rfl, e, by omega⟩
        · rw [s4] at q; exact absurd z q
      · rcases h2 with ⟨z, -⟩ | ⟨-, -, z, -⟩ | ⟨-, -, -, -, z, -⟩ | ⟨-, -, -, -, z, ⟨-, -, hy, e⟩ | ⟨c1, -⟩⟩
        · omega
        · omega
        · rw [s4] at q; exact absurd q z
        · exact Or.inl ⟨rfl, e, by omega⟩
        · omega
      · rcases h2 with ⟨z, -⟩ | ⟨-, -, z, -⟩ | ⟨-, -, -, -, z, -⟩ | ⟨-, -, -, -, z, ⟨c0, c1, -⟩ | ⟨-, ⟨hy, e, -⟩ | ⟨hy, c2, -⟩⟩⟩
        · omega
        · omega
        · rw [s4] at q; exact absurd q z
        · omega
        · exact Or.inl ⟨rfl, e, by omega⟩
        · omega
      · have e32 : M1 32 = M 32 := by rw [e1]; exact cG_o (by unfold nA; omega) (by unfold nA; omega) (by unfold nA; omega)
        rcases h2 with ⟨z, -⟩ | ⟨-, -, z, -⟩ | ⟨-, -, -, -, z, -⟩ | ⟨-, -, -, -, z, ⟨c0, c1, -⟩ | ⟨-, ⟨hy, e, c2⟩ | ⟨hy, c2, e2⟩⟩⟩
        · omega
        · omega
        · rw [s4] at q; rw [e32] at z; exact absurd q z
        · omega
        · rw [e32] at c2; omega
        · rw [e32] at hy c2
          exact Or.inr ⟨by omega, q, b1, by omega, e1, e2⟩
    rcases key with ⟨rfl, rfl, e⟩ | ⟨e, hop, hv, hlt, rfl, rfl⟩
    · exact ⟨e, h, rfl⟩
    · have oc : ∀ a : Nat, (a < nA net ∨ nA net + 2 < a) → cG M net k u v w a = M a := fun a ha => cG_o (by omega) (by omega) (by omega)
      have o1 : ∀ a : Nat, 31 ≤ a → cG M net k u v w a = M a := fun a ha => oc a (by unfold nA; omega)
      have or : ∀ a : Nat, a < 31 → rG (cG M net k u v w) net k u v w a = cG M net k u v w a := fun a ha => rG_o (by omega) (by omega) (by omega)
      have c1 : cI (cG M net k u v w) := cI_at h.1 n0 n1 (fun a _ hb => oc a (by omega)) (netOK_g (cI_net h.1 (nA_at n0 n1)) hop hv)
      have r1 : RI (cG M net k u v w) J := RI_fr h.2.1 o1
      have e32 : cG M net k u v w 32 = M 32 := o1 32 (by decide)
      have ok1 : ∀ j, 0 ≤ cG M net k u v w 32 j ∧ cG M net k u v w 32 j ≤ 40 := fun j => by rw [e32]; exact hok 32 j
      refine ⟨e, ⟨cI_lo c1 or, ?_, fun n a b => ?_⟩, ?_⟩
      · refine ⟨TI_cg r1.1 (fun a a1 a2 => rG_o (by omega) (by omega) (by omega)) ?_ ?_ ?_ rfl rfl, fun g a b => ?_, ?_, ?_, fun n a b => ?_⟩
        · rw [rG_o (by decide) (by decide) (by decide)]
        · rw [rG_o (by decide) (by decide) (by decide)]
        · rw [rG_o (by decide) (by decide) (by decide)]
        · rw [rG_o (by decide) (by decide) (by decide)]; exact r1.2.1 g a b
        · rw [rG_o (by decide) (by decide) (by decide)]; exact r1.2.2.1
        · unfold rOrd; rw [rG_o (by decide) (by decide) (by decide)]; exact r1.2.2.2.1
        · exact rNt_g (r1.2.2.2.2 n a b) n0 n1 a b ok1 (by rw [e32]; exact hlt) (by rw [e32, ← s4]; exact hop) hv
      · have hs := h.2.2 n a b
        by_cases q : n = net
        · subst q
          obtain ⟨z1, z2, z3, z4⟩ := hs
          refine ⟨?_, ?_, fun g g0 g1 => ?_, fun o o0 o1' => ?_⟩
          · rw [or _ (by unfold nA; omega), cG_4, rG_32, updI_s, e32]; omega
          · rw [or _ (by unfold nA; omega), cG_b (by decide), rG_o (by decide) (by decide) (by decide), o1 33 (by decide)]; exact z2
          · rw [rG_32, updI_s, e32] at g1
            rw [or (nA n + 1) (by unfold nA; omega), or (nA n + 2) (by unfold nA; omega), cG_1, rG_34, e32, o1 34 (by decide)]
            by_cases w1 : g = M 32 n
            · rw [w1, updI_s, s4, updI_s]
              refine ⟨rfl, fun c c0 c1 => ?_⟩
              have t1 := cG_2n (M := M) (net := n) (k := k) (u := u) (v := v) (w := w) c0 c1
              have t2 := rG_35n (M := cG M n k u v w) (net := n) (k := k) (u := u) (v := v) (w := w) c0 c1
              rw [s4] at t1
              rw [e32] at t2
              rw [t1, t2]
            · rw [updI_n (by omega), updI_n (by omega)]
              obtain ⟨t1, t2⟩ := z3 g g0 (by omega)
              refine ⟨t1, fun c c0 c1 => ?_⟩
              rw [cG_2 (by omega), rG_35 (by rw [e32]; omega), o1 35 (by decide)]
              exact t2 c c0 c1
          · rw [rG_o (by decide) (by decide) (by decide), o1 33 (by decide)] at o1'
            rw [or _ (by unfold nA; omega), oc _ (by omega), rG_o (by decide) (by decide) (by decide), o1 36 (by decide)]
            exact z4 o o0 o1'
        · obtain ⟨z1, z2, z3, z4⟩ := hs
          have ra : ∀ i : Nat, i ≤ 3 → rG (cG M net k u v w) net k u v w (nA n + i) = M (nA n + i) := fun i hi => by
            rw [or _ (by unfold nA; omega), oc _ (by unfold nA; omega)]
          have r0 := ra 0 (by decide)
          rw [Nat.add_zero] at r0
          have t32 : 0 ≤ M 32 n ∧ M 32 n ≤ 40 := hok 32 n
          have u32 : 0 ≤ M 32 net ∧ M 32 net ≤ 40 := hok 32 net
          refine ⟨?_, ?_, fun g g0 g1 => ?_, fun o o0 o1' => ?_⟩
          · rw [r0, rG_32, updI_n q, e32]; exact z1
          · rw [r0, rG_o (by decide) (by decide) (by decide), o1 33 (by decide)]; exact z2
          · rw [rG_32, updI_n q, e32] at g1
            obtain ⟨t1, t2⟩ := z3 g g0 g1
            rw [ra 1 (by decide), ra 2 (by decide), rG_34, updI_n (by rw [e32]; omega), o1 34 (by decide)]
            refine ⟨t1, fun c c0 c1 => ?_⟩
            rw [rG_35 (by rw [e32]; omega), o1 35 (by decide)]
            exact t2 c c0 c1
          · rw [rG_o (by decide) (by decide) (by decide), o1 33 (by decide)] at o1'
            rw [ra 3 (by decide), rG_o (by decide) (by decide) (by decide), o1 36 (by decide)]
            exact z4 o o0 o1'
      · rw [rG_o (by decide) (by decide) (by decide), o1 31 (by decide)]
  · rcases h1 with ⟨-, hx, rfl⟩ | ⟨a, b, -⟩ | ⟨a, b, -⟩ | ⟨a, b, -⟩
    · rcases h2 with ⟨-, hy, rfl⟩ | ⟨a, b, -⟩ | ⟨a, b, -⟩ | ⟨a, b, -⟩
      · exact ⟨by omega, h, rfl⟩
      · exact absurd ⟨a, b⟩ hn
      · exact absurd ⟨a, b⟩ hn
      · exact absurd ⟨a, b⟩ hn
    · exact absurd ⟨a, b⟩ hn
    · exact absurd ⟨a, b⟩ hn
    · exact absurd ⟨a, b⟩ hn
def cOu (M : zM) (net g : Int) : zM := uz (uz M (nA net + 3) (M (nA net) 5) g) (nA net) 5 (M (nA net) 5 + 1)
def rOu (M : zM) (net g : Int) : zM := uz (uz M 36 (4 * net + M 33 net) g) 33 net (M 33 net + 1)
theorem LI_out {M M1 M2 : zM} {J : zJ} {net g x y : Int} (h : LI M J) (hok : zOK M) (h1 : (((net < 0 ∨ 3 ≤ net) ∧ x = -1 ∧ M1 = M) ∨ (0 ≤ net ∧ net < 3 ∧ (g < 0 ∨ M (nA net) 4 ≤ g) ∧ x = -1 ∧ M1 = M) ∨ (0 ≤ net ∧ net < 3 ∧ 0 ≤ g ∧ g < M (nA net) 4 ∧ ((x = -4 ∧ M1 = M ∧ 4 ≤ M (nA net) 5) ∨ (x = M (nA net) 5 ∧ M (nA net) 5 < 4 ∧ M1 = uz (uz M (nA net + 3) (M (nA net) 5) g) (nA net) 5 (M (nA net) 5 + 1)))))) (h2 : (((net < 0 ∨ 3 ≤ net) ∧ y = -1 ∧ M2 = M1) ∨ (0 ≤ net ∧ net < 3 ∧ (g < 0 ∨ M1 32 net ≤ g) ∧ y = -1 ∧ M2 = M1) ∨ (0 ≤ net ∧ net < 3 ∧ 0 ≤ g ∧ g < M1 32 net ∧ ((y = -4 ∧ M2 = M1 ∧ 4 ≤ M1 33 net) ∨ (y = M1 33 net ∧ M1 33 net < 4 ∧ M2 = uz (uz M1 36 (4 * net + M1 33 net) g) 33 net (M1 33 net + 1)))))) : x = y ∧ LI M2 J ∧ M2 31 27 = M 31 27 := by
  by_cases hn : 0 ≤ net ∧ net < 3
  · obtain ⟨n0, n1⟩ := hn
    obtain ⟨s4, s5, -⟩ := h.2.2 net n0 n1
    have key : (M1 = M ∧ M2 = M1 ∧ x = y) ∨ (x = y ∧ 0 ≤ g ∧ g < M 32 net ∧ M 33 net < 4 ∧ M1 = cOu M net g ∧ M2 = rOu M1 net g) := by
      rcases h1 with ⟨q, -⟩ | ⟨-, -, q, hx, rfl⟩ | ⟨-, -, a1, a2, ⟨hx, rfl, b2⟩ | ⟨hx, b2, e1⟩⟩
      · omega
      · rcases h2 with ⟨z, -⟩ | ⟨-, -, -, hy, e⟩ | ⟨-, -, c1, c2, -⟩
        · omega
        · exact Or.inl ⟨rfl, e, by omega⟩
        · omega
      · rcases h2 with ⟨z, -⟩ | ⟨-, -, z, -⟩ | ⟨-, -, c1, c2, ⟨hy, e, -⟩ | ⟨hy, c3, -⟩⟩
        · omega
        · omega
        · exact Or.inl ⟨rfl, e, by omega⟩
        · omega
      · have o : ∀ a : Nat, 31 ≤ a → M1 a = M a := fun a ha => by rw [e1, uz_o (by unfold nA; omega), uz_o (by unfold nA; omega)]
        rcases h2 with ⟨z, -⟩ | ⟨-, -, z, -⟩ | ⟨-, -, c1, c2, ⟨hy, e, c3⟩ | ⟨hy, c3, e2⟩⟩
        · omega
        · rw [o 32 (by decide)] at z; omega
        · rw [o 33 (by decide)] at c3; omega
        · rw [o 33 (by decide)] at c3 hy
          rw [o 32 (by decide)] at c2
          exact Or.inr ⟨by omega, a1, c2, by omega, e1, e2⟩
    rcases key with ⟨rfl, rfl, e⟩ | ⟨e, g0, g1, hlt, e1, e2⟩
    · exact ⟨e, h, rfl⟩
    · have oc : ∀ a : Nat, a ≠ nA net → a ≠ nA net + 3 → M1 a = M a := fun a h1 h2 => by rw [e1]; unfold cOu; rw [uz_o h1, uz_o h2]
      have o1 : ∀ a : Nat, 31 ≤ a → M1 a = M a := fun a ha => oc a (by unfold nA; omega) (by unfold nA; omega)
      have or : ∀ a : Nat, a ≠ 33 → a ≠ 36 → M2 a = M1 a := fun a h1 h2 => by rw [e2]; unfold rOu; rw [uz_o h1, uz_o h2]
      have c5 : M1 (nA net) 5 = M (nA net) 5 + 1 := by rw [e1]; unfold cOu; rw [uz_s]
      have c4 : M1 (nA net) 4 = M (nA net) 4 := by rw [e1]; unfold cOu; rw [uz_n (by decide), uz_oo (by omega)]
      have c3 : M1 (nA net + 3) = updI (M (nA net + 3)) (M (nA net) 5) g := by rw [e1]; unfold cOu; rw [uz_o (by omega), uz_fn]
      have r33 : M2 33 = updI (M 33) net (M 33 net + 1) := by rw [e2]; unfold rOu; rw [uz_fn, uz_o (by decide), o1 33 (by decide)]
      have r36 : M2 36 = updI (M 36) (4 * net + M 33 net) g := by rw [e2]; unfold rOu; rw [uz_o (by decide), uz_fn, o1 36 (by decide), o1 33 (by decide)]
      have hnk := cI_net h.1 (nA_at n0 n1)
      have c1 : cI M1 := cI_at h.1 n0 n1 (fun a _ hb => oc a (by omega) (by omega)) ⟨fun q q0 q1 => by
        rw [c4] at q1
        rw [oc (nA net + 1) (by omega) (by omega), oc (nA net + 2) (by omega) (by omega)]
        exact hnk.1 q q0 q1, fun o o0 o1' => by
        rw [c5] at o1'
        rw [c3, c4]
        by_cases z : o = M (nA net) 5
        · rw [z, updI_s]; omega
        · rw [updI_n z]; exact hnk.2 o o0 (by omega)⟩
      have r1 : RI M1 J := RI_fr h.2.1 o1
      refine ⟨e, ⟨cI_lo c1 (fun a ha => or a (by omega) (by omega)), ?_, fun n a b => ?_⟩, ?_⟩
      · refine ⟨TI_cg r1.1 (fun a a1 a2 => or a (by omega) (by omega)) (by rw [or 31 (by decide) (by decide)]) (by rw [or 31 (by decide) (by decide)]) (by rw [or 31 (by decide) (by decide)]) rfl rfl, fun q a b => by rw [or 43 (by decide) (by decide)]; exact r1.2.1 q a b, by rw [or 31 (by decide) (by decide)]; exact r1.2.2.1, by unfold rOrd; rw [or 39 (by decide) (by decide)]; exact r1.2.2.2.1, fun n a b => ?_⟩
        obtain ⟨z1, z2⟩ := h.2.1.2.2.2.2 n a b
        refine ⟨?_, fun o o0 o1' => ?_⟩
        · rw [or 32 (by decide) (by decide), or 34 (by decide) (by decide), or 35 (by decide) (by decide), o1 32 (by decide), o1 34 (by decide), o1 35 (by decide)]
          exact z1
        · rw [r33] at o1'
          rw [or 32 (by decide) (by decide), o1 32 (by decide), r36]
          have t33 : 0 ≤ M 33 n ∧ M 33 n ≤ 4 := hok 33 n
          have u33 : 0 ≤ M 33 net ∧ M 33 net ≤ 4 := hok 33 net
          by_cases q : n = net ∧ o = M 33 net
          · obtain ⟨rfl, rfl⟩ := q
            rw [updI_s]; exact g1
          · have ho : o < M 33 n := by
              by_cases t : n = net
              · subst t
                rw [updI_s] at o1'
                have : o ≠ M 33 n := fun t2 => q ⟨rfl, t2⟩
                omega
              · rw [updI_n t] at o1'; exact o1'
            rw [updI_n (fun t => q (by omega))]
            exact z2 o o0 ho
      · obtain ⟨z1, z2, z3, z4⟩ := h.2.2 n a b
        by_cases q : n = net
        · subst q
          refine ⟨?_, ?_, ?_, fun o o0 o1' => ?_⟩
          · rw [or _ (by unfold nA; omega) (by unfold nA; omega), c4, or 32 (by decide) (by decide), o1 32 (by decide)]; exact z1
          · rw [or _ (by unfold nA; omega) (by unfold nA; omega), c5, r33, updI_s]; omega
          · rw [or 32 (by decide) (by decide), or 34 (by decide) (by decide), or 35 (by decide) (by decide), o1 32 (by decide), o1 34 (by decide), o1 35 (by decide), or (nA n + 1) (by unfold nA; omega) (by unfold nA; omega), or (nA n + 2) (by unfold nA; omega) (by unfold nA; omega), oc (nA n + 1) (by omega) (by omega), oc (nA n + 2) (by omega) (by omega)]
            exact z3
          · rw [r33, updI_s] at o1'
            rw [or _ (by unfold nA; omega) (by unfold nA; omega), c3, r36, z2]
            by_cases t : o = M 33 n
            · rw [t, updI_s, updI_s]
            · rw [updI_n t, updI_n (by omega)]; exact z4 o o0 (by omega)
        · have ra : ∀ i : Nat, i ≤ 3 → M2 (nA n + i) = M (nA n + i) := fun i hi => by
            rw [or _ (by unfold nA; omega) (by unfold nA; omega), oc _ (by unfold nA; omega) (by unfold nA; omega)]
          have r0 := ra 0 (by decide)
          rw [Nat.add_zero] at r0
          have t33 : 0 ≤ M 33 n ∧ M 33 n ≤ 4 := hok 33 n
          have u33 : 0 ≤ M 33 net ∧ M 33 net ≤ 4 := hok 33 net
          refine ⟨?_, ?_, ?_, fun o o0 o1' => ?_⟩
          · rw [r0, or 32 (by decide) (by decide), o1 32 (by decide)]; exact z1
          · rw [r0, r33, updI_n q]; exact z2
          · rw [or 32 (by decide) (by decide), or 34 (by decide) (by decide), or 35 (by decide) (by decide), o1 32 (by decide), o1 34 (by decide), o1 35 (by decide), ra 1 (by decide), ra 2 (by decide)]
            exact z3
          · rw [r33, updI_n q] at o1'
            rw [ra 3 (by decide), r36, updI_n (by omega)]
            exact z4 o o0 o1'
      · rw [or 31 (by decide) (by decide), o1 31 (by decide)]
  · rcases h1 with ⟨-, hx, rfl⟩ | ⟨a, b, -⟩ | ⟨a, b, -⟩
    · rcases h2 with ⟨-, hy, rfl⟩ | ⟨a, b, -⟩ | ⟨a, b, -⟩
      · exact ⟨by omega, h, rfl⟩
      · exact absurd ⟨a, b⟩ hn
      · exact absurd ⟨a, b⟩ hn
    · exact absurd ⟨a, b⟩ hn
    · exact absurd ⟨a, b⟩ hn
theorem LI_clr {M M1 M2 : zM} {J : zJ} {net x y : Int} (h : LI M J) (h1 : ((net < 0 ∨ 3 ≤ net) ∧ x = -1 ∧ M1 = M) ∨ (0 ≤ net ∧ net < 3 ∧ x = M (nA net) 4 ∧ M1 = uz (uz M (nA net) 4 0) (nA net) 5 0)) (h2 : ((net < 0 ∨ 3 ≤ net) ∧ y = -1 ∧ M2 = M1) ∨ (0 ≤ net ∧ net < 3 ∧ y = M1 32 net ∧ M2 = uz (uz M1 32 net 0) 33 net 0)) : x = y ∧ LI M2 J ∧ M2 31 27 = M 31 27 := by
  rcases h1 with ⟨q, hx, rfl⟩ | ⟨n0, n1, hx, e1⟩
  · rcases h2 with ⟨-, hy, rfl⟩ | ⟨a, b, -⟩
    · exact ⟨by omega, h, rfl⟩
    · omega
  · rcases h2 with ⟨q, -⟩ | ⟨-, -, hy, e2⟩
    · omega
    · obtain ⟨s4, s5, -⟩ := h.2.2 net n0 n1
      have oc : ∀ a : Nat, a ≠ nA net → M1 a = M a := fun a h1 => by rw [e1, uz_o h1, uz_o h1]
      have o1 : ∀ a : Nat, 31 ≤ a → M1 a = M a := fun a ha => oc a (by unfold nA; omega)
      have or : ∀ a : Nat, a ≠ 32 → a ≠ 33 → M2 a = M1 a := fun a h1 h2 => by rw [e2, uz_o h2, uz_o h1]
      have c5 : M1 (nA net) 5 = 0 := by rw [e1, uz_s]
      have c4 : M1 (nA net) 4 = 0 := by rw [e1, uz_n (by decide), uz_s]
      have r33 : M2 33 = updI (M 33) net 0 := by rw [e2, uz_fn, uz_o (by decide), o1 33 (by decide)]
      have r32 : M2 32 = updI (M 32) net 0 := by rw [e2, uz_o (by decide), uz_fn, o1 32 (by decide)]
      have c1 : cI M1 := cI_at h.1 n0 n1 (fun a _ hb => oc a (by omega)) (netOK_0 c4 c5)
      have r1 : RI M1 J := RI_fr h.2.1 o1
      refine ⟨by rw [hx, hy, o1 32 (by decide)]; exact s4, ⟨cI_lo c1 (fun a ha => or a (by omega) (by omega)), ?_, fun n a b => ?_⟩, ?_⟩
      · refine ⟨TI_cg r1.1 (fun a a1 a2 => or a (by omega) (by omega)) (by rw [or 31 (by decide) (by decide)]) (by rw [or 31 (by decide) (by decide)]) (by rw [or 31 (by decide) (by decide)]) rfl rfl, fun q a b => by rw [or 43 (by decide) (by decide)]; exact r1.2.1 q a b, by rw [or 31 (by decide) (by decide)]; exact r1.2.2.1, by unfold rOrd; rw [or 39 (by decide) (by decide)]; exact r1.2.2.2.1, fun n a b => ?_⟩
        obtain ⟨z1, z2⟩ := h.2.1.2.2.2.2 n a b
        refine ⟨?_, fun o o0 o1' => ?_⟩
        · rw [r32, or 34 (by decide) (by decide), or 35 (by decide) (by decide), o1 34 (by decide), o1 35 (by decide)]
          by_cases q : n = net
          · rw [q, updI_s]
            exact fun g g0 g1 => by omega
          · rw [updI_n q]; exact z1
        · rw [r33] at o1'
          rw [r32, or 36 (by decide) (by decide), o1 36 (by decide)]
          by_cases q : n = net
          · rw [q, updI_s] at o1'; omega
          · rw [updI_n q] at o1' ⊢; exact z2 o o0 o1'
      · obtain ⟨z1, z2, z3, z4⟩ := h.2.2 n a b
        by_cases q : n = net
        · subst q
          refine ⟨?_, ?_, fun g g0 g1 => ?_, fun o o0 o1' => ?_⟩
          · rw [or _ (by unfold nA; omega) (by unfold nA; omega), c4, r32, updI_s]
          · rw [or _ (by unfold nA; omega) (by unfold nA; omega), c5, r33, updI_s]
          · rw [r32, updI_s] at g1; omega
          · rw [r33, updI_s] at o1'; omega
        · have ra : ∀ i : Nat, i ≤ 3 → M2 (nA n + i) = M (nA n + i) := fun i hi => by
            rw [or _ (by unfold nA; omega) (by unfold nA; omega), oc _ (by unfold nA; omega)]
          have r0 := ra 0 (by decide)
          rw [Nat.add_zero] at r0
          refine ⟨?_, ?_, ?_, ?_⟩
          · rw [r0, r32, updI_n q]; exact z1
          · rw [r0, r33, updI_n q]; exact z2
          · rw [r32, updI_n q, or 34 (by decide) (by decide), or 35 (by decide) (by decide), o1 34 (by decide), o1 35 (by decide), ra 1 (by decide), ra 2 (by decide)]
            exact z3
          · rw [r33, updI_n q, ra 3 (by decide), or 36 (by decide) (by decide), o1 36 (by decide)]
            exact z4
      · rw [or 31 (by decide) (by decide), o1 31 (by decide)]
/-- behind the reference's room, order, move, gives, paths -/
theorem RI_room {M : zM} {J : zJ} {n : Int} (hr : RI M J) (h : M 31 24 ≤ n) : RI (uz M 31 8 n) J :=
  ⟨TI_31 hr.1 (by decide) (by decide) (by decide), fun g a b => by rw [uz_oo (by decide)]; exact hr.2.1 g a b, by rw [uz_n (by decide), uz_s]; exact h, by unfold rOrd; rw [uz_o (by decide)]; exact hr.2.2.2.1, fun net a b => rNt_fr (hr.2.2.2.2 net a b) (uz_o (by decide)) (uz_o (by decide)) (uz_o (by decide)) (uz_o (by decide)) (uz_o (by decide))⟩
theorem RI_ord {M M' : zM} {J J' : zJ} (hr : RI M J) (h31 : f31 M M') (ho : rOrd M') (o : ∀ a : Nat, ((31 < a ∧ a < 37) ∨ (43 ≤ a ∧ a ≤ 52)) → M' a = M a) (j44 : J' 44 = J 44) (j48 : J' 48 = J 48) : RI M' J' :=
  ⟨TI_cg hr.1 (fun a a1 a2 => o a (by omega)) (h31 23 (by decide) (by decide)) (h31 24 (by decide) (by decide)) (h31 27 (by decide) (by decide)) j44 j48, fun g a b => by rw [o 43 (by omega)]; exact hr.2.1 g a b, by rw [h31 24 (by decide) (by decide), h31 8 (by decide) (by decide)]; exact hr.2.2.1, ho, fun net a b => rNt_fr (hr.2.2.2.2 net a b) (o 32 (by omega)) (o 33 (by omega)) (o 34 (by omega)) (o 35 (by omega)) (o 36 (by omega))⟩
theorem rOrd_fr {M M' : zM} (h : rOrd M) (e : M' 39 = M 39) : rOrd M' := by unfold rOrd; rw [e]; exact h
end
section
/-! ===== what an output gives, on both sides ===== -/
def odB (kd : Int → Int) (od : Int → Int → Int) (n : Int) : Prop := ∀ g : Int, 0 ≤ g → g < n → ∀ c : Int, 0 ≤ c → c < opF (kd g) → 0 ≤ od g c ∧ od g c < g
end
section
/-! ===== functions of places, their parts, counting ===== -/
abbrev FN : Type := (Int → Int) → Int
abbrev Lb : Type := Int × FN
/-- the first d places as s has them -/
def mix (d : Int) (s r : Int → Int) : Int → Int := fun k => if k < d then s k else r k
theorem mix_lt {d k : Int} {s r : Int → Int} (h : k < d) : mix d s r k = s k := by unfold mix; rw [if_pos h]
theorem mix_ge {d k : Int} {s r : Int → Int} (h : d ≤ k) : mix d s r k = r k := by unfold mix; rw [if_neg (by omega)]
/-- a part of F at depth x.1 that hangs on that place -/
def laid (F : FN) (x : Lb) : Prop := (0 ≤ x.1 ∧ x.1 < 8) ∧ (∃ s : Int → Int, x.2 = fun r => F (mix x.1 s r)) ∧ ∃ r : Int → Int, ¬ x.2 (updI r x.1 0) = x.2 (updI r x.1 1)
/-- P has just c labels -/
def cnt (P : Lb → Prop) (c : Int) : Prop := ∃ L : List Lb, L.Nodup ∧ (∀ x, x ∈ L ↔ P x) ∧ (L.length : Int) = c
/-- P has more than c -/
def over (P : Lb → Prop) (c : Int) : Prop := ∃ L : List Lb, L.Nodup ∧ (∀ x ∈ L, P x) ∧ c < (L.length : Int)
theorem nodup_len {α : Type} : ∀ {l l' : List α}, l.Nodup → (∀ x ∈ l, x ∈ l') → l.length ≤ l'.length
  | [], l', _, _ => Nat.zero_le _
  | a :: t, l', hn, hs => by
    obtain ⟨s, u, e⟩ := List.append_of_mem (hs a List.mem_cons_self)
    subst e
    have hn' := List.nodup_cons.mp hn
    have h := nodup_len (l := t) (l' := s ++ u) hn'.2 (fun x hx => by
      have q := hs x (List.mem_cons_of_mem _ hx)
      rcases List.mem_append.mp q with q | q
      · exact List.mem_append_left _ q
      · rcases List.mem_cons.mp q with q | q
        · exact absurd (q ▸ hx) hn'.1
        · exact List.mem_append_right _ q)
    simp only [List.length_append, List.length_cons] at h ⊢
    omega
theorem cnt_uniq {P Q : Lb → Prop} {c d : Int} (h : ∀ x, P x ↔ Q x) (h1 : cnt P c) (h2 : cnt Q d) : c = d := by
  obtain ⟨L, n1, m1, e1⟩ := h1
  obtain ⟨K, n2, m2, e2⟩ := h2
  have a := nodup_len n1 (fun x hx => (m2 x).mpr ((h x).mp ((m1 x).mp hx)))
  have b := nodup_len n2 (fun x hx => (m1 x).mpr ((h x).mpr ((m2 x).mp hx)))
  omega
theorem cnt_over {P Q : Lb → Prop} {c d : Int} (h : ∀ x, Q x → P x) (h1 : cnt P c) (h2 : over Q d) : d < c := by
  obtain ⟨L, n1, m1, e1⟩ := h1
  obtain ⟨K, n2, m2, e2⟩ := h2
  have b := nodup_len n2 (fun x hx => (m1 x).mpr (h x (m2 x hx)))
  omega
theorem over_mono {P Q : Lb → Prop} {c : Int} (h : ∀ x, P x → Q x) (h1 : over P c) : over Q c := by
  obtain ⟨L, n1, m1, e1⟩ := h1
  exact ⟨L, n1, fun x hx => h x (m1 x hx), e1⟩
theorem cnt_gt {P : Lb → Prop} {c d : Int} (h : cnt P c) (hd : d < c) : over P d := by
  obtain ⟨L, n1, m1, e1⟩ := h
  exact ⟨L, n1, fun x hx => (m1 x).mp hx, by omega⟩
theorem nodup_map_on {α β : Type} {g : α → β} : ∀ {l : List α}, l.Nodup → (∀ a ∈ l, ∀ b ∈ l, g a = g b → a = b) → (l.map g).Nodup
  | [], _, _ => List.nodup_nil
  | a :: t, hn, hi => by
    have hn' := List.nodup_cons.mp hn
    rw [List.map_cons]
    refine List.nodup_cons.mpr ⟨fun h => ?_, nodup_map_on hn'.2 (fun x hx y hy e => hi x (List.mem_cons_of_mem _ hx) y (List.mem_cons_of_mem _ hy) e)⟩
    obtain ⟨b, hb, e⟩ := List.mem_map.mp h
    have q := hi b (List.mem_cons_of_mem _ hb) a List.mem_cons_self e
    exact hn'.1 (q ▸ hb)
/-- the places where f is not 0 -/
def lv (f : Int → Int) : Nat → List Int
  | 0 => []
  | n + 1 => if f (n : Int) = 0 then lv f n else (n : Int) :: lv f n
theorem lv_mem {f : Int → Int} : ∀ {n : Nat} {k : Int}, k ∈ lv f n ↔ (0 ≤ k ∧ k < n ∧ ¬ f k = 0)
  | 0, k => by
    constructor
    · intro h; cases h
    · rintro ⟨a, b, -⟩; omega
  | n + 1, k => by
    unfold lv
    by_cases e : f (n : Int) = 0
    · rw [if_pos e, lv_mem (n := n)]
      constructor
      · rintro ⟨a, b, c⟩; exact ⟨a, by omega, c⟩
      · rintro ⟨a, b, c⟩
        refine ⟨a, ?_, c⟩
        by_cases q : k = n
        · exact absurd (q ▸ e) c
        · omega
    · rw [if_neg e, List.mem_cons, lv_mem (n := n)]
      constructor
      · rintro (q | ⟨a, b, c⟩)
        · exact ⟨by omega, by omega, by rw [q]; exact e⟩
        · exact ⟨a, by omega, c⟩
      · rintro ⟨a, b, c⟩
        by_cases q : k = n
        · exact Or.inl q
        · exact Or.inr ⟨a, by omega, c⟩
theorem lv_nodup {f : Int → Int} : ∀ n : Nat, (lv f n).Nodup
  | 0 => List.nodup_nil
  | n + 1 => by
    unfold lv
    by_cases e : f (n : Int) = 0
    · rw [if_pos e]; exact lv_nodup n
    · rw [if_neg e]
      refine List.nodup_cons.mpr ⟨fun h => ?_, lv_nodup n⟩
      have := (lv_mem.mp h).2.1
      omega
theorem lv_len {f : Int → Int} : ∀ n : Nat, ((lv f n).length : Int) = hr f n
  | 0 => rfl
  | n + 1 => by
    unfold lv hr
    by_cases e : f (n : Int) = 0
    · rw [if_pos e, if_pos e, lv_len n]; omega
    · rw [if_neg e, if_neg e, List.length_cons, ← lv_len n]; omega
/-- labels of the nodes where f is not 0, counted -/
theorem cnt_hr {f : Int → Int} {g : Int → Lb} {n : Nat} {P : Lb → Prop} (hi : ∀ a b : Int, 0 ≤ a → a < n → 0 ≤ b → b < n → ¬ f a = 0 → ¬ f b = 0 → g a = g b → a = b) (h1 : ∀ a : Int, 0 ≤ a → a < n → ¬ f a = 0 → P (g a)) (h2 : ∀ x, P x → ∃ a : Int, 0 ≤ a ∧ a < n ∧ ¬ f a = 0 ∧ g a = x) : cnt P (hr f n) := by
  refine ⟨(lv f n).map g, nodup_map_on (lv_nodup n) (fun a ha b hb e => ?_), fun x => ?_, by rw [List.length_map]; exact lv_len n⟩
  · obtain ⟨a0, a1, a2⟩ := lv_mem.mp ha
    obtain ⟨b0, b1, b2⟩ := lv_mem.mp hb
    exact hi a b a0 a1 b0 b1 a2 b2 e
  · rw [List.mem_map]
    constructor
    · rintro ⟨a, ha, rfl⟩
      obtain ⟨a0, a1, a2⟩ := lv_mem.mp ha
      exact h1 a a0 a1 a2
    · intro hx
      obtain ⟨a, a0, a1, a2, e⟩ := h2 x hx
      exact ⟨a, lv_mem.mpr ⟨a0, a1, a2⟩, e⟩
/-- and one more that is none of them -/
theorem over_hr {f : Int → Int} {g : Int → Lb} {n : Nat} {P : Lb → Prop} {y : Lb} (hi : ∀ a b : Int, 0 ≤ a → a < n → 0 ≤ b → b < n → ¬ f a = 0 → ¬ f b = 0 → g a = g b → a = b) (h1 : ∀ a : Int, 0 ≤ a → a < n → ¬ f a = 0 → P (g a)) (hy : P y) (hn : ∀ a : Int, 0 ≤ a → a < n → ¬ f a = 0 → ¬ g a = y) {c : Int} (hc : c ≤ hr f n) : over P c := by
  refine ⟨y :: (lv f n).map g, List.nodup_cons.mpr ⟨fun h => ?_, nodup_map_on (lv_nodup n) (fun a ha b hb e => ?_)⟩, fun x hx => ?_, ?_⟩
  · obtain ⟨a, ha, e⟩ := List.mem_map.mp h
    obtain ⟨a0, a1, a2⟩ := lv_mem.mp ha
    exact hn a a0 a1 a2 e
  · obtain ⟨a0, a1, a2⟩ := lv_mem.mp ha
    obtain ⟨b0, b1, b2⟩ := lv_mem.mp hb
    exact hi a b a0 a1 b0 b1 a2 b2 e
  · rcases List.mem_cons.mp hx with q | q
    · rw [q]; exact hy
    · obtain ⟨a, ha, e⟩ := List.mem_map.mp q
      obtain ⟨a0, a1, a2⟩ := lv_mem.mp ha
      rw [← e]
      exact h1 a a0 a1 a2
  · have := lv_len (f := f) n
    rw [List.length_cons, List.length_map]
    omega
/-! ===== the class's nodes as functions ===== -/
def dn (M : zM) : Nat → Int → FN
  | 0, n, _ => if n = 1 then 1 else 0
  | k + 1, n, r => if n < 2 then (if n = 1 then 1 else 0) else dn M k (if r (M 6 n) = 0 then M 7 n else M 8 n) r
def den (M : zM) (n : Int) : FN := dn M 8 n
def okN (S : Int → Prop) (n : Int) : Prop := n = 0 ∨ n = 1 ∨ S n
/-- the nodes of S are well made -/
def pst (M : zM) (S : Int → Prop) : Prop := (M 6 0 = 8 ∧ M 6 1 = 8) ∧ (∀ n : Int, S n → (2 ≤ n ∧ n < 252) ∧ (0 ≤ M 6 n ∧ M 6 n < 8) ∧ M 7 n ≠ M 8 n ∧ (okN S (M 7 n) ∧ M 6 n < M 6 (M 7 n)) ∧ (okN S (M 8 n) ∧ M 6 n < M 6 (M 8 n))) ∧ ∀ n m : Int, S n → S m → M 6 n = M 6 m → M 7 n = M 7 m → M 8 n = M 8 m → n = m
section PST
variable {M : zM} {S : Int → Prop}
theorem pst_pl (h : pst M S) {n : Int} (hn : okN S n) : 0 ≤ M 6 n ∧ M 6 n ≤ 8 := by
  rcases hn with rfl | rfl | hn
  · have := h.1.1; omega
  · have := h.1.2; omega
  · have := (h.2.1 n hn).2.1; omega
theorem pst_t (h : pst M S) {n : Int} (hn : okN S n) (hp : 8 ≤ M 6 n) : n = 0 ∨ n = 1 := by
  rcases hn with e | e | hn
  · exact Or.inl e
  · exact Or.inr e
  · have := (h.2.1 n hn).2.1; omega
theorem pst_2 (h : pst M S) {n : Int} (hn : okN S n) : n < 2 ∨ S n := by
  rcases hn with e | e | hn
  · left; omega
  · left; omega
  · exact Or.inr hn
theorem okN_2 (h : pst M S) {n : Int} (hn : okN S n) (h2 : 2 ≤ n) : S n := by
  rcases hn with e | e | hn
  · omega
  · omega
  · exact hn
theorem okN_in (h : pst M S) {n : Int} (hn : okN S n) : 0 ≤ n ∧ n < 252 := by
  rcases hn with e | e | hn
  · omega
  · omega
  · have := (h.2.1 n hn).1; omega
/-- the child that r goes to -/
theorem pst_ch (h : pst M S) {n : Int} (hn : S n) (r : Int → Int) : okN S (if r (M 6 n) = 0 then M 7 n else M 8 n) ∧ M 6 n < M 6 (if r (M 6 n) = 0 then M 7 n else M 8 n) := by
  obtain ⟨-, -, -, a, b⟩ := h.2.1 n hn
  by_cases e : r (M 6 n) = 0
  · rw [if_pos e]; exact a
  · rw [if_neg e]; exact b
theorem dn_lt {k : Nat} {n : Int} {r : Int → Int} (h : n < 2) : dn M k n r = if n = 1 then 1 else 0 := by
  cases k with
  | zero => rfl
  | succ k => unfold dn; rw [if_pos h]
theorem dn_up (h : pst M S) : ∀ (k : Nat) (n : Int), okN S n → 8 - M 6 n ≤ k → dn M (k + 1) n = dn M k n
  | 0, n, hn, hp => by
    funext r
    rcases pst_t h hn (by omega) with e | e
    · rw [dn_lt (by omega), dn_lt (by omega)]
    · rw [dn_lt (by omega), dn_lt (by omega)]
  | k + 1, n, hn, hp => by
    funext r
    rcases pst_2 h hn with e | hs
    · rw [dn_lt e, dn_lt e]
    · have h2 := (h.2.1 n hs).1
      obtain ⟨c1, c2⟩ := pst_ch h hs r
      show (if n < 2 then _ else dn M (k + 1) _ r) = (if n < 2 then _ else dn M k _ r)
      rw [if_neg (show ¬ n < 2 by omega), if_neg (show ¬ n < 2 by omega), dn_up h k _ c1 (by omega)]
theorem den_n (h : pst M S) {n : Int} (hn : S n) (r : Int → Int) : den M n r = den M (if r (M 6 n) = 0 then M 7 n else M 8 n) r := by
  have h2 := (h.2.1 n hn).1
  have hp := (h.2.1 n hn).2.1
  obtain ⟨c1, c2⟩ := pst_ch h hn r
  show (if n < 2 then _ else dn M 7 _ r) = dn M 8 _ r
  rw [if_neg (show ¬ n < 2 by omega), dn_up h 7 _ c1 (by omega)]
theorem den_lt {n : Int} {r : Int → Int} (h : n < 2) : den M n r = if n = 1 then 1 else 0 := dn_lt h
theorem den_0 {r : Int → Int} : den M 0 r = 0 := by rw [den_lt (by decide)]; rfl
theorem den_1 {r : Int → Int} : den M 1 r = 1 := by rw [den_lt (by decide)]; rfl
/-- downwards over the places -/
theorem pst_ind (h : pst M S) {P : Int → Prop} (hP : ∀ n : Int, okN S n → (∀ c : Int, okN S c → M 6 n < M 6 c → P c) → P n) : ∀ n : Int, okN S n → P n := by
  have key : ∀ (k : Nat) (n : Int), okN S n → 8 - M 6 n ≤ k → P n := by
    intro k
    induction k with
    | zero => intro n hn hk; exact hP n hn (fun c hc q => by have := pst_pl h hc; omega)
    | succ k ih => intro n hn hk; exact hP n hn (fun c hc q => ih c hc (by omega))
  intro n hn
  have := pst_pl h hn
  exact key 8 n hn (by omega)
theorem den_ag (h : pst M S) {n : Int} (hn : okN S n) : ∀ {r r' : Int → Int}, (∀ k : Int, M 6 n ≤ k → (r k = 0 ↔ r' k = 0)) → den M n r = den M n r' := by
  refine pst_ind h (P := fun n => ∀ {r r' : Int → Int}, (∀ k : Int, M 6 n ≤ k → (r k = 0 ↔ r' k = 0)) → den M n r = den M n r') ?_ n hn
  intro n hn ih r r' e
  rcases pst_2 h hn with q | hs
  · rw [den_lt q, den_lt q]
  · have z : (if r (M 6 n) = 0 then M 7 n else M 8 n) = (if r' (M 6 n) = 0 then M 7 n else M 8 n) := by
      have w := e (M 6 n) (Int.le_refl _)
      by_cases q : r (M 6 n) = 0
      · rw [if_pos q, if_pos (w.mp q)]
      · rw [if_neg q, if_neg (fun t => q (w.mpr t))]
    rw [den_n h hs r, den_n h hs r', z]
    obtain ⟨c1, c2⟩ := pst_ch h hs r'
    exact ih _ c1 c2 (fun k hk => e k (by omega))
theorem den_ig (h : pst M S) {n d v : Int} (hn : okN S n) (hd : d < M 6 n) (r : Int → Int) : den M n (updI r d v) = den M n r := den_ag h hn (fun k hk => by rw [updI_n (by omega)])
theorem den_bool (h : pst M S) {n : Int} (hn : okN S n) : ∀ r : Int → Int, den M n r = 0 ∨ den M n r = 1 := by
  refine pst_ind h (P := fun n => ∀ r : Int → Int, den M n r = 0 ∨ den M n r = 1) ?_ n hn
  intro n hn ih r
  rcases pst_2 h hn with q | hs
  · rw [den_lt q]
    split
    · exact Or.inr rfl
    · exact Or.inl rfl
  · rw [den_n h hs r]
    obtain ⟨c1, c2⟩ := pst_ch h hs r
    exact ih _ c1 c2 r
theorem den_low (h : pst M S) {n : Int} (hn : S n) (r : Int → Int) : den M n (updI r (M 6 n) 0) = den M (M 7 n) r := by
  obtain ⟨-, -, -, a, b⟩ := h.2.1 n hn
  rw [den_n h hn, updI_s, if_pos rfl]
  exact den_ig h a.1 a.2 r
theorem den_high (h : pst M S) {n v : Int} (hn : S n) (hv : ¬ v = 0) (r : Int → Int) : den M n (updI r (M 6 n) v) = den M (M 8 n) r := by
  obtain ⟨-, -, -, a, b⟩ := h.2.1 n hn
  rw [den_n h hn, updI_s, if_neg hv]
  exact den_ig h b.1 b.2 r
/-- canonicity -/
theorem den_inj (h : pst M S) {x y : Int} (hx : okN S x) (hy : okN S y) (e : den M x = den M y) : x = y := by
  have key : ∀ (k : Nat) (x y : Int), okN S x → okN S y → 8 - (k : Int) ≤ M 6 x → 8 - (k : Int) ≤ M 6 y → den M x = den M y → x = y := by
    intro k
    induction k with
    | zero =>
      intro x y hx hy px py e
      have e0 := congrFun e (fun _ => 0)
      rcases pst_t h hx (by omega) with a | a <;> rcases pst_t h hy (by omega) with b | b
      · rw [a, b]
      · rw [a, b, den_0, den_1] at e0; cases e0
      · rw [a, b, den_0, den_1] at e0; cases e0
      · rw [a, b]
    | succ k ih =>
      intro x y hx hy px py e
      have side : ∀ (x y : Int), okN S x → okN S y → 8 - ((k + 1 : Nat) : Int) ≤ M 6 y → M 6 x = 7 - (k : Int) → den M x = den M y → M 6 y = 7 - (k : Int) := by
        intro x y hx hy py q e
        by_cases q2 : M 6 y = 7 - (k : Int)
        · exact q2
        · exfalso
          have hs : S x := by
            rcases hx with a | a | a
            · rw [a, h.1.1] at q; omega
            · rw [a, h.1.2] at q; omega
            · exact a
          obtain ⟨-, -, ne, a, b⟩ := h.2.1 x hs
          refine ne (ih _ _ a.1 b.1 (by omega) (by omega) ?_)
          funext r
          rw [← den_low h hs r, ← den_high h hs (v := 1) (by decide) r, e, den_ig h hy (by omega), den_ig h hy (by omega)]
      by_cases q : M 6 x = 7 - (k : Int)
      · have q2 := side x y hx hy py q e
        have hsx : S x := by
          rcases hx with a | a | a
          · rw [a, h.1.1] at q; omega
          · rw [a, h.1.2] at q; omega
          · exact a
        have hsy : S y := by
          rcases hy with a | a | a
          · rw [a, h.1.1] at q2; omega
          · rw [a, h.1.2] at q2; omega
          · exact a
        obtain ⟨-, -, -, a, b⟩ := h.2.1 x hsx
        obtain ⟨-, -, -, a', b'⟩ := h.2.1 y hsy
        refine h.2.2 x y hsx hsy (by omega) (ih _ _ a.1 a'.1 (by omega) (by omega) ?_) (ih _ _ b.1 b'.1 (by omega) (by omega) ?_)
        · funext r
          rw [← den_low h hsx r, ← den_low h hsy r, e, q, q2]
        · funext r
          rw [← den_high h hsx (v := 1) (by decide) r, ← den_high h hsy (v := 1) (by decide) r, e, q, q2]
      · by_cases q2 : M 6 y = 7 - (k : Int)
        · exact absurd (side y x hy hx px q2 e.symm) q
        · exact ih x y hx hy (by omega) (by omega) e
  have a := pst_pl h hx
  have b := pst_pl h hy
  exact key 8 x y hx hy (by omega) (by omega) e
def lab (M : zM) (n : Int) : Lb := (M 6 n, den M n)
theorem lab_inj (h : pst M S) {n m : Int} (hn : S n) (hm : S m) (e : lab M n = lab M m) : n = m := den_inj h (Or.inr (Or.inr hn)) (Or.inr (Or.inr hm)) (congrArg Prod.snd e)
theorem den_mix (h : pst M S) {n d : Int} {s : Int → Int} (hn : okN S n) (hd : d ≤ M 6 n) : (fun r => den M n (mix d s r)) = den M n := by
  funext r
  exact den_ag h hn (fun k hk => by rw [mix_ge (by omega)])
/-- a node is a part of itself -/
theorem laid_self (h : pst M S) {n : Int} (hn : S n) : laid (den M n) (lab M n) := by
  obtain ⟨-, p, ne, a, b⟩ := h.2.1 n hn
  refine ⟨p, ⟨fun _ => 0, (den_mix h (Or.inr (Or.inr hn)) (Int.le_refl _)).symm⟩, ?_⟩
  by_cases q : ∃ r : Int → Int, ¬ den M n (updI r (M 6 n) 0) = den M n (updI r (M 6 n) 1)
  · exact q
  · exfalso
    refine ne (den_inj h a.1 b.1 ?_)
    funext r
    by_cases z : den M (M 7 n) r = den M (M 8 n) r
    · exact z
    · exfalso
      refine q ⟨r, ?_⟩
      rw [den_low h hn, den_high h hn (by decide)]
      exact z
/-- a laid part of a node's function is at or below its place -/
theorem laid_pl (h : pst M S) {n : Int} {y : Lb} (hn : okN S n) (hy : laid (den M n) y) : M 6 n ≤ y.1 := by
  obtain ⟨-, ⟨s, e⟩, r, q⟩ := hy
  by_cases z : M 6 n ≤ y.1
  · exact z
  · exfalso
    rw [den_mix h hn (by omega)] at e
    rw [e, den_ig h hn (by omega), den_ig h hn (by omega)] at q
    exact q rfl
/-- in a set that is closed, all laid parts of its nodes have their nodes -/
theorem laid_in (h : pst M S) {C : Int → Prop} (hC : ∀ n : Int, C n → S n ∧ okN C (M 7 n) ∧ okN C (M 8 n)) {x : Int} {y : Lb} (hx : okN C x) (hy : laid (den M x) y) : ∃ n : Int, C n ∧ lab M n = y := by
  have hCS : ∀ {n : Int}, okN C n → okN S n := fun {n} q => by
    rcases q with q | q | q
    · exact Or.inl q
    · exact Or.inr (Or.inl q)
    · exact Or.inr (Or.inr (hC n q).1)
  have key : ∀ x : Int, okN S x → okN C x → laid (den M x) y → ∃ n : Int, C n ∧ lab M n = y := by
    refine pst_ind h ?_
    intro x hs ih hc hl
    have hpl := laid_pl h hs hl
    obtain ⟨yb, ⟨s, e⟩, r, q⟩ := hl
    rcases pst_2 h hs with t | hS
    · have := pst_pl h hs
      rcases hs with z | z | z
      · rw [z, h.1.1] at hpl; omega
      · rw [z, h.1.2] at hpl; omega
      · have := (h.2.1 x z).1; omega
    · have hcx : C x := by
        have := (h.2.1 x hS).1
        rcases hc with z | z | z
        · omega
        · omega
        · exact z
      by_cases z : y.1 = M 6 x
      · refine ⟨x, hcx, ?_⟩
        unfold lab
        rw [← z]
        have w := den_mix h hs (d := y.1) (s := s) (by omega)
        rw [w] at e
        rw [← e]
      · have hlt : M 6 x < y.1 := by omega
        obtain ⟨c1, c2⟩ := pst_ch h hS s
        have hcc : okN C (if s (M 6 x) = 0 then M 7 x else M 8 x) := by
          by_cases w : s (M 6 x) = 0
          · rw [if_pos w]; exact (hC x hcx).2.1
          · rw [if_neg w]; exact (hC x hcx).2.2
        refine ih _ c1 c2 hcc ⟨yb, ⟨s, ?_⟩, r, q⟩
        rw [e]
        funext r'
        rw [den_n h hS, mix_lt hlt]
  exact key x (hCS hx) hx hy
/-- parts of a child are parts of the node -/
theorem laid_sub (h : pst M S) {x c : Int} {y : Lb} (hx : S x) (hc : c = M 7 x ∨ c = M 8 x) (hy : laid (den M c) y) : laid (den M x) y := by
  obtain ⟨-, p, -, a, b⟩ := h.2.1 x hx
  have hok : okN S c ∧ M 6 x < M 6 c := by
    rcases hc with e | e
    · rw [e]; exact a
    · rw [e]; exact b
  have hpl := laid_pl h hok.1 hy
  obtain ⟨yb, ⟨s, e⟩, hq⟩ := hy
  have side : ∀ v : Int, (if v = 0 then M 7 x else M 8 x) = c → y.2 = fun r => den M x (mix y.1 (updI s (M 6 x) v) r) := by
    intro v hv
    rw [e]
    funext r
    rw [den_n h hx, mix_lt (by omega), updI_s, hv]
    refine den_ag h hok.1 (fun k hk => ?_)
    by_cases q : k < y.1
    · rw [mix_lt q, mix_lt q, updI_n (by omega)]
    · rw [mix_ge (by omega), mix_ge (by omega)]
  rcases hc with q | q
  · exact ⟨yb, ⟨_, side 0 (by rw [if_pos rfl]; exact q.symm)⟩, hq⟩
  · exact ⟨yb, ⟨_, side 1 (by rw [if_neg (by decide)]; exact q.symm)⟩, hq⟩
/-- memories alike on S -/
def agr (M M' : zM) (S : Int → Prop) : Prop := (M' 6 0 = M 6 0 ∧ M' 6 1 = M 6 1) ∧ ∀ n : Int, S n → M' 6 n = M 6 n ∧ M' 7 n = M 7 n ∧ M' 8 n = M 8 n
theorem agr_pl {M' : zM} (h : agr M M' S) {n : Int} (hn : okN S n) : M' 6 n = M 6 n := by
  rcases hn with e | e | e
  · rw [e]; exact h.1.1
  · rw [e]; exact h.1.2
  · exact (h.2 n e).1
theorem dn_agr {M' : zM} (h : pst M S) (ha : agr M M' S) : ∀ (k : Nat) (n : Int), okN S n → dn M' k n = dn M k n
  | 0, n, _ => rfl
  | k + 1, n, hn => by
    funext r
    rcases pst_2 h hn with q | hs
    · rw [dn_lt q, dn_lt q]
    · have h2 := (h.2.1 n hs).1
      obtain ⟨c1, -⟩ := pst_ch h hs r
      obtain ⟨e6, e7, e8⟩ := ha.2 n hs
      show (if n < 2 then _ else dn M' k (if r (M' 6 n) = 0 then M' 7 n else M' 8 n) r) = (if n < 2 then _ else dn M k (if r (M 6 n) = 0 then M 7 n else M 8 n) r)
      rw [if_neg (show ¬ n < 2 by omega), if_neg (show ¬ n < 2 by omega), e6, e7, e8, dn_agr h ha k _ c1]
theorem den_agr {M' : zM} (h : pst M S) (ha : agr M M' S) {n : Int} (hn : okN S n) : den M' n = den M n := dn_agr h ha 8 n hn
theorem lab_agr {M' : zM} (h : pst M S) (ha : agr M M' S) {n : Int} (hn : S n) : lab M' n = lab M n := by
  unfold lab
  rw [(ha.2 n hn).1, den_agr h ha (Or.inr (Or.inr hn))]
end PST
theorem okN_mono {S C : Int → Prop} (h : ∀ n, C n → S n) {n : Int} (hn : okN C n) : okN S n := by
  rcases hn with e | e | e
  · exact Or.inl e
  · exact Or.inr (Or.inl e)
  · exact Or.inr (Or.inr (h n e))
/-- fewer nodes, closed -/
theorem pst_less {M : zM} {S C : Int → Prop} (h : pst M S) (hC : ∀ n : Int, C n → S n ∧ okN C (M 7 n) ∧ okN C (M 8 n)) : pst M C := by
  refine ⟨h.1, fun n hn => ?_, fun n m hn hm => h.2.2 n m (hC n hn).1 (hC m hm).1⟩
  obtain ⟨h1, h2, h3, h4, h5⟩ := h.2.1 n (hC n hn).1
  exact ⟨h1, h2, h3, ⟨(hC n hn).2.1, h4.2⟩, (hC n hn).2.2, h5.2⟩
end
section
/-! ===== words and bits; positions ===== -/
def wb (w : Int64) (j : Nat) : Bool := w.toBitVec.getLsbD j
theorem wb_ext {x y : Int64} (h : ∀ j : Nat, j < 64 → wb x j = wb y j) : x = y := Int64.toBitVec_inj.1 (BitVec.eq_of_getLsbD_eq (fun i hi => h i hi))
theorem wb_and {x y : Int64} {j : Nat} : wb (x &&& y) j = (wb x j && wb y j) := BitVec.getLsbD_and
theorem wb_or {x y : Int64} {j : Nat} : wb (x ||| y) j = (wb x j || wb y j) := BitVec.getLsbD_or
theorem wb_xor {x y : Int64} {j : Nat} : wb (x ^^^ y) j = (wb x j ^^ wb y j) := BitVec.getLsbD_xor
theorem wb_0 {j : Nat} : wb 0 j = false := BitVec.getLsbD_zero
theorem wb_m1 : ∀ j : Fin 64, wb (-1) j = true := by decide +kernel
theorem sh_r : ∀ s : Fin 64, (((Int32.ofInt (s.val : Int)).toInt64.toUInt64 &&& Int64.toUInt64 63).toBitVec % 64).toNat = s.val := by decide +kernel
theorem sh_l : ∀ s : Fin 64, (((Int32.ofInt (s.val : Int)).toInt64 &&& 63).toBitVec.smod 64).toNat = s.val := by decide +kernel
theorem wb_ushr {x : Int64} {s : Int} {j : Nat} (h0 : 0 ≤ s) (h1 : s < 64) : wb (zlushr x s) j = wb x (s.toNat + j) := by
  have q := sh_r ⟨s.toNat, by omega⟩
  dsimp only at q
  rw [Int.toNat_of_nonneg h0] at q
  show (x.toBitVec >>> (((Int32.ofInt s).toInt64.toUInt64 &&& Int64.toUInt64 63).toBitVec % 64)).getLsbD j = _
  rw [BitVec.ushiftRight_eq', q, BitVec.getLsbD_ushiftRight]
  rfl
theorem wb_shl {x : Int64} {s : Int} {j : Nat} (h0 : 0 ≤ s) (h1 : s < 64) (hj : j < 64) : wb (zlshl x s) j = (!decide (j < s.toNat) && wb x (j - s.toNat)) := by
  have q := sh_l ⟨s.toNat, by omega⟩
  dsimp only at q
  rw [Int.toNat_of_nonneg h0] at q
  show (x.toBitVec <<< (((Int32.ofInt s).toInt64 &&& 63).toBitVec.smod 64)).getLsbD j = _
  rw [BitVec.shiftLeft_eq', q, BitVec.getLsbD_shiftLeft]
  simp [hj, wb]
theorem wb_sshr {x : Int64} {s : Int} (h0 : 0 ≤ s) (h1 : s < 64) : wb (zlshr x s) 0 = wb x s.toNat := by
  have q := sh_l ⟨s.toNat, by omega⟩
  dsimp only at q
  rw [Int.toNat_of_nonneg h0] at q
  show (x.toBitVec.sshiftRight' (((Int32.ofInt s).toInt64 &&& 63).toBitVec.smod 64)).getLsbD 0 = _
  rw [BitVec.sshiftRight_eq', q, BitVec.getLsbD_sshiftRight]
  have : ¬ 64 ≤ 0 := by decide
  simp [wb]
  omega
theorem and1_eq {x : Int64} : (x &&& 1 = 1) ↔ wb x 0 = true := by
  constructor
  · intro h
    have q : wb (x &&& 1) 0 = wb 1 0 := by rw [h]
    rw [wb_and, show wb 1 0 = true by decide +kernel, Bool.and_true] at q
    exact q
  · intro h
    refine wb_ext (fun j hj => ?_)
    have q1 : ∀ j : Fin 64, wb 1 j = decide (j.val = 0) := by decide +kernel
    rw [wb_and, q1 ⟨j, hj⟩]
    by_cases e : j = 0
    · subst e; rw [h]; rfl
    · simp [e]
theorem pdiv : ∀ p : Fin 256, zshr (p.val : Int) 6 = ((p.val / 64 : Nat) : Int) ∧ zand (p.val : Int) 63 = ((p.val % 64 : Nat) : Int) := by decide +kernel
theorem zshr_6 {p : Int} (h0 : 0 ≤ p) (h1 : p < 256) : zshr p 6 = p / 64 ∧ zand p 63 = p % 64 := by
  have q := pdiv ⟨p.toNat, by omega⟩
  dsimp only at q
  rw [Int.toNat_of_nonneg h0] at q
  refine ⟨q.1.trans ?_, q.2.trans ?_⟩ <;> omega
theorem btF_wb {B : Int → Int64} {p : Int} (h0 : 0 ≤ p) (h1 : p < 256) : btF B p = if wb (B (p / 64)) (p % 64).toNat = true then 1 else 0 := by
  unfold btF
  rw [(zshr_6 h0 h1).1, (zshr_6 h0 h1).2]
  by_cases e : zlshr (B (p / 64)) (p % 64) &&& 1 = 1
  · rw [if_pos e, if_pos (by rw [← wb_sshr (by omega) (by omega)]; exact and1_eq.mp e)]
  · rw [if_neg e, if_neg (fun q => e (and1_eq.mpr (by rw [wb_sshr (by omega) (by omega)]; exact q)))]
theorem btF_eq {B B' : Int → Int64} {p p' : Int} (h0 : 0 ≤ p) (h1 : p < 256) (h0' : 0 ≤ p') (h1' : p' < 256) : btF B p = btF B' p' ↔ wb (B (p / 64)) (p % 64).toNat = wb (B' (p' / 64)) (p' % 64).toNat := by
  rw [btF_wb h0 h1, btF_wb h0' h1']
  cases wb (B (p / 64)) (p % 64).toNat <;> cases wb (B' (p' / 64)) (p' % 64).toNat <;> simp
theorem btF_congr {B B' : Int → Int64} (h : ∀ k : Int, 0 ≤ k → k < 4 → B k = B' k) {p : Int} (h0 : 0 ≤ p) (h1 : p < 256) : btF B p = btF B' p := by
  rw [btF_wb h0 h1, btF_wb h0 h1, h _ (by omega) (by omega)]
/-- all bits alike: all words alike -/
theorem btF_inj {B B' : Int → Int64} (h : ∀ p : Int, 0 ≤ p → p < 256 → btF B p = btF B' p) : ∀ k : Int, 0 ≤ k → k < 4 → B k = B' k := by
  intro k k0 k1
  refine wb_ext (fun j hj => ?_)
  have q := (btF_eq (by omega) (by omega) (by omega) (by omega)).mp (h (64 * k + j) (by omega) (by omega))
  rw [show (64 * k + (j : Int)) / 64 = k by omega, show ((64 * k + (j : Int)) % 64).toNat = j by omega] at q
  exact q
/-! positions -/
def bz (x : Int) : Int := if x = 0 then 0 else 1
theorem bz_in (x : Int) : bz x = 0 ∨ bz x = 1 := by
  unfold bz
  split
  · exact Or.inl rfl
  · exact Or.inr rfl
theorem bz_0 : bz 0 = 0 := rfl
theorem bz_1 : bz 1 = 1 := rfl
/-- the lowest k places as a number -/
def pd (r : Int → Int) : Nat → Int
  | 0 => 0
  | k + 1 => bz (r (7 - (k : Int))) * pw2 k + pd r k
theorem pw2_pos : ∀ k : Nat, 1 ≤ pw2 k
  | 0 => by decide
  | k + 1 => by
    have := pw2_pos k
    unfold pw2
    omega
theorem pd_in (r : Int → Int) : ∀ k : Nat, 0 ≤ pd r k ∧ pd r k < pw2 k
  | 0 => by
    show (0 : Int) ≤ 0 ∧ (0 : Int) < 1
    decide
  | k + 1 => by
    have h := pd_in r k
    have hp := pw2_pos k
    unfold pd
    rw [show pw2 (k + 1) = 2 * pw2 k from rfl]
    rcases bz_in (r (7 - (k : Int))) with e | e <;> rw [e] <;> omega
theorem pd_ag {r r' : Int → Int} : ∀ {k : Nat}, (∀ j : Int, 8 - (k : Int) ≤ j → r j = r' j) → pd r k = pd r' k
  | 0, _ => rfl
  | k + 1, h => by
    unfold pd
    rw [h (7 - (k : Int)) (by omega), pd_ag (k := k) (fun j hj => h j (by omega))]
theorem pd_up {r : Int → Int} {k : Nat} {v : Int} : pd (updI r (7 - (k : Int)) v) (k + 1) = bz v * pw2 k + pd r k := by
  show bz (updI r (7 - (k : Int)) v (7 - (k : Int))) * pw2 k + pd (updI r (7 - (k : Int)) v) k = _
  rw [updI_s, pd_ag (fun j hj => updI_n (by omega))]
theorem pd_onto : ∀ (k : Nat) (q : Int), 0 ≤ q → q < pw2 k → ∃ r : Int → Int, pd r k = q
  | 0, q, h0, h1 => ⟨fun _ => 0, by have : q < 1 := h1; show (0 : Int) = q; omega⟩
  | k + 1, q, h0, h1 => by
    rw [show pw2 (k + 1) = 2 * pw2 k from rfl] at h1
    have hp := pw2_pos k
    by_cases e : q < pw2 k
    · obtain ⟨r, hr⟩ := pd_onto k q h0 e
      exact ⟨updI r (7 - (k : Int)) 0, by rw [pd_up, hr, bz_0]; omega⟩
    · obtain ⟨r, hr⟩ := pd_onto k (q - pw2 k) (by omega) (by omega)
      exact ⟨updI r (7 - (k : Int)) 1, by rw [pd_up, hr, bz_1]; omega⟩
/-- the first d places as a number -/
def ihd (s : Int → Int) : Nat → Int
  | 0 => 0
  | d + 1 => 2 * ihd s d + bz (s (d : Int))
theorem ihd_in (s : Int → Int) : ∀ d : Nat, 0 ≤ ihd s d ∧ ihd s d < pw2 d
  | 0 => by
    show (0 : Int) ≤ 0 ∧ (0 : Int) < 1
    decide
  | d + 1 => by
    have h := ihd_in s d
    unfold ihd
    rw [show pw2 (d + 1) = 2 * pw2 d from rfl]
    rcases bz_in (s (d : Int)) with e | e <;> rw [e] <;> omega
theorem ihd_ag {s s' : Int → Int} : ∀ {d : Nat}, (∀ j : Int, j < d → s j = s' j) → ihd s d = ihd s' d
  | 0, _ => rfl
  | d + 1, h => by
    unfold ihd
    rw [h d (by omega), ihd_ag (d := d) (fun j hj => h j (by omega))]
theorem ihd_onto : ∀ (d : Nat) (i : Int), 0 ≤ i → i < pw2 d → ∃ s : Int → Int, ihd s d = i
  | 0, i, h0, h1 => ⟨fun _ => 0, by have : i < 1 := h1; show (0 : Int) = i; omega⟩
  | d + 1, i, h0, h1 => by
    rw [show pw2 (d + 1) = 2 * pw2 d from rfl] at h1
    obtain ⟨s, hs⟩ := ihd_onto d (i / 2) (by omega) (by omega)
    refine ⟨updI s d (i % 2), ?_⟩
    show 2 * ihd (updI s d (i % 2)) d + bz (updI s d (i % 2) d) = i
    rw [updI_s, ihd_ag (s' := s) (fun j hj => updI_n (by omega)), hs]
    rcases (show i % 2 = 0 ∨ i % 2 = 1 by omega) with e | e <;> rw [e] <;> simp [bz] <;> omega
theorem mix_up {d : Int} {s r : Int → Int} : mix (d + 1) s r = mix d s (updI r d (s d)) := by
  funext k
  by_cases h : k < d
  · rw [mix_lt (by omega), mix_lt h]
  · rw [mix_ge (d := d) (by omega)]
    by_cases e : k = d
    · rw [e, updI_s, mix_lt (by omega)]
    · rw [updI_n e, mix_ge (by omega)]
theorem pd_mix {s : Int → Int} : ∀ {d k : Nat} {r : Int → Int}, d + k = 8 → pd (mix (d : Int) s r) 8 = ihd s d * pw2 k + pd r k
  | 0, k, r, h => by
    have e : k = 8 := by omega
    subst e
    rw [show mix ((0 : Nat) : Int) s r = mix 0 s r from rfl]
    rw [pd_ag (r := mix 0 s r) (r' := r) (fun j hj => mix_ge (by omega))]
    show _ = 0 * _ + _
    omega
  | d + 1, k, r, h => by
    have q := pd_mix (s := s) (d := d) (k := k + 1) (r := updI r d (s d)) (by omega)
    rw [show (((d + 1 : Nat) : Int)) = (d : Int) + 1 by omega, mix_up, q]
    have e : (d : Int) = 7 - (k : Int) := by omega
    rw [show updI r (d : Int) (s d) = updI r (7 - (k : Int)) (s d) by rw [e], pd_up]
    show ihd s d * (2 * pw2 k) + _ = (2 * ihd s d + bz (s d)) * pw2 k + _
    rw [Int.add_mul, Int.mul_comm 2 (ihd s d), Int.mul_assoc]
    omega
/-- the whole position -/
def pos (r : Int → Int) : Int := pd r 8
theorem pw2_v : pw2 0 = 1 ∧ pw2 1 = 2 ∧ pw2 2 = 4 ∧ pw2 3 = 8 ∧ pw2 4 = 16 ∧ pw2 5 = 32 ∧ pw2 6 = 64 ∧ pw2 7 = 128 ∧ pw2 8 = 256 := by decide
theorem pos_in (r : Int → Int) : 0 ≤ pos r ∧ pos r < 256 := pd_in r 8
/-! ===== laid parts of a word's function ===== -/
theorem msk_ok : ∀ (n : Fin 6) (j : Fin 64), wb (zlshl 1 (pw2 n.val) - 1) j.val = decide ((j.val : Int) < pw2 n.val) := by decide +kernel
theorem dep_v : ∀ d : Fin 8, zshr 256 (d.val : Int) = pw2 (8 - d.val) ∧ zshl 1 (d.val : Int) = pw2 d.val ∧ (1 < d.val → zdiv (zshr 256 (d.val : Int)) 2 = pw2 (7 - d.val)) := by decide +kernel
theorem wd_ok {B : Int → Int64} {a : Int} {j : Nat} (a0 : 0 ≤ a) (a1 : a < 256) (h : a % 64 + j < 64) : wb (zlushr (B (zshr a 6)) (zand a 63)) j = wb (B ((a + j) / 64)) ((a + j) % 64).toNat := by
  rw [(zshr_6 a0 a1).1, (zshr_6 a0 a1).2, wb_ushr (by omega) (by omega)]
  rw [show (a + (j : Int)) / 64 = a / 64 by omega, show ((a + (j : Int)) % 64).toNat = (a % 64).toNat + j by omega]
theorem lyw_wb {B : Int → Int64} {d i : Int} {k : Nat} (hk : d + k = 8) (hd : 2 ≤ d) (h1 : d ≤ 7) (i0 : 0 ≤ i) (i1 : i < pw2 d.toNat) {j : Nat} (hj : (j : Int) < pw2 k) : wb (lyw B d i) j = wb (B ((i * pw2 k + j) / 64)) ((i * pw2 k + j) % 64).toNat := by
  have v := dep_v ⟨d.toNat, by omega⟩
  dsimp only at v
  rw [Int.toNat_of_nonneg (by omega)] at v
  have w := pw2_v
  have e : zshr 256 d = pw2 k := by rw [v.1]; congr 1; omega
  have key : 0 ≤ i * pw2 k ∧ i * pw2 k < 256 ∧ (i * pw2 k) % 64 + j < 64 := by
    rcases (show (d = 2 ∧ k = 6) ∨ (d = 3 ∧ k = 5) ∨ (d = 4 ∧ k = 4) ∨ (d = 5 ∧ k = 3) ∨ (d = 6 ∧ k = 2) ∨ (d = 7 ∧ k = 1) by omega) with ⟨z, y⟩ | ⟨z, y⟩ | ⟨z, y⟩ | ⟨z, y⟩ | ⟨z, y⟩ | ⟨z, y⟩ <;> subst z <;> subst y <;> simp only [show (2 : Int).toNat = 2 from rfl, show (3 : Int).toNat = 3 from rfl, show (4 : Int).toNat = 4 from rfl, show (5 : Int).toNat = 5 from rfl, show (6 : Int).toNat = 6 from rfl, show (7 : Int).toNat = 7 from rfl, w] at * <;> omega
  unfold lyw
  rw [e]
  exact wd_ok key.1 key.2.1 key.2.2
theorem btF_ly {B : Int → Int64} {d i : Int} {k : Nat} (hk : d + k = 8) (h0 : 0 ≤ d) (h1 : d ≤ 7) (i0 : 0 ≤ i) (i1 : i < pw2 d.toNat) {q : Int} (q0 : 0 ≤ q) (q1 : q < 256) : btF (lyP B d i) q = if q < pw2 k then btF B (i * pw2 k + q) else 0 := by
  have w := pw2_v
  have v := dep_v ⟨d.toNat, by omega⟩
  dsimp only at v
  rw [Int.toNat_of_nonneg h0] at v
  by_cases e0 : d = 0
  · subst e0
    have hk8 : k = 8 := by omega
    subst hk8
    have hi : i = 0 := by have : i < pw2 0 := i1; omega
    subst hi
    rw [if_pos (by omega), show (0 : Int) * pw2 8 + q = q by omega]
    rfl
  · by_cases e1 : d = 1
    · subst e1
      have hk7 : k = 7 := by omega
      subst hk7
      have hi : i = 0 ∨ i = 1 := by have : i < pw2 1 := i1; omega
      have eP : i * pw2 7 = i * 128 := by rw [show pw2 7 = 128 by decide]
      by_cases c : q < pw2 7
      · rw [if_pos c, btF_eq q0 q1 (by omega) (by omega)]
        have hq : q / 64 = 0 ∨ q / 64 = 1 := by omega
        have hP : lyP B 1 i (q / 64) = B ((i * pw2 7 + q) / 64) := by
          show (if q / 64 = 0 then B (2 * i) else if q / 64 = 1 then B (2 * i + 1) else 0) = _
          rcases hq with z | z
          · rw [if_pos z]; congr 1; omega
          · rw [if_neg (by omega), if_pos z]; congr 1; omega
        rw [hP]
        congr 1
        omega
      · rw [if_neg c, btF_wb q0 q1, if_neg]
        show ¬ wb (if q / 64 = 0 then B (2 * i) else if q / 64 = 1 then B (2 * i + 1) else 0) _ = true
        rw [if_neg (by omega), if_neg (by omega), wb_0]
        decide
    · have hd : 2 ≤ d := by omega
      have e : zshr 256 d = pw2 k := by rw [v.1]; congr 1; omega
      have hk6 : k ≤ 6 := by omega
      have hp6 : pw2 k ≤ 64 := by
        rcases (show k = 1 ∨ k = 2 ∨ k = 3 ∨ k = 4 ∨ k = 5 ∨ k = 6 by omega) with z | z | z | z | z | z <;> rw [z] <;> omega
      have hib : 0 ≤ i * pw2 k ∧ i * pw2 k + pw2 k ≤ 256 := by
        rcases (show (d = 2 ∧ k = 6) ∨ (d = 3 ∧ k = 5) ∨ (d = 4 ∧ k = 4) ∨ (d = 5 ∧ k = 3) ∨ (d = 6 ∧ k = 2) ∨ (d = 7 ∧ k = 1) by omega) with ⟨z, y⟩ | ⟨z, y⟩ | ⟨z, y⟩ | ⟨z, y⟩ | ⟨z, y⟩ | ⟨z, y⟩ <;> subst z <;> subst y <;> simp only [show (2 : Int).toNat = 2 from rfl, show (3 : Int).toNat = 3 from rfl, show (4 : Int).toNat = 4 from rfl, show (5 : Int).toNat = 5 from rfl, show (6 : Int).toNat = 6 from rfl, show (7 : Int).toNat = 7 from rfl, w] at * <;> omega
      by_cases c : q < pw2 k
      · have t := lyw_wb (B := B) hk hd h1 i0 i1 (j := q.toNat) (by omega)
        rw [Int.toNat_of_nonneg q0] at t
        rw [if_pos c, btF_eq q0 q1 (by omega) (by omega), ← t]
        rw [show q / 64 = 0 by omega, show (q % 64).toNat = q.toNat by omega]
        unfold lyP
        rw [if_pos (by omega), if_pos rfl, e]
        by_cases z : pw2 k = 64
        · rw [if_pos z]
        · rw [if_neg z, wb_and]
          have m := msk_ok ⟨k, by
            rcases (show k = 1 ∨ k = 2 ∨ k = 3 ∨ k = 4 ∨ k = 5 ∨ k = 6 by omega) with y | y | y | y | y | y
            · omega
            · omega
            · omega
            · omega
            · omega
            · rw [y] at z; omega⟩ ⟨q.toNat, by omega⟩
          dsimp only at m
          rw [m, decide_eq_true (by omega), Bool.and_true]
      · rw [if_neg c, btF_wb q0 q1, if_neg]
        unfold lyP
        rw [if_pos (by omega)]
        by_cases y : q / 64 = 0
        · rw [if_pos y, e]
          by_cases z : pw2 k = 64
          · omega
          · rw [if_neg z, wb_and]
            have m := msk_ok ⟨k, by
              rcases (show k = 1 ∨ k = 2 ∨ k = 3 ∨ k = 4 ∨ k = 5 ∨ k = 6 by omega) with y | y | y | y | y | y
              · omega
              · omega
              · omega
              · omega
              · omega
              · rw [y] at z; omega⟩ ⟨(q % 64).toNat, by omega⟩
            dsimp only at m
            rw [m, decide_eq_false (by omega), Bool.and_false]
            decide
        · rw [if_neg y, wb_0]
          decide
theorem bool_ne {a b : Bool} : (a ^^ b) = false ↔ a = b := by cases a <;> cases b <;> decide
theorem lyR_ly {B : Int → Int64} {d i : Int} {k : Nat} (hk : d + (k + 1) = 8) (h0 : 0 ≤ d) (i0 : 0 ≤ i) (i1 : i < pw2 d.toNat) : lyR B d i = true ↔ ∃ q : Int, (0 ≤ q ∧ q < pw2 k) ∧ ¬ btF B (i * pw2 (k + 1) + q) = btF B (i * pw2 (k + 1) + q + pw2 k) := by
  have w := pw2_v
  have v := dep_v ⟨d.toNat, by omega⟩
  dsimp only at v
  rw [Int.toNat_of_nonneg h0] at v
  have h2 : pw2 (k + 1) = 2 * pw2 k := rfl
  by_cases e0 : d = 0
  · subst e0
    have hk7 : k = 7 := by omega
    subst hk7
    have hi : i = 0 := by have : i < pw2 0 := i1; omega
    subst hi
    rw [lyR_0, decide_eq_true_iff]
    constructor
    · intro h
      by_cases z : ∃ q : Int, (0 ≤ q ∧ q < pw2 7) ∧ ¬ btF B (0 * pw2 (7 + 1) + q) = btF B (0 * pw2 (7 + 1) + q + pw2 7)
      · exact z
      · exfalso
        have key : ∀ c : Int, (c = 0 ∨ c = 1) → B c = B (c + 2) := fun c hc => wb_ext (fun j hj => by
          by_cases y : wb (B c) j = wb (B (c + 2)) j
          · exact y
          · exfalso
            refine z ⟨64 * c + j, by omega, fun t => y ?_⟩
            rw [btF_eq (by omega) (by omega) (by omega) (by omega)] at t
            rw [show (0 * pw2 (7 + 1) + (64 * c + (j : Int))) / 64 = c by omega, show ((0 * pw2 (7 + 1) + (64 * c + (j : Int))) % 64).toNat = j by omega, show (0 * pw2 (7 + 1) + (64 * c + (j : Int)) + pw2 7) / 64 = c + 2 by omega, show ((0 * pw2 (7 + 1) + (64 * c + (j : Int)) + pw2 7) % 64).toNat = j by omega] at t
            exact t)
        rcases h with h | h
        · exact h (key 0 (Or.inl rfl))
        · exact h (key 1 (Or.inr rfl))
    · rintro ⟨q, qb, hq⟩
      by_cases z : B 0 = B 2
      · right
        intro y
        refine hq ?_
        rw [btF_eq (by omega) (by omega) (by omega) (by omega)]
        rw [show ((0 * pw2 (7 + 1) + q + pw2 7) % 64).toNat = ((0 * pw2 (7 + 1) + q) % 64).toNat by omega]
        rcases (show (0 * pw2 (7 + 1) + q) / 64 = 0 ∨ (0 * pw2 (7 + 1) + q) / 64 = 1 by omega) with t | t
        · rw [t, show (0 * pw2 (7 + 1) + q + pw2 7) / 64 = 2 by omega, z]
        · rw [t, show (0 * pw2 (7 + 1) + q + pw2 7) / 64 = 3 by omega, y]
      · exact Or.inl z
  · by_cases e1 : d = 1
    · subst e1
      have hk6 : k = 6 := by omega
      subst hk6
      have hi : i = 0 ∨ i = 1 := by have : i < pw2 1 := i1; omega
      have eP : i * pw2 (6 + 1) = i * 128 := by rw [show pw2 (6 + 1) = 128 by decide]
      rw [lyR_1, decide_eq_true_iff]
      constructor
      · intro h
        by_cases z : ∃ q : Int, (0 ≤ q ∧ q < pw2 6) ∧ ¬ btF B (i * pw2 (6 + 1) + q) = btF B (i * pw2 (6 + 1) + q + pw2 6)
        · exact z
        · exfalso
          refine h (wb_ext (fun j hj => ?_))
          by_cases y : wb (B (2 * i)) j = wb (B (2 * i + 1)) j
          · exact y
          · exfalso
            refine z ⟨j, by omega, fun t => y ?_⟩
            rw [btF_eq (by omega) (by omega) (by omega) (by omega)] at t
            rw [show (i * pw2 (6 + 1) + (j : Int)) / 64 = 2 * i by omega, show ((i * pw2 (6 + 1) + (j : Int)) % 64).toNat = j by omega, show (i * pw2 (6 + 1) + (j : Int) + pw2 6) / 64 = 2 * i + 1 by omega, show ((i * pw2 (6 + 1) + (j : Int) + pw2 6) % 64).toNat = j by omega] at t
            exact t
      · rintro ⟨q, qb, hq⟩ y
        refine hq ?_
        rw [btF_eq (by omega) (by omega) (by omega) (by omega)]
        rw [show (i * pw2 (6 + 1) + q) / 64 = 2 * i by omega, show (i * pw2 (6 + 1) + q + pw2 6) / 64 = 2 * i + 1 by omega, show ((i * pw2 (6 + 1) + q + pw2 6) % 64).toNat = ((i * pw2 (6 + 1) + q) % 64).toNat by omega, y]
    · have hd : 2 ≤ d := by omega
      have hk5 : k ≤ 5 := by omega
      have hp5 : pw2 k ≤ 32 ∧ 1 ≤ pw2 k := by
        rcases (show k = 0 ∨ k = 1 ∨ k = 2 ∨ k = 3 ∨ k = 4 ∨ k = 5 by omega) with z | z | z | z | z | z <;> rw [z] <;> omega
      have e : zdiv (zshr 256 d) 2 = pw2 k := by rw [v.2.2 (by omega)]; congr 1; omega
      have hib : 0 ≤ i * pw2 (k + 1) ∧ i * pw2 (k + 1) + pw2 (k + 1) ≤ 256 := by
        rcases (show (d = 2 ∧ k = 5) ∨ (d = 3 ∧ k = 4) ∨ (d = 4 ∧ k = 3) ∨ (d = 5 ∧ k = 2) ∨ (d = 6 ∧ k = 1) ∨ (d = 7 ∧ k = 0) by omega) with ⟨z, y⟩ | ⟨z, y⟩ | ⟨z, y⟩ | ⟨z, y⟩ | ⟨z, y⟩ | ⟨z, y⟩ <;> subst z <;> subst y <;> simp only [show (2 : Int).toNat = 2 from rfl, show (3 : Int).toNat = 3 from rfl, show (4 : Int).toNat = 4 from rfl, show (5 : Int).toNat = 5 from rfl, show (6 : Int).toNat = 6 from rfl, show (7 : Int).toNat = 7 from rfl, Nat.reduceAdd, w] at * <;> omega
      have cb : ∀ j : Nat, j < 64 → wb (lyc B d i) j = if (j : Int) < pw2 k then (wb (lyw B d i) j ^^ wb (lyw B d i) (j + (pw2 k).toNat)) else false := fun j hj => by
        unfold lyc
        rw [e, wb_and, wb_xor, wb_ushr (by omega) (by omega)]
        have m := msk_ok ⟨k, by omega⟩ ⟨j, hj⟩
        dsimp only at m
        rw [m, Nat.add_comm]
        by_cases y : (j : Int) < pw2 k
        · rw [if_pos y, decide_eq_true y, Bool.and_true]
        · rw [if_neg y, decide_eq_false y, Bool.and_false]
      have lw : ∀ q : Int, 0 ≤ q → q < pw2 k → (wb (lyw B d i) q.toNat = wb (lyw B d i) (q.toNat + (pw2 k).toNat) ↔ btF B (i * pw2 (k + 1) + q) = btF B (i * pw2 (k + 1) + q + pw2 k)) := fun q q0 q1 => by
        rw [btF_eq (by omega) (by omega) (by omega) (by omega)]
        have a := lyw_wb (B := B) (k := k + 1) (by omega) hd (by omega) i0 i1 (j := q.toNat) (by omega)
        have b := lyw_wb (B := B) (k := k + 1) (by omega) hd (by omega) i0 i1 (j := q.toNat + (pw2 k).toNat) (by omega)
        rw [show ((q.toNat + (pw2 k).toNat : Nat) : Int) = q + pw2 k by omega] at b
        rw [Int.toNat_of_nonneg q0] at a
        rw [a, b, show i * pw2 (k + 1) + (q + pw2 k) = i * pw2 (k + 1) + q + pw2 k by omega]
      rw [lyR_2 (by omega), decide_eq_true_iff]
      constructor
      · intro h
        by_cases z : ∃ q : Int, (0 ≤ q ∧ q < pw2 k) ∧ ¬ btF B (i * pw2 (k + 1) + q) = btF B (i * pw2 (k + 1) + q + pw2 k)
        · exact z
        · exfalso
          refine h (wb_ext (fun j hj => ?_))
          rw [cb j hj, wb_0]
          by_cases y : (j : Int) < pw2 k
          · rw [if_pos y]
            refine bool_ne.mpr ?_
            have t := lw j (by omega) y
            rw [Int.toNat_natCast] at t
            refine t.mpr ?_
            by_cases u : btF B (i * pw2 (k + 1) + j) = btF B (i * pw2 (k + 1) + j + pw2 k)
            · exact u
            · exact absurd ⟨(j : Int), ⟨by omega, y⟩, u⟩ z
          · rw [if_neg y]
      · rintro ⟨q, qb, hq⟩ h
        refine hq ((lw q qb.1 qb.2).mp ?_)
        have t := cb q.toNat (by omega)
        rw [h, wb_0, if_pos (by omega)] at t
        exact bool_ne.mp t.symm
end
section
/-! ===== the reference's functions, its labels, its counts ===== -/
def phi (J : zJ) (f : Int) : FN := fun r => btF (bitF J f) (pos r)
def rlab (M : zM) (J : zJ) (n : Int) : Lb := (M 47 n, fun r => btF (kyf J n) (pd r (8 - M 47 n).toNat))
theorem pw2_le : ∀ k : Fin 9, pw2 k.val ≤ 256 := by decide
theorem zshl_pw {d : Int} (h0 : 0 ≤ d) (h1 : d ≤ 7) : zshl 1 d = pw2 d.toNat := by
  have v := dep_v ⟨d.toNat, by omega⟩
  dsimp only at v
  rw [Int.toNat_of_nonneg h0] at v
  exact v.2.1
theorem ly_rng {d i : Int} {k : Nat} (hk : d + k = 8) (h0 : 0 ≤ d) (h1 : d ≤ 7) (i0 : 0 ≤ i) (i1 : i < pw2 d.toNat) : 0 ≤ i * pw2 k ∧ i * pw2 k + pw2 k ≤ 256 := by
  have w := pw2_v
  rcases (show (d = 0 ∧ k = 8) ∨ (d = 1 ∧ k = 7) ∨ (d = 2 ∧ k = 6) ∨ (d = 3 ∧ k = 5) ∨ (d = 4 ∧ k = 4) ∨ (d = 5 ∧ k = 3) ∨ (d = 6 ∧ k = 2) ∨ (d = 7 ∧ k = 1) by omega) with ⟨z, y⟩ | ⟨z, y⟩ | ⟨z, y⟩ | ⟨z, y⟩ | ⟨z, y⟩ | ⟨z, y⟩ | ⟨z, y⟩ | ⟨z, y⟩ <;> subst z <;> subst y <;> simp only [show (0 : Int).toNat = 0 from rfl, show (1 : Int).toNat = 1 from rfl, show (2 : Int).toNat = 2 from rfl, show (3 : Int).toNat = 3 from rfl, show (4 : Int).toNat = 4 from rfl, show (5 : Int).toNat = 5 from rfl, show (6 : Int).toNat = 6 from rfl, show (7 : Int).toNat = 7 from rfl, w] at * <;> omega
/-- the laid parts of a function in words -/
theorem laid_B {B : Int → Int64} {y : Lb} : laid (fun r => btF B (pos r)) y ↔ ∃ i : Int, (0 ≤ y.1 ∧ y.1 ≤ 7) ∧ (0 ≤ i ∧ i < zshl 1 y.1) ∧ lyR B y.1 i = true ∧ y.2 = fun r => btF (lyP B y.1 i) (pd r (8 - y.1).toNat) := by
  obtain ⟨d, psi⟩ := y
  dsimp only
  constructor
  · rintro ⟨⟨a, b⟩, ⟨s, e⟩, r, q⟩
    dsimp only at a b e q
    obtain ⟨k, hk⟩ : ∃ k : Nat, d + ((k + 1 : Nat) : Int) = 8 := ⟨(7 - d).toNat, by omega⟩
    have hi := ihd_in s d.toNat
    have hpos : ∀ r' : Int → Int, pos (mix d s r') = ihd s d.toNat * pw2 (k + 1) + pd r' (k + 1) := fun r' => by
      have z := pd_mix (s := s) (d := d.toNat) (k := k + 1) (r := r') (by omega)
      rw [Int.toNat_of_nonneg a] at z
      exact z
    have hd7 : d = 7 - (k : Int) := by omega
    have hr := ly_rng hk a (by omega) hi.1 hi.2
    refine ⟨ihd s d.toNat, ⟨a, by omega⟩, ⟨hi.1, by rw [zshl_pw a (by omega)]; exact hi.2⟩, ?_, ?_⟩
    · rw [lyR_ly (k := k) (by omega) a hi.1 hi.2]
      have hp := pd_in r k
      refine ⟨pd r k, hp, fun t => q ?_⟩
      rw [e]
      dsimp only
      rw [hpos, hpos, hd7, pd_up, pd_up, bz_0, bz_1]
      rw [hd7] at t
      rw [show ∀ x : Int, x + (0 * pw2 k + pd r k) = x + pd r k from fun x => by omega, show ∀ x : Int, x + (1 * pw2 k + pd r k) = x + pd r k + pw2 k from fun x => by omega]
      exact t
    · rw [e]
      funext r'
      try dsimp only
      have hp := pd_in r' (k + 1)
      have hle : pw2 (k + 1) ≤ 256 := pw2_le ⟨k + 1, by omega⟩
      rw [hpos, show (8 - d).toNat = k + 1 by omega, btF_ly (k := k + 1) hk a (by omega) hi.1 hi.2 hp.1 (by omega), if_pos hp.2]
  · rintro ⟨i, ⟨a, b⟩, ⟨i0, i1⟩, hR, e⟩
    obtain ⟨k, hk⟩ : ∃ k : Nat, d + ((k + 1 : Nat) : Int) = 8 := ⟨(7 - d).toNat, by omega⟩
    rw [zshl_pw a b] at i1
    obtain ⟨s, hs⟩ := ihd_onto d.toNat i i0 i1
    have hpos : ∀ r' : Int → Int, pos (mix d s r') = i * pw2 (k + 1) + pd r' (k + 1) := fun r' => by
      have z := pd_mix (s := s) (d := d.toNat) (k := k + 1) (r := r') (by omega)
      rw [Int.toNat_of_nonneg a, hs] at z
      exact z
    have hd7 : d = 7 - (k : Int) := by omega
    have hle : pw2 (k + 1) ≤ 256 := pw2_le ⟨k + 1, by omega⟩
    have e2 : psi = fun r => btF B (pos (mix d s r)) := by
      rw [e]
      funext r'
      have hp := pd_in r' (k + 1)
      rw [hpos, show (8 - d).toNat = k + 1 by omega, btF_ly (k := k + 1) hk a b i0 i1 hp.1 (by omega), if_pos hp.2]
    refine ⟨⟨a, by show d < 8; omega⟩, ⟨s, e2⟩, ?_⟩
    rw [lyR_ly (k := k) (by omega) a i0 i1] at hR
    obtain ⟨q, qb, hq⟩ := hR
    obtain ⟨r, hr⟩ := pd_onto k q qb.1 qb.2
    refine ⟨r, fun t => hq ?_⟩
    dsimp only at t
    rw [e2] at t
    dsimp only at t
    rw [hpos, hpos, hd7, pd_up, pd_up, bz_0, bz_1, hr] at t
    rw [show ∀ x : Int, x + (0 * pw2 k + q) = x + q from fun x => by omega, show ∀ x : Int, x + (1 * pw2 k + q) = x + q + pw2 k from fun x => by omega] at t
    exact t
theorem cfn_ex {M : zM} {lo : Int → Int} {n : Int} : ∀ {N : Nat}, ¬ cfn M lo n N = 0 → ∃ f : Int, (0 ≤ f ∧ f < N) ∧ ¬ M 43 f = 0 ∧ inS M f (lo f) n
  | 0, h => absurd rfl h
  | N + 1, h => by
    by_cases e : ¬ M 43 (N : Int) = 0 ∧ inS M N (lo N) n
    · exact ⟨N, by omega, e⟩
    · unfold cfn at h
      rw [ind_f e] at h
      obtain ⟨f, a, b⟩ := cfn_ex (N := N) (n := n) (lo := lo) (M := M) (fun z => h (by omega))
      exact ⟨f, by omega, b⟩
/-- a node in use is a laid part of a function -/
theorem ref_lab {M : zM} {J : zJ} (h : TI M J) {n : Int} (n0 : 0 ≤ n) (n1 : n < 520) (hn : ¬ M 49 n = 0) : ∃ f i : Int, (0 ≤ f ∧ f < 56) ∧ ¬ M 43 f = 0 ∧ inS M f 0 n ∧ ((0 ≤ M 47 n ∧ M 47 n ≤ 7) ∧ 0 ≤ i ∧ i < zshl 1 (M 47 n)) ∧ lyR (bitF J f) (M 47 n) i = true ∧ ∀ k : Int, 0 ≤ k → k < 4 → kyf J n k = lyP (bitF J f) (M 47 n) i k := by
  rw [h.2.1.1 n n0 n1] at hn
  obtain ⟨f, a, b, c⟩ := cfn_ex hn
  obtain ⟨d, i, q1, q2, q3⟩ := (h.2.2.1 f a.1 (by omega) b).2 n c
  have e : M 47 n = d := q3.1
  refine ⟨f, i, by omega, b, c, ?_, ?_, ?_⟩
  · rw [e]; exact q1
  · rw [e]; exact q2
  · rw [e]; exact kyf_of q3
theorem rlab_eq {M : zM} {J : zJ} {n d i : Int} {B : Int → Int64} (e : M 47 n = d) (h0 : 0 ≤ d) (h1 : d ≤ 7) (hk : ∀ k : Int, 0 ≤ k → k < 4 → kyf J n k = lyP B d i k) : rlab M J n = (d, fun r => btF (lyP B d i) (pd r (8 - d).toNat)) := by
  unfold rlab
  rw [e]
  refine congrArg (Prod.mk d) ?_
  funext r
  have hp := pd_in r (8 - d).toNat
  have hle : pw2 (8 - d).toNat ≤ 256 := pw2_le ⟨(8 - d).toNat, by omega⟩
  exact btF_congr hk hp.1 (by omega)
theorem rlab_inj {M : zM} {J : zJ} (h : TI M J) {a b : Int} (a0 : 0 ≤ a) (a1 : a < 520) (b0 : 0 ≤ b) (b1 : b < 520) (ha : ¬ M 49 a = 0) (hb : ¬ M 49 b = 0) (e : rlab M J a = rlab M J b) : a = b := by
  obtain ⟨f, i, -, -, -, q1, -, q3⟩ := ref_lab h a0 a1 ha
  obtain ⟨g, j, -, -, -, z1, -, z3⟩ := ref_lab h b0 b1 hb
  have e1 : M 47 a = M 47 b := congrArg Prod.fst e
  have e2 : (fun r => btF (kyf J a) (pd r (8 - M 47 a).toNat)) = fun r => btF (kyf J b) (pd r (8 - M 47 b).toNat) := congrArg Prod.snd e
  refine h.2.2.2.2 a b a0 a1 b0 b1 ha hb e1 (btF_inj (fun p p0 p1 => ?_))
  rw [← e1] at e2 z1 z3
  obtain ⟨k, hk⟩ : ∃ k : Nat, M 47 a + (k : Int) = 8 := ⟨(8 - M 47 a).toNat, by omega⟩
  rw [show (8 - M 47 a).toNat = k by omega] at e2
  by_cases c : p < pw2 k
  · obtain ⟨r, hr⟩ := pd_onto k p p0 c
    have t := congrFun e2 r
    try dsimp only at t
    rw [hr] at t
    exact t
  · have i1 := q1.2.2
    have j1 := z1.2.2
    rw [zshl_pw q1.1.1 q1.1.2] at i1 j1
    rw [btF_congr q3 p0 p1, btF_congr z3 p0 p1, btF_ly hk q1.1.1 q1.1.2 q1.2.1 i1 p0 p1, btF_ly hk q1.1.1 q1.1.2 z1.2.1 j1 p0 p1, if_neg c, if_neg c]
/-- what is in use, counted -/
def LBr (M : zM) (J : zJ) (y : Lb) : Prop := ∃ f : Int, (0 ≤ f ∧ f < 56) ∧ ¬ M 43 f = 0 ∧ laid (phi J f) y
theorem ref_cnt {M : zM} {J : zJ} (h : TI M J) (hok : zOK M) : cnt (LBr M J) (M 31 24) := by
  obtain ⟨ch, fl, t1⟩ := h.1
  rw [t1.2.2.2]
  refine cnt_hr (g := rlab M J) (fun a b a0 a1 b0 b1 ha hb e => rlab_inj h a0 (by omega) b0 (by omega) ha hb e) (fun a a0 a1 ha => ?_) (fun x hx => ?_)
  · obtain ⟨f, i, f0, f1, -, q1, q2, q3⟩ := ref_lab h a0 (by omega) ha
    refine ⟨f, f0, f1, laid_B.mpr ⟨i, ?_⟩⟩
    rw [rlab_eq rfl q1.1.1 q1.1.2 q3]
    exact ⟨q1.1, q1.2, q2, rfl⟩
  · obtain ⟨f, f0, f1, hl⟩ := hx
    obtain ⟨i, ⟨a, b⟩, ⟨c, w⟩, q, e⟩ := laid_B.mp hl
    obtain ⟨n, h1, h2⟩ := (h.2.2.1 f f0.1 f0.2 f1).1 x.1 i a b c w q
    have nr := inS_range hok h1
    refine ⟨n, nr.1, by omega, held_of h.2.1 f0.1 f0.2 nr.1 nr.2 f1 h1, ?_⟩
    rw [rlab_eq h2.1 a b (kyf_of h2)]
    exact Prod.ext rfl e.symm
theorem hr_1 : ∀ n : Nat, hr (fun _ => 1) n = n
  | 0 => rfl
  | n + 1 => by
    unfold hr
    rw [hr_1 n, if_neg (by decide)]
    omega
theorem cnt_ix {g : Int → Lb} {P : Lb → Prop} {c : Int} (c0 : 0 ≤ c) (hi : ∀ a b : Int, 0 ≤ a → a < c → 0 ≤ b → b < c → g a = g b → a = b) (h1 : ∀ a : Int, 0 ≤ a → a < c → P (g a)) (h2 : ∀ x, P x → ∃ a : Int, 0 ≤ a ∧ a < c ∧ g a = x) : cnt P c := by
  have q := cnt_hr (f := fun _ => 1) (g := g) (n := c.toNat) (P := P) (fun a b a0 a1 b0 b1 _ _ e => hi a b a0 (by omega) b0 (by omega) e) (fun a a0 a1 _ => h1 a a0 (by omega)) (fun x hx => by
    obtain ⟨a, a0, a1, e⟩ := h2 x hx
    exact ⟨a, a0, by omega, (by show ¬ (1 : Int) = 0; decide), e⟩)
  rw [hr_1, Int.toNat_of_nonneg c0] at q
  exact q
/-- the nodes of one function, counted -/
theorem ref_nodes {M : zM} {J : zJ} (h : TI M J) (hok : zOK M) {f : Int} (f0 : 0 ≤ f) (f1 : f < 56) (hf : ¬ M 43 f = 0) : cnt (laid (phi J f)) (M 45 f) := by
  have hin : ∀ j : Int, 0 ≤ j → j < M 45 f → inS M f 0 (M 46 (255 * f + j)) := fun j a b => ⟨j, a, b, rfl⟩
  have hlv : ∀ j : Int, 0 ≤ j → j < M 45 f → (0 ≤ M 46 (255 * f + j) ∧ M 46 (255 * f + j) < 520) ∧ ¬ M 49 (M 46 (255 * f + j)) = 0 := fun j a b => by
    have nr := inS_range hok (hin j a b)
    exact ⟨nr, held_of h.2.1 f0 f1 nr.1 nr.2 hf (hin j a b)⟩
  have h45 : 0 ≤ M 45 f ∧ M 45 f ≤ 255 := hok 45 f
  refine cnt_ix (g := fun j => rlab M J (M 46 (255 * f + j))) h45.1 (fun a b a0 a1 b0 b1 e => ?_) (fun a a0 a1 => ?_) (fun x hx => ?_)
  · have q := rlab_inj h (hlv a a0 a1).1.1 (hlv a a0 a1).1.2 (hlv b b0 b1).1.1 (hlv b b0 b1).1.2 (hlv a a0 a1).2 (hlv b b0 b1).2 e
    have z := (h.2.1.2 f f0 f1).1
    by_cases t : a = b
    · exact t
    · exfalso
      rcases (show a < b ∨ b < a by omega) with t | t
      · exact z a b a0 t b1 q
      · exact z b a b0 t a1 q.symm
  · obtain ⟨d, i, q1, q2, q3⟩ := (h.2.2.1 f f0 f1 hf).2 _ (hin a a0 a1)
    refine laid_B.mpr ⟨i, ?_⟩
    try dsimp only
    rw [rlab_eq q3.1 q1.1.1 q1.1.2 (kyf_of q3)]
    exact ⟨q1.1, q1.2, q2, rfl⟩
  · obtain ⟨i, ⟨a, b⟩, ⟨c, w⟩, q, e⟩ := laid_B.mp hx
    obtain ⟨n, ⟨j, j0, j1, hj⟩, h2⟩ := (h.2.2.1 f f0 f1 hf).1 x.1 i a b c w q
    refine ⟨j, j0, j1, ?_⟩
    try dsimp only
    rw [hj, rlab_eq h2.1 a b (kyf_of h2)]
    exact Prod.ext rfl e.symm
end
section
/-! ===== the pool: chains, nodeFor ===== -/
/-- a chain of the pool's nodes -/
def chp (nx : Int → Int) : Int → List Int → Prop
  | s, [] => s = -1
  | s, n :: r => s = n ∧ 2 ≤ n ∧ n < 252 ∧ chp nx (nx n) r
theorem chp_rng {nx : Int → Int} : ∀ {l : List Int} {s : Int}, chp nx s l → ∀ n ∈ l, 2 ≤ n ∧ n < 252
  | [], _, _, n, hn => by cases hn
  | m :: r, s, h, n, hn => by
    rcases List.mem_cons.mp hn with rfl | hn
    · exact ⟨h.2.1, h.2.2.1⟩
    · exact chp_rng h.2.2.2 n hn
theorem chp_congr {nx nx' : Int → Int} : ∀ {l : List Int} {s : Int}, (∀ n ∈ l, nx' n = nx n) → chp nx s l → chp nx' s l
  | [], _, _, h => h
  | m :: r, s, e, h => ⟨h.1, h.2.1, h.2.2.1, by
      rw [e m List.mem_cons_self]
      exact chp_congr (fun n hn => e n (List.mem_cons_of_mem _ hn)) h.2.2.2⟩
theorem chp_push {nx : Int → Int} {l : List Int} {s n : Int} (h : chp nx s l) (h0 : 2 ≤ n) (h1 : n < 252) (hn : n ∉ l) : chp (updI nx n s) n (n :: l) :=
  ⟨rfl, h0, h1, by
    rw [updI_s]
    exact chp_congr (fun m hm => updI_n (fun e => hn (e ▸ hm))) h⟩
theorem chp_cons {nx : Int → Int} {s : Int} {l : List Int} (h : chp nx s l) (hs : ¬ s = -1) : ∃ r, l = s :: r ∧ 2 ≤ s ∧ s < 252 ∧ chp nx (nx s) r := by
  cases l with
  | nil => exact absurd h hs
  | cons n r =>
    obtain ⟨rfl, h1, h2, h3⟩ := h
    exact ⟨r, rfl, h1, h2, h3⟩
theorem chp_nil {nx : Int → Int} {s : Int} {l : List Int} (h : chp nx s l) (hs : s = -1) : l = [] := by
  cases l with
  | nil => rfl
  | cons n r =>
    obtain ⟨rfl, h1, h2, h3⟩ := h
    omega
def rg250 : Nat → List Int
  | 0 => []
  | n + 1 => ((n : Int) + 2) :: rg250 n
theorem rg250_mem : ∀ {n : Nat} {k : Int}, 2 ≤ k → k < (n : Int) + 2 → k ∈ rg250 n
  | 0, k, h0, h1 => by omega
  | n + 1, k, h0, h1 => by
    unfold rg250
    by_cases e : k = (n : Int) + 2
    · rw [e]; exact List.mem_cons_self
    · exact List.mem_cons_of_mem _ (rg250_mem h0 (by omega))
theorem rg250_len : ∀ n : Nat, (rg250 n).length = n
  | 0 => rfl
  | n + 1 => by
    unfold rg250
    rw [List.length_cons, rg250_len n]
theorem chp_len {nx : Int → Int} {l : List Int} {s : Int} (h : chp nx s l) (hd : l.Nodup) : l.length ≤ 250 := by
  have q := nodup_len hd (l' := rg250 250) (fun x hx => by
    have := chp_rng h x hx
    exact rg250_mem this.1 (by omega))
  rw [rg250_len] at q
  exact q
/-- rows, the free ones, how many are used: S are the nodes that are used -/
def tbC (M : zM) (S : Int → Prop) (ch : Int → List Int) (fl : List Int) : Prop :=
  (∀ r : Int, 0 ≤ r → r < 256 → chp (M 10) (M 11 r) (ch r) ∧ (ch r).Nodup ∧ ∀ n ∈ ch r, S n ∧ zxor (M 7 n) (M 8 n) = r) ∧
  (chp (M 10) (M 5 6) fl ∧ fl.Nodup ∧ ∀ n ∈ fl, ¬ S n) ∧
  (∀ n : Int, 2 ≤ n → n < 252 → (S n → n ∈ ch (zxor (M 7 n) (M 8 n))) ∧ (¬ S n → n ∈ fl)) ∧
  M 5 7 = hr (fun n => ind (S n)) 252
def plo (M : zM) (S : Int → Prop) : Prop := pst M S ∧ ∃ (ch : Int → List Int) (fl : List Int), tbC M S ch fl
theorem ind_nz {p : Prop} : ¬ ind p = 0 ↔ p := by
  by_cases h : p
  · rw [ind_t h]; exact ⟨fun _ => h, fun _ => by decide⟩
  · rw [ind_f h]; exact ⟨fun q => absurd rfl q, fun q => absurd q h⟩
theorem plo_pI {M : zM} {S : Int → Prop} (h : plo M S) : pI M := by
  obtain ⟨h0, ch, fl, h1, ⟨h2, -, -⟩, h4, -⟩ := h
  have link : ∀ {nx : Int → Int} {l : List Int} {s : Int}, chp nx s l → ((s = -1 ∨ 2 ≤ s) ∧ ∀ n ∈ l, nx n = -1 ∨ 2 ≤ nx n) := by
    intro nx l
    induction l with
    | nil => intro s h; exact ⟨Or.inl h, fun n hn => by cases hn⟩
    | cons a t ih =>
      intro s h
      obtain ⟨e, a2, -, hc⟩ := h
      have q := ih hc
      refine ⟨Or.inr (by omega), fun n hn => ?_⟩
      rcases List.mem_cons.mp hn with z | z
      · rw [z]; exact q.1
      · exact q.2 n z
  refine ⟨h0.1.1, h0.1.2, (link h2).1, fun n n0 n1 => ?_, fun r r0 r1 => (link (h1 r r0 r1).1).1⟩
  by_cases q : S n
  · have z := (h4 n n0 n1).1 q
    have a := h0.2.1 n q
    have hz := zxor_in (x := M 7 n) (y := M 8 n) (okN_in h0 a.2.2.2.1.1).1 (by have := okN_in h0 a.2.2.2.1.1; omega) (okN_in h0 a.2.2.2.2.1).1 (by have := okN_in h0 a.2.2.2.2.1; omega)
    exact (link (h1 _ hz.1 hz.2).1).2 n z
  · exact (link h2).2 n ((h4 n n0 n1).2 q)
/-- where no node is free all are used -/
theorem hr_ind_all {S : Int → Prop} : ∀ {n : Nat}, (∀ k : Int, 2 ≤ k → k < (n : Int) + 2 → S k) → (∀ k : Int, k < 2 → ¬ S k) → hr (fun k => ind (S k)) (n + 2) = n
  | 0, _, h => by
    show hr _ 2 = 0
    exact hr_zero (fun k a b => ind_f (h k (by omega)))
  | n + 1, h, h2 => by
    show hr _ (n + 2) + (if ind (S ((n + 2 : Nat) : Int)) = 0 then 0 else 1) = _
    rw [hr_ind_all (n := n) (fun k a b => h k a (by omega)) h2, if_neg (ind_nz.mpr (h _ (by omega) (by omega)))]
    omega
/-- one more is used -/
theorem hr_ind_one {S : Int → Prop} {x : Int} {n : Nat} (x0 : 0 ≤ x) (x1 : x < n) (hx : ¬ S x) : hr (fun k => ind (S k ∨ k = x)) n = hr (fun k => ind (S k)) n + 1 := by
  refine hr_inc (v := x) x0 x1 (ind_f hx) (ind_nz.mpr (Or.inr rfl)) (fun k hk => ?_)
  have e : (S k ∨ k = x) ↔ S k := ⟨fun q => q.resolve_right hk, Or.inl⟩
  rw [ind_congr e]
def nwS (S : Int → Prop) (x : Int) : Int → Prop := fun n => S n ∨ n = x
theorem mkz_o {M : zM} {n p l h : Int} {a : Nat} (h5 : a ≠ 5) (h6 : a ≠ 6) (h7 : a ≠ 7) (h8 : a ≠ 8) : mkz M n p l h a = M a := by
  unfold mkz
  rw [uz_o h8, uz_o h7, uz_o h6, uz_o h5]
theorem mkz_6 {M : zM} {n p l h : Int} : mkz M n p l h 6 = updI (M 6) n p := by
  unfold mkz
  rw [uz_o (by decide), uz_o (by decide), uz_fn, uz_o (by decide)]
theorem mkz_7f {M : zM} {n p l h : Int} : mkz M n p l h 7 = updI (M 7) n l := by
  unfold mkz
  rw [uz_o (by decide), uz_fn, uz_o (by decide), uz_o (by decide)]
theorem mkz_8f {M : zM} {n p l h : Int} : mkz M n p l h 8 = updI (M 8) n h := by
  unfold mkz
  rw [uz_fn, uz_o (by decide), uz_o (by decide), uz_o (by decide)]
theorem mkz_5 {M : zM} {n p l h j : Int} : mkz M n p l h 5 j = if j = 6 then M 10 n else M 5 j := by
  unfold mkz
  rw [uz_oo (by decide), uz_oo (by decide), uz_oo (by decide), uz_a]
theorem entz_o {M : zM} {n : Int} {a : Nat} (h5 : a ≠ 5) (h10 : a ≠ 10) (h11 : a ≠ 11) : entz M n a = M a := by
  unfold entz
  rw [uz_o h5, uz_o h11, uz_o h10]
theorem entz_10 {M : zM} {n : Int} : entz M n 10 = updI (M 10) n (M 11 (zxor (M 7 n) (M 8 n))) := by
  unfold entz
  rw [uz_o (by decide), uz_o (by decide), uz_fn]
theorem entz_11 {M : zM} {n : Int} : entz M n 11 = updI (M 11) (zxor (M 7 n) (M 8 n)) n := by
  unfold entz
  rw [uz_o (by decide), uz_fn, uz_o (by decide)]
theorem entz_5 {M : zM} {n j : Int} (h : j ≠ 7) : entz M n 5 j = M 5 j := by
  unfold entz
  rw [uz_n h, uz_oo (by decide), uz_oo (by decide)]
def ndN (M : zM) (x p l h : Int) : zM := entz (mkz M x p l h) x
theorem ndN_6 {M : zM} {x p l h : Int} : ndN M x p l h 6 = updI (M 6) x p := by unfold ndN; rw [entz_o (by decide) (by decide) (by decide), mkz_6]
theorem ndN_7 {M : zM} {x p l h : Int} : ndN M x p l h 7 = updI (M 7) x l := by unfold ndN; rw [entz_o (by decide) (by decide) (by decide), mkz_7f]
theorem ndN_8 {M : zM} {x p l h : Int} : ndN M x p l h 8 = updI (M 8) x h := by unfold ndN; rw [entz_o (by decide) (by decide) (by decide), mkz_8f]
theorem ndN_agr {M : zM} {S : Int → Prop} {x p l h : Int} (hp : pst M S) (x2 : 2 ≤ x) (hx : ¬ S x) : agr M (ndN M x p l h) S := by
  refine ⟨⟨by rw [ndN_6, updI_n (by omega)], by rw [ndN_6, updI_n (by omega)]⟩, fun n hn => ?_⟩
  have q : n ≠ x := fun e => hx (e ▸ hn)
  rw [ndN_6, ndN_7, ndN_8, updI_n q, updI_n q, updI_n q]
  exact ⟨rfl, rfl, rfl⟩
/-- a new node -/
theorem pst_new {M : zM} {S : Int → Prop} {x p l h : Int} (hp : pst M S) (x2 : 2 ≤ x) (x1 : x < 252) (hx : ¬ S x) (p0 : 0 ≤ p) (p1 : p < 8) (hl : okN S l) (hh : okN S h) (pl : p < M 6 l) (ph : p < M 6 h) (hne : l ≠ h) (hno : ∀ n : Int, S n → ¬ (M 6 n = p ∧ M 7 n = l ∧ M 8 n = h)) : pst (ndN M x p l h) (nwS S x) := by
  have ha := ndN_agr (p := p) (l := l) (h := h) hp x2 hx
  have up : ∀ {n : Int}, okN S n → okN (nwS S x) n := fun {n} q => okN_mono (fun m hm => Or.inl hm) q
  have e6 : ∀ {n : Int}, okN S n → ndN M x p l h 6 n = M 6 n := fun {n} q => agr_pl ha q
  have x6 : ndN M x p l h 6 x = p := by rw [ndN_6, updI_s]
  have x7 : ndN M x p l h 7 x = l := by rw [ndN_7, updI_s]
  have x8 : ndN M x p l h 8 x = h := by rw [ndN_8, updI_s]
  refine ⟨⟨ha.1.1.trans hp.1.1, ha.1.2.trans hp.1.2⟩, fun n hn => ?_, fun n m hn hm a b c => ?_⟩
  · rcases hn with hn | rfl
    · obtain ⟨h1, h2, h3, h4, h5⟩ := hp.2.1 n hn
      obtain ⟨a6, a7, a8⟩ := ha.2 n hn
      rw [a6, a7, a8, e6 h4.1, e6 h5.1]
      exact ⟨h1, h2, h3, ⟨up h4.1, h4.2⟩, up h5.1, h5.2⟩
    · rw [x6, x7, x8, e6 hl, e6 hh]
      exact ⟨⟨x2, x1⟩, ⟨p0, p1⟩, hne, ⟨up hl, pl⟩, up hh, ph⟩
  · rcases hn with hn | rfl
    · rcases hm with hm | rfl
      · rw [(ha.2 n hn).1, (ha.2 m hm).1] at a
        rw [(ha.2 n hn).2.1, (ha.2 m hm).2.1] at b
        rw [(ha.2 n hn).2.2, (ha.2 m hm).2.2] at c
        exact hp.2.2 n m hn hm a b c
      · rw [(ha.2 n hn).1, x6] at a
        rw [(ha.2 n hn).2.1, x7] at b
        rw [(ha.2 n hn).2.2, x8] at c
        exact absurd ⟨a, b, c⟩ (hno n hn)
    · rcases hm with hm | rfl
      · rw [(ha.2 m hm).1, x6] at a
        rw [(ha.2 m hm).2.1, x7] at b
        rw [(ha.2 m hm).2.2, x8] at c
        exact absurd ⟨a.symm, b.symm, c.symm⟩ (hno m hm)
      · rfl
theorem tbC_new {M : zM} {S : Int → Prop} {ch : Int → List Int} {fl : List Int} {x p l h : Int} (hp : pst M S) (ht : tbC M S ch fl) (hx : x = M 5 6) (hx1 : ¬ x = -1) (hl : okN S l) (hh : okN S h) : (2 ≤ x ∧ x < 252 ∧ ¬ S x) ∧ ∃ (ch' : Int → List Int) (fl' : List Int), tbC (ndN M x p l h) (nwS S x) ch' fl' := by
  obtain ⟨h1, ⟨h2, h3, h4⟩, h5, h6⟩ := ht
  rw [← hx] at h2
  obtain ⟨fl', e, x2, x1, h2'⟩ := chp_cons h2 hx1
  subst e
  have hxS : ¬ S x := h4 x List.mem_cons_self
  have hxf : x ∉ fl' := (List.nodup_cons.mp h3).1
  have hxc : ∀ r : Int, 0 ≤ r → r < 256 → x ∉ ch r := fun r r0 r1 q => hxS ((h1 r r0 r1).2.2 x q).1
  have li := okN_in hp hl
  have hi := okN_in hp hh
  have hz := zxor_in (x := l) (y := h) li.1 (by omega) hi.1 (by omega)
  have m7 : mkz M x p l h 7 x = l := mkz_7
  have m8 : mkz M x p l h 8 x = h := mkz_8
  have e7 : ∀ n : Int, n ≠ x → ndN M x p l h 7 n = M 7 n := fun n q => by rw [ndN_7, updI_n q]
  have e8 : ∀ n : Int, n ≠ x → ndN M x p l h 8 n = M 8 n := fun n q => by rw [ndN_8, updI_n q]
  have x7 : ndN M x p l h 7 x = l := by rw [ndN_7, updI_s]
  have x8 : ndN M x p l h 8 x = h := by rw [ndN_8, updI_s]
  have e10 : ndN M x p l h 10 = updI (M 10) x (M 11 (zxor l h)) := by
    unfold ndN
    rw [entz_10, m7, m8, mkz_o (by decide) (by decide) (by decide) (by decide), mkz_o (by decide) (by decide) (by decide) (by decide)]
  have e11 : ndN M x p l h 11 = updI (M 11) (zxor l h) x := by
    unfold ndN
    rw [entz_11, m7, m8, mkz_o (by decide) (by decide) (by decide) (by decide)]
  have e56 : ndN M x p l h 5 6 = M 10 x := by
    unfold ndN
    rw [entz_5 (by decide), mkz_5, if_pos rfl]
  have e57 : ndN M x p l h 5 7 = M 5 7 + 1 := by
    unfold ndN
    rw [entz_57, mkz_57]
  refine ⟨⟨x2, x1, hxS⟩, fun r => if r = zxor l h then x :: ch r else ch r, fl', fun r r0 r1 => ?_, ⟨?_, (List.nodup_cons.mp h3).2, fun n hn => ?_⟩, fun n n0 n1 => ⟨fun q => ?_, fun q => ?_⟩, ?_⟩
  · obtain ⟨a, b, c⟩ := h1 r r0 r1
    dsimp only
    rw [e10, e11]
    by_cases z : r = zxor l h
    · rw [if_pos z, z, updI_s]
      rw [z] at a b c r0 r1
      refine ⟨chp_push a x2 x1 (hxc _ r0 r1), List.nodup_cons.mpr ⟨hxc _ r0 r1, b⟩, fun n hn => ?_⟩
      rcases List.mem_cons.mp hn with w | w
      · rw [w, x7, x8]; exact ⟨Or.inr rfl, rfl⟩
      · have nx : n ≠ x := fun t => hxc _ r0 r1 (t ▸ w)
        rw [e7 n nx, e8 n nx]
        exact ⟨Or.inl (c n w).1, (c n w).2⟩
    · rw [if_neg z, updI_n z]
      refine ⟨chp_congr (fun n hn => updI_n (fun t => hxc r r0 r1 (t ▸ hn))) a, b, fun n hn => ?_⟩
      have nx : n ≠ x := fun t => hxc r r0 r1 (t ▸ hn)
      rw [e7 n nx, e8 n nx]
      exact ⟨Or.inl (c n hn).1, (c n hn).2⟩
  · rw [e10, e56]
    exact chp_congr (fun n hn => updI_n (fun t => hxf (t ▸ hn))) h2'
  · rintro (q | q)
    · exact h4 n (List.mem_cons_of_mem _ hn) q
    · exact hxf (q ▸ hn)
  · dsimp only
    by_cases nx : n = x
    · subst nx
      rw [x7, x8, if_pos rfl]
      exact List.mem_cons_self
    · rw [e7 n nx, e8 n nx]
      have z := (h5 n n0 n1).1 (q.resolve_right nx)
      by_cases w : zxor (M 7 n) (M 8 n) = zxor l h
      · rw [if_pos w]; exact List.mem_cons_of_mem _ z
      · rw [if_neg w]; exact z
  · have z := (h5 n n0 n1).2 (fun t => q (Or.inl t))
    rcases List.mem_cons.mp z with w | w
    · exact absurd (Or.inr w) q
    · exact w
  · rw [e57, h6]
    exact (hr_ind_one (S := S) (by omega) (by omega) hxS).symm
/-- what nodeFor answers -/
def ndQ2 (M : zM) (S : Int → Prop) (p l h x : Int) (M' : zM) : Prop := (h = -1 ∧ x = -1 ∧ M' = M) ∨ (¬ h = -1 ∧ l = h ∧ x = h ∧ M' = M) ∨ (¬ h = -1 ∧ l ≠ h ∧ S x ∧ M 6 x = p ∧ M 7 x = l ∧ M 8 x = h ∧ M' = M) ∨ (¬ h = -1 ∧ l ≠ h ∧ (∀ n : Int, S n → ¬ (M 6 n = p ∧ M 7 n = l ∧ M 8 n = h)) ∧ ((x = -1 ∧ M' = M ∧ M 5 8 ≤ M 5 7) ∨ ((2 ≤ x ∧ x < 252 ∧ ¬ S x) ∧ M 5 7 < M 5 8 ∧ M' = ndN M x p l h ∧ plo M' (nwS S x))))
theorem all_used {M : zM} {S : Int → Prop} {ch : Int → List Int} {fl : List Int} (hp : pst M S) (ht : tbC M S ch fl) (h : M 5 6 = -1) (hm : M 5 8 ≤ 250) : M 5 8 ≤ M 5 7 := by
  obtain ⟨-, ⟨h2, -, -⟩, h5, h6⟩ := ht
  have e := chp_nil h2 h
  subst e
  have q : ∀ k : Int, 2 ≤ k → k < ((250 : Nat) : Int) + 2 → S k := fun k a b => by
    by_cases w : S k
    · exact w
    · have := (h5 k a (by omega)).2 w
      cases this
  rw [h6, show hr (fun n => ind (S n)) 252 = 250 from hr_ind_all (n := 250) q (fun k a b => by have := (hp.2.1 k b).1; omega)]
  exact hm
set_option maxRecDepth 20000 in
theorem zX2_nodeFor_f {G : tl_G} {M : zM} {J : zJ} {S : Int → Prop} {p l h : Int} (h0 : 0 ≤ p) (h1 : p < 8) (hl : okN S l) (hh : h = -1 ∨ okN S h) (pl : p < M 6 l) (ph : ¬ h = -1 → p < M 6 h) (hS : plo M S) : ZN G yX2_nodeFor mX2_nodeFor 1 kPool [vR 5, vI p, vI l, vI h] F1 M J (qI (fun x M' J' => J' = J ∧ ndQ2 M S p l h x M')) := by
  refine ZN_of (L := [_, _, _, _, _, _]) (by decide) rfl rfl (Nat.le_of_ble_eq_true rfl) rfl (fun hav => ?_)
  obtain ⟨hp, ch, fl, ht⟩ := id hS
  have li := okN_in hp hl
  have hi : h = -1 ∨ (0 ≤ h ∧ h < 252) := hh.imp_right (fun q => okN_in hp q)
  refine Z_iload_n (n := 1) dX2_nodeFor_0 rfl rfl ?_
  refine Z_iconst (n := 2) dX2_nodeFor_1 rfl (by decide) ?_
  refine Z_icmp_eq (n := 5) (t := 10) dX2_nodeFor_2 rfl (by decide) (fun c2 => ?_) (fun c2 => ?_)
  · refine Z_iload_n (n := 11) dX2_nodeFor_10 rfl rfl ?_
    refine Z_iret dX2_nodeFor_11 rfl ?_
    refine ⟨rfl, ?_⟩
    first
      | exact Or.inl ⟨by omega, by omega, rfl⟩
      | (by_cases z : h = -1
         · exact Or.inl ⟨z, z, rfl⟩
         · exact Or.inr (Or.inl ⟨z, by omega, rfl, rfl⟩))
  · refine Z_iload_n (n := 6) dX2_nodeFor_5 rfl rfl ?_
    refine Z_iload_n (n := 7) dX2_nodeFor_6 rfl rfl ?_
    refine Z_icmp_ne (n := 10) (t := 12) dX2_nodeFor_7 rfl (by decide) (fun c7 => ?_) (fun c7 => ?_)
    · have hkk : okN S h := hh.resolve_left (by omega)
      have hx := zxor_in (x := l) (y := h) (by omega) (by omega) (by omega) (by omega)
      obtain ⟨q1, q2, q3⟩ := ht.1 _ hx.1 hx.2
      have q4 : ∀ m : Int, S m → (m ∈ ch (zxor l h) ∨ ¬ (M 6 m = p ∧ M 7 m = l ∧ M 8 m = h)) := fun m hm => by
        by_cases z : M 6 m = p ∧ M 7 m = l ∧ M 8 m = h
        · left
          have w := (ht.2.2.1 m (hp.2.1 m hm).1.1 (hp.2.1 m hm).1.2).1 hm
          rw [z.2.1, z.2.2] at w
          exact w
        · exact Or.inr z
      refine Z_aload_n (n := 13) dX2_nodeFor_12 rfl rfl ?_
      refine Z_getA (n := 16) dX2_nodeFor_13 rfl ffX2_27 rfl rfl ?_
      refine Z_iload_n (n := 17) dX2_nodeFor_16 rfl rfl ?_
      refine Z_iload_n (n := 18) dX2_nodeFor_17 rfl rfl ?_
      refine Z_ixor (n := 19) dX2_nodeFor_18 rfl ?_
      refine Z_iald (n := 20) dX2_nodeFor_19 rfl rfl rfl (by first | decide | assumption) (by omega) (by omega) (fun r19 s19 => ?_)
      try simp only [uz_oo (show (10 : Nat) ≠ 5 by decide)] at r19 s19 ⊢
      refine Z_istore (L' := [_, _, _, _, _, _]) (n := 22) dX2_nodeFor_20 rfl (by decide) rfl rfl ?_
      refine Z_iconst (n := 23) dX2_nodeFor_22 rfl (by decide) ?_
      refine Z_istore (L' := [_, _, _, _, _, _]) (n := 25) dX2_nodeFor_23 rfl (by decide) rfl rfl ?_
      have lp25 : ∀ (N25 : Nat) (n t : Int) (rs : List Int) , (rs.length) < N25 → (0 ≤ t) → (t + rs.length ≤ 250) → (chp (M 10) n rs) → (∀ m ∈ rs, S m) → (∀ m : Int, S m → (m ∈ rs ∨ ¬ (M 6 m = p ∧ M 7 m = l ∧ M 8 m = h))) → TZ G mX2_nodeFor (tl_rm 1 0 0) 0 0 kPool M J 25 [some (vR 5), some (vI p), some (vI l), some (vI h), some (vI n), some (vI t)] [] F1 M J (ZM G (zPost G kPool F1 M J (qI (fun x M' J' => J' = J ∧ ndQ2 M S p l h x M'))) 0 0) := by
        intro N25
        induction N25 with
        | zero => intro n t rs  hN; omega
        | succ N25 ih25 =>
          intro n t rs  hN25 i25_0 i25_1 i25_2 i25_3 i25_4
          refine Z_iload (n := 27) dX2_nodeFor_25 rfl rfl ?_
          refine Z_iconst (n := 28) dX2_nodeFor_27 rfl (by decide) ?_
          refine Z_icmp_eq (n := 31) (t := 90) dX2_nodeFor_28 rfl (by decide) (fun c28 => ?_) (fun c28 => ?_)
          · have e := chp_nil i25_2 c28
            subst e
            have hno : ∀ m : Int, S m → ¬ (M 6 m = p ∧ M 7 m = l ∧ M 8 m = h) := fun m hm => (i25_4 m hm).resolve_left (by intro z; cases z)
            refine Z_rg 5 8 rfl (fun g58 g58b => ?_)
            refine Z_aload_n (n := 91) dX2_nodeFor_90 rfl rfl ?_
            refine Z_getI (n := 94) (ki := 6) dX2_nodeFor_91 rfl ffX2_30 rfl rfl rfl (fun r91 s91 => ?_)
            try simp only [uz_oo (show (10 : Nat) ≠ 5 by decide)] at r91 s91 ⊢
            refine Z_istore (L' := [_, _, _, _, _, _]) (n := 96) dX2_nodeFor_94 rfl (by decide) rfl rfl ?_
            refine Z_aload_n (n := 97) dX2_nodeFor_96 rfl rfl ?_
            refine Z_getI (n := 100) (ki := 7) dX2_nodeFor_97 rfl ffX2_34 rfl rfl rfl (fun r97 s97 => ?_)
            try simp only [uz_oo (show (10 : Nat) ≠ 5 by decide)] at r97 s97 ⊢
            refine Z_aload_n (n := 101) dX2_nodeFor_100 rfl rfl ?_
            refine Z_getI (n := 104) (ki := 8) dX2_nodeFor_101 rfl ffX2_37 rfl rfl rfl (fun r101 s101 => ?_)
            try simp only [uz_oo (show (10 : Nat) ≠ 5 by decide)] at r101 s101 ⊢
            refine Z_icmp_ge (n := 107) (t := 113) dX2_nodeFor_104 rfl (by decide) (fun c104 => ?_) (fun c104 => ?_)
            · refine Z_iconst (n := 114) dX2_nodeFor_113 rfl (by decide) ?_
              refine Z_iret dX2_nodeFor_114 rfl ?_
              exact ⟨rfl, Or.inr (Or.inr (Or.inr ⟨by omega, by omega, hno, Or.inl ⟨rfl, rfl, by first | omega | exact all_used hp ht (by omega) g58b⟩⟩))⟩
            · refine Z_iload (n := 109) dX2_nodeFor_107 rfl rfl ?_
              refine Z_iconst (n := 110) dX2_nodeFor_109 rfl (by decide) ?_
              refine Z_icmp_ne (n := 113) (t := 115) dX2_nodeFor_110 rfl (by decide) (fun c110 => ?_) (fun c110 => ?_)
              · refine Z_aload_n (n := 116) dX2_nodeFor_115 rfl rfl ?_
                refine Z_aload_n (n := 117) dX2_nodeFor_116 rfl rfl ?_
                refine Z_getA (n := 120) dX2_nodeFor_117 rfl ffX2_24 rfl rfl ?_
                refine Z_iload (n := 122) dX2_nodeFor_120 rfl rfl ?_
                refine Z_iald (n := 123) dX2_nodeFor_122 rfl rfl rfl (by first | decide | assumption) (by omega) (by omega) (fun r122 s122 => ?_)
                try simp only [uz_oo (show (10 : Nat) ≠ 5 by decide)] at r122 s122 ⊢
                refine Z_putI (n := 126) (ki := 6) dX2_nodeFor_123 rfl ffX2_30 rfl (by decide) rfl rfl (by first | assumption | omega | decide) (by first | assumption | omega | decide) (by decide) ?_
                obtain ⟨-, -, hn2, -, -⟩ := chp_cons ht.2.1.1 (show ¬ M 5 6 = -1 by omega)
                refine Z_aload_n (n := 127) dX2_nodeFor_126 rfl rfl ?_
                refine Z_getA (n := 130) dX2_nodeFor_127 rfl ffX2_11 rfl rfl ?_
                refine Z_iload (n := 132) dX2_nodeFor_130 rfl rfl ?_
                refine Z_iload_n (n := 133) dX2_nodeFor_132 rfl rfl ?_
                refine Z_iast (n := 134) dX2_nodeFor_133 rfl rfl rfl (by first | decide | assumption) (by omega) (by omega) (by first | omega | (rw [if_neg (by omega)]; omega)) (by first | omega | (rw [if_neg (by omega)]; omega)) (by decide) ?_
                refine Z_aload_n (n := 135) dX2_nodeFor_134 rfl rfl ?_
                refine Z_getA (n := 138) dX2_nodeFor_135 rfl ffX2_15 rfl rfl ?_
                refine Z_iload (n := 140) dX2_nodeFor_138 rfl rfl ?_
                refine Z_iload_n (n := 141) dX2_nodeFor_140 rfl rfl ?_
                refine Z_iast (n := 142) dX2_nodeFor_141 rfl rfl rfl (by first | decide | assumption) (by omega) (by omega) (by first | assumption | omega | decide) (by first | assumption | omega | decide) (by decide) ?_
                refine Z_aload_n (n := 143) dX2_nodeFor_142 rfl rfl ?_
                refine Z_getA (n := 146) dX2_nodeFor_143 rfl ffX2_18 rfl rfl ?_
                refine Z_iload (n := 148) dX2_nodeFor_146 rfl rfl ?_
                refine Z_iload_n (n := 149) dX2_nodeFor_148 rfl rfl ?_
                refine Z_iast (n := 150) dX2_nodeFor_149 rfl rfl rfl (by first | decide | assumption) (by omega) (by omega) (by first | assumption | omega | decide) (by first | assumption | omega | decide) (by decide) ?_
                refine Z_aload_n (n := 151) dX2_nodeFor_150 rfl rfl ?_
                refine Z_iload (n := 153) dX2_nodeFor_151 rfl rfl ?_
                refine Z_callVv (n := 156) [_] _ dX2_nodeFor_153 rfl cwX2_64 rfl rfl rfl (Nat.le_of_ble_eq_true rfl) (by refine ⟨?_, ?_, ?_, ?_⟩ <;> exact Nat.le_of_ble_eq_true rfl) (fun _ h => h) (zX2_enter  (by exact PoolF1) (by omega) (by omega) (by rw [show uz (uz (uz (uz M 5 6 (M 10 (M 5 6))) 6 (M 5 6) p) 7 (M 5 6) l) 8 (M 5 6) h 5 7 = _ from mkz_57]; omega) (by decide) (by decide) (by decide)) ?_
                intro M153 J153 f153 q153
                obtain ⟨e153_1, e153_2⟩ := q153
                replace e153_1 := e153_1.symm; subst e153_1
                replace e153_2 := e153_2.symm; subst e153_2
                refine Z_iload (n := 158) dX2_nodeFor_156 rfl rfl ?_
                refine Z_iret dX2_nodeFor_158 rfl ?_
                obtain ⟨w1, ch', fl', w2⟩ := tbC_new (p := p) hp ht (x := M 5 6) rfl (by omega) hl hkk
                exact ⟨rfl, Or.inr (Or.inr (Or.inr ⟨by omega, by omega, hno, Or.inr ⟨w1, by omega, rfl, pst_new hp w1.1 w1.2.1 w1.2.2 h0 h1 hl hkk pl (ph (by omega)) (by omega) hno, ch', fl', w2⟩⟩))⟩
              · refine Z_iconst (n := 114) dX2_nodeFor_113 rfl (by decide) ?_
                refine Z_iret dX2_nodeFor_114 rfl ?_
                exact ⟨rfl, Or.inr (Or.inr (Or.inr ⟨by omega, by omega, hno, Or.inl ⟨rfl, rfl, by first | omega | exact all_used hp ht (by omega) g58b⟩⟩))⟩
          · obtain ⟨r1, hr1, n0, n1, hc1⟩ := chp_cons i25_2 (by omega)
            subst hr1
            refine Z_iload (n := 33) dX2_nodeFor_31 rfl rfl ?_
            refine Z_sipush (n := 36) dX2_nodeFor_33 rfl (by decide) (by decide) ?_
            refine Z_icmp_ge (n := 39) (t := 90) dX2_nodeFor_36 rfl (by decide) (fun c36 => ?_) (fun c36 => ?_)
            · simp only [List.length_cons] at *; omega
            · refine Z_aload_n (n := 40) dX2_nodeFor_39 rfl rfl ?_
              refine Z_getA (n := 43) dX2_nodeFor_40 rfl ffX2_11 rfl rfl ?_
              refine Z_iload (n := 45) dX2_nodeFor_43 rfl rfl ?_
              refine Z_iald (n := 46) dX2_nodeFor_45 rfl rfl rfl (by first | decide | assumption) (by omega) (by omega) (fun r45 s45 => ?_)
              try simp only [uz_oo (show (10 : Nat) ≠ 5 by decide)] at r45 s45 ⊢
              refine Z_iload_n (n := 47) dX2_nodeFor_46 rfl rfl ?_
              refine Z_icmp_ne (n := 50) (t := 75) dX2_nodeFor_47 rfl (by decide) (fun c47 => ?_) (fun c47 => ?_)
              · have nx : ∀ m : Int, S m → (m ∈ r1 ∨ ¬ (M 6 m = p ∧ M 7 m = l ∧ M 8 m = h)) := fun m hm => by
                  rcases i25_4 m hm with z | z
                  · rcases List.mem_cons.mp z with w | w
                    · refine Or.inr (fun t => ?_)
                      rw [w] at t
                      first
                        | exact c47 t.1
                        | exact c58 t.2.1
                        | exact c69 t.2.2
                    · exact Or.inl w
                  · exact Or.inr z
                refine Z_aload_n (n := 76) dX2_nodeFor_75 rfl rfl ?_
                refine Z_getA (n := 79) dX2_nodeFor_76 rfl ffX2_24 rfl rfl ?_
                refine Z_iload (n := 81) dX2_nodeFor_79 rfl rfl ?_
                refine Z_iald (n := 82) dX2_nodeFor_81 rfl rfl rfl (by first | decide | assumption) (by omega) (by omega) (fun r81 s81 => ?_)
                try simp only [uz_oo (show (10 : Nat) ≠ 5 by decide)] at r81 s81 ⊢
                refine Z_istore (L' := [_, _, _, _, _, _]) (n := 84) dX2_nodeFor_82 rfl (by decide) rfl rfl ?_
                refine Z_iinc (L' := [_, _, _, _, _, _]) (n := 87) dX2_nodeFor_84 rfl rfl (by decide) rfl rfl (by omega) rfl ?_
                refine Z_goto (t := 25) dX2_nodeFor_87 (by decide) ?_
                refine Z_loc (L' := [some _, some _, some _, some _, some _, some _]) (lsub_same (lsub_same (lsub_same (lsub_same (lsub_same (lsub_same lsub_nil)))))) ?_
                exact ih25 _ _ r1  (by simp only [List.length_cons] at *; omega) (by first | assumption | omega | decide) (by simp only [List.length_cons] at *; omega) (by exact hc1) (by exact fun m hm => i25_3 m (List.mem_cons_of_mem _ hm)) (by exact nx)
              · refine Z_aload_n (n := 51) dX2_nodeFor_50 rfl rfl ?_
                refine Z_getA (n := 54) dX2_nodeFor_51 rfl ffX2_15 rfl rfl ?_
                refine Z_iload (n := 56) dX2_nodeFor_54 rfl rfl ?_
                refine Z_iald (n := 57) dX2_nodeFor_56 rfl rfl rfl (by first | decide | assumption) (by omega) (by omega) (fun r56 s56 => ?_)
                try simp only [uz_oo (show (10 : Nat) ≠ 5 by decide)] at r56 s56 ⊢
                refine Z_iload_n (n := 58) dX2_nodeFor_57 rfl rfl ?_
                refine Z_icmp_ne (n := 61) (t := 75) dX2_nodeFor_58 rfl (by decide) (fun c58 => ?_) (fun c58 => ?_)
                · have nx : ∀ m : Int, S m → (m ∈ r1 ∨ ¬ (M 6 m = p ∧ M 7 m = l ∧ M 8 m = h)) := fun m hm => by
                    rcases i25_4 m hm with z | z
                    · rcases List.mem_cons.mp z with w | w
                      · refine Or.inr (fun t => ?_)
                        rw [w] at t
                        first
                          | exact c47 t.1
                          | exact c58 t.2.1
                          | exact c69 t.2.2
                      · exact Or.inl w
                    · exact Or.inr z
                  refine Z_aload_n (n := 76) dX2_nodeFor_75 rfl rfl ?_
                  refine Z_getA (n := 79) dX2_nodeFor_76 rfl ffX2_24 rfl rfl ?_
                  refine Z_iload (n := 81) dX2_nodeFor_79 rfl rfl ?_
                  refine Z_iald (n := 82) dX2_nodeFor_81 rfl rfl rfl (by first | decide | assumption) (by omega) (by omega) (fun r81 s81 => ?_)
                  try simp only [uz_oo (show (10 : Nat) ≠ 5 by decide)] at r81 s81 ⊢
                  refine Z_istore (L' := [_, _, _, _, _, _]) (n := 84) dX2_nodeFor_82 rfl (by decide) rfl rfl ?_
                  refine Z_iinc (L' := [_, _, _, _, _, _]) (n := 87) dX2_nodeFor_84 rfl rfl (by decide) rfl rfl (by omega) rfl ?_
                  refine Z_goto (t := 25) dX2_nodeFor_87 (by decide) ?_
                  refine Z_loc (L' := [some _, some _, some _, some _, some _, some _]) (lsub_same (lsub_same (lsub_same (lsub_same (lsub_same (lsub_same lsub_nil)))))) ?_
                  exact ih25 _ _ r1  (by simp only [List.length_cons] at *; omega) (by first | assumption | omega | decide) (by simp only [List.length_cons] at *; omega) (by exact hc1) (by exact fun m hm => i25_3 m (List.mem_cons_of_mem _ hm)) (by exact nx)
                · refine Z_aload_n (n := 62) dX2_nodeFor_61 rfl rfl ?_
                  refine Z_getA (n := 65) dX2_nodeFor_62 rfl ffX2_18 rfl rfl ?_
                  refine Z_iload (n := 67) dX2_nodeFor_65 rfl rfl ?_
                  refine Z_iald (n := 68) dX2_nodeFor_67 rfl rfl rfl (by first | decide | assumption) (by omega) (by omega) (fun r67 s67 => ?_)
                  try simp only [uz_oo (show (10 : Nat) ≠ 5 by decide)] at r67 s67 ⊢
                  refine Z_iload_n (n := 69) dX2_nodeFor_68 rfl rfl ?_
                  refine Z_icmp_ne (n := 72) (t := 75) dX2_nodeFor_69 rfl (by decide) (fun c69 => ?_) (fun c69 => ?_)
                  · have nx : ∀ m : Int, S m → (m ∈ r1 ∨ ¬ (M 6 m = p ∧ M 7 m = l ∧ M 8 m = h)) := fun m hm => by
                      rcases i25_4 m hm with z | z
                      · rcases List.mem_cons.mp z with w | w
                        · refine Or.inr (fun t => ?_)
                          rw [w] at t
                          first
                            | exact c47 t.1
                            | exact c58 t.2.1
                            | exact c69 t.2.2
                        · exact Or.inl w
                      · exact Or.inr z
                    refine Z_aload_n (n := 76) dX2_nodeFor_75 rfl rfl ?_
                    refine Z_getA (n := 79) dX2_nodeFor_76 rfl ffX2_24 rfl rfl ?_
                    refine Z_iload (n := 81) dX2_nodeFor_79 rfl rfl ?_
                    refine Z_iald (n := 82) dX2_nodeFor_81 rfl rfl rfl (by first | decide | assumption) (by omega) (by omega) (fun r81 s81 => ?_)
                    try simp only [uz_oo (show (10 : Nat) ≠ 5 by decide)] at r81 s81 ⊢
                    refine Z_istore (L' := [_, _, _, _, _, _]) (n := 84) dX2_nodeFor_82 rfl (by decide) rfl rfl ?_
                    refine Z_iinc (L' := [_, _, _, _, _, _]) (n := 87) dX2_nodeFor_84 rfl rfl (by decide) rfl rfl (by omega) rfl ?_
                    refine Z_goto (t := 25) dX2_nodeFor_87 (by decide) ?_
                    refine Z_loc (L' := [some _, some _, some _, some _, some _, some _]) (lsub_same (lsub_same (lsub_same (lsub_same (lsub_same (lsub_same lsub_nil)))))) ?_
                    exact ih25 _ _ r1  (by simp only [List.length_cons] at *; omega) (by first | assumption | omega | decide) (by simp only [List.length_cons] at *; omega) (by exact hc1) (by exact fun m hm => i25_3 m (List.mem_cons_of_mem _ hm)) (by exact nx)
                  · refine Z_iload (n := 74) dX2_nodeFor_72 rfl rfl ?_
                    refine Z_iret dX2_nodeFor_74 rfl ?_
                    exact ⟨rfl, Or.inr (Or.inr (Or.inl ⟨by omega, by omega, i25_3 n List.mem_cons_self, by omega, by omega, by omega, rfl⟩))⟩
      refine Z_loc (L' := [some _, some _, some _, some _, some _, some _]) (lsub_same (lsub_same (lsub_same (lsub_same (lsub_same (lsub_same lsub_nil)))))) ?_
      exact lp25 _ _ _ (ch (zxor l h))  (Nat.lt_succ_self _) (by first | assumption | omega | decide) (by have := chp_len q1 q2; omega) (by exact q1) (by exact fun m hm => (q3 m hm).1) (by exact q4)
    · refine Z_iload_n (n := 11) dX2_nodeFor_10 rfl rfl ?_
      refine Z_iret dX2_nodeFor_11 rfl ?_
      refine ⟨rfl, ?_⟩
      first
        | exact Or.inl ⟨by omega, by omega, rfl⟩
        | (by_cases z : h = -1
           · exact Or.inl ⟨z, z, rfl⟩
           · exact Or.inr (Or.inl ⟨z, by omega, rfl, rfl⟩))
/-- F looks at places from p on alone -/
def dep (F : FN) (p : Int) : Prop := ∀ r r' : Int → Int, (∀ k : Int, p ≤ k → (r k = 0 ↔ r' k = 0)) → F r = F r'
theorem dep_den {M : zM} {S : Int → Prop} (h : pst M S) {n p : Int} (hn : okN S n) (hp : p ≤ M 6 n) : dep (den M n) p := fun r r' e => den_ag h hn (fun k hk => e k (by omega))
theorem dep_up {F : FN} {p v : Int} (h : dep F p) : dep (fun r => F (updI r p v)) (p + 1) := fun r r' e => h _ _ (fun k hk => by
  by_cases q : k = p
  · rw [q, updI_s, updI_s]
  · rw [updI_n q, updI_n q]; exact e k (by omega))
theorem dep_mix {F : FN} {p : Int} (h : dep F p) {s : Int → Int} : (fun r => F (mix p s r)) = F := by
  funext r
  exact h _ _ (fun k hk => by rw [mix_ge hk])
theorem dep_sp {F : FN} {p : Int} (h : dep F p) (r : Int → Int) : F r = if r p = 0 then F (updI r p 0) else F (updI r p 1) := by
  by_cases q : r p = 0
  · rw [if_pos q]
    exact h _ _ (fun k _ => by
      by_cases z : k = p
      · rw [z, updI_s]; exact ⟨fun _ => rfl, fun _ => q⟩
      · rw [updI_n z])
  · rw [if_neg q]
    exact h _ _ (fun k _ => by
      by_cases z : k = p
      · rw [z, updI_s]; exact ⟨fun t => absurd t q, fun t => absurd t (by decide)⟩
      · rw [updI_n z])
/-- parts of a half are parts -/
theorem laid_cof {F : FN} {p v : Int} {y : Lb} (h : dep F p) (hy : laid (fun r => F (updI r p v)) y) : laid F y := by
  obtain ⟨yb, ⟨s, e⟩, r, q⟩ := hy
  have hlt : p < y.1 := by
    by_cases z : p < y.1
    · exact z
    · exfalso
      refine q ?_
      rw [e]
      dsimp only
      refine h _ _ (fun k hk => ?_)
      by_cases w : k = p
      · rw [w, updI_s, updI_s]
      · rw [updI_n w, updI_n w, mix_ge (by omega), mix_ge (by omega), updI_n (by omega), updI_n (by omega)]
  refine ⟨yb, ⟨updI s p v, ?_⟩, r, q⟩
  rw [e]
  funext r'
  refine h _ _ (fun k hk => ?_)
  by_cases w : k = p
  · rw [w, updI_s, mix_lt hlt, updI_s]
  · rw [updI_n w]
    by_cases z : k < y.1
    · rw [mix_lt z, mix_lt z, updI_n w]
    · rw [mix_ge (by omega), mix_ge (by omega)]
theorem pl_gt {M : zM} {S : Int → Prop} (h : pst M S) {n p : Int} (hn : okN S n) (hp : p < 8) (hd : dep (den M n) (p + 1)) : p < M 6 n := by
  rcases hn with e | e | hs
  · rw [e, h.1.1]; exact hp
  · rw [e, h.1.2]; exact hp
  · by_cases z : p < M 6 n
    · exact z
    · exfalso
      obtain ⟨-, -, r, q⟩ := laid_self h hs
      refine q (hd _ _ (fun k hk => ?_))
      show updI r (M 6 n) 0 k = 0 ↔ updI r (M 6 n) 1 k = 0
      rw [updI_n (by omega), updI_n (by omega)]
/-- a step of making: x is made of F, or there is no room for it -/
def mkd (M : zM) (S : Int → Prop) (F : FN) (x : Int) (M' : zM) (S' : Int → Prop) : Prop := agr M M' S ∧ (∀ n : Int, S n → S' n) ∧ plo M' S' ∧ M' 5 8 = M 5 8 ∧ (∀ n : Int, S' n → S n ∨ laid F (lab M' n)) ∧ ((x = -1 ∧ M' 5 8 ≤ M' 5 7 ∧ ∃ y : Lb, laid F y ∧ ∀ n : Int, S' n → ¬ lab M' n = y) ∨ (okN S' x ∧ den M' x = F)) ∧ (M 5 7 ≤ M 5 8 → M' 5 7 ≤ M' 5 8)
def mkE (M : zM) (S : Int → Prop) (F : FN) (x : Int) (M' : zM) : Prop := ∃ S' : Int → Prop, mkd M S F x M' S'
theorem agr_rf {M : zM} {S : Int → Prop} : agr M M S := ⟨⟨rfl, rfl⟩, fun _ _ => ⟨rfl, rfl, rfl⟩⟩
theorem agr_tr {M M1 M2 : zM} {S S1 : Int → Prop} (h1 : agr M M1 S) (hs : ∀ n : Int, S n → S1 n) (h2 : agr M1 M2 S1) : agr M M2 S := ⟨⟨h2.1.1.trans h1.1.1, h2.1.2.trans h1.1.2⟩, fun n hn => by
  obtain ⟨a, b, c⟩ := h1.2 n hn
  obtain ⟨a', b', c'⟩ := h2.2 n (hs n hn)
  exact ⟨a'.trans a, b'.trans b, c'.trans c⟩⟩
/-- nothing is made: F is there -/
theorem mkd_rf {M : zM} {S : Int → Prop} {F : FN} {x : Int} (h : plo M S) (hx : okN S x) (e : den M x = F) : mkd M S F x M S := ⟨agr_rf, fun _ q => q, h, rfl, fun _ q => Or.inl q, Or.inr ⟨hx, e⟩, fun q => q⟩
theorem ndN_58 {M : zM} {x p l h : Int} : ndN M x p l h 5 8 = M 5 8 := by
  unfold ndN
  rw [entz_58, mkz_5, if_neg (by decide)]
theorem ndN_57 {M : zM} {x p l h : Int} : ndN M x p l h 5 7 = M 5 7 + 1 := by
  unfold ndN
  rw [entz_57, mkz_57]
theorem mkd_nd {M M' : zM} {S : Int → Prop} {p l h x : Int} (hS : plo M S) (p0 : 0 ≤ p) (p1 : p < 8) (hl : okN S l) (hh : okN S h) (pl : p < M 6 l) (ph : p < M 6 h) (hh1 : ¬ h = -1) (hq : ndQ2 M S p l h x M') : mkE M S (fun r => if r p = 0 then den M l r else den M h r) x M' := by
  have hdl : dep (den M l) (p + 1) := dep_den hS.1 hl (by omega)
  have hdh : dep (den M h) (p + 1) := dep_den hS.1 hh (by omega)
  have hdF : dep (fun r => if r p = 0 then den M l r else den M h r) p := fun r r' e => by
    dsimp only
    by_cases q : r p = 0
    · rw [if_pos q, if_pos ((e p (Int.le_refl _)).mp q)]
      exact hdl r r' (fun k hk => e k (by omega))
    · rw [if_neg q, if_neg (fun t => q ((e p (Int.le_refl _)).mpr t))]
      exact hdh r r' (fun k hk => e k (by omega))
  rcases hq with ⟨e, -⟩ | ⟨-, e, rfl, rfl⟩ | ⟨-, -, hx, e6, e7, e8, rfl⟩ | ⟨-, hne, hno, ⟨rfl, rfl, hm⟩ | ⟨hx, hlt, rfl, hpl⟩⟩
  · exact absurd e hh1
  · refine ⟨S, mkd_rf hS hh ?_⟩
    funext r
    rw [e]
    split <;> rfl
  · refine ⟨S, mkd_rf hS (Or.inr (Or.inr hx)) ?_⟩
    funext r
    rw [den_n hS.1 hx, e6, e7, e8]
    split <;> rfl
  · refine ⟨S, agr_rf, fun _ q => q, hS, rfl, fun _ q => Or.inl q, Or.inl ⟨rfl, hm, (p, fun r => if r p = 0 then den M' l r else den M' h r), ⟨⟨p0, p1⟩, ⟨fun _ => 0, (dep_mix hdF).symm⟩, ?_⟩, fun n hn e => ?_⟩, fun q => q⟩
    · by_cases z : ∃ r : Int → Int, ¬ den M' l r = den M' h r
      · obtain ⟨r, hr⟩ := z
        refine ⟨r, ?_⟩
        dsimp only
        rw [updI_s, updI_s, if_pos rfl, if_neg (by decide), den_ig hS.1 hl pl, den_ig hS.1 hh ph]
        exact hr
      · exfalso
        refine hne (den_inj hS.1 hl hh ?_)
        funext r
        by_cases w : den M' l r = den M' h r
        · exact w
        · exact absurd ⟨r, w⟩ z
    · have e6 : M' 6 n = p := congrArg Prod.fst e
      have ed : den M' n = fun r => if r p = 0 then den M' l r else den M' h r := congrArg Prod.snd e
      obtain ⟨-, -, -, a, b⟩ := hS.1.2.1 n hn
      refine hno n hn ⟨e6, den_inj hS.1 a.1 hl ?_, den_inj hS.1 b.1 hh ?_⟩
      · funext r
        rw [← den_low hS.1 hn r, ed, e6]
        dsimp only
        rw [updI_s, if_pos rfl, den_ig hS.1 hl pl]
      · funext r
        rw [← den_high hS.1 hn (v := 1) (by decide) r, ed, e6]
        dsimp only
        rw [updI_s, if_neg (by decide), den_ig hS.1 hh ph]
  · have ha := ndN_agr (p := p) (l := l) (h := h) hS.1 hx.1 hx.2.2
    have hxS : nwS S x x := Or.inr rfl
    have ed : den (ndN M x p l h) x = fun r => if r p = 0 then den M l r else den M h r := by
      funext r
      rw [den_n hpl.1 hxS, ndN_6, ndN_7, ndN_8, updI_s, updI_s, updI_s]
      by_cases q : r p = 0
      · rw [if_pos q, if_pos q, den_agr hS.1 ha hl]
      · rw [if_neg q, if_neg q, den_agr hS.1 ha hh]
    refine ⟨nwS S x, ha, fun _ q => Or.inl q, hpl, ndN_58, fun n hn => ?_, Or.inr ⟨Or.inr (Or.inr hxS), ed⟩, fun _ => by rw [ndN_57, ndN_58]; omega⟩
    rcases hn with q | q
    · exact Or.inl q
    · right
      have z := laid_self hpl.1 hxS
      rw [q]
      rw [ed] at z
      exact z
/-- two halves and a node -/
theorem mkd_two {M M1 M2 M3 : zM} {S S1 S2 : Int → Prop} {F : FN} {p low high x : Int} (hS : plo M S) (hd : dep F p) (p0 : 0 ≤ p) (p1 : p < 8) (h1 : mkd M S (fun r => F (updI r p 0)) low M1 S1) (hlow : ¬ low = -1) (h2 : mkd M1 S1 (fun r => F (updI r p 1)) high M2 S2) (h3 : ndQ2 M2 S2 p low high x M3) : mkE M S F x M3 := by
  obtain ⟨a1, s1, q1, l1, n1, r1, u1⟩ := h1
  obtain ⟨a2, s2, q2, l2, n2, r2, u2⟩ := h2
  obtain ⟨ok1, e1⟩ := r1.resolve_left (fun z => hlow z.1)
  have c1 : ∀ {y : Lb}, laid (fun r => F (updI r p 0)) y → laid F y := fun {y} q => laid_cof hd q
  have c2 : ∀ {y : Lb}, laid (fun r => F (updI r p 1)) y → laid F y := fun {y} q => laid_cof hd q
  have nw : ∀ n : Int, S2 n → S n ∨ laid F (lab M2 n) := fun n hn => by
    rcases n2 n hn with z | z
    · rcases n1 n z with w | w
      · exact Or.inl w
      · right
        rw [lab_agr q1.1 a2 z]
        exact c1 w
    · exact Or.inr (c2 z)
  rcases r2 with ⟨hm, ho, y, hy, hny⟩ | ⟨ok2, e2⟩
  · rcases h3 with ⟨-, rfl, rfl⟩ | ⟨z, -⟩ | ⟨z, -⟩ | ⟨z, -⟩
    · exact ⟨S2, agr_tr a1 s1 a2, fun n hn => s2 n (s1 n hn), q2, l2.trans l1, nw, Or.inl ⟨rfl, ho, y, c2 hy, hny⟩, fun q => u2 (u1 q)⟩
    · exact absurd hm z
    · exact absurd hm z
    · exact absurd hm z
  · have ok1' : okN S2 low := okN_mono s2 ok1
    have e1' : den M2 low = fun r => F (updI r p 0) := by rw [den_agr q1.1 a2 ok1]; exact e1
    have pl : p < M2 6 low := pl_gt q2.1 ok1' p1 (by rw [e1']; exact dep_up hd)
    have ph : p < M2 6 high := pl_gt q2.1 ok2 p1 (by rw [e2]; exact dep_up hd)
    have hh1 : ¬ high = -1 := fun z => by have := okN_in q2.1 ok2; omega
    obtain ⟨S3, a3, s3, q3, l3, n3, r3, u3⟩ := mkd_nd q2 p0 p1 ok1' ok2 pl ph hh1 h3
    have eF : (fun r => if r p = 0 then den M2 low r else den M2 high r) = F := by
      funext r
      rw [e1', e2, dep_sp hd r]
    rw [eF] at n3 r3
    refine ⟨S3, agr_tr (agr_tr a1 s1 a2) (fun n hn => s2 n (s1 n hn)) a3, fun n hn => s3 n (s2 n (s1 n hn)), q3, l3.trans (l2.trans l1), fun n hn => ?_, r3, fun q => u3 (u2 (u1 q))⟩
    rcases n3 n hn with z | z
    · rcases nw n z with w | w
      · exact Or.inl w
      · right
        rw [lab_agr q2.1 a3 z]
        exact w
    · exact Or.inr z
/-- the first half has no room -/
theorem mkd_one {M M1 : zM} {S S1 : Int → Prop} {F : FN} {p v : Int} (hd : dep F p) (h1 : mkd M S (fun r => F (updI r p v)) (-1) M1 S1) : mkE M S F (-1) M1 := by
  obtain ⟨a1, s1, q1, l1, n1, r1, u1⟩ := h1
  refine ⟨S1, a1, s1, q1, l1, fun n hn => (n1 n hn).imp_right (fun z => laid_cof hd z), Or.inl ?_, u1⟩
  rcases r1 with ⟨-, ho, y, hy, hny⟩ | ⟨ok, -⟩
  · exact ⟨rfl, ho, y, laid_cof hd hy, hny⟩
  · have := okN_in q1.1 ok
    omega
end
section
/-! ===== the pool: marks, sweep ===== -/
theorem dn_cg {M M1 : zM} (h6 : M1 6 = M 6) (h7 : M1 7 = M 7) (h8 : M1 8 = M 8) : ∀ (k : Nat) (n : Int), dn M1 k n = dn M k n
  | 0, n => rfl
  | k + 1, n => by
    funext r
    show (if n < 2 then _ else dn M1 k (if r (M1 6 n) = 0 then M1 7 n else M1 8 n) r) = (if n < 2 then _ else dn M k (if r (M 6 n) = 0 then M 7 n else M 8 n) r)
    rw [h6, h7, h8, dn_cg h6 h7 h8 k]
theorem den_cg {M M1 : zM} (h6 : M1 6 = M 6) (h7 : M1 7 = M 7) (h8 : M1 8 = M 8) : den M1 = den M := by
  funext n
  exact dn_cg h6 h7 h8 8 n
theorem lab_cg {M M1 : zM} (h6 : M1 6 = M 6) (h7 : M1 7 = M 7) (h8 : M1 8 = M 8) : lab M1 = lab M := by
  funext n
  unfold lab
  rw [h6, den_cg h6 h7 h8]
theorem pst_cg {M M1 : zM} {S : Int → Prop} (h6 : M1 6 = M 6) (h7 : M1 7 = M 7) (h8 : M1 8 = M 8) (h : pst M S) : pst M1 S := by
  unfold pst
  rw [h6, h7, h8]
  exact h
theorem tbC_cg {M M1 : zM} {S : Int → Prop} {ch : Int → List Int} {fl : List Int} (h5 : M1 5 = M 5) (h7 : M1 7 = M 7) (h8 : M1 8 = M 8) (h10 : M1 10 = M 10) (h11 : M1 11 = M 11) (h : tbC M S ch fl) : tbC M1 S ch fl := by
  unfold tbC
  rw [h5, h7, h8, h10, h11]
  exact h
theorem plo_cg {M M1 : zM} {S : Int → Prop} (h5 : M1 5 = M 5) (h6 : M1 6 = M 6) (h7 : M1 7 = M 7) (h8 : M1 8 = M 8) (h10 : M1 10 = M 10) (h11 : M1 11 = M 11) (h : plo M S) : plo M1 S := by
  obtain ⟨h1, ch, fl, h2⟩ := h
  exact ⟨pst_cg h6 h7 h8 h1, ch, fl, tbC_cg h5 h7 h8 h10 h11 h2⟩
theorem sg_f : ∀ (x : Fin 4) (s : Fin 3), s.val ≠ 0 → ¬ zand (zor (x.val : Int) (s.val : Int)) (s.val : Int) = 0 ∧ zor (zor (x.val : Int) (s.val : Int)) (s.val : Int) = zor (x.val : Int) (s.val : Int) ∧ (0 ≤ zor (x.val : Int) (s.val : Int) ∧ zor (x.val : Int) (s.val : Int) ≤ 3) := by decide +kernel
theorem sg {x s : Int} (x0 : 0 ≤ x) (x1 : x ≤ 3) (hs : s = 1 ∨ s = 2) : ¬ zand (zor x s) s = 0 ∧ zor (zor x s) s = zor x s ∧ (0 ≤ zor x s ∧ zor x s ≤ 3) := by
  have q := sg_f ⟨x.toNat, by omega⟩ ⟨s.toNat, by omega⟩ (by show s.toNat ≠ 0; omega)
  dsimp only at q
  rw [Int.toNat_of_nonneg x0, Int.toNat_of_nonneg (show 0 ≤ s by omega)] at q
  exact q
/-- marked by w with s -/
def mkw (w : Int → Int) (s n : Int) : Prop := ¬ zand (w n) s = 0
def okw (w : Int → Int) (s c : Int) : Prop := c < 2 ∨ mkw w s c
def Clw (M : zM) (S : Int → Prop) (s pl : Int) (w : Int → Int) : Prop := ∀ m : Int, S m → pl ≤ M 6 m → mkw w s m → okw w s (M 7 m) ∧ okw w s (M 8 m)
def mkR (M : zM) (S : Int → Prop) (s n pl : Int) (w w' : Int → Int) : Prop := (∀ m : Int, w' m = w m ∨ (w' m = zor (w m) s ∧ S m ∧ laid (den M n) (lab M m))) ∧ (2 ≤ n → mkw w' s n) ∧ Clw M S s pl w'
theorem mkR_cg {M M1 : zM} {S : Int → Prop} {s n pl : Int} {w w' : Int → Int} (h6 : M1 6 = M 6) (h7 : M1 7 = M 7) (h8 : M1 8 = M 8) (h : mkR M1 S s n pl w w') : mkR M S s n pl w w' := by
  unfold mkR Clw at *
  rw [den_cg h6 h7 h8, lab_cg h6 h7 h8, h6, h7, h8] at h
  exact h
theorem mkR_mono {M : zM} {S : Int → Prop} {s n pl m : Int} {w w' : Int → Int} (h : mkR M S s n pl w w') (hw : ∀ m, 0 ≤ w m ∧ w m ≤ 3) (hs : s = 1 ∨ s = 2) (hm : mkw w s m) : mkw w' s m := by
  unfold mkw at *
  rcases h.1 m with e | ⟨e, -⟩
  · rw [e]; exact hm
  · rw [e]; exact (sg (hw m).1 (hw m).2 hs).1
theorem mkR_rng {M : zM} {S : Int → Prop} {s n pl : Int} {w w' : Int → Int} (h : mkR M S s n pl w w') (hw : ∀ m, 0 ≤ w m ∧ w m ≤ 3) (hs : s = 1 ∨ s = 2) : ∀ m, 0 ≤ w' m ∧ w' m ≤ 3 := fun m => by
  rcases h.1 m with e | ⟨e, -⟩
  · rw [e]; exact hw m
  · rw [e]; exact (sg (hw m).1 (hw m).2 hs).2.2
/-- nothing is to be marked -/
theorem mkR_0 {M : zM} {S : Int → Prop} {s n pl : Int} {w : Int → Int} (hn : n < 2 ∨ mkw w s n) (hc : Clw M S s pl w) : mkR M S s n pl w w := ⟨fun _ => Or.inl rfl, fun q => hn.resolve_left (by omega), hc⟩
theorem Clw_up {M : zM} {S : Int → Prop} {s n pl : Int} {w : Int → Int} (hc : Clw M S s pl w) (hw : ∀ m, 0 ≤ w m ∧ w m ≤ 3) (hs : s = 1 ∨ s = 2) (hp : pl ≤ M 6 n) : Clw M S s (M 6 n + 1) (updI w n (zor (w n) s)) := fun m hm hpl hk => by
  have ne : m ≠ n := fun e => by rw [e] at hpl; omega
  have mono : ∀ {c : Int}, okw w s c → okw (updI w n (zor (w n) s)) s c := fun {c} q => by
    rcases q with q | q
    · exact Or.inl q
    · right
      unfold mkw at *
      by_cases z : c = n
      · rw [z, updI_s]; exact (sg (hw n).1 (hw n).2 hs).1
      · rw [updI_n z]; exact q
  unfold mkw at hk
  rw [updI_n ne] at hk
  have q := hc m hm (by omega) hk
  exact ⟨mono q.1, mono q.2⟩
/-- a node, its low one, its high one -/
theorem mkR_rec {M : zM} {S : Int → Prop} {s n pl : Int} {w w1 w2 : Int → Int} (hp : pst M S) (hn : S n) (hw : ∀ m, 0 ≤ w m ∧ w m ≤ 3) (hs : s = 1 ∨ s = 2) (hpl : pl ≤ M 6 n) (hc : Clw M S s pl w) (h1 : mkR M S s (M 7 n) (M 6 n + 1) (updI w n (zor (w n) s)) w1) (h2 : mkR M S s (M 8 n) (M 6 n + 1) w1 w2) : mkR M S s n pl w w2 := by
  obtain ⟨n2, pn, ne, a, b⟩ := hp.2.1 n hn
  have sn := sg (hw n).1 (hw n).2 hs
  have hw0 : ∀ m, 0 ≤ updI w n (zor (w n) s) m ∧ updI w n (zor (w n) s) m ≤ 3 := fun m => by
    by_cases z : m = n
    · rw [z, updI_s]; exact sn.2.2
    · rw [updI_n z]; exact hw m
  have hw1 := mkR_rng h1 hw0 hs
  have m0 : mkw (updI w n (zor (w n) s)) s n := by unfold mkw; rw [updI_s]; exact sn.1
  have mono : ∀ {m : Int}, mkw (updI w n (zor (w n) s)) s m → mkw w2 s m := fun {m} q => mkR_mono h2 hw1 hs (mkR_mono h1 hw0 hs q)
  have mw : ∀ {m : Int}, mkw w s m → mkw w2 s m := fun {m} q => mono (by
    unfold mkw at *
    by_cases z : m = n
    · rw [z, updI_s]; exact sn.1
    · rw [updI_n z]; exact q)
  have ch0 : ∀ m : Int, updI w n (zor (w n) s) m = w m ∨ (updI w n (zor (w n) s) m = zor (w m) s ∧ S m ∧ laid (den M n) (lab M m)) := fun m => by
    by_cases z : m = n
    · right
      rw [z, updI_s]
      exact ⟨rfl, hn, laid_self hp hn⟩
    · exact Or.inl (updI_n z)
  have ch1 : ∀ m : Int, w1 m = w m ∨ (w1 m = zor (w m) s ∧ S m ∧ laid (den M n) (lab M m)) := fun m => by
    rcases h1.1 m with e | ⟨e, e1, e2⟩
    · rw [e]; exact ch0 m
    · right
      refine ⟨?_, e1, laid_sub hp hn (Or.inl rfl) e2⟩
      rw [e]
      rcases ch0 m with z | ⟨z, -⟩
      · rw [z]
      · rw [z]; exact (sg (hw m).1 (hw m).2 hs).2.1
  refine ⟨fun m => ?_, fun _ => mono m0, fun m hm hpm hk => ?_⟩
  · rcases h2.1 m with e | ⟨e, e1, e2⟩
    · rw [e]; exact ch1 m
    · right
      refine ⟨?_, e1, laid_sub hp hn (Or.inr rfl) e2⟩
      rw [e]
      rcases ch1 m with z | ⟨z, -⟩
      · rw [z]
      · rw [z]; exact (sg (hw m).1 (hw m).2 hs).2.1
  · by_cases z : M 6 n + 1 ≤ M 6 m
    · exact h2.2.2 m hm z hk
    · -- it was marked ahead, or it is n
      have k1 : mkw w1 s m := by
        rcases h2.1 m with e | ⟨-, -, e2⟩
        · unfold mkw at *; rw [e] at hk; exact hk
        · have := laid_pl hp b.1 e2
          have e3 : (lab M m).1 = M 6 m := rfl
          omega
      have k0 : mkw (updI w n (zor (w n) s)) s m := by
        rcases h1.1 m with e | ⟨-, -, e2⟩
        · unfold mkw at *; rw [e] at k1; exact k1
        · have := laid_pl hp a.1 e2
          have e3 : (lab M m).1 = M 6 m := rfl
          omega
      by_cases q : m = n
      · rw [q]
        refine ⟨?_, ?_⟩
        · by_cases t : M 7 n < 2
          · exact Or.inl t
          · exact Or.inr (mkR_mono h2 hw1 hs (h1.2.1 (by omega)))
        · by_cases t : M 8 n < 2
          · exact Or.inl t
          · exact Or.inr (h2.2.1 (by omega))
      · unfold mkw at k0
        rw [updI_n q] at k0
        have t := hc m hm hpm k0
        exact ⟨t.1.imp_right mw, t.2.imp_right mw⟩
set_option maxRecDepth 20000 in
theorem zX2_markWith_f {G : tl_G} {M : zM} {J : zJ} (k : Nat) {S : Int → Prop} {s n e pl : Int} (hs : s = 1 ∨ s = 2) (hp : pst M S) (hn : n = -1 ∨ okN S n) (he0 : 0 ≤ e) (he : e + k = 8) (hen : 2 ≤ n → e ≤ M 6 n) (hpn : 2 ≤ n → pl ≤ M 6 n) (hc : Clw M S s pl (M 9)) : ZN G yX2_markWith mX2_markWith (k) kMarks [vR 5, vI s, vI n, vI e] F1 M J (qV (fun M' J' => J' = J ∧ mkR M S s n pl (M 9) (M' 9))) := by
  induction k generalizing M J n e pl with
  | zero =>
    refine ZN_of (L := [_, _, _, _]) (by decide) rfl rfl (Nat.le_of_ble_eq_true rfl) rfl (fun hav => ?_)
    refine Z_ok (fun ok0 => ?_)
    have hw : ∀ m, 0 ≤ M 9 m ∧ M 9 m ≤ 3 := fun m => ok0 9 m
    refine Z_iload_n (n := 1) dX2_markWith_0 rfl rfl ?_
    refine Z_iconst (n := 2) dX2_markWith_1 rfl (by decide) ?_
    refine Z_icmp_lt (n := 5) (t := 22) dX2_markWith_2 rfl (by decide) (fun c2 => ?_) (fun c2 => ?_)
    · refine Z_vret dX2_markWith_22 rfl ?_
      refine ⟨rfl, mkR_0 ?_ hc⟩
      first
        | exact Or.inl (by omega)
        | exact Or.inr c19
    · have hnS : S n := okN_2 hp (hn.resolve_left (by omega)) (by omega)
      obtain ⟨n2, pn, ne, aL, bH⟩ := hp.2.1 n hnS
      have hen2 := hen (by omega)
      refine Z_iload_n (n := 6) dX2_markWith_5 rfl rfl ?_
      refine Z_bipush (n := 8) dX2_markWith_6 rfl (by decide) (by decide) ?_
      refine Z_icmp_ge (n := 11) (t := 22) dX2_markWith_8 rfl (by decide) (fun c8 => ?_) (fun c8 => ?_)
      · omega
      · omega
  | succ k ih =>
    refine ZN_of (L := [_, _, _, _]) (by decide) rfl rfl (Nat.le_of_ble_eq_true rfl) rfl (fun hav => ?_)
    refine Z_ok (fun ok0 => ?_)
    have hw : ∀ m, 0 ≤ M 9 m ∧ M 9 m ≤ 3 := fun m => ok0 9 m
    refine Z_iload_n (n := 1) dX2_markWith_0 rfl rfl ?_
    refine Z_iconst (n := 2) dX2_markWith_1 rfl (by decide) ?_
    refine Z_icmp_lt (n := 5) (t := 22) dX2_markWith_2 rfl (by decide) (fun c2 => ?_) (fun c2 => ?_)
    · refine Z_vret dX2_markWith_22 rfl ?_
      refine ⟨rfl, mkR_0 ?_ hc⟩
      first
        | exact Or.inl (by omega)
        | exact Or.inr c19
    · have hnS : S n := okN_2 hp (hn.resolve_left (by omega)) (by omega)
      obtain ⟨n2, pn, ne, aL, bH⟩ := hp.2.1 n hnS
      have hen2 := hen (by omega)
      refine Z_iload_n (n := 6) dX2_markWith_5 rfl rfl ?_
      refine Z_bipush (n := 8) dX2_markWith_6 rfl (by decide) (by decide) ?_
      refine Z_icmp_ge (n := 11) (t := 22) dX2_markWith_8 rfl (by decide) (fun c8 => ?_) (fun c8 => ?_)
      · omega
      · refine Z_aload_n (n := 12) dX2_markWith_11 rfl rfl ?_
        refine Z_getA (n := 15) dX2_markWith_12 rfl ffX2_21 rfl rfl ?_
        refine Z_iload_n (n := 16) dX2_markWith_15 rfl rfl ?_
        refine Z_iald (n := 17) dX2_markWith_16 rfl rfl rfl (by first | decide | assumption) (by omega) (by omega) (fun r16 s16 => ?_)
        refine Z_iload_n (n := 18) dX2_markWith_17 rfl rfl ?_
        refine Z_iand (n := 19) dX2_markWith_18 rfl ?_
        refine Z_if_eq (n := 22) (t := 23) dX2_markWith_19 rfl (by decide) (fun c19 => ?_) (fun c19 => ?_)
        · refine Z_aload_n (n := 24) dX2_markWith_23 rfl rfl ?_
          refine Z_getA (n := 27) dX2_markWith_24 rfl ffX2_21 rfl rfl ?_
          refine Z_iload_n (n := 28) dX2_markWith_27 rfl rfl ?_
          have sn := sg (hw n).1 (hw n).2 hs
          refine Z_dup2 (n := 29) dX2_markWith_28 rfl rfl rfl ?_
          refine Z_iald (n := 30) dX2_markWith_29 rfl rfl rfl (by first | decide | assumption) (by omega) (by omega) (fun r29 s29 => ?_)
          refine Z_iload_n (n := 31) dX2_markWith_30 rfl rfl ?_
          refine Z_ior (n := 32) dX2_markWith_31 rfl ?_
          refine Z_iast (n := 33) dX2_markWith_32 rfl rfl rfl (by first | decide | assumption) (by omega) (by omega) (by first | assumption | omega | decide) (by first | assumption | omega | decide) (by decide) ?_
          refine Z_nm (fun M32 e32 => ?_)
          have o32 : ∀ a : Nat, a ≠ 9 → M32 a = M a := fun a ha => by rw [e32]; exact uz_o ha
          have w32 : M32 9 = updI (M 9) n (zor (M 9 n) s) := by rw [e32]; exact uz_fn
          have hp32 : pst M32 S := pst_cg (o32 6 (by decide)) (o32 7 (by decide)) (o32 8 (by decide)) hp
          have cl32 : Clw M32 S s (M 6 n + 1) (M32 9) := by
            have z := Clw_up hc hw hs (hpn (by omega))
            unfold Clw at z ⊢
            rw [o32 6 (by decide), o32 7 (by decide), o32 8 (by decide), w32]
            exact z
          clear e32
          refine Z_aload_n (n := 34) dX2_markWith_33 rfl rfl ?_
          refine Z_iload_n (n := 35) dX2_markWith_34 rfl rfl ?_
          refine Z_aload_n (n := 36) dX2_markWith_35 rfl rfl ?_
          refine Z_getA (n := 39) dX2_markWith_36 rfl ffX2_15 rfl rfl ?_
          refine Z_iload_n (n := 40) dX2_markWith_39 rfl rfl ?_
          refine Z_iald (n := 41) dX2_markWith_40 rfl rfl rfl (by first | decide | assumption) (by omega) (by omega) (fun r40 s40 => ?_)
          refine Z_iload_n (n := 42) dX2_markWith_41 rfl rfl ?_
          refine Z_iconst (n := 43) dX2_markWith_42 rfl (by decide) ?_
          refine Z_iadd (n := 44) dX2_markWith_43 rfl (by omega) ?_
          refine Z_callVv (n := 47) [_, _, _] _ dX2_markWith_44 rfl cwX2_49 rfl rfl rfl (Nat.le_of_ble_eq_true rfl) ⟨by show (k) + 1 ≤ ((k + 1)); omega, by show 8 + (4 + 11) + 40 * (k) ≤ 40 * ((k + 1)); omega, Nat.le_refl _, Nat.le_refl _⟩ (fun _ h => h) (@ih _ _ _ _ _  (by exact hp32) (by rw [o32 7 (by decide)]; exact Or.inr aL.1) (by omega) (by omega) (by intro _; rw [o32 6 (by decide), o32 7 (by decide)]; omega) (by exact fun _ => (show M 6 n + 1 ≤ M32 6 (M32 7 n) by rw [o32 6 (by decide), o32 7 (by decide)]; omega)) (by exact cl32)) ?_
          intro M44 J44 f44 q44
          obtain ⟨e44_1, mr44⟩ := q44
          replace e44_1 := e44_1.symm; subst e44_1
          have o44 : ∀ a : Nat, a ≠ 9 → M44 a = M a := fun a ha => ((f44 a ha).1).trans (o32 a ha)
          have q1 : mkR M S s (M 7 n) (M 6 n + 1) (updI (M 9) n (zor (M 9 n) s)) (M44 9) := by
            have z := mkR_cg (o32 6 (by decide)) (o32 7 (by decide)) (o32 8 (by decide)) mr44
            rw [w32, o32 7 (by decide)] at z
            exact z
          have hp44 : pst M44 S := pst_cg (o44 6 (by decide)) (o44 7 (by decide)) (o44 8 (by decide)) hp
          have cl44 : Clw M44 S s (M 6 n + 1) (M44 9) := by
            have z := q1.2.2
            unfold Clw at z ⊢
            rw [o44 6 (by decide), o44 7 (by decide), o44 8 (by decide)]
            exact z
          refine Z_aload_n (n := 48) dX2_markWith_47 rfl rfl ?_
          refine Z_iload_n (n := 49) dX2_markWith_48 rfl rfl ?_
          refine Z_aload_n (n := 50) dX2_markWith_49 rfl rfl ?_
          refine Z_getA (n := 53) dX2_markWith_50 rfl ffX2_18 rfl rfl ?_
          refine Z_iload_n (n := 54) dX2_markWith_53 rfl rfl ?_
          refine Z_iald (n := 55) dX2_markWith_54 rfl rfl rfl (by first | decide | assumption) (by omega) (by omega) (fun r54 s54 => ?_)
          refine Z_iload_n (n := 56) dX2_markWith_55 rfl rfl ?_
          refine Z_iconst (n := 57) dX2_markWith_56 rfl (by decide) ?_
          refine Z_iadd (n := 58) dX2_markWith_57 rfl (by omega) ?_
          refine Z_callVv (n := 61) [_, _, _] _ dX2_markWith_58 rfl cwX2_49 rfl rfl rfl (Nat.le_of_ble_eq_true rfl) ⟨by show (k) + 1 ≤ ((k + 1)); omega, by show 8 + (4 + 11) + 40 * (k) ≤ 40 * ((k + 1)); omega, Nat.le_refl _, Nat.le_refl _⟩ (fun _ h => h) (@ih _ _ _ _ _  (by exact hp44) (by rw [o44 8 (by decide)]; exact Or.inr bH.1) (by omega) (by omega) (by intro _; rw [o44 6 (by decide), o44 8 (by decide)]; omega) (by exact fun _ => (show M 6 n + 1 ≤ M44 6 (M44 8 n) by rw [o44 6 (by decide), o44 8 (by decide)]; omega)) (by exact cl44)) ?_
          intro M58 J58 f58 q58
          obtain ⟨e58_1, mr58⟩ := q58
          replace e58_1 := e58_1.symm; subst e58_1
          refine Z_vret dX2_markWith_61 rfl ?_
          refine ⟨rfl, mkR_rec hp hnS hw hs (hpn (by omega)) hc q1 ?_⟩
          have z := mkR_cg (o44 6 (by decide)) (o44 7 (by decide)) (o44 8 (by decide)) mr58
          rw [o44 8 (by decide)] at z
          exact z
        · refine Z_vret dX2_markWith_22 rfl ?_
          refine ⟨rfl, mkR_0 ?_ hc⟩
          first
            | exact Or.inl (by omega)
            | exact Or.inr c19
set_option maxRecDepth 20000 in
theorem zX2_mark_f {G : tl_G} {M : zM} {J : zJ} {S : Int → Prop} {n : Int} (hp : pst M S) (hn : n = -1 ∨ okN S n) (hc : Clw M S 1 0 (M 9)) : ZN G yX2_mark mX2_mark 9 kMarks [vR 5, vI n] F1 M J (qV (fun M' J' => J' = J ∧ mkR M S 1 n 0 (M 9) (M' 9))) := by
  refine ZN_of (L := [_, _]) (by decide) rfl rfl (Nat.le_of_ble_eq_true rfl) rfl (fun hav => ?_)
  refine Z_aload_n (n := 1) dX2_mark_0 rfl rfl ?_
  refine Z_iconst (n := 2) dX2_mark_1 rfl (by decide) ?_
  refine Z_iload_n (n := 3) dX2_mark_2 rfl rfl ?_
  refine Z_iconst (n := 4) dX2_mark_3 rfl (by decide) ?_
  refine Z_callVv (n := 7) [_, _, _] _ dX2_mark_4 rfl cwX2_49 rfl rfl rfl (Nat.le_of_ble_eq_true rfl) (by refine ⟨?_, ?_, ?_, ?_⟩ <;> exact Nat.le_of_ble_eq_true rfl) (fun _ h => h) (zX2_markWith_f 8  (by exact Or.inl rfl) (by exact hp) (by exact hn) (by decide) (by rfl) (by intro q; exact (hp.2.1 n (okN_2 hp (hn.resolve_left (by omega)) q)).2.1.1) (by intro q; exact (hp.2.1 n (okN_2 hp (hn.resolve_left (by omega)) q)).2.1.1) (by exact hc)) ?_
  intro M4 J4 f4 q4
  obtain ⟨e4_1, mr4⟩ := q4
  replace e4_1 := e4_1.symm; subst e4_1
  refine Z_vret dX2_mark_7 rfl ?_
  exact ⟨rfl, mr4⟩
/-- the part of the table that sweep has made: nodes above n -/
def swT (M : zM) (C : Int → Prop) (n : Int) (ch : Int → List Int) (fl : List Int) : Prop :=
  (∀ r : Int, 0 ≤ r → r < 256 → chp (M 10) (M 11 r) (ch r) ∧ (ch r).Nodup ∧ ∀ m ∈ ch r, (C m ∧ n < m) ∧ zxor (M 7 m) (M 8 m) = r) ∧
  (chp (M 10) (M 5 6) fl ∧ fl.Nodup ∧ ∀ m ∈ fl, ¬ C m ∧ n < m) ∧
  (∀ m : Int, n < m → m < 252 → (C m → m ∈ ch (zxor (M 7 m) (M 8 m))) ∧ (¬ C m → m ∈ fl)) ∧
  M 5 7 = hr (fun k => ind (C k ∧ n < k)) 252
def swE (M : zM) (C : Int → Prop) (n : Int) : Prop := ∃ (ch : Int → List Int) (fl : List Int), swT M C n ch fl
theorem swT_0 {M : zM} {C : Int → Prop} : swE (sw0 M) C 251 := by
  have o : ∀ a : Nat, a ≠ 5 → a ≠ 11 → sw0 M a = M a := fun a h1 h2 => by unfold sw0; rw [uz_o h1, uz_o h1, fillz_o h2]
  refine ⟨fun _ => [], [], fun r r0 r1 => ⟨sw0_11 r0 r1, List.nodup_nil, fun m hm => by cases hm⟩, ⟨sw0_56, List.nodup_nil, fun m hm => by cases hm⟩, fun m a b => by omega, ?_⟩
  rw [sw0_57]
  exact (hr_zero (fun k a b => ind_f (fun q => by omega))).symm
theorem swT_ent {M : zM} {C : Int → Prop} {n : Int} (h : swE M C n) (n2 : 2 ≤ n) (n1 : n < 252) (hn : C n) (hz : 0 ≤ zxor (M 7 n) (M 8 n) ∧ zxor (M 7 n) (M 8 n) < 256) : swE (entz M n) C (n + -1) := by
  obtain ⟨ch, fl, h1, ⟨h2, h3, h4⟩, h5, h6⟩ := h
  have e7 : entz M n 7 = M 7 := entz_o (by decide) (by decide) (by decide)
  have e8 : entz M n 8 = M 8 := entz_o (by decide) (by decide) (by decide)
  have hnc : ∀ r : Int, 0 ≤ r → r < 256 → n ∉ ch r := fun r r0 r1 q => by have := ((h1 r r0 r1).2.2 n q).1.2; omega
  have hnf : n ∉ fl := fun q => by have := (h4 n q).2; omega
  refine ⟨fun r => if r = zxor (M 7 n) (M 8 n) then n :: ch r else ch r, fl, fun r r0 r1 => ?_, ⟨?_, h3, fun m hm => ⟨(h4 m hm).1, by have := (h4 m hm).2; omega⟩⟩, fun m m0 m1 => ⟨fun q => ?_, fun q => ?_⟩, ?_⟩
  · obtain ⟨a, b, c⟩ := h1 r r0 r1
    dsimp only
    rw [entz_10, entz_11, e7, e8]
    by_cases z : r = zxor (M 7 n) (M 8 n)
    · rw [if_pos z, z, updI_s]
      rw [z] at a b c r0 r1
      refine ⟨chp_push a n2 n1 (hnc _ r0 r1), List.nodup_cons.mpr ⟨hnc _ r0 r1, b⟩, fun m hm => ?_⟩
      rcases List.mem_cons.mp hm with w | w
      · rw [w]; exact ⟨⟨hn, by omega⟩, rfl⟩
      · exact ⟨⟨(c m w).1.1, by have := (c m w).1.2; omega⟩, (c m w).2⟩
    · rw [if_neg z, updI_n z]
      exact ⟨chp_congr (fun m hm => updI_n (fun t => hnc r r0 r1 (t ▸ hm))) a, b, fun m hm => ⟨⟨(c m hm).1.1, by have := (c m hm).1.2; omega⟩, (c m hm).2⟩⟩
  · rw [entz_10, entz_5 (by decide)]
    exact chp_congr (fun m hm => updI_n (fun t => hnf (t ▸ hm))) h2
  · dsimp only
    rw [e7, e8]
    by_cases nx : m = n
    · rw [nx, if_pos rfl]; exact List.mem_cons_self
    · have z := (h5 m (by omega) m1).1 q
      by_cases w : zxor (M 7 m) (M 8 m) = zxor (M 7 n) (M 8 n)
      · rw [if_pos w]; exact List.mem_cons_of_mem _ z
      · rw [if_neg w]; exact z
  · by_cases nx : m = n
    · exact absurd (nx ▸ hn) q
    · exact (h5 m (by omega) m1).2 q
  · rw [entz_57, h6]
    refine (hr_inc (v := n) (by omega) (by omega) (ind_f (fun q => by omega)) (ind_nz.mpr ⟨hn, by omega⟩) (fun k hk => ?_)).symm
    have e : (C k ∧ n + -1 < k) ↔ (C k ∧ n < k) := ⟨fun q => ⟨q.1, by omega⟩, fun q => ⟨q.1, by omega⟩⟩
    rw [ind_congr e]
theorem frez_o {M : zM} {n : Int} {a : Nat} (h1 : a ≠ 5) (h2 : a ≠ 10) : frez M n a = M a := by
  unfold frez
  rw [uz_o h1, uz_o h2]
theorem swT_fre {M : zM} {C : Int → Prop} {n : Int} (h : swE M C n) (n2 : 2 ≤ n) (n1 : n < 252) (hn : ¬ C n) : swE (frez M n) C (n + -1) := by
  obtain ⟨ch, fl, h1, ⟨h2, h3, h4⟩, h5, h6⟩ := h
  have e7 : frez M n 7 = M 7 := frez_o (by decide) (by decide)
  have e8 : frez M n 8 = M 8 := frez_o (by decide) (by decide)
  have e11 : frez M n 11 = M 11 := frez_o (by decide) (by decide)
  have e10 : frez M n 10 = updI (M 10) n (M 5 6) := by unfold frez; rw [uz_o (by decide), uz_fn]
  have hnc : ∀ r : Int, 0 ≤ r → r < 256 → n ∉ ch r := fun r r0 r1 q => by have := ((h1 r r0 r1).2.2 n q).1.2; omega
  have hnf : n ∉ fl := fun q => by have := (h4 n q).2; omega
  refine ⟨ch, n :: fl, fun r r0 r1 => ?_, ⟨?_, List.nodup_cons.mpr ⟨hnf, h3⟩, fun m hm => ?_⟩, fun m m0 m1 => ⟨fun q => ?_, fun q => ?_⟩, ?_⟩
  · obtain ⟨a, b, c⟩ := h1 r r0 r1
    rw [e10, e11, e7, e8]
    exact ⟨chp_congr (fun m hm => updI_n (fun t => hnc r r0 r1 (t ▸ hm))) a, b, fun m hm => ⟨⟨(c m hm).1.1, by have := (c m hm).1.2; omega⟩, (c m hm).2⟩⟩
  · rw [e10, show frez M n 5 6 = n from uz_s]
    exact chp_push h2 n2 n1 hnf
  · rcases List.mem_cons.mp hm with w | w
    · rw [w]; exact ⟨hn, by omega⟩
    · exact ⟨(h4 m w).1, by have := (h4 m w).2; omega⟩
  · rw [e7, e8]
    by_cases nx : m = n
    · exact absurd (nx ▸ q) hn
    · exact (h5 m (by omega) m1).1 q
  · by_cases nx : m = n
    · rw [nx]; exact List.mem_cons_self
    · exact List.mem_cons_of_mem _ ((h5 m (by omega) m1).2 q)
  · rw [frez_57, h6]
    refine hr_congr (fun k _ _ => ?_)
    have e : (C k ∧ n < k) ↔ (C k ∧ n + -1 < k) := ⟨fun q => ⟨q.1, by omega⟩, fun q => ⟨q.1, by
      by_cases z : k = n
      · exact absurd (z ▸ q.1) hn
      · omega⟩⟩
    rw [ind_congr e]
theorem swT_end {M M' : zM} {C : Int → Prop} (h : swE M' C 1) (hp : pst M' C) : plo M' C := by
  obtain ⟨ch, fl, h1, ⟨h2, h3, h4⟩, h5, h6⟩ := h
  refine ⟨hp, ch, fl, fun r r0 r1 => ?_, ⟨h2, h3, fun n hn => (h4 n hn).1⟩, fun n n0 n1 => h5 n (by omega) n1, ?_⟩
  · obtain ⟨a, b, c⟩ := h1 r r0 r1
    exact ⟨a, b, fun n hn => ⟨(c n hn).1.1, (c n hn).2⟩⟩
  · rw [h6]
    refine hr_congr (fun k _ _ => ?_)
    have e : (C k ∧ 1 < k) ↔ C k := ⟨fun q => q.1, fun q => ⟨q, by have := (hp.2.1 k q).1; omega⟩⟩
    rw [ind_congr e]
/-- the marked nodes -/
def mC (w : Int → Int) : Int → Prop := fun n => (2 ≤ n ∧ n < 252) ∧ ¬ w n = 0
set_option maxRecDepth 20000 in
theorem zX2_sweep_f {G : tl_G} {M : zM} {J : zJ} {S : Int → Prop} (hp : pst M S) (hC : ∀ n : Int, mC (M 9) n → S n ∧ okN (mC (M 9)) (M 7 n) ∧ okN (mC (M 9)) (M 8 n)) : ZN G yX2_sweep mX2_sweep 1 kSweep [vR 5] F1 M J (qV (fun M' J' => J' = J ∧ M' 5 8 = M 5 8 ∧ plo M' (mC (M 9)))) := by
  refine ZN_of (L := [_, _]) (by decide) rfl rfl (Nat.le_of_ble_eq_true rfl) rfl (fun hav => ?_)
  refine Z_aload_n (n := 1) dX2_sweep_0 rfl rfl ?_
  refine Z_getA (n := 4) dX2_sweep_1 rfl ffX2_27 rfl rfl ?_
  refine Z_iconst (n := 5) dX2_sweep_4 rfl (by decide) ?_
  refine Z_callSv (n := 8) [_, _] _ dX2_sweep_5 rfl cwX2_43 rfl rfl (Nat.le_of_ble_eq_true rfl) (by refine ⟨?_, ?_, ?_, ?_⟩ <;> exact Nat.le_of_ble_eq_true rfl) (fun _ h => h) (zJ7_fill_53178  (by rfl) (by decide) (by exact fun _ => rfl) (by decide) (by decide) (by decide)) ?_
  intro M5 J5 f5 q5
  obtain ⟨e5_1, e5_2⟩ := q5
  replace e5_1 := e5_1.symm; subst e5_1
  replace e5_2 := e5_2.symm; subst e5_2
  refine Z_aload_n (n := 9) dX2_sweep_8 rfl rfl ?_
  refine Z_iconst (n := 10) dX2_sweep_9 rfl (by decide) ?_
  refine Z_putI (n := 13) (ki := 6) dX2_sweep_10 rfl ffX2_30 rfl (by decide) rfl rfl (by first | assumption | omega | decide) (by first | assumption | omega | decide) (by decide) ?_
  refine Z_aload_n (n := 14) dX2_sweep_13 rfl rfl ?_
  refine Z_iconst (n := 15) dX2_sweep_14 rfl (by decide) ?_
  refine Z_putI (n := 18) (ki := 7) dX2_sweep_15 rfl ffX2_34 rfl (by decide) rfl rfl (by first | assumption | omega | decide) (by first | assumption | omega | decide) (by decide) ?_
  refine Z_sipush (n := 21) dX2_sweep_18 rfl (by decide) (by decide) ?_
  refine Z_istore_n (L' := [_, _]) (n := 22) dX2_sweep_21 rfl (by decide) rfl rfl ?_
  have lp22 : ∀ (N22 : Nat) (n : Int) (M22 : zM) (J22 : zJ), (n.toNat) < N22 → (J22 = J) → (1 ≤ n) → (n ≤ 251) → (M22 5 7 ≤ 251 - n) → (M22 5 8 = M 5 8) → (swE M22 (mC (M 9)) n) → TZ G mX2_sweep (tl_rm 1 0 0) 0 0 kSweep M J 22 [some (vR 5), some (vI n)] [] F1 M22 J22 (ZM G (zPost G kSweep F1 M J (qV (fun M' J' => J' = J ∧ M' 5 8 = M 5 8 ∧ plo M' (mC (M 9))))) 0 0) := by
    intro N22
    induction N22 with
    | zero => intro n M22 J22 hN; omega
    | succ N22 ih22 =>
      intro n M22 J22 hN22 i22_0 i22_1 i22_2 i22_3 i22_4 i22_5
      refine Z_iload_n (n := 23) dX2_sweep_22 rfl rfl ?_
      refine Z_iconst (n := 24) dX2_sweep_23 rfl (by decide) ?_
      refine Z_icmp_lt (n := 27) (t := 65) dX2_sweep_24 rfl (by decide) (fun c24 => ?_) (fun c24 => ?_)
      · refine Z_fr (fun fr22 => ?_)
        refine Z_vret dX2_sweep_65 rfl ?_
        refine ⟨i22_0, i22_4, swT_end (M := M) ?_ ?_⟩
        · rw [show n = 1 by omega] at i22_5; exact i22_5
        · exact pst_cg (fr22 6 (by decide)).1 (fr22 7 (by decide)).1 (fr22 8 (by decide)).1 (pst_less hp hC)
      · refine Z_aload_n (n := 28) dX2_sweep_27 rfl rfl ?_
        refine Z_fr (fun fr22 => ?_)
        refine Z_ok (fun ok22 => ?_)
        have g7 : 0 ≤ M22 7 n ∧ M22 7 n ≤ 251 := ok22 7 n
        have g8 : 0 ≤ M22 8 n ∧ M22 8 n ≤ 251 := ok22 8 n
        refine Z_rg 5 7 rfl (fun g57 g57b => ?_)
        have e9 : M22 9 n = M 9 n := congrFun (fr22 9 (by decide)).1 n
        refine Z_getA (n := 31) dX2_sweep_28 rfl ffX2_21 rfl rfl ?_
        refine Z_iload_n (n := 32) dX2_sweep_31 rfl rfl ?_
        refine Z_iald (n := 33) dX2_sweep_32 rfl rfl rfl (by first | decide | assumption) (by omega) (by omega) (fun r32 s32 => ?_)
        refine Z_if_eq (n := 36) (t := 44) dX2_sweep_33 rfl (by decide) (fun c33 => ?_) (fun c33 => ?_)
        · refine Z_aload_n (n := 45) dX2_sweep_44 rfl rfl ?_
          refine Z_getA (n := 48) dX2_sweep_45 rfl ffX2_24 rfl rfl ?_
          refine Z_iload_n (n := 49) dX2_sweep_48 rfl rfl ?_
          refine Z_aload_n (n := 50) dX2_sweep_49 rfl rfl ?_
          refine Z_getI (n := 53) (ki := 6) dX2_sweep_50 rfl ffX2_30 rfl rfl rfl (fun r50 s50 => ?_)
          refine Z_iast (n := 54) dX2_sweep_53 rfl rfl rfl (by first | decide | assumption) (by omega) (by omega) (by first | assumption | omega | decide) (by first | assumption | omega | decide) (by decide) ?_
          refine Z_aload_n (n := 55) dX2_sweep_54 rfl rfl ?_
          refine Z_iload_n (n := 56) dX2_sweep_55 rfl rfl ?_
          refine Z_putI (n := 59) (ki := 6) dX2_sweep_56 rfl ffX2_30 rfl (by decide) rfl rfl (by first | assumption | omega | decide) (by first | assumption | omega | decide) (by decide) ?_
          have t3 : frez M22 n 5 7 ≤ 251 - (n + -1) := by rw [frez_57]; omega
          have t4 : frez M22 n 5 8 = M 5 8 := frez_58.trans i22_4
          have t5 : swE (frez M22 n) (mC (M 9)) (n + -1) := swT_fre i22_5 (by omega) (by omega) (fun q => q.2 (by omega))
          refine Z_iinc (L' := [_, _]) (n := 62) dX2_sweep_59 rfl rfl (by decide) rfl rfl (by omega) rfl ?_
          refine Z_goto (t := 22) dX2_sweep_62 (by decide) ?_
          refine Z_loc (L' := [some _, some _]) (lsub_same (lsub_same lsub_nil)) ?_
          exact ih22 _ _ _ (by omega) (by assumption) (by first | assumption | omega | decide) (by first | assumption | omega | decide) (by exact t3) (by exact t4) (by exact t5)
        · refine Z_aload_n (n := 37) dX2_sweep_36 rfl rfl ?_
          refine Z_iload_n (n := 38) dX2_sweep_37 rfl rfl ?_
          refine Z_callVv (n := 41) [_] _ dX2_sweep_38 rfl cwX2_64 rfl rfl rfl (Nat.le_of_ble_eq_true rfl) (by refine ⟨?_, ?_, ?_, ?_⟩ <;> exact Nat.le_of_ble_eq_true rfl) (fun _ h => h) (zX2_enter  (by exact PoolF1) (by omega) (by omega) (by omega) (by decide) (by decide) (by decide)) ?_
          intro M38 J38 f38 q38
          obtain ⟨e38_1, e38_2⟩ := q38
          replace e38_1 := e38_1.symm; subst e38_1
          replace e38_2 := e38_2.symm; subst e38_2
          have t3 : entz M22 n 5 7 ≤ 251 - (n + -1) := by rw [entz_57]; omega
          have t4 : entz M22 n 5 8 = M 5 8 := entz_58.trans i22_4
          have t5 : swE (entz M22 n) (mC (M 9)) (n + -1) := swT_ent i22_5 (by omega) (by omega) ⟨by omega, by omega⟩ (zxor_in g7.1 (by omega) g8.1 (by omega))
          refine Z_goto (t := 59) dX2_sweep_41 (by decide) ?_
          refine Z_iinc (L' := [_, _]) (n := 62) dX2_sweep_59 rfl rfl (by decide) rfl rfl (by omega) rfl ?_
          refine Z_goto (t := 22) dX2_sweep_62 (by decide) ?_
          refine Z_loc (L' := [some _, some _]) (lsub_same (lsub_same lsub_nil)) ?_
          exact ih22 _ _ _ (by omega) (by assumption) (by first | assumption | omega | decide) (by first | assumption | omega | decide) (by exact t3) (by exact t4) (by exact t5)
  refine Z_loc (L' := [some _, some _]) (lsub_same (lsub_same lsub_nil)) ?_
  exact lp22 _ _ _ _ (Nat.lt_succ_self _) (by rfl) (by first | assumption | omega | decide) (by first | assumption | omega | decide) (by rw [uz_s]; decide) (by exact sw0_58) (by exact swT_0)
end
