/-! ===== the start of the reference; nets on both sides ===== -/
/-- the reference as it is made -/
def rZ (M : zM) (J : zJ) : Prop := (∀ a : Nat, 31 < a → a ≠ 38 → a ≠ 39 → a ≠ 50 → a ≠ 51 → ∀ k, M a k = 0) ∧ (∀ j : Int, j ≠ 8 → j ≠ 33 → j ≠ 34 → M 31 j = 0) ∧ (M 31 8 = 250 ∧ M 31 33 = -9 ∧ M 31 34 = -9) ∧ ((∀ j : Int, 0 ≤ j → j < 519 → M 50 j = j + 1) ∧ M 50 519 = -1) ∧ (∀ b : Int, 0 ≤ b → b < 512 → M 51 b = -1) ∧ (∀ v : Int, 0 ≤ v → v < 8 → M 38 v = v ∧ M 39 v = v) ∧ ∀ p : Int, 2 ≤ p → p ≤ 7 → J 54 p = whF p
set_option maxRecDepth 20000 in
theorem zX4_init_s {G : tl_G} {M : zM} {J : zJ}  (hM0 : ∀ a : Nat, 31 ≤ a → ∀ k, M a k = 0) (hJ0 : ∀ a : Nat, 31 ≤ a → ∀ k, J a k = 0) : ZA G yX4_init mX4_init 1 26 20312 kModel [vR 31] Fm0 (F_model Fm0) M J (qV (fun M' J' => rZ M' J')) := by
  refine ZA_of (L := [_, _]) (by decide) rfl rfl (Nat.le_of_ble_eq_true rfl) rfl (fun hav => ?_)
  refine Z_aload_n (n := 1) dX4_init_0 rfl rfl ?_
  refine Z_objI (n := 4) dX4_init_1 rfl moX4_1 (by decide) (by decide) (Nat.le_of_ble_eq_true rfl) ?_
  refine Z_aload_n (n := 5) dX4_init_4 rfl rfl ?_
  refine Z_iconst (n := 6) dX4_init_5 rfl (by decide) ?_
  refine Z_newI (N := 3) (z := 32) (n := 8) dX4_init_6 rfl rfl (by decide) rfl (fun k => hM0 _ (by decide) k) (fun k => hJ0 _ (by decide) k) (fun _ => rfl) (by decide) (by decide) ?_
  refine Z_putA (n := 11) dX4_init_8 rfl ffX4_7 (fun _ => rfl) rfl ?_
  refine Z_aload_n (n := 12) dX4_init_11 rfl rfl ?_
  refine Z_iconst (n := 13) dX4_init_12 rfl (by decide) ?_
  refine Z_newI (N := 3) (z := 33) (n := 15) dX4_init_13 rfl rfl (by decide) rfl (fun k => hM0 _ (by decide) k) (fun k => hJ0 _ (by decide) k) (fun _ => rfl) (by decide) (by decide) ?_
  refine Z_putA (n := 18) dX4_init_15 rfl ffX4_13 (fun _ => rfl) rfl ?_
  refine Z_aload_n (n := 19) dX4_init_18 rfl rfl ?_
  refine Z_bipush (n := 21) dX4_init_19 rfl (by decide) (by decide) ?_
  refine Z_newI (N := 120) (z := 34) (n := 23) dX4_init_21 rfl rfl (by decide) rfl (fun k => hM0 _ (by decide) k) (fun k => hJ0 _ (by decide) k) (fun _ => rfl) (by decide) (by decide) ?_
  refine Z_putA (n := 26) dX4_init_23 rfl ffX4_16 (fun _ => rfl) rfl ?_
  refine Z_aload_n (n := 27) dX4_init_26 rfl rfl ?_
  refine Z_sipush (n := 30) dX4_init_27 rfl (by decide) (by decide) ?_
  refine Z_newI (N := 360) (z := 35) (n := 32) dX4_init_30 rfl rfl (by decide) rfl (fun k => hM0 _ (by decide) k) (fun k => hJ0 _ (by decide) k) (fun _ => rfl) (by decide) (by decide) ?_
  refine Z_putA (n := 35) dX4_init_32 rfl ffX4_19 (fun _ => rfl) rfl ?_
  refine Z_aload_n (n := 36) dX4_init_35 rfl rfl ?_
  refine Z_bipush (n := 38) dX4_init_36 rfl (by decide) (by decide) ?_
  refine Z_newI (N := 12) (z := 36) (n := 40) dX4_init_38 rfl rfl (by decide) rfl (fun k => hM0 _ (by decide) k) (fun k => hJ0 _ (by decide) k) (fun _ => rfl) (by decide) (by decide) ?_
  refine Z_putA (n := 43) dX4_init_40 rfl ffX4_22 (fun _ => rfl) rfl ?_
  refine Z_aload_n (n := 44) dX4_init_43 rfl rfl ?_
  refine Z_bipush (n := 46) dX4_init_44 rfl (by decide) (by decide) ?_
  refine Z_newZ (N := 40) (z := 37) (n := 48) dX4_init_46 rfl rfl (by decide) rfl (fun k => hM0 _ (by decide) k) (fun k => hJ0 _ (by decide) k) (fun _ => rfl) (by decide) (by decide) ?_
  refine Z_putA (n := 51) dX4_init_48 rfl ffX4_25 (fun _ => rfl) rfl ?_
  refine Z_aload_n (n := 52) dX4_init_51 rfl rfl ?_
  refine Z_bipush (n := 54) dX4_init_52 rfl (by decide) (by decide) ?_
  refine Z_newI (N := 8) (z := 38) (n := 56) dX4_init_54 rfl rfl (by decide) rfl (fun k => hM0 _ (by decide) k) (fun k => hJ0 _ (by decide) k) (fun _ => rfl) (by decide) (by decide) ?_
  refine Z_putA (n := 59) dX4_init_56 rfl ffX4_29 (fun _ => rfl) rfl ?_
  refine Z_aload_n (n := 60) dX4_init_59 rfl rfl ?_
  refine Z_bipush (n := 62) dX4_init_60 rfl (by decide) (by decide) ?_
  refine Z_newI (N := 8) (z := 39) (n := 64) dX4_init_62 rfl rfl (by decide) rfl (fun k => hM0 _ (by decide) k) (fun k => hJ0 _ (by decide) k) (fun _ => rfl) (by decide) (by decide) ?_
  refine Z_putA (n := 67) dX4_init_64 rfl ffX4_32 (fun _ => rfl) rfl ?_
  refine Z_aload_n (n := 68) dX4_init_67 rfl rfl ?_
  refine Z_bipush (n := 70) dX4_init_68 rfl (by decide) (by decide) ?_
  refine Z_newZ (N := 40) (z := 40) (n := 72) dX4_init_70 rfl rfl (by decide) rfl (fun k => hM0 _ (by decide) k) (fun k => hJ0 _ (by decide) k) (fun _ => rfl) (by decide) (by decide) ?_
  refine Z_putA (n := 75) dX4_init_72 rfl ffX4_35 (fun _ => rfl) rfl ?_
  refine Z_aload_n (n := 76) dX4_init_75 rfl rfl ?_
  refine Z_bipush (n := 78) dX4_init_76 rfl (by decide) (by decide) ?_
  refine Z_newI (N := 41) (z := 41) (n := 80) dX4_init_78 rfl rfl (by decide) rfl (fun k => hM0 _ (by decide) k) (fun k => hJ0 _ (by decide) k) (fun _ => rfl) (by decide) (by decide) ?_
  refine Z_putA (n := 83) dX4_init_80 rfl ffX4_38 (fun _ => rfl) rfl ?_
  refine Z_aload_n (n := 84) dX4_init_83 rfl rfl ?_
  refine Z_bipush (n := 86) dX4_init_84 rfl (by decide) (by decide) ?_
  refine Z_newI (N := 41) (z := 42) (n := 88) dX4_init_86 rfl rfl (by decide) rfl (fun k => hM0 _ (by decide) k) (fun k => hJ0 _ (by decide) k) (fun _ => rfl) (by decide) (by decide) ?_
  refine Z_putA (n := 91) dX4_init_88 rfl ffX4_41 (fun _ => rfl) rfl ?_
  refine Z_aload_n (n := 92) dX4_init_91 rfl rfl ?_
  refine Z_bipush (n := 94) dX4_init_92 rfl (by decide) (by decide) ?_
  refine Z_newZ (N := 56) (z := 43) (n := 96) dX4_init_94 rfl rfl (by decide) rfl (fun k => hM0 _ (by decide) k) (fun k => hJ0 _ (by decide) k) (fun _ => rfl) (by decide) (by decide) ?_
  refine Z_putA (n := 99) dX4_init_96 rfl ffX4_44 (fun _ => rfl) rfl ?_
  refine Z_aload_n (n := 100) dX4_init_99 rfl rfl ?_
  refine Z_sipush (n := 103) dX4_init_100 rfl (by decide) (by decide) ?_
  refine Z_newJ (N := 224) (z := 44) (n := 105) dX4_init_103 rfl rfl (by decide) rfl (fun k => hM0 _ (by decide) k) (fun k => hJ0 _ (by decide) k) (fun _ => rfl) (by decide) (by decide) ?_
  refine Z_putA (n := 108) dX4_init_105 rfl ffX4_47 (fun _ => rfl) rfl ?_
  refine Z_aload_n (n := 109) dX4_init_108 rfl rfl ?_
  refine Z_bipush (n := 111) dX4_init_109 rfl (by decide) (by decide) ?_
  refine Z_newI (N := 56) (z := 45) (n := 113) dX4_init_111 rfl rfl (by decide) rfl (fun k => hM0 _ (by decide) k) (fun k => hJ0 _ (by decide) k) (fun _ => rfl) (by decide) (by decide) ?_
  refine Z_putA (n := 116) dX4_init_113 rfl ffX4_51 (fun _ => rfl) rfl ?_
  refine Z_aload_n (n := 117) dX4_init_116 rfl rfl ?_
  refine Z_sipush (n := 120) dX4_init_117 rfl (by decide) (by decide) ?_
  refine Z_newI (N := 14280) (z := 46) (n := 122) dX4_init_120 rfl rfl (by decide) rfl (fun k => hM0 _ (by decide) k) (fun k => hJ0 _ (by decide) k) (fun _ => rfl) (by decide) (by decide) ?_
  refine Z_putA (n := 125) dX4_init_122 rfl ffX4_54 (fun _ => rfl) rfl ?_
  refine Z_aload_n (n := 126) dX4_init_125 rfl rfl ?_
  refine Z_sipush (n := 129) dX4_init_126 rfl (by decide) (by decide) ?_
  refine Z_newI (N := 520) (z := 47) (n := 131) dX4_init_129 rfl rfl (by decide) rfl (fun k => hM0 _ (by decide) k) (fun k => hJ0 _ (by decide) k) (fun _ => rfl) (by decide) (by decide) ?_
  refine Z_putA (n := 134) dX4_init_131 rfl ffX4_57 (fun _ => rfl) rfl ?_
  refine Z_aload_n (n := 135) dX4_init_134 rfl rfl ?_
  refine Z_sipush (n := 138) dX4_init_135 rfl (by decide) (by decide) ?_
  refine Z_newJ (N := 2080) (z := 48) (n := 140) dX4_init_138 rfl rfl (by decide) rfl (fun k => hM0 _ (by decide) k) (fun k => hJ0 _ (by decide) k) (fun _ => rfl) (by decide) (by decide) ?_
  refine Z_putA (n := 143) dX4_init_140 rfl ffX4_60 (fun _ => rfl) rfl ?_
  refine Z_aload_n (n := 144) dX4_init_143 rfl rfl ?_
  refine Z_sipush (n := 147) dX4_init_144 rfl (by decide) (by decide) ?_
  refine Z_newI (N := 520) (z := 49) (n := 149) dX4_init_147 rfl rfl (by decide) rfl (fun k => hM0 _ (by decide) k) (fun k => hJ0 _ (by decide) k) (fun _ => rfl) (by decide) (by decide) ?_
  refine Z_putA (n := 152) dX4_init_149 rfl ffX4_63 (fun _ => rfl) rfl ?_
  refine Z_aload_n (n := 153) dX4_init_152 rfl rfl ?_
  refine Z_sipush (n := 156) dX4_init_153 rfl (by decide) (by decide) ?_
  refine Z_newI (N := 520) (z := 50) (n := 158) dX4_init_156 rfl rfl (by decide) rfl (fun k => hM0 _ (by decide) k) (fun k => hJ0 _ (by decide) k) (fun _ => rfl) (by decide) (by decide) ?_
  refine Z_putA (n := 161) dX4_init_158 rfl ffX4_66 (fun _ => rfl) rfl ?_
  refine Z_aload_n (n := 162) dX4_init_161 rfl rfl ?_
  refine Z_sipush (n := 165) dX4_init_162 rfl (by decide) (by decide) ?_
  refine Z_newI (N := 512) (z := 51) (n := 167) dX4_init_165 rfl rfl (by decide) rfl (fun k => hM0 _ (by decide) k) (fun k => hJ0 _ (by decide) k) (fun _ => rfl) (by decide) (by decide) ?_
  refine Z_putA (n := 170) dX4_init_167 rfl ffX4_69 (fun _ => rfl) rfl ?_
  refine Z_aload_n (n := 171) dX4_init_170 rfl rfl ?_
  refine Z_sipush (n := 174) dX4_init_171 rfl (by decide) (by decide) ?_
  refine Z_newI (N := 520) (z := 52) (n := 176) dX4_init_174 rfl rfl (by decide) rfl (fun k => hM0 _ (by decide) k) (fun k => hJ0 _ (by decide) k) (fun _ => rfl) (by decide) (by decide) ?_
  refine Z_putA (n := 179) dX4_init_176 rfl ffX4_72 (fun _ => rfl) rfl ?_
  refine Z_aload_n (n := 180) dX4_init_179 rfl rfl ?_
  refine Z_iconst (n := 181) dX4_init_180 rfl (by decide) ?_
  refine Z_newJ (N := 4) (z := 53) (n := 183) dX4_init_181 rfl rfl (by decide) rfl (fun k => hM0 _ (by decide) k) (fun k => hJ0 _ (by decide) k) (fun _ => rfl) (by decide) (by decide) ?_
  refine Z_putA (n := 186) dX4_init_183 rfl ffX4_75 (fun _ => rfl) rfl ?_
  refine Z_aload_n (n := 187) dX4_init_186 rfl rfl ?_
  refine Z_bipush (n := 189) dX4_init_187 rfl (by decide) (by decide) ?_
  refine Z_newJ (N := 8) (z := 54) (n := 191) dX4_init_189 rfl rfl (by decide) rfl (fun k => hM0 _ (by decide) k) (fun k => hJ0 _ (by decide) k) (fun _ => rfl) (by decide) (by decide) ?_
  refine Z_dup (n := 192) dX4_init_191 rfl rfl ?_
  refine Z_iconst (n := 193) dX4_init_192 rfl (by decide) ?_
  refine Z_lconst (v := 0) (n := 194) dX4_init_193 rfl (by decide) ?_
  refine Z_last (n := 195) dX4_init_194 rfl rfl (by decide) (by omega) (by omega) (by decide) ?_
  refine Z_dup (n := 196) dX4_init_195 rfl rfl ?_
  refine Z_iconst (n := 197) dX4_init_196 rfl (by decide) ?_
  refine Z_lconst (v := 0) (n := 198) dX4_init_197 rfl (by decide) ?_
  refine Z_last (n := 199) dX4_init_198 rfl rfl (by decide) (by omega) (by omega) (by decide) ?_
  refine Z_dup (n := 200) dX4_init_199 rfl rfl ?_
  refine Z_iconst (n := 201) dX4_init_200 rfl (by decide) ?_
  refine Z_ldc2 (n := 204) dX4_init_201 rfl clX4_78 ?_
  refine Z_last (n := 205) dX4_init_204 rfl rfl (by decide) (by omega) (by omega) (by decide) ?_
  refine Z_dup (n := 206) dX4_init_205 rfl rfl ?_
  refine Z_iconst (n := 207) dX4_init_206 rfl (by decide) ?_
  refine Z_ldc2 (n := 210) dX4_init_207 rfl clX4_80 ?_
  refine Z_last (n := 211) dX4_init_210 rfl rfl (by decide) (by omega) (by omega) (by decide) ?_
  refine Z_dup (n := 212) dX4_init_211 rfl rfl ?_
  refine Z_iconst (n := 213) dX4_init_212 rfl (by decide) ?_
  refine Z_ldc2 (n := 216) dX4_init_213 rfl clX4_82 ?_
  refine Z_last (n := 217) dX4_init_216 rfl rfl (by decide) (by omega) (by omega) (by decide) ?_
  refine Z_dup (n := 218) dX4_init_217 rfl rfl ?_
  refine Z_iconst (n := 219) dX4_init_218 rfl (by decide) ?_
  refine Z_ldc2 (n := 222) dX4_init_219 rfl clX4_84 ?_
  refine Z_last (n := 223) dX4_init_222 rfl rfl (by decide) (by omega) (by omega) (by decide) ?_
  refine Z_dup (n := 224) dX4_init_223 rfl rfl ?_
  refine Z_bipush (n := 226) dX4_init_224 rfl (by decide) (by decide) ?_
  refine Z_ldc2 (n := 229) dX4_init_226 rfl clX4_86 ?_
  refine Z_last (n := 230) dX4_init_229 rfl rfl (by decide) (by omega) (by omega) (by decide) ?_
  refine Z_dup (n := 231) dX4_init_230 rfl rfl ?_
  refine Z_bipush (n := 233) dX4_init_231 rfl (by decide) (by decide) ?_
  refine Z_ldc2 (n := 236) dX4_init_233 rfl clX4_88 ?_
  refine Z_last (n := 237) dX4_init_236 rfl rfl (by decide) (by omega) (by omega) (by decide) ?_
  refine Z_putA (n := 240) dX4_init_237 rfl ffX4_90 (fun _ => rfl) rfl ?_
  refine Z_aload_n (n := 241) dX4_init_240 rfl rfl ?_
  refine Z_bipush (n := 243) dX4_init_241 rfl (by decide) (by decide) ?_
  refine Z_newZ (N := 40) (z := 55) (n := 245) dX4_init_243 rfl rfl (by decide) rfl (fun k => hM0 _ (by decide) k) (fun k => hJ0 _ (by decide) k) (fun _ => rfl) (by decide) (by decide) ?_
  refine Z_putA (n := 248) dX4_init_245 rfl ffX4_93 (fun _ => rfl) rfl ?_
  refine Z_aload_n (n := 249) dX4_init_248 rfl rfl ?_
  refine Z_bipush (n := 251) dX4_init_249 rfl (by decide) (by decide) ?_
  refine Z_newI (N := 40) (z := 56) (n := 253) dX4_init_251 rfl rfl (by decide) rfl (fun k => hM0 _ (by decide) k) (fun k => hJ0 _ (by decide) k) (fun _ => rfl) (by decide) (by decide) ?_
  refine Z_putA (n := 256) dX4_init_253 rfl ffX4_96 (fun _ => rfl) rfl ?_
  refine Z_aload_n (n := 257) dX4_init_256 rfl rfl ?_
  refine Z_sipush (n := 260) dX4_init_257 rfl (by decide) (by decide) ?_
  refine Z_newI (N := 256) (z := 57) (n := 262) dX4_init_260 rfl rfl (by decide) rfl (fun k => hM0 _ (by decide) k) (fun k => hJ0 _ (by decide) k) (fun _ => rfl) (by decide) (by decide) ?_
  refine Z_putA (n := 265) dX4_init_262 rfl ffX4_99 (fun _ => rfl) rfl ?_
  refine Z_iconst (n := 266) dX4_init_265 rfl (by decide) ?_
  refine Z_istore_n (L' := [_, _]) (n := 267) dX4_init_266 rfl (by decide) rfl rfl ?_
  have lp267 : ∀ (N267 : Nat) (k : Int) (M267 : zM) (J267 : zJ), ((8 - k).toNat) < N267 → (J267 = jw J) → (0 ≤ k) → (k ≤ 8) → (mdl M M267) → (M267 31 8 = 0) → (idO M267 k) → TZ G mX4_init (tl_rm 1 26 20312) 26 20312 kModel M J 267 [some (vR 31), some (vI k)] [] (F_model Fm0) M267 J267 (ZM G (zPost G kModel (F_model Fm0) M J (qV (fun M' J' => rZ M' J'))) 26 20312) := by
    intro N267
    induction N267 with
    | zero => intro k M267 J267 hN; omega
    | succ N267 ih267 =>
      intro k M267 J267 hN267 i267_0 i267_1 i267_2 i267_3 i267_4 i267_5
      refine Z_iload_n (n := 268) dX4_init_267 rfl rfl ?_
      refine Z_bipush (n := 270) dX4_init_268 rfl (by decide) (by decide) ?_
      refine Z_icmp_ge (n := 273) (t := 293) dX4_init_270 rfl (by decide) (fun c270 => ?_) (fun c270 => ?_)
      · refine Z_aload_n (n := 294) dX4_init_293 rfl rfl ?_
        refine Z_sipush (n := 297) dX4_init_294 rfl (by decide) (by decide) ?_
        refine Z_putI (n := 300) (ki := 8) dX4_init_297 rfl ffX4_102 rfl (by decide) rfl rfl (by first | assumption | omega | decide) (by first | assumption | omega | decide) (by decide) ?_
        have st3 : mdl M (uz M267 31 8 250) := ⟨fun a h1 h2 h3 h4 h5 => by rw [uz_o h1]; exact i267_3.1 a h1 h2 h3 h4 h5, fun j hj => by rw [uz_n hj]; exact i267_3.2 j hj⟩
        have st5 : idO (uz M267 31 8 250) 8 := by
          have := i267_5
          rw [show k = 8 by omega] at this
          exact idO_st this (by decide) (by decide)
        refine Z_iconst (n := 301) dX4_init_300 rfl (by decide) ?_
        refine Z_istore_n (L' := [_, _]) (n := 302) dX4_init_301 rfl (by decide) rfl rfl ?_
        have lp302 : ∀ (N302 : Nat) (k : Int) (M302 : zM) (J302 : zJ), ((520 - k).toNat) < N302 → (J302 = jw J) → (0 ≤ k) → (k ≤ 520) → (mdl M M302) → (M302 31 8 = 250) → (idO M302 8) → (∀ j : Int, 0 ≤ j → j < k → M302 50 j = j + 1) → TZ G mX4_init (tl_rm 1 26 20312) 26 20312 kModel M J 302 [some (vR 31), some (vI k)] [] (F_model Fm0) M302 J302 (ZM G (zPost G kModel (F_model Fm0) M J (qV (fun M' J' => rZ M' J'))) 26 20312) := by
          intro N302
          induction N302 with
          | zero => intro k M302 J302 hN; omega
          | succ N302 ih302 =>
            intro k M302 J302 hN302 i302_0 i302_1 i302_2 i302_3 i302_4 i302_5 i302_6
            refine Z_iload_n (n := 303) dX4_init_302 rfl rfl ?_
            refine Z_sipush (n := 306) dX4_init_303 rfl (by decide) (by decide) ?_
            refine Z_icmp_ge (n := 309) (t := 324) dX4_init_306 rfl (by decide) (fun c306 => ?_) (fun c306 => ?_)
            · refine Z_aload_n (n := 325) dX4_init_324 rfl rfl ?_
              refine Z_getA (n := 328) dX4_init_325 rfl ffX4_66 rfl rfl ?_
              refine Z_sipush (n := 331) dX4_init_328 rfl (by decide) (by decide) ?_
              refine Z_iconst (n := 332) dX4_init_331 rfl (by decide) ?_
              refine Z_iast (n := 333) dX4_init_332 rfl rfl rfl (by first | decide | assumption) (by omega) (by omega) (by first | assumption | omega | decide) (by first | assumption | omega | decide) (by decide) ?_
              refine Z_iconst (n := 334) dX4_init_333 rfl (by decide) ?_
              refine Z_istore_n (L' := [_, _]) (n := 335) dX4_init_334 rfl (by decide) rfl rfl ?_
              have lp335 : ∀ (N335 : Nat) (k : Int) (M335 : zM) (J335 : zJ), ((512 - k).toNat) < N335 → (J335 = jw J) → (0 ≤ k) → (k ≤ 512) → (mdl M M335) → (M335 31 8 = 250) → (idO M335 8) → ((∀ j : Int, 0 ≤ j → j < 519 → M335 50 j = j + 1) ∧ M335 50 519 = -1) → (∀ b : Int, 0 ≤ b → b < k → M335 51 b = -1) → TZ G mX4_init (tl_rm 1 26 20312) 26 20312 kModel M J 335 [some (vR 31), some (vI k)] [] (F_model Fm0) M335 J335 (ZM G (zPost G kModel (F_model Fm0) M J (qV (fun M' J' => rZ M' J'))) 26 20312) := by
                intro N335
                induction N335 with
                | zero => intro k M335 J335 hN; omega
                | succ N335 ih335 =>
                  intro k M335 J335 hN335 i335_0 i335_1 i335_2 i335_3 i335_4 i335_5 i335_6 i335_7
                  refine Z_iload_n (n := 336) dX4_init_335 rfl rfl ?_
                  refine Z_sipush (n := 339) dX4_init_336 rfl (by decide) (by decide) ?_
                  refine Z_icmp_ge (n := 342) (t := 355) dX4_init_339 rfl (by decide) (fun c339 => ?_) (fun c339 => ?_)
                  · refine Z_aload_n (n := 356) dX4_init_355 rfl rfl ?_
                    refine Z_bipush (n := 358) dX4_init_356 rfl (by decide) (by decide) ?_
                    refine Z_putI (n := 361) (ki := 33) dX4_init_358 rfl ffX4_106 rfl (by decide) rfl rfl (by first | assumption | omega | decide) (by first | assumption | omega | decide) (by decide) ?_
                    refine Z_aload_n (n := 362) dX4_init_361 rfl rfl ?_
                    refine Z_bipush (n := 364) dX4_init_362 rfl (by decide) (by decide) ?_
                    refine Z_putI (n := 367) (ki := 34) dX4_init_364 rfl ffX4_109 rfl (by decide) rfl rfl (by first | assumption | omega | decide) (by first | assumption | omega | decide) (by decide) ?_
                    refine Z_vret dX4_init_367 rfl ?_
                    have hz : ∀ (a : Nat) (j : Int), 31 ≤ a → a ≠ 31 → a ≠ 38 → a ≠ 39 → a ≠ 50 → a ≠ 51 → uz (uz M335 31 33 (-9)) 31 34 (-9) a j = 0 := fun a j h0 h1 h2 h3 h4 h5 => by
                      rw [uz_oo h1, uz_oo h1, i335_3.1 a h1 h2 h3 h4 h5]; exact hM0 a h0 j
                    have h31 : ∀ j : Int, j ≠ 8 → j ≠ 33 → j ≠ 34 → uz (uz M335 31 33 (-9)) 31 34 (-9) 31 j = 0 := fun j h1 h2 h3 => by
                      rw [uz_n h3, uz_n h2, i335_3.2 j h1]; exact hM0 31 (by decide) j
                    refine ⟨fun a h0 h1 h2 h3 h4 k => hz a k (by omega) (by omega) h1 h2 h3 h4, h31, ⟨?_, ?_, uz_s⟩, ?_, fun b c d => ?_, fun w a b => ?_, ?_⟩
                    · rw [uz_n (by decide), uz_n (by decide)]; exact i335_4
                    · rw [uz_n (by decide), uz_s]
                    · rw [uz_o (by decide), uz_o (by decide)]; exact i335_6
                    · rw [uz_oo (by decide), uz_oo (by decide)]; exact i335_7 b c (by omega)
                    · rw [uz_oo (by decide), uz_oo (by decide), uz_oo (by decide), uz_oo (by decide)]; exact i335_5 w a b
                    · rw [i335_0]; exact jw_wh
                  · refine Z_aload_n (n := 343) dX4_init_342 rfl rfl ?_
                    refine Z_getA (n := 346) dX4_init_343 rfl ffX4_69 rfl rfl ?_
                    refine Z_iload_n (n := 347) dX4_init_346 rfl rfl ?_
                    refine Z_iconst (n := 348) dX4_init_347 rfl (by decide) ?_
                    refine Z_iast (n := 349) dX4_init_348 rfl rfl rfl (by first | decide | assumption) (by omega) (by omega) (by first | assumption | omega | decide) (by first | assumption | omega | decide) (by decide) ?_
                    have nx335 : ∀ b : Int, 0 ≤ b → b < k + 1 → uz M335 51 k (-1) 51 b = -1 := fun b a c => by
                      rw [uz_a]
                      split
                      · rfl
                      · exact i335_7 b a (by omega)
                    refine Z_iinc (L' := [_, _]) (n := 352) dX4_init_349 rfl rfl (by decide) rfl rfl (by omega) rfl ?_
                    refine Z_goto (t := 335) dX4_init_352 (by decide) ?_
                    refine Z_loc (L' := [some _, some _]) (lsub_same (lsub_same lsub_nil)) ?_
                    exact ih335 _ _ _ (by omega) (by first | rfl | assumption) (by first | assumption | omega | decide) (by first | assumption | omega | decide) (by first | exact mdl_st i302_3 (by decide) | exact mdl_st i335_3 (by decide)) (by first | (rw [uz_oo (by decide)]; exact i302_4) | (rw [uz_oo (by decide)]; exact i335_4)) (by first | exact idO_st i302_5 (by decide) (by decide) | exact idO_st i335_5 (by decide) (by decide)) (by rw [uz_o (by decide)]; exact i335_6) (by first | exact fun b a c => by omega | exact nx335)
              refine Z_loc (L' := [some _, some _]) (lsub_same (lsub_same lsub_nil)) ?_
              exact lp335 _ _ _ _ (Nat.lt_succ_self _) (by first | rfl | assumption) (by first | assumption | omega | decide) (by first | assumption | omega | decide) (by first | exact mdl_st i302_3 (by decide) | exact mdl_st i335_3 (by decide)) (by first | (rw [uz_oo (by decide)]; exact i302_4) | (rw [uz_oo (by decide)]; exact i335_4)) (by first | exact idO_st i302_5 (by decide) (by decide) | exact idO_st i335_5 (by decide) (by decide)) (by exact ⟨fun j a b => by rw [uz_n (by omega)]; exact i302_6 j a (by omega), uz_s⟩) (by first | exact fun b a c => by omega | exact nx335)
            · refine Z_aload_n (n := 310) dX4_init_309 rfl rfl ?_
              refine Z_getA (n := 313) dX4_init_310 rfl ffX4_66 rfl rfl ?_
              refine Z_iload_n (n := 314) dX4_init_313 rfl rfl ?_
              refine Z_iload_n (n := 315) dX4_init_314 rfl rfl ?_
              refine Z_iconst (n := 316) dX4_init_315 rfl (by decide) ?_
              refine Z_iadd (n := 317) dX4_init_316 rfl (by omega) ?_
              refine Z_iast (n := 318) dX4_init_317 rfl rfl rfl (by first | decide | assumption) (by omega) (by omega) (by first | assumption | omega | decide) (by first | assumption | omega | decide) (by decide) ?_
              have nx302 : ∀ j : Int, 0 ≤ j → j < k + 1 → uz M302 50 k (k + 1) 50 j = j + 1 := fun j a b => by
                rw [uz_a]
                split
                · omega
                · exact i302_6 j a (by omega)
              refine Z_iinc (L' := [_, _]) (n := 321) dX4_init_318 rfl rfl (by decide) rfl rfl (by omega) rfl ?_
              refine Z_goto (t := 302) dX4_init_321 (by decide) ?_
              refine Z_loc (L' := [some _, some _]) (lsub_same (lsub_same lsub_nil)) ?_
              exact ih302 _ _ _ (by omega) (by first | rfl | assumption) (by first | assumption | omega | decide) (by first | assumption | omega | decide) (by first | exact st3 | exact mdl_st i302_3 (by decide)) (by first | exact uz_s | (rw [uz_oo (by decide)]; exact i302_4)) (by first | exact st5 | exact idO_st i302_5 (by decide) (by decide)) (by first | exact fun j a b => by omega | exact nx302)
        refine Z_loc (L' := [some _, some _]) (lsub_same (lsub_same lsub_nil)) ?_
        exact lp302 _ _ _ _ (Nat.lt_succ_self _) (by first | rfl | assumption) (by first | assumption | omega | decide) (by first | assumption | omega | decide) (by first | exact st3 | exact mdl_st i302_3 (by decide)) (by first | exact uz_s | (rw [uz_oo (by decide)]; exact i302_4)) (by first | exact st5 | exact idO_st i302_5 (by decide) (by decide)) (by first | exact fun j a b => by omega | exact nx302)
      · refine Z_aload_n (n := 274) dX4_init_273 rfl rfl ?_
        refine Z_getA (n := 277) dX4_init_274 rfl ffX4_29 rfl rfl ?_
        refine Z_iload_n (n := 278) dX4_init_277 rfl rfl ?_
        refine Z_iload_n (n := 279) dX4_init_278 rfl rfl ?_
        refine Z_iast (n := 280) dX4_init_279 rfl rfl rfl (by first | decide | assumption) (by omega) (by omega) (by first | assumption | omega | decide) (by first | assumption | omega | decide) (by decide) ?_
        refine Z_aload_n (n := 281) dX4_init_280 rfl rfl ?_
        refine Z_getA (n := 284) dX4_init_281 rfl ffX4_32 rfl rfl ?_
        refine Z_iload_n (n := 285) dX4_init_284 rfl rfl ?_
        refine Z_iload_n (n := 286) dX4_init_285 rfl rfl ?_
        refine Z_iast (n := 287) dX4_init_286 rfl rfl rfl (by first | decide | assumption) (by omega) (by omega) (by first | assumption | omega | decide) (by first | assumption | omega | decide) (by decide) ?_
        have nx : idO (uz (uz M267 38 k k) 39 k k) (k + 1) := fun w a b => by
          rw [uz_oo (show (38 : Nat) ≠ 39 by decide), uz_a, uz_a, uz_oo (show (39 : Nat) ≠ 38 by decide)]
          by_cases e : w = k
          · rw [if_pos e, if_pos e]; exact ⟨e.symm, e.symm⟩
          · rw [if_neg e, if_neg e]; exact i267_5 w a (by omega)
        refine Z_iinc (L' := [_, _]) (n := 290) dX4_init_287 rfl rfl (by decide) rfl rfl (by omega) rfl ?_
        refine Z_goto (t := 267) dX4_init_290 (by decide) ?_
        refine Z_loc (L' := [some _, some _]) (lsub_same (lsub_same lsub_nil)) ?_
        exact ih267 _ _ _ (by omega) (by first | rfl | assumption) (by first | assumption | omega | decide) (by first | assumption | omega | decide) (by first | exact ⟨fun _ _ _ _ _ _ => rfl, fun _ _ => rfl⟩ | exact mdl_st (mdl_st i267_3 (by decide)) (by decide)) (by first | exact hM0 31 (by decide) 8 | (rw [uz_oo (by decide), uz_oo (by decide)]; exact i267_4)) (by first | exact fun w a b => by omega | exact nx)
  refine Z_loc (L' := [some _, some _]) (lsub_same (lsub_same lsub_nil)) ?_
  exact lp267 _ _ _ _ (Nat.lt_succ_self _) (by first | rfl | assumption) (by first | assumption | omega | decide) (by first | assumption | omega | decide) (by first | exact ⟨fun _ _ _ _ _ _ => rfl, fun _ _ => rfl⟩ | exact mdl_st (mdl_st i267_3 (by decide)) (by decide)) (by first | exact hM0 31 (by decide) 8 | (rw [uz_oo (by decide), uz_oo (by decide)]; exact i267_4)) (by first | exact fun w a b => by omega | exact nx)
def flr : Nat → List Int
  | 0 => []
  | c + 1 => (519 - (c : Int)) :: flr c
theorem flr_mem : ∀ {c : Nat} {n : Int}, n ∈ flr c ↔ (520 - (c : Int) ≤ n ∧ n < 520)
  | 0, n => by
    constructor
    · intro h; cases h
    · intro h; omega
  | c + 1, n => by
    unfold flr
    rw [List.mem_cons, flr_mem (c := c)]
    omega
theorem flr_nodup : ∀ c : Nat, (flr c).Nodup
  | 0 => List.nodup_nil
  | c + 1 => by
    unfold flr
    refine List.nodup_cons.mpr ⟨fun h => ?_, flr_nodup c⟩
    have := flr_mem.mp h
    omega
theorem flr_chn {nx : Int → Int} (h : ∀ j : Int, 0 ≤ j → j < 519 → nx j = j + 1) (h9 : nx 519 = -1) : ∀ {c : Nat}, c ≤ 520 → chn nx (if c = 0 then -1 else 520 - (c : Int)) (flr c)
  | 0, _ => by show (-1 : Int) < 0; decide
  | c + 1, hc => by
    refine ⟨by rw [if_neg (by omega)]; omega, by omega, by omega, ?_⟩
    have q := flr_chn h h9 (c := c) (by omega)
    by_cases e : c = 0
    · subst e
      rw [show (519 : Int) - ((0 : Nat) : Int) = 519 by omega, h9]
      exact q
    · rw [if_neg e] at q
      rw [h _ (by omega) (by omega), show (519 : Int) - (c : Int) + 1 = 520 - (c : Int) by omega]
      exact q
theorem cfn_z {M : zM} {lo : Int → Int} {n : Int} : ∀ {N : Nat}, (∀ f : Int, 0 ≤ f → f < N → M 43 f = 0) → cfn M lo n N = 0
  | 0, _ => rfl
  | N + 1, h => by
    unfold cfn
    rw [cfn_z (N := N) (fun f a b => h f a (by omega)), ind_f (fun q => q.1 (h N (by omega) (by omega)))]
    rfl
theorem RI_z {M : zM} {J : zJ} (h : rZ M J) : RI M J := by
  obtain ⟨h1, h2, ⟨h3, -⟩, ⟨h4, h5⟩, h6, h7, -⟩ := h
  have z : ∀ a : Nat, 31 < a → a ≠ 38 → a ≠ 39 → a ≠ 50 → a ≠ 51 → ∀ k, M a k = 0 := h1
  have z43 := z 43 (by decide) (by decide) (by decide) (by decide) (by decide)
  have z45 := z 45 (by decide) (by decide) (by decide) (by decide) (by decide)
  have z49 := z 49 (by decide) (by decide) (by decide) (by decide) (by decide)
  have z52 := z 52 (by decide) (by decide) (by decide) (by decide) (by decide)
  have z32 := z 32 (by decide) (by decide) (by decide) (by decide) (by decide)
  have z33 := z 33 (by decide) (by decide) (by decide) (by decide) (by decide)
  have e23 := h2 23 (by decide) (by decide) (by decide)
  have e24 := h2 24 (by decide) (by decide) (by decide)
  have e27 := h2 27 (by decide) (by decide) (by decide)
  refine ⟨⟨⟨fun _ => [], flr 520, fun b b0 b1 => ⟨?_, List.nodup_nil, fun n hn => by cases hn⟩, ⟨?_, flr_nodup _, fun n hn => z49 n⟩, fun n n0 n1 => ⟨fun _ => flr_mem.mpr (by omega), fun q => absurd (z49 n) q⟩, ?_⟩, ⟨fun n n0 n1 => ?_, fun f f0 f1 => ⟨fun i j hi hij hj => ?_, fun _ => z45 f⟩⟩, fun g g0 g1 hg => absurd (z43 g) hg, fun n n0 n1 => ?_, fun n m _ _ _ _ hn => absurd (z49 n) hn⟩, fun g a b => z43 g, ?_, fun v a b => ?_, fun net a b => ⟨fun g g0 g1 => ?_, fun o o0 o1 => ?_⟩⟩
  · show M 51 b < 0
    rw [h6 b b0 b1]; decide
  · have q := flr_chn h4 h5 (c := 520) (by decide)
    rw [if_neg (by decide)] at q
    rw [e23]
    exact q
  · rw [e24, hr_zero (fun n _ _ => z49 n)]
  · rw [z49 n, cfn_z (fun f _ _ => z43 f)]
  · rw [z45 f] at hj
    have : 0 ≤ i := hi
    omega
  · rw [z52 n, e27]; decide
  · rw [e24, h3]; decide
  · rw [(h7 v a b).2]; exact a
  · rw [z32 net] at g1; omega
  · rw [z33 net] at o1; omega
theorem RI_fr {M M' : zM} {J : zJ} (hr : RI M J) (fr : ∀ a : Nat, 31 ≤ a → M' a = M a) : RI M' J := by
  have e31 := fr 31 (by decide)
  refine ⟨TI_cg hr.1 (fun a h _ => fr a (by omega)) (by rw [e31]) (by rw [e31]) (by rw [e31]) rfl rfl, fun g a b => by rw [fr 43 (by decide)]; exact hr.2.1 g a b, by rw [e31]; exact hr.2.2.1, ?_, fun net a b => rNt_fr (hr.2.2.2.2 net a b) (fr 32 (by decide)) (fr 33 (by decide)) (fr 34 (by decide)) (fr 35 (by decide)) (fr 36 (by decide))⟩
  unfold rOrd
  rw [fr 39 (by decide)]
  exact hr.2.2.2.1
theorem cI_lo {M M' : zM} (hc : cI M) (fr : ∀ a : Nat, a < 31 → M' a = M a) : cI M' := by
  obtain ⟨h1, h2, h3, h4, h5⟩ := hc
  exact ⟨pI_fr h1 (fr 5 (by decide)) (fr 6 (by decide)) (fr 10 (by decide)) (fr 11 (by decide)), ordOK_fr h2 (fr 4 (by decide)), netOK_fr h3 (fr _ (by decide)) (fr _ (by decide)) (fr _ (by decide)) (fr _ (by decide)), netOK_fr h4 (fr _ (by decide)) (fr _ (by decide)) (fr _ (by decide)) (fr _ (by decide)), netOK_fr h5 (fr _ (by decide)) (fr _ (by decide)) (fr _ (by decide)) (fr _ (by decide))⟩
/-- the nets of both sides are alike -/
def nSn (M : zM) (n : Int) : Prop := M (nA n) 4 = M 32 n ∧ M (nA n) 5 = M 33 n ∧ (∀ g : Int, 0 ≤ g → g < M 32 n → M (nA n + 1) g = M 34 (40 * n + g) ∧ ∀ c : Int, 0 ≤ c → c < 3 → M (nA n + 2) (3 * g + c) = M 35 (3 * (40 * n + g) + c)) ∧ ∀ o : Int, 0 ≤ o → o < M 33 n → M (nA n + 3) o = M 36 (4 * n + o)
def nSy (M : zM) : Prop := ∀ n : Int, 0 ≤ n → n < 3 → nSn M n
theorem nSn_fr {M M' : zM} {n : Int} (h : nSn M n) (e0 : M' (nA n) = M (nA n)) (e1 : M' (nA n + 1) = M (nA n + 1)) (e2 : M' (nA n + 2) = M (nA n + 2)) (e3 : M' (nA n + 3) = M (nA n + 3)) (e32 : M' 32 = M 32) (e33 : M' 33 = M 33) (e34 : M' 34 = M 34) (e35 : M' 35 = M 35) (e36 : M' 36 = M 36) : nSn M' n := by
  unfold nSn
  rw [e0, e1, e2, e3, e32, e33, e34, e35, e36]
  exact h
theorem nSy_fr {M M' : zM} (h : nSy M) (fr : ∀ a : Nat, 15 < a → a < 37 → ¬ a = 20 → ¬ a = 25 → ¬ a = 30 → ¬ a = 31 → M' a = M a) : nSy M' := fun n a b => nSn_fr (h n a b) (fr _ (by unfold nA; omega) (by unfold nA; omega) (by unfold nA; omega) (by unfold nA; omega) (by unfold nA; omega) (by unfold nA; omega)) (fr _ (by unfold nA; omega) (by unfold nA; omega) (by unfold nA; omega) (by unfold nA; omega) (by unfold nA; omega) (by unfold nA; omega)) (fr _ (by unfold nA; omega) (by unfold nA; omega) (by unfold nA; omega) (by unfold nA; omega) (by unfold nA; omega) (by unfold nA; omega)) (fr _ (by unfold nA; omega) (by unfold nA; omega) (by unfold nA; omega) (by unfold nA; omega) (by unfold nA; omega) (by unfold nA; omega)) (fr 32 (by decide) (by decide) (by decide) (by decide) (by decide) (by decide)) (fr 33 (by decide) (by decide) (by decide) (by decide) (by decide) (by decide)) (fr 34 (by decide) (by decide) (by decide) (by decide) (by decide) (by decide)) (fr 35 (by decide) (by decide) (by decide) (by decide) (by decide) (by decide)) (fr 36 (by decide) (by decide) (by decide) (by decide) (by decide) (by decide))
/-- both sides between two calls -/
def LI (M : zM) (J : zJ) : Prop := cI M ∧ RI M J ∧ nSy M
theorem LI_z {M : zM} {J : zJ} (hc : cF M) (hr : rZ M J) : LI M J := by
  refine ⟨hc.1, RI_z hr, fun n a b => ?_⟩
  have z : ∀ a : Nat, 31 < a → a ≠ 38 → a ≠ 39 → a ≠ 50 → a ≠ 51 → ∀ k, M a k = 0 := hr.1
  have z32 := z 32 (by decide) (by decide) (by decide) (by decide) (by decide) n
  have z33 := z 33 (by decide) (by decide) (by decide) (by decide) (by decide) n
  exact ⟨by rw [z32]; exact hc.2.2.2.2.1 n a b, by rw [z33]; exact hc.2.2.2.1 n a b, fun g g0 g1 => by omega, fun o o0 o1 => by omega⟩
/-- behind a call of the class that keeps the nets -/
theorem LI_c {M M' : zM} {J : zJ} (h : LI M J) (hc : cI M') (fr : ∀ a : Nat, kPub a → M' a = M a) : LI M' J :=
  ⟨hc, RI_fr h.2.1 (fun a ha => fr a (by unfold kPub; omega)), nSy_fr h.2.2 (fun a h1 _ h2 h3 h4 _ => fr a (by unfold kPub; omega))⟩
/-- behind a call of the reference that keeps the nets -/
theorem LI_r {M M' : zM} {J J' : zJ} (h : LI M J) (hr : RI M' J') (fr : ∀ a : Nat, (a < 31 ∨ (31 < a ∧ a < 37)) → M' a = M a) : LI M' J' :=
  ⟨cI_lo h.1 (fun a ha => fr a (by omega)), hr, nSy_fr h.2.2 (fun a _ h1 _ _ _ h2 => fr a (by omega))⟩
def cG (M : zM) (net k u v w : Int) : zM := uz (uz (uz (uz (uz M (nA net + 1) (M (nA net) 4) k) (nA net + 2) (3 * M (nA net) 4) u) (nA net + 2) (3 * M (nA net) 4 + 1) v) (nA net + 2) (3 * M (nA net) 4 + 2) w) (nA net) 4 (M (nA net) 4 + 1)
def rG (M : zM) (net k u v w : Int) : zM := uz (uz (uz (uz (uz M 34 (40 * net + M 32 net) k) 35 (3 * (40 * net + M 32 net)) u) 35 (3 * (40 * net + M 32 net) + 1) v) 35 (3 * (40 * net + M 32 net) + 2) w) 32 net (M 32 net + 1)
section NG
variable {M : zM} {net k u v w : Int}
theorem cG_o {a : Nat} (h0 : a ≠ nA net) (h1 : a ≠ nA net + 1) (h2 : a ≠ nA net + 2) : cG M net k u v w a = M a := by
  unfold cG
  rw [uz_o h0, uz_o h2, uz_o h2, uz_o h2, uz_o h1]
theorem cG_b {j : Int} (h : j ≠ 4) : cG M net k u v w (nA net) j = M (nA net) j := by
  unfold cG
  rw [uz_n h, uz_oo (by omega), uz_oo (by omega), uz_oo (by omega), uz_oo (by omega)]
theorem cG_4 : cG M net k u v w (nA net) 4 = M (nA net) 4 + 1 := by
  unfold cG
  rw [uz_s]
theorem cG_1 : cG M net k u v w (nA net + 1) = updI (M (nA net + 1)) (M (nA net) 4) k := by
  unfold cG
  rw [uz_o (by omega), uz_o (by omega), uz_o (by omega), uz_o (by omega), uz_fn]
theorem cG_2 {j : Int} (h : j < 3 * M (nA net) 4) : cG M net k u v w (nA net + 2) j = M (nA net + 2) j := by
  unfold cG
  rw [uz_oo (by omega), uz_n (by omega), uz_n (by omega), uz_n (by omega), uz_oo (by omega)]
theorem cG_2n {c : Int} (h0 : 0 ≤ c) (h1 : c < 3) : cG M net k u v w (nA net + 2) (3 * M (nA net) 4 + c) = if c = 0 then u else if c = 1 then v else w := by
  unfold cG
  rw [uz_oo (by omega)]
  rcases (show c = 0 ∨ c = 1 ∨ c = 2 by omega) with rfl | rfl | rfl
  · rw [uz_n (by omega), uz_n (by omega), Int.add_zero, uz_s]; rfl
  · rw [uz_n (by omega), uz_s]; rfl
  · rw [uz_s]; rfl
theorem rG_o {a : Nat} (h0 : a ≠ 32) (h1 : a ≠ 34) (h2 : a ≠ 35) : rG M net k u v w a = M a := by
  unfold rG
  rw [uz_o h0, uz_o h2, uz_o h2, uz_o h2, uz_o h1]
theorem rG_32 : rG M net k u v w 32 = updI (M 32) net (M 32 net + 1) := by
  unfold rG
  rw [uz_fn, uz_o (by decide), uz_o (by decide), uz_o (by decide), uz_o (by decide)]
theorem rG_34 : rG M net k u v w 34 = updI (M 34) (40 * net + M 32 net) k := by
  unfold rG
  rw [uz_o (by decide), uz_o (by decide), uz_o (by decide), uz_o (by decide), uz_fn]
theorem rG_35 {j : Int} (h : j < 3 * (40 * net + M 32 net) ∨ 3 * (40 * net + M 32 net) + 3 ≤ j) : rG M net k u v w 35 j = M 35 j := by
  unfold rG
  rw [uz_oo (by decide), uz_n (by omega), uz_n (by omega), uz_n (by omega), uz_oo (by decide)]
theorem rG_35n {c : Int} (h0 : 0 ≤ c) (h1 : c < 3) : rG M net k u v w 35 (3 * (40 * net + M 32 net) + c) = if c = 0 then u else if c = 1 then v else w := by
  unfold rG
  rw [uz_oo (by decide)]
  rcases (show c = 0 ∨ c = 1 ∨ c = 2 by omega) with rfl | rfl | rfl
  · rw [uz_n (by omega), uz_n (by omega), Int.add_zero, uz_s]; rfl
  · rw [uz_n (by omega), uz_s]; rfl
  · rw [uz_s]; rfl
/-- of what is told a gate more -/
theorem opd_ok {G c : Int} (hop : ((opF k < 1 ∨ (0 ≤ u ∧ u < G)) ∧ (opF k < 2 ∨ (0 ≤ v ∧ v < G)) ∧ (opF k < 3 ∨ (0 ≤ w ∧ w < G)))) (h0 : 0 ≤ c) (h1 : c < opF k) : 0 ≤ (if c = 0 then u else if c = 1 then v else w) ∧ (if c = 0 then u else if c = 1 then v else w) < G := by
  have := opF_in k
  rcases (show c = 0 ∨ c = 1 ∨ c = 2 by omega) with rfl | rfl | rfl
  · show 0 ≤ u ∧ u < G; omega
  · show 0 ≤ v ∧ v < G; omega
  · show 0 ≤ w ∧ w < G; omega
theorem netOK_g (h : netOK M (nA net)) (hop : ((opF k < 1 ∨ (0 ≤ u ∧ u < M (nA net) 4)) ∧ (opF k < 2 ∨ (0 ≤ v ∧ v < M (nA net) 4)) ∧ (opF k < 3 ∨ (0 ≤ w ∧ w < M (nA net) 4)))) (hv : ¬ k = 0 ∨ (0 ≤ u ∧ u < 8)) : netOK (cG M net k u v w) (nA net) := by
  refine ⟨fun g g0 g1 => ?_, fun o o0 o1 => ?_⟩
  · rw [cG_4] at g1
    rw [cG_1]
    by_cases e : g = M (nA net) 4
    · rw [e, updI_s]
      refine ⟨fun i i0 i1 => ?_, fun q => ?_⟩
      · have := opF_in k
        rw [cG_2n i0 (by omega)]
        exact opd_ok hop i0 i1
      · have z := cG_2n (M := M) (net := net) (k := k) (u := u) (v := v) (w := w) (c := 0) (by decide) (by decide)
        rw [Int.add_zero, if_pos rfl] at z
        rw [z]
        omega
    · rw [updI_n e]
      obtain ⟨q1, q2⟩ := h.1 g g0 (by omega)
      refine ⟨fun i i0 i1 => ?_, fun q => ?_⟩
      · have := opF_in (M (nA net + 1) g)
        rw [cG_2 (by omega)]
        exact q1 i i0 i1
      · rw [cG_2 (by omega)]
        exact q2 q
  · rw [cG_b (by decide)] at o1
    rw [cG_4, cG_o (by omega) (by omega) (by omega)]
    have := h.2 o o0 o1
    omega
theorem rNt_g {n : Int} (h : rNt M n) (n0 : 0 ≤ net) (n1 : net < 3) (hn0 : 0 ≤ n) (hn1 : n < 3) (hok : ∀ j, 0 ≤ M 32 j ∧ M 32 j ≤ 40) (hlt : M 32 net < 40) (hop : ((opF k < 1 ∨ (0 ≤ u ∧ u < M 32 net)) ∧ (opF k < 2 ∨ (0 ≤ v ∧ v < M 32 net)) ∧ (opF k < 3 ∨ (0 ≤ w ∧ w < M 32 net)))) (hv : ¬ k = 0 ∨ (0 ≤ u ∧ u < 8)) : rNt (rG M net k u v w) n := by
  have r1 := hok net
  have r2 := hok n
  refine ⟨fun g g0 g1 => ?_, fun o o0 o1 => ?_⟩
  · rw [rG_32] at g1
    rw [rG_34]
    by_cases e : n = net ∧ g = M 32 net
    · obtain ⟨rfl, rfl⟩ := e
      rw [updI_s]
      refine ⟨fun i i0 i1 => ?_, fun q => ?_⟩
      · have := opF_in k
        rw [rG_35n i0 (by omega)]
        exact opd_ok hop i0 i1
      · have z := rG_35n (M := M) (net := n) (k := k) (u := u) (v := v) (w := w) (c := 0) (by decide) (by decide)
        rw [Int.add_zero, if_pos rfl] at z
        rw [z]
        omega
    · have hg : g < M 32 n := by
        by_cases q : n = net
        · subst q
          rw [updI_s] at g1
          have : g ≠ M 32 n := fun z => e ⟨rfl, z⟩
          omega
        · rw [updI_n q] at g1; exact g1
      have hne : 40 * n + g ≠ 40 * net + M 32 net := fun z => e (by omega)
      rw [updI_n hne]
      obtain ⟨q1, q2⟩ := h.1 g g0 hg
      refine ⟨fun i i0 i1 => ?_, fun q => ?_⟩
      · have := opF_in (M 34 (40 * n + g))
        rw [rG_35 (by omega)]
        exact q1 i i0 i1
      · rw [rG_35 (by omega)]
        exact q2 q
  · rw [rG_o (by decide) (by decide) (by decide)] at o1
    have := h.2 o o0 o1
    rw [rG_32, rG_o (by decide) (by decide) (by decide)]
    by_cases q : n = net
    · subst q; rw [updI_s]; omega
    · rw [updI_n q]; exact this
end NG
theorem cI_at {M M' : zM} {net : Int} (hc : cI M) (n0 : 0 ≤ net) (n1 : net < 3) (fr : ∀ a : Nat, a < 31 → (a < nA net ∨ nA net + 3 < a) → M' a = M a) (hn : netOK M' (nA net)) : cI M' := by
  obtain ⟨h1, h2, h3, h4, h5⟩ := hc
  have key : ∀ b : Nat, (b = 16 ∨ b = 21 ∨ b = 26) → netOK M b → netOK M' b := fun b hb h => by
    by_cases e : b = nA net
    · rw [e]; exact hn
    · unfold nA at *
      exact netOK_fr h (fr _ (by omega) (by omega)) (fr _ (by omega) (by omega)) (fr _ (by omega) (by omega)) (fr _ (by omega) (by omega))
  exact ⟨pI_fr h1 (fr 5 (by decide) (by unfold nA; omega)) (fr 6 (by decide) (by unfold nA; omega)) (fr 10 (by decide) (by unfold nA; omega)) (fr 11 (by decide) (by unfold nA; omega)), ordOK_fr h2 (fr 4 (by decide) (by unfold nA; omega)), key 16 (by decide) h3, key 21 (by decide) h4, key 26 (by decide) h5⟩
theorem LI_gate {M M1 M2 : zM} {J : zJ} {net k u v w x y : Int} (h : LI M J) (hok : zOK M) (h1 : (((net < 0 ∨ 3 ≤ net) ∧ x = -1 ∧ M1 = M) ∨ (0 ≤ net ∧ net < 3 ∧ (k < 0 ∨ 10 < k) ∧ x = -2 ∧ M1 = M) ∨ (0 ≤ net ∧ net < 3 ∧ 0 ≤ k ∧ k ≤ 10 ∧ ¬ ((opF k < 1 ∨ (0 ≤ u ∧ u < M (nA net) 4)) ∧ (opF k < 2 ∨ (0 ≤ v ∧ v < M (nA net) 4)) ∧ (opF k < 3 ∨ (0 ≤ w ∧ w < M (nA net) 4))) ∧ x = -1 ∧ M1 = M) ∨ (0 ≤ net ∧ net < 3 ∧ 0 ≤ k ∧ k ≤ 10 ∧ ((opF k < 1 ∨ (0 ≤ u ∧ u < M (nA net) 4)) ∧ (opF k < 2 ∨ (0 ≤ v ∧ v < M (nA net) 4)) ∧ (opF k < 3 ∨ (0 ≤ w ∧ w < M (nA net) 4))) ∧ ((k = 0 ∧ (u < 0 ∨ 8 ≤ u) ∧ x = -2 ∧ M1 = M) ∨ ((¬ k = 0 ∨ (0 ≤ u ∧ u < 8)) ∧ ((x = -4 ∧ M1 = M ∧ 40 ≤ M (nA net) 4) ∨ (x = M (nA net) 4 ∧ M (nA net) 4 < 40 ∧ M1 = uz (uz (uz (uz (uz M (nA net + 1) (M (nA net) 4) k) (nA net + 2) (3 * M (nA net) 4) u) (nA net + 2) (3 * M (nA net) 4 + 1) v) (nA net + 2) (3 * M (nA net) 4 + 2) w) (nA net) 4 (M (nA net) 4 + 1)))))))) (h2 : (((net < 0 ∨ 3 ≤ net) ∧ y = -1 ∧ M2 = M1) ∨ (0 ≤ net ∧ net < 3 ∧ (k < 0 ∨ 10 < k) ∧ y = -2 ∧ M2 = M1) ∨ (0 ≤ net ∧ net < 3 ∧ 0 ≤ k ∧ k ≤ 10 ∧ ¬ ((opF k < 1 ∨ (0 ≤ u ∧ u < M1 32 net)) ∧ (opF k < 2 ∨ (0 ≤ v ∧ v < M1 32 net)) ∧ (opF k < 3 ∨ (0 ≤ w ∧ w < M1 32 net))) ∧ y = -1 ∧ M2 = M1) ∨ (0 ≤ net ∧ net < 3 ∧ 0 ≤ k ∧ k ≤ 10 ∧ ((opF k < 1 ∨ (0 ≤ u ∧ u < M1 32 net)) ∧ (opF k < 2 ∨ (0 ≤ v ∧ v < M1 32 net)) ∧ (opF k < 3 ∨ (0 ≤ w ∧ w < M1 32 net))) ∧ ((k = 0 ∧ (u < 0 ∨ 8 ≤ u) ∧ y = -2 ∧ M2 = M1) ∨ ((¬ k = 0 ∨ (0 ≤ u ∧ u < 8)) ∧ ((y = -4 ∧ M2 = M1 ∧ 40 ≤ M1 32 net) ∨ (y = M1 32 net ∧ M1 32 net < 40 ∧ M2 = uz (uz (uz (uz (uz M1 34 (40 * net + M1 32 net) k) 35 (3 * (40 * net + M1 32 net)) u) 35 (3 * (40 * net + M1 32 net) + 1) v) 35 (3 * (40 * net + M1 32 net) + 2) w) 32 net (M1 32 net + 1)))))))) : x = y ∧ LI M2 J ∧ M2 31 27 = M 31 27 := by
  by_cases hn : 0 ≤ net ∧ net < 3
  · obtain ⟨n0, n1⟩ := hn
    have s4 := (h.2.2 net n0 n1).1
    have key : (M1 = M ∧ M2 = M1 ∧ x = y) ∨ (x = y ∧ ((opF k < 1 ∨ (0 ≤ u ∧ u < M (nA net) 4)) ∧ (opF k < 2 ∨ (0 ≤ v ∧ v < M (nA net) 4)) ∧ (opF k < 3 ∨ (0 ≤ w ∧ w < M (nA net) 4))) ∧ (¬ k = 0 ∨ (0 ≤ u ∧ u < 8)) ∧ M 32 net < 40 ∧ M1 = cG M net k u v w ∧ M2 = rG M1 net k u v w) := by
      rcases h1 with ⟨q, -⟩ | ⟨-, -, q, hx, rfl⟩ | ⟨-, -, a1, a2, q, hx, rfl⟩ | ⟨-, -, a1, a2, q, ⟨b1, b2, hx, rfl⟩ | ⟨b1, ⟨hx, rfl, b2⟩ | ⟨hx, b2, e1⟩⟩⟩
      · omega
      · rcases h2 with ⟨q, -⟩ | ⟨-, -, -, hy, e⟩ | ⟨-, -, c1, c2, -⟩ | ⟨-, -, c1, c2, -⟩
        · omega
        · exact Or.inl ⟨rfl, e, by omega⟩
        · omega
        · omega
      · rcases h2 with ⟨z, -⟩ | ⟨-, -, z, -⟩ | ⟨-, -, -, -, -, hy, e⟩ | ⟨-, -, -, -, z, -⟩
        · omega
        · omega
        · exact Or.inl ⟨rfl, e, by omega⟩
        · rw [s4] at q; exact absurd z q
      · rcases h2 with ⟨z, -⟩ | ⟨-, -, z, -⟩ | ⟨-, -, -, -, z, -⟩ | ⟨-, -, -, -, z, ⟨-, -, hy, e⟩ | ⟨c1, -⟩⟩
        · omega
        · omega
        · rw [s4] at q; exact absurd q z
        · exact Or.inl ⟨rfl, e, by omega⟩
        · omega
      · rcases h2 with ⟨z, -⟩ | ⟨-, -, z, -⟩ | ⟨-, -, -, -, z, -⟩ | ⟨-, -, -, -, z, ⟨c0, c1, -⟩ | ⟨-, ⟨hy, e, -⟩ | ⟨hy, c2, -⟩⟩⟩
        · omega
        · omega
        · rw [s4] at q; exact absurd q z
        · omega
        · exact Or.inl ⟨rfl, e, by omega⟩
        · omega
      · have e32 : M1 32 = M 32 := by rw [e1]; exact cG_o (by unfold nA; omega) (by unfold nA; omega) (by unfold nA; omega)
        rcases h2 with ⟨z, -⟩ | ⟨-, -, z, -⟩ | ⟨-, -, -, -, z, -⟩ | ⟨-, -, -, -, z, ⟨c0, c1, -⟩ | ⟨-, ⟨hy, e, c2⟩ | ⟨hy, c2, e2⟩⟩⟩
        · omega
        · omega
        · rw [s4] at q; rw [e32] at z; exact absurd q z
        · omega
        · rw [e32] at c2; omega
        · rw [e32] at hy c2
          exact Or.inr ⟨by omega, q, b1, by omega, e1, e2⟩
    rcases key with ⟨rfl, rfl, e⟩ | ⟨e, hop, hv, hlt, rfl, rfl⟩
    · exact ⟨e, h, rfl⟩
    · have oc : ∀ a : Nat, (a < nA net ∨ nA net + 2 < a) → cG M net k u v w a = M a := fun a ha => cG_o (by omega) (by omega) (by omega)
      have o1 : ∀ a : Nat, 31 ≤ a → cG M net k u v w a = M a := fun a ha => oc a (by unfold nA; omega)
      have or : ∀ a : Nat, a < 31 → rG (cG M net k u v w) net k u v w a = cG M net k u v w a := fun a ha => rG_o (by omega) (by omega) (by omega)
      have c1 : cI (cG M net k u v w) := cI_at h.1 n0 n1 (fun a _ hb => oc a (by omega)) (netOK_g (cI_net h.1 (nA_at n0 n1)) hop hv)
      have r1 : RI (cG M net k u v w) J := RI_fr h.2.1 o1
      have e32 : cG M net k u v w 32 = M 32 := o1 32 (by decide)
      have ok1 : ∀ j, 0 ≤ cG M net k u v w 32 j ∧ cG M net k u v w 32 j ≤ 40 := fun j => by rw [e32]; exact hok 32 j
      refine ⟨e, ⟨cI_lo c1 or, ?_, fun n a b => ?_⟩, ?_⟩
      · refine ⟨TI_cg r1.1 (fun a a1 a2 => rG_o (by omega) (by omega) (by omega)) ?_ ?_ ?_ rfl rfl, fun g a b => ?_, ?_, ?_, fun n a b => ?_⟩
        · rw [rG_o (by decide) (by decide) (by decide)]
        · rw [rG_o (by decide) (by decide) (by decide)]
        · rw [rG_o (by decide) (by decide) (by decide)]
        · rw [rG_o (by decide) (by decide) (by decide)]; exact r1.2.1 g a b
        · rw [rG_o (by decide) (by decide) (by decide)]; exact r1.2.2.1
        · unfold rOrd; rw [rG_o (by decide) (by decide) (by decide)]; exact r1.2.2.2.1
        · exact rNt_g (r1.2.2.2.2 n a b) n0 n1 a b ok1 (by rw [e32]; exact hlt) (by rw [e32, ← s4]; exact hop) hv
      · have hs := h.2.2 n a b
        by_cases q : n = net
        · subst q
          obtain ⟨z1, z2, z3, z4⟩ := hs
          refine ⟨?_, ?_, fun g g0 g1 => ?_, fun o o0 o1' => ?_⟩
          · rw [or _ (by unfold nA; omega), cG_4, rG_32, updI_s, e32]; omega
          · rw [or _ (by unfold nA; omega), cG_b (by decide), rG_o (by decide) (by decide) (by decide), o1 33 (by decide)]; exact z2
          · rw [rG_32, updI_s, e32] at g1
            rw [or (nA n + 1) (by unfold nA; omega), or (nA n + 2) (by unfold nA; omega), cG_1, rG_34, e32, o1 34 (by decide)]
            by_cases w1 : g = M 32 n
            · rw [w1, updI_s, s4, updI_s]
              refine ⟨rfl, fun c c0 c1 => ?_⟩
              have t1 := cG_2n (M := M) (net := n) (k := k) (u := u) (v := v) (w := w) c0 c1
              have t2 := rG_35n (M := cG M n k u v w) (net := n) (k := k) (u := u) (v := v) (w := w) c0 c1
              rw [s4] at t1
              rw [e32] at t2
              rw [t1, t2]
            · rw [updI_n (by omega), updI_n (by omega)]
              obtain ⟨t1, t2⟩ := z3 g g0 (by omega)
              refine ⟨t1, fun c c0 c1 => ?_⟩
              rw [cG_2 (by omega), rG_35 (by rw [e32]; omega), o1 35 (by decide)]
              exact t2 c c0 c1
          · rw [rG_o (by decide) (by decide) (by decide), o1 33 (by decide)] at o1'
            rw [or _ (by unfold nA; omega), oc _ (by omega), rG_o (by decide) (by decide) (by decide), o1 36 (by decide)]
            exact z4 o o0 o1'
        · obtain ⟨z1, z2, z3, z4⟩ := hs
          have ra : ∀ i : Nat, i ≤ 3 → rG (cG M net k u v w) net k u v w (nA n + i) = M (nA n + i) := fun i hi => by
            rw [or _ (by unfold nA; omega), oc _ (by unfold nA; omega)]
          have r0 := ra 0 (by decide)
          rw [Nat.add_zero] at r0
          have t32 : 0 ≤ M 32 n ∧ M 32 n ≤ 40 := hok 32 n
          have u32 : 0 ≤ M 32 net ∧ M 32 net ≤ 40 := hok 32 net
          refine ⟨?_, ?_, fun g g0 g1 => ?_, fun o o0 o1' => ?_⟩
          · rw [r0, rG_32, updI_n q, e32]; exact z1
          · rw [r0, rG_o (by decide) (by decide) (by decide), o1 33 (by decide)]; exact z2
          · rw [rG_32, updI_n q, e32] at g1
            obtain ⟨t1, t2⟩ := z3 g g0 g1
            rw [ra 1 (by decide), ra 2 (by decide), rG_34, updI_n (by rw [e32]; omega), o1 34 (by decide)]
            refine ⟨t1, fun c c0 c1 => ?_⟩
            rw [rG_35 (by rw [e32]; omega), o1 35 (by decide)]
            exact t2 c c0 c1
          · rw [rG_o (by decide) (by decide) (by decide), o1 33 (by decide)] at o1'
            rw [ra 3 (by decide), rG_o (by decide) (by decide) (by decide), o1 36 (by decide)]
            exact z4 o o0 o1'
      · rw [rG_o (by decide) (by decide) (by decide), o1 31 (by decide)]
  · rcases h1 with ⟨-, hx, rfl⟩ | ⟨a, b, -⟩ | ⟨a, b, -⟩ | ⟨a, b, -⟩
    · rcases h2 with ⟨-, hy, rfl⟩ | ⟨a, b, -⟩ | ⟨a, b, -⟩ | ⟨a, b, -⟩
      · exact ⟨by omega, h, rfl⟩
      · exact absurd ⟨a, b⟩ hn
      · exact absurd ⟨a, b⟩ hn
      · exact absurd ⟨a, b⟩ hn
    · exact absurd ⟨a, b⟩ hn
    · exact absurd ⟨a, b⟩ hn
    · exact absurd ⟨a, b⟩ hn
def cOu (M : zM) (net g : Int) : zM := uz (uz M (nA net + 3) (M (nA net) 5) g) (nA net) 5 (M (nA net) 5 + 1)
def rOu (M : zM) (net g : Int) : zM := uz (uz M 36 (4 * net + M 33 net) g) 33 net (M 33 net + 1)
theorem LI_out {M M1 M2 : zM} {J : zJ} {net g x y : Int} (h : LI M J) (hok : zOK M) (h1 : (((net < 0 ∨ 3 ≤ net) ∧ x = -1 ∧ M1 = M) ∨ (0 ≤ net ∧ net < 3 ∧ (g < 0 ∨ M (nA net) 4 ≤ g) ∧ x = -1 ∧ M1 = M) ∨ (0 ≤ net ∧ net < 3 ∧ 0 ≤ g ∧ g < M (nA net) 4 ∧ ((x = -4 ∧ M1 = M ∧ 4 ≤ M (nA net) 5) ∨ (x = M (nA net) 5 ∧ M (nA net) 5 < 4 ∧ M1 = uz (uz M (nA net + 3) (M (nA net) 5) g) (nA net) 5 (M (nA net) 5 + 1)))))) (h2 : (((net < 0 ∨ 3 ≤ net) ∧ y = -1 ∧ M2 = M1) ∨ (0 ≤ net ∧ net < 3 ∧ (g < 0 ∨ M1 32 net ≤ g) ∧ y = -1 ∧ M2 = M1) ∨ (0 ≤ net ∧ net < 3 ∧ 0 ≤ g ∧ g < M1 32 net ∧ ((y = -4 ∧ M2 = M1 ∧ 4 ≤ M1 33 net) ∨ (y = M1 33 net ∧ M1 33 net < 4 ∧ M2 = uz (uz M1 36 (4 * net + M1 33 net) g) 33 net (M1 33 net + 1)))))) : x = y ∧ LI M2 J ∧ M2 31 27 = M 31 27 := by
  by_cases hn : 0 ≤ net ∧ net < 3
  · obtain ⟨n0, n1⟩ := hn
    obtain ⟨s4, s5, -⟩ := h.2.2 net n0 n1
    have key : (M1 = M ∧ M2 = M1 ∧ x = y) ∨ (x = y ∧ 0 ≤ g ∧ g < M 32 net ∧ M 33 net < 4 ∧ M1 = cOu M net g ∧ M2 = rOu M1 net g) := by
      rcases h1 with ⟨q, -⟩ | ⟨-, -, q, hx, rfl⟩ | ⟨-, -, a1, a2, ⟨hx, rfl, b2⟩ | ⟨hx, b2, e1⟩⟩
      · omega
      · rcases h2 with ⟨z, -⟩ | ⟨-, -, -, hy, e⟩ | ⟨-, -, c1, c2, -⟩
        · omega
        · exact Or.inl ⟨rfl, e, by omega⟩
        · omega
      · rcases h2 with ⟨z, -⟩ | ⟨-, -, z, -⟩ | ⟨-, -, c1, c2, ⟨hy, e, -⟩ | ⟨hy, c3, -⟩⟩
        · omega
        · omega
        · exact Or.inl ⟨rfl, e, by omega⟩
        · omega
      · have o : ∀ a : Nat, 31 ≤ a → M1 a = M a := fun a ha => by rw [e1, uz_o (by unfold nA; omega), uz_o (by unfold nA; omega)]
        rcases h2 with ⟨z, -⟩ | ⟨-, -, z, -⟩ | ⟨-, -, c1, c2, ⟨hy, e, c3⟩ | ⟨hy, c3, e2⟩⟩
        · omega
        · rw [o 32 (by decide)] at z; omega
        · rw [o 33 (by decide)] at c3; omega
        · rw [o 33 (by decide)] at c3 hy
          rw [o 32 (by decide)] at c2
          exact Or.inr ⟨by omega, a1, c2, by omega, e1, e2⟩
    rcases key with ⟨rfl, rfl, e⟩ | ⟨e, g0, g1, hlt, e1, e2⟩
    · exact ⟨e, h, rfl⟩
    · have oc : ∀ a : Nat, a ≠ nA net → a ≠ nA net + 3 → M1 a = M a := fun a h1 h2 => by rw [e1]; unfold cOu; rw [uz_o h1, uz_o h2]
      have o1 : ∀ a : Nat, 31 ≤ a → M1 a = M a := fun a ha => oc a (by unfold nA; omega) (by unfold nA; omega)
      have or : ∀ a : Nat, a ≠ 33 → a ≠ 36 → M2 a = M1 a := fun a h1 h2 => by rw [e2]; unfold rOu; rw [uz_o h1, uz_o h2]
      have c5 : M1 (nA net) 5 = M (nA net) 5 + 1 := by rw [e1]; unfold cOu; rw [uz_s]
      have c4 : M1 (nA net) 4 = M (nA net) 4 := by rw [e1]; unfold cOu; rw [uz_n (by decide), uz_oo (by omega)]
      have c3 : M1 (nA net + 3) = updI (M (nA net + 3)) (M (nA net) 5) g := by rw [e1]; unfold cOu; rw [uz_o (by omega), uz_fn]
      have r33 : M2 33 = updI (M 33) net (M 33 net + 1) := by rw [e2]; unfold rOu; rw [uz_fn, uz_o (by decide), o1 33 (by decide)]
      have r36 : M2 36 = updI (M 36) (4 * net + M 33 net) g := by rw [e2]; unfold rOu; rw [uz_o (by decide), uz_fn, o1 36 (by decide), o1 33 (by decide)]
      have hnk := cI_net h.1 (nA_at n0 n1)
      have c1 : cI M1 := cI_at h.1 n0 n1 (fun a _ hb => oc a (by omega) (by omega)) ⟨fun q q0 q1 => by
        rw [c4] at q1
        rw [oc (nA net + 1) (by omega) (by omega), oc (nA net + 2) (by omega) (by omega)]
        exact hnk.1 q q0 q1, fun o o0 o1' => by
        rw [c5] at o1'
        rw [c3, c4]
        by_cases z : o = M (nA net) 5
        · rw [z, updI_s]; omega
        · rw [updI_n z]; exact hnk.2 o o0 (by omega)⟩
      have r1 : RI M1 J := RI_fr h.2.1 o1
      refine ⟨e, ⟨cI_lo c1 (fun a ha => or a (by omega) (by omega)), ?_, fun n a b => ?_⟩, ?_⟩
      · refine ⟨TI_cg r1.1 (fun a a1 a2 => or a (by omega) (by omega)) (by rw [or 31 (by decide) (by decide)]) (by rw [or 31 (by decide) (by decide)]) (by rw [or 31 (by decide) (by decide)]) rfl rfl, fun q a b => by rw [or 43 (by decide) (by decide)]; exact r1.2.1 q a b, by rw [or 31 (by decide) (by decide)]; exact r1.2.2.1, by unfold rOrd; rw [or 39 (by decide) (by decide)]; exact r1.2.2.2.1, fun n a b => ?_⟩
        obtain ⟨z1, z2⟩ := h.2.1.2.2.2.2 n a b
        refine ⟨?_, fun o o0 o1' => ?_⟩
        · rw [or 32 (by decide) (by decide), or 34 (by decide) (by decide), or 35 (by decide) (by decide), o1 32 (by decide), o1 34 (by decide), o1 35 (by decide)]
          exact z1
        · rw [r33] at o1'
          rw [or 32 (by decide) (by decide), o1 32 (by decide), r36]
          have t33 : 0 ≤ M 33 n ∧ M 33 n ≤ 4 := hok 33 n
          have u33 : 0 ≤ M 33 net ∧ M 33 net ≤ 4 := hok 33 net
          by_cases q : n = net ∧ o = M 33 net
          · obtain ⟨rfl, rfl⟩ := q
            rw [updI_s]; exact g1
          · have ho : o < M 33 n := by
              by_cases t : n = net
              · subst t
                rw [updI_s] at o1'
                have : o ≠ M 33 n := fun t2 => q ⟨rfl, t2⟩
                omega
              · rw [updI_n t] at o1'; exact o1'
            rw [updI_n (fun t => q (by omega))]
            exact z2 o o0 ho
      · obtain ⟨z1, z2, z3, z4⟩ := h.2.2 n a b
        by_cases q : n = net
        · subst q
          refine ⟨?_, ?_, ?_, fun o o0 o1' => ?_⟩
          · rw [or _ (by unfold nA; omega) (by unfold nA; omega), c4, or 32 (by decide) (by decide), o1 32 (by decide)]; exact z1
          · rw [or _ (by unfold nA; omega) (by unfold nA; omega), c5, r33, updI_s]; omega
          · rw [or 32 (by decide) (by decide), or 34 (by decide) (by decide), or 35 (by decide) (by decide), o1 32 (by decide), o1 34 (by decide), o1 35 (by decide), or (nA n + 1) (by unfold nA; omega) (by unfold nA; omega), or (nA n + 2) (by unfold nA; omega) (by unfold nA; omega), oc (nA n + 1) (by omega) (by omega), oc (nA n + 2) (by omega) (by omega)]
            exact z3
          · rw [r33, updI_s] at o1'
            rw [or _ (by unfold nA; omega) (by unfold nA; omega), c3, r36, z2]
            by_cases t : o = M 33 n
            · rw [t, updI_s, updI_s]
            · rw [updI_n t, updI_n (by omega)]; exact z4 o o0 (by omega)
        · have ra : ∀ i : Nat, i ≤ 3 → M2 (nA n + i) = M (nA n + i) := fun i hi => by
            rw [or _ (by unfold nA; omega) (by unfold nA; omega), oc _ (by unfold nA; omega) (by unfold nA; omega)]
          have r0 := ra 0 (by decide)
          rw [Nat.add_zero] at r0
          have t33 : 0 ≤ M 33 n ∧ M 33 n ≤ 4 := hok 33 n
          have u33 : 0 ≤ M 33 net ∧ M 33 net ≤ 4 := hok 33 net
          refine ⟨?_, ?_, ?_, fun o o0 o1' => ?_⟩
          · rw [r0, or 32 (by decide) (by decide), o1 32 (by decide)]; exact z1
          · rw [r0, r33, updI_n q]; exact z2
          · rw [or 32 (by decide) (by decide), or 34 (by decide) (by decide), or 35 (by decide) (by decide), o1 32 (by decide), o1 34 (by decide), o1 35 (by decide), ra 1 (by decide), ra 2 (by decide)]
            exact z3
          · rw [r33, updI_n q] at o1'
            rw [ra 3 (by decide), r36, updI_n (by omega)]
            exact z4 o o0 o1'
      · rw [or 31 (by decide) (by decide), o1 31 (by decide)]
  · rcases h1 with ⟨-, hx, rfl⟩ | ⟨a, b, -⟩ | ⟨a, b, -⟩
    · rcases h2 with ⟨-, hy, rfl⟩ | ⟨a, b, -⟩ | ⟨a, b, -⟩
      · exact ⟨by omega, h, rfl⟩
      · exact absurd ⟨a, b⟩ hn
      · exact absurd ⟨a, b⟩ hn
    · exact absurd ⟨a, b⟩ hn
    · exact absurd ⟨a, b⟩ hn
theorem LI_clr {M M1 M2 : zM} {J : zJ} {net x y : Int} (h : LI M J) (h1 : ((net < 0 ∨ 3 ≤ net) ∧ x = -1 ∧ M1 = M) ∨ (0 ≤ net ∧ net < 3 ∧ x = M (nA net) 4 ∧ M1 = uz (uz M (nA net) 4 0) (nA net) 5 0)) (h2 : ((net < 0 ∨ 3 ≤ net) ∧ y = -1 ∧ M2 = M1) ∨ (0 ≤ net ∧ net < 3 ∧ y = M1 32 net ∧ M2 = uz (uz M1 32 net 0) 33 net 0)) : x = y ∧ LI M2 J ∧ M2 31 27 = M 31 27 := by
  rcases h1 with ⟨q, hx, rfl⟩ | ⟨n0, n1, hx, e1⟩
  · rcases h2 with ⟨-, hy, rfl⟩ | ⟨a, b, -⟩
    · exact ⟨by omega, h, rfl⟩
    · omega
  · rcases h2 with ⟨q, -⟩ | ⟨-, -, hy, e2⟩
    · omega
    · obtain ⟨s4, s5, -⟩ := h.2.2 net n0 n1
      have oc : ∀ a : Nat, a ≠ nA net → M1 a = M a := fun a h1 => by rw [e1, uz_o h1, uz_o h1]
      have o1 : ∀ a : Nat, 31 ≤ a → M1 a = M a := fun a ha => oc a (by unfold nA; omega)
      have or : ∀ a : Nat, a ≠ 32 → a ≠ 33 → M2 a = M1 a := fun a h1 h2 => by rw [e2, uz_o h2, uz_o h1]
      have c5 : M1 (nA net) 5 = 0 := by rw [e1, uz_s]
      have c4 : M1 (nA net) 4 = 0 := by rw [e1, uz_n (by decide), uz_s]
      have r33 : M2 33 = updI (M 33) net 0 := by rw [e2, uz_fn, uz_o (by decide), o1 33 (by decide)]
      have r32 : M2 32 = updI (M 32) net 0 := by rw [e2, uz_o (by decide), uz_fn, o1 32 (by decide)]
      have c1 : cI M1 := cI_at h.1 n0 n1 (fun a _ hb => oc a (by omega)) (netOK_0 c4 c5)
      have r1 : RI M1 J := RI_fr h.2.1 o1
      refine ⟨by rw [hx, hy, o1 32 (by decide)]; exact s4, ⟨cI_lo c1 (fun a ha => or a (by omega) (by omega)), ?_, fun n a b => ?_⟩, ?_⟩
      · refine ⟨TI_cg r1.1 (fun a a1 a2 => or a (by omega) (by omega)) (by rw [or 31 (by decide) (by decide)]) (by rw [or 31 (by decide) (by decide)]) (by rw [or 31 (by decide) (by decide)]) rfl rfl, fun q a b => by rw [or 43 (by decide) (by decide)]; exact r1.2.1 q a b, by rw [or 31 (by decide) (by decide)]; exact r1.2.2.1, by unfold rOrd; rw [or 39 (by decide) (by decide)]; exact r1.2.2.2.1, fun n a b => ?_⟩
        obtain ⟨z1, z2⟩ := h.2.1.2.2.2.2 n a b
        refine ⟨?_, fun o o0 o1' => ?_⟩
        · rw [r32, or 34 (by decide) (by decide), or 35 (by decide) (by decide), o1 34 (by decide), o1 35 (by decide)]
          by_cases q : n = net
          · rw [q, updI_s]
            exact fun g g0 g1 => by omega
          · rw [updI_n q]; exact z1
        · rw [r33] at o1'
          rw [r32, or 36 (by decide) (by decide), o1 36 (by decide)]
          by_cases q : n = net
          · rw [q, updI_s] at o1'; omega
          · rw [updI_n q] at o1' ⊢; exact z2 o o0 o1'
      · obtain ⟨z1, z2, z3, z4⟩ := h.2.2 n a b
        by_cases q : n = net
        · subst q
          refine ⟨?_, ?_, fun g g0 g1 => ?_, fun o o0 o1' => ?_⟩
          · rw [or _ (by unfold nA; omega) (by unfold nA; omega), c4, r32, updI_s]
          · rw [or _ (by unfold nA; omega) (by unfold nA; omega), c5, r33, updI_s]
          · rw [r32, updI_s] at g1; omega
          · rw [r33, updI_s] at o1'; omega
        · have ra : ∀ i : Nat, i ≤ 3 → M2 (nA n + i) = M (nA n + i) := fun i hi => by
            rw [or _ (by unfold nA; omega) (by unfold nA; omega), oc _ (by unfold nA; omega)]
          have r0 := ra 0 (by decide)
          rw [Nat.add_zero] at r0
          refine ⟨?_, ?_, ?_, ?_⟩
          · rw [r0, r32, updI_n q]; exact z1
          · rw [r0, r33, updI_n q]; exact z2
          · rw [r32, updI_n q, or 34 (by decide) (by decide), or 35 (by decide) (by decide), o1 34 (by decide), o1 35 (by decide), ra 1 (by decide), ra 2 (by decide)]
            exact z3
          · rw [r33, updI_n q, ra 3 (by decide), or 36 (by decide) (by decide), o1 36 (by decide)]
            exact z4
      · rw [or 31 (by decide) (by decide), o1 31 (by decide)]
/-- behind the reference's room, order, move, gives, paths -/
theorem RI_room {M : zM} {J : zJ} {n : Int} (hr : RI M J) (h : M 31 24 ≤ n) : RI (uz M 31 8 n) J :=
  ⟨TI_31 hr.1 (by decide) (by decide) (by decide), fun g a b => by rw [uz_oo (by decide)]; exact hr.2.1 g a b, by rw [uz_n (by decide), uz_s]; exact h, by unfold rOrd; rw [uz_o (by decide)]; exact hr.2.2.2.1, fun net a b => rNt_fr (hr.2.2.2.2 net a b) (uz_o (by decide)) (uz_o (by decide)) (uz_o (by decide)) (uz_o (by decide)) (uz_o (by decide))⟩
theorem RI_ord {M M' : zM} {J J' : zJ} (hr : RI M J) (h31 : f31 M M') (ho : rOrd M') (o : ∀ a : Nat, ((31 < a ∧ a < 37) ∨ (43 ≤ a ∧ a ≤ 52)) → M' a = M a) (j44 : J' 44 = J 44) (j48 : J' 48 = J 48) : RI M' J' :=
  ⟨TI_cg hr.1 (fun a a1 a2 => o a (by omega)) (h31 23 (by decide) (by decide)) (h31 24 (by decide) (by decide)) (h31 27 (by decide) (by decide)) j44 j48, fun g a b => by rw [o 43 (by omega)]; exact hr.2.1 g a b, by rw [h31 24 (by decide) (by decide), h31 8 (by decide) (by decide)]; exact hr.2.2.1, ho, fun net a b => rNt_fr (hr.2.2.2.2 net a b) (o 32 (by omega)) (o 33 (by omega)) (o 34 (by omega)) (o 35 (by omega)) (o 36 (by omega))⟩
theorem rOrd_fr {M M' : zM} (h : rOrd M) (e : M' 39 = M 39) : rOrd M' := by unfold rOrd; rw [e]; exact h
