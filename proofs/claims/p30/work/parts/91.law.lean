/-! ===== the law ===== -/
def R_law : String := "DiagramBenchLaw"
def lw_P (b : Addr) (xs : List Int32) (args : Array Value) (s : State) : Prop := args = #[.ref b] ∧ s.IntsAt b xs ∧ xs.length ≤ 3072 ∧ (Jvm.Cond.and given_1 narrow_1).before args s = true
def lw_Q (_ : Array Value) (s : State) (o : Outcome) (t : State) : Prop := o = .returned (some (.int 1)) ∧ Framed s o t [] 600000 7302249
def lw_Z (below : List Frame) (a : Array Value) (s : State) : State → Prop := fun t => ∃ o, t.status = .running ∧ Ended t below o ∧ lw_Q a s o t
/-- the law's own end, with 1 on the stack, nothing written that was there before, its room as the claim has it -/
theorem lw_ret {p : Program} {l : Launch} {e : Env} {s : State} {m : MethodId} {below : List Frame} {meth : Method} {c : Code} {b : Nat} (hx : p.tables.exec = Jvm.exec) (hb : c.code = code) (hr : meth.sig.returnType = ret) (hlocks : meth.locks = false) {pc : Nat} {H : Heap} {ls : Array Slot} (hdg : decode code pc = .ok (.ireturn, 1)) : W p l e room_1 s m #[Value.ref b] below meth c H [] 600000 7302249 (lw_Z below #[Value.ref b] s) (F0 m pc ls [.int 1]) := by
  intro T hT X
  obtain ⟨fs, hret, hrun, hended, hW, hframe⟩ := X.leave (v := some (.int 1)) (hlocks := hlocks) (fun h => by rw [hr] at h; cases h)
  have hmeth' : T.vm.method? m = some meth := X.method'
  refine ⟨T.setFrames fs, ?_, .returned (some (.int 1)), hrun, hended, rfl, ⟨_, rfl⟩, hW, hframe⟩
  jvm_step X.here [X.here.top, hx, hb, hdg, hmeth', hr, ret, narrow_b1]
  (try refine ⟨rfl, ?_⟩); (try refine ⟨rfl, ?_⟩)
  first | (intro acts; rw [hret _ acts rfl rfl rfl]) | rw [hret _ _ rfl rfl rfl]
  exact Steps.refl _
/-- what holds at the law's entry: the machine, the code, the tables' words (any of lw_tbl by 'hts w (by decide +kernel)'), the script of L ints xs at the cell b, what the Statement gives of the start (any of its parts by flat_of_before) -/
def lw_At (p : Program) (s : State) (m : MethodId) (meth : Method) (c : Code) (b L : Nat) (xs : Nat → Int32) : Prop :=
  p.tables.exec = Jvm.exec ∧ c.code = code ∧ meth.sig.returnType = ret ∧ c.maxLocals = 4 ∧ s.vm.findClass R_law = some m.cls ∧ (∀ w ∈ lw_tbl, w.before #[Value.ref b] s = true) ∧ va_X b L xs s s.heap ∧ b < s.heap.size ∧ meth.locks = false ∧ (Jvm.Cond.and given_1 narrow_1).before #[Value.ref b] s = true
abbrev mL_law (nm : String) : tl_M := (RL, cL_law, 4, some .boolean, nm)
def Zlaw (G : tl_G) (b : Nat) : tl_Z := fun below args s t => args = #[Value.ref b] → gB G = s.heap.size → lw_Z below args s t
theorem T_law_ret {G : tl_G} {σ : tl_S} {L : List (Option Value)} {cells slots pc b : Nat} {nm : String} (hd : decode cL_law pc = .ok (.ireturn, 1)) (h1 : cells ≤ 600000) (h2 : slots ≤ 7302249) : TW G (mL_law nm) room_1 cells slots pc L [.int 1] σ (Zlaw G b) := by
  intro p e s m args below meth c H locs ls hC hH hlo hl
  by_cases h : args = #[Value.ref b] ∧ gB G = s.heap.size
  · obtain ⟨rfl, hg⟩ := h
    have k : W p (gL G) e room_1 s m #[Value.ref b] below meth c H locs cells slots (lw_Z below #[Value.ref b] s) (F0 m pc ls [.int 1]) := va_forget (fun q hq => by rw [← hg]; exact hlo q hq) (W.widen h1 h2 (lw_ret hC.1 hC.2.1 hC.2.2.2.1 hC.2.2.2.2.1 hd))
    intro T hT X
    obtain ⟨t, a1, b1⟩ := k T hT X
    exact ⟨t, a1, fun _ _ => b1⟩
  · intro T hT X
    exact ⟨_, Steps.refl _, fun q1 q2 => absurd ⟨q1, q2⟩ h⟩
theorem Z_law_ret {G : tl_G} {K : Nat → Prop} {M0 : zM} {J0 : zJ} {L : List (Option zV)} {cells slots pc b : Nat} {nm : String} {F : zF} {M : zM} {J : zJ} (hd : decode cL_law pc = .ok (.ireturn, 1)) (h1 : cells ≤ 600000) (h2 : slots ≤ 7302249) : TZ G (mL_law nm) room_1 cells slots K M0 J0 pc L [vI 1] F M J (Zlaw G b) := fun _ _ _ _ _ => T_law_ret hd h1 h2
theorem getD_def {α : Type} {l : List α} {n : Nat} {d : α} (h : l.length ≤ n) : l.getD n d = d := by
  rw [List.getD_eq_getElem?_getD, List.getElem?_eq_none h]
  rfl
def okF (F : zF) : Prop := (∀ a : Nat, 58 ≤ a → F.1 a = (0, 0)) ∧ ∀ a k : Nat, (58 ≤ a ∨ 35 ≤ k) → F.2.1 a k = none
theorem okF_nw {F : zF} {t k : Nat} (h1 : F.2.2 < 58) (h : okF F) : okF (nwF F t k) := ⟨fun a ha => by show up1 F.1 F.2.2 (t, k) a = _; rw [up1_o (by omega)]; exact h.1 a ha, h.2⟩
theorem okF_pF {F : zF} {a k r : Nat} (h1 : a < 58) (h2 : k < 35) (h : okF F) : okF (pF F a k r) := ⟨h.1, fun a' k' hh => by
  show up2 F.2.1 a k (some r) a' k' = none
  unfold up2
  split
  · split
    · omega
    · exact h.2 a' k' hh
  · exact h.2 a' k' hh⟩
theorem okF_00 : okF F00 := ⟨fun _ _ => rfl, fun _ _ _ => rfl⟩
theorem okF_b9 : okF Fb9 := by
  unfold Fb9 F_net Fn2 F_net Fn1 F_net Fn0 Fb6 F_pool Fb5 F_ord Fb3 Fb0
  repeat (first | exact okF_00 | refine okF_pF (by decide) (by decide) ?_ | refine okF_nw (by decide) ?_)
theorem okF_m : okF (F_model Fm0) := by
  unfold F_model Fm0
  repeat (first | exact okF_b9 | refine okF_pF (by decide) (by decide) ?_ | refine okF_nw (by decide) ?_)
theorem okF_1 : okF F1 := by
  refine ⟨fun a ha => getD_def ha, fun a k hh => ?_⟩
  show (F1P.getD a []).getD k none = none
  by_cases h : 32 ≤ a
  · rw [show F1P.getD a [] = [] from getD_def h]; rfl
  · have q : ∀ a : Fin 32, (F1P.getD a []).length ≤ 35 := by decide +kernel
    exact getD_def (Nat.le_trans (q ⟨a, by omega⟩) (by omega))
set_option maxRecDepth 100000 in
theorem F1_eq : F_model Fm0 = F1 := by
  have h1 : (F_model Fm0).1 = F1.1 := by
    funext a
    by_cases h : a < 58
    · have q : ∀ a : Fin 58, (F_model Fm0).1 a = F1.1 a := by decide +kernel
      exact q ⟨a, h⟩
    · rw [okF_m.1 a (by omega), okF_1.1 a (by omega)]
  have h2 : (F_model Fm0).2.1 = F1.2.1 := by
    funext a k
    by_cases h : a < 58 ∧ k < 35
    · have q : ∀ (a : Fin 58) (k : Fin 35), (F_model Fm0).2.1 a k = F1.2.1 a k := by decide +kernel
      exact q ⟨a, h.1⟩ ⟨k, h.2⟩
    · rw [okF_m.2 a k (by omega), okF_1.2 a k (by omega)]
  have h3 : (F_model Fm0).2.2 = F1.2.2 := by decide +kernel
  exact Prod.ext h1 (Prod.ext h2 h3)
theorem cF_fr {M M' : zM} (h : cF M) (fr : ∀ a : Nat, a < 31 → M' a = M a) : cF M' := by
  have e : ∀ j : Int, 0 ≤ j → j < 3 → M' (nA j) = M (nA j) := fun j a b => fr _ (by unfold nA; omega)
  obtain ⟨⟨h1, h2, h3, h4, h5⟩, ⟨h6, h7, h8⟩, h9, h10, h11, h12, h13, h14, h15⟩ := h
  refine ⟨⟨pI_fr h1 (fr 5 (by decide)) (fr 6 (by decide)) (fr 10 (by decide)) (fr 11 (by decide)), ordOK_fr h2 (fr 4 (by decide)), netOK_fr h3 (fr _ (by decide)) (fr _ (by decide)) (fr _ (by decide)) (fr _ (by decide)), netOK_fr h4 (fr _ (by decide)) (fr _ (by decide)) (fr _ (by decide)) (fr _ (by decide)), netOK_fr h5 (fr _ (by decide)) (fr _ (by decide)) (fr _ (by decide)) (fr _ (by decide))⟩, ⟨fun h a b => ?_, fun h a b => ?_, ?_⟩, ?_, fun j a b => ?_, fun j a b => ?_, fun v a b => ?_, ?_, ?_, ?_⟩
  · rw [fr 12 (by decide)]; exact h6 h a b
  · rw [fr 13 (by decide)]; exact h7 h a b
  · rw [fr 0 (by decide)]; exact h8
  · rw [fr 5 (by decide)]; exact h9
  · rw [e j a b]; exact h10 j a b
  · rw [e j a b]; exact h11 j a b
  · rw [fr 3 (by decide), fr 4 (by decide)]; exact h12 v a b
  · rw [fr 0 (by decide)]; exact h13
  · rw [fr 0 (by decide)]; exact h14
  · rw [fr 0 (by decide)]; exact h15
set_option maxRecDepth 20000 in
set_option maxHeartbeats 4000000 in
theorem zLaw {G : tl_G} {M : zM} {J : zJ} {b : Nat} {nm : String} (hL : (gR G 0).2.1 ≤ 3072) (hM0 : ∀ a : Nat, 0 ≤ a → ∀ k, M a k = 0) (hJ0 : ∀ a : Nat, 0 ≤ a → ∀ k, J a k = 0) : TZ G (mL_law nm) room_1 0 0 kF M J 0 [some (vS 0), none, none, none] [] F00 M J (Zlaw G b) := by
  refine Z_new (z := 0) (n := 3) dL_law_0 rfl cnL_7 rfl (fun k => hM0 _ (by decide) k) (fun k => hJ0 _ (by decide) k) (fun _ => rfl) (by decide) (by decide) ?_
  refine Z_dup (n := 4) dL_law_3 rfl rfl ?_
  refine Z_callI (n := 7) dL_law_4 rfl cwL_9 (Nat.le_of_ble_eq_true rfl) (by refine ⟨?_, ?_, ?_, ?_⟩ <;> exact Nat.le_of_ble_eq_true rfl) (fun a h => h.elim) (zX3_init_f (by exact fun a h k => hM0 a h k) (by exact fun a h k => hJ0 a h k)) ?_
  intro M4 J4 f4 q4
  obtain ⟨e4, c4, p4⟩ := q4
  replace e4 := e4.symm; subst e4
  have z4 : ∀ a : Nat, 31 ≤ a → ∀ k, M4 a k = 0 := fun a h k => (congrFun (f4 a (by unfold kBench; omega)).1 k).trans (hM0 a (by omega) k)
  refine Z_astore_n (L' := [_, _, _, _]) (n := 8) dL_law_7 rfl (Nat.le_of_ble_eq_true rfl) rfl rfl ?_
  refine Z_new (z := 31) (n := 11) dL_law_8 rfl cnL_10 rfl (fun k => z4 _ (by decide) k) (fun k => hJ0 _ (by decide) k) (fun _ => rfl) (by decide) (by decide) ?_
  refine Z_dup (n := 12) dL_law_11 rfl rfl ?_
  refine Z_callI (n := 15) dL_law_12 rfl cwL_12 (Nat.le_of_ble_eq_true rfl) (by refine ⟨?_, ?_, ?_, ?_⟩ <;> exact Nat.le_of_ble_eq_true rfl) (fun a h => h.elim) (zX4_init_s (by exact z4) (by exact fun a h k => hJ0 a (by omega) k)) ?_
  intro M12 J12 f12 q12
  have cF12 : cF M12 := cF_fr c4 (fun a ha => (f12 a (by unfold kModel; omega)).1)
  have p12 : plo M12 (fun _ => False) := plo_cg (f12 5 (by decide)).1 (f12 6 (by decide)).1 (f12 7 (by decide)).1 (f12 8 (by decide)).1 (f12 10 (by decide)).1 (f12 11 (by decide)).1 p4
  have L12 : LSy M12 J12 := LS_0 cF12 p12 q12
  have m12 : 3 * M12 31 27 ≤ 200 * 0 := by rw [q12.2.1 27 (by decide) (by decide) (by decide)]; decide
  rw [F1_eq]
  refine Z_astore_n (L' := [_, _, _, _]) (n := 16) dL_law_15 rfl (Nat.le_of_ble_eq_true rfl) rfl rfl ?_
  refine Z_iconst (n := 17) dL_law_16 rfl (by decide) ?_
  refine Z_istore_n (L' := [_, _, _, _]) (n := 18) dL_law_17 rfl (Nat.le_of_ble_eq_true rfl) rfl rfl ?_
  have lp18 : ∀ (N18 : Nat) (i : Int) (M18 : zM) (J18 : zJ), ((3078 - i).toNat) < N18 → (0 ≤ i) → (i ≤ 3078) → (LSy M18 J18) → (3 * M18 31 27 ≤ 200 * i) → TZ G (mL_law nm) room_1 58 22635 kF M J 18 [some (vS 0), some (vR 0), some (vR 31), some (vI i)] [] F1 M18 J18 (Zlaw G b) := by
    intro N18
    induction N18 with
    | zero => intro i M18 J18 hN; omega
    | succ N18 ih18 =>
      intro i M18 J18 hN18 i18_0 i18_1 i18_2 i18_3
      refine Z_iload_n (n := 19) dL_law_18 rfl rfl ?_
      refine Z_aload_nS (n := 20) dL_law_19 rfl rfl ?_
      refine Z_alenS0 (n := 21) dL_law_20 rfl ?_
      refine Z_bipush (n := 23) dL_law_21 rfl (by decide) (by decide) ?_
      refine Z_isub (n := 24) dL_law_23 rfl (by omega) ?_
      refine Z_icmp_gt (n := 27) (t := 1302) dL_law_24 rfl (by decide) (fun c24 => ?_) (fun c24 => ?_)
      · refine Z_iconst (n := 1303) dL_law_1302 rfl (by decide) ?_
        exact Z_law_ret dL_law_1303 (by decide) (by decide)
      · refine Z_ok (fun ok18 => ?_)
        have LX := i18_2
        have mX : 3 * M18 31 27 ≤ 200 * (i + 6) := by omega
        refine Z_aload_nS (n := 28) dL_law_27 rfl rfl ?_
        refine Z_iload_n (n := 29) dL_law_28 rfl rfl ?_
        refine Z_ialdS0 (n := 30) dL_law_29 rfl (by omega) (by omega) (fun r29 => ?_)
        refine Z_bipush (n := 32) dL_law_30 rfl (by decide) (by decide) ?_
        refine Z_iand (n := 33) dL_law_32 rfl ?_
        refine Z_tsw (td := 1296) dL_law_33 rfl (by decide) (by decide) ?_ (fun c33 => ?_)
        · refine zcases_cons (fun c33 t ht => ?_) ?_
          · obtain rfl : t = 176 := by omega
            refine Z_aload_n (n := 177) dL_law_176 rfl rfl ?_
            refine Z_aload_nS (n := 178) dL_law_177 rfl rfl ?_
            refine Z_iload_n (n := 179) dL_law_178 rfl rfl ?_
            refine Z_iconst (n := 180) dL_law_179 rfl (by decide) ?_
            refine Z_iadd (n := 181) dL_law_180 rfl (by omega) ?_
            refine Z_ialdS0 (n := 182) dL_law_181 rfl (by omega) (by omega) (fun r181 => ?_)
            refine Z_aload_nS (n := 183) dL_law_182 rfl rfl ?_
            refine Z_iload_n (n := 184) dL_law_183 rfl rfl ?_
            refine Z_iconst (n := 185) dL_law_184 rfl (by decide) ?_
            refine Z_iadd (n := 186) dL_law_185 rfl (by omega) ?_
            refine Z_ialdS0 (n := 187) dL_law_186 rfl (by omega) (by omega) (fun r186 => ?_)
            refine Z_aload_nS (n := 188) dL_law_187 rfl rfl ?_
            refine Z_iload_n (n := 189) dL_law_188 rfl rfl ?_
            refine Z_iconst (n := 190) dL_law_189 rfl (by decide) ?_
            refine Z_iadd (n := 191) dL_law_190 rfl (by omega) ?_
            refine Z_ialdS0 (n := 192) dL_law_191 rfl (by omega) (by omega) (fun r191 => ?_)
            refine Z_aload_nS (n := 193) dL_law_192 rfl rfl ?_
            refine Z_iload_n (n := 194) dL_law_193 rfl rfl ?_
            refine Z_iconst (n := 195) dL_law_194 rfl (by decide) ?_
            refine Z_iadd (n := 196) dL_law_195 rfl (by omega) ?_
            refine Z_ialdS0 (n := 197) dL_law_196 rfl (by omega) (by omega) (fun r196 => ?_)
            refine Z_aload_nS (n := 198) dL_law_197 rfl rfl ?_
            refine Z_iload_n (n := 199) dL_law_198 rfl rfl ?_
            refine Z_iconst (n := 200) dL_law_199 rfl (by decide) ?_
            refine Z_iadd (n := 201) dL_law_200 rfl (by omega) ?_
            refine Z_ialdS0 (n := 202) dL_law_201 rfl (by omega) (by omega) (fun r201 => ?_)
            refine Z_callVi (n := 205) [_, _, _, _, _] _ dL_law_202 rfl cwL_13 rfl rfl rfl (Nat.le_of_ble_eq_true rfl) (by refine ⟨?_, ?_, ?_, ?_⟩ <;> exact Nat.le_of_ble_eq_true rfl) (fun _ h => h) (zX3_gate  ) ?_
            intro x202 M202 J202 z202 f202 q202
            obtain ⟨e202_1, h202⟩ := q202
            replace e202_1 := e202_1.symm; subst e202_1
            
            refine Z_pop (n := 206) dL_law_205 rfl rfl ?_
            refine Z_aload_n (n := 207) dL_law_206 rfl rfl ?_
            refine Z_aload_nS (n := 208) dL_law_207 rfl rfl ?_
            refine Z_iload_n (n := 209) dL_law_208 rfl rfl ?_
            refine Z_iconst (n := 210) dL_law_209 rfl (by decide) ?_
            refine Z_iadd (n := 211) dL_law_210 rfl (by omega) ?_
            refine Z_ialdS0 (n := 212) dL_law_211 rfl (by omega) (by omega) (fun r211 => ?_)
            refine Z_aload_nS (n := 213) dL_law_212 rfl rfl ?_
            refine Z_iload_n (n := 214) dL_law_213 rfl rfl ?_
            refine Z_iconst (n := 215) dL_law_214 rfl (by decide) ?_
            refine Z_iadd (n := 216) dL_law_215 rfl (by omega) ?_
            refine Z_ialdS0 (n := 217) dL_law_216 rfl (by omega) (by omega) (fun r216 => ?_)
            refine Z_aload_nS (n := 218) dL_law_217 rfl rfl ?_
            refine Z_iload_n (n := 219) dL_law_218 rfl rfl ?_
            refine Z_iconst (n := 220) dL_law_219 rfl (by decide) ?_
            refine Z_iadd (n := 221) dL_law_220 rfl (by omega) ?_
            refine Z_ialdS0 (n := 222) dL_law_221 rfl (by omega) (by omega) (fun r221 => ?_)
            refine Z_aload_nS (n := 223) dL_law_222 rfl rfl ?_
            refine Z_iload_n (n := 224) dL_law_223 rfl rfl ?_
            refine Z_iconst (n := 225) dL_law_224 rfl (by decide) ?_
            refine Z_iadd (n := 226) dL_law_225 rfl (by omega) ?_
            refine Z_ialdS0 (n := 227) dL_law_226 rfl (by omega) (by omega) (fun r226 => ?_)
            refine Z_aload_nS (n := 228) dL_law_227 rfl rfl ?_
            refine Z_iload_n (n := 229) dL_law_228 rfl rfl ?_
            refine Z_iconst (n := 230) dL_law_229 rfl (by decide) ?_
            refine Z_iadd (n := 231) dL_law_230 rfl (by omega) ?_
            refine Z_ialdS0 (n := 232) dL_law_231 rfl (by omega) (by omega) (fun r231 => ?_)
            refine Z_callVi (n := 235) [_, _, _, _, _] _ dL_law_232 rfl cwL_17 rfl rfl rfl (Nat.le_of_ble_eq_true rfl) (by refine ⟨?_, ?_, ?_, ?_⟩ <;> exact Nat.le_of_ble_eq_true rfl) (fun _ h => h) (zX4_gate  ) ?_
            intro x232 M232 J232 z232 f232 q232
            obtain ⟨e232_1, h232⟩ := q232
            replace e232_1 := e232_1.symm; subst e232_1
            obtain ⟨xeq, Lz, m27⟩ := LI_gate i18_2.1 ok18 h202 h232
            have fz := fr_gate i18_2.1 ok18 h202 h232
            have LX : LSy M232 J18 := LS_mk i18_2 Lz rfl (oSy_fr i18_2.2.2.2.1 (fz 3 (by decide)) (fz 4 (by decide)) (fz 38 (by decide)) (fz 39 (by decide))) (sim_lo i18_2 (fun a h1 _ _ _ _ => fz a (Or.inl h1)) (fz 43 (by decide)) (congrFun (fz 31 (by decide)) 8) rfl)
            have mX : 3 * M232 31 27 ≤ 200 * (i + 6) := by omega
            refine Z_pop (n := 236) dL_law_235 rfl rfl ?_
            refine Z_goto (t := 1296) dL_law_236 (by decide) ?_
            refine Z_iinc (L' := [_, _, _, _]) (n := 1299) dL_law_1296 rfl rfl (Nat.le_of_ble_eq_true rfl) rfl rfl (by omega) rfl ?_
            refine Z_goto (t := 18) dL_law_1299 (by decide) ?_
            refine Z_loc (L' := [some _, some _, some _, some _]) (lsub_same (lsub_same (lsub_same (lsub_same lsub_nil)))) ?_
            exact ih18 _ _ _ (by omega) (by first | assumption | omega | decide) (by first | assumption | omega | decide) (by exact LX) (by exact mX)
          refine zcases_cons (fun c33 t ht => ?_) ?_
          · obtain rfl : t = 239 := by omega
            refine Z_aload_n (n := 240) dL_law_239 rfl rfl ?_
            refine Z_aload_nS (n := 241) dL_law_240 rfl rfl ?_
            refine Z_iload_n (n := 242) dL_law_241 rfl rfl ?_
            refine Z_iconst (n := 243) dL_law_242 rfl (by decide) ?_
            refine Z_iadd (n := 244) dL_law_243 rfl (by omega) ?_
            refine Z_ialdS0 (n := 245) dL_law_244 rfl (by omega) (by omega) (fun r244 => ?_)
            refine Z_aload_nS (n := 246) dL_law_245 rfl rfl ?_
            refine Z_iload_n (n := 247) dL_law_246 rfl rfl ?_
            refine Z_iconst (n := 248) dL_law_247 rfl (by decide) ?_
            refine Z_iadd (n := 249) dL_law_248 rfl (by omega) ?_
            refine Z_ialdS0 (n := 250) dL_law_249 rfl (by omega) (by omega) (fun r249 => ?_)
            refine Z_callVi (n := 253) [_, _] _ dL_law_250 rfl cwL_18 rfl rfl rfl (Nat.le_of_ble_eq_true rfl) (by refine ⟨?_, ?_, ?_, ?_⟩ <;> exact Nat.le_of_ble_eq_true rfl) (fun _ h => h) (zX3_output  ) ?_
            intro x250 M250 J250 z250 f250 q250
            obtain ⟨e250_1, h250⟩ := q250
            replace e250_1 := e250_1.symm; subst e250_1
            
            refine Z_pop (n := 254) dL_law_253 rfl rfl ?_
            refine Z_aload_n (n := 255) dL_law_254 rfl rfl ?_
            refine Z_aload_nS (n := 256) dL_law_255 rfl rfl ?_
            refine Z_iload_n (n := 257) dL_law_256 rfl rfl ?_
            refine Z_iconst (n := 258) dL_law_257 rfl (by decide) ?_
            refine Z_iadd (n := 259) dL_law_258 rfl (by omega) ?_
            refine Z_ialdS0 (n := 260) dL_law_259 rfl (by omega) (by omega) (fun r259 => ?_)
            refine Z_aload_nS (n := 261) dL_law_260 rfl rfl ?_
            refine Z_iload_n (n := 262) dL_law_261 rfl rfl ?_
            refine Z_iconst (n := 263) dL_law_262 rfl (by decide) ?_
            refine Z_iadd (n := 264) dL_law_263 rfl (by omega) ?_
            refine Z_ialdS0 (n := 265) dL_law_264 rfl (by omega) (by omega) (fun r264 => ?_)
            refine Z_callVi (n := 268) [_, _] _ dL_law_265 rfl cwL_22 rfl rfl rfl (Nat.le_of_ble_eq_true rfl) (by refine ⟨?_, ?_, ?_, ?_⟩ <;> exact Nat.le_of_ble_eq_true rfl) (fun _ h => h) (zX4_output  ) ?_
            intro x265 M265 J265 z265 f265 q265
            obtain ⟨e265_1, h265⟩ := q265
            replace e265_1 := e265_1.symm; subst e265_1
            obtain ⟨xeq, Lz, m27⟩ := LI_out i18_2.1 ok18 h250 h265
            have fz := fr_out i18_2.1 ok18 h250 h265
            have LX : LSy M265 J18 := LS_mk i18_2 Lz rfl (oSy_fr i18_2.2.2.2.1 (fz 3 (by decide)) (fz 4 (by decide)) (fz 38 (by decide)) (fz 39 (by decide))) (sim_lo i18_2 (fun a h1 _ _ _ _ => fz a (Or.inl h1)) (fz 43 (by decide)) (congrFun (fz 31 (by decide)) 8) rfl)
            have mX : 3 * M265 31 27 ≤ 200 * (i + 6) := by omega
            refine Z_pop (n := 269) dL_law_268 rfl rfl ?_
            refine Z_goto (t := 1296) dL_law_269 (by decide) ?_
            refine Z_iinc (L' := [_, _, _, _]) (n := 1299) dL_law_1296 rfl rfl (Nat.le_of_ble_eq_true rfl) rfl rfl (by omega) rfl ?_
            refine Z_goto (t := 18) dL_law_1299 (by decide) ?_
            refine Z_loc (L' := [some _, some _, some _, some _]) (lsub_same (lsub_same (lsub_same (lsub_same lsub_nil)))) ?_
            exact ih18 _ _ _ (by omega) (by first | assumption | omega | decide) (by first | assumption | omega | decide) (by exact LX) (by exact mX)
          refine zcases_cons (fun c33 t ht => ?_) ?_
          · obtain rfl : t = 272 := by omega
            refine Z_aload_n (n := 273) dL_law_272 rfl rfl ?_
            refine Z_aload_nS (n := 274) dL_law_273 rfl rfl ?_
            refine Z_iload_n (n := 275) dL_law_274 rfl rfl ?_
            refine Z_iconst (n := 276) dL_law_275 rfl (by decide) ?_
            refine Z_iadd (n := 277) dL_law_276 rfl (by omega) ?_
            refine Z_ialdS0 (n := 278) dL_law_277 rfl (by omega) (by omega) (fun r277 => ?_)
            refine Z_callVi (n := 281) [_] _ dL_law_278 rfl cwL_23 rfl rfl rfl (Nat.le_of_ble_eq_true rfl) (by refine ⟨?_, ?_, ?_, ?_⟩ <;> exact Nat.le_of_ble_eq_true rfl) (fun _ h => h) (zX3_clear  ) ?_
            intro x278 M278 J278 z278 f278 q278
            obtain ⟨e278_1, h278⟩ := q278
            replace e278_1 := e278_1.symm; subst e278_1
            
            refine Z_pop (n := 282) dL_law_281 rfl rfl ?_
            refine Z_aload_n (n := 283) dL_law_282 rfl rfl ?_
            refine Z_aload_nS (n := 284) dL_law_283 rfl rfl ?_
            refine Z_iload_n (n := 285) dL_law_284 rfl rfl ?_
            refine Z_iconst (n := 286) dL_law_285 rfl (by decide) ?_
            refine Z_iadd (n := 287) dL_law_286 rfl (by omega) ?_
            refine Z_ialdS0 (n := 288) dL_law_287 rfl (by omega) (by omega) (fun r287 => ?_)
            refine Z_callVi (n := 291) [_] _ dL_law_288 rfl cwL_27 rfl rfl rfl (Nat.le_of_ble_eq_true rfl) (by refine ⟨?_, ?_, ?_, ?_⟩ <;> exact Nat.le_of_ble_eq_true rfl) (fun _ h => h) (zX4_clear  ) ?_
            intro x288 M288 J288 z288 f288 q288
            obtain ⟨e288_1, h288⟩ := q288
            replace e288_1 := e288_1.symm; subst e288_1
            obtain ⟨xeq, Lz, m27⟩ := LI_clr i18_2.1 h278 h288
            have fz := fr_clr i18_2.1 h278 h288
            have LX : LSy M288 J18 := LS_mk i18_2 Lz rfl (oSy_fr i18_2.2.2.2.1 (fz 3 (by decide)) (fz 4 (by decide)) (fz 38 (by decide)) (fz 39 (by decide))) (sim_lo i18_2 (fun a h1 _ _ _ _ => fz a (Or.inl h1)) (fz 43 (by decide)) (congrFun (fz 31 (by decide)) 8) rfl)
            have mX : 3 * M288 31 27 ≤ 200 * (i + 6) := by omega
            refine Z_pop (n := 292) dL_law_291 rfl rfl ?_
            refine Z_goto (t := 1296) dL_law_292 (by decide) ?_
            refine Z_iinc (L' := [_, _, _, _]) (n := 1299) dL_law_1296 rfl rfl (Nat.le_of_ble_eq_true rfl) rfl rfl (by omega) rfl ?_
            refine Z_goto (t := 18) dL_law_1299 (by decide) ?_
            refine Z_loc (L' := [some _, some _, some _, some _]) (lsub_same (lsub_same (lsub_same (lsub_same lsub_nil)))) ?_
            exact ih18 _ _ _ (by omega) (by first | assumption | omega | decide) (by first | assumption | omega | decide) (by exact LX) (by exact mX)
          refine zcases_cons (fun c33 t ht => ?_) ?_
          · obtain rfl : t = 295 := by omega
            refine Z_aload_n (n := 296) dL_law_295 rfl rfl ?_
            refine Z_aload_nS (n := 297) dL_law_296 rfl rfl ?_
            refine Z_iload_n (n := 298) dL_law_297 rfl rfl ?_
            refine Z_iconst (n := 299) dL_law_298 rfl (by decide) ?_
            refine Z_iadd (n := 300) dL_law_299 rfl (by omega) ?_
            refine Z_ialdS0 (n := 301) dL_law_300 rfl (by omega) (by omega) (fun r300 => ?_)
            refine Z_aload_nS (n := 302) dL_law_301 rfl rfl ?_
            refine Z_iload_n (n := 303) dL_law_302 rfl rfl ?_
            refine Z_iconst (n := 304) dL_law_303 rfl (by decide) ?_
            refine Z_iadd (n := 305) dL_law_304 rfl (by omega) ?_
            refine Z_ialdS0 (n := 306) dL_law_305 rfl (by omega) (by omega) (fun r305 => ?_)
            refine Z_aload_nS (n := 307) dL_law_306 rfl rfl ?_
            refine Z_iload_n (n := 308) dL_law_307 rfl rfl ?_
            refine Z_iconst (n := 309) dL_law_308 rfl (by decide) ?_
            refine Z_iadd (n := 310) dL_law_309 rfl (by omega) ?_
            refine Z_ialdS0 (n := 311) dL_law_310 rfl (by omega) (by omega) (fun r310 => ?_)
            refine Z_callVi (n := 314) [_, _, _] _ dL_law_311 rfl cwL_28 rfl rfl rfl (Nat.le_of_ble_eq_true rfl) (by refine ⟨?_, ?_, ?_, ?_⟩ <;> exact Nat.le_of_ble_eq_true rfl) (fun a h => h.elim) (zX3_gives_k  (by exact i18_2.1.1)) ?_
            intro x311 M311 J311 z311 f311 q311
            have e311_1 := q311
            replace e311_1 := e311_1.symm; subst e311_1
            have c311 : cI M311 := cI_mk i18_2.1.1 (fun a ha => f311 a (by unfold kPub at ha; unfold kGv; omega)) (pI_fr i18_2.1.1.1 (f311 5 (by decide)).1 (f311 6 (by decide)).1 (f311 10 (by decide)).1 (f311 11 (by decide)).1) (ordOK_fr i18_2.1.1.2.1 (f311 4 (by decide)).1)
            have Lp := LI_c i18_2.1 c311 (fun a ha => (f311 a (by unfold kPub at ha; unfold kGv; omega)).1)
            have Ls : LSy M311 J18 := LS_mk i18_2 Lp rfl (oSy_fr i18_2.2.2.2.1 (f311 3 (by decide)).1 (f311 4 (by decide)).1 (f311 38 (by decide)).1 (f311 39 (by decide)).1) (sim_lo i18_2 (fun a h1 _ _ _ h5 => (f311 a (by unfold kGv; omega)).1) (f311 43 (by decide)).1 (congrFun (f311 31 (by decide)).1 8) rfl)
            have m1 : M311 31 27 = M18 31 27 := congrFun (f311 31 (by decide)).1 27
            refine Z_pop (n := 315) dL_law_314 rfl rfl ?_
            refine Z_aload_n (n := 316) dL_law_315 rfl rfl ?_
            refine Z_aload_nS (n := 317) dL_law_316 rfl rfl ?_
            refine Z_iload_n (n := 318) dL_law_317 rfl rfl ?_
            refine Z_iconst (n := 319) dL_law_318 rfl (by decide) ?_
            refine Z_iadd (n := 320) dL_law_319 rfl (by omega) ?_
            refine Z_ialdS0 (n := 321) dL_law_320 rfl (by omega) (by omega) (fun r320 => ?_)
            refine Z_aload_nS (n := 322) dL_law_321 rfl rfl ?_
            refine Z_iload_n (n := 323) dL_law_322 rfl rfl ?_
            refine Z_iconst (n := 324) dL_law_323 rfl (by decide) ?_
            refine Z_iadd (n := 325) dL_law_324 rfl (by omega) ?_
            refine Z_ialdS0 (n := 326) dL_law_325 rfl (by omega) (by omega) (fun r325 => ?_)
            refine Z_aload_nS (n := 327) dL_law_326 rfl rfl ?_
            refine Z_iload_n (n := 328) dL_law_327 rfl rfl ?_
            refine Z_iconst (n := 329) dL_law_328 rfl (by decide) ?_
            refine Z_iadd (n := 330) dL_law_329 rfl (by omega) ?_
            refine Z_ialdS0 (n := 331) dL_law_330 rfl (by omega) (by omega) (fun r330 => ?_)
            refine Z_callVi (n := 334) [_, _, _] _ dL_law_331 rfl cwL_32 rfl rfl rfl (Nat.le_of_ble_eq_true rfl) (by refine ⟨?_, ?_, ?_, ?_⟩ <;> exact Nat.le_of_ble_eq_true rfl) (fun a h => h.elim) (zX4_gives_s  (by exact Lp.2.1.2.2.2.2)) ?_
            intro x331 M331 J331 z331 f331 q331
            have e331_1 := q331
            replace e331_1 := e331_1.symm; subst e331_1
            have ri331 : RI M331 J18 := RI_ord Lp.2.1 (fun j _ _ => by rw [(f331 31 (by decide)).1]) (rOrd_fr Lp.2.1.2.2.2.1 (f331 39 (by decide)).1) (fun a ha => (f331 a (by unfold kOn; omega)).1) rfl rfl
            have Lz := LI_r Lp ri331 (fun a ha => (f331 a (by unfold kOn; omega)).1)
            have LX : LSy M331 J18 := LS_mk Ls Lz rfl (oSy_fr Ls.2.2.2.1 (f331 3 (by decide)).1 (f331 4 (by decide)).1 (f331 38 (by decide)).1 (f331 39 (by decide)).1) (sim_lo Ls (fun a h1 _ _ _ _ => (f331 a (by unfold kOn; omega)).1) (f331 43 (by decide)).1 (congrFun (f331 31 (by decide)).1 8) rfl)
            have m2 : M331 31 27 = M311 31 27 := congrFun (f331 31 (by decide)).1 27
            have mX : 3 * M331 31 27 ≤ 200 * (i + 6) := by omega
            refine Z_pop (n := 335) dL_law_334 rfl rfl ?_
            refine Z_goto (t := 1296) dL_law_335 (by decide) ?_
            refine Z_iinc (L' := [_, _, _, _]) (n := 1299) dL_law_1296 rfl rfl (Nat.le_of_ble_eq_true rfl) rfl rfl (by omega) rfl ?_
            refine Z_goto (t := 18) dL_law_1299 (by decide) ?_
            refine Z_loc (L' := [some _, some _, some _, some _]) (lsub_same (lsub_same (lsub_same (lsub_same lsub_nil)))) ?_
            exact ih18 _ _ _ (by omega) (by first | assumption | omega | decide) (by first | assumption | omega | decide) (by exact LX) (by exact mX)
          refine zcases_cons (fun c33 t ht => ?_) ?_
          · obtain rfl : t = 338 := by omega
            refine Z_aload_n (n := 339) dL_law_338 rfl rfl ?_
            refine Z_aload_nS (n := 340) dL_law_339 rfl rfl ?_
            refine Z_iload_n (n := 341) dL_law_340 rfl rfl ?_
            refine Z_iconst (n := 342) dL_law_341 rfl (by decide) ?_
            refine Z_iadd (n := 343) dL_law_342 rfl (by omega) ?_
            refine Z_ialdS0 (n := 344) dL_law_343 rfl (by omega) (by omega) (fun r343 => ?_)
            refine Z_callVi (n := 347) [_] _ dL_law_344 rfl cwL_33 rfl rfl rfl (Nat.le_of_ble_eq_true rfl) (by refine ⟨?_, ?_, ?_, ?_⟩ <;> exact Nat.le_of_ble_eq_true rfl) (fun a h => h.elim) (zX3_order_f  (by exact i18_2.1.1)) ?_
            intro x344 M344 J344 z344 f344 q344
            obtain ⟨e344_1, ci344, cs344⟩ := q344
            replace e344_1 := e344_1.symm; subst e344_1
            have Lp := LI_c i18_2.1 ci344 (fun a ha => (f344 a (by unfold kPub at ha; unfold kOc; omega)).1)
            have m1 : M344 31 27 = M18 31 27 := congrFun (f344 31 (by decide)).1 27
            refine Z_pop (n := 348) dL_law_347 rfl rfl ?_
            refine Z_aload_n (n := 349) dL_law_348 rfl rfl ?_
            refine Z_aload_nS (n := 350) dL_law_349 rfl rfl ?_
            refine Z_iload_n (n := 351) dL_law_350 rfl rfl ?_
            refine Z_iconst (n := 352) dL_law_351 rfl (by decide) ?_
            refine Z_iadd (n := 353) dL_law_352 rfl (by omega) ?_
            refine Z_ialdS0 (n := 354) dL_law_353 rfl (by omega) (by omega) (fun r353 => ?_)
            refine Z_callVi (n := 357) [_] _ dL_law_354 rfl cwL_36 rfl rfl rfl (Nat.le_of_ble_eq_true rfl) (by refine ⟨?_, ?_, ?_, ?_⟩ <;> exact Nat.le_of_ble_eq_true rfl) (fun a h => h.elim) (zX4_order_g  (by exact Lp.2.1.2.2.2.2) (by exact Lp.2.1.2.2.2.1)) ?_
            intro x354 M354 J354 z354 f354 q354
            obtain ⟨e354_1, fo354, ro354, og354⟩ := q354
            replace e354_1 := e354_1.symm; subst e354_1
            have ri354 : RI M354 J18 := RI_ord Lp.2.1 fo354 ro354 (fun a ha => (f354 a (by unfold kOr; omega)).1) rfl rfl
            have Lz := LI_r Lp ri354 (fun a ha => (f354 a (by unfold kOr; omega)).1)
            have m2 := fo354 27 (by decide) (by decide)
            obtain ⟨xeq, oX⟩ := sim_order ok18 i18_2 (fun a ha => (f344 a (by unfold kOc; omega)).1) (fun a ha => (f354 a (by unfold kOr; omega)).1) cs344 og354
            have LX : LSy M354 J18 := LS_mk i18_2 Lz rfl oX (sim_lo i18_2 (fun a h1 h2 h3 h4 _ => ((f354 a (by unfold kOr; omega)).1).trans (f344 a (by unfold kOc; omega)).1) (((f354 43 (by decide)).1).trans (f344 43 (by decide)).1) ((fo354 8 (by decide) (by decide)).trans (congrFun (f344 31 (by decide)).1 8)) rfl)
            have mX : 3 * M354 31 27 ≤ 200 * (i + 6) := by omega
            refine Z_pop (n := 358) dL_law_357 rfl rfl ?_
            refine Z_goto (t := 1296) dL_law_358 (by decide) ?_
            refine Z_iinc (L' := [_, _, _, _]) (n := 1299) dL_law_1296 rfl rfl (Nat.le_of_ble_eq_true rfl) rfl rfl (by omega) rfl ?_
            refine Z_goto (t := 18) dL_law_1299 (by decide) ?_
            refine Z_loc (L' := [some _, some _, some _, some _]) (lsub_same (lsub_same (lsub_same (lsub_same lsub_nil)))) ?_
            exact ih18 _ _ _ (by omega) (by first | assumption | omega | decide) (by first | assumption | omega | decide) (by exact LX) (by exact mX)
          refine zcases_cons (fun c33 t ht => ?_) ?_
          · obtain rfl : t = 361 := by omega
            refine Z_aload_n (n := 362) dL_law_361 rfl rfl ?_
            refine Z_aload_nS (n := 363) dL_law_362 rfl rfl ?_
            refine Z_iload_n (n := 364) dL_law_363 rfl rfl ?_
            refine Z_iconst (n := 365) dL_law_364 rfl (by decide) ?_
            refine Z_iadd (n := 366) dL_law_365 rfl (by omega) ?_
            refine Z_ialdS0 (n := 367) dL_law_366 rfl (by omega) (by omega) (fun r366 => ?_)
            refine Z_aload_nS (n := 368) dL_law_367 rfl rfl ?_
            refine Z_iload_n (n := 369) dL_law_368 rfl rfl ?_
            refine Z_iconst (n := 370) dL_law_369 rfl (by decide) ?_
            refine Z_iadd (n := 371) dL_law_370 rfl (by omega) ?_
            refine Z_ialdS0 (n := 372) dL_law_371 rfl (by omega) (by omega) (fun r371 => ?_)
            refine Z_callVi (n := 375) [_, _] _ dL_law_372 rfl cwL_37 rfl rfl rfl (Nat.le_of_ble_eq_true rfl) (by refine ⟨?_, ?_, ?_, ?_⟩ <;> exact Nat.le_of_ble_eq_true rfl) (fun a h => h.elim) (zX3_move_f  (by exact i18_2.1.1) (by exact i18_2.2.2.2.1.2)) ?_
            intro x372 M372 J372 z372 f372 q372
            obtain ⟨e372_1, ci372, cs372⟩ := q372
            replace e372_1 := e372_1.symm; subst e372_1
            have Lp := LI_c i18_2.1 ci372 (fun a ha => (f372 a (by unfold kPub at ha; unfold kOrd; omega)).1)
            have m1 : M372 31 27 = M18 31 27 := congrFun (f372 31 (by decide)).1 27
            have oI372 : oIn (M372 38) (M372 39) := by
              rw [(f372 38 (by decide)).1, (f372 39 (by decide)).1]
              exact oIn_cg (fun j a b => (i18_2.2.2.2.1.1 j a b).1.symm) (fun j a b => (i18_2.2.2.2.1.1 j a b).2.symm) i18_2.2.2.2.1.2
            refine Z_pop (n := 376) dL_law_375 rfl rfl ?_
            refine Z_aload_n (n := 377) dL_law_376 rfl rfl ?_
            refine Z_aload_nS (n := 378) dL_law_377 rfl rfl ?_
            refine Z_iload_n (n := 379) dL_law_378 rfl rfl ?_
            refine Z_iconst (n := 380) dL_law_379 rfl (by decide) ?_
            refine Z_iadd (n := 381) dL_law_380 rfl (by omega) ?_
            refine Z_ialdS0 (n := 382) dL_law_381 rfl (by omega) (by omega) (fun r381 => ?_)
            refine Z_aload_nS (n := 383) dL_law_382 rfl rfl ?_
            refine Z_iload_n (n := 384) dL_law_383 rfl rfl ?_
            refine Z_iconst (n := 385) dL_law_384 rfl (by decide) ?_
            refine Z_iadd (n := 386) dL_law_385 rfl (by omega) ?_
            refine Z_ialdS0 (n := 387) dL_law_386 rfl (by omega) (by omega) (fun r386 => ?_)
            refine Z_callVi (n := 390) [_, _] _ dL_law_387 rfl cwL_40 rfl rfl rfl (Nat.le_of_ble_eq_true rfl) (by refine ⟨?_, ?_, ?_, ?_⟩ <;> exact Nat.le_of_ble_eq_true rfl) (fun a h => h.elim) (zX4_move_g  (by exact Lp.2.1.2.2.2.1) (by exact oI372)) ?_
            intro x387 M387 J387 z387 f387 q387
            obtain ⟨e387_1, ro387, mg387⟩ := q387
            replace e387_1 := e387_1.symm; subst e387_1
            have ri387 : RI M387 J18 := RI_ord Lp.2.1 (fun j _ _ => by rw [(f387 31 (by decide)).1]) ro387 (fun a ha => (f387 a (by unfold kMv; omega)).1) rfl rfl
            have Lz := LI_r Lp ri387 (fun a ha => (f387 a (by unfold kMv; omega)).1)
            obtain ⟨xeq, oX⟩ := sim_move i18_2 (fun a ha => (f372 a (by unfold kOrd; omega)).1) (fun a ha => (f387 a (by unfold kMv; omega)).1) cs372 mg387
            have LX : LSy M387 J18 := LS_mk i18_2 Lz rfl oX (sim_lo i18_2 (fun a h1 h2 h3 h4 _ => ((f387 a (by unfold kMv; omega)).1).trans (f372 a (by unfold kOrd; omega)).1) (((f387 43 (by decide)).1).trans (f372 43 (by decide)).1) ((congrFun (f387 31 (by decide)).1 8).trans (congrFun (f372 31 (by decide)).1 8)) rfl)
            have m2 : M387 31 27 = M372 31 27 := congrFun (f387 31 (by decide)).1 27
            have mX : 3 * M387 31 27 ≤ 200 * (i + 6) := by omega
            refine Z_pop (n := 391) dL_law_390 rfl rfl ?_
            refine Z_goto (t := 1296) dL_law_391 (by decide) ?_
            refine Z_iinc (L' := [_, _, _, _]) (n := 1299) dL_law_1296 rfl rfl (Nat.le_of_ble_eq_true rfl) rfl rfl (by omega) rfl ?_
            refine Z_goto (t := 18) dL_law_1299 (by decide) ?_
            refine Z_loc (L' := [some _, some _, some _, some _]) (lsub_same (lsub_same (lsub_same (lsub_same lsub_nil)))) ?_
            exact ih18 _ _ _ (by omega) (by first | assumption | omega | decide) (by first | assumption | omega | decide) (by exact LX) (by exact mX)
          refine zcases_cons (fun c33 t ht => ?_) ?_
          · obtain rfl : t = 394 := by omega
            refine Z_aload_n (n := 395) dL_law_394 rfl rfl ?_
            refine Z_aload_nS (n := 396) dL_law_395 rfl rfl ?_
            refine Z_iload_n (n := 397) dL_law_396 rfl rfl ?_
            refine Z_iconst (n := 398) dL_law_397 rfl (by decide) ?_
            refine Z_iadd (n := 399) dL_law_398 rfl (by omega) ?_
            refine Z_ialdS0 (n := 400) dL_law_399 rfl (by omega) (by omega) (fun r399 => ?_)
            refine Z_callVi (n := 403) [_] _ dL_law_400 rfl cwL_41 rfl rfl rfl (Nat.le_of_ble_eq_true rfl) (by refine ⟨?_, ?_, ?_, ?_⟩ <;> exact Nat.le_of_ble_eq_true rfl) (fun _ _ => trivial) (zX3_at  ) ?_
            intro x400 M400 J400 z400 f400 q400
            obtain ⟨e400_1, e400_2, h400⟩ := q400
            replace e400_1 := e400_1.symm; subst e400_1
            replace e400_2 := e400_2.symm; subst e400_2
            have Ls := i18_2
            have m1 : M18 31 27 = M18 31 27 := rfl
            refine Z_pop (n := 404) dL_law_403 rfl rfl ?_
            refine Z_aload_n (n := 405) dL_law_404 rfl rfl ?_
            refine Z_aload_nS (n := 406) dL_law_405 rfl rfl ?_
            refine Z_iload_n (n := 407) dL_law_406 rfl rfl ?_
            refine Z_iconst (n := 408) dL_law_407 rfl (by decide) ?_
            refine Z_iadd (n := 409) dL_law_408 rfl (by omega) ?_
            refine Z_ialdS0 (n := 410) dL_law_409 rfl (by omega) (by omega) (fun r409 => ?_)
            refine Z_callVi (n := 413) [_] _ dL_law_410 rfl cwL_44 rfl rfl rfl (Nat.le_of_ble_eq_true rfl) (by refine ⟨?_, ?_, ?_, ?_⟩ <;> exact Nat.le_of_ble_eq_true rfl) (fun _ _ => trivial) (zX4_at  ) ?_
            intro x410 M410 J410 z410 f410 q410
            obtain ⟨e410_1, e410_2, h410⟩ := q410
            replace e410_1 := e410_1.symm; subst e410_1
            replace e410_2 := e410_2.symm; subst e410_2
            have xeq : x400 = x410 := by
              rcases h400 with ⟨a, b⟩ | ⟨a1, a2, b⟩
              · rcases h410 with ⟨a', b'⟩ | ⟨a1', a2', b'⟩
                · exact b.trans b'.symm
                · exfalso; omega
              · rcases h410 with ⟨a', b'⟩ | ⟨a1', a2', b'⟩
                · exfalso; omega
                · rw [b, b']; exact (i18_2.2.2.2.1.1 _ a1 a2).1
            have LX := Ls
            have mX : 3 * M18 31 27 ≤ 200 * (i + 6) := by omega
            refine Z_pop (n := 414) dL_law_413 rfl rfl ?_
            refine Z_goto (t := 1296) dL_law_414 (by decide) ?_
            refine Z_iinc (L' := [_, _, _, _]) (n := 1299) dL_law_1296 rfl rfl (Nat.le_of_ble_eq_true rfl) rfl rfl (by omega) rfl ?_
            refine Z_goto (t := 18) dL_law_1299 (by decide) ?_
            refine Z_loc (L' := [some _, some _, some _, some _]) (lsub_same (lsub_same (lsub_same (lsub_same lsub_nil)))) ?_
            exact ih18 _ _ _ (by omega) (by first | assumption | omega | decide) (by first | assumption | omega | decide) (by exact LX) (by exact mX)
          refine zcases_cons (fun c33 t ht => ?_) ?_
          · obtain rfl : t = 417 := by omega
            refine Z_aload_n (n := 418) dL_law_417 rfl rfl ?_
            refine Z_aload_nS (n := 419) dL_law_418 rfl rfl ?_
            refine Z_iload_n (n := 420) dL_law_419 rfl rfl ?_
            refine Z_iconst (n := 421) dL_law_420 rfl (by decide) ?_
            refine Z_iadd (n := 422) dL_law_421 rfl (by omega) ?_
            refine Z_ialdS0 (n := 423) dL_law_422 rfl (by omega) (by omega) (fun r422 => ?_)
            refine Z_callVi (n := 426) [_] _ dL_law_423 rfl cwL_45 rfl rfl rfl (Nat.le_of_ble_eq_true rfl) (by refine ⟨?_, ?_, ?_, ?_⟩ <;> exact Nat.le_of_ble_eq_true rfl) (fun a h => h.elim) (zX3_room_h  (by exact i18_2.1.1) (by exact i18_2.2.1)) ?_
            intro x423 M423 J423 z423 f423 q423
            obtain ⟨e423_1, ci423, cs423⟩ := q423
            replace e423_1 := e423_1.symm; subst e423_1
            have Lp := LI_c i18_2.1 ci423 (fun a ha => (f423 a (by unfold kPub at ha; unfold kColl; omega)).1)
            have m1 : M423 31 27 = M18 31 27 := congrFun (f423 31 (by decide)).1 27
            refine Z_pop (n := 427) dL_law_426 rfl rfl ?_
            refine Z_aload_n (n := 428) dL_law_427 rfl rfl ?_
            refine Z_aload_nS (n := 429) dL_law_428 rfl rfl ?_
            refine Z_iload_n (n := 430) dL_law_429 rfl rfl ?_
            refine Z_iconst (n := 431) dL_law_430 rfl (by decide) ?_
            refine Z_iadd (n := 432) dL_law_431 rfl (by omega) ?_
            refine Z_ialdS0 (n := 433) dL_law_432 rfl (by omega) (by omega) (fun r432 => ?_)
            refine Z_callVi (n := 436) [_] _ dL_law_433 rfl cwL_48 rfl rfl rfl (Nat.le_of_ble_eq_true rfl) (by refine ⟨?_, ?_, ?_, ?_⟩ <;> exact Nat.le_of_ble_eq_true rfl) (fun _ h => h) (zX4_room  ) ?_
            intro x433 M433 J433 z433 f433 q433
            obtain ⟨e433_1, h433⟩ := q433
            replace e433_1 := e433_1.symm; subst e433_1
            have rm : RI M433 J18 ∧ (∀ a : Nat, ¬ a = 31 → M433 a = M423 a) ∧ M433 31 27 = M423 31 27 := by
              rcases h433 with ⟨-, -, rfl⟩ | ⟨-, -, -, -, rfl⟩ | ⟨-, -, w, -, rfl⟩
              · exact ⟨Lp.2.1, fun _ _ => rfl, rfl⟩
              · exact ⟨Lp.2.1, fun _ _ => rfl, rfl⟩
              · exact ⟨RI_room Lp.2.1 w, fun a ha => uz_o ha, by rw [uz_n (by decide)]⟩
            have m2 := rm.2.2
            have Lz := LI_r Lp rm.1 (fun a ha => rm.2.1 a (by omega))
            have cx : ctx M18 M423 M433 J18 := ⟨i18_2, fun a ha => (f423 a (by unfold kColl; omega)).1, fun a ha => rm.2.1 a (by omega)⟩
            obtain ⟨xeq, sx⟩ := sim_room ok18 cx cs423 h433
            have e34 : M423 3 = M18 3 ∧ M423 4 = M18 4 := ⟨(f423 3 (by decide)).1, (f423 4 (by decide)).1⟩
            have oX : oSy M433 := oSy_fr i18_2.2.2.2.1 ((rm.2.1 3 (by decide)).trans e34.1) ((rm.2.1 4 (by decide)).trans e34.2) ((rm.2.1 38 (by decide)).trans (f423 38 (by decide)).1) ((rm.2.1 39 (by decide)).trans (f423 39 (by decide)).1)
            have LX : LSy M433 J18 := LS_mk i18_2 Lz rfl oX sx
            have mX : 3 * M433 31 27 ≤ 200 * (i + 6) := by omega
            refine Z_pop (n := 437) dL_law_436 rfl rfl ?_
            refine Z_goto (t := 1296) dL_law_437 (by decide) ?_
            refine Z_iinc (L' := [_, _, _, _]) (n := 1299) dL_law_1296 rfl rfl (Nat.le_of_ble_eq_true rfl) rfl rfl (by omega) rfl ?_
            refine Z_goto (t := 18) dL_law_1299 (by decide) ?_
            refine Z_loc (L' := [some _, some _, some _, some _]) (lsub_same (lsub_same (lsub_same (lsub_same lsub_nil)))) ?_
            exact ih18 _ _ _ (by omega) (by first | assumption | omega | decide) (by first | assumption | omega | decide) (by exact LX) (by exact mX)
          refine zcases_cons (fun c33 t ht => ?_) ?_
          · obtain rfl : t = 440 := by omega
            refine Z_aload_n (n := 441) dL_law_440 rfl rfl ?_
            refine Z_aload_nS (n := 442) dL_law_441 rfl rfl ?_
            refine Z_iload_n (n := 443) dL_law_442 rfl rfl ?_
            refine Z_iconst (n := 444) dL_law_443 rfl (by decide) ?_
            refine Z_iadd (n := 445) dL_law_444 rfl (by omega) ?_
            refine Z_ialdS0 (n := 446) dL_law_445 rfl (by omega) (by omega) (fun r445 => ?_)
            refine Z_aload_nS (n := 447) dL_law_446 rfl rfl ?_
            refine Z_iload_n (n := 448) dL_law_447 rfl rfl ?_
            refine Z_iconst (n := 449) dL_law_448 rfl (by decide) ?_
            refine Z_iadd (n := 450) dL_law_449 rfl (by omega) ?_
            refine Z_ialdS0 (n := 451) dL_law_450 rfl (by omega) (by omega) (fun r450 => ?_)
            refine Z_aload_nS (n := 452) dL_law_451 rfl rfl ?_
            refine Z_iload_n (n := 453) dL_law_452 rfl rfl ?_
            refine Z_iconst (n := 454) dL_law_453 rfl (by decide) ?_
            refine Z_iadd (n := 455) dL_law_454 rfl (by omega) ?_
            refine Z_ialdS0 (n := 456) dL_law_455 rfl (by omega) (by omega) (fun r455 => ?_)
            refine Z_callVi (n := 459) [_, _, _] _ dL_law_456 rfl cwL_49 rfl rfl rfl (Nat.le_of_ble_eq_true rfl) (by refine ⟨?_, ?_, ?_, ?_⟩ <;> exact Nat.le_of_ble_eq_true rfl) (fun a h => h.elim) (zX3_build_f  (by exact i18_2.1.1) (by exact i18_2.2.1)) ?_
            intro x456 M456 J456 z456 f456 q456
            obtain ⟨e456_1, ci456, cs456⟩ := q456
            replace e456_1 := e456_1.symm; subst e456_1
            have Lp := LI_c i18_2.1 ci456 (fun a ha => (f456 a (by unfold kPub at ha; unfold kFc; omega)).1)
            have m1 : M456 31 27 = M18 31 27 := congrFun (f456 31 (by decide)).1 27
            refine Z_pop (n := 460) dL_law_459 rfl rfl ?_
            refine Z_aload_n (n := 461) dL_law_460 rfl rfl ?_
            refine Z_aload_nS (n := 462) dL_law_461 rfl rfl ?_
            refine Z_iload_n (n := 463) dL_law_462 rfl rfl ?_
            refine Z_iconst (n := 464) dL_law_463 rfl (by decide) ?_
            refine Z_iadd (n := 465) dL_law_464 rfl (by omega) ?_
            refine Z_ialdS0 (n := 466) dL_law_465 rfl (by omega) (by omega) (fun r465 => ?_)
            refine Z_aload_nS (n := 467) dL_law_466 rfl rfl ?_
            refine Z_iload_n (n := 468) dL_law_467 rfl rfl ?_
            refine Z_iconst (n := 469) dL_law_468 rfl (by decide) ?_
            refine Z_iadd (n := 470) dL_law_469 rfl (by omega) ?_
            refine Z_ialdS0 (n := 471) dL_law_470 rfl (by omega) (by omega) (fun r470 => ?_)
            refine Z_aload_nS (n := 472) dL_law_471 rfl rfl ?_
            refine Z_iload_n (n := 473) dL_law_472 rfl rfl ?_
            refine Z_iconst (n := 474) dL_law_473 rfl (by decide) ?_
            refine Z_iadd (n := 475) dL_law_474 rfl (by omega) ?_
            refine Z_ialdS0 (n := 476) dL_law_475 rfl (by omega) (by omega) (fun r475 => ?_)
            refine Z_callVi (n := 479) [_, _, _] _ dL_law_476 rfl cwL_52 rfl rfl rfl (Nat.le_of_ble_eq_true rfl) (by refine ⟨?_, ?_, ?_, ?_⟩ <;> exact Nat.le_of_ble_eq_true rfl) (fun a h => h.elim) (zX4_build_g  (by exact Lp.2.1) (by omega) (by exact i18_2.2.2.1)) ?_
            intro x476 M476 J476 z476 f476 q476
            obtain ⟨ri476, km476, gs476⟩ := q476
            have cx : ctx M18 M456 M476 J18 := ⟨i18_2, fun a ha => (f456 a (by unfold kFc; omega)).1, fun a ha => (f476 a (by unfold kRg; omega)).1⟩
            have oX : oSy M476 := oSy_fr i18_2.2.2.2.1 (((f476 3 (by decide)).1).trans (f456 3 (by decide)).1) (((f476 4 (by decide)).1).trans (f456 4 (by decide)).1) (((f476 38 (by decide)).1).trans (f456 38 (by decide)).1) (((f476 39 (by decide)).1).trans (f456 39 (by decide)).1)
            obtain ⟨xeq, sx⟩ := sim_build ok18 cx cs456 gs476
            have LX : LSy M476 J476 := LS_mk i18_2 (LI_r Lp ri476 (fun a ha => (f476 a (by unfold kRg; omega)).1)) (f476 54 (by decide)).2 oX sx
            have mX : 3 * M476 31 27 ≤ 200 * (i + 6) := by omega
            refine Z_pop (n := 480) dL_law_479 rfl rfl ?_
            refine Z_goto (t := 1296) dL_law_480 (by decide) ?_
            refine Z_iinc (L' := [_, _, _, _]) (n := 1299) dL_law_1296 rfl rfl (Nat.le_of_ble_eq_true rfl) rfl rfl (by omega) rfl ?_
            refine Z_goto (t := 18) dL_law_1299 (by decide) ?_
            refine Z_loc (L' := [some _, some _, some _, some _]) (lsub_same (lsub_same (lsub_same (lsub_same lsub_nil)))) ?_
            exact ih18 _ _ _ (by omega) (by first | assumption | omega | decide) (by first | assumption | omega | decide) (by exact LX) (by exact mX)
          refine zcases_cons (fun c33 t ht => ?_) ?_
          · obtain rfl : t = 483 := by omega
            refine Z_aload_n (n := 484) dL_law_483 rfl rfl ?_
            refine Z_aload_nS (n := 485) dL_law_484 rfl rfl ?_
            refine Z_iload_n (n := 486) dL_law_485 rfl rfl ?_
            refine Z_iconst (n := 487) dL_law_486 rfl (by decide) ?_
            refine Z_iadd (n := 488) dL_law_487 rfl (by omega) ?_
            refine Z_ialdS0 (n := 489) dL_law_488 rfl (by omega) (by omega) (fun r488 => ?_)
            refine Z_aload_nS (n := 490) dL_law_489 rfl rfl ?_
            refine Z_iload_n (n := 491) dL_law_490 rfl rfl ?_
            refine Z_iconst (n := 492) dL_law_491 rfl (by decide) ?_
            refine Z_iadd (n := 493) dL_law_492 rfl (by omega) ?_
            refine Z_ialdS0 (n := 494) dL_law_493 rfl (by omega) (by omega) (fun r493 => ?_)
            refine Z_callVi (n := 497) [_, _] _ dL_law_494 rfl cwL_53 rfl rfl rfl (Nat.le_of_ble_eq_true rfl) (by refine ⟨?_, ?_, ?_, ?_⟩ <;> exact Nat.le_of_ble_eq_true rfl) (fun a h => h.elim) (zX3_variable_f  (by exact i18_2.1.1) (by exact i18_2.2.1)) ?_
            intro x494 M494 J494 z494 f494 q494
            obtain ⟨e494_1, ci494, cs494⟩ := q494
            replace e494_1 := e494_1.symm; subst e494_1
            have Lp := LI_c i18_2.1 ci494 (fun a ha => (f494 a (by unfold kPub at ha; unfold kFc; omega)).1)
            have m1 : M494 31 27 = M18 31 27 := congrFun (f494 31 (by decide)).1 27
            refine Z_pop (n := 498) dL_law_497 rfl rfl ?_
            refine Z_aload_n (n := 499) dL_law_498 rfl rfl ?_
            refine Z_aload_nS (n := 500) dL_law_499 rfl rfl ?_
            refine Z_iload_n (n := 501) dL_law_500 rfl rfl ?_
            refine Z_iconst (n := 502) dL_law_501 rfl (by decide) ?_
            refine Z_iadd (n := 503) dL_law_502 rfl (by omega) ?_
            refine Z_ialdS0 (n := 504) dL_law_503 rfl (by omega) (by omega) (fun r503 => ?_)
            refine Z_aload_nS (n := 505) dL_law_504 rfl rfl ?_
            refine Z_iload_n (n := 506) dL_law_505 rfl rfl ?_
            refine Z_iconst (n := 507) dL_law_506 rfl (by decide) ?_
            refine Z_iadd (n := 508) dL_law_507 rfl (by omega) ?_
            refine Z_ialdS0 (n := 509) dL_law_508 rfl (by omega) (by omega) (fun r508 => ?_)
            refine Z_callVi (n := 512) [_, _] _ dL_law_509 rfl cwL_56 rfl rfl rfl (Nat.le_of_ble_eq_true rfl) (by refine ⟨?_, ?_, ?_, ?_⟩ <;> exact Nat.le_of_ble_eq_true rfl) (fun a h => h.elim) (zX4_variable_g  (by exact Lp.2.1) (by omega) (by exact i18_2.2.2.1)) ?_
            intro x509 M509 J509 z509 f509 q509
            obtain ⟨ri509, km509, gs509⟩ := q509
            have cx : ctx M18 M494 M509 J18 := ⟨i18_2, fun a ha => (f494 a (by unfold kFc; omega)).1, fun a ha => (f509 a (by unfold kRg; omega)).1⟩
            have oX : oSy M509 := oSy_fr i18_2.2.2.2.1 (((f509 3 (by decide)).1).trans (f494 3 (by decide)).1) (((f509 4 (by decide)).1).trans (f494 4 (by decide)).1) (((f509 38 (by decide)).1).trans (f494 38 (by decide)).1) (((f509 39 (by decide)).1).trans (f494 39 (by decide)).1)
            obtain ⟨xeq, sx⟩ := sim_variable cx cs494 gs509
            have LX : LSy M509 J509 := LS_mk i18_2 (LI_r Lp ri509 (fun a ha => (f509 a (by unfold kRg; omega)).1)) (f509 54 (by decide)).2 oX sx
            have mX : 3 * M509 31 27 ≤ 200 * (i + 6) := by omega
            refine Z_pop (n := 513) dL_law_512 rfl rfl ?_
            refine Z_goto (t := 1296) dL_law_513 (by decide) ?_
            refine Z_iinc (L' := [_, _, _, _]) (n := 1299) dL_law_1296 rfl rfl (Nat.le_of_ble_eq_true rfl) rfl rfl (by omega) rfl ?_
            refine Z_goto (t := 18) dL_law_1299 (by decide) ?_
            refine Z_loc (L' := [some _, some _, some _, some _]) (lsub_same (lsub_same (lsub_same (lsub_same lsub_nil)))) ?_
            exact ih18 _ _ _ (by omega) (by first | assumption | omega | decide) (by first | assumption | omega | decide) (by exact LX) (by exact mX)
          refine zcases_cons (fun c33 t ht => ?_) ?_
          · obtain rfl : t = 516 := by omega
            refine Z_aload_n (n := 517) dL_law_516 rfl rfl ?_
            refine Z_aload_nS (n := 518) dL_law_517 rfl rfl ?_
            refine Z_iload_n (n := 519) dL_law_518 rfl rfl ?_
            refine Z_iconst (n := 520) dL_law_519 rfl (by decide) ?_
            refine Z_iadd (n := 521) dL_law_520 rfl (by omega) ?_
            refine Z_ialdS0 (n := 522) dL_law_521 rfl (by omega) (by omega) (fun r521 => ?_)
            refine Z_aload_nS (n := 523) dL_law_522 rfl rfl ?_
            refine Z_iload_n (n := 524) dL_law_523 rfl rfl ?_
            refine Z_iconst (n := 525) dL_law_524 rfl (by decide) ?_
            refine Z_iadd (n := 526) dL_law_525 rfl (by omega) ?_
            refine Z_ialdS0 (n := 527) dL_law_526 rfl (by omega) (by omega) (fun r526 => ?_)
            refine Z_aload_nS (n := 528) dL_law_527 rfl rfl ?_
            refine Z_iload_n (n := 529) dL_law_528 rfl rfl ?_
            refine Z_iconst (n := 530) dL_law_529 rfl (by decide) ?_
            refine Z_iadd (n := 531) dL_law_530 rfl (by omega) ?_
            refine Z_ialdS0 (n := 532) dL_law_531 rfl (by omega) (by omega) (fun r531 => ?_)
            refine Z_aload_nS (n := 533) dL_law_532 rfl rfl ?_
            refine Z_iload_n (n := 534) dL_law_533 rfl rfl ?_
            refine Z_iconst (n := 535) dL_law_534 rfl (by decide) ?_
            refine Z_iadd (n := 536) dL_law_535 rfl (by omega) ?_
            refine Z_ialdS0 (n := 537) dL_law_536 rfl (by omega) (by omega) (fun r536 => ?_)
            refine Z_callVi (n := 540) [_, _, _, _] _ dL_law_537 rfl cwL_57 rfl rfl rfl (Nat.le_of_ble_eq_true rfl) (by refine ⟨?_, ?_, ?_, ?_⟩ <;> exact Nat.le_of_ble_eq_true rfl) (fun a h => h.elim) (zX3_combine_f  (by exact i18_2.1.1) (by exact i18_2.2.1)) ?_
            intro x537 M537 J537 z537 f537 q537
            obtain ⟨e537_1, ci537, cs537⟩ := q537
            replace e537_1 := e537_1.symm; subst e537_1
            have Lp := LI_c i18_2.1 ci537 (fun a ha => (f537 a (by unfold kPub at ha; unfold kFc; omega)).1)
            have m1 : M537 31 27 = M18 31 27 := congrFun (f537 31 (by decide)).1 27
            refine Z_pop (n := 541) dL_law_540 rfl rfl ?_
            refine Z_aload_n (n := 542) dL_law_541 rfl rfl ?_
            refine Z_aload_nS (n := 543) dL_law_542 rfl rfl ?_
            refine Z_iload_n (n := 544) dL_law_543 rfl rfl ?_
            refine Z_iconst (n := 545) dL_law_544 rfl (by decide) ?_
            refine Z_iadd (n := 546) dL_law_545 rfl (by omega) ?_
            refine Z_ialdS0 (n := 547) dL_law_546 rfl (by omega) (by omega) (fun r546 => ?_)
            refine Z_aload_nS (n := 548) dL_law_547 rfl rfl ?_
            refine Z_iload_n (n := 549) dL_law_548 rfl rfl ?_
            refine Z_iconst (n := 550) dL_law_549 rfl (by decide) ?_
            refine Z_iadd (n := 551) dL_law_550 rfl (by omega) ?_
            refine Z_ialdS0 (n := 552) dL_law_551 rfl (by omega) (by omega) (fun r551 => ?_)
            refine Z_aload_nS (n := 553) dL_law_552 rfl rfl ?_
            refine Z_iload_n (n := 554) dL_law_553 rfl rfl ?_
            refine Z_iconst (n := 555) dL_law_554 rfl (by decide) ?_
            refine Z_iadd (n := 556) dL_law_555 rfl (by omega) ?_
            refine Z_ialdS0 (n := 557) dL_law_556 rfl (by omega) (by omega) (fun r556 => ?_)
            refine Z_aload_nS (n := 558) dL_law_557 rfl rfl ?_
            refine Z_iload_n (n := 559) dL_law_558 rfl rfl ?_
            refine Z_iconst (n := 560) dL_law_559 rfl (by decide) ?_
            refine Z_iadd (n := 561) dL_law_560 rfl (by omega) ?_
            refine Z_ialdS0 (n := 562) dL_law_561 rfl (by omega) (by omega) (fun r561 => ?_)
            refine Z_callVi (n := 565) [_, _, _, _] _ dL_law_562 rfl cwL_61 rfl rfl rfl (Nat.le_of_ble_eq_true rfl) (by refine ⟨?_, ?_, ?_, ?_⟩ <;> exact Nat.le_of_ble_eq_true rfl) (fun a h => h.elim) (zX4_combine_g  (by exact Lp.2.1) (by omega) (by exact i18_2.2.2.1)) ?_
            intro x562 M562 J562 z562 f562 q562
            obtain ⟨ri562, km562, gs562⟩ := q562
            have cx : ctx M18 M537 M562 J18 := ⟨i18_2, fun a ha => (f537 a (by unfold kFc; omega)).1, fun a ha => (f562 a (by unfold kRg; omega)).1⟩
            have oX : oSy M562 := oSy_fr i18_2.2.2.2.1 (((f562 3 (by decide)).1).trans (f537 3 (by decide)).1) (((f562 4 (by decide)).1).trans (f537 4 (by decide)).1) (((f562 38 (by decide)).1).trans (f537 38 (by decide)).1) (((f562 39 (by decide)).1).trans (f537 39 (by decide)).1)
            obtain ⟨xeq, sx⟩ := sim_combine cx cs537 gs562
            have LX : LSy M562 J562 := LS_mk i18_2 (LI_r Lp ri562 (fun a ha => (f562 a (by unfold kRg; omega)).1)) (f562 54 (by decide)).2 oX sx
            have mX : 3 * M562 31 27 ≤ 200 * (i + 6) := by omega
            refine Z_pop (n := 566) dL_law_565 rfl rfl ?_
            refine Z_goto (t := 1296) dL_law_566 (by decide) ?_
            refine Z_iinc (L' := [_, _, _, _]) (n := 1299) dL_law_1296 rfl rfl (Nat.le_of_ble_eq_true rfl) rfl rfl (by omega) rfl ?_
            refine Z_goto (t := 18) dL_law_1299 (by decide) ?_
            refine Z_loc (L' := [some _, some _, some _, some _]) (lsub_same (lsub_same (lsub_same (lsub_same lsub_nil)))) ?_
            exact ih18 _ _ _ (by omega) (by first | assumption | omega | decide) (by first | assumption | omega | decide) (by exact LX) (by exact mX)
          refine zcases_cons (fun c33 t ht => ?_) ?_
          · obtain rfl : t = 569 := by omega
            refine Z_aload_n (n := 570) dL_law_569 rfl rfl ?_
            refine Z_aload_nS (n := 571) dL_law_570 rfl rfl ?_
            refine Z_iload_n (n := 572) dL_law_571 rfl rfl ?_
            refine Z_iconst (n := 573) dL_law_572 rfl (by decide) ?_
            refine Z_iadd (n := 574) dL_law_573 rfl (by omega) ?_
            refine Z_ialdS0 (n := 575) dL_law_574 rfl (by omega) (by omega) (fun r574 => ?_)
            refine Z_aload_nS (n := 576) dL_law_575 rfl rfl ?_
            refine Z_iload_n (n := 577) dL_law_576 rfl rfl ?_
            refine Z_iconst (n := 578) dL_law_577 rfl (by decide) ?_
            refine Z_iadd (n := 579) dL_law_578 rfl (by omega) ?_
            refine Z_ialdS0 (n := 580) dL_law_579 rfl (by omega) (by omega) (fun r579 => ?_)
            refine Z_aload_nS (n := 581) dL_law_580 rfl rfl ?_
            refine Z_iload_n (n := 582) dL_law_581 rfl rfl ?_
            refine Z_iconst (n := 583) dL_law_582 rfl (by decide) ?_
            refine Z_iadd (n := 584) dL_law_583 rfl (by omega) ?_
            refine Z_ialdS0 (n := 585) dL_law_584 rfl (by omega) (by omega) (fun r584 => ?_)
            refine Z_aload_nS (n := 586) dL_law_585 rfl rfl ?_
            refine Z_iload_n (n := 587) dL_law_586 rfl rfl ?_
            refine Z_iconst (n := 588) dL_law_587 rfl (by decide) ?_
            refine Z_iadd (n := 589) dL_law_588 rfl (by omega) ?_
            refine Z_ialdS0 (n := 590) dL_law_589 rfl (by omega) (by omega) (fun r589 => ?_)
            refine Z_callVi (n := 593) [_, _, _, _] _ dL_law_590 rfl cwL_62 rfl rfl rfl (Nat.le_of_ble_eq_true rfl) (by refine ⟨?_, ?_, ?_, ?_⟩ <;> exact Nat.le_of_ble_eq_true rfl) (fun a h => h.elim) (zX3_choose_f  (by exact i18_2.1.1) (by exact i18_2.2.1)) ?_
            intro x590 M590 J590 z590 f590 q590
            obtain ⟨e590_1, ci590, cs590⟩ := q590
            replace e590_1 := e590_1.symm; subst e590_1
            have Lp := LI_c i18_2.1 ci590 (fun a ha => (f590 a (by unfold kPub at ha; unfold kFc; omega)).1)
            have m1 : M590 31 27 = M18 31 27 := congrFun (f590 31 (by decide)).1 27
            refine Z_pop (n := 594) dL_law_593 rfl rfl ?_
            refine Z_aload_n (n := 595) dL_law_594 rfl rfl ?_
            refine Z_aload_nS (n := 596) dL_law_595 rfl rfl ?_
            refine Z_iload_n (n := 597) dL_law_596 rfl rfl ?_
            refine Z_iconst (n := 598) dL_law_597 rfl (by decide) ?_
            refine Z_iadd (n := 599) dL_law_598 rfl (by omega) ?_
            refine Z_ialdS0 (n := 600) dL_law_599 rfl (by omega) (by omega) (fun r599 => ?_)
            refine Z_aload_nS (n := 601) dL_law_600 rfl rfl ?_
            refine Z_iload_n (n := 602) dL_law_601 rfl rfl ?_
            refine Z_iconst (n := 603) dL_law_602 rfl (by decide) ?_
            refine Z_iadd (n := 604) dL_law_603 rfl (by omega) ?_
            refine Z_ialdS0 (n := 605) dL_law_604 rfl (by omega) (by omega) (fun r604 => ?_)
            refine Z_aload_nS (n := 606) dL_law_605 rfl rfl ?_
            refine Z_iload_n (n := 607) dL_law_606 rfl rfl ?_
            refine Z_iconst (n := 608) dL_law_607 rfl (by decide) ?_
            refine Z_iadd (n := 609) dL_law_608 rfl (by omega) ?_
            refine Z_ialdS0 (n := 610) dL_law_609 rfl (by omega) (by omega) (fun r609 => ?_)
            refine Z_aload_nS (n := 611) dL_law_610 rfl rfl ?_
            refine Z_iload_n (n := 612) dL_law_611 rfl rfl ?_
            refine Z_iconst (n := 613) dL_law_612 rfl (by decide) ?_
            refine Z_iadd (n := 614) dL_law_613 rfl (by omega) ?_
            refine Z_ialdS0 (n := 615) dL_law_614 rfl (by omega) (by omega) (fun r614 => ?_)
            refine Z_callVi (n := 618) [_, _, _, _] _ dL_law_615 rfl cwL_65 rfl rfl rfl (Nat.le_of_ble_eq_true rfl) (by refine ⟨?_, ?_, ?_, ?_⟩ <;> exact Nat.le_of_ble_eq_true rfl) (fun a h => h.elim) (zX4_choose_g  (by exact Lp.2.1) (by omega) (by exact i18_2.2.2.1)) ?_
            intro x615 M615 J615 z615 f615 q615
            obtain ⟨ri615, km615, gs615⟩ := q615
            have cx : ctx M18 M590 M615 J18 := ⟨i18_2, fun a ha => (f590 a (by unfold kFc; omega)).1, fun a ha => (f615 a (by unfold kRg; omega)).1⟩
            have oX : oSy M615 := oSy_fr i18_2.2.2.2.1 (((f615 3 (by decide)).1).trans (f590 3 (by decide)).1) (((f615 4 (by decide)).1).trans (f590 4 (by decide)).1) (((f615 38 (by decide)).1).trans (f590 38 (by decide)).1) (((f615 39 (by decide)).1).trans (f590 39 (by decide)).1)
            obtain ⟨xeq, sx⟩ := sim_choose cx cs590 gs615
            have LX : LSy M615 J615 := LS_mk i18_2 (LI_r Lp ri615 (fun a ha => (f615 a (by unfold kRg; omega)).1)) (f615 54 (by decide)).2 oX sx
            have mX : 3 * M615 31 27 ≤ 200 * (i + 6) := by omega
            refine Z_pop (n := 619) dL_law_618 rfl rfl ?_
            refine Z_goto (t := 1296) dL_law_619 (by decide) ?_
            refine Z_iinc (L' := [_, _, _, _]) (n := 1299) dL_law_1296 rfl rfl (Nat.le_of_ble_eq_true rfl) rfl rfl (by omega) rfl ?_
            refine Z_goto (t := 18) dL_law_1299 (by decide) ?_
            refine Z_loc (L' := [some _, some _, some _, some _]) (lsub_same (lsub_same (lsub_same (lsub_same lsub_nil)))) ?_
            exact ih18 _ _ _ (by omega) (by first | assumption | omega | decide) (by first | assumption | omega | decide) (by exact LX) (by exact mX)
          refine zcases_cons (fun c33 t ht => ?_) ?_
          · obtain rfl : t = 622 := by omega
            refine Z_aload_n (n := 623) dL_law_622 rfl rfl ?_
            refine Z_aload_nS (n := 624) dL_law_623 rfl rfl ?_
            refine Z_iload_n (n := 625) dL_law_624 rfl rfl ?_
            refine Z_iconst (n := 626) dL_law_625 rfl (by decide) ?_
            refine Z_iadd (n := 627) dL_law_626 rfl (by omega) ?_
            refine Z_ialdS0 (n := 628) dL_law_627 rfl (by omega) (by omega) (fun r627 => ?_)
            refine Z_aload_nS (n := 629) dL_law_628 rfl rfl ?_
            refine Z_iload_n (n := 630) dL_law_629 rfl rfl ?_
            refine Z_iconst (n := 631) dL_law_630 rfl (by decide) ?_
            refine Z_iadd (n := 632) dL_law_631 rfl (by omega) ?_
            refine Z_ialdS0 (n := 633) dL_law_632 rfl (by omega) (by omega) (fun r632 => ?_)
            refine Z_aload_nS (n := 634) dL_law_633 rfl rfl ?_
            refine Z_iload_n (n := 635) dL_law_634 rfl rfl ?_
            refine Z_iconst (n := 636) dL_law_635 rfl (by decide) ?_
            refine Z_iadd (n := 637) dL_law_636 rfl (by omega) ?_
            refine Z_ialdS0 (n := 638) dL_law_637 rfl (by omega) (by omega) (fun r637 => ?_)
            refine Z_aload_nS (n := 639) dL_law_638 rfl rfl ?_
            refine Z_iload_n (n := 640) dL_law_639 rfl rfl ?_
            refine Z_iconst (n := 641) dL_law_640 rfl (by decide) ?_
            refine Z_iadd (n := 642) dL_law_641 rfl (by omega) ?_
            refine Z_ialdS0 (n := 643) dL_law_642 rfl (by omega) (by omega) (fun r642 => ?_)
            refine Z_if_eq (n := 646) (t := 650) dL_law_643 rfl (by decide) (fun c643 => ?_) (fun c643 => ?_)
            · refine Z_iconst (n := 651) dL_law_650 rfl (by decide) ?_
              refine Z_callVi (n := 654) [_, _, _, _] _ dL_law_651 rfl cwL_66 rfl rfl rfl (Nat.le_of_ble_eq_true rfl) (by refine ⟨?_, ?_, ?_, ?_⟩ <;> exact Nat.le_of_ble_eq_true rfl) (fun a h => h.elim) (zX3_restrict_f  (by exact i18_2.1.1) (by exact i18_2.2.1)) ?_
              intro x651 M651 J651 z651 f651 q651
              obtain ⟨e651_1, ci651, cs651⟩ := q651
              replace e651_1 := e651_1.symm; subst e651_1
              have Lp := LI_c i18_2.1 ci651 (fun a ha => (f651 a (by unfold kPub at ha; unfold kFc; omega)).1)
              have m1 : M651 31 27 = M18 31 27 := congrFun (f651 31 (by decide)).1 27
              refine Z_pop (n := 655) dL_law_654 rfl rfl ?_
              refine Z_aload_n (n := 656) dL_law_655 rfl rfl ?_
              refine Z_aload_nS (n := 657) dL_law_656 rfl rfl ?_
              refine Z_iload_n (n := 658) dL_law_657 rfl rfl ?_
              refine Z_iconst (n := 659) dL_law_658 rfl (by decide) ?_
              refine Z_iadd (n := 660) dL_law_659 rfl (by omega) ?_
              refine Z_ialdS0 (n := 661) dL_law_660 rfl (by omega) (by omega) (fun r660 => ?_)
              refine Z_aload_nS (n := 662) dL_law_661 rfl rfl ?_
              refine Z_iload_n (n := 663) dL_law_662 rfl rfl ?_
              refine Z_iconst (n := 664) dL_law_663 rfl (by decide) ?_
              refine Z_iadd (n := 665) dL_law_664 rfl (by omega) ?_
              refine Z_ialdS0 (n := 666) dL_law_665 rfl (by omega) (by omega) (fun r665 => ?_)
              refine Z_aload_nS (n := 667) dL_law_666 rfl rfl ?_
              refine Z_iload_n (n := 668) dL_law_667 rfl rfl ?_
              refine Z_iconst (n := 669) dL_law_668 rfl (by decide) ?_
              refine Z_iadd (n := 670) dL_law_669 rfl (by omega) ?_
              refine Z_ialdS0 (n := 671) dL_law_670 rfl (by omega) (by omega) (fun r670 => ?_)
              refine Z_aload_nS (n := 672) dL_law_671 rfl rfl ?_
              refine Z_iload_n (n := 673) dL_law_672 rfl rfl ?_
              refine Z_iconst (n := 674) dL_law_673 rfl (by decide) ?_
              refine Z_iadd (n := 675) dL_law_674 rfl (by omega) ?_
              refine Z_ialdS0 (n := 676) dL_law_675 rfl (by omega) (by omega) (fun r675 => ?_)
              refine Z_if_eq (n := 679) (t := 683) dL_law_676 rfl (by decide) (fun c676 => ?_) (fun c676 => ?_)
              · refine Z_iconst (n := 684) dL_law_683 rfl (by decide) ?_
                refine Z_callVi (n := 687) [_, _, _, _] _ dL_law_684 rfl cwL_70 rfl rfl rfl (Nat.le_of_ble_eq_true rfl) (by refine ⟨?_, ?_, ?_, ?_⟩ <;> exact Nat.le_of_ble_eq_true rfl) (fun a h => h.elim) (zX4_restrict_g  (by exact Lp.2.1) (by omega) (by exact i18_2.2.2.1)) ?_
                intro x684 M684 J684 z684 f684 q684
                obtain ⟨ri684, km684, gs684⟩ := q684
                have cx : ctx M18 M651 M684 J18 := ⟨i18_2, fun a ha => (f651 a (by unfold kFc; omega)).1, fun a ha => (f684 a (by unfold kRg; omega)).1⟩
                have oX : oSy M684 := oSy_fr i18_2.2.2.2.1 (((f684 3 (by decide)).1).trans (f651 3 (by decide)).1) (((f684 4 (by decide)).1).trans (f651 4 (by decide)).1) (((f684 38 (by decide)).1).trans (f651 38 (by decide)).1) (((f684 39 (by decide)).1).trans (f651 39 (by decide)).1)
                obtain ⟨xeq, sx⟩ : x651 = x684 ∧ simS M684 J684 := by
                  first
                    | (exfalso; omega)
                    | exact sim_restrict cx cs651 gs684
                have LX : LSy M684 J684 := LS_mk i18_2 (LI_r Lp ri684 (fun a ha => (f684 a (by unfold kRg; omega)).1)) (f684 54 (by decide)).2 oX sx
                have mX : 3 * M684 31 27 ≤ 200 * (i + 6) := by omega
                refine Z_pop (n := 688) dL_law_687 rfl rfl ?_
                refine Z_goto (t := 1296) dL_law_688 (by decide) ?_
                refine Z_iinc (L' := [_, _, _, _]) (n := 1299) dL_law_1296 rfl rfl (Nat.le_of_ble_eq_true rfl) rfl rfl (by omega) rfl ?_
                refine Z_goto (t := 18) dL_law_1299 (by decide) ?_
                refine Z_loc (L' := [some _, some _, some _, some _]) (lsub_same (lsub_same (lsub_same (lsub_same lsub_nil)))) ?_
                exact ih18 _ _ _ (by omega) (by first | assumption | omega | decide) (by first | assumption | omega | decide) (by exact LX) (by exact mX)
              · refine Z_iconst (n := 680) dL_law_679 rfl (by decide) ?_
                refine Z_goto (t := 684) dL_law_680 (by decide) ?_
                refine Z_callVi (n := 687) [_, _, _, _] _ dL_law_684 rfl cwL_70 rfl rfl rfl (Nat.le_of_ble_eq_true rfl) (by refine ⟨?_, ?_, ?_, ?_⟩ <;> exact Nat.le_of_ble_eq_true rfl) (fun a h => h.elim) (zX4_restrict_g  (by exact Lp.2.1) (by omega) (by exact i18_2.2.2.1)) ?_
                intro x684 M684 J684 z684 f684 q684
                obtain ⟨ri684, km684, gs684⟩ := q684
                have cx : ctx M18 M651 M684 J18 := ⟨i18_2, fun a ha => (f651 a (by unfold kFc; omega)).1, fun a ha => (f684 a (by unfold kRg; omega)).1⟩
                have oX : oSy M684 := oSy_fr i18_2.2.2.2.1 (((f684 3 (by decide)).1).trans (f651 3 (by decide)).1) (((f684 4 (by decide)).1).trans (f651 4 (by decide)).1) (((f684 38 (by decide)).1).trans (f651 38 (by decide)).1) (((f684 39 (by decide)).1).trans (f651 39 (by decide)).1)
                obtain ⟨xeq, sx⟩ : x651 = x684 ∧ simS M684 J684 := by
                  first
                    | (exfalso; omega)
                    | exact sim_restrict cx cs651 gs684
                have LX : LSy M684 J684 := LS_mk i18_2 (LI_r Lp ri684 (fun a ha => (f684 a (by unfold kRg; omega)).1)) (f684 54 (by decide)).2 oX sx
                have mX : 3 * M684 31 27 ≤ 200 * (i + 6) := by omega
                refine Z_pop (n := 688) dL_law_687 rfl rfl ?_
                refine Z_goto (t := 1296) dL_law_688 (by decide) ?_
                refine Z_iinc (L' := [_, _, _, _]) (n := 1299) dL_law_1296 rfl rfl (Nat.le_of_ble_eq_true rfl) rfl rfl (by omega) rfl ?_
                refine Z_goto (t := 18) dL_law_1299 (by decide) ?_
                refine Z_loc (L' := [some _, some _, some _, some _]) (lsub_same (lsub_same (lsub_same (lsub_same lsub_nil)))) ?_
                exact ih18 _ _ _ (by omega) (by first | assumption | omega | decide) (by first | assumption | omega | decide) (by exact LX) (by exact mX)
            · refine Z_iconst (n := 647) dL_law_646 rfl (by decide) ?_
              refine Z_goto (t := 651) dL_law_647 (by decide) ?_
              refine Z_callVi (n := 654) [_, _, _, _] _ dL_law_651 rfl cwL_66 rfl rfl rfl (Nat.le_of_ble_eq_true rfl) (by refine ⟨?_, ?_, ?_, ?_⟩ <;> exact Nat.le_of_ble_eq_true rfl) (fun a h => h.elim) (zX3_restrict_f  (by exact i18_2.1.1) (by exact i18_2.2.1)) ?_
              intro x651 M651 J651 z651 f651 q651
              obtain ⟨e651_1, ci651, cs651⟩ := q651
              replace e651_1 := e651_1.symm; subst e651_1
              have Lp := LI_c i18_2.1 ci651 (fun a ha => (f651 a (by unfold kPub at ha; unfold kFc; omega)).1)
              have m1 : M651 31 27 = M18 31 27 := congrFun (f651 31 (by decide)).1 27
              refine Z_pop (n := 655) dL_law_654 rfl rfl ?_
              refine Z_aload_n (n := 656) dL_law_655 rfl rfl ?_
              refine Z_aload_nS (n := 657) dL_law_656 rfl rfl ?_
              refine Z_iload_n (n := 658) dL_law_657 rfl rfl ?_
              refine Z_iconst (n := 659) dL_law_658 rfl (by decide) ?_
              refine Z_iadd (n := 660) dL_law_659 rfl (by omega) ?_
              refine Z_ialdS0 (n := 661) dL_law_660 rfl (by omega) (by omega) (fun r660 => ?_)
              refine Z_aload_nS (n := 662) dL_law_661 rfl rfl ?_
              refine Z_iload_n (n := 663) dL_law_662 rfl rfl ?_
              refine Z_iconst (n := 664) dL_law_663 rfl (by decide) ?_
              refine Z_iadd (n := 665) dL_law_664 rfl (by omega) ?_
              refine Z_ialdS0 (n := 666) dL_law_665 rfl (by omega) (by omega) (fun r665 => ?_)
              refine Z_aload_nS (n := 667) dL_law_666 rfl rfl ?_
              refine Z_iload_n (n := 668) dL_law_667 rfl rfl ?_
              refine Z_iconst (n := 669) dL_law_668 rfl (by decide) ?_
              refine Z_iadd (n := 670) dL_law_669 rfl (by omega) ?_
              refine Z_ialdS0 (n := 671) dL_law_670 rfl (by omega) (by omega) (fun r670 => ?_)
              refine Z_aload_nS (n := 672) dL_law_671 rfl rfl ?_
              refine Z_iload_n (n := 673) dL_law_672 rfl rfl ?_
              refine Z_iconst (n := 674) dL_law_673 rfl (by decide) ?_
              refine Z_iadd (n := 675) dL_law_674 rfl (by omega) ?_
              refine Z_ialdS0 (n := 676) dL_law_675 rfl (by omega) (by omega) (fun r675 => ?_)
              refine Z_if_eq (n := 679) (t := 683) dL_law_676 rfl (by decide) (fun c676 => ?_) (fun c676 => ?_)
              · refine Z_iconst (n := 684) dL_law_683 rfl (by decide) ?_
                refine Z_callVi (n := 687) [_, _, _, _] _ dL_law_684 rfl cwL_70 rfl rfl rfl (Nat.le_of_ble_eq_true rfl) (by refine ⟨?_, ?_, ?_, ?_⟩ <;> exact Nat.le_of_ble_eq_true rfl) (fun a h => h.elim) (zX4_restrict_g  (by exact Lp.2.1) (by omega) (by exact i18_2.2.2.1)) ?_
                intro x684 M684 J684 z684 f684 q684
                obtain ⟨ri684, km684, gs684⟩ := q684
                have cx : ctx M18 M651 M684 J18 := ⟨i18_2, fun a ha => (f651 a (by unfold kFc; omega)).1, fun a ha => (f684 a (by unfold kRg; omega)).1⟩
                have oX : oSy M684 := oSy_fr i18_2.2.2.2.1 (((f684 3 (by decide)).1).trans (f651 3 (by decide)).1) (((f684 4 (by decide)).1).trans (f651 4 (by decide)).1) (((f684 38 (by decide)).1).trans (f651 38 (by decide)).1) (((f684 39 (by decide)).1).trans (f651 39 (by decide)).1)
                obtain ⟨xeq, sx⟩ : x651 = x684 ∧ simS M684 J684 := by
                  first
                    | (exfalso; omega)
                    | exact sim_restrict cx cs651 gs684
                have LX : LSy M684 J684 := LS_mk i18_2 (LI_r Lp ri684 (fun a ha => (f684 a (by unfold kRg; omega)).1)) (f684 54 (by decide)).2 oX sx
                have mX : 3 * M684 31 27 ≤ 200 * (i + 6) := by omega
                refine Z_pop (n := 688) dL_law_687 rfl rfl ?_
                refine Z_goto (t := 1296) dL_law_688 (by decide) ?_
                refine Z_iinc (L' := [_, _, _, _]) (n := 1299) dL_law_1296 rfl rfl (Nat.le_of_ble_eq_true rfl) rfl rfl (by omega) rfl ?_
                refine Z_goto (t := 18) dL_law_1299 (by decide) ?_
                refine Z_loc (L' := [some _, some _, some _, some _]) (lsub_same (lsub_same (lsub_same (lsub_same lsub_nil)))) ?_
                exact ih18 _ _ _ (by omega) (by first | assumption | omega | decide) (by first | assumption | omega | decide) (by exact LX) (by exact mX)
              · refine Z_iconst (n := 680) dL_law_679 rfl (by decide) ?_
                refine Z_goto (t := 684) dL_law_680 (by decide) ?_
                refine Z_callVi (n := 687) [_, _, _, _] _ dL_law_684 rfl cwL_70 rfl rfl rfl (Nat.le_of_ble_eq_true rfl) (by refine ⟨?_, ?_, ?_, ?_⟩ <;> exact Nat.le_of_ble_eq_true rfl) (fun a h => h.elim) (zX4_restrict_g  (by exact Lp.2.1) (by omega) (by exact i18_2.2.2.1)) ?_
                intro x684 M684 J684 z684 f684 q684
                obtain ⟨ri684, km684, gs684⟩ := q684
                have cx : ctx M18 M651 M684 J18 := ⟨i18_2, fun a ha => (f651 a (by unfold kFc; omega)).1, fun a ha => (f684 a (by unfold kRg; omega)).1⟩
                have oX : oSy M684 := oSy_fr i18_2.2.2.2.1 (((f684 3 (by decide)).1).trans (f651 3 (by decide)).1) (((f684 4 (by decide)).1).trans (f651 4 (by decide)).1) (((f684 38 (by decide)).1).trans (f651 38 (by decide)).1) (((f684 39 (by decide)).1).trans (f651 39 (by decide)).1)
                obtain ⟨xeq, sx⟩ : x651 = x684 ∧ simS M684 J684 := by
                  first
                    | (exfalso; omega)
                    | exact sim_restrict cx cs651 gs684
                have LX : LSy M684 J684 := LS_mk i18_2 (LI_r Lp ri684 (fun a ha => (f684 a (by unfold kRg; omega)).1)) (f684 54 (by decide)).2 oX sx
                have mX : 3 * M684 31 27 ≤ 200 * (i + 6) := by omega
                refine Z_pop (n := 688) dL_law_687 rfl rfl ?_
                refine Z_goto (t := 1296) dL_law_688 (by decide) ?_
                refine Z_iinc (L' := [_, _, _, _]) (n := 1299) dL_law_1296 rfl rfl (Nat.le_of_ble_eq_true rfl) rfl rfl (by omega) rfl ?_
                refine Z_goto (t := 18) dL_law_1299 (by decide) ?_
                refine Z_loc (L' := [some _, some _, some _, some _]) (lsub_same (lsub_same (lsub_same (lsub_same lsub_nil)))) ?_
                exact ih18 _ _ _ (by omega) (by first | assumption | omega | decide) (by first | assumption | omega | decide) (by exact LX) (by exact mX)
          refine zcases_cons (fun c33 t ht => ?_) ?_
          · obtain rfl : t = 691 := by omega
            refine Z_aload_n (n := 692) dL_law_691 rfl rfl ?_
            refine Z_aload_nS (n := 693) dL_law_692 rfl rfl ?_
            refine Z_iload_n (n := 694) dL_law_693 rfl rfl ?_
            refine Z_iconst (n := 695) dL_law_694 rfl (by decide) ?_
            refine Z_iadd (n := 696) dL_law_695 rfl (by omega) ?_
            refine Z_ialdS0 (n := 697) dL_law_696 rfl (by omega) (by omega) (fun r696 => ?_)
            refine Z_aload_nS (n := 698) dL_law_697 rfl rfl ?_
            refine Z_iload_n (n := 699) dL_law_698 rfl rfl ?_
            refine Z_iconst (n := 700) dL_law_699 rfl (by decide) ?_
            refine Z_iadd (n := 701) dL_law_700 rfl (by omega) ?_
            refine Z_ialdS0 (n := 702) dL_law_701 rfl (by omega) (by omega) (fun r701 => ?_)
            refine Z_aload_nS (n := 703) dL_law_702 rfl rfl ?_
            refine Z_iload_n (n := 704) dL_law_703 rfl rfl ?_
            refine Z_iconst (n := 705) dL_law_704 rfl (by decide) ?_
            refine Z_iadd (n := 706) dL_law_705 rfl (by omega) ?_
            refine Z_ialdS0 (n := 707) dL_law_706 rfl (by omega) (by omega) (fun r706 => ?_)
            refine Z_aload_nS (n := 708) dL_law_707 rfl rfl ?_
            refine Z_iload_n (n := 709) dL_law_708 rfl rfl ?_
            refine Z_iconst (n := 710) dL_law_709 rfl (by decide) ?_
            refine Z_iadd (n := 711) dL_law_710 rfl (by omega) ?_
            refine Z_ialdS0 (n := 712) dL_law_711 rfl (by omega) (by omega) (fun r711 => ?_)
            refine Z_if_eq (n := 715) (t := 719) dL_law_712 rfl (by decide) (fun c712 => ?_) (fun c712 => ?_)
            · refine Z_iconst (n := 720) dL_law_719 rfl (by decide) ?_
              refine Z_callVi (n := 723) [_, _, _, _] _ dL_law_720 rfl cwL_71 rfl rfl rfl (Nat.le_of_ble_eq_true rfl) (by refine ⟨?_, ?_, ?_, ?_⟩ <;> exact Nat.le_of_ble_eq_true rfl) (fun a h => h.elim) (zX3_quantify_f  (by exact i18_2.1.1) (by exact i18_2.2.1)) ?_
              intro x720 M720 J720 z720 f720 q720
              obtain ⟨e720_1, ci720, cs720⟩ := q720
              replace e720_1 := e720_1.symm; subst e720_1
              have Lp := LI_c i18_2.1 ci720 (fun a ha => (f720 a (by unfold kPub at ha; unfold kFc; omega)).1)
              have m1 : M720 31 27 = M18 31 27 := congrFun (f720 31 (by decide)).1 27
              refine Z_pop (n := 724) dL_law_723 rfl rfl ?_
              refine Z_aload_n (n := 725) dL_law_724 rfl rfl ?_
              refine Z_aload_nS (n := 726) dL_law_725 rfl rfl ?_
              refine Z_iload_n (n := 727) dL_law_726 rfl rfl ?_
              refine Z_iconst (n := 728) dL_law_727 rfl (by decide) ?_
              refine Z_iadd (n := 729) dL_law_728 rfl (by omega) ?_
              refine Z_ialdS0 (n := 730) dL_law_729 rfl (by omega) (by omega) (fun r729 => ?_)
              refine Z_aload_nS (n := 731) dL_law_730 rfl rfl ?_
              refine Z_iload_n (n := 732) dL_law_731 rfl rfl ?_
              refine Z_iconst (n := 733) dL_law_732 rfl (by decide) ?_
              refine Z_iadd (n := 734) dL_law_733 rfl (by omega) ?_
              refine Z_ialdS0 (n := 735) dL_law_734 rfl (by omega) (by omega) (fun r734 => ?_)
              refine Z_aload_nS (n := 736) dL_law_735 rfl rfl ?_
              refine Z_iload_n (n := 737) dL_law_736 rfl rfl ?_
              refine Z_iconst (n := 738) dL_law_737 rfl (by decide) ?_
              refine Z_iadd (n := 739) dL_law_738 rfl (by omega) ?_
              refine Z_ialdS0 (n := 740) dL_law_739 rfl (by omega) (by omega) (fun r739 => ?_)
              refine Z_aload_nS (n := 741) dL_law_740 rfl rfl ?_
              refine Z_iload_n (n := 742) dL_law_741 rfl rfl ?_
              refine Z_iconst (n := 743) dL_law_742 rfl (by decide) ?_
              refine Z_iadd (n := 744) dL_law_743 rfl (by omega) ?_
              refine Z_ialdS0 (n := 745) dL_law_744 rfl (by omega) (by omega) (fun r744 => ?_)
              refine Z_if_eq (n := 748) (t := 752) dL_law_745 rfl (by decide) (fun c745 => ?_) (fun c745 => ?_)
              · refine Z_iconst (n := 753) dL_law_752 rfl (by decide) ?_
                refine Z_callVi (n := 756) [_, _, _, _] _ dL_law_753 rfl cwL_74 rfl rfl rfl (Nat.le_of_ble_eq_true rfl) (by refine ⟨?_, ?_, ?_, ?_⟩ <;> exact Nat.le_of_ble_eq_true rfl) (fun a h => h.elim) (zX4_quantify_g  (by exact Lp.2.1) (by omega) (by exact i18_2.2.2.1)) ?_
                intro x753 M753 J753 z753 f753 q753
                obtain ⟨ri753, km753, gs753⟩ := q753
                have cx : ctx M18 M720 M753 J18 := ⟨i18_2, fun a ha => (f720 a (by unfold kFc; omega)).1, fun a ha => (f753 a (by unfold kRg; omega)).1⟩
                have oX : oSy M753 := oSy_fr i18_2.2.2.2.1 (((f753 3 (by decide)).1).trans (f720 3 (by decide)).1) (((f753 4 (by decide)).1).trans (f720 4 (by decide)).1) (((f753 38 (by decide)).1).trans (f720 38 (by decide)).1) (((f753 39 (by decide)).1).trans (f720 39 (by decide)).1)
                obtain ⟨xeq, sx⟩ : x720 = x753 ∧ simS M753 J753 := by
                  first
                    | (exfalso; omega)
                    | exact sim_quantify cx cs720 gs753
                have LX : LSy M753 J753 := LS_mk i18_2 (LI_r Lp ri753 (fun a ha => (f753 a (by unfold kRg; omega)).1)) (f753 54 (by decide)).2 oX sx
                have mX : 3 * M753 31 27 ≤ 200 * (i + 6) := by omega
                refine Z_pop (n := 757) dL_law_756 rfl rfl ?_
                refine Z_goto (t := 1296) dL_law_757 (by decide) ?_
                refine Z_iinc (L' := [_, _, _, _]) (n := 1299) dL_law_1296 rfl rfl (Nat.le_of_ble_eq_true rfl) rfl rfl (by omega) rfl ?_
                refine Z_goto (t := 18) dL_law_1299 (by decide) ?_
                refine Z_loc (L' := [some _, some _, some _, some _]) (lsub_same (lsub_same (lsub_same (lsub_same lsub_nil)))) ?_
                exact ih18 _ _ _ (by omega) (by first | assumption | omega | decide) (by first | assumption | omega | decide) (by exact LX) (by exact mX)
              · refine Z_iconst (n := 749) dL_law_748 rfl (by decide) ?_
                refine Z_goto (t := 753) dL_law_749 (by decide) ?_
                refine Z_callVi (n := 756) [_, _, _, _] _ dL_law_753 rfl cwL_74 rfl rfl rfl (Nat.le_of_ble_eq_true rfl) (by refine ⟨?_, ?_, ?_, ?_⟩ <;> exact Nat.le_of_ble_eq_true rfl) (fun a h => h.elim) (zX4_quantify_g  (by exact Lp.2.1) (by omega) (by exact i18_2.2.2.1)) ?_
                intro x753 M753 J753 z753 f753 q753
                obtain ⟨ri753, km753, gs753⟩ := q753
                have cx : ctx M18 M720 M753 J18 := ⟨i18_2, fun a ha => (f720 a (by unfold kFc; omega)).1, fun a ha => (f753 a (by unfold kRg; omega)).1⟩
                have oX : oSy M753 := oSy_fr i18_2.2.2.2.1 (((f753 3 (by decide)).1).trans (f720 3 (by decide)).1) (((f753 4 (by decide)).1).trans (f720 4 (by decide)).1) (((f753 38 (by decide)).1).trans (f720 38 (by decide)).1) (((f753 39 (by decide)).1).trans (f720 39 (by decide)).1)
                obtain ⟨xeq, sx⟩ : x720 = x753 ∧ simS M753 J753 := by
                  first
                    | (exfalso; omega)
                    | exact sim_quantify cx cs720 gs753
                have LX : LSy M753 J753 := LS_mk i18_2 (LI_r Lp ri753 (fun a ha => (f753 a (by unfold kRg; omega)).1)) (f753 54 (by decide)).2 oX sx
                have mX : 3 * M753 31 27 ≤ 200 * (i + 6) := by omega
                refine Z_pop (n := 757) dL_law_756 rfl rfl ?_
                refine Z_goto (t := 1296) dL_law_757 (by decide) ?_
                refine Z_iinc (L' := [_, _, _, _]) (n := 1299) dL_law_1296 rfl rfl (Nat.le_of_ble_eq_true rfl) rfl rfl (by omega) rfl ?_
                refine Z_goto (t := 18) dL_law_1299 (by decide) ?_
                refine Z_loc (L' := [some _, some _, some _, some _]) (lsub_same (lsub_same (lsub_same (lsub_same lsub_nil)))) ?_
                exact ih18 _ _ _ (by omega) (by first | assumption | omega | decide) (by first | assumption | omega | decide) (by exact LX) (by exact mX)
            · refine Z_iconst (n := 716) dL_law_715 rfl (by decide) ?_
              refine Z_goto (t := 720) dL_law_716 (by decide) ?_
              refine Z_callVi (n := 723) [_, _, _, _] _ dL_law_720 rfl cwL_71 rfl rfl rfl (Nat.le_of_ble_eq_true rfl) (by refine ⟨?_, ?_, ?_, ?_⟩ <;> exact Nat.le_of_ble_eq_true rfl) (fun a h => h.elim) (zX3_quantify_f  (by exact i18_2.1.1) (by exact i18_2.2.1)) ?_
              intro x720 M720 J720 z720 f720 q720
              obtain ⟨e720_1, ci720, cs720⟩ := q720
              replace e720_1 := e720_1.symm; subst e720_1
              have Lp := LI_c i18_2.1 ci720 (fun a ha => (f720 a (by unfold kPub at ha; unfold kFc; omega)).1)
              have m1 : M720 31 27 = M18 31 27 := congrFun (f720 31 (by decide)).1 27
              refine Z_pop (n := 724) dL_law_723 rfl rfl ?_
              refine Z_aload_n (n := 725) dL_law_724 rfl rfl ?_
              refine Z_aload_nS (n := 726) dL_law_725 rfl rfl ?_
              refine Z_iload_n (n := 727) dL_law_726 rfl rfl ?_
              refine Z_iconst (n := 728) dL_law_727 rfl (by decide) ?_
              refine Z_iadd (n := 729) dL_law_728 rfl (by omega) ?_
              refine Z_ialdS0 (n := 730) dL_law_729 rfl (by omega) (by omega) (fun r729 => ?_)
              refine Z_aload_nS (n := 731) dL_law_730 rfl rfl ?_
              refine Z_iload_n (n := 732) dL_law_731 rfl rfl ?_
              refine Z_iconst (n := 733) dL_law_732 rfl (by decide) ?_
              refine Z_iadd (n := 734) dL_law_733 rfl (by omega) ?_
              refine Z_ialdS0 (n := 735) dL_law_734 rfl (by omega) (by omega) (fun r734 => ?_)
              refine Z_aload_nS (n := 736) dL_law_735 rfl rfl ?_
              refine Z_iload_n (n := 737) dL_law_736 rfl rfl ?_
              refine Z_iconst (n := 738) dL_law_737 rfl (by decide) ?_
              refine Z_iadd (n := 739) dL_law_738 rfl (by omega) ?_
              refine Z_ialdS0 (n := 740) dL_law_739 rfl (by omega) (by omega) (fun r739 => ?_)
              refine Z_aload_nS (n := 741) dL_law_740 rfl rfl ?_
              refine Z_iload_n (n := 742) dL_law_741 rfl rfl ?_
              refine Z_iconst (n := 743) dL_law_742 rfl (by decide) ?_
              refine Z_iadd (n := 744) dL_law_743 rfl (by omega) ?_
              refine Z_ialdS0 (n := 745) dL_law_744 rfl (by omega) (by omega) (fun r744 => ?_)
              refine Z_if_eq (n := 748) (t := 752) dL_law_745 rfl (by decide) (fun c745 => ?_) (fun c745 => ?_)
              · refine Z_iconst (n := 753) dL_law_752 rfl (by decide) ?_
                refine Z_callVi (n := 756) [_, _, _, _] _ dL_law_753 rfl cwL_74 rfl rfl rfl (Nat.le_of_ble_eq_true rfl) (by refine ⟨?_, ?_, ?_, ?_⟩ <;> exact Nat.le_of_ble_eq_true rfl) (fun a h => h.elim) (zX4_quantify_g  (by exact Lp.2.1) (by omega) (by exact i18_2.2.2.1)) ?_
                intro x753 M753 J753 z753 f753 q753
                obtain ⟨ri753, km753, gs753⟩ := q753
                have cx : ctx M18 M720 M753 J18 := ⟨i18_2, fun a ha => (f720 a (by unfold kFc; omega)).1, fun a ha => (f753 a (by unfold kRg; omega)).1⟩
                have oX : oSy M753 := oSy_fr i18_2.2.2.2.1 (((f753 3 (by decide)).1).trans (f720 3 (by decide)).1) (((f753 4 (by decide)).1).trans (f720 4 (by decide)).1) (((f753 38 (by decide)).1).trans (f720 38 (by decide)).1) (((f753 39 (by decide)).1).trans (f720 39 (by decide)).1)
                obtain ⟨xeq, sx⟩ : x720 = x753 ∧ simS M753 J753 := by
                  first
                    | (exfalso; omega)
                    | exact sim_quantify cx cs720 gs753
                have LX : LSy M753 J753 := LS_mk i18_2 (LI_r Lp ri753 (fun a ha => (f753 a (by unfold kRg; omega)).1)) (f753 54 (by decide)).2 oX sx
                have mX : 3 * M753 31 27 ≤ 200 * (i + 6) := by omega
                refine Z_pop (n := 757) dL_law_756 rfl rfl ?_
                refine Z_goto (t := 1296) dL_law_757 (by decide) ?_
                refine Z_iinc (L' := [_, _, _, _]) (n := 1299) dL_law_1296 rfl rfl (Nat.le_of_ble_eq_true rfl) rfl rfl (by omega) rfl ?_
                refine Z_goto (t := 18) dL_law_1299 (by decide) ?_
                refine Z_loc (L' := [some _, some _, some _, some _]) (lsub_same (lsub_same (lsub_same (lsub_same lsub_nil)))) ?_
                exact ih18 _ _ _ (by omega) (by first | assumption | omega | decide) (by first | assumption | omega | decide) (by exact LX) (by exact mX)
              · refine Z_iconst (n := 749) dL_law_748 rfl (by decide) ?_
                refine Z_goto (t := 753) dL_law_749 (by decide) ?_
                refine Z_callVi (n := 756) [_, _, _, _] _ dL_law_753 rfl cwL_74 rfl rfl rfl (Nat.le_of_ble_eq_true rfl) (by refine ⟨?_, ?_, ?_, ?_⟩ <;> exact Nat.le_of_ble_eq_true rfl) (fun a h => h.elim) (zX4_quantify_g  (by exact Lp.2.1) (by omega) (by exact i18_2.2.2.1)) ?_
                intro x753 M753 J753 z753 f753 q753
                obtain ⟨ri753, km753, gs753⟩ := q753
                have cx : ctx M18 M720 M753 J18 := ⟨i18_2, fun a ha => (f720 a (by unfold kFc; omega)).1, fun a ha => (f753 a (by unfold kRg; omega)).1⟩
                have oX : oSy M753 := oSy_fr i18_2.2.2.2.1 (((f753 3 (by decide)).1).trans (f720 3 (by decide)).1) (((f753 4 (by decide)).1).trans (f720 4 (by decide)).1) (((f753 38 (by decide)).1).trans (f720 38 (by decide)).1) (((f753 39 (by decide)).1).trans (f720 39 (by decide)).1)
                obtain ⟨xeq, sx⟩ : x720 = x753 ∧ simS M753 J753 := by
                  first
                    | (exfalso; omega)
                    | exact sim_quantify cx cs720 gs753
                have LX : LSy M753 J753 := LS_mk i18_2 (LI_r Lp ri753 (fun a ha => (f753 a (by unfold kRg; omega)).1)) (f753 54 (by decide)).2 oX sx
                have mX : 3 * M753 31 27 ≤ 200 * (i + 6) := by omega
                refine Z_pop (n := 757) dL_law_756 rfl rfl ?_
                refine Z_goto (t := 1296) dL_law_757 (by decide) ?_
                refine Z_iinc (L' := [_, _, _, _]) (n := 1299) dL_law_1296 rfl rfl (Nat.le_of_ble_eq_true rfl) rfl rfl (by omega) rfl ?_
                refine Z_goto (t := 18) dL_law_1299 (by decide) ?_
                refine Z_loc (L' := [some _, some _, some _, some _]) (lsub_same (lsub_same (lsub_same (lsub_same lsub_nil)))) ?_
                exact ih18 _ _ _ (by omega) (by first | assumption | omega | decide) (by first | assumption | omega | decide) (by exact LX) (by exact mX)
          refine zcases_cons (fun c33 t ht => ?_) ?_
          · obtain rfl : t = 760 := by omega
            refine Z_aload_n (n := 761) dL_law_760 rfl rfl ?_
            refine Z_aload_nS (n := 762) dL_law_761 rfl rfl ?_
            refine Z_iload_n (n := 763) dL_law_762 rfl rfl ?_
            refine Z_iconst (n := 764) dL_law_763 rfl (by decide) ?_
            refine Z_iadd (n := 765) dL_law_764 rfl (by omega) ?_
            refine Z_ialdS0 (n := 766) dL_law_765 rfl (by omega) (by omega) (fun r765 => ?_)
            refine Z_aload_nS (n := 767) dL_law_766 rfl rfl ?_
            refine Z_iload_n (n := 768) dL_law_767 rfl rfl ?_
            refine Z_iconst (n := 769) dL_law_768 rfl (by decide) ?_
            refine Z_iadd (n := 770) dL_law_769 rfl (by omega) ?_
            refine Z_ialdS0 (n := 771) dL_law_770 rfl (by omega) (by omega) (fun r770 => ?_)
            refine Z_aload_nS (n := 772) dL_law_771 rfl rfl ?_
            refine Z_iload_n (n := 773) dL_law_772 rfl rfl ?_
            refine Z_iconst (n := 774) dL_law_773 rfl (by decide) ?_
            refine Z_iadd (n := 775) dL_law_774 rfl (by omega) ?_
            refine Z_ialdS0 (n := 776) dL_law_775 rfl (by omega) (by omega) (fun r775 => ?_)
            refine Z_aload_nS (n := 777) dL_law_776 rfl rfl ?_
            refine Z_iload_n (n := 778) dL_law_777 rfl rfl ?_
            refine Z_iconst (n := 779) dL_law_778 rfl (by decide) ?_
            refine Z_iadd (n := 780) dL_law_779 rfl (by omega) ?_
            refine Z_ialdS0 (n := 781) dL_law_780 rfl (by omega) (by omega) (fun r780 => ?_)
            refine Z_callVi (n := 784) [_, _, _, _] _ dL_law_781 rfl cwL_75 rfl rfl rfl (Nat.le_of_ble_eq_true rfl) (by refine ⟨?_, ?_, ?_, ?_⟩ <;> exact Nat.le_of_ble_eq_true rfl) (fun a h => h.elim) (zX3_compose_f  (by exact i18_2.1.1) (by exact i18_2.2.1)) ?_
            intro x781 M781 J781 z781 f781 q781
            obtain ⟨e781_1, ci781, cs781⟩ := q781
            replace e781_1 := e781_1.symm; subst e781_1
            have Lp := LI_c i18_2.1 ci781 (fun a ha => (f781 a (by unfold kPub at ha; unfold kFc; omega)).1)
            have m1 : M781 31 27 = M18 31 27 := congrFun (f781 31 (by decide)).1 27
            refine Z_pop (n := 785) dL_law_784 rfl rfl ?_
            refine Z_aload_n (n := 786) dL_law_785 rfl rfl ?_
            refine Z_aload_nS (n := 787) dL_law_786 rfl rfl ?_
            refine Z_iload_n (n := 788) dL_law_787 rfl rfl ?_
            refine Z_iconst (n := 789) dL_law_788 rfl (by decide) ?_
            refine Z_iadd (n := 790) dL_law_789 rfl (by omega) ?_
            refine Z_ialdS0 (n := 791) dL_law_790 rfl (by omega) (by omega) (fun r790 => ?_)
            refine Z_aload_nS (n := 792) dL_law_791 rfl rfl ?_
            refine Z_iload_n (n := 793) dL_law_792 rfl rfl ?_
            refine Z_iconst (n := 794) dL_law_793 rfl (by decide) ?_
            refine Z_iadd (n := 795) dL_law_794 rfl (by omega) ?_
            refine Z_ialdS0 (n := 796) dL_law_795 rfl (by omega) (by omega) (fun r795 => ?_)
            refine Z_aload_nS (n := 797) dL_law_796 rfl rfl ?_
            refine Z_iload_n (n := 798) dL_law_797 rfl rfl ?_
            refine Z_iconst (n := 799) dL_law_798 rfl (by decide) ?_
            refine Z_iadd (n := 800) dL_law_799 rfl (by omega) ?_
            refine Z_ialdS0 (n := 801) dL_law_800 rfl (by omega) (by omega) (fun r800 => ?_)
            refine Z_aload_nS (n := 802) dL_law_801 rfl rfl ?_
            refine Z_iload_n (n := 803) dL_law_802 rfl rfl ?_
            refine Z_iconst (n := 804) dL_law_803 rfl (by decide) ?_
            refine Z_iadd (n := 805) dL_law_804 rfl (by omega) ?_
            refine Z_ialdS0 (n := 806) dL_law_805 rfl (by omega) (by omega) (fun r805 => ?_)
            refine Z_callVi (n := 809) [_, _, _, _] _ dL_law_806 rfl cwL_78 rfl rfl rfl (Nat.le_of_ble_eq_true rfl) (by refine ⟨?_, ?_, ?_, ?_⟩ <;> exact Nat.le_of_ble_eq_true rfl) (fun a h => h.elim) (zX4_compose_g  (by exact Lp.2.1) (by omega) (by exact i18_2.2.2.1)) ?_
            intro x806 M806 J806 z806 f806 q806
            obtain ⟨ri806, km806, gs806⟩ := q806
            have cx : ctx M18 M781 M806 J18 := ⟨i18_2, fun a ha => (f781 a (by unfold kFc; omega)).1, fun a ha => (f806 a (by unfold kRg; omega)).1⟩
            have oX : oSy M806 := oSy_fr i18_2.2.2.2.1 (((f806 3 (by decide)).1).trans (f781 3 (by decide)).1) (((f806 4 (by decide)).1).trans (f781 4 (by decide)).1) (((f806 38 (by decide)).1).trans (f781 38 (by decide)).1) (((f806 39 (by decide)).1).trans (f781 39 (by decide)).1)
            obtain ⟨xeq, sx⟩ := sim_compose cx cs781 gs806
            have LX : LSy M806 J806 := LS_mk i18_2 (LI_r Lp ri806 (fun a ha => (f806 a (by unfold kRg; omega)).1)) (f806 54 (by decide)).2 oX sx
            have mX : 3 * M806 31 27 ≤ 200 * (i + 6) := by omega
            refine Z_pop (n := 810) dL_law_809 rfl rfl ?_
            refine Z_goto (t := 1296) dL_law_810 (by decide) ?_
            refine Z_iinc (L' := [_, _, _, _]) (n := 1299) dL_law_1296 rfl rfl (Nat.le_of_ble_eq_true rfl) rfl rfl (by omega) rfl ?_
            refine Z_goto (t := 18) dL_law_1299 (by decide) ?_
            refine Z_loc (L' := [some _, some _, some _, some _]) (lsub_same (lsub_same (lsub_same (lsub_same lsub_nil)))) ?_
            exact ih18 _ _ _ (by omega) (by first | assumption | omega | decide) (by first | assumption | omega | decide) (by exact LX) (by exact mX)
          refine zcases_cons (fun c33 t ht => ?_) ?_
          · obtain rfl : t = 813 := by omega
            refine Z_aload_n (n := 814) dL_law_813 rfl rfl ?_
            refine Z_aload_nS (n := 815) dL_law_814 rfl rfl ?_
            refine Z_iload_n (n := 816) dL_law_815 rfl rfl ?_
            refine Z_iconst (n := 817) dL_law_816 rfl (by decide) ?_
            refine Z_iadd (n := 818) dL_law_817 rfl (by omega) ?_
            refine Z_ialdS0 (n := 819) dL_law_818 rfl (by omega) (by omega) (fun r818 => ?_)
            refine Z_aload_nS (n := 820) dL_law_819 rfl rfl ?_
            refine Z_iload_n (n := 821) dL_law_820 rfl rfl ?_
            refine Z_iconst (n := 822) dL_law_821 rfl (by decide) ?_
            refine Z_iadd (n := 823) dL_law_822 rfl (by omega) ?_
            refine Z_ialdS0 (n := 824) dL_law_823 rfl (by omega) (by omega) (fun r823 => ?_)
            refine Z_callVi (n := 827) [_, _] _ dL_law_824 rfl cwL_79 rfl rfl rfl (Nat.le_of_ble_eq_true rfl) (by refine ⟨?_, ?_, ?_, ?_⟩ <;> exact Nat.le_of_ble_eq_true rfl) (fun a h => h.elim) (zX3_share_f  (by exact i18_2.1.1) (by exact i18_2.2.1)) ?_
            intro x824 M824 J824 z824 f824 q824
            obtain ⟨e824_1, ci824, cs824⟩ := q824
            replace e824_1 := e824_1.symm; subst e824_1
            have Lp := LI_c i18_2.1 ci824 (fun a ha => (f824 a (by exact ha)).1)
            have m1 : M824 31 27 = M18 31 27 := congrFun (f824 31 (by decide)).1 27
            refine Z_pop (n := 828) dL_law_827 rfl rfl ?_
            refine Z_aload_n (n := 829) dL_law_828 rfl rfl ?_
            refine Z_aload_nS (n := 830) dL_law_829 rfl rfl ?_
            refine Z_iload_n (n := 831) dL_law_830 rfl rfl ?_
            refine Z_iconst (n := 832) dL_law_831 rfl (by decide) ?_
            refine Z_iadd (n := 833) dL_law_832 rfl (by omega) ?_
            refine Z_ialdS0 (n := 834) dL_law_833 rfl (by omega) (by omega) (fun r833 => ?_)
            refine Z_aload_nS (n := 835) dL_law_834 rfl rfl ?_
            refine Z_iload_n (n := 836) dL_law_835 rfl rfl ?_
            refine Z_iconst (n := 837) dL_law_836 rfl (by decide) ?_
            refine Z_iadd (n := 838) dL_law_837 rfl (by omega) ?_
            refine Z_ialdS0 (n := 839) dL_law_838 rfl (by omega) (by omega) (fun r838 => ?_)
            refine Z_callVi (n := 842) [_, _] _ dL_law_839 rfl cwL_82 rfl rfl rfl (Nat.le_of_ble_eq_true rfl) (by refine ⟨?_, ?_, ?_, ?_⟩ <;> exact Nat.le_of_ble_eq_true rfl) (fun a h => h.elim) (zX4_share_g  (by exact Lp.2.1) (by omega)) ?_
            intro x839 M839 J839 z839 f839 q839
            obtain ⟨ri839, km839, gs839⟩ := q839
            have cx : ctx M18 M824 M839 J18 := ⟨i18_2, fun a ha => (f824 a (by unfold kPub; omega)).1, fun a ha => (f839 a (by unfold kRg; omega)).1⟩
            have e34 : M824 3 = M18 3 ∧ M824 4 = M18 4 := by
              rcases cs824 with ⟨-, -, e⟩ | ⟨-, -, -, e⟩
              · rw [e]; exact ⟨rfl, rfl⟩
              · rw [e, uz_o (by decide), uz_o (by decide)]; exact ⟨rfl, rfl⟩
            have oX : oSy M839 := oSy_fr i18_2.2.2.2.1 (((f839 3 (by decide)).1).trans e34.1) (((f839 4 (by decide)).1).trans e34.2) (((f839 38 (by decide)).1).trans (f824 38 (by decide)).1) (((f839 39 (by decide)).1).trans (f824 39 (by decide)).1)
            obtain ⟨xeq, sx⟩ := sim_share cx cs824 gs839
            have LX : LSy M839 J839 := LS_mk i18_2 (LI_r Lp ri839 (fun a ha => (f839 a (by unfold kRg; omega)).1)) (f839 54 (by decide)).2 oX sx
            have mX : 3 * M839 31 27 ≤ 200 * (i + 6) := by omega
            refine Z_pop (n := 843) dL_law_842 rfl rfl ?_
            refine Z_goto (t := 1296) dL_law_843 (by decide) ?_
            refine Z_iinc (L' := [_, _, _, _]) (n := 1299) dL_law_1296 rfl rfl (Nat.le_of_ble_eq_true rfl) rfl rfl (by omega) rfl ?_
            refine Z_goto (t := 18) dL_law_1299 (by decide) ?_
            refine Z_loc (L' := [some _, some _, some _, some _]) (lsub_same (lsub_same (lsub_same (lsub_same lsub_nil)))) ?_
            exact ih18 _ _ _ (by omega) (by first | assumption | omega | decide) (by first | assumption | omega | decide) (by exact LX) (by exact mX)
          refine zcases_cons (fun c33 t ht => ?_) ?_
          · obtain rfl : t = 846 := by omega
            refine Z_aload_n (n := 847) dL_law_846 rfl rfl ?_
            refine Z_aload_nS (n := 848) dL_law_847 rfl rfl ?_
            refine Z_iload_n (n := 849) dL_law_848 rfl rfl ?_
            refine Z_iconst (n := 850) dL_law_849 rfl (by decide) ?_
            refine Z_iadd (n := 851) dL_law_850 rfl (by omega) ?_
            refine Z_ialdS0 (n := 852) dL_law_851 rfl (by omega) (by omega) (fun r851 => ?_)
            refine Z_callVi (n := 855) [_] _ dL_law_852 rfl cwL_83 rfl rfl rfl (Nat.le_of_ble_eq_true rfl) (by refine ⟨?_, ?_, ?_, ?_⟩ <;> exact Nat.le_of_ble_eq_true rfl) (fun a h => h.elim) (zX3_drop_f  (by exact i18_2.1.1) (by exact i18_2.2.1)) ?_
            intro x852 M852 J852 z852 f852 q852
            obtain ⟨e852_1, ci852, cs852⟩ := q852
            replace e852_1 := e852_1.symm; subst e852_1
            have Lp := LI_c i18_2.1 ci852 (fun a ha => (f852 a (by exact ha)).1)
            have m1 : M852 31 27 = M18 31 27 := congrFun (f852 31 (by decide)).1 27
            refine Z_pop (n := 856) dL_law_855 rfl rfl ?_
            refine Z_aload_n (n := 857) dL_law_856 rfl rfl ?_
            refine Z_aload_nS (n := 858) dL_law_857 rfl rfl ?_
            refine Z_iload_n (n := 859) dL_law_858 rfl rfl ?_
            refine Z_iconst (n := 860) dL_law_859 rfl (by decide) ?_
            refine Z_iadd (n := 861) dL_law_860 rfl (by omega) ?_
            refine Z_ialdS0 (n := 862) dL_law_861 rfl (by omega) (by omega) (fun r861 => ?_)
            refine Z_callVi (n := 865) [_] _ dL_law_862 rfl cwL_86 rfl rfl rfl (Nat.le_of_ble_eq_true rfl) (by refine ⟨?_, ?_, ?_, ?_⟩ <;> exact Nat.le_of_ble_eq_true rfl) (fun a h => h.elim) (zX4_drop_g  (by exact Lp.2.1) (by omega)) ?_
            intro x862 M862 J862 z862 f862 q862
            obtain ⟨ri862, km862, gs862⟩ := q862
            have cx : ctx M18 M852 M862 J18 := ⟨i18_2, fun a ha => (f852 a (by unfold kPub; omega)).1, fun a ha => (f862 a (by unfold kRg; omega)).1⟩
            have e34 : M852 3 = M18 3 ∧ M852 4 = M18 4 := by
              rcases cs852 with ⟨-, -, e⟩ | ⟨-, -, -, -, e⟩
              · rw [e]; exact ⟨rfl, rfl⟩
              · rw [e, uz_o (by decide), uz_o (by decide)]; exact ⟨rfl, rfl⟩
            have oX : oSy M862 := oSy_fr i18_2.2.2.2.1 (((f862 3 (by decide)).1).trans e34.1) (((f862 4 (by decide)).1).trans e34.2) (((f862 38 (by decide)).1).trans (f852 38 (by decide)).1) (((f862 39 (by decide)).1).trans (f852 39 (by decide)).1)
            obtain ⟨xeq, sx⟩ := sim_drop cx cs852 gs862
            have LX : LSy M862 J862 := LS_mk i18_2 (LI_r Lp ri862 (fun a ha => (f862 a (by unfold kRg; omega)).1)) (f862 54 (by decide)).2 oX sx
            have mX : 3 * M862 31 27 ≤ 200 * (i + 6) := by omega
            refine Z_pop (n := 866) dL_law_865 rfl rfl ?_
            refine Z_goto (t := 1296) dL_law_866 (by decide) ?_
            refine Z_iinc (L' := [_, _, _, _]) (n := 1299) dL_law_1296 rfl rfl (Nat.le_of_ble_eq_true rfl) rfl rfl (by omega) rfl ?_
            refine Z_goto (t := 18) dL_law_1299 (by decide) ?_
            refine Z_loc (L' := [some _, some _, some _, some _]) (lsub_same (lsub_same (lsub_same (lsub_same lsub_nil)))) ?_
            exact ih18 _ _ _ (by omega) (by first | assumption | omega | decide) (by first | assumption | omega | decide) (by exact LX) (by exact mX)
          refine zcases_cons (fun c33 t ht => ?_) ?_
          · obtain rfl : t = 869 := by omega
            refine Z_aload_n (n := 870) dL_law_869 rfl rfl ?_
            refine Z_aload_nS (n := 871) dL_law_870 rfl rfl ?_
            refine Z_iload_n (n := 872) dL_law_871 rfl rfl ?_
            refine Z_iconst (n := 873) dL_law_872 rfl (by decide) ?_
            refine Z_iadd (n := 874) dL_law_873 rfl (by omega) ?_
            refine Z_ialdS0 (n := 875) dL_law_874 rfl (by omega) (by omega) (fun r874 => ?_)
            refine Z_callVi (n := 878) [_] _ dL_law_875 rfl cwL_87 rfl rfl rfl (Nat.le_of_ble_eq_true rfl) (by refine ⟨?_, ?_, ?_, ?_⟩ <;> exact Nat.le_of_ble_eq_true rfl) (fun a h => h.elim) (zX3_nodes_k  (by exact i18_2.1.1)) ?_
            intro x875 M875 J875 z875 f875 q875
            have e875_1 := q875
            replace e875_1 := e875_1.symm; subst e875_1
            have c875 : cI M875 := cI_mk i18_2.1.1 (fun a ha => f875 a (by unfold kPub at ha; unfold kMarks; omega)) (pI_fr i18_2.1.1.1 (f875 5 (by decide)).1 (f875 6 (by decide)).1 (f875 10 (by decide)).1 (f875 11 (by decide)).1) (ordOK_fr i18_2.1.1.2.1 (f875 4 (by decide)).1)
            have Lp := LI_c i18_2.1 c875 (fun a ha => (f875 a (by unfold kPub at ha; unfold kMarks; omega)).1)
            have Ls : LSy M875 J18 := LS_mk i18_2 Lp rfl (oSy_fr i18_2.2.2.2.1 (f875 3 (by decide)).1 (f875 4 (by decide)).1 (f875 38 (by decide)).1 (f875 39 (by decide)).1) (sim_lo i18_2 (fun a h1 _ _ _ h5 => (f875 a (by unfold kMarks; omega)).1) (f875 43 (by decide)).1 (congrFun (f875 31 (by decide)).1 8) rfl)
            have m1 : M875 31 27 = M18 31 27 := congrFun (f875 31 (by decide)).1 27
            refine Z_pop (n := 879) dL_law_878 rfl rfl ?_
            refine Z_aload_n (n := 880) dL_law_879 rfl rfl ?_
            refine Z_aload_nS (n := 881) dL_law_880 rfl rfl ?_
            refine Z_iload_n (n := 882) dL_law_881 rfl rfl ?_
            refine Z_iconst (n := 883) dL_law_882 rfl (by decide) ?_
            refine Z_iadd (n := 884) dL_law_883 rfl (by omega) ?_
            refine Z_ialdS0 (n := 885) dL_law_884 rfl (by omega) (by omega) (fun r884 => ?_)
            refine Z_callVi (n := 888) [_] _ dL_law_885 rfl cwL_90 rfl rfl rfl (Nat.le_of_ble_eq_true rfl) (by refine ⟨?_, ?_, ?_, ?_⟩ <;> exact Nat.le_of_ble_eq_true rfl) (fun _ _ => trivial) (zX4_nodes_s  ) ?_
            intro x885 M885 J885 z885 f885 q885
            obtain ⟨e885_1, e885_2⟩ := q885
            replace e885_1 := e885_1.symm; subst e885_1
            replace e885_2 := e885_2.symm; subst e885_2
            have LX := Ls
            have mX : 3 * M875 31 27 ≤ 200 * (i + 6) := by omega
            refine Z_pop (n := 889) dL_law_888 rfl rfl ?_
            refine Z_goto (t := 1296) dL_law_889 (by decide) ?_
            refine Z_iinc (L' := [_, _, _, _]) (n := 1299) dL_law_1296 rfl rfl (Nat.le_of_ble_eq_true rfl) rfl rfl (by omega) rfl ?_
            refine Z_goto (t := 18) dL_law_1299 (by decide) ?_
            refine Z_loc (L' := [some _, some _, some _, some _]) (lsub_same (lsub_same (lsub_same (lsub_same lsub_nil)))) ?_
            exact ih18 _ _ _ (by omega) (by first | assumption | omega | decide) (by first | assumption | omega | decide) (by exact LX) (by exact mX)
          refine zcases_cons (fun c33 t ht => ?_) ?_
          · obtain rfl : t = 892 := by omega
            refine Z_aload_n (n := 893) dL_law_892 rfl rfl ?_
            refine Z_callVi (n := 896) [] _ dL_law_893 rfl cwL_91 rfl rfl rfl (Nat.le_of_ble_eq_true rfl) (by refine ⟨?_, ?_, ?_, ?_⟩ <;> exact Nat.le_of_ble_eq_true rfl) (fun a h => h.elim) (zX3_inUse_f  (by exact i18_2.2.1)) ?_
            intro x893 M893 J893 z893 f893 q893
            obtain ⟨e893_1, pi893, b893, cn893, hq893⟩ := q893
            replace e893_1 := e893_1.symm; subst e893_1
            have hq := hq893
            have c893 := cI_mk i18_2.1.1 (fun a ha => f893 a (by unfold kPub at ha; unfold kColl; omega)) pi893 (ordOK_fr i18_2.1.1.2.1 (f893 4 (by decide)).1)
            have Lp := LI_c i18_2.1 c893 (fun a ha => (f893 a (by unfold kPub at ha; unfold kColl; omega)).1)
            have ux := use_eq i18_2 ok18 cn893
            have Ls : LSy M893 J18 := LS_mk i18_2 Lp rfl (oSy_fr i18_2.2.2.2.1 (f893 3 (by decide)).1 (f893 4 (by decide)).1 (f893 38 (by decide)).1 (f893 39 (by decide)).1) ⟨hq.1, by rw [b893, (f893 31 (by decide)).1]; exact i18_2.2.2.2.2.1, fun j j0 j1 => by rw [hq.2.1, hq.2.2, (f893 43 (by decide)).1]; exact i18_2.2.2.2.2.2 j j0 j1⟩
            have m1 : M893 31 27 = M18 31 27 := congrFun (f893 31 (by decide)).1 27
            have m24 : M893 31 24 = M18 31 24 := congrFun (f893 31 (by decide)).1 24
            refine Z_pop (n := 897) dL_law_896 rfl rfl ?_
            refine Z_aload_n (n := 898) dL_law_897 rfl rfl ?_
            refine Z_callVi (n := 901) [] _ dL_law_898 rfl cwL_95 rfl rfl rfl (Nat.le_of_ble_eq_true rfl) (by refine ⟨?_, ?_, ?_, ?_⟩ <;> exact Nat.le_of_ble_eq_true rfl) (fun _ _ => trivial) (zX4_inUse  ) ?_
            intro x898 M898 J898 z898 f898 q898
            obtain ⟨e898_1, e898_2, h898⟩ := q898
            replace e898_1 := e898_1.symm; subst e898_1
            replace e898_2 := e898_2.symm; subst e898_2
            have xeq : x893 = x898 := by rw [ux, h898, m24]
            have LX := Ls
            have mX : 3 * M893 31 27 ≤ 200 * (i + 6) := by omega
            refine Z_pop (n := 902) dL_law_901 rfl rfl ?_
            refine Z_goto (t := 1296) dL_law_902 (by decide) ?_
            refine Z_iinc (L' := [_, _, _, _]) (n := 1299) dL_law_1296 rfl rfl (Nat.le_of_ble_eq_true rfl) rfl rfl (by omega) rfl ?_
            refine Z_goto (t := 18) dL_law_1299 (by decide) ?_
            refine Z_loc (L' := [some _, some _, some _, some _]) (lsub_same (lsub_same (lsub_same (lsub_same lsub_nil)))) ?_
            exact ih18 _ _ _ (by omega) (by first | assumption | omega | decide) (by first | assumption | omega | decide) (by exact LX) (by exact mX)
          refine zcases_cons (fun c33 t ht => ?_) ?_
          · obtain rfl : t = 905 := by omega
            refine Z_aload_n (n := 906) dL_law_905 rfl rfl ?_
            refine Z_aload_nS (n := 907) dL_law_906 rfl rfl ?_
            refine Z_iload_n (n := 908) dL_law_907 rfl rfl ?_
            refine Z_iconst (n := 909) dL_law_908 rfl (by decide) ?_
            refine Z_iadd (n := 910) dL_law_909 rfl (by omega) ?_
            refine Z_ialdS0 (n := 911) dL_law_910 rfl (by omega) (by omega) (fun r910 => ?_)
            refine Z_aload_nS (n := 912) dL_law_911 rfl rfl ?_
            refine Z_iload_n (n := 913) dL_law_912 rfl rfl ?_
            refine Z_iconst (n := 914) dL_law_913 rfl (by decide) ?_
            refine Z_iadd (n := 915) dL_law_914 rfl (by omega) ?_
            refine Z_ialdS0 (n := 916) dL_law_915 rfl (by omega) (by omega) (fun r915 => ?_)
            refine Z_callVi (n := 919) [_, _] _ dL_law_916 rfl cwL_96 rfl rfl rfl (Nat.le_of_ble_eq_true rfl) (by refine ⟨?_, ?_, ?_, ?_⟩ <;> exact Nat.le_of_ble_eq_true rfl) (fun a h => h.elim) (zX3_common_k  (by exact i18_2.1.1)) ?_
            intro x916 M916 J916 z916 f916 q916
            have e916_1 := q916
            replace e916_1 := e916_1.symm; subst e916_1
            have c916 : cI M916 := cI_mk i18_2.1.1 (fun a ha => f916 a (by unfold kPub at ha; unfold kMarks; omega)) (pI_fr i18_2.1.1.1 (f916 5 (by decide)).1 (f916 6 (by decide)).1 (f916 10 (by decide)).1 (f916 11 (by decide)).1) (ordOK_fr i18_2.1.1.2.1 (f916 4 (by decide)).1)
            have Lp := LI_c i18_2.1 c916 (fun a ha => (f916 a (by unfold kPub at ha; unfold kMarks; omega)).1)
            have Ls : LSy M916 J18 := LS_mk i18_2 Lp rfl (oSy_fr i18_2.2.2.2.1 (f916 3 (by decide)).1 (f916 4 (by decide)).1 (f916 38 (by decide)).1 (f916 39 (by decide)).1) (sim_lo i18_2 (fun a h1 _ _ _ h5 => (f916 a (by unfold kMarks; omega)).1) (f916 43 (by decide)).1 (congrFun (f916 31 (by decide)).1 8) rfl)
            have m1 : M916 31 27 = M18 31 27 := congrFun (f916 31 (by decide)).1 27
            refine Z_pop (n := 920) dL_law_919 rfl rfl ?_
            refine Z_aload_n (n := 921) dL_law_920 rfl rfl ?_
            refine Z_aload_nS (n := 922) dL_law_921 rfl rfl ?_
            refine Z_iload_n (n := 923) dL_law_922 rfl rfl ?_
            refine Z_iconst (n := 924) dL_law_923 rfl (by decide) ?_
            refine Z_iadd (n := 925) dL_law_924 rfl (by omega) ?_
            refine Z_ialdS0 (n := 926) dL_law_925 rfl (by omega) (by omega) (fun r925 => ?_)
            refine Z_aload_nS (n := 927) dL_law_926 rfl rfl ?_
            refine Z_iload_n (n := 928) dL_law_927 rfl rfl ?_
            refine Z_iconst (n := 929) dL_law_928 rfl (by decide) ?_
            refine Z_iadd (n := 930) dL_law_929 rfl (by omega) ?_
            refine Z_ialdS0 (n := 931) dL_law_930 rfl (by omega) (by omega) (fun r930 => ?_)
            refine Z_callVi (n := 934) [_, _] _ dL_law_931 rfl cwL_99 rfl rfl rfl (Nat.le_of_ble_eq_true rfl) (by refine ⟨?_, ?_, ?_, ?_⟩ <;> exact Nat.le_of_ble_eq_true rfl) (fun _ _ => trivial) (zX4_common_s  ) ?_
            intro x931 M931 J931 z931 f931 q931
            obtain ⟨e931_1, e931_2⟩ := q931
            replace e931_1 := e931_1.symm; subst e931_1
            replace e931_2 := e931_2.symm; subst e931_2
            have LX := Ls
            have mX : 3 * M916 31 27 ≤ 200 * (i + 6) := by omega
            refine Z_pop (n := 935) dL_law_934 rfl rfl ?_
            refine Z_goto (t := 1296) dL_law_935 (by decide) ?_
            refine Z_iinc (L' := [_, _, _, _]) (n := 1299) dL_law_1296 rfl rfl (Nat.le_of_ble_eq_true rfl) rfl rfl (by omega) rfl ?_
            refine Z_goto (t := 18) dL_law_1299 (by decide) ?_
            refine Z_loc (L' := [some _, some _, some _, some _]) (lsub_same (lsub_same (lsub_same (lsub_same lsub_nil)))) ?_
            exact ih18 _ _ _ (by omega) (by first | assumption | omega | decide) (by first | assumption | omega | decide) (by exact LX) (by exact mX)
          refine zcases_cons (fun c33 t ht => ?_) ?_
          · obtain rfl : t = 938 := by omega
            refine Z_aload_n (n := 939) dL_law_938 rfl rfl ?_
            refine Z_callVi (n := 942) [] _ dL_law_939 rfl cwL_100 rfl rfl rfl (Nat.le_of_ble_eq_true rfl) (by refine ⟨?_, ?_, ?_, ?_⟩ <;> exact Nat.le_of_ble_eq_true rfl) (fun _ _ => trivial) (zX3_peak  ) ?_
            intro x939 M939 J939 z939 f939 q939
            obtain ⟨e939_1, e939_2, h939⟩ := q939
            replace e939_1 := e939_1.symm; subst e939_1
            replace e939_2 := e939_2.symm; subst e939_2
            have Ls := i18_2
            have m1 : M18 31 27 = M18 31 27 := rfl
            refine Z_pop (n := 943) dL_law_942 rfl rfl ?_
            refine Z_aload_n (n := 944) dL_law_943 rfl rfl ?_
            refine Z_callVi (n := 947) [] _ dL_law_944 rfl cwL_103 rfl rfl rfl (Nat.le_of_ble_eq_true rfl) (by refine ⟨?_, ?_, ?_, ?_⟩ <;> exact Nat.le_of_ble_eq_true rfl) (fun _ _ => trivial) (zX4_peak  ) ?_
            intro x944 M944 J944 z944 f944 q944
            obtain ⟨e944_1, e944_2, h944⟩ := q944
            replace e944_1 := e944_1.symm; subst e944_1
            replace e944_2 := e944_2.symm; subst e944_2
            have LX := Ls
            have mX : 3 * M18 31 27 ≤ 200 * (i + 6) := by omega
            refine Z_pop (n := 948) dL_law_947 rfl rfl ?_
            refine Z_goto (t := 1296) dL_law_948 (by decide) ?_
            refine Z_iinc (L' := [_, _, _, _]) (n := 1299) dL_law_1296 rfl rfl (Nat.le_of_ble_eq_true rfl) rfl rfl (by omega) rfl ?_
            refine Z_goto (t := 18) dL_law_1299 (by decide) ?_
            refine Z_loc (L' := [some _, some _, some _, some _]) (lsub_same (lsub_same (lsub_same (lsub_same lsub_nil)))) ?_
            exact ih18 _ _ _ (by omega) (by first | assumption | omega | decide) (by first | assumption | omega | decide) (by exact LX) (by exact mX)
          refine zcases_cons (fun c33 t ht => ?_) ?_
          · obtain rfl : t = 951 := by omega
            refine Z_aload_n (n := 952) dL_law_951 rfl rfl ?_
            refine Z_aload_nS (n := 953) dL_law_952 rfl rfl ?_
            refine Z_iload_n (n := 954) dL_law_953 rfl rfl ?_
            refine Z_iconst (n := 955) dL_law_954 rfl (by decide) ?_
            refine Z_iadd (n := 956) dL_law_955 rfl (by omega) ?_
            refine Z_ialdS0 (n := 957) dL_law_956 rfl (by omega) (by omega) (fun r956 => ?_)
            refine Z_aload_nS (n := 958) dL_law_957 rfl rfl ?_
            refine Z_iload_n (n := 959) dL_law_958 rfl rfl ?_
            refine Z_iconst (n := 960) dL_law_959 rfl (by decide) ?_
            refine Z_iadd (n := 961) dL_law_960 rfl (by omega) ?_
            refine Z_ialdS0 (n := 962) dL_law_961 rfl (by omega) (by omega) (fun r961 => ?_)
            refine Z_callVi (n := 965) [_, _] _ dL_law_962 rfl cwL_104 rfl rfl rfl (Nat.le_of_ble_eq_true rfl) (by refine ⟨?_, ?_, ?_, ?_⟩ <;> exact Nat.le_of_ble_eq_true rfl) (fun _ _ => trivial) (zX3_value  ) ?_
            intro x962 M962 J962 z962 f962 q962
            obtain ⟨e962_1, e962_2, h962⟩ := q962
            replace e962_1 := e962_1.symm; subst e962_1
            replace e962_2 := e962_2.symm; subst e962_2
            have Ls := i18_2
            have m1 : M18 31 27 = M18 31 27 := rfl
            refine Z_pop (n := 966) dL_law_965 rfl rfl ?_
            refine Z_aload_n (n := 967) dL_law_966 rfl rfl ?_
            refine Z_aload_nS (n := 968) dL_law_967 rfl rfl ?_
            refine Z_iload_n (n := 969) dL_law_968 rfl rfl ?_
            refine Z_iconst (n := 970) dL_law_969 rfl (by decide) ?_
            refine Z_iadd (n := 971) dL_law_970 rfl (by omega) ?_
            refine Z_ialdS0 (n := 972) dL_law_971 rfl (by omega) (by omega) (fun r971 => ?_)
            refine Z_aload_nS (n := 973) dL_law_972 rfl rfl ?_
            refine Z_iload_n (n := 974) dL_law_973 rfl rfl ?_
            refine Z_iconst (n := 975) dL_law_974 rfl (by decide) ?_
            refine Z_iadd (n := 976) dL_law_975 rfl (by omega) ?_
            refine Z_ialdS0 (n := 977) dL_law_976 rfl (by omega) (by omega) (fun r976 => ?_)
            refine Z_callVi (n := 980) [_, _] _ dL_law_977 rfl cwL_107 rfl rfl rfl (Nat.le_of_ble_eq_true rfl) (by refine ⟨?_, ?_, ?_, ?_⟩ <;> exact Nat.le_of_ble_eq_true rfl) (fun _ _ => trivial) (zX4_value_s  ) ?_
            intro x977 M977 J977 z977 f977 q977
            obtain ⟨e977_1, e977_2⟩ := q977
            replace e977_1 := e977_1.symm; subst e977_1
            replace e977_2 := e977_2.symm; subst e977_2
            have LX := Ls
            have mX : 3 * M18 31 27 ≤ 200 * (i + 6) := by omega
            refine Z_pop (n := 981) dL_law_980 rfl rfl ?_
            refine Z_goto (t := 1296) dL_law_981 (by decide) ?_
            refine Z_iinc (L' := [_, _, _, _]) (n := 1299) dL_law_1296 rfl rfl (Nat.le_of_ble_eq_true rfl) rfl rfl (by omega) rfl ?_
            refine Z_goto (t := 18) dL_law_1299 (by decide) ?_
            refine Z_loc (L' := [some _, some _, some _, some _]) (lsub_same (lsub_same (lsub_same (lsub_same lsub_nil)))) ?_
            exact ih18 _ _ _ (by omega) (by first | assumption | omega | decide) (by first | assumption | omega | decide) (by exact LX) (by exact mX)
          refine zcases_cons (fun c33 t ht => ?_) ?_
          · obtain rfl : t = 984 := by omega
            refine Z_aload_n (n := 985) dL_law_984 rfl rfl ?_
            refine Z_aload_nS (n := 986) dL_law_985 rfl rfl ?_
            refine Z_iload_n (n := 987) dL_law_986 rfl rfl ?_
            refine Z_iconst (n := 988) dL_law_987 rfl (by decide) ?_
            refine Z_iadd (n := 989) dL_law_988 rfl (by omega) ?_
            refine Z_ialdS0 (n := 990) dL_law_989 rfl (by omega) (by omega) (fun r989 => ?_)
            refine Z_aload_nS (n := 991) dL_law_990 rfl rfl ?_
            refine Z_iload_n (n := 992) dL_law_991 rfl rfl ?_
            refine Z_iconst (n := 993) dL_law_992 rfl (by decide) ?_
            refine Z_iadd (n := 994) dL_law_993 rfl (by omega) ?_
            refine Z_ialdS0 (n := 995) dL_law_994 rfl (by omega) (by omega) (fun r994 => ?_)
            refine Z_callVi (n := 998) [_, _] _ dL_law_995 rfl cwL_108 rfl rfl rfl (Nat.le_of_ble_eq_true rfl) (by refine ⟨?_, ?_, ?_, ?_⟩ <;> exact Nat.le_of_ble_eq_true rfl) (fun _ _ => trivial) (zX3_same  ) ?_
            intro x995 M995 J995 z995 f995 q995
            obtain ⟨e995_1, e995_2, h995⟩ := q995
            replace e995_1 := e995_1.symm; subst e995_1
            replace e995_2 := e995_2.symm; subst e995_2
            have Ls := i18_2
            have m1 : M18 31 27 = M18 31 27 := rfl
            refine Z_pop (n := 999) dL_law_998 rfl rfl ?_
            refine Z_aload_n (n := 1000) dL_law_999 rfl rfl ?_
            refine Z_aload_nS (n := 1001) dL_law_1000 rfl rfl ?_
            refine Z_iload_n (n := 1002) dL_law_1001 rfl rfl ?_
            refine Z_iconst (n := 1003) dL_law_1002 rfl (by decide) ?_
            refine Z_iadd (n := 1004) dL_law_1003 rfl (by omega) ?_
            refine Z_ialdS0 (n := 1005) dL_law_1004 rfl (by omega) (by omega) (fun r1004 => ?_)
            refine Z_aload_nS (n := 1006) dL_law_1005 rfl rfl ?_
            refine Z_iload_n (n := 1007) dL_law_1006 rfl rfl ?_
            refine Z_iconst (n := 1008) dL_law_1007 rfl (by decide) ?_
            refine Z_iadd (n := 1009) dL_law_1008 rfl (by omega) ?_
            refine Z_ialdS0 (n := 1010) dL_law_1009 rfl (by omega) (by omega) (fun r1009 => ?_)
            refine Z_callVi (n := 1013) [_, _] _ dL_law_1010 rfl cwL_111 rfl rfl rfl (Nat.le_of_ble_eq_true rfl) (by refine ⟨?_, ?_, ?_, ?_⟩ <;> exact Nat.le_of_ble_eq_true rfl) (fun _ _ => trivial) (zX4_same_s  ) ?_
            intro x1010 M1010 J1010 z1010 f1010 q1010
            obtain ⟨e1010_1, e1010_2⟩ := q1010
            replace e1010_1 := e1010_1.symm; subst e1010_1
            replace e1010_2 := e1010_2.symm; subst e1010_2
            have LX := Ls
            have mX : 3 * M18 31 27 ≤ 200 * (i + 6) := by omega
            refine Z_pop (n := 1014) dL_law_1013 rfl rfl ?_
            refine Z_goto (t := 1296) dL_law_1014 (by decide) ?_
            refine Z_iinc (L' := [_, _, _, _]) (n := 1299) dL_law_1296 rfl rfl (Nat.le_of_ble_eq_true rfl) rfl rfl (by omega) rfl ?_
            refine Z_goto (t := 18) dL_law_1299 (by decide) ?_
            refine Z_loc (L' := [some _, some _, some _, some _]) (lsub_same (lsub_same (lsub_same (lsub_same lsub_nil)))) ?_
            exact ih18 _ _ _ (by omega) (by first | assumption | omega | decide) (by first | assumption | omega | decide) (by exact LX) (by exact mX)
          refine zcases_cons (fun c33 t ht => ?_) ?_
          · obtain rfl : t = 1017 := by omega
            refine Z_aload_n (n := 1018) dL_law_1017 rfl rfl ?_
            refine Z_aload_nS (n := 1019) dL_law_1018 rfl rfl ?_
            refine Z_iload_n (n := 1020) dL_law_1019 rfl rfl ?_
            refine Z_iconst (n := 1021) dL_law_1020 rfl (by decide) ?_
            refine Z_iadd (n := 1022) dL_law_1021 rfl (by omega) ?_
            refine Z_ialdS0 (n := 1023) dL_law_1022 rfl (by omega) (by omega) (fun r1022 => ?_)
            refine Z_callVi (n := 1026) [_] _ dL_law_1023 rfl cwL_112 rfl rfl rfl (Nat.le_of_ble_eq_true rfl) (by refine ⟨?_, ?_, ?_, ?_⟩ <;> exact Nat.le_of_ble_eq_true rfl) (fun _ _ => trivial) (zX3_count  ) ?_
            intro x1023 M1023 J1023 z1023 f1023 q1023
            obtain ⟨e1023_1, e1023_2, h1023⟩ := q1023
            replace e1023_1 := e1023_1.symm; subst e1023_1
            replace e1023_2 := e1023_2.symm; subst e1023_2
            have Ls := i18_2
            have m1 : M18 31 27 = M18 31 27 := rfl
            refine Z_pop (n := 1027) dL_law_1026 rfl rfl ?_
            refine Z_aload_n (n := 1028) dL_law_1027 rfl rfl ?_
            refine Z_aload_nS (n := 1029) dL_law_1028 rfl rfl ?_
            refine Z_iload_n (n := 1030) dL_law_1029 rfl rfl ?_
            refine Z_iconst (n := 1031) dL_law_1030 rfl (by decide) ?_
            refine Z_iadd (n := 1032) dL_law_1031 rfl (by omega) ?_
            refine Z_ialdS0 (n := 1033) dL_law_1032 rfl (by omega) (by omega) (fun r1032 => ?_)
            refine Z_callVi (n := 1036) [_] _ dL_law_1033 rfl cwL_115 rfl rfl rfl (Nat.le_of_ble_eq_true rfl) (by refine ⟨?_, ?_, ?_, ?_⟩ <;> exact Nat.le_of_ble_eq_true rfl) (fun _ _ => trivial) (zX4_count_s  ) ?_
            intro x1033 M1033 J1033 z1033 f1033 q1033
            obtain ⟨e1033_1, e1033_2⟩ := q1033
            replace e1033_1 := e1033_1.symm; subst e1033_1
            replace e1033_2 := e1033_2.symm; subst e1033_2
            have LX := Ls
            have mX : 3 * M18 31 27 ≤ 200 * (i + 6) := by omega
            refine Z_pop (n := 1037) dL_law_1036 rfl rfl ?_
            refine Z_goto (t := 1296) dL_law_1037 (by decide) ?_
            refine Z_iinc (L' := [_, _, _, _]) (n := 1299) dL_law_1296 rfl rfl (Nat.le_of_ble_eq_true rfl) rfl rfl (by omega) rfl ?_
            refine Z_goto (t := 18) dL_law_1299 (by decide) ?_
            refine Z_loc (L' := [some _, some _, some _, some _]) (lsub_same (lsub_same (lsub_same (lsub_same lsub_nil)))) ?_
            exact ih18 _ _ _ (by omega) (by first | assumption | omega | decide) (by first | assumption | omega | decide) (by exact LX) (by exact mX)
          refine zcases_cons (fun c33 t ht => ?_) ?_
          · obtain rfl : t = 1040 := by omega
            refine Z_aload_n (n := 1041) dL_law_1040 rfl rfl ?_
            refine Z_aload_nS (n := 1042) dL_law_1041 rfl rfl ?_
            refine Z_iload_n (n := 1043) dL_law_1042 rfl rfl ?_
            refine Z_iconst (n := 1044) dL_law_1043 rfl (by decide) ?_
            refine Z_iadd (n := 1045) dL_law_1044 rfl (by omega) ?_
            refine Z_ialdS0 (n := 1046) dL_law_1045 rfl (by omega) (by omega) (fun r1045 => ?_)
            refine Z_callVi (n := 1049) [_] _ dL_law_1046 rfl cwL_116 rfl rfl rfl (Nat.le_of_ble_eq_true rfl) (by refine ⟨?_, ?_, ?_, ?_⟩ <;> exact Nat.le_of_ble_eq_true rfl) (fun a h => h.elim) (zX3_support_k  (by exact i18_2.1.1)) ?_
            intro x1046 M1046 J1046 z1046 f1046 q1046
            have e1046_1 := q1046
            replace e1046_1 := e1046_1.symm; subst e1046_1
            have c1046 : cI M1046 := cI_mk i18_2.1.1 (fun a ha => f1046 a (by unfold kPub at ha; unfold kMarks; omega)) (pI_fr i18_2.1.1.1 (f1046 5 (by decide)).1 (f1046 6 (by decide)).1 (f1046 10 (by decide)).1 (f1046 11 (by decide)).1) (ordOK_fr i18_2.1.1.2.1 (f1046 4 (by decide)).1)
            have Lp := LI_c i18_2.1 c1046 (fun a ha => (f1046 a (by unfold kPub at ha; unfold kMarks; omega)).1)
            have Ls : LSy M1046 J18 := LS_mk i18_2 Lp rfl (oSy_fr i18_2.2.2.2.1 (f1046 3 (by decide)).1 (f1046 4 (by decide)).1 (f1046 38 (by decide)).1 (f1046 39 (by decide)).1) (sim_lo i18_2 (fun a h1 _ _ _ h5 => (f1046 a (by unfold kMarks; omega)).1) (f1046 43 (by decide)).1 (congrFun (f1046 31 (by decide)).1 8) rfl)
            have m1 : M1046 31 27 = M18 31 27 := congrFun (f1046 31 (by decide)).1 27
            refine Z_pop (n := 1050) dL_law_1049 rfl rfl ?_
            refine Z_aload_n (n := 1051) dL_law_1050 rfl rfl ?_
            refine Z_aload_nS (n := 1052) dL_law_1051 rfl rfl ?_
            refine Z_iload_n (n := 1053) dL_law_1052 rfl rfl ?_
            refine Z_iconst (n := 1054) dL_law_1053 rfl (by decide) ?_
            refine Z_iadd (n := 1055) dL_law_1054 rfl (by omega) ?_
            refine Z_ialdS0 (n := 1056) dL_law_1055 rfl (by omega) (by omega) (fun r1055 => ?_)
            refine Z_callVi (n := 1059) [_] _ dL_law_1056 rfl cwL_119 rfl rfl rfl (Nat.le_of_ble_eq_true rfl) (by refine ⟨?_, ?_, ?_, ?_⟩ <;> exact Nat.le_of_ble_eq_true rfl) (fun _ _ => trivial) (zX4_support_s  ) ?_
            intro x1056 M1056 J1056 z1056 f1056 q1056
            obtain ⟨e1056_1, e1056_2⟩ := q1056
            replace e1056_1 := e1056_1.symm; subst e1056_1
            replace e1056_2 := e1056_2.symm; subst e1056_2
            have LX := Ls
            have mX : 3 * M1046 31 27 ≤ 200 * (i + 6) := by omega
            refine Z_pop (n := 1060) dL_law_1059 rfl rfl ?_
            refine Z_goto (t := 1296) dL_law_1060 (by decide) ?_
            refine Z_iinc (L' := [_, _, _, _]) (n := 1299) dL_law_1296 rfl rfl (Nat.le_of_ble_eq_true rfl) rfl rfl (by omega) rfl ?_
            refine Z_goto (t := 18) dL_law_1299 (by decide) ?_
            refine Z_loc (L' := [some _, some _, some _, some _]) (lsub_same (lsub_same (lsub_same (lsub_same lsub_nil)))) ?_
            exact ih18 _ _ _ (by omega) (by first | assumption | omega | decide) (by first | assumption | omega | decide) (by exact LX) (by exact mX)
          refine zcases_cons (fun c33 t ht => ?_) ?_
          · obtain rfl : t = 1063 := by omega
            refine Z_aload_n (n := 1064) dL_law_1063 rfl rfl ?_
            refine Z_aload_nS (n := 1065) dL_law_1064 rfl rfl ?_
            refine Z_iload_n (n := 1066) dL_law_1065 rfl rfl ?_
            refine Z_iconst (n := 1067) dL_law_1066 rfl (by decide) ?_
            refine Z_iadd (n := 1068) dL_law_1067 rfl (by omega) ?_
            refine Z_ialdS0 (n := 1069) dL_law_1068 rfl (by omega) (by omega) (fun r1068 => ?_)
            refine Z_callVi (n := 1072) [_] _ dL_law_1069 rfl cwL_120 rfl rfl rfl (Nat.le_of_ble_eq_true rfl) (by refine ⟨?_, ?_, ?_, ?_⟩ <;> exact Nat.le_of_ble_eq_true rfl) (fun _ _ => trivial) (zX3_top  ) ?_
            intro x1069 M1069 J1069 z1069 f1069 q1069
            obtain ⟨e1069_1, e1069_2, h1069⟩ := q1069
            replace e1069_1 := e1069_1.symm; subst e1069_1
            replace e1069_2 := e1069_2.symm; subst e1069_2
            have Ls := i18_2
            have m1 : M18 31 27 = M18 31 27 := rfl
            refine Z_pop (n := 1073) dL_law_1072 rfl rfl ?_
            refine Z_aload_n (n := 1074) dL_law_1073 rfl rfl ?_
            refine Z_aload_nS (n := 1075) dL_law_1074 rfl rfl ?_
            refine Z_iload_n (n := 1076) dL_law_1075 rfl rfl ?_
            refine Z_iconst (n := 1077) dL_law_1076 rfl (by decide) ?_
            refine Z_iadd (n := 1078) dL_law_1077 rfl (by omega) ?_
            refine Z_ialdS0 (n := 1079) dL_law_1078 rfl (by omega) (by omega) (fun r1078 => ?_)
            refine Z_callVi (n := 1082) [_] _ dL_law_1079 rfl cwL_123 rfl rfl rfl (Nat.le_of_ble_eq_true rfl) (by refine ⟨?_, ?_, ?_, ?_⟩ <;> exact Nat.le_of_ble_eq_true rfl) (fun _ _ => trivial) (zX4_top_s  ) ?_
            intro x1079 M1079 J1079 z1079 f1079 q1079
            obtain ⟨e1079_1, e1079_2⟩ := q1079
            replace e1079_1 := e1079_1.symm; subst e1079_1
            replace e1079_2 := e1079_2.symm; subst e1079_2
            have LX := Ls
            have mX : 3 * M18 31 27 ≤ 200 * (i + 6) := by omega
            refine Z_pop (n := 1083) dL_law_1082 rfl rfl ?_
            refine Z_goto (t := 1296) dL_law_1083 (by decide) ?_
            refine Z_iinc (L' := [_, _, _, _]) (n := 1299) dL_law_1296 rfl rfl (Nat.le_of_ble_eq_true rfl) rfl rfl (by omega) rfl ?_
            refine Z_goto (t := 18) dL_law_1299 (by decide) ?_
            refine Z_loc (L' := [some _, some _, some _, some _]) (lsub_same (lsub_same (lsub_same (lsub_same lsub_nil)))) ?_
            exact ih18 _ _ _ (by omega) (by first | assumption | omega | decide) (by first | assumption | omega | decide) (by exact LX) (by exact mX)
          refine zcases_cons (fun c33 t ht => ?_) ?_
          · obtain rfl : t = 1086 := by omega
            refine Z_aload_n (n := 1087) dL_law_1086 rfl rfl ?_
            refine Z_aload_nS (n := 1088) dL_law_1087 rfl rfl ?_
            refine Z_iload_n (n := 1089) dL_law_1088 rfl rfl ?_
            refine Z_iconst (n := 1090) dL_law_1089 rfl (by decide) ?_
            refine Z_iadd (n := 1091) dL_law_1090 rfl (by omega) ?_
            refine Z_ialdS0 (n := 1092) dL_law_1091 rfl (by omega) (by omega) (fun r1091 => ?_)
            refine Z_aload_nS (n := 1093) dL_law_1092 rfl rfl ?_
            refine Z_iload_n (n := 1094) dL_law_1093 rfl rfl ?_
            refine Z_iconst (n := 1095) dL_law_1094 rfl (by decide) ?_
            refine Z_iadd (n := 1096) dL_law_1095 rfl (by omega) ?_
            refine Z_ialdS0 (n := 1097) dL_law_1096 rfl (by omega) (by omega) (fun r1096 => ?_)
            refine Z_callVi (n := 1100) [_, _] _ dL_law_1097 rfl cwL_124 rfl rfl rfl (Nat.le_of_ble_eq_true rfl) (by refine ⟨?_, ?_, ?_, ?_⟩ <;> exact Nat.le_of_ble_eq_true rfl) (fun a h => h.elim) (zX3_level_k  (by exact i18_2.1.1)) ?_
            intro x1097 M1097 J1097 z1097 f1097 q1097
            have e1097_1 := q1097
            replace e1097_1 := e1097_1.symm; subst e1097_1
            have c1097 : cI M1097 := cI_mk i18_2.1.1 (fun a ha => f1097 a (by unfold kPub at ha; unfold kMarks; omega)) (pI_fr i18_2.1.1.1 (f1097 5 (by decide)).1 (f1097 6 (by decide)).1 (f1097 10 (by decide)).1 (f1097 11 (by decide)).1) (ordOK_fr i18_2.1.1.2.1 (f1097 4 (by decide)).1)
            have Lp := LI_c i18_2.1 c1097 (fun a ha => (f1097 a (by unfold kPub at ha; unfold kMarks; omega)).1)
            have Ls : LSy M1097 J18 := LS_mk i18_2 Lp rfl (oSy_fr i18_2.2.2.2.1 (f1097 3 (by decide)).1 (f1097 4 (by decide)).1 (f1097 38 (by decide)).1 (f1097 39 (by decide)).1) (sim_lo i18_2 (fun a h1 _ _ _ h5 => (f1097 a (by unfold kMarks; omega)).1) (f1097 43 (by decide)).1 (congrFun (f1097 31 (by decide)).1 8) rfl)
            have m1 : M1097 31 27 = M18 31 27 := congrFun (f1097 31 (by decide)).1 27
            refine Z_pop (n := 1101) dL_law_1100 rfl rfl ?_
            refine Z_aload_n (n := 1102) dL_law_1101 rfl rfl ?_
            refine Z_aload_nS (n := 1103) dL_law_1102 rfl rfl ?_
            refine Z_iload_n (n := 1104) dL_law_1103 rfl rfl ?_
            refine Z_iconst (n := 1105) dL_law_1104 rfl (by decide) ?_
            refine Z_iadd (n := 1106) dL_law_1105 rfl (by omega) ?_
            refine Z_ialdS0 (n := 1107) dL_law_1106 rfl (by omega) (by omega) (fun r1106 => ?_)
            refine Z_aload_nS (n := 1108) dL_law_1107 rfl rfl ?_
            refine Z_iload_n (n := 1109) dL_law_1108 rfl rfl ?_
            refine Z_iconst (n := 1110) dL_law_1109 rfl (by decide) ?_
            refine Z_iadd (n := 1111) dL_law_1110 rfl (by omega) ?_
            refine Z_ialdS0 (n := 1112) dL_law_1111 rfl (by omega) (by omega) (fun r1111 => ?_)
            refine Z_callVi (n := 1115) [_, _] _ dL_law_1112 rfl cwL_127 rfl rfl rfl (Nat.le_of_ble_eq_true rfl) (by refine ⟨?_, ?_, ?_, ?_⟩ <;> exact Nat.le_of_ble_eq_true rfl) (fun _ _ => trivial) (zX4_level_s  ) ?_
            intro x1112 M1112 J1112 z1112 f1112 q1112
            obtain ⟨e1112_1, e1112_2⟩ := q1112
            replace e1112_1 := e1112_1.symm; subst e1112_1
            replace e1112_2 := e1112_2.symm; subst e1112_2
            have LX := Ls
            have mX : 3 * M1097 31 27 ≤ 200 * (i + 6) := by omega
            refine Z_pop (n := 1116) dL_law_1115 rfl rfl ?_
            refine Z_goto (t := 1296) dL_law_1116 (by decide) ?_
            refine Z_iinc (L' := [_, _, _, _]) (n := 1299) dL_law_1296 rfl rfl (Nat.le_of_ble_eq_true rfl) rfl rfl (by omega) rfl ?_
            refine Z_goto (t := 18) dL_law_1299 (by decide) ?_
            refine Z_loc (L' := [some _, some _, some _, some _]) (lsub_same (lsub_same (lsub_same (lsub_same lsub_nil)))) ?_
            exact ih18 _ _ _ (by omega) (by first | assumption | omega | decide) (by first | assumption | omega | decide) (by exact LX) (by exact mX)
          refine zcases_cons (fun c33 t ht => ?_) ?_
          · obtain rfl : t = 1119 := by omega
            refine Z_aload_n (n := 1120) dL_law_1119 rfl rfl ?_
            refine Z_aload_nS (n := 1121) dL_law_1120 rfl rfl ?_
            refine Z_iload_n (n := 1122) dL_law_1121 rfl rfl ?_
            refine Z_iconst (n := 1123) dL_law_1122 rfl (by decide) ?_
            refine Z_iadd (n := 1124) dL_law_1123 rfl (by omega) ?_
            refine Z_ialdS0 (n := 1125) dL_law_1124 rfl (by omega) (by omega) (fun r1124 => ?_)
            refine Z_aload_nS (n := 1126) dL_law_1125 rfl rfl ?_
            refine Z_iload_n (n := 1127) dL_law_1126 rfl rfl ?_
            refine Z_iconst (n := 1128) dL_law_1127 rfl (by decide) ?_
            refine Z_iadd (n := 1129) dL_law_1128 rfl (by omega) ?_
            refine Z_ialdS0 (n := 1130) dL_law_1129 rfl (by omega) (by omega) (fun r1129 => ?_)
            refine Z_if_eq (n := 1133) (t := 1137) dL_law_1130 rfl (by decide) (fun c1130 => ?_) (fun c1130 => ?_)
            · refine Z_iconst (n := 1138) dL_law_1137 rfl (by decide) ?_
              refine Z_callVi (n := 1141) [_, _] _ dL_law_1138 rfl cwL_128 rfl rfl rfl (Nat.le_of_ble_eq_true rfl) (by refine ⟨?_, ?_, ?_, ?_⟩ <;> exact Nat.le_of_ble_eq_true rfl) (fun _ _ => trivial) (zX3_least  ) ?_
              intro x1138 M1138 J1138 z1138 f1138 q1138
              obtain ⟨e1138_1, e1138_2, h1138⟩ := q1138
              replace e1138_1 := e1138_1.symm; subst e1138_1
              replace e1138_2 := e1138_2.symm; subst e1138_2
              have Ls := i18_2
              have m1 : M18 31 27 = M18 31 27 := rfl
              refine Z_pop (n := 1142) dL_law_1141 rfl rfl ?_
              refine Z_aload_n (n := 1143) dL_law_1142 rfl rfl ?_
              refine Z_aload_nS (n := 1144) dL_law_1143 rfl rfl ?_
              refine Z_iload_n (n := 1145) dL_law_1144 rfl rfl ?_
              refine Z_iconst (n := 1146) dL_law_1145 rfl (by decide) ?_
              refine Z_iadd (n := 1147) dL_law_1146 rfl (by omega) ?_
              refine Z_ialdS0 (n := 1148) dL_law_1147 rfl (by omega) (by omega) (fun r1147 => ?_)
              refine Z_aload_nS (n := 1149) dL_law_1148 rfl rfl ?_
              refine Z_iload_n (n := 1150) dL_law_1149 rfl rfl ?_
              refine Z_iconst (n := 1151) dL_law_1150 rfl (by decide) ?_
              refine Z_iadd (n := 1152) dL_law_1151 rfl (by omega) ?_
              refine Z_ialdS0 (n := 1153) dL_law_1152 rfl (by omega) (by omega) (fun r1152 => ?_)
              refine Z_if_eq (n := 1156) (t := 1160) dL_law_1153 rfl (by decide) (fun c1153 => ?_) (fun c1153 => ?_)
              · refine Z_iconst (n := 1161) dL_law_1160 rfl (by decide) ?_
                refine Z_callVi (n := 1164) [_, _] _ dL_law_1161 rfl cwL_132 rfl rfl rfl (Nat.le_of_ble_eq_true rfl) (by refine ⟨?_, ?_, ?_, ?_⟩ <;> exact Nat.le_of_ble_eq_true rfl) (fun _ _ => trivial) (zX4_least_s  ) ?_
                intro x1161 M1161 J1161 z1161 f1161 q1161
                obtain ⟨e1161_1, e1161_2⟩ := q1161
                replace e1161_1 := e1161_1.symm; subst e1161_1
                replace e1161_2 := e1161_2.symm; subst e1161_2
                have LX := Ls
                have mX : 3 * M18 31 27 ≤ 200 * (i + 6) := by omega
                refine Z_pop (n := 1165) dL_law_1164 rfl rfl ?_
                refine Z_goto (t := 1296) dL_law_1165 (by decide) ?_
                refine Z_iinc (L' := [_, _, _, _]) (n := 1299) dL_law_1296 rfl rfl (Nat.le_of_ble_eq_true rfl) rfl rfl (by omega) rfl ?_
                refine Z_goto (t := 18) dL_law_1299 (by decide) ?_
                refine Z_loc (L' := [some _, some _, some _, some _]) (lsub_same (lsub_same (lsub_same (lsub_same lsub_nil)))) ?_
                exact ih18 _ _ _ (by omega) (by first | assumption | omega | decide) (by first | assumption | omega | decide) (by exact LX) (by exact mX)
              · refine Z_iconst (n := 1157) dL_law_1156 rfl (by decide) ?_
                refine Z_goto (t := 1161) dL_law_1157 (by decide) ?_
                refine Z_callVi (n := 1164) [_, _] _ dL_law_1161 rfl cwL_132 rfl rfl rfl (Nat.le_of_ble_eq_true rfl) (by refine ⟨?_, ?_, ?_, ?_⟩ <;> exact Nat.le_of_ble_eq_true rfl) (fun _ _ => trivial) (zX4_least_s  ) ?_
                intro x1161 M1161 J1161 z1161 f1161 q1161
                obtain ⟨e1161_1, e1161_2⟩ := q1161
                replace e1161_1 := e1161_1.symm; subst e1161_1
                replace e1161_2 := e1161_2.symm; subst e1161_2
                have LX := Ls
                have mX : 3 * M18 31 27 ≤ 200 * (i + 6) := by omega
                refine Z_pop (n := 1165) dL_law_1164 rfl rfl ?_
                refine Z_goto (t := 1296) dL_law_1165 (by decide) ?_
                refine Z_iinc (L' := [_, _, _, _]) (n := 1299) dL_law_1296 rfl rfl (Nat.le_of_ble_eq_true rfl) rfl rfl (by omega) rfl ?_
                refine Z_goto (t := 18) dL_law_1299 (by decide) ?_
                refine Z_loc (L' := [some _, some _, some _, some _]) (lsub_same (lsub_same (lsub_same (lsub_same lsub_nil)))) ?_
                exact ih18 _ _ _ (by omega) (by first | assumption | omega | decide) (by first | assumption | omega | decide) (by exact LX) (by exact mX)
            · refine Z_iconst (n := 1134) dL_law_1133 rfl (by decide) ?_
              refine Z_goto (t := 1138) dL_law_1134 (by decide) ?_
              refine Z_callVi (n := 1141) [_, _] _ dL_law_1138 rfl cwL_128 rfl rfl rfl (Nat.le_of_ble_eq_true rfl) (by refine ⟨?_, ?_, ?_, ?_⟩ <;> exact Nat.le_of_ble_eq_true rfl) (fun _ _ => trivial) (zX3_least  ) ?_
              intro x1138 M1138 J1138 z1138 f1138 q1138
              obtain ⟨e1138_1, e1138_2, h1138⟩ := q1138
              replace e1138_1 := e1138_1.symm; subst e1138_1
              replace e1138_2 := e1138_2.symm; subst e1138_2
              have Ls := i18_2
              have m1 : M18 31 27 = M18 31 27 := rfl
              refine Z_pop (n := 1142) dL_law_1141 rfl rfl ?_
              refine Z_aload_n (n := 1143) dL_law_1142 rfl rfl ?_
              refine Z_aload_nS (n := 1144) dL_law_1143 rfl rfl ?_
              refine Z_iload_n (n := 1145) dL_law_1144 rfl rfl ?_
              refine Z_iconst (n := 1146) dL_law_1145 rfl (by decide) ?_
              refine Z_iadd (n := 1147) dL_law_1146 rfl (by omega) ?_
              refine Z_ialdS0 (n := 1148) dL_law_1147 rfl (by omega) (by omega) (fun r1147 => ?_)
              refine Z_aload_nS (n := 1149) dL_law_1148 rfl rfl ?_
              refine Z_iload_n (n := 1150) dL_law_1149 rfl rfl ?_
              refine Z_iconst (n := 1151) dL_law_1150 rfl (by decide) ?_
              refine Z_iadd (n := 1152) dL_law_1151 rfl (by omega) ?_
              refine Z_ialdS0 (n := 1153) dL_law_1152 rfl (by omega) (by omega) (fun r1152 => ?_)
              refine Z_if_eq (n := 1156) (t := 1160) dL_law_1153 rfl (by decide) (fun c1153 => ?_) (fun c1153 => ?_)
              · refine Z_iconst (n := 1161) dL_law_1160 rfl (by decide) ?_
                refine Z_callVi (n := 1164) [_, _] _ dL_law_1161 rfl cwL_132 rfl rfl rfl (Nat.le_of_ble_eq_true rfl) (by refine ⟨?_, ?_, ?_, ?_⟩ <;> exact Nat.le_of_ble_eq_true rfl) (fun _ _ => trivial) (zX4_least_s  ) ?_
                intro x1161 M1161 J1161 z1161 f1161 q1161
                obtain ⟨e1161_1, e1161_2⟩ := q1161
                replace e1161_1 := e1161_1.symm; subst e1161_1
                replace e1161_2 := e1161_2.symm; subst e1161_2
                have LX := Ls
                have mX : 3 * M18 31 27 ≤ 200 * (i + 6) := by omega
                refine Z_pop (n := 1165) dL_law_1164 rfl rfl ?_
                refine Z_goto (t := 1296) dL_law_1165 (by decide) ?_
                refine Z_iinc (L' := [_, _, _, _]) (n := 1299) dL_law_1296 rfl rfl (Nat.le_of_ble_eq_true rfl) rfl rfl (by omega) rfl ?_
                refine Z_goto (t := 18) dL_law_1299 (by decide) ?_
                refine Z_loc (L' := [some _, some _, some _, some _]) (lsub_same (lsub_same (lsub_same (lsub_same lsub_nil)))) ?_
                exact ih18 _ _ _ (by omega) (by first | assumption | omega | decide) (by first | assumption | omega | decide) (by exact LX) (by exact mX)
              · refine Z_iconst (n := 1157) dL_law_1156 rfl (by decide) ?_
                refine Z_goto (t := 1161) dL_law_1157 (by decide) ?_
                refine Z_callVi (n := 1164) [_, _] _ dL_law_1161 rfl cwL_132 rfl rfl rfl (Nat.le_of_ble_eq_true rfl) (by refine ⟨?_, ?_, ?_, ?_⟩ <;> exact Nat.le_of_ble_eq_true rfl) (fun _ _ => trivial) (zX4_least_s  ) ?_
                intro x1161 M1161 J1161 z1161 f1161 q1161
                obtain ⟨e1161_1, e1161_2⟩ := q1161
                replace e1161_1 := e1161_1.symm; subst e1161_1
                replace e1161_2 := e1161_2.symm; subst e1161_2
                have LX := Ls
                have mX : 3 * M18 31 27 ≤ 200 * (i + 6) := by omega
                refine Z_pop (n := 1165) dL_law_1164 rfl rfl ?_
                refine Z_goto (t := 1296) dL_law_1165 (by decide) ?_
                refine Z_iinc (L' := [_, _, _, _]) (n := 1299) dL_law_1296 rfl rfl (Nat.le_of_ble_eq_true rfl) rfl rfl (by omega) rfl ?_
                refine Z_goto (t := 18) dL_law_1299 (by decide) ?_
                refine Z_loc (L' := [some _, some _, some _, some _]) (lsub_same (lsub_same (lsub_same (lsub_same lsub_nil)))) ?_
                exact ih18 _ _ _ (by omega) (by first | assumption | omega | decide) (by first | assumption | omega | decide) (by exact LX) (by exact mX)
          refine zcases_cons (fun c33 t ht => ?_) ?_
          · obtain rfl : t = 1168 := by omega
            refine Z_aload_n (n := 1169) dL_law_1168 rfl rfl ?_
            refine Z_aload_nS (n := 1170) dL_law_1169 rfl rfl ?_
            refine Z_iload_n (n := 1171) dL_law_1170 rfl rfl ?_
            refine Z_iconst (n := 1172) dL_law_1171 rfl (by decide) ?_
            refine Z_iadd (n := 1173) dL_law_1172 rfl (by omega) ?_
            refine Z_ialdS0 (n := 1174) dL_law_1173 rfl (by omega) (by omega) (fun r1173 => ?_)
            refine Z_aload_nS (n := 1175) dL_law_1174 rfl rfl ?_
            refine Z_iload_n (n := 1176) dL_law_1175 rfl rfl ?_
            refine Z_iconst (n := 1177) dL_law_1176 rfl (by decide) ?_
            refine Z_iadd (n := 1178) dL_law_1177 rfl (by omega) ?_
            refine Z_ialdS0 (n := 1179) dL_law_1178 rfl (by omega) (by omega) (fun r1178 => ?_)
            refine Z_if_eq (n := 1182) (t := 1186) dL_law_1179 rfl (by decide) (fun c1179 => ?_) (fun c1179 => ?_)
            · refine Z_iconst (n := 1187) dL_law_1186 rfl (by decide) ?_
              refine Z_callVi (n := 1190) [_, _] _ dL_law_1187 rfl cwL_133 rfl rfl rfl (Nat.le_of_ble_eq_true rfl) (by refine ⟨?_, ?_, ?_, ?_⟩ <;> exact Nat.le_of_ble_eq_true rfl) (fun _ _ => trivial) (zX3_paths_f  ) ?_
              intro x1187 M1187 J1187 z1187 f1187 q1187
              obtain ⟨e1187_1, e1187_2, pa1187⟩ := q1187
              replace e1187_1 := e1187_1.symm; subst e1187_1
              replace e1187_2 := e1187_2.symm; subst e1187_2
              have Ls := i18_2
              have m1 : M18 31 27 = M18 31 27 := rfl
              have Lp := i18_2.1
              refine Z_aload_n (n := 1191) dL_law_1190 rfl rfl ?_
              refine Z_aload_nS (n := 1192) dL_law_1191 rfl rfl ?_
              refine Z_iload_n (n := 1193) dL_law_1192 rfl rfl ?_
              refine Z_iconst (n := 1194) dL_law_1193 rfl (by decide) ?_
              refine Z_iadd (n := 1195) dL_law_1194 rfl (by omega) ?_
              refine Z_ialdS0 (n := 1196) dL_law_1195 rfl (by omega) (by omega) (fun r1195 => ?_)
              refine Z_aload_nS (n := 1197) dL_law_1196 rfl rfl ?_
              refine Z_iload_n (n := 1198) dL_law_1197 rfl rfl ?_
              refine Z_iconst (n := 1199) dL_law_1198 rfl (by decide) ?_
              refine Z_iadd (n := 1200) dL_law_1199 rfl (by omega) ?_
              refine Z_ialdS0 (n := 1201) dL_law_1200 rfl (by omega) (by omega) (fun r1200 => ?_)
              refine Z_if_eq (n := 1204) (t := 1208) dL_law_1201 rfl (by decide) (fun c1201 => ?_) (fun c1201 => ?_)
              · refine Z_iconst (n := 1209) dL_law_1208 rfl (by decide) ?_
                refine Z_callVi (n := 1212) [_, _] _ dL_law_1209 rfl cwL_136 rfl rfl rfl (Nat.le_of_ble_eq_true rfl) (by refine ⟨?_, ?_, ?_, ?_⟩ <;> exact Nat.le_of_ble_eq_true rfl) (fun a h => h.elim) (zX4_paths_g  ) ?_
                intro x1209 M1209 J1209 z1209 f1209 q1209
                have pa1209 := q1209
                have xeq : x1187 = x1209 := by
                  first
                    | (exfalso; omega)
                    | exact sim_paths i18_2 (fun _ _ => rfl) (by decide) pa1187 pa1209
                have ri1209 : RI M1209 J1209 := RI_ord Lp.2.1 (fun j _ _ => by rw [(f1209 31 (by decide)).1]) (rOrd_fr Lp.2.1.2.2.2.1 (f1209 39 (by decide)).1) (fun a ha => (f1209 a (by unfold kWy; omega)).1) (f1209 44 (by decide)).2 (f1209 48 (by decide)).2
                have Lz := LI_r Lp ri1209 (fun a ha => (f1209 a (by unfold kWy; omega)).1)
                have LX : LSy M1209 J1209 := LS_mk Ls Lz (f1209 54 (by decide)).2 (oSy_fr Ls.2.2.2.1 (f1209 3 (by decide)).1 (f1209 4 (by decide)).1 (f1209 38 (by decide)).1 (f1209 39 (by decide)).1) (sim_lo Ls (fun a h1 _ _ _ _ => (f1209 a (by unfold kWy; omega)).1) (f1209 43 (by decide)).1 (congrFun (f1209 31 (by decide)).1 8) (f1209 44 (by decide)).2)
                have m2 : M1209 31 27 = M18 31 27 := congrFun (f1209 31 (by decide)).1 27
                have mX : 3 * M1209 31 27 ≤ 200 * (i + 6) := by omega
                refine Z_icmp_eq (n := 1215) (t := 1296) dL_law_1212 rfl (by decide) (fun c1212 => ?_) (fun c1212 => ?_)
                · refine Z_iinc (L' := [_, _, _, _]) (n := 1299) dL_law_1296 rfl rfl (Nat.le_of_ble_eq_true rfl) rfl rfl (by omega) rfl ?_
                  refine Z_goto (t := 18) dL_law_1299 (by decide) ?_
                  refine Z_loc (L' := [some _, some _, some _, some _]) (lsub_same (lsub_same (lsub_same (lsub_same lsub_nil)))) ?_
                  exact ih18 _ _ _ (by omega) (by first | assumption | omega | decide) (by first | assumption | omega | decide) (by exact LX) (by exact mX)
                · exact absurd xeq c1212
              · refine Z_iconst (n := 1205) dL_law_1204 rfl (by decide) ?_
                refine Z_goto (t := 1209) dL_law_1205 (by decide) ?_
                refine Z_callVi (n := 1212) [_, _] _ dL_law_1209 rfl cwL_136 rfl rfl rfl (Nat.le_of_ble_eq_true rfl) (by refine ⟨?_, ?_, ?_, ?_⟩ <;> exact Nat.le_of_ble_eq_true rfl) (fun a h => h.elim) (zX4_paths_g  ) ?_
                intro x1209 M1209 J1209 z1209 f1209 q1209
                have pa1209 := q1209
                have xeq : x1187 = x1209 := by
                  first
                    | (exfalso; omega)
                    | exact sim_paths i18_2 (fun _ _ => rfl) (by decide) pa1187 pa1209
                have ri1209 : RI M1209 J1209 := RI_ord Lp.2.1 (fun j _ _ => by rw [(f1209 31 (by decide)).1]) (rOrd_fr Lp.2.1.2.2.2.1 (f1209 39 (by decide)).1) (fun a ha => (f1209 a (by unfold kWy; omega)).1) (f1209 44 (by decide)).2 (f1209 48 (by decide)).2
                have Lz := LI_r Lp ri1209 (fun a ha => (f1209 a (by unfold kWy; omega)).1)
                have LX : LSy M1209 J1209 := LS_mk Ls Lz (f1209 54 (by decide)).2 (oSy_fr Ls.2.2.2.1 (f1209 3 (by decide)).1 (f1209 4 (by decide)).1 (f1209 38 (by decide)).1 (f1209 39 (by decide)).1) (sim_lo Ls (fun a h1 _ _ _ _ => (f1209 a (by unfold kWy; omega)).1) (f1209 43 (by decide)).1 (congrFun (f1209 31 (by decide)).1 8) (f1209 44 (by decide)).2)
                have m2 : M1209 31 27 = M18 31 27 := congrFun (f1209 31 (by decide)).1 27
                have mX : 3 * M1209 31 27 ≤ 200 * (i + 6) := by omega
                refine Z_icmp_eq (n := 1215) (t := 1296) dL_law_1212 rfl (by decide) (fun c1212 => ?_) (fun c1212 => ?_)
                · refine Z_iinc (L' := [_, _, _, _]) (n := 1299) dL_law_1296 rfl rfl (Nat.le_of_ble_eq_true rfl) rfl rfl (by omega) rfl ?_
                  refine Z_goto (t := 18) dL_law_1299 (by decide) ?_
                  refine Z_loc (L' := [some _, some _, some _, some _]) (lsub_same (lsub_same (lsub_same (lsub_same lsub_nil)))) ?_
                  exact ih18 _ _ _ (by omega) (by first | assumption | omega | decide) (by first | assumption | omega | decide) (by exact LX) (by exact mX)
                · exact absurd xeq c1212
            · refine Z_iconst (n := 1183) dL_law_1182 rfl (by decide) ?_
              refine Z_goto (t := 1187) dL_law_1183 (by decide) ?_
              refine Z_callVi (n := 1190) [_, _] _ dL_law_1187 rfl cwL_133 rfl rfl rfl (Nat.le_of_ble_eq_true rfl) (by refine ⟨?_, ?_, ?_, ?_⟩ <;> exact Nat.le_of_ble_eq_true rfl) (fun _ _ => trivial) (zX3_paths_f  ) ?_
              intro x1187 M1187 J1187 z1187 f1187 q1187
              obtain ⟨e1187_1, e1187_2, pa1187⟩ := q1187
              replace e1187_1 := e1187_1.symm; subst e1187_1
              replace e1187_2 := e1187_2.symm; subst e1187_2
              have Ls := i18_2
              have m1 : M18 31 27 = M18 31 27 := rfl
              have Lp := i18_2.1
              refine Z_aload_n (n := 1191) dL_law_1190 rfl rfl ?_
              refine Z_aload_nS (n := 1192) dL_law_1191 rfl rfl ?_
              refine Z_iload_n (n := 1193) dL_law_1192 rfl rfl ?_
              refine Z_iconst (n := 1194) dL_law_1193 rfl (by decide) ?_
              refine Z_iadd (n := 1195) dL_law_1194 rfl (by omega) ?_
              refine Z_ialdS0 (n := 1196) dL_law_1195 rfl (by omega) (by omega) (fun r1195 => ?_)
              refine Z_aload_nS (n := 1197) dL_law_1196 rfl rfl ?_
              refine Z_iload_n (n := 1198) dL_law_1197 rfl rfl ?_
              refine Z_iconst (n := 1199) dL_law_1198 rfl (by decide) ?_
              refine Z_iadd (n := 1200) dL_law_1199 rfl (by omega) ?_
              refine Z_ialdS0 (n := 1201) dL_law_1200 rfl (by omega) (by omega) (fun r1200 => ?_)
              refine Z_if_eq (n := 1204) (t := 1208) dL_law_1201 rfl (by decide) (fun c1201 => ?_) (fun c1201 => ?_)
              · refine Z_iconst (n := 1209) dL_law_1208 rfl (by decide) ?_
                refine Z_callVi (n := 1212) [_, _] _ dL_law_1209 rfl cwL_136 rfl rfl rfl (Nat.le_of_ble_eq_true rfl) (by refine ⟨?_, ?_, ?_, ?_⟩ <;> exact Nat.le_of_ble_eq_true rfl) (fun a h => h.elim) (zX4_paths_g  ) ?_
                intro x1209 M1209 J1209 z1209 f1209 q1209
                have pa1209 := q1209
                have xeq : x1187 = x1209 := by
                  first
                    | (exfalso; omega)
                    | exact sim_paths i18_2 (fun _ _ => rfl) (by decide) pa1187 pa1209
                have ri1209 : RI M1209 J1209 := RI_ord Lp.2.1 (fun j _ _ => by rw [(f1209 31 (by decide)).1]) (rOrd_fr Lp.2.1.2.2.2.1 (f1209 39 (by decide)).1) (fun a ha => (f1209 a (by unfold kWy; omega)).1) (f1209 44 (by decide)).2 (f1209 48 (by decide)).2
                have Lz := LI_r Lp ri1209 (fun a ha => (f1209 a (by unfold kWy; omega)).1)
                have LX : LSy M1209 J1209 := LS_mk Ls Lz (f1209 54 (by decide)).2 (oSy_fr Ls.2.2.2.1 (f1209 3 (by decide)).1 (f1209 4 (by decide)).1 (f1209 38 (by decide)).1 (f1209 39 (by decide)).1) (sim_lo Ls (fun a h1 _ _ _ _ => (f1209 a (by unfold kWy; omega)).1) (f1209 43 (by decide)).1 (congrFun (f1209 31 (by decide)).1 8) (f1209 44 (by decide)).2)
                have m2 : M1209 31 27 = M18 31 27 := congrFun (f1209 31 (by decide)).1 27
                have mX : 3 * M1209 31 27 ≤ 200 * (i + 6) := by omega
                refine Z_icmp_eq (n := 1215) (t := 1296) dL_law_1212 rfl (by decide) (fun c1212 => ?_) (fun c1212 => ?_)
                · refine Z_iinc (L' := [_, _, _, _]) (n := 1299) dL_law_1296 rfl rfl (Nat.le_of_ble_eq_true rfl) rfl rfl (by omega) rfl ?_
                  refine Z_goto (t := 18) dL_law_1299 (by decide) ?_
                  refine Z_loc (L' := [some _, some _, some _, some _]) (lsub_same (lsub_same (lsub_same (lsub_same lsub_nil)))) ?_
                  exact ih18 _ _ _ (by omega) (by first | assumption | omega | decide) (by first | assumption | omega | decide) (by exact LX) (by exact mX)
                · exact absurd xeq c1212
              · refine Z_iconst (n := 1205) dL_law_1204 rfl (by decide) ?_
                refine Z_goto (t := 1209) dL_law_1205 (by decide) ?_
                refine Z_callVi (n := 1212) [_, _] _ dL_law_1209 rfl cwL_136 rfl rfl rfl (Nat.le_of_ble_eq_true rfl) (by refine ⟨?_, ?_, ?_, ?_⟩ <;> exact Nat.le_of_ble_eq_true rfl) (fun a h => h.elim) (zX4_paths_g  ) ?_
                intro x1209 M1209 J1209 z1209 f1209 q1209
                have pa1209 := q1209
                have xeq : x1187 = x1209 := by
                  first
                    | (exfalso; omega)
                    | exact sim_paths i18_2 (fun _ _ => rfl) (by decide) pa1187 pa1209
                have ri1209 : RI M1209 J1209 := RI_ord Lp.2.1 (fun j _ _ => by rw [(f1209 31 (by decide)).1]) (rOrd_fr Lp.2.1.2.2.2.1 (f1209 39 (by decide)).1) (fun a ha => (f1209 a (by unfold kWy; omega)).1) (f1209 44 (by decide)).2 (f1209 48 (by decide)).2
                have Lz := LI_r Lp ri1209 (fun a ha => (f1209 a (by unfold kWy; omega)).1)
                have LX : LSy M1209 J1209 := LS_mk Ls Lz (f1209 54 (by decide)).2 (oSy_fr Ls.2.2.2.1 (f1209 3 (by decide)).1 (f1209 4 (by decide)).1 (f1209 38 (by decide)).1 (f1209 39 (by decide)).1) (sim_lo Ls (fun a h1 _ _ _ _ => (f1209 a (by unfold kWy; omega)).1) (f1209 43 (by decide)).1 (congrFun (f1209 31 (by decide)).1 8) (f1209 44 (by decide)).2)
                have m2 : M1209 31 27 = M18 31 27 := congrFun (f1209 31 (by decide)).1 27
                have mX : 3 * M1209 31 27 ≤ 200 * (i + 6) := by omega
                refine Z_icmp_eq (n := 1215) (t := 1296) dL_law_1212 rfl (by decide) (fun c1212 => ?_) (fun c1212 => ?_)
                · refine Z_iinc (L' := [_, _, _, _]) (n := 1299) dL_law_1296 rfl rfl (Nat.le_of_ble_eq_true rfl) rfl rfl (by omega) rfl ?_
                  refine Z_goto (t := 18) dL_law_1299 (by decide) ?_
                  refine Z_loc (L' := [some _, some _, some _, some _]) (lsub_same (lsub_same (lsub_same (lsub_same lsub_nil)))) ?_
                  exact ih18 _ _ _ (by omega) (by first | assumption | omega | decide) (by first | assumption | omega | decide) (by exact LX) (by exact mX)
                · exact absurd xeq c1212
          refine zcases_cons (fun c33 t ht => ?_) ?_
          · obtain rfl : t = 1217 := by omega
            refine Z_aload_n (n := 1218) dL_law_1217 rfl rfl ?_
            refine Z_aload_nS (n := 1219) dL_law_1218 rfl rfl ?_
            refine Z_iload_n (n := 1220) dL_law_1219 rfl rfl ?_
            refine Z_iconst (n := 1221) dL_law_1220 rfl (by decide) ?_
            refine Z_iadd (n := 1222) dL_law_1221 rfl (by omega) ?_
            refine Z_ialdS0 (n := 1223) dL_law_1222 rfl (by omega) (by omega) (fun r1222 => ?_)
            refine Z_aload_nS (n := 1224) dL_law_1223 rfl rfl ?_
            refine Z_iload_n (n := 1225) dL_law_1224 rfl rfl ?_
            refine Z_iconst (n := 1226) dL_law_1225 rfl (by decide) ?_
            refine Z_iadd (n := 1227) dL_law_1226 rfl (by omega) ?_
            refine Z_ialdS0 (n := 1228) dL_law_1227 rfl (by omega) (by omega) (fun r1227 => ?_)
            refine Z_callVi (n := 1231) [_, _] _ dL_law_1228 rfl cwL_137 rfl rfl rfl (Nat.le_of_ble_eq_true rfl) (by refine ⟨?_, ?_, ?_, ?_⟩ <;> exact Nat.le_of_ble_eq_true rfl) (fun a h => h.elim) (zX3_equal_f  (by exact i18_2.1.1) (by exact i18_2.2.1)) ?_
            intro x1228 M1228 J1228 z1228 f1228 q1228
            obtain ⟨e1228_1, ci1228, cs1228⟩ := q1228
            replace e1228_1 := e1228_1.symm; subst e1228_1
            have Lp := LI_c i18_2.1 ci1228 (fun a ha => (f1228 a (by unfold kPub at ha; unfold kFc; omega)).1)
            have m1 : M1228 31 27 = M18 31 27 := congrFun (f1228 31 (by decide)).1 27
            refine Z_pop (n := 1232) dL_law_1231 rfl rfl ?_
            refine Z_aload_n (n := 1233) dL_law_1232 rfl rfl ?_
            refine Z_aload_nS (n := 1234) dL_law_1233 rfl rfl ?_
            refine Z_iload_n (n := 1235) dL_law_1234 rfl rfl ?_
            refine Z_iconst (n := 1236) dL_law_1235 rfl (by decide) ?_
            refine Z_iadd (n := 1237) dL_law_1236 rfl (by omega) ?_
            refine Z_ialdS0 (n := 1238) dL_law_1237 rfl (by omega) (by omega) (fun r1237 => ?_)
            refine Z_aload_nS (n := 1239) dL_law_1238 rfl rfl ?_
            refine Z_iload_n (n := 1240) dL_law_1239 rfl rfl ?_
            refine Z_iconst (n := 1241) dL_law_1240 rfl (by decide) ?_
            refine Z_iadd (n := 1242) dL_law_1241 rfl (by omega) ?_
            refine Z_ialdS0 (n := 1243) dL_law_1242 rfl (by omega) (by omega) (fun r1242 => ?_)
            refine Z_callVi (n := 1246) [_, _] _ dL_law_1243 rfl cwL_140 rfl rfl rfl (Nat.le_of_ble_eq_true rfl) (by refine ⟨?_, ?_, ?_, ?_⟩ <;> exact Nat.le_of_ble_eq_true rfl) (fun a h => h.elim) (zX4_equal_g  (by exact Lp.2.1) (by omega) (by exact i18_2.2.2.1)) ?_
            intro x1243 M1243 J1243 z1243 f1243 q1243
            obtain ⟨ri1243, km1243, gs1243⟩ := q1243
            have cx : ctx M18 M1228 M1243 J18 := ⟨i18_2, fun a ha => (f1228 a (by unfold kFc; omega)).1, fun a ha => (f1243 a (by unfold kRg; omega)).1⟩
            have oX : oSy M1243 := oSy_fr i18_2.2.2.2.1 (((f1243 3 (by decide)).1).trans (f1228 3 (by decide)).1) (((f1243 4 (by decide)).1).trans (f1228 4 (by decide)).1) (((f1243 38 (by decide)).1).trans (f1228 38 (by decide)).1) (((f1243 39 (by decide)).1).trans (f1228 39 (by decide)).1)
            have sx := sim_kp cx cs1228 gs1243
            have LX : LSy M1243 J1243 := LS_mk i18_2 (LI_r Lp ri1243 (fun a ha => (f1243 a (by unfold kRg; omega)).1)) (f1243 54 (by decide)).2 oX sx
            have mX : 3 * M1243 31 27 ≤ 200 * (i + 6) := by omega
            refine Z_pop (n := 1247) dL_law_1246 rfl rfl ?_
            refine Z_goto (t := 1296) dL_law_1247 (by decide) ?_
            refine Z_iinc (L' := [_, _, _, _]) (n := 1299) dL_law_1296 rfl rfl (Nat.le_of_ble_eq_true rfl) rfl rfl (by omega) rfl ?_
            refine Z_goto (t := 18) dL_law_1299 (by decide) ?_
            refine Z_loc (L' := [some _, some _, some _, some _]) (lsub_same (lsub_same (lsub_same (lsub_same lsub_nil)))) ?_
            exact ih18 _ _ _ (by omega) (by first | assumption | omega | decide) (by first | assumption | omega | decide) (by exact LX) (by exact mX)
          refine zcases_cons (fun c33 t ht => ?_) ?_
          · obtain rfl : t = 1250 := by omega
            refine Z_aload_n (n := 1251) dL_law_1250 rfl rfl ?_
            refine Z_aload_nS (n := 1252) dL_law_1251 rfl rfl ?_
            refine Z_iload_n (n := 1253) dL_law_1252 rfl rfl ?_
            refine Z_iconst (n := 1254) dL_law_1253 rfl (by decide) ?_
            refine Z_iadd (n := 1255) dL_law_1254 rfl (by omega) ?_
            refine Z_ialdS0 (n := 1256) dL_law_1255 rfl (by omega) (by omega) (fun r1255 => ?_)
            refine Z_callVi (n := 1259) [_] _ dL_law_1256 rfl cwL_141 rfl rfl rfl (Nat.le_of_ble_eq_true rfl) (by refine ⟨?_, ?_, ?_, ?_⟩ <;> exact Nat.le_of_ble_eq_true rfl) (fun _ _ => trivial) (zX3_parting  ) ?_
            intro x1256 M1256 J1256 z1256 f1256 q1256
            obtain ⟨e1256_1, e1256_2, h1256⟩ := q1256
            replace e1256_1 := e1256_1.symm; subst e1256_1
            replace e1256_2 := e1256_2.symm; subst e1256_2
            have Ls := i18_2
            have m1 : M18 31 27 = M18 31 27 := rfl
            refine Z_pop (n := 1260) dL_law_1259 rfl rfl ?_
            refine Z_aload_n (n := 1261) dL_law_1260 rfl rfl ?_
            refine Z_aload_nS (n := 1262) dL_law_1261 rfl rfl ?_
            refine Z_iload_n (n := 1263) dL_law_1262 rfl rfl ?_
            refine Z_iconst (n := 1264) dL_law_1263 rfl (by decide) ?_
            refine Z_iadd (n := 1265) dL_law_1264 rfl (by omega) ?_
            refine Z_ialdS0 (n := 1266) dL_law_1265 rfl (by omega) (by omega) (fun r1265 => ?_)
            refine Z_callVi (n := 1269) [_] _ dL_law_1266 rfl cwL_144 rfl rfl rfl (Nat.le_of_ble_eq_true rfl) (by refine ⟨?_, ?_, ?_, ?_⟩ <;> exact Nat.le_of_ble_eq_true rfl) (fun _ _ => trivial) (zX4_parting  ) ?_
            intro x1266 M1266 J1266 z1266 f1266 q1266
            obtain ⟨e1266_1, e1266_2, h1266⟩ := q1266
            replace e1266_1 := e1266_1.symm; subst e1266_1
            replace e1266_2 := e1266_2.symm; subst e1266_2
            have LX := Ls
            have mX : 3 * M18 31 27 ≤ 200 * (i + 6) := by omega
            refine Z_pop (n := 1270) dL_law_1269 rfl rfl ?_
            refine Z_goto (t := 1296) dL_law_1270 (by decide) ?_
            refine Z_iinc (L' := [_, _, _, _]) (n := 1299) dL_law_1296 rfl rfl (Nat.le_of_ble_eq_true rfl) rfl rfl (by omega) rfl ?_
            refine Z_goto (t := 18) dL_law_1299 (by decide) ?_
            refine Z_loc (L' := [some _, some _, some _, some _]) (lsub_same (lsub_same (lsub_same (lsub_same lsub_nil)))) ?_
            exact ih18 _ _ _ (by omega) (by first | assumption | omega | decide) (by first | assumption | omega | decide) (by exact LX) (by exact mX)
          refine zcases_cons (fun c33 t ht => ?_) ?_
          · obtain rfl : t = 1273 := by omega
            refine Z_aload_n (n := 1274) dL_law_1273 rfl rfl ?_
            refine Z_aload_nS (n := 1275) dL_law_1274 rfl rfl ?_
            refine Z_iload_n (n := 1276) dL_law_1275 rfl rfl ?_
            refine Z_iconst (n := 1277) dL_law_1276 rfl (by decide) ?_
            refine Z_iadd (n := 1278) dL_law_1277 rfl (by omega) ?_
            refine Z_ialdS0 (n := 1279) dL_law_1278 rfl (by omega) (by omega) (fun r1278 => ?_)
            refine Z_callVi (n := 1282) [_] _ dL_law_1279 rfl cwL_145 rfl rfl rfl (Nat.le_of_ble_eq_true rfl) (by refine ⟨?_, ?_, ?_, ?_⟩ <;> exact Nat.le_of_ble_eq_true rfl) (fun _ _ => trivial) (zX3_told  ) ?_
            intro x1279 M1279 J1279 z1279 f1279 q1279
            obtain ⟨e1279_1, e1279_2, h1279⟩ := q1279
            replace e1279_1 := e1279_1.symm; subst e1279_1
            replace e1279_2 := e1279_2.symm; subst e1279_2
            have Ls := i18_2
            have m1 : M18 31 27 = M18 31 27 := rfl
            refine Z_pop (n := 1283) dL_law_1282 rfl rfl ?_
            refine Z_aload_n (n := 1284) dL_law_1283 rfl rfl ?_
            refine Z_aload_nS (n := 1285) dL_law_1284 rfl rfl ?_
            refine Z_iload_n (n := 1286) dL_law_1285 rfl rfl ?_
            refine Z_iconst (n := 1287) dL_law_1286 rfl (by decide) ?_
            refine Z_iadd (n := 1288) dL_law_1287 rfl (by omega) ?_
            refine Z_ialdS0 (n := 1289) dL_law_1288 rfl (by omega) (by omega) (fun r1288 => ?_)
            refine Z_callVi (n := 1292) [_] _ dL_law_1289 rfl cwL_148 rfl rfl rfl (Nat.le_of_ble_eq_true rfl) (by refine ⟨?_, ?_, ?_, ?_⟩ <;> exact Nat.le_of_ble_eq_true rfl) (fun _ _ => trivial) (zX4_told  ) ?_
            intro x1289 M1289 J1289 z1289 f1289 q1289
            obtain ⟨e1289_1, e1289_2, h1289⟩ := q1289
            replace e1289_1 := e1289_1.symm; subst e1289_1
            replace e1289_2 := e1289_2.symm; subst e1289_2
            have xeq := sim_told i18_2 h1279 h1289
            have LX := Ls
            have mX : 3 * M18 31 27 ≤ 200 * (i + 6) := by omega
            refine Z_pop (n := 1293) dL_law_1292 rfl rfl ?_
            refine Z_goto (t := 1296) dL_law_1293 (by decide) ?_
            refine Z_iinc (L' := [_, _, _, _]) (n := 1299) dL_law_1296 rfl rfl (Nat.le_of_ble_eq_true rfl) rfl rfl (by omega) rfl ?_
            refine Z_goto (t := 18) dL_law_1299 (by decide) ?_
            refine Z_loc (L' := [some _, some _, some _, some _]) (lsub_same (lsub_same (lsub_same (lsub_same lsub_nil)))) ?_
            exact ih18 _ _ _ (by omega) (by first | assumption | omega | decide) (by first | assumption | omega | decide) (by exact LX) (by exact mX)
          exact zcases_nil
        · refine Z_iinc (L' := [_, _, _, _]) (n := 1299) dL_law_1296 rfl rfl (Nat.le_of_ble_eq_true rfl) rfl rfl (by omega) rfl ?_
          refine Z_goto (t := 18) dL_law_1299 (by decide) ?_
          refine Z_loc (L' := [some _, some _, some _, some _]) (lsub_same (lsub_same (lsub_same (lsub_same lsub_nil)))) ?_
          exact ih18 _ _ _ (by omega) (by first | assumption | omega | decide) (by first | assumption | omega | decide) (by exact LX) (by exact mX)
  refine Z_loc (L' := [some _, some _, some _, some _]) (lsub_same (lsub_same (lsub_same (lsub_same lsub_nil)))) ?_
  exact lp18 _ _ _ _ (Nat.lt_succ_self _) (by first | assumption | omega | decide) (by first | assumption | omega | decide) (by exact L12) (by exact m12)
