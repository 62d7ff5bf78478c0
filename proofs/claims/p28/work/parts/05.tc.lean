/-! ===== T-LAYER: making, calls, returns, contracts ===== -/
section TC
variable {G : tl_G} {mt : tl_M} {R : Room} {cells slots pc n : Nat} {L : List (Option Value)} {st : List Value} {σ : tl_S} {Z : tl_Z}
def zr {α : Type} (M : Nat → Nat → α) (z : Nat) (v : α) : Nat → Nat → α := fun a j => if a = z then v else M a j
theorem zr_o {α : Type} {M : Nat → Nat → α} {z b : Nat} {v : α} (h : b ≠ z) : zr M z v b = M b := by
  funext j
  simp [zr, h]
theorem zr_s {α : Type} {M : Nat → Nat → α} {z : Nat} {v : α} : zr M z v z = fun _ => v := by
  funext j
  simp [zr]
/-- the state with a new cell of shape (t, k) -/
def tl_nw (σ : tl_S) (t k : Nat) : tl_S := (up1 (sS σ) (sZ σ) (t, k), zr (sM σ) (sZ σ) 0, zr (sJ σ) (sZ σ) 0, zr (sP σ) (sZ σ) none, sZ σ + 1)
theorem tl_H_nw {H H' : Heap} {t k : Nat} (h : tl_H G σ H) (hz : H'.size = sZ σ + 1) (ho : ∀ q, q < sZ σ → H'[q]? = H[q]?) (hc : tl_at G t k (sZ σ) (fun _ => 0) (fun _ => 0) (fun _ => none) H') : tl_H G (tl_nw σ t k) H' := by
  refine tl_H_new (t0 := t) (n0 := k) h hz ho rfl rfl (fun b hb => zr_o hb) (fun b hb => zr_o hb) (fun b hb => zr_o hb) ?_
  show tl_at G t k (sZ σ) (zr (sM σ) (sZ σ) 0 (sZ σ)) (zr (sJ σ) (sZ σ) 0 (sZ σ)) (zr (sP σ) (sZ σ) none (sZ σ)) H'
  rw [zr_s, zr_s, zr_s]
  exact hc
theorem T_newI {N : Nat} {j : Int32} (hd : decode mt.2.1 pc = .ok (.newarray .int, 2)) (hp : pc + 2 = n) (hw : Cond.arrayClass .int ∈ tl_W) (hj : j = nI N) (hN : N ≤ 100000) (hc : cells + 1 ≤ R.cells) (hs : slots + N ≤ R.slots) (kk : TW G mt R (cells + 1) (slots + N) n L (.ref (sZ σ) :: st) (tl_nw σ 2 N) Z) : TW G mt R cells slots pc L (.int j :: st) σ Z := by
  subst hp; subst hj
  intro p e s m args below meth c H locs ls hC hH hlo hl
  refine va_newaK (atype := .int) hC.1 hC.2.1 (hC.2.2.2.2.2.2.2.1 _ hw) rfl hd rfl (nI_pos (by omega)) (nI_clamp (by omega)) (by show N * 4 ≤ _; omega) hc hs hH.1 fun H1 cA e1 z1 o1 hAr hNm => ?_
  have hA : gA G 0 = cA := Option.some.inj (((hC.2.2.2.2.2.2.2.2.1.2 0 (gA G 0, .int) rfl).2).symm.trans hNm)
  refine kk p e s m args below meth c H1 _ ls hC (tl_H_nw hH z1 o1 ?_) hlo hl
  show H1[sZ σ]? = some (arrV (gA G 0) N _)
  rw [hA]
  exact e1
theorem T_newZ {N : Nat} {j : Int32} (hd : decode mt.2.1 pc = .ok (.newarray .boolean, 2)) (hp : pc + 2 = n) (hw : Cond.arrayClass .boolean ∈ tl_W) (hj : j = nI N) (hN : N ≤ 100000) (hc : cells + 1 ≤ R.cells) (hs : slots + N ≤ R.slots) (kk : TW G mt R (cells + 1) (slots + N) n L (.ref (sZ σ) :: st) (tl_nw σ 3 N) Z) : TW G mt R cells slots pc L (.int j :: st) σ Z := by
  subst hp; subst hj
  intro p e s m args below meth c H locs ls hC hH hlo hl
  refine va_newaK (atype := .boolean) hC.1 hC.2.1 (hC.2.2.2.2.2.2.2.1 _ hw) rfl hd rfl (nI_pos (by omega)) (nI_clamp (by omega)) (by show N * 1 ≤ _; omega) hc hs hH.1 fun H1 cA e1 z1 o1 hAr hNm => ?_
  have hA : gA G 1 = cA := Option.some.inj (((hC.2.2.2.2.2.2.2.2.1.2 1 (gA G 1, .boolean) rfl).2).symm.trans hNm)
  refine kk p e s m args below meth c H1 _ ls hC (tl_H_nw hH z1 o1 ?_) hlo hl
  show H1[sZ σ]? = some (arrV (gA G 1) N _)
  rw [hA]
  exact e1
theorem T_newJ {N : Nat} {j : Int32} (hd : decode mt.2.1 pc = .ok (.newarray .long, 2)) (hp : pc + 2 = n) (hw : Cond.arrayClass .long ∈ tl_W) (hj : j = nI N) (hN : N ≤ 100000) (hc : cells + 1 ≤ R.cells) (hs : slots + N ≤ R.slots) (kk : TW G mt R (cells + 1) (slots + N) n L (.ref (sZ σ) :: st) (tl_nw σ 4 N) Z) : TW G mt R cells slots pc L (.int j :: st) σ Z := by
  subst hp; subst hj
  intro p e s m args below meth c H locs ls hC hH hlo hl
  refine va_newaK (atype := .long) hC.1 hC.2.1 (hC.2.2.2.2.2.2.2.1 _ hw) rfl hd rfl (nI_pos (by omega)) (nI_clamp (by omega)) (by show N * 8 ≤ _; omega) hc hs hH.1 fun H1 cA e1 z1 o1 hAr hNm => ?_
  have hA : gA G 2 = cA := Option.some.inj (((hC.2.2.2.2.2.2.2.2.1.2 2 (gA G 2, .long) rfl).2).symm.trans hNm)
  refine kk p e s m args below meth c H1 _ ls hC (tl_H_nw hH z1 o1 ?_) hlo hl
  show H1[sZ σ]? = some (arrV (gA G 2) N _)
  rw [hA]
  exact e1
theorem T_anew {N idx : Nat} {j : Int32} (hd : decode mt.2.1 pc = .ok (.anewarray idx, 3)) (hp : pc + 3 = n) (hw : Cond.classLink mt.1 idx RX0 ∈ tl_W) (hj : j = nI N) (hN : N ≤ 100000) (hc : cells + 1 ≤ R.cells) (hs : slots + N ≤ R.slots) (kk : TW G mt R (cells + 1) (slots + N) n L (.ref (sZ σ) :: st) (tl_nw σ 5 N) Z) : TW G mt R cells slots pc L (.int j :: st) σ Z := by
  subst hp; subst hj
  intro p e s m args below meth c H locs ls hC hH hlo hl
  have hcl : (nI N).toNatClampNeg = N := nI_clamp (by omega)
  refine W.anew hC.1 hC.2.1 hC.2.2.2.2.2.2.1 (hC.2.2.2.2.2.2.2.1 _ hw) (va_AO.use hC.2.2.2.2.2.2.2.2.2.2.2.1) rfl hd rfl (nI_pos (by omega)) (by rw [hcl]; omega) hc (by rw [hcl]; exact hs) fun cA kA comp h1 h2 h3 h4 => ?_
  rw [hcl, arrV_new, hH.1]
  obtain ⟨kA', comp', k1, k2, k3, k4⟩ := (hC.2.2.2.2.2.2.2.2.1.2 3 (gA G 3, .object RX0) rfl).2
  have hA : gA G 3 = cA := Option.some.inj (k4.symm.trans h1)
  refine kk p e s m args below meth c _ _ ls hC (tl_H_nw hH (by rw [Array.size_push, hH.1]) (fun q hq => ?_) ?_) hlo hl
  · rw [Array.getElem?_push, if_neg (by rw [hH.1]; omega)]
  · show (H.push _)[sZ σ]? = some (arrV (gA G 3) N _)
    rw [hA, ← hH.1]
    simp [va_rf]
/-- what is needed of a class to make an object of it -/
def tl_CN (own : String) (idx ci : Nat) (N : Nat) : Prop := ∃ (C : String) (T : u_T), tl_cl[ci]? = some (C, T, N) ∧ (∀ w ∈ u_ws C T N, w ∈ tl_W) ∧ Cond.classLink own idx C ∈ tl_W ∧ Cond.instantiable C N ∈ tl_W ∧ Cond.initialized C ∈ tl_W ∧ (∀ j, j < N → parseFieldDescriptor (T j).2.2.1 = some (tl_ty ci j)) ∧ ∀ j, j < N → defaultValue (tl_ty ci j) = tl_fv (tl_ty ci j) 0 0 none
theorem T_new {idx ci N : Nat} (hd : decode mt.2.1 pc = .ok (.new idx, 3)) (hp : pc + 3 = n) (hn : tl_CN mt.1 idx ci N) (hc : cells + 1 ≤ R.cells) (hs : slots + N ≤ R.slots) (kk : TW G mt R (cells + 1) (slots + N) n L (.ref (sZ σ) :: st) (tl_nw σ 1 ci) Z) : TW G mt R cells slots pc L st σ Z := by
  subst hp
  intro p e s m args below meth c H locs ls hC hH hlo hl
  obtain ⟨hx, hb, -, -, -, -, hown, hts, hK⟩ := id hC
  obtain ⟨C, T, hq, hin, hcl, hinst, hini, hty, hdf⟩ := hn
  have hKn := hK.1.1 ci _ hq
  refine W.newcK hx hb hown (hts _ hcl) (hts _ hinst) (hts _ hini) rfl hd hc hs hKn.2.1 hH.1 fun H1 kC hkC e1 z1 o1 => ?_
  refine kk p e s m args below meth c H1 _ ls hC (tl_H_nw hH z1 o1 ?_) hlo hl
  exact ⟨(C, T, N), hq, (u_born (tl_ty ci) hts hin hKn hkC e1 hty).to (fun j hj => hdf j hj)⟩
theorem T_objI {idx a : Nat} (hd : decode mt.2.1 pc = .ok (.invokespecial idx, 3)) (hp : pc + 3 = n) (hw : Cond.methodLink mt.1 idx objectInit ∈ tl_W) (hw2 : Cond.instanceMethod objectInit ∈ tl_W) (hw3 : Cond.code objectInit ⟨#[0xb1]⟩ 1 none ∈ tl_W) (hf : 1 ≤ R.frames) (hlo' : 20 ≤ R.locals) (hst : (st.map fun v => v.category).sum ≤ 8) (kk : TW G mt R cells slots n L st σ Z) : TW G mt R cells slots pc L (.ref a :: st) σ Z := by
  subst hp
  intro p e s m args below meth c H locs ls hC hH hlo hl
  refine W.objInit hC.1 hC.2.1 hC.2.2.2.2.2.2.1 (hC.2.2.2.2.2.2.2.1 _ hw) (hC.2.2.2.2.2.2.2.1 _ hw2) (hC.2.2.2.2.2.2.2.1 _ hw3) rfl (by rw [hC.2.2.1]; exact hl.1) rfl hd hf ?_ (kk p e s m args below meth c H locs ls hC hH hlo hl)
  have h1 := lv_room (m := m) (pc := pc) (ls := ls) (rest := .ref a :: st) hst
  omega
def tl_rm (d mc ms : Nat) : Room := { frames := d, cells := mc, slots := ms, locals := 40 * d }
/-- a method's end -/
def tl_Q (G : tl_G) (Q : Option Value → tl_S → Prop) : Array Value → State → Outcome → State → Prop := fun _ _ o t => ∃ (v : Option Value) (σ' : tl_S), o = .returned v ∧ Q v σ' ∧ tl_K G t ∧ tl_H G σ' t.heap
def ZM (G : tl_G) (Q : Option Value → tl_S → Prop) (mc ms : Nat) : tl_Z := fun below args s => MQ below (tl_Q G Q) args s mc ms (fun q => gB G ≤ q)
/-- A METHOD'S CONTRACT -/
def CT (G : tl_G) (y : MethodName) (mt : tl_M) (d mc ms : Nat) (av : List Value) (σ : tl_S) (Q : Option Value → tl_S → Prop) : Prop :=
  Met (gL G) y (Cond.code y mt.2.1 mt.2.2.1 mt.2.2.2.1 :: tl_W) (tl_rm d mc ms) (va_Pc av (fun U => tl_K G U ∧ tl_H G σ U.heap)) (tl_Q G Q) mc ms (fun q => gB G ≤ q)
theorem T_iret {v : Int32} {Q : Option Value → tl_S → Prop} (hd : decode mt.2.1 pc = .ok (.ireturn, 1)) (hr : mt.2.2.2.1 = some .int) (hQ : Q (some (.int v)) σ) : TW G mt R cells slots pc L [.int v] σ (ZM G Q cells slots) := by
  intro p e s m args below meth c H locs ls hC hH hlo hl
  exact W.iret hC.1 hC.2.1 (hC.2.2.2.1.trans hr) (fun t ht hW => ⟨_, σ, rfl, hQ, tl_K_moved hW hC.2.2.2.2.2.2.2.2, by rw [ht]; exact hH⟩) hlo hd hC.2.2.2.2.1
theorem T_zret {v : Int32} {Q : Option Value → tl_S → Prop} (hd : decode mt.2.1 pc = .ok (.ireturn, 1)) (hr : mt.2.2.2.1 = some .boolean) (hv : v = 0 ∨ v = 1) (hQ : Q (some (.int v)) σ) : TW G mt R cells slots pc L [.int v] σ (ZM G Q cells slots) := by
  intro p e s m args below meth c H locs ls hC hH hlo hl
  exact W.zret hC.1 hC.2.1 (hC.2.2.2.1.trans hr) (by rcases hv with rfl | rfl <;> rfl) (fun t ht hW => ⟨_, σ, rfl, hQ, tl_K_moved hW hC.2.2.2.2.2.2.2.2, by rw [ht]; exact hH⟩) hlo hd hC.2.2.2.2.1
theorem T_lret {v : Int64} {Q : Option Value → tl_S → Prop} (hd : decode mt.2.1 pc = .ok (.lreturn, 1)) (hr : mt.2.2.2.1 = some .long) (hQ : Q (some (.long v)) σ) : TW G mt R cells slots pc L [.long v] σ (ZM G Q cells slots) := by
  intro p e s m args below meth c H locs ls hC hH hlo hl
  exact W.lret hC.1 hC.2.1 (hC.2.2.2.1.trans hr) (fun t ht hW => ⟨_, σ, rfl, hQ, tl_K_moved hW hC.2.2.2.2.2.2.2.2, by rw [ht]; exact hH⟩) hlo hd hC.2.2.2.2.1
theorem T_vret {Q : Option Value → tl_S → Prop} (hd : decode mt.2.1 pc = .ok (.return_, 1)) (hr : mt.2.2.2.1 = none) (hQ : Q none σ) : TW G mt R cells slots pc L [] σ (ZM G Q cells slots) := by
  intro p e s m args below meth c H locs ls hC hH hlo hl
  exact W.vret hC.1 hC.2.1 (hC.2.2.2.1.trans hr) (fun t ht hW => ⟨_, σ, rfl, hQ, tl_K_moved hW hC.2.2.2.2.2.2.2.2, by rw [ht]; exact hH⟩) hlo hd hC.2.2.2.2.1
/-- the locals at a method's entry -/
def tl_args : List Value → List (Option Value)
  | [] => []
  | v :: vs => if v.category = 2 then some v :: none :: tl_args vs else some v :: tl_args vs
theorem tl_args_in : ∀ (vs : List Value) (k i : Nat) (v : Value), (tl_args vs)[i]? = some (some v) → (k + i, v) ∈ lv_args k vs
  | [], k, i, v, h => by simp [tl_args] at h
  | w :: vs, k, i, v, h => by
    unfold tl_args at h
    unfold lv_args
    by_cases hw : w.category = 2
    · rw [if_pos hw] at h ⊢
      match i, h with
      | 0, h => simp at h; subst h; exact List.mem_cons_self
      | 1, h => simp at h
      | i + 2, h =>
        rw [List.getElem?_cons_succ, List.getElem?_cons_succ] at h
        have h1 := tl_args_in vs (k + 2) i v h
        rw [show k + (i + 2) = k + 2 + i by omega]
        exact List.mem_cons_of_mem _ h1
    · rw [if_neg hw] at h ⊢
      match i, h with
      | 0, h => simp at h; subst h; exact List.mem_cons_self
      | i + 1, h =>
        rw [List.getElem?_cons_succ] at h
        have h1 := tl_args_in vs (k + 1) i v h
        rw [show k + (i + 1) = k + 1 + i by omega]
        exact List.mem_cons_of_mem _ h1
theorem CT_of {y : MethodName} {d mc ms : Nat} {av : List Value} {Q : Option Value → tl_S → Prop} (hpl : plainName y.cls = true) (hy1 : y.cls = mt.1) (hy2 : y.name = mt.2.2.2.2) (hle : (lg_sl av).length ≤ mt.2.2.1) (h : TW G mt (tl_rm d mc ms) 0 0 0 (tl_args av ++ List.replicate (mt.2.2.1 - (tl_args av).length) none) [] σ (ZM G Q mc ms)) : CT G y mt d mc ms av σ Q := by
  refine Met.ofW (cc := mt.2.1) (maxL := mt.2.2.1) (ret := mt.2.2.2.1) hpl rfl ?_
  intro p e s m args below meth c s₁ B hml hv
  obtain ⟨rfl, hK, hH⟩ := hv
  have hts := atoms_spec (ws := Cond.code y mt.2.1 mt.2.2.1 mt.2.2.2.1 :: tl_W) B.pre
  have hown : s.vm.findClass mt.1 = some m.cls := by rw [← hy1]; exact findClass_of_methodNamed B.named
  have hnm : meth.name = mt.2.2.2.2 := by rw [← hy2]; exact (name_of_methodNamed B.named B.method).1
  have hl := lv_entry av (n := mt.2.2.1) hle
  rw [lg_entry_eq]
  refine h p e s m av.toArray below meth c s.heap [] _ ⟨B.exec, B.bytes, hml, B.returns, B.notSynchronized, hnm, hown, fun w hw => hts w (List.mem_cons_of_mem _ hw), hK⟩ hH (fun q hq => by cases hq) ⟨hl.1, hl.2.1, fun i v hi => ?_⟩
  rw [List.getElem?_append] at hi
  split at hi
  · have h1 := tl_args_in av 0 i v hi
    rw [Nat.zero_add] at h1
    exact hl.2.2 (i, v) h1
  · rw [List.getElem?_replicate] at hi
    split at hi <;> cases hi
theorem tl_good : GoodIn tl_W tl_W := goodIn_sub (fun _ h => h) (by decide +kernel)
theorem tl_goodC {w : Cond} (h : w ∈ tl_W) : GoodIn tl_W (w :: tl_W) := fun x hx => by
  rcases List.mem_cons.mp hx with rfl | hx
  · exact tl_good _ h
  · exact tl_good _ hx
/-- a call's words -/
def tl_CW (own : String) (idx : Nat) (y : MethodName) (mt' : tl_M) (k : Nat) : Prop := Cond.methodLink own idx y ∈ tl_W ∧ Cond.initialized y.cls ∈ tl_W ∧ Cond.code y mt'.2.1 mt'.2.2.1 mt'.2.2.2.1 ∈ tl_W ∧ y.cls ≠ "java/lang/invoke/MethodHandle" ∧ y.cls ≠ "java/lang/invoke/VarHandle" ∧ (parseMethodDescriptor y.desc).map (fun d => d.parameters.length) = some k
def tl_VW (own : String) (idx : Nat) (y : MethodName) (mt' : tl_M) (k ci : Nat) : Prop := tl_CW own idx y mt' k ∧ Cond.instanceMethod y ∈ tl_W ∧ Cond.selects y.cls y y ∈ tl_W ∧ ∃ r, tl_cl[ci]? = some r ∧ r.1 = y.cls
theorem tl_callB {own : String} {idx k d mc ms : Nat} {y : MethodName} {mt' : tl_M} {s : State} {args : Array Value} (hw : tl_CW own idx y mt' k) (hts : ∀ w ∈ tl_W, w.before args s = true) (h1 : d + 1 ≤ R.frames) (h2 : 8 + (mt'.2.2.1 + 11) + 40 * d ≤ R.locals) : CallB R s args own idx y mt'.2.1 mt'.2.2.1 mt'.2.2.2.1 (Cond.code y mt'.2.1 mt'.2.2.1 mt'.2.2.2.1 :: tl_W) (tl_rm d mc ms) mc ms k :=
  callB_of k hts (tl_goodC hw.2.2.1) rfl rfl rfl (hts _ hw.2.1) (hts _ hw.1) ⟨hw.2.2.2.1, hw.2.2.2.2.1, hw.2.2.2.2.2⟩ ⟨h1, h2⟩
theorem tl_blind {av : List Value} : FrameBlind (va_Pc av (fun U => tl_K G U ∧ tl_H G σ U.heap)) := fun a U g mk q => ⟨q.1, tl_K_same (u := U) (U := U.calling g mk a) rfl q.2.1, q.2.2⟩
/-- behind a call -/
theorem tl_after {p : Program} {e : Env} {s : State} {m : MethodId} {args a : Array Value} {below : List Frame} {meth : Method} {c : Code} {H : Heap} {locs : List Loc} {ls : Array Slot} {st0 rest : List Value} {mc ms : Nat} {Q' : Option Value → tl_S → Prop} (hr : va_Run p (gL G) e R s m args below meth c H locs cells slots mc ms (F0 m pc ls st0) rest (tl_Q G Q' a) (fun q => gB G ≤ q)) (hC : tl_C G mt p s m args meth c) (hlo : ∀ q ∈ locs, gB G ≤ q.base) (hl : tl_lh ls mt.2.2.1 L) (kk : ∀ (v : Option Value) (σ' : tl_S), Q' v σ' → TW G mt R (cells + mc) (slots + ms) (pc + 3) L (v.toList ++ rest) σ' Z) : W p (gL G) e R s m args below meth c H locs cells slots (Z below args s) (F0 m pc ls st0) := by
  intro T hT X
  obtain ⟨v, st₀, t, T', L', h0, X', hL, e1, e2, ⟨v', σ', hv, hQ, hK, hH⟩, st⟩ := hr T hT X
  cases hv
  obtain ⟨t2, a1, b1⟩ := kk v σ' hQ p e s m args below meth c T'.heap (locs ++ L') ls hC (by rw [e1]; exact hH) (fun q hq => by
    rcases List.mem_append.mp hq with h | h
    · exact hlo q h
    · exact hL q h) hl T' rfl X'
  exact ⟨t2, st t2 a1, b1⟩
theorem T_callV {idx d mc ms ci b k : Nat} {y : MethodName} {mt' : tl_M} {As stk rest : List Value} {Q' : Option Value → tl_S → Prop} (hd : decode mt.2.1 pc = .ok (.invokevirtual idx, 3)) (hp : pc + 3 = n) (hw : tl_VW mt.1 idx y mt' k ci) (hk : As.length = k) (hst : stk = As.reverse ++ .ref b :: rest) (hs : sS σ b = (1, ci)) (hcat : (rest.map fun v => v.category).sum ≤ 8) (hR : d + 1 ≤ R.frames ∧ 8 + (mt'.2.2.1 + 11) + 40 * d ≤ R.locals ∧ cells + mc ≤ R.cells ∧ slots + ms ≤ R.slots) (hc : CT G y mt' d mc ms (.ref b :: As) σ Q') (kk : ∀ (v : Option Value) (σ' : tl_S), Q' v σ' → TW G mt R (cells + mc) (slots + ms) n L (v.toList ++ rest) σ' Z) : TW G mt R cells slots pc L stk σ Z := by
  subst hp; subst hst
  intro p e s m args below meth c H locs ls hC hH hlo hl
  obtain ⟨hx, hb, hml, -, -, -, hown, hts, hK⟩ := id hC
  obtain ⟨hcw, hin, hsel, r, hr1, hr2⟩ := hw
  have hcell := hH.2.2.2.2 b
  unfold tl_cell at hcell
  rw [hs] at hcell
  obtain ⟨q, hq, cell, q1, q2, q3, q4⟩ := hcell
  cases hr1.symm.trans hq
  refine tl_after (va_runV (As := As) (rest := rest) ⟨hx, hb, hml, hown, hts⟩ hc ⟨tl_callB hcw hts hR.1 hR.2.1, hts _ hin, hts _ hsel⟩ ⟨tl_blind, ⟨cell, q1, by rw [q3]; rfl, by rw [q2, ← hr2]; exact (hK.1.1 ci r hr1).2.1⟩, fun U hU hW => ⟨rfl, tl_K_moved hW hK, by rw [hU]; exact hH⟩⟩ rfl hk hl.1 rfl (lv_room hcat) hd ⟨hR.2.2.1, hR.2.2.2⟩) hC hlo hl kk
theorem T_callS {idx d mc ms k : Nat} {y : MethodName} {mt' : tl_M} {As stk rest : List Value} {Q' : Option Value → tl_S → Prop} (hd : decode mt.2.1 pc = .ok (.invokestatic idx, 3)) (hp : pc + 3 = n) (hw : tl_CW mt.1 idx y mt' k ∧ Cond.static y ∈ tl_W) (hk : As.length = k) (hst : stk = As.reverse ++ rest) (hcat : (rest.map fun v => v.category).sum ≤ 8) (hR : d + 1 ≤ R.frames ∧ 8 + (mt'.2.2.1 + 11) + 40 * d ≤ R.locals ∧ cells + mc ≤ R.cells ∧ slots + ms ≤ R.slots) (hc : CT G y mt' d mc ms As σ Q') (kk : ∀ (v : Option Value) (σ' : tl_S), Q' v σ' → TW G mt R (cells + mc) (slots + ms) n L (v.toList ++ rest) σ' Z) : TW G mt R cells slots pc L stk σ Z := by
  subst hp; subst hst
  intro p e s m args below meth c H locs ls hC hH hlo hl
  obtain ⟨hx, hb, hml, -, -, -, hown, hts, hK⟩ := id hC
  refine tl_after (va_runS (As := As) (rest := rest) ⟨hx, hb, hml, hown, hts⟩ hc ⟨tl_callB hw.1 hts hR.1 hR.2.1, hts _ hw.2⟩ ⟨tl_blind, fun U hU hW => ⟨rfl, tl_K_moved hW hK, by rw [hU]; exact hH⟩⟩ rfl hk hl.1 rfl (lv_room hcat) hd ⟨hR.2.2.1, hR.2.2.2⟩) hC hlo hl kk
theorem T_callI {idx d mc ms b k : Nat} {y : MethodName} {mt' : tl_M} {As stk rest : List Value} {Q' : Option Value → tl_S → Prop} (hd : decode mt.2.1 pc = .ok (.invokespecial idx, 3)) (hp : pc + 3 = n) (hw : tl_CW mt.1 idx y mt' k ∧ Cond.instanceMethod y ∈ tl_W ∧ y.name = "<init>" ∧ mt'.2.2.2.1 = none) (hk : As.length = k) (hst : stk = As.reverse ++ .ref b :: rest) (hcat : (rest.map fun v => v.category).sum ≤ 8) (hR : d + 1 ≤ R.frames ∧ 8 + (mt'.2.2.1 + 11) + 40 * d ≤ R.locals ∧ cells + mc ≤ R.cells ∧ slots + ms ≤ R.slots) (hc : CT G y mt' d mc ms (.ref b :: As) σ Q') (kk : ∀ (v : Option Value) (σ' : tl_S), Q' v σ' → TW G mt R (cells + mc) (slots + ms) n L (v.toList ++ rest) σ' Z) : TW G mt R cells slots pc L stk σ Z := by
  subst hp; subst hst
  intro p e s m args below meth c H locs ls hC hH hlo hl
  obtain ⟨hx, hb, hml, -, -, -, hown, hts, hK⟩ := id hC
  obtain ⟨hcw, hin, hyn, hrn⟩ := hw
  have hB := tl_callB (mc := mc) (ms := ms) hcw hts hR.1 hR.2.1
  rw [hrn] at hB
  unfold CT at hc
  rw [hrn] at hc
  refine tl_after (va_runI (As := As) (rest := rest) ⟨hx, hb, hml, hown, hts⟩ hc ⟨hB, hyn, hts _ hin⟩ ⟨tl_blind, fun U hU hW => ⟨rfl, tl_K_moved hW hK, by rw [hU]; exact hH⟩⟩ rfl hk hl.1 rfl (lv_room hcat) hd ⟨hR.2.2.1, hR.2.2.2⟩) hC hlo hl kk
/-- a weaker end -/
theorem CT_mono {y : MethodName} {d mc ms : Nat} {av : List Value} {Q Q' : Option Value → tl_S → Prop} (h : CT G y mt d mc ms av σ Q) (hq : ∀ v σ', Q v σ' → Q' v σ') : CT G y mt d mc ms av σ Q' := by
  intro p e ha hc hk s m args below hf happ hP hX
  obtain ⟨k, o, h1, h2, h3, ⟨v, σ', g1, g2, g3⟩, h5⟩ := h p e ha hc hk s m args below hf happ hP hX
  exact ⟨k, o, h1, h2, h3, ⟨v, σ', g1, hq v σ' g2, g3⟩, h5⟩
end TC
