theorem inlX0 : ∀ w ∈ wsX00, w ∈ wsL_law := fun _ h => List.mem_append_left _ (List.mem_append_right _ h)
theorem inlX1 : ∀ w ∈ wsX10, w ∈ wsL_law := fun _ h => List.mem_append_left _ (List.mem_append_left _ (List.mem_append_left _ (List.mem_append_right _ h)))
theorem inlX2 : ∀ w ∈ wsX20, w ∈ wsL_law := fun _ h => List.mem_append_left _ (List.mem_append_left _ (List.mem_append_right _ h))
theorem inlX3 : ∀ w ∈ wsX30, w ∈ wsL_law := fun _ h => List.mem_append_left _ (List.mem_append_left _ (List.mem_append_left _ (List.mem_append_left _ (List.mem_append_left _ (List.mem_append_right _ h)))))
theorem inlX4 : ∀ w ∈ wsX40, w ∈ wsL_law := fun _ h => List.mem_append_left _ (List.mem_append_left _ (List.mem_append_left _ (List.mem_append_left _ (List.mem_append_right _ h))))
/-- the words that every method of ours is walked under -/
def tl_W : List Cond := wsL_law
theorem tl_inW {w : Cond} (h : w ∈ wsL_law) : w ∈ tl_W := h

/-! ===== T-LAYER: a light walk. G: launch, class numbers and slots, array classes, base, first heap, read-only int arrays; a state: shapes, ints, longs, references, heap size ===== -/
abbrev tl_cl : List vw_C := [(RX0, TX0, 6), (RX1, TX1, 3), (RX2, TX2, 9), (RX3, TX3, 11), (RX4, TX4, 35)]
def tl_ty : Nat → Nat → FieldType := fun ci => match ci with
  | 0 => tyX0
  | 1 => tyX1
  | 2 => tyX2
  | 3 => tyX3
  | _ => tyX4
abbrev tl_G : Type := Launch × va_G × (Nat → ClassId) × Nat × Heap × (Nat → Nat × Nat × (Nat → Int32))
abbrev tl_S : Type := (Nat → Nat × Nat) × (Nat → Nat → Int32) × (Nat → Nat → Int64) × (Nat → Nat → Option Nat) × Nat
abbrev tl_M : Type := String × ByteArray × Nat × Option FieldType × String
abbrev gL (G : tl_G) : Launch := G.1
abbrev gD (G : tl_G) : va_G := G.2.1
abbrev gA (G : tl_G) : Nat → ClassId := G.2.2.1
abbrev gB (G : tl_G) : Nat := G.2.2.2.1
abbrev gH (G : tl_G) : Heap := G.2.2.2.2.1
abbrev gR (G : tl_G) : Nat → Nat × Nat × (Nat → Int32) := G.2.2.2.2.2
abbrev sS (σ : tl_S) : Nat → Nat × Nat := σ.1
abbrev sM (σ : tl_S) : Nat → Nat → Int32 := σ.2.1
abbrev sJ (σ : tl_S) : Nat → Nat → Int64 := σ.2.2.1
abbrev sP (σ : tl_S) : Nat → Nat → Option Nat := σ.2.2.2.1
abbrev sZ (σ : tl_S) : Nat := σ.2.2.2.2
def up2 {α : Type} (M : Nat → Nat → α) (a j : Nat) (v : α) : Nat → Nat → α := fun a' j' => if a' = a then (if j' = j then v else M a' j') else M a' j'
theorem up2_o {α : Type} {M : Nat → Nat → α} {a j a' : Nat} {v : α} (h : a' ≠ a) : up2 M a j v a' = M a' := by
  funext j'
  simp [up2, h]
theorem up2_s {α : Type} {M : Nat → Nat → α} {a j : Nat} {v : α} : up2 M a j v a j = v := by simp [up2]
theorem up2_n {α : Type} {M : Nat → Nat → α} {a j j' : Nat} {v : α} (h : j' ≠ j) : up2 M a j v a j' = M a j' := by simp [up2, h]
def up1 {α : Type} (f : Nat → α) (a : Nat) (v : α) : Nat → α := fun a' => if a' = a then v else f a'
theorem up1_o {α : Type} {f : Nat → α} {a a' : Nat} {v : α} (h : a' ≠ a) : up1 f a v a' = f a' := by simp [up1, h]
theorem up1_s {α : Type} {f : Nat → α} {a : Nat} {v : α} : up1 f a v a = v := by simp [up1]
def tl_fv (ty : FieldType) (x : Int32) (y : Int64) (r : Option Nat) : Value := match ty with
  | .int => .int x
  | .boolean => .int x
  | .long => .long y
  | .object _ => va_rf r
  | .array _ => va_rf r
  | _ => .null
/-- a cell by its shape: 1 an object of a class, 2 int[], 3 boolean[], 4 long[], 5 and on an array of references -/
def tl_at (G : tl_G) (t n a : Nat) (x : Nat → Int32) (y : Nat → Int64) (r : Nat → Option Nat) (H : Heap) : Prop := match t with
  | 0 => True
  | 1 => ∃ q, tl_cl[n]? = some q ∧ t_OB a ((gD G).1 n) q.2.2 ((gD G).2 n) H (fun k => tl_fv (tl_ty n k) (x k) (y k) (r k))
  | 2 => H[a]? = some (arrV (gA G 0) n (fun j => .int (x j)))
  | 3 => H[a]? = some (arrV (gA G 1) n (fun j => .int (x j)))
  | 4 => H[a]? = some (arrV (gA G 2) n (fun j => .long (y j)))
  | _ => H[a]? = some (arrV (gA G 3) n (fun j => va_rf (r j)))
def tl_cell (G : tl_G) (σ : tl_S) (a : Nat) (H : Heap) : Prop := tl_at G (sS σ a).1 (sS σ a).2 a (sM σ a) (sJ σ a) (sP σ a) H
def tl_H (G : tl_G) (σ : tl_S) (H : Heap) : Prop := H.size = sZ σ ∧ gB G ≤ sZ σ ∧ (∀ q, q < gB G → H[q]? = (gH G)[q]?) ∧ (∀ a, a < gB G → (sS σ a).1 = 0) ∧ ∀ a, tl_cell G σ a H
def tl_tys (G : tl_G) : List (ClassId × FieldType) := [(gA G 0, .int), (gA G 1, .boolean), (gA G 2, .long), (gA G 3, .object RX0)]
def tl_sf : Nat → String × String × String := fun i => match i with
  | 1 => ("DiagramBench", "OPERANDS", "[I")
  | _ => ("DiagramBench", "TABLES", "[I")
def tl_si (i : Nat) : Nat := if i = 1 then 31 else 45
def tl_N (s : State) : Prop := va_Nw (.fieldLinkNest RX0 31 "DiagramBench" "OPERANDS" "[I" "DiagramBench") s ∧ va_Nw (.fieldLinkNest RX0 45 "DiagramBench" "TABLES" "[I" "DiagramBench") s
/-- an int array of at least L, its first L as told -/
def tl_X (b L : Nat) (xs : Nat → Int32) (U : State) (H : Heap) : Prop := ∃ scr : Cell, H[b]? = some scr ∧ U.isArrayOf scr .int ∧ scr.vm ≠ .unknown ∧ L ≤ scr.slots.size ∧ ∀ j : Nat, j < L → scr.slots[j]? = some (.int (xs j))
theorem tl_X_moved {b L : Nat} {xs : Nat → Int32} {u U : State} {H : Heap} (hvm : u.vm.Alike U.vm) (h : tl_X b L xs u H) : tl_X b L xs U H := by
  obtain ⟨scr, h1, h2, h3⟩ := h
  exact ⟨scr, h1, State.isArrayOf_alike hvm h2, h3⟩
def tl_K (G : tl_G) (s : State) : Prop := va_K (gD G) tl_cl (tl_tys G) s ∧ (∀ i, i < 3 → tl_X (gR G i).1 (gR G i).2.1 (gR G i).2.2 s (gH G) ∧ (gR G i).1 < gB G) ∧ (∀ i, 1 ≤ i → i < 3 → va_Z (tl_sf i).1 (tl_sf i).2.1 (tl_sf i).2.2 (.ref (gR G i).1) (fun q => gB G ≤ q) s (gH G)) ∧ va_AO RX0 s ∧ tl_N s ∧ va_X (gR G 0).1 (gR G 0).2.1 (gR G 0).2.2 s (gH G)
theorem tl_K_moved {G : tl_G} {u U : State} (hW : u.WarmedH U.vm) (h : tl_K G u) : tl_K G U := ⟨va_K.moved hW.alike h.1, fun i hi => ⟨tl_X_moved hW.alike (h.2.1 i hi).1, (h.2.1 i hi).2⟩, fun i h1 h2 => va_Z.moved hW.alike (h.2.2.1 i h1 h2), va_AO.moved hW.alike h.2.2.2.1, ⟨va_Nw.warmF hW h.2.2.2.2.1.1, va_Nw.warmF hW h.2.2.2.2.1.2⟩, va_X.moved hW.alike h.2.2.2.2.2⟩
theorem tl_K_same {G : tl_G} {u U : State} (hvm : u.vm = U.vm) (h : tl_K G u) : tl_K G U := by
  have ha : u.vm.Alike U.vm := by rw [hvm]; exact Vm.Alike.refl U.vm
  exact ⟨va_K.moved ha h.1, fun i hi => ⟨tl_X_moved ha (h.2.1 i hi).1, (h.2.1 i hi).2⟩, fun i h1 h2 => va_Z.moved ha (h.2.2.1 i h1 h2), va_AO.moved ha h.2.2.2.1, ⟨va_Nw.same rfl hvm h.2.2.2.2.1.1, va_Nw.same rfl hvm h.2.2.2.2.1.2⟩, va_X.moved ha h.2.2.2.2.2⟩
theorem tl_at_lt {G : tl_G} {t n a : Nat} {x : Nat → Int32} {y : Nat → Int64} {r : Nat → Option Nat} {H : Heap} (h : tl_at G t n a x y r H) (ht : t ≠ 0) : a < H.size := by
  match t, h, ht with
  | 0, _, ht => exact absurd rfl ht
  | 1, h, _ =>
    obtain ⟨q, -, cell, h2, -⟩ := h
    exact (Array.getElem?_eq_some_iff.mp h2).1
  | 2, h, _ => exact (Array.getElem?_eq_some_iff.mp h).1
  | 3, h, _ => exact (Array.getElem?_eq_some_iff.mp h).1
  | 4, h, _ => exact (Array.getElem?_eq_some_iff.mp h).1
  | t + 5, h, _ => exact (Array.getElem?_eq_some_iff.mp h).1
theorem tl_at_kept {G : tl_G} {t n a : Nat} {x : Nat → Int32} {y : Nat → Int64} {r : Nat → Option Nat} {H H1 : Heap} (h : tl_at G t n a x y r H) (hq : H1[a]? = H[a]?) : tl_at G t n a x y r H1 := by
  match t, h with
  | 0, _ => trivial
  | 1, h =>
    obtain ⟨q, h1, h2⟩ := h
    exact ⟨q, h1, h2.kept hq⟩
  | 2, h => exact hq.trans h
  | 3, h => exact hq.trans h
  | 4, h => exact hq.trans h
  | t + 5, h => exact hq.trans h
/-- the locals -/
def tl_lh (ls : Array Slot) (nL : Nat) (L : List (Option Value)) : Prop := ls.size = nL ∧ lv_wf ls ∧ ∀ (i : Nat) (v : Value), L[i]? = some (some v) → ls[i]? = some (.val v)
def tl_nl (L : List (Option Value)) (i : Nat) : Bool := match i with
  | 0 => true
  | i + 1 => match L[i]? with
    | some (some v) => v.category == 1
    | _ => true
def tl_pairs (L : List (Option Value)) : List (Nat × Value) := (List.range L.length).filterMap (fun i => match L[i]? with
  | some (some v) => some (i, v)
  | _ => none)
theorem tl_pairs_mem {L : List (Option Value)} {i : Nat} {v : Value} : (i, v) ∈ tl_pairs L ↔ L[i]? = some (some v) := by
  unfold tl_pairs
  rw [List.mem_filterMap]
  constructor
  · rintro ⟨k, hk, h⟩
    split at h
    · rename_i w hw
      cases h
      exact hw
    · cases h
  · intro h
    refine ⟨i, List.mem_range.mpr (List.getElem?_eq_some_iff.mp h).1, ?_⟩
    rw [h]
theorem tl_has {ls : Array Slot} {nL : Nat} {L : List (Option Value)} (h : tl_lh ls nL L) : lv_has ls nL (tl_pairs L) := ⟨h.1, h.2.1, fun q hq => h.2.2 q.1 q.2 (tl_pairs_mem.mp hq)⟩
theorem tl_st1 {ls : Array Slot} {nL i : Nat} {L : List (Option Value)} {v : Value} (hn : tl_nl L i = true) (h : lv_has ls nL ((i, v) :: (tl_pairs L).filter (fun q => !(q.1 == i) && !(q.1 + 1 == i && q.2.category == 2)))) : tl_lh ls nL (L.set i (some v)) := by
  refine ⟨h.1, h.2.1, fun j w hj => ?_⟩
  rw [List.getElem?_set] at hj
  by_cases hij : i = j
  · subst hij
    rw [if_pos rfl] at hj
    split at hj
    · cases hj
      exact h.2.2 (i, v) List.mem_cons_self
    · cases hj
  · rw [if_neg hij] at hj
    refine h.2.2 (j, w) (List.mem_cons_of_mem _ (List.mem_filter.mpr ⟨tl_pairs_mem.mpr hj, ?_⟩))
    have e1 : (j == i) = false := by simp [Ne.symm hij]
    simp only [e1, Bool.not_false, Bool.true_and, Bool.not_eq_true', Bool.and_eq_false_iff]
    by_cases h2 : j + 1 = i
    · subst h2
      right
      unfold tl_nl at hn
      simp only [hj] at hn
      have e2 : w.category = 1 := by simpa using hn
      simp [e2]
    · left
      simpa using h2
theorem tl_st2 {ls : Array Slot} {nL i : Nat} {L : List (Option Value)} {v : Value} (hn : tl_nl L i = true) (h : lv_has ls nL ((i, v) :: (tl_pairs L).filter (fun q => !(q.1 == i) && (!(q.1 == i + 1) && !(q.1 + 1 == i && q.2.category == 2))))) : tl_lh ls nL ((L.set i (some v)).set (i + 1) none) := by
  refine ⟨h.1, h.2.1, fun j w hj => ?_⟩
  rw [List.getElem?_set] at hj
  by_cases hij2 : i + 1 = j
  · rw [if_pos hij2] at hj
    split at hj <;> cases hj
  · rw [if_neg hij2, List.getElem?_set] at hj
    by_cases hij : i = j
    · subst hij
      rw [if_pos rfl] at hj
      split at hj
      · cases hj
        exact h.2.2 (i, v) List.mem_cons_self
      · cases hj
    · rw [if_neg hij] at hj
      refine h.2.2 (j, w) (List.mem_cons_of_mem _ (List.mem_filter.mpr ⟨tl_pairs_mem.mpr hj, ?_⟩))
      have e1 : (j == i) = false := by simp [Ne.symm hij]
      have e3 : (j == i + 1) = false := by simp [Ne.symm hij2]
      simp only [e1, e3, Bool.not_false, Bool.true_and, Bool.not_eq_true', Bool.and_eq_false_iff]
      by_cases h2 : j + 1 = i
      · subst h2
        right
        unfold tl_nl at hn
        simp only [hj] at hn
        have e2 : w.category = 1 := by simpa using hn
        simp [e2]
      · left
        simpa using h2
/-- what stands fixed while a method of ours runs -/
def tl_C (G : tl_G) (mt : tl_M) (p : Program) (s : State) (m : MethodId) (args : Array Value) (meth : Method) (c : Code) : Prop :=
  p.tables.exec = Jvm.exec ∧ c.code = mt.2.1 ∧ c.maxLocals = mt.2.2.1 ∧ meth.sig.returnType = mt.2.2.2.1 ∧ meth.locks = false ∧ meth.name = mt.2.2.2.2 ∧ s.vm.findClass mt.1 = some m.cls ∧ (∀ w ∈ tl_W, w.before args s = true) ∧ tl_K G s
abbrev tl_Z : Type := List Frame → Array Value → State → State → Prop
/-- THE JUDGEMENT: at pc, with locals L and stack st, over the state σ, the method comes to Z -/
def TW (G : tl_G) (mt : tl_M) (R : Room) (cells slots pc : Nat) (L : List (Option Value)) (st : List Value) (σ : tl_S) (Z : tl_Z) : Prop :=
  ∀ (p : Program) (e : Env) (s : State) (m : MethodId) (args : Array Value) (below : List Frame) (meth : Method) (c : Code) (H : Heap) (locs : List Loc) (ls : Array Slot), tl_C G mt p s m args meth c → tl_H G σ H → (∀ q ∈ locs, gB G ≤ q.base) → tl_lh ls mt.2.2.1 L →
    W p (gL G) e R s m args below meth c H locs cells slots (Z below args s) (F0 m pc ls st)
section TL
variable {G : tl_G} {mt : tl_M} {R : Room} {cells slots pc n : Nat} {L : List (Option Value)} {st : List Value} {σ : tl_S} {Z : tl_Z}

theorem T_iconst {i : Int} {v : Int32} (hd : decode mt.2.1 pc = .ok (.iconst i, 1)) (hp : pc + 1 = n) (hv : Int32.ofInt i = v) (k : TW G mt R cells slots n L (.int v :: st) σ Z) : TW G mt R cells slots pc L st σ Z := by
  subst hp
  intro p e s m args below meth c H locs ls hC hH hlo hl
  exact lv_iconst hC.1 hC.2.1 hd hv (k p e s m args below meth c H locs ls hC hH hlo hl)
theorem T_bipush {i : Int} {v : Int32} (hd : decode mt.2.1 pc = .ok (.bipush i, 2)) (hp : pc + 2 = n) (hv : (Int8.ofInt i).toInt32 = v) (k : TW G mt R cells slots n L (.int v :: st) σ Z) : TW G mt R cells slots pc L st σ Z := by
  subst hp
  intro p e s m args below meth c H locs ls hC hH hlo hl
  exact lv_bipush hC.1 hC.2.1 hd hv (k p e s m args below meth c H locs ls hC hH hlo hl)
theorem T_sipush {i : Int} {v : Int32} (hd : decode mt.2.1 pc = .ok (.sipush i, 3)) (hp : pc + 3 = n) (hv : (Int16.ofInt i).toInt32 = v) (k : TW G mt R cells slots n L (.int v :: st) σ Z) : TW G mt R cells slots pc L st σ Z := by
  subst hp
  intro p e s m args below meth c H locs ls hC hH hlo hl
  exact lv_sipush hC.1 hC.2.1 hd hv (k p e s m args below meth c H locs ls hC hH hlo hl)
theorem T_lconst {i : Fin 2} {v : Int64} (hd : decode mt.2.1 pc = .ok (.lconst i, 1)) (hp : pc + 1 = n) (hv : Int64.ofNat (i : Nat) = v) (k : TW G mt R cells slots n L (.long v :: st) σ Z) : TW G mt R cells slots pc L st σ Z := by
  subst hp
  intro p e s m args below meth c H locs ls hC hH hlo hl
  exact lv_lconst hC.1 hC.2.1 hd hv (k p e s m args below meth c H locs ls hC hH hlo hl)
theorem T_ldc2 {i : Nat} {v : Int64} (hd : decode mt.2.1 pc = .ok (.ldc2_w i, 3)) (hp : pc + 3 = n) (hw : Cond.constantLong mt.1 i v ∈ tl_W) (k : TW G mt R cells slots n L (.long v :: st) σ Z) : TW G mt R cells slots pc L st σ Z := by
  subst hp
  intro p e s m args below meth c H locs ls hC hH hlo hl
  exact lv_ldc2 hC.1 hC.2.1 hC.2.2.2.2.2.2.1 (hC.2.2.2.2.2.2.2.1 _ hw) hd (k p e s m args below meth c H locs ls hC hH hlo hl)
theorem T_iload_n {i : Fin 4} {x : Int32} (hd : decode mt.2.1 pc = .ok (.iload_n i, 1)) (hp : pc + 1 = n) (hl0 : L[(i : Nat)]? = some (some (.int x))) (k : TW G mt R cells slots n L (.int x :: st) σ Z) : TW G mt R cells slots pc L st σ Z := by
  subst hp
  intro p e s m args below meth c H locs ls hC hH hlo hl
  exact lv_iload_n hC.1 hC.2.1 hd rfl (hl.2.2 _ _ hl0) (k p e s m args below meth c H locs ls hC hH hlo hl)
theorem T_iload {i : Nat} {x : Int32} (hd : decode mt.2.1 pc = .ok (.iload i, 2)) (hp : pc + 2 = n) (hl0 : L[i]? = some (some (.int x))) (k : TW G mt R cells slots n L (.int x :: st) σ Z) : TW G mt R cells slots pc L st σ Z := by
  subst hp
  intro p e s m args below meth c H locs ls hC hH hlo hl
  exact lv_iload hC.1 hC.2.1 hd (hl.2.2 _ _ hl0) (k p e s m args below meth c H locs ls hC hH hlo hl)
theorem T_aload_n {i : Fin 4} {x : Nat} (hd : decode mt.2.1 pc = .ok (.aload_n i, 1)) (hp : pc + 1 = n) (hl0 : L[(i : Nat)]? = some (some (.ref x))) (k : TW G mt R cells slots n L (.ref x :: st) σ Z) : TW G mt R cells slots pc L st σ Z := by
  subst hp
  intro p e s m args below meth c H locs ls hC hH hlo hl
  exact lv_aload_n hC.1 hC.2.1 hd rfl (hl.2.2 _ _ hl0) (k p e s m args below meth c H locs ls hC hH hlo hl)
theorem T_aload {i : Nat} {x : Nat} (hd : decode mt.2.1 pc = .ok (.aload i, 2)) (hp : pc + 2 = n) (hl0 : L[i]? = some (some (.ref x))) (k : TW G mt R cells slots n L (.ref x :: st) σ Z) : TW G mt R cells slots pc L st σ Z := by
  subst hp
  intro p e s m args below meth c H locs ls hC hH hlo hl
  exact lv_aload hC.1 hC.2.1 hd (hl.2.2 _ _ hl0) (k p e s m args below meth c H locs ls hC hH hlo hl)
theorem T_lload_n {i : Fin 4} {x : Int64} (hd : decode mt.2.1 pc = .ok (.lload_n i, 1)) (hp : pc + 1 = n) (hl0 : L[(i : Nat)]? = some (some (.long x))) (k : TW G mt R cells slots n L (.long x :: st) σ Z) : TW G mt R cells slots pc L st σ Z := by
  subst hp
  intro p e s m args below meth c H locs ls hC hH hlo hl
  exact lv_lload_n hC.1 hC.2.1 hd rfl (hl.2.2 _ _ hl0) (k p e s m args below meth c H locs ls hC hH hlo hl)
theorem T_lload {i : Nat} {x : Int64} (hd : decode mt.2.1 pc = .ok (.lload i, 2)) (hp : pc + 2 = n) (hl0 : L[i]? = some (some (.long x))) (k : TW G mt R cells slots n L (.long x :: st) σ Z) : TW G mt R cells slots pc L st σ Z := by
  subst hp
  intro p e s m args below meth c H locs ls hC hH hlo hl
  exact lv_lload hC.1 hC.2.1 hd (hl.2.2 _ _ hl0) (k p e s m args below meth c H locs ls hC hH hlo hl)
theorem T_istore {i : Nat} {x : Int32} (hd : decode mt.2.1 pc = .ok (.istore i, 2)) (hp : pc + 2 = n) (hn : i < mt.2.2.1) (hk : tl_nl L i = true) (k : TW G mt R cells slots n (L.set i (some (.int x))) st σ Z) : TW G mt R cells slots pc L (.int x :: st) σ Z := by
  subst hp
  intro p e s m args below meth c H locs ls hC hH hlo hl
  exact lv_istore hC.1 hC.2.1 hd (tl_has hl) hn rfl (fun ls' h' => k p e s m args below meth c H locs ls' hC hH hlo (tl_st1 hk h'))
theorem T_istore_n {i : Fin 4} {x : Int32} (hd : decode mt.2.1 pc = .ok (.istore_n i, 1)) (hp : pc + 1 = n) (hn : (i : Nat) < mt.2.2.1) (hk : tl_nl L (i : Nat) = true) (k : TW G mt R cells slots n (L.set (i : Nat) (some (.int x))) st σ Z) : TW G mt R cells slots pc L (.int x :: st) σ Z := by
  subst hp
  intro p e s m args below meth c H locs ls hC hH hlo hl
  exact lv_istore_n hC.1 hC.2.1 hd rfl (tl_has hl) hn rfl (fun ls' h' => k p e s m args below meth c H locs ls' hC hH hlo (tl_st1 hk h'))
theorem T_astore {i : Nat} {x : Nat} (hd : decode mt.2.1 pc = .ok (.astore i, 2)) (hp : pc + 2 = n) (hn : i < mt.2.2.1) (hk : tl_nl L i = true) (k : TW G mt R cells slots n (L.set i (some (.ref x))) st σ Z) : TW G mt R cells slots pc L (.ref x :: st) σ Z := by
  subst hp
  intro p e s m args below meth c H locs ls hC hH hlo hl
  exact lv_astore hC.1 hC.2.1 hd (tl_has hl) hn rfl (fun ls' h' => k p e s m args below meth c H locs ls' hC hH hlo (tl_st1 hk h'))
theorem T_astore_n {i : Fin 4} {x : Nat} (hd : decode mt.2.1 pc = .ok (.astore_n i, 1)) (hp : pc + 1 = n) (hn : (i : Nat) < mt.2.2.1) (hk : tl_nl L (i : Nat) = true) (k : TW G mt R cells slots n (L.set (i : Nat) (some (.ref x))) st σ Z) : TW G mt R cells slots pc L (.ref x :: st) σ Z := by
  subst hp
  intro p e s m args below meth c H locs ls hC hH hlo hl
  exact lv_astore_n hC.1 hC.2.1 hd rfl (tl_has hl) hn rfl (fun ls' h' => k p e s m args below meth c H locs ls' hC hH hlo (tl_st1 hk h'))
theorem T_lstore {i : Nat} {x : Int64} (hd : decode mt.2.1 pc = .ok (.lstore i, 2)) (hp : pc + 2 = n) (hn : i + 1 < mt.2.2.1) (hk : tl_nl L i = true) (k : TW G mt R cells slots n ((L.set i (some (.long x))).set (i + 1) none) st σ Z) : TW G mt R cells slots pc L (.long x :: st) σ Z := by
  subst hp
  intro p e s m args below meth c H locs ls hC hH hlo hl
  exact lv_lstore hC.1 hC.2.1 hd (tl_has hl) hn rfl (fun ls' h' => k p e s m args below meth c H locs ls' hC hH hlo (tl_st2 hk h'))
theorem T_lstore_n {i : Fin 4} {x : Int64} (hd : decode mt.2.1 pc = .ok (.lstore_n i, 1)) (hp : pc + 1 = n) (hn : (i : Nat) + 1 < mt.2.2.1) (hk : tl_nl L (i : Nat) = true) (k : TW G mt R cells slots n ((L.set (i : Nat) (some (.long x))).set ((i : Nat) + 1) none) st σ Z) : TW G mt R cells slots pc L (.long x :: st) σ Z := by
  subst hp
  intro p e s m args below meth c H locs ls hC hH hlo hl
  exact lv_lstore_n hC.1 hC.2.1 hd rfl (tl_has hl) hn rfl (fun ls' h' => k p e s m args below meth c H locs ls' hC hH hlo (tl_st2 hk h'))
theorem T_iinc {i : Nat} {d : Int} {x : Int32} (hd : decode mt.2.1 pc = .ok (.iinc i d, 3)) (hp : pc + 3 = n) (hl0 : L[i]? = some (some (.int x))) (hn : i < mt.2.2.1) (hk : tl_nl L i = true) (k : TW G mt R cells slots n (L.set i (some (.int (x + Int32.ofInt d)))) st σ Z) : TW G mt R cells slots pc L st σ Z := by
  subst hp
  intro p e s m args below meth c H locs ls hC hH hlo hl
  obtain ⟨j, hj⟩ := List.getElem?_of_mem (tl_pairs_mem.mpr hl0)
  exact lv_iinc hC.1 hC.2.1 hd (tl_has hl) hj rfl hn rfl (fun ls' h' => k p e s m args below meth c H locs ls' hC hH hlo (tl_st1 hk h'))
theorem T_iadd {x y : Int32} (hd : decode mt.2.1 pc = .ok (.iadd, 1)) (hp : pc + 1 = n) (k : TW G mt R cells slots n L (.int (x + y) :: st) σ Z) : TW G mt R cells slots pc L (.int y :: .int x :: st) σ Z := by
  subst hp
  intro p e s m args below meth c H locs ls hC hH hlo hl
  exact lv_iadd hC.1 hC.2.1 hd (k p e s m args below meth c H locs ls hC hH hlo hl)
theorem T_isub {x y : Int32} (hd : decode mt.2.1 pc = .ok (.isub, 1)) (hp : pc + 1 = n) (k : TW G mt R cells slots n L (.int (x - y) :: st) σ Z) : TW G mt R cells slots pc L (.int y :: .int x :: st) σ Z := by
  subst hp
  intro p e s m args below meth c H locs ls hC hH hlo hl
  exact lv_isub hC.1 hC.2.1 hd (k p e s m args below meth c H locs ls hC hH hlo hl)
theorem T_imul {x y : Int32} (hd : decode mt.2.1 pc = .ok (.imul, 1)) (hp : pc + 1 = n) (k : TW G mt R cells slots n L (.int (x * y) :: st) σ Z) : TW G mt R cells slots pc L (.int y :: .int x :: st) σ Z := by
  subst hp
  intro p e s m args below meth c H locs ls hC hH hlo hl
  exact lv_imul hC.1 hC.2.1 hd (k p e s m args below meth c H locs ls hC hH hlo hl)
theorem T_iand {x y : Int32} (hd : decode mt.2.1 pc = .ok (.iand, 1)) (hp : pc + 1 = n) (k : TW G mt R cells slots n L (.int (x &&& y) :: st) σ Z) : TW G mt R cells slots pc L (.int y :: .int x :: st) σ Z := by
  subst hp
  intro p e s m args below meth c H locs ls hC hH hlo hl
  exact lv_iand hC.1 hC.2.1 hd (k p e s m args below meth c H locs ls hC hH hlo hl)
theorem T_ior {x y : Int32} (hd : decode mt.2.1 pc = .ok (.ior, 1)) (hp : pc + 1 = n) (k : TW G mt R cells slots n L (.int (x ||| y) :: st) σ Z) : TW G mt R cells slots pc L (.int y :: .int x :: st) σ Z := by
  subst hp
  intro p e s m args below meth c H locs ls hC hH hlo hl
  exact lv_ior hC.1 hC.2.1 hd (k p e s m args below meth c H locs ls hC hH hlo hl)
theorem T_ixor {x y : Int32} (hd : decode mt.2.1 pc = .ok (.ixor, 1)) (hp : pc + 1 = n) (k : TW G mt R cells slots n L (.int (x ^^^ y) :: st) σ Z) : TW G mt R cells slots pc L (.int y :: .int x :: st) σ Z := by
  subst hp
  intro p e s m args below meth c H locs ls hC hH hlo hl
  exact lv_ixor hC.1 hC.2.1 hd (k p e s m args below meth c H locs ls hC hH hlo hl)
theorem T_ishl {x y : Int32} (hd : decode mt.2.1 pc = .ok (.ishl, 1)) (hp : pc + 1 = n) (k : TW G mt R cells slots n L (.int (x <<< (y &&& 31)) :: st) σ Z) : TW G mt R cells slots pc L (.int y :: .int x :: st) σ Z := by
  subst hp
  intro p e s m args below meth c H locs ls hC hH hlo hl
  exact lv_ishl hC.1 hC.2.1 hd (k p e s m args below meth c H locs ls hC hH hlo hl)
theorem T_ishr {x y : Int32} (hd : decode mt.2.1 pc = .ok (.ishr, 1)) (hp : pc + 1 = n) (k : TW G mt R cells slots n L (.int (x >>> (y &&& 31)) :: st) σ Z) : TW G mt R cells slots pc L (.int y :: .int x :: st) σ Z := by
  subst hp
  intro p e s m args below meth c H locs ls hC hH hlo hl
  exact lv_ishr hC.1 hC.2.1 hd (k p e s m args below meth c H locs ls hC hH hlo hl)
theorem T_idiv {x y : Int32} (hd : decode mt.2.1 pc = .ok (.idiv, 1)) (hp : pc + 1 = n) (hne : ¬ y = 0) (k : TW G mt R cells slots n L (.int (x / y) :: st) σ Z) : TW G mt R cells slots pc L (.int y :: .int x :: st) σ Z := by
  subst hp
  intro p e s m args below meth c H locs ls hC hH hlo hl
  exact lv_idiv hC.1 hC.2.1 hd hne (k p e s m args below meth c H locs ls hC hH hlo hl)
theorem T_irem {x y : Int32} (hd : decode mt.2.1 pc = .ok (.irem, 1)) (hp : pc + 1 = n) (hne : ¬ y = 0) (k : TW G mt R cells slots n L (.int (x - x / y * y) :: st) σ Z) : TW G mt R cells slots pc L (.int y :: .int x :: st) σ Z := by
  subst hp
  intro p e s m args below meth c H locs ls hC hH hlo hl
  exact lv_irem hC.1 hC.2.1 hd hne (k p e s m args below meth c H locs ls hC hH hlo hl)
theorem T_ladd {x y : Int64} (hd : decode mt.2.1 pc = .ok (.ladd, 1)) (hp : pc + 1 = n) (k : TW G mt R cells slots n L (.long (x + y) :: st) σ Z) : TW G mt R cells slots pc L (.long y :: .long x :: st) σ Z := by
  subst hp
  intro p e s m args below meth c H locs ls hC hH hlo hl
  exact lv_ladd hC.1 hC.2.1 hd (k p e s m args below meth c H locs ls hC hH hlo hl)
theorem T_lsub {x y : Int64} (hd : decode mt.2.1 pc = .ok (.lsub, 1)) (hp : pc + 1 = n) (k : TW G mt R cells slots n L (.long (x - y) :: st) σ Z) : TW G mt R cells slots pc L (.long y :: .long x :: st) σ Z := by
  subst hp
  intro p e s m args below meth c H locs ls hC hH hlo hl
  exact lv_lsub hC.1 hC.2.1 hd (k p e s m args below meth c H locs ls hC hH hlo hl)
theorem T_lmul {x y : Int64} (hd : decode mt.2.1 pc = .ok (.lmul, 1)) (hp : pc + 1 = n) (k : TW G mt R cells slots n L (.long (x * y) :: st) σ Z) : TW G mt R cells slots pc L (.long y :: .long x :: st) σ Z := by
  subst hp
  intro p e s m args below meth c H locs ls hC hH hlo hl
  exact lv_lmul hC.1 hC.2.1 hd (k p e s m args below meth c H locs ls hC hH hlo hl)
theorem T_land {x y : Int64} (hd : decode mt.2.1 pc = .ok (.land, 1)) (hp : pc + 1 = n) (k : TW G mt R cells slots n L (.long (x &&& y) :: st) σ Z) : TW G mt R cells slots pc L (.long y :: .long x :: st) σ Z := by
  subst hp
  intro p e s m args below meth c H locs ls hC hH hlo hl
  exact lv_land hC.1 hC.2.1 hd (k p e s m args below meth c H locs ls hC hH hlo hl)
theorem T_lor {x y : Int64} (hd : decode mt.2.1 pc = .ok (.lor, 1)) (hp : pc + 1 = n) (k : TW G mt R cells slots n L (.long (x ||| y) :: st) σ Z) : TW G mt R cells slots pc L (.long y :: .long x :: st) σ Z := by
  subst hp
  intro p e s m args below meth c H locs ls hC hH hlo hl
  exact lv_lor hC.1 hC.2.1 hd (k p e s m args below meth c H locs ls hC hH hlo hl)
theorem T_lxor {x y : Int64} (hd : decode mt.2.1 pc = .ok (.lxor, 1)) (hp : pc + 1 = n) (k : TW G mt R cells slots n L (.long (x ^^^ y) :: st) σ Z) : TW G mt R cells slots pc L (.long y :: .long x :: st) σ Z := by
  subst hp
  intro p e s m args below meth c H locs ls hC hH hlo hl
  exact lv_lxor hC.1 hC.2.1 hd (k p e s m args below meth c H locs ls hC hH hlo hl)
theorem T_lshl {x : Int64} {y : Int32} (hd : decode mt.2.1 pc = .ok (.lshl, 1)) (hp : pc + 1 = n) (k : TW G mt R cells slots n L (.long (x <<< (y.toInt64 &&& 63)) :: st) σ Z) : TW G mt R cells slots pc L (.int y :: .long x :: st) σ Z := by
  subst hp
  intro p e s m args below meth c H locs ls hC hH hlo hl
  exact lv_lshl hC.1 hC.2.1 hd rfl (k p e s m args below meth c H locs ls hC hH hlo hl)
theorem T_lshr {x : Int64} {y : Int32} (hd : decode mt.2.1 pc = .ok (.lshr, 1)) (hp : pc + 1 = n) (k : TW G mt R cells slots n L (.long (x >>> (y.toInt64 &&& 63)) :: st) σ Z) : TW G mt R cells slots pc L (.int y :: .long x :: st) σ Z := by
  subst hp
  intro p e s m args below meth c H locs ls hC hH hlo hl
  exact lv_lshr hC.1 hC.2.1 hd rfl (k p e s m args below meth c H locs ls hC hH hlo hl)
theorem T_lushr {x : Int64} {y : Int32} (hd : decode mt.2.1 pc = .ok (.lushr, 1)) (hp : pc + 1 = n) (k : TW G mt R cells slots n L (.long ((x.toUInt64 >>> (y.toInt64.toUInt64 &&& Int64.toUInt64 63)).toInt64) :: st) σ Z) : TW G mt R cells slots pc L (.int y :: .long x :: st) σ Z := by
  subst hp
  intro p e s m args below meth c H locs ls hC hH hlo hl
  exact lv_lushr hC.1 hC.2.1 hd rfl (k p e s m args below meth c H locs ls hC hH hlo hl)
theorem T_lcmp {x y : Int64} (hd : decode mt.2.1 pc = .ok (.lcmp, 1)) (hp : pc + 1 = n) (k : TW G mt R cells slots n L (.int (lg_cmp x y) :: st) σ Z) : TW G mt R cells slots pc L (.long y :: .long x :: st) σ Z := by
  subst hp
  intro p e s m args below meth c H locs ls hC hH hlo hl
  exact W.lcmp hC.1 hC.2.1 hd (k p e s m args below meth c H locs ls hC hH hlo hl)
theorem T_i2l {x : Int32} (hd : decode mt.2.1 pc = .ok (.i2l, 1)) (hp : pc + 1 = n) (k : TW G mt R cells slots n L (.long x.toInt64 :: st) σ Z) : TW G mt R cells slots pc L (.int x :: st) σ Z := by
  subst hp
  intro p e s m args below meth c H locs ls hC hH hlo hl
  exact lv_i2l hC.1 hC.2.1 hd rfl (k p e s m args below meth c H locs ls hC hH hlo hl)
theorem T_l2i {x : Int64} (hd : decode mt.2.1 pc = .ok (.l2i, 1)) (hp : pc + 1 = n) (k : TW G mt R cells slots n L (.int x.toInt32 :: st) σ Z) : TW G mt R cells slots pc L (.long x :: st) σ Z := by
  subst hp
  intro p e s m args below meth c H locs ls hC hH hlo hl
  exact lv_l2i hC.1 hC.2.1 hd rfl (k p e s m args below meth c H locs ls hC hH hlo hl)
theorem T_dup {v : Value} (hd : decode mt.2.1 pc = .ok (.dup, 1)) (hp : pc + 1 = n) (hv : v.category = 1) (k : TW G mt R cells slots n L (v :: v :: st) σ Z) : TW G mt R cells slots pc L (v :: st) σ Z := by
  subst hp
  intro p e s m args below meth c H locs ls hC hH hlo hl
  exact lv_dup hC.1 hC.2.1 hd hv (k p e s m args below meth c H locs ls hC hH hlo hl)
theorem T_pop {v : Value} (hd : decode mt.2.1 pc = .ok (.pop, 1)) (hp : pc + 1 = n) (hv : v.category = 1) (k : TW G mt R cells slots n L st σ Z) : TW G mt R cells slots pc L (v :: st) σ Z := by
  subst hp
  intro p e s m args below meth c H locs ls hC hH hlo hl
  exact lv_pop hC.1 hC.2.1 hd hv (k p e s m args below meth c H locs ls hC hH hlo hl)
theorem T_dup2 {v w : Value} (hd : decode mt.2.1 pc = .ok (.dup2, 1)) (hp : pc + 1 = n) (hv : v.category = 1) (hw : w.category = 1) (k : TW G mt R cells slots n L (v :: w :: v :: w :: st) σ Z) : TW G mt R cells slots pc L (v :: w :: st) σ Z := by
  subst hp
  intro p e s m args below meth c H locs ls hC hH hlo hl
  exact lv_dup2_11 hC.1 hC.2.1 hd hv hw (k p e s m args below meth c H locs ls hC hH hlo hl)
theorem T_if_eq {x : Int32} {off : Int} {t : Nat} (hd : decode mt.2.1 pc = .ok (.ifCond .eq off, 3)) (hp : pc + 3 = n) (ht : (pc : Int) + off = (t : Int)) (kt : x = 0 → TW G mt R cells slots t L st σ Z) (kf : ¬ x = 0 → TW G mt R cells slots n L st σ Z) : TW G mt R cells slots pc L (.int x :: st) σ Z := by
  subst hp
  intro p e s m args below meth c H locs ls hC hH hlo hl
  exact lv_if_eq hC.1 hC.2.1 hd ht (fun h => kt h p e s m args below meth c H locs ls hC hH hlo hl) (fun h => kf h p e s m args below meth c H locs ls hC hH hlo hl)
theorem T_icmp_eq {x y : Int32} {off : Int} {t : Nat} (hd : decode mt.2.1 pc = .ok (.if_icmp .eq off, 3)) (hp : pc + 3 = n) (ht : (pc : Int) + off = (t : Int)) (kt : x = y → TW G mt R cells slots t L st σ Z) (kf : ¬ x = y → TW G mt R cells slots n L st σ Z) : TW G mt R cells slots pc L (.int y :: .int x :: st) σ Z := by
  subst hp
  intro p e s m args below meth c H locs ls hC hH hlo hl
  exact lv_icmp_eq hC.1 hC.2.1 hd ht (fun h => kt h p e s m args below meth c H locs ls hC hH hlo hl) (fun h => kf h p e s m args below meth c H locs ls hC hH hlo hl)
theorem T_if_ne {x : Int32} {off : Int} {t : Nat} (hd : decode mt.2.1 pc = .ok (.ifCond .ne off, 3)) (hp : pc + 3 = n) (ht : (pc : Int) + off = (t : Int)) (kt : ¬ x = 0 → TW G mt R cells slots t L st σ Z) (kf : x = 0 → TW G mt R cells slots n L st σ Z) : TW G mt R cells slots pc L (.int x :: st) σ Z := by
  subst hp
  intro p e s m args below meth c H locs ls hC hH hlo hl
  exact lv_if_ne hC.1 hC.2.1 hd ht (fun h => kt h p e s m args below meth c H locs ls hC hH hlo hl) (fun h => kf h p e s m args below meth c H locs ls hC hH hlo hl)
theorem T_icmp_ne {x y : Int32} {off : Int} {t : Nat} (hd : decode mt.2.1 pc = .ok (.if_icmp .ne off, 3)) (hp : pc + 3 = n) (ht : (pc : Int) + off = (t : Int)) (kt : ¬ x = y → TW G mt R cells slots t L st σ Z) (kf : x = y → TW G mt R cells slots n L st σ Z) : TW G mt R cells slots pc L (.int y :: .int x :: st) σ Z := by
  subst hp
  intro p e s m args below meth c H locs ls hC hH hlo hl
  exact lv_icmp_ne hC.1 hC.2.1 hd ht (fun h => kt h p e s m args below meth c H locs ls hC hH hlo hl) (fun h => kf h p e s m args below meth c H locs ls hC hH hlo hl)
theorem T_if_lt {x : Int32} {off : Int} {t : Nat} (hd : decode mt.2.1 pc = .ok (.ifCond .lt off, 3)) (hp : pc + 3 = n) (ht : (pc : Int) + off = (t : Int)) (kt : x < 0 → TW G mt R cells slots t L st σ Z) (kf : ¬ x < 0 → TW G mt R cells slots n L st σ Z) : TW G mt R cells slots pc L (.int x :: st) σ Z := by
  subst hp
  intro p e s m args below meth c H locs ls hC hH hlo hl
  exact lv_if_lt hC.1 hC.2.1 hd ht (fun h => kt h p e s m args below meth c H locs ls hC hH hlo hl) (fun h => kf h p e s m args below meth c H locs ls hC hH hlo hl)
theorem T_icmp_lt {x y : Int32} {off : Int} {t : Nat} (hd : decode mt.2.1 pc = .ok (.if_icmp .lt off, 3)) (hp : pc + 3 = n) (ht : (pc : Int) + off = (t : Int)) (kt : x < y → TW G mt R cells slots t L st σ Z) (kf : ¬ x < y → TW G mt R cells slots n L st σ Z) : TW G mt R cells slots pc L (.int y :: .int x :: st) σ Z := by
  subst hp
  intro p e s m args below meth c H locs ls hC hH hlo hl
  exact lv_icmp_lt hC.1 hC.2.1 hd ht (fun h => kt h p e s m args below meth c H locs ls hC hH hlo hl) (fun h => kf h p e s m args below meth c H locs ls hC hH hlo hl)
theorem T_if_ge {x : Int32} {off : Int} {t : Nat} (hd : decode mt.2.1 pc = .ok (.ifCond .ge off, 3)) (hp : pc + 3 = n) (ht : (pc : Int) + off = (t : Int)) (kt : 0 ≤ x → TW G mt R cells slots t L st σ Z) (kf : ¬ 0 ≤ x → TW G mt R cells slots n L st σ Z) : TW G mt R cells slots pc L (.int x :: st) σ Z := by
  subst hp
  intro p e s m args below meth c H locs ls hC hH hlo hl
  exact lv_if_ge hC.1 hC.2.1 hd ht (fun h => kt h p e s m args below meth c H locs ls hC hH hlo hl) (fun h => kf h p e s m args below meth c H locs ls hC hH hlo hl)
theorem T_icmp_ge {x y : Int32} {off : Int} {t : Nat} (hd : decode mt.2.1 pc = .ok (.if_icmp .ge off, 3)) (hp : pc + 3 = n) (ht : (pc : Int) + off = (t : Int)) (kt : y ≤ x → TW G mt R cells slots t L st σ Z) (kf : ¬ y ≤ x → TW G mt R cells slots n L st σ Z) : TW G mt R cells slots pc L (.int y :: .int x :: st) σ Z := by
  subst hp
  intro p e s m args below meth c H locs ls hC hH hlo hl
  exact lv_icmp_ge hC.1 hC.2.1 hd ht (fun h => kt h p e s m args below meth c H locs ls hC hH hlo hl) (fun h => kf h p e s m args below meth c H locs ls hC hH hlo hl)
theorem T_if_gt {x : Int32} {off : Int} {t : Nat} (hd : decode mt.2.1 pc = .ok (.ifCond .gt off, 3)) (hp : pc + 3 = n) (ht : (pc : Int) + off = (t : Int)) (kt : 0 < x → TW G mt R cells slots t L st σ Z) (kf : ¬ 0 < x → TW G mt R cells slots n L st σ Z) : TW G mt R cells slots pc L (.int x :: st) σ Z := by
  subst hp
  intro p e s m args below meth c H locs ls hC hH hlo hl
  exact lv_if_gt hC.1 hC.2.1 hd ht (fun h => kt h p e s m args below meth c H locs ls hC hH hlo hl) (fun h => kf h p e s m args below meth c H locs ls hC hH hlo hl)
theorem T_icmp_gt {x y : Int32} {off : Int} {t : Nat} (hd : decode mt.2.1 pc = .ok (.if_icmp .gt off, 3)) (hp : pc + 3 = n) (ht : (pc : Int) + off = (t : Int)) (kt : y < x → TW G mt R cells slots t L st σ Z) (kf : ¬ y < x → TW G mt R cells slots n L st σ Z) : TW G mt R cells slots pc L (.int y :: .int x :: st) σ Z := by
  subst hp
  intro p e s m args below meth c H locs ls hC hH hlo hl
  exact lv_icmp_gt hC.1 hC.2.1 hd ht (fun h => kt h p e s m args below meth c H locs ls hC hH hlo hl) (fun h => kf h p e s m args below meth c H locs ls hC hH hlo hl)
theorem T_if_le {x : Int32} {off : Int} {t : Nat} (hd : decode mt.2.1 pc = .ok (.ifCond .le off, 3)) (hp : pc + 3 = n) (ht : (pc : Int) + off = (t : Int)) (kt : x ≤ 0 → TW G mt R cells slots t L st σ Z) (kf : ¬ x ≤ 0 → TW G mt R cells slots n L st σ Z) : TW G mt R cells slots pc L (.int x :: st) σ Z := by
  subst hp
  intro p e s m args below meth c H locs ls hC hH hlo hl
  exact lv_if_le hC.1 hC.2.1 hd ht (fun h => kt h p e s m args below meth c H locs ls hC hH hlo hl) (fun h => kf h p e s m args below meth c H locs ls hC hH hlo hl)
theorem T_icmp_le {x y : Int32} {off : Int} {t : Nat} (hd : decode mt.2.1 pc = .ok (.if_icmp .le off, 3)) (hp : pc + 3 = n) (ht : (pc : Int) + off = (t : Int)) (kt : x ≤ y → TW G mt R cells slots t L st σ Z) (kf : ¬ x ≤ y → TW G mt R cells slots n L st σ Z) : TW G mt R cells slots pc L (.int y :: .int x :: st) σ Z := by
  subst hp
  intro p e s m args below meth c H locs ls hC hH hlo hl
  exact lv_icmp_le hC.1 hC.2.1 hd ht (fun h => kt h p e s m args below meth c H locs ls hC hH hlo hl) (fun h => kf h p e s m args below meth c H locs ls hC hH hlo hl)
theorem T_goto {off : Int} {t : Nat} (hd : decode mt.2.1 pc = .ok (.goto off, 3)) (ht : (pc : Int) + off = (t : Int)) (k : TW G mt R cells slots t L st σ Z) : TW G mt R cells slots pc L st σ Z := by
  intro p e s m args below meth c H locs ls hC hH hlo hl
  exact lv_goto hC.1 hC.2.1 hd ht (k p e s m args below meth c H locs ls hC hH hlo hl)
theorem T_tin {x : Int32} {d lo hi off : Int} {offs : Array Int} {len t : Nat} (hd : decode mt.2.1 pc = .ok (.tableswitch d lo hi offs, len)) (h1 : ¬ x.toInt < lo) (h2 : ¬ hi < x.toInt) (ho : offs[(x.toInt - lo).toNat]? = some off) (ht : (pc : Int) + off = (t : Int)) (k : TW G mt R cells slots t L st σ Z) : TW G mt R cells slots pc L (.int x :: st) σ Z := by
  intro p e s m args below meth c H locs ls hC hH hlo hl
  exact lv_tableIn hC.1 hC.2.1 hd h1 h2 ho ht (k p e s m args below meth c H locs ls hC hH hlo hl)
theorem T_tout {x : Int32} {d lo hi : Int} {offs : Array Int} {len t : Nat} (hd : decode mt.2.1 pc = .ok (.tableswitch d lo hi offs, len)) (h1 : x.toInt < lo ∨ hi < x.toInt) (ht : (pc : Int) + d = (t : Int)) (k : TW G mt R cells slots t L st σ Z) : TW G mt R cells slots pc L (.int x :: st) σ Z := by
  intro p e s m args below meth c H locs ls hC hH hlo hl
  exact lv_tableOut hC.1 hC.2.1 hd h1 ht (k p e s m args below meth c H locs ls hC hH hlo hl)
theorem T_lsw {x : Int32} {d off : Int} {ps : Array (Int × Int)} {len t : Nat} (hd : decode mt.2.1 pc = .ok (.lookupswitch d ps, len)) (hq : (ps.toList.zip (ps.toList.drop 1)).all (fun (a, next) => a.1 < next.1) = true) (ho : Op.lookupswitch.offset ps.toList d x.toInt = off) (ht : (pc : Int) + off = (t : Int)) (k : TW G mt R cells slots t L st σ Z) : TW G mt R cells slots pc L (.int x :: st) σ Z := by
  intro p e s m args below meth c H locs ls hC hH hlo hl
  exact lv_lookup hC.1 hC.2.1 hd hq ho ht (k p e s m args below meth c H locs ls hC hH hlo hl)

theorem T_widen {k' n' : Nat} (h1 : cells ≤ k') (h2 : slots ≤ n') (k : TW G mt R k' n' pc L st σ Z) : TW G mt R cells slots pc L st σ Z := fun p e s m args below meth c H locs ls hC hH hlo hl => W.widen h1 h2 (k p e s m args below meth c H locs ls hC hH hlo hl)
/-- fewer locals known -/
theorem T_loc {L' : List (Option Value)} (h : ∀ (i : Nat) (v : Value), L'[i]? = some (some v) → L[i]? = some (some v)) (k : TW G mt R cells slots pc L' st σ Z) : TW G mt R cells slots pc L st σ Z := fun p e s m args below meth c H locs ls hC hH hlo hl => k p e s m args below meth c H locs ls hC hH hlo ⟨hl.1, hl.2.1, fun i v q => hl.2.2 i v (h i v q)⟩
end TL

