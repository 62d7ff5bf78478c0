section
theorem inlX0 : ∀ w ∈ wsX00, w ∈ wsL_law := fun _ h => List.mem_append_left _ (List.mem_append_right _ h)
theorem inlX1 : ∀ w ∈ wsX10, w ∈ wsL_law := fun _ h => List.mem_append_left _ (List.mem_append_left _ (List.mem_append_left _ (List.mem_append_right _ h)))
theorem inlX2 : ∀ w ∈ wsX20, w ∈ wsL_law := fun _ h => List.mem_append_left _ (List.mem_append_left _ (List.mem_append_right _ h))
theorem inlX3 : ∀ w ∈ wsX30, w ∈ wsL_law := fun _ h => List.mem_append_left _ (List.mem_append_left _ (List.mem_append_left _ (List.mem_append_left _ (List.mem_append_left _ (List.mem_append_right _ h)))))
theorem inlX4 : ∀ w ∈ wsX40, w ∈ wsL_law := fun _ h => List.mem_append_left _ (List.mem_append_left _ (List.mem_append_left _ (List.mem_append_left _ (List.mem_append_right _ h))))
/-- the words that every method of ours is walked under -/
def tl_W : List Cond := wsL_law
theorem tl_inW {w : Cond} (h : w ∈ wsL_law) : w ∈ tl_W := h

/-! ===== T-LAYER: a light walk. G: launch, class numbers and slots, array classes, base, first heap, read-only int arrays; a state: shapes, ints, longs, references, heap size ===== -/
abbrev tl_cl : List vw_C := [(RX0, TX0, 6), (RX1, TX1, 3), (RX2, TX2, 9), (RX3, TX3, 11), (RX4, TX4, 35)]
def tl_ty : Nat → Nat → FieldType := fun ci => match ci with
  | 0 => tyX0
  | 1 => tyX1
  | 2 => tyX2
  | 3 => tyX3
  | _ => tyX4
abbrev tl_G : Type := Launch × va_G × (Nat → ClassId) × Nat × Heap × (Nat → Nat × Nat × (Nat → Int32))
abbrev tl_S : Type := (Nat → Nat × Nat) × (Nat → Nat → Int32) × (Nat → Nat → Int64) × (Nat → Nat → Option Nat) × Nat
abbrev tl_M : Type := String × ByteArray × Nat × Option FieldType × String
abbrev gL (G : tl_G) : Launch := G.1
abbrev gD (G : tl_G) : va_G := G.2.1
abbrev gA (G : tl_G) : Nat → ClassId := G.2.2.1
abbrev gB (G : tl_G) : Nat := G.2.2.2.1
abbrev gH (G : tl_G) : Heap := G.2.2.2.2.1
abbrev gR (G : tl_G) : Nat → Nat × Nat × (Nat → Int32) := G.2.2.2.2.2
abbrev sS (σ : tl_S) : Nat → Nat × Nat := σ.1
abbrev sM (σ : tl_S) : Nat → Nat → Int32 := σ.2.1
abbrev sJ (σ : tl_S) : Nat → Nat → Int64 := σ.2.2.1
abbrev sP (σ : tl_S) : Nat → Nat → Option Nat := σ.2.2.2.1
abbrev sZ (σ : tl_S) : Nat := σ.2.2.2.2
def up2 {α : Type} (M : Nat → Nat → α) (a j : Nat) (v : α) : Nat → Nat → α := fun a' j' => if a' = a then (if j' = j then v else M a' j') else M a' j'
theorem up2_o {α : Type} {M : Nat → Nat → α} {a j a' : Nat} {v : α} (h : a' ≠ a) : up2 M a j v a' = M a' := by
  funext j'
  simp [up2, h]
theorem up2_s {α : Type} {M : Nat → Nat → α} {a j : Nat} {v : α} : up2 M a j v a j = v := by simp [up2]
theorem up2_n {α : Type} {M : Nat → Nat → α} {a j j' : Nat} {v : α} (h : j' ≠ j) : up2 M a j v a j' = M a j' := by simp [up2, h]
def up1 {α : Type} (f : Nat → α) (a : Nat) (v : α) : Nat → α := fun a' => if a' = a then v else f a'
theorem up1_o {α : Type} {f : Nat → α} {a a' : Nat} {v : α} (h : a' ≠ a) : up1 f a v a' = f a' := by simp [up1, h]
theorem up1_s {α : Type} {f : Nat → α} {a : Nat} {v : α} : up1 f a v a = v := by simp [up1]
def tl_fv (ty : FieldType) (x : Int32) (y : Int64) (r : Option Nat) : Value := match ty with
  | .int => .int x
  | .boolean => .int x
  | .long => .long y
  | .object _ => va_rf r
  | .array _ => va_rf r
  | _ => .null
/-- a cell by its shape: 1 an object of a class, 2 int[], 3 boolean[], 4 long[], 5 and on an array of references -/
def tl_at (G : tl_G) (t n a : Nat) (x : Nat → Int32) (y : Nat → Int64) (r : Nat → Option Nat) (H : Heap) : Prop := match t with
  | 0 => True
  | 1 => ∃ q, tl_cl[n]? = some q ∧ t_OB a ((gD G).1 n) q.2.2 ((gD G).2 n) H (fun k => tl_fv (tl_ty n k) (x k) (y k) (r k))
  | 2 => H[a]? = some (arrV (gA G 0) n (fun j => .int (x j)))
  | 3 => H[a]? = some (arrV (gA G 1) n (fun j => .int (x j)))
  | 4 => H[a]? = some (arrV (gA G 2) n (fun j => .long (y j)))
  | _ => H[a]? = some (arrV (gA G 3) n (fun j => va_rf (r j)))
def tl_cell (G : tl_G) (σ : tl_S) (a : Nat) (H : Heap) : Prop := tl_at G (sS σ a).1 (sS σ a).2 a (sM σ a) (sJ σ a) (sP σ a) H
def tl_H (G : tl_G) (σ : tl_S) (H : Heap) : Prop := H.size = sZ σ ∧ gB G ≤ sZ σ ∧ (∀ q, q < gB G → H[q]? = (gH G)[q]?) ∧ (∀ a, a < gB G → (sS σ a).1 = 0) ∧ ∀ a, tl_cell G σ a H
def tl_tys (G : tl_G) : List (ClassId × FieldType) := [(gA G 0, .int), (gA G 1, .boolean), (gA G 2, .long), (gA G 3, .object RX0)]
def tl_sf : Nat → String × String × String := fun i => match i with
  | 1 => ("DiagramBench", "OPERANDS", "[I")
  | _ => ("DiagramBench", "TABLES", "[I")
def tl_si (i : Nat) : Nat := if i = 1 then 31 else 45
def tl_N (s : State) : Prop := va_Nw (.fieldLinkNest RX0 31 "DiagramBench" "OPERANDS" "[I" "DiagramBench") s ∧ va_Nw (.fieldLinkNest RX0 45 "DiagramBench" "TABLES" "[I" "DiagramBench") s
/-- an int array of at least L, its first L as told -/
def tl_X (b L : Nat) (xs : Nat → Int32) (U : State) (H : Heap) : Prop := ∃ scr : Cell, H[b]? = some scr ∧ U.isArrayOf scr .int ∧ scr.vm ≠ .unknown ∧ L ≤ scr.slots.size ∧ ∀ j : Nat, j < L → scr.slots[j]? = some (.int (xs j))
theorem tl_X_moved {b L : Nat} {xs : Nat → Int32} {u U : State} {H : Heap} (hvm : u.vm.Alike U.vm) (h : tl_X b L xs u H) : tl_X b L xs U H := by
  obtain ⟨scr, h1, h2, h3⟩ := h
  exact ⟨scr, h1, State.isArrayOf_alike hvm h2, h3⟩
def tl_K (G : tl_G) (s : State) : Prop := va_K (gD G) tl_cl (tl_tys G) s ∧ (∀ i, i < 3 → tl_X (gR G i).1 (gR G i).2.1 (gR G i).2.2 s (gH G) ∧ (gR G i).1 < gB G) ∧ (∀ i, 1 ≤ i → i < 3 → va_Z (tl_sf i).1 (tl_sf i).2.1 (tl_sf i).2.2 (.ref (gR G i).1) (fun q => gB G ≤ q) s (gH G)) ∧ va_AO RX0 s ∧ tl_N s ∧ va_X (gR G 0).1 (gR G 0).2.1 (gR G 0).2.2 s (gH G)
theorem tl_K_moved {G : tl_G} {u U : State} (hW : u.WarmedH U.vm) (h : tl_K G u) : tl_K G U := ⟨va_K.moved hW.alike h.1, fun i hi => ⟨tl_X_moved hW.alike (h.2.1 i hi).1, (h.2.1 i hi).2⟩, fun i h1 h2 => va_Z.moved hW.alike (h.2.2.1 i h1 h2), va_AO.moved hW.alike h.2.2.2.1, ⟨va_Nw.warmF hW h.2.2.2.2.1.1, va_Nw.warmF hW h.2.2.2.2.1.2⟩, va_X.moved hW.alike h.2.2.2.2.2⟩
theorem tl_K_same {G : tl_G} {u U : State} (hvm : u.vm = U.vm) (h : tl_K G u) : tl_K G U := by
  have ha : u.vm.Alike U.vm := by rw [hvm]; exact Vm.Alike.refl U.vm
  exact ⟨va_K.moved ha h.1, fun i hi => ⟨tl_X_moved ha (h.2.1 i hi).1, (h.2.1 i hi).2⟩, fun i h1 h2 => va_Z.moved ha (h.2.2.1 i h1 h2), va_AO.moved ha h.2.2.2.1, ⟨va_Nw.same rfl hvm h.2.2.2.2.1.1, va_Nw.same rfl hvm h.2.2.2.2.1.2⟩, va_X.moved ha h.2.2.2.2.2⟩
theorem tl_at_lt {G : tl_G} {t n a : Nat} {x : Nat → Int32} {y : Nat → Int64} {r : Nat → Option Nat} {H : Heap} (h : tl_at G t n a x y r H) (ht : t ≠ 0) : a < H.size := by
  match t, h, ht with
  | 0, _, ht => exact absurd rfl ht
  | 1, h, _ =>
    obtain ⟨q, -, cell, h2, -⟩ := h
    exact (Array.getElem?_eq_some_iff.mp h2).1
  | 2, h, _ => exact (Array.getElem?_eq_some_iff.mp h).1
  | 3, h, _ => exact (Array.getElem?_eq_some_iff.mp h).1
  | 4, h, _ => exact (Array.getElem?_eq_some_iff.mp h).1
  | t + 5, h, _ => exact (Array.getElem?_eq_some_iff.mp h).1
theorem tl_at_kept {G : tl_G} {t n a : Nat} {x : Nat → Int32} {y : Nat → Int64} {r : Nat → Option Nat} {H H1 : Heap} (h : tl_at G t n a x y r H) (hq : H1[a]? = H[a]?) : tl_at G t n a x y r H1 := by
  match t, h with
  | 0, _ => trivial
  | 1, h =>
    obtain ⟨q, h1, h2⟩ := h
    exact ⟨q, h1, h2.kept hq⟩
  | 2, h => exact hq.trans h
  | 3, h => exact hq.trans h
  | 4, h => exact hq.trans h
  | t + 5, h => exact hq.trans h
/-- the locals -/
def tl_lh (ls : Array Slot) (nL : Nat) (L : List (Option Value)) : Prop := ls.size = nL ∧ lv_wf ls ∧ ∀ (i : Nat) (v : Value), L[i]? = some (some v) → ls[i]? = some (.val v)
def tl_nl (L : List (Option Value)) (i : Nat) : Bool := match i with
  | 0 => true
  | i + 1 => match L[i]? with
    | some (some v) => v.category == 1
    | _ => true
def tl_pairs (L : List (Option Value)) : List (Nat × Value) := (List.range L.length).filterMap (fun i => match L[i]? with
  | some (some v) => some (i, v)
  | _ => none)
theorem tl_pairs_mem {L : List (Option Value)} {i : Nat} {v : Value} : (i, v) ∈ tl_pairs L ↔ L[i]? = some (some v) := by
  unfold tl_pairs
  rw [List.mem_filterMap]
  constructor
  · rintro ⟨k, hk, h⟩
    split at h
    · rename_i w hw
      cases h
      exact hw
    · cases h
  · intro h
    refine ⟨i, List.mem_range.mpr (List.getElem?_eq_some_iff.mp h).1, ?_⟩
    rw [h]
theorem tl_has {ls : Array Slot} {nL : Nat} {L : List (Option Value)} (h : tl_lh ls nL L) : lv_has ls nL (tl_pairs L) := ⟨h.1, h.2.1, fun q hq => h.2.2 q.1 q.2 (tl_pairs_mem.mp hq)⟩
theorem tl_st1 {ls : Array Slot} {nL i : Nat} {L : List (Option Value)} {v : Value} (hn : tl_nl L i = true) (h : lv_has ls nL ((i, v) :: (tl_pairs L).filter (fun q => !(q.1 == i) && !(q.1 + 1 == i && q.2.category == 2)))) : tl_lh ls nL (L.set i (some v)) := by
  refine ⟨h.1, h.2.1, fun j w hj => ?_⟩
  rw [List.getElem?_set] at hj
  by_cases hij : i = j
  · subst hij
    rw [if_pos rfl] at hj
    split at hj
    · cases hj
      exact h.2.2 (i, v) List.mem_cons_self
    · cases hj
  · rw [if_neg hij] at hj
    refine h.2.2 (j, w) (List.mem_cons_of_mem _ (List.mem_filter.mpr ⟨tl_pairs_mem.mpr hj, ?_⟩))
    have e1 : (j == i) = false := by simp [Ne.symm hij]
    simp only [e1, Bool.not_false, Bool.true_and, Bool.not_eq_true', Bool.and_eq_false_iff]
    by_cases h2 : j + 1 = i
    · subst h2
      right
      unfold tl_nl at hn
      simp only [hj] at hn
      have e2 : w.category = 1 := by simpa using hn
      simp [e2]
    · left
      simpa using h2
theorem tl_st2 {ls : Array Slot} {nL i : Nat} {L : List (Option Value)} {v : Value} (hn : tl_nl L i = true) (h : lv_has ls nL ((i, v) :: (tl_pairs L).filter (fun q => !(q.1 == i) && (!(q.1 == i + 1) && !(q.1 + 1 == i && q.2.category == 2))))) : tl_lh ls nL ((L.set i (some v)).set (i + 1) none) := by
  refine ⟨h.1, h.2.1, fun j w hj => ?_⟩
  rw [List.getElem?_set] at hj
  by_cases hij2 : i + 1 = j
  · rw [if_pos hij2] at hj
    split at hj <;> cases hj
  · rw [if_neg hij2, List.getElem?_set] at hj
    by_cases hij : i = j
    · subst hij
      rw [if_pos rfl] at hj
      split at hj
      · cases hj
        exact h.2.2 (i, v) List.mem_cons_self
      · cases hj
    · rw [if_neg hij] at hj
      refine h.2.2 (j, w) (List.mem_cons_of_mem _ (List.mem_filter.mpr ⟨tl_pairs_mem.mpr hj, ?_⟩))
      have e1 : (j == i) = false := by simp [Ne.symm hij]
      have e3 : (j == i + 1) = false := by simp [Ne.symm hij2]
      simp only [e1, e3, Bool.not_false, Bool.true_and, Bool.not_eq_true', Bool.and_eq_false_iff]
      by_cases h2 : j + 1 = i
      · subst h2
        right
        unfold tl_nl at hn
        simp only [hj] at hn
        have e2 : w.category = 1 := by simpa using hn
        simp [e2]
      · left
        simpa using h2
/-- what stands fixed while a method of ours runs -/
def tl_C (G : tl_G) (mt : tl_M) (p : Program) (s : State) (m : MethodId) (args : Array Value) (meth : Method) (c : Code) : Prop :=
  p.tables.exec = Jvm.exec ∧ c.code = mt.2.1 ∧ c.maxLocals = mt.2.2.1 ∧ meth.sig.returnType = mt.2.2.2.1 ∧ meth.locks = false ∧ meth.name = mt.2.2.2.2 ∧ s.vm.findClass mt.1 = some m.cls ∧ (∀ w ∈ tl_W, w.before args s = true) ∧ tl_K G s
abbrev tl_Z : Type := List Frame → Array Value → State → State → Prop
/-- THE JUDGEMENT: at pc, with locals L and stack st, over the state σ, the method comes to Z -/
def TW (G : tl_G) (mt : tl_M) (R : Room) (cells slots pc : Nat) (L : List (Option Value)) (st : List Value) (σ : tl_S) (Z : tl_Z) : Prop :=
  ∀ (p : Program) (e : Env) (s : State) (m : MethodId) (args : Array Value) (below : List Frame) (meth : Method) (c : Code) (H : Heap) (locs : List Loc) (ls : Array Slot), tl_C G mt p s m args meth c → tl_H G σ H → (∀ q ∈ locs, gB G ≤ q.base) → tl_lh ls mt.2.2.1 L →
    W p (gL G) e R s m args below meth c H locs cells slots (Z below args s) (F0 m pc ls st)
section TL
variable {G : tl_G} {mt : tl_M} {R : Room} {cells slots pc n : Nat} {L : List (Option Value)} {st : List Value} {σ : tl_S} {Z : tl_Z}

theorem T_iconst {i : Int} {v : Int32} (hd : decode mt.2.1 pc = .ok (.iconst i, 1)) (hp : pc + 1 = n) (hv : Int32.ofInt i = v) (k : TW G mt R cells slots n L (.int v :: st) σ Z) : TW G mt R cells slots pc L st σ Z := by
  subst hp
  intro p e s m args below meth c H locs ls hC hH hlo hl
  exact lv_iconst hC.1 hC.2.1 hd hv (k p e s m args below meth c H locs ls hC hH hlo hl)
theorem T_bipush {i : Int} {v : Int32} (hd : decode mt.2.1 pc = .ok (.bipush i, 2)) (hp : pc + 2 = n) (hv : (Int8.ofInt i).toInt32 = v) (k : TW G mt R cells slots n L (.int v :: st) σ Z) : TW G mt R cells slots pc L st σ Z := by
  subst hp
  intro p e s m args below meth c H locs ls hC hH hlo hl
  exact lv_bipush hC.1 hC.2.1 hd hv (k p e s m args below meth c H locs ls hC hH hlo hl)
theorem T_sipush {i : Int} {v : Int32} (hd : decode mt.2.1 pc = .ok (.sipush i, 3)) (hp : pc + 3 = n) (hv : (Int16.ofInt i).toInt32 = v) (k : TW G mt R cells slots n L (.int v :: st) σ Z) : TW G mt R cells slots pc L st σ Z := by
  subst hp
  intro p e s m args below meth c H locs ls hC hH hlo hl
  exact lv_sipush hC.1 hC.2.1 hd hv (k p e s m args below meth c H locs ls hC hH hlo hl)
theorem T_lconst {i : Fin 2} {v : Int64} (hd : decode mt.2.1 pc = .ok (.lconst i, 1)) (hp : pc + 1 = n) (hv : Int64.ofNat (i : Nat) = v) (k : TW G mt R cells slots n L (.long v :: st) σ Z) : TW G mt R cells slots pc L st σ Z := by
  subst hp
  intro p e s m args below meth c H locs ls hC hH hlo hl
  exact lv_lconst hC.1 hC.2.1 hd hv (k p e s m args below meth c H locs ls hC hH hlo hl)
theorem T_ldc2 {i : Nat} {v : Int64} (hd : decode mt.2.1 pc = .ok (.ldc2_w i, 3)) (hp : pc + 3 = n) (hw : Cond.constantLong mt.1 i v ∈ tl_W) (k : TW G mt R cells slots n L (.long v :: st) σ Z) : TW G mt R cells slots pc L st σ Z := by
  subst hp
  intro p e s m args below meth c H locs ls hC hH hlo hl
  exact lv_ldc2 hC.1 hC.2.1 hC.2.2.2.2.2.2.1 (hC.2.2.2.2.2.2.2.1 _ hw) hd (k p e s m args below meth c H locs ls hC hH hlo hl)
theorem T_iload_n {i : Fin 4} {x : Int32} (hd : decode mt.2.1 pc = .ok (.iload_n i, 1)) (hp : pc + 1 = n) (hl0 : L[(i : Nat)]? = some (some (.int x))) (k : TW G mt R cells slots n L (.int x :: st) σ Z) : TW G mt R cells slots pc L st σ Z := by
  subst hp
  intro p e s m args below meth c H locs ls hC hH hlo hl
  exact lv_iload_n hC.1 hC.2.1 hd rfl (hl.2.2 _ _ hl0) (k p e s m args below meth c H locs ls hC hH hlo hl)
theorem T_iload {i : Nat} {x : Int32} (hd : decode mt.2.1 pc = .ok (.iload i, 2)) (hp : pc + 2 = n) (hl0 : L[i]? = some (some (.int x))) (k : TW G mt R cells slots n L (.int x :: st) σ Z) : TW G mt R cells slots pc L st σ Z := by
  subst hp
  intro p e s m args below meth c H locs ls hC hH hlo hl
  exact lv_iload hC.1 hC.2.1 hd (hl.2.2 _ _ hl0) (k p e s m args below meth c H locs ls hC hH hlo hl)
theorem T_aload_n {i : Fin 4} {x : Nat} (hd : decode mt.2.1 pc = .ok (.aload_n i, 1)) (hp : pc + 1 = n) (hl0 : L[(i : Nat)]? = some (some (.ref x))) (k : TW G mt R cells slots n L (.ref x :: st) σ Z) : TW G mt R cells slots pc L st σ Z := by
  subst hp
  intro p e s m args below meth c H locs ls hC hH hlo hl
  exact lv_aload_n hC.1 hC.2.1 hd rfl (hl.2.2 _ _ hl0) (k p e s m args below meth c H locs ls hC hH hlo hl)
theorem T_lload_n {i : Fin 4} {x : Int64} (hd : decode mt.2.1 pc = .ok (.lload_n i, 1)) (hp : pc + 1 = n) (hl0 : L[(i : Nat)]? = some (some (.long x))) (k : TW G mt R cells slots n L (.long x :: st) σ Z) : TW G mt R cells slots pc L st σ Z := by
  subst hp
  intro p e s m args below meth c H locs ls hC hH hlo hl
  exact lv_lload_n hC.1 hC.2.1 hd rfl (hl.2.2 _ _ hl0) (k p e s m args below meth c H locs ls hC hH hlo hl)
theorem T_lload {i : Nat} {x : Int64} (hd : decode mt.2.1 pc = .ok (.lload i, 2)) (hp : pc + 2 = n) (hl0 : L[i]? = some (some (.long x))) (k : TW G mt R cells slots n L (.long x :: st) σ Z) : TW G mt R cells slots pc L st σ Z := by
  subst hp
  intro p e s m args below meth c H locs ls hC hH hlo hl
  exact lv_lload hC.1 hC.2.1 hd (hl.2.2 _ _ hl0) (k p e s m args below meth c H locs ls hC hH hlo hl)
theorem T_istore {i : Nat} {x : Int32} (hd : decode mt.2.1 pc = .ok (.istore i, 2)) (hp : pc + 2 = n) (hn : i < mt.2.2.1) (hk : tl_nl L i = true) (k : TW G mt R cells slots n (L.set i (some (.int x))) st σ Z) : TW G mt R cells slots pc L (.int x :: st) σ Z := by
  subst hp
  intro p e s m args below meth c H locs ls hC hH hlo hl
  exact lv_istore hC.1 hC.2.1 hd (tl_has hl) hn rfl (fun ls' h' => k p e s m args below meth c H locs ls' hC hH hlo (tl_st1 hk h'))
theorem T_istore_n {i : Fin 4} {x : Int32} (hd : decode mt.2.1 pc = .ok (.istore_n i, 1)) (hp : pc + 1 = n) (hn : (i : Nat) < mt.2.2.1) (hk : tl_nl L (i : Nat) = true) (k : TW G mt R cells slots n (L.set (i : Nat) (some (.int x))) st σ Z) : TW G mt R cells slots pc L (.int x :: st) σ Z := by
  subst hp
  intro p e s m args below meth c H locs ls hC hH hlo hl
  exact lv_istore_n hC.1 hC.2.1 hd rfl (tl_has hl) hn rfl (fun ls' h' => k p e s m args below meth c H locs ls' hC hH hlo (tl_st1 hk h'))
theorem T_astore_n {i : Fin 4} {x : Nat} (hd : decode mt.2.1 pc = .ok (.astore_n i, 1)) (hp : pc + 1 = n) (hn : (i : Nat) < mt.2.2.1) (hk : tl_nl L (i : Nat) = true) (k : TW G mt R cells slots n (L.set (i : Nat) (some (.ref x))) st σ Z) : TW G mt R cells slots pc L (.ref x :: st) σ Z := by
  subst hp
  intro p e s m args below meth c H locs ls hC hH hlo hl
  exact lv_astore_n hC.1 hC.2.1 hd rfl (tl_has hl) hn rfl (fun ls' h' => k p e s m args below meth c H locs ls' hC hH hlo (tl_st1 hk h'))
theorem T_lstore {i : Nat} {x : Int64} (hd : decode mt.2.1 pc = .ok (.lstore i, 2)) (hp : pc + 2 = n) (hn : i + 1 < mt.2.2.1) (hk : tl_nl L i = true) (k : TW G mt R cells slots n ((L.set i (some (.long x))).set (i + 1) none) st σ Z) : TW G mt R cells slots pc L (.long x :: st) σ Z := by
  subst hp
  intro p e s m args below meth c H locs ls hC hH hlo hl
  exact lv_lstore hC.1 hC.2.1 hd (tl_has hl) hn rfl (fun ls' h' => k p e s m args below meth c H locs ls' hC hH hlo (tl_st2 hk h'))
theorem T_lstore_n {i : Fin 4} {x : Int64} (hd : decode mt.2.1 pc = .ok (.lstore_n i, 1)) (hp : pc + 1 = n) (hn : (i : Nat) + 1 < mt.2.2.1) (hk : tl_nl L (i : Nat) = true) (k : TW G mt R cells slots n ((L.set (i : Nat) (some (.long x))).set ((i : Nat) + 1) none) st σ Z) : TW G mt R cells slots pc L (.long x :: st) σ Z := by
  subst hp
  intro p e s m args below meth c H locs ls hC hH hlo hl
  exact lv_lstore_n hC.1 hC.2.1 hd rfl (tl_has hl) hn rfl (fun ls' h' => k p e s m args below meth c H locs ls' hC hH hlo (tl_st2 hk h'))
theorem T_iinc {i : Nat} {d : Int} {x : Int32} (hd : decode mt.2.1 pc = .ok (.iinc i d, 3)) (hp : pc + 3 = n) (hl0 : L[i]? = some (some (.int x))) (hn : i < mt.2.2.1) (hk : tl_nl L i = true) (k : TW G mt R cells slots n (L.set i (some (.int (x + Int32.ofInt d)))) st σ Z) : TW G mt R cells slots pc L st σ Z := by
  subst hp
  intro p e s m args below meth c H locs ls hC hH hlo hl
  obtain ⟨j, hj⟩ := List.getElem?_of_mem (tl_pairs_mem.mpr hl0)
  exact lv_iinc hC.1 hC.2.1 hd (tl_has hl) hj rfl hn rfl (fun ls' h' => k p e s m args below meth c H locs ls' hC hH hlo (tl_st1 hk h'))
theorem T_iadd {x y : Int32} (hd : decode mt.2.1 pc = .ok (.iadd, 1)) (hp : pc + 1 = n) (k : TW G mt R cells slots n L (.int (x + y) :: st) σ Z) : TW G mt R cells slots pc L (.int y :: .int x :: st) σ Z := by
  subst hp
  intro p e s m args below meth c H locs ls hC hH hlo hl
  exact lv_iadd hC.1 hC.2.1 hd (k p e s m args below meth c H locs ls hC hH hlo hl)
theorem T_isub {x y : Int32} (hd : decode mt.2.1 pc = .ok (.isub, 1)) (hp : pc + 1 = n) (k : TW G mt R cells slots n L (.int (x - y) :: st) σ Z) : TW G mt R cells slots pc L (.int y :: .int x :: st) σ Z := by
  subst hp
  intro p e s m args below meth c H locs ls hC hH hlo hl
  exact lv_isub hC.1 hC.2.1 hd (k p e s m args below meth c H locs ls hC hH hlo hl)
theorem T_imul {x y : Int32} (hd : decode mt.2.1 pc = .ok (.imul, 1)) (hp : pc + 1 = n) (k : TW G mt R cells slots n L (.int (x * y) :: st) σ Z) : TW G mt R cells slots pc L (.int y :: .int x :: st) σ Z := by
  subst hp
  intro p e s m args below meth c H locs ls hC hH hlo hl
  exact lv_imul hC.1 hC.2.1 hd (k p e s m args below meth c H locs ls hC hH hlo hl)
theorem T_iand {x y : Int32} (hd : decode mt.2.1 pc = .ok (.iand, 1)) (hp : pc + 1 = n) (k : TW G mt R cells slots n L (.int (x &&& y) :: st) σ Z) : TW G mt R cells slots pc L (.int y :: .int x :: st) σ Z := by
  subst hp
  intro p e s m args below meth c H locs ls hC hH hlo hl
  exact lv_iand hC.1 hC.2.1 hd (k p e s m args below meth c H locs ls hC hH hlo hl)
theorem T_ior {x y : Int32} (hd : decode mt.2.1 pc = .ok (.ior, 1)) (hp : pc + 1 = n) (k : TW G mt R cells slots n L (.int (x ||| y) :: st) σ Z) : TW G mt R cells slots pc L (.int y :: .int x :: st) σ Z := by
  subst hp
  intro p e s m args below meth c H locs ls hC hH hlo hl
  exact lv_ior hC.1 hC.2.1 hd (k p e s m args below meth c H locs ls hC hH hlo hl)
theorem T_ixor {x y : Int32} (hd : decode mt.2.1 pc = .ok (.ixor, 1)) (hp : pc + 1 = n) (k : TW G mt R cells slots n L (.int (x ^^^ y) :: st) σ Z) : TW G mt R cells slots pc L (.int y :: .int x :: st) σ Z := by
  subst hp
  intro p e s m args below meth c H locs ls hC hH hlo hl
  exact lv_ixor hC.1 hC.2.1 hd (k p e s m args below meth c H locs ls hC hH hlo hl)
theorem T_ishl {x y : Int32} (hd : decode mt.2.1 pc = .ok (.ishl, 1)) (hp : pc + 1 = n) (k : TW G mt R cells slots n L (.int (x <<< (y &&& 31)) :: st) σ Z) : TW G mt R cells slots pc L (.int y :: .int x :: st) σ Z := by
  subst hp
  intro p e s m args below meth c H locs ls hC hH hlo hl
  exact lv_ishl hC.1 hC.2.1 hd (k p e s m args below meth c H locs ls hC hH hlo hl)
theorem T_ishr {x y : Int32} (hd : decode mt.2.1 pc = .ok (.ishr, 1)) (hp : pc + 1 = n) (k : TW G mt R cells slots n L (.int (x >>> (y &&& 31)) :: st) σ Z) : TW G mt R cells slots pc L (.int y :: .int x :: st) σ Z := by
  subst hp
  intro p e s m args below meth c H locs ls hC hH hlo hl
  exact lv_ishr hC.1 hC.2.1 hd (k p e s m args below meth c H locs ls hC hH hlo hl)
theorem T_idiv {x y : Int32} (hd : decode mt.2.1 pc = .ok (.idiv, 1)) (hp : pc + 1 = n) (hne : ¬ y = 0) (k : TW G mt R cells slots n L (.int (x / y) :: st) σ Z) : TW G mt R cells slots pc L (.int y :: .int x :: st) σ Z := by
  subst hp
  intro p e s m args below meth c H locs ls hC hH hlo hl
  exact lv_idiv hC.1 hC.2.1 hd hne (k p e s m args below meth c H locs ls hC hH hlo hl)
theorem T_irem {x y : Int32} (hd : decode mt.2.1 pc = .ok (.irem, 1)) (hp : pc + 1 = n) (hne : ¬ y = 0) (k : TW G mt R cells slots n L (.int (x - x / y * y) :: st) σ Z) : TW G mt R cells slots pc L (.int y :: .int x :: st) σ Z := by
  subst hp
  intro p e s m args below meth c H locs ls hC hH hlo hl
  exact lv_irem hC.1 hC.2.1 hd hne (k p e s m args below meth c H locs ls hC hH hlo hl)
theorem T_ladd {x y : Int64} (hd : decode mt.2.1 pc = .ok (.ladd, 1)) (hp : pc + 1 = n) (k : TW G mt R cells slots n L (.long (x + y) :: st) σ Z) : TW G mt R cells slots pc L (.long y :: .long x :: st) σ Z := by
  subst hp
  intro p e s m args below meth c H locs ls hC hH hlo hl
  exact lv_ladd hC.1 hC.2.1 hd (k p e s m args below meth c H locs ls hC hH hlo hl)
theorem T_lsub {x y : Int64} (hd : decode mt.2.1 pc = .ok (.lsub, 1)) (hp : pc + 1 = n) (k : TW G mt R cells slots n L (.long (x - y) :: st) σ Z) : TW G mt R cells slots pc L (.long y :: .long x :: st) σ Z := by
  subst hp
  intro p e s m args below meth c H locs ls hC hH hlo hl
  exact lv_lsub hC.1 hC.2.1 hd (k p e s m args below meth c H locs ls hC hH hlo hl)
theorem T_lmul {x y : Int64} (hd : decode mt.2.1 pc = .ok (.lmul, 1)) (hp : pc + 1 = n) (k : TW G mt R cells slots n L (.long (x * y) :: st) σ Z) : TW G mt R cells slots pc L (.long y :: .long x :: st) σ Z := by
  subst hp
  intro p e s m args below meth c H locs ls hC hH hlo hl
  exact lv_lmul hC.1 hC.2.1 hd (k p e s m args below meth c H locs ls hC hH hlo hl)
theorem T_land {x y : Int64} (hd : decode mt.2.1 pc = .ok (.land, 1)) (hp : pc + 1 = n) (k : TW G mt R cells slots n L (.long (x &&& y) :: st) σ Z) : TW G mt R cells slots pc L (.long y :: .long x :: st) σ Z := by
  subst hp
  intro p e s m args below meth c H locs ls hC hH hlo hl
  exact lv_land hC.1 hC.2.1 hd (k p e s m args below meth c H locs ls hC hH hlo hl)
theorem T_lor {x y : Int64} (hd : decode mt.2.1 pc = .ok (.lor, 1)) (hp : pc + 1 = n) (k : TW G mt R cells slots n L (.long (x ||| y) :: st) σ Z) : TW G mt R cells slots pc L (.long y :: .long x :: st) σ Z := by
  subst hp
  intro p e s m args below meth c H locs ls hC hH hlo hl
  exact lv_lor hC.1 hC.2.1 hd (k p e s m args below meth c H locs ls hC hH hlo hl)
theorem T_lxor {x y : Int64} (hd : decode mt.2.1 pc = .ok (.lxor, 1)) (hp : pc + 1 = n) (k : TW G mt R cells slots n L (.long (x ^^^ y) :: st) σ Z) : TW G mt R cells slots pc L (.long y :: .long x :: st) σ Z := by
  subst hp
  intro p e s m args below meth c H locs ls hC hH hlo hl
  exact lv_lxor hC.1 hC.2.1 hd (k p e s m args below meth c H locs ls hC hH hlo hl)
theorem T_lshl {x : Int64} {y : Int32} (hd : decode mt.2.1 pc = .ok (.lshl, 1)) (hp : pc + 1 = n) (k : TW G mt R cells slots n L (.long (x <<< (y.toInt64 &&& 63)) :: st) σ Z) : TW G mt R cells slots pc L (.int y :: .long x :: st) σ Z := by
  subst hp
  intro p e s m args below meth c H locs ls hC hH hlo hl
  exact lv_lshl hC.1 hC.2.1 hd rfl (k p e s m args below meth c H locs ls hC hH hlo hl)
theorem T_lshr {x : Int64} {y : Int32} (hd : decode mt.2.1 pc = .ok (.lshr, 1)) (hp : pc + 1 = n) (k : TW G mt R cells slots n L (.long (x >>> (y.toInt64 &&& 63)) :: st) σ Z) : TW G mt R cells slots pc L (.int y :: .long x :: st) σ Z := by
  subst hp
  intro p e s m args below meth c H locs ls hC hH hlo hl
  exact lv_lshr hC.1 hC.2.1 hd rfl (k p e s m args below meth c H locs ls hC hH hlo hl)
theorem T_lushr {x : Int64} {y : Int32} (hd : decode mt.2.1 pc = .ok (.lushr, 1)) (hp : pc + 1 = n) (k : TW G mt R cells slots n L (.long ((x.toUInt64 >>> (y.toInt64.toUInt64 &&& Int64.toUInt64 63)).toInt64) :: st) σ Z) : TW G mt R cells slots pc L (.int y :: .long x :: st) σ Z := by
  subst hp
  intro p e s m args below meth c H locs ls hC hH hlo hl
  exact lv_lushr hC.1 hC.2.1 hd rfl (k p e s m args below meth c H locs ls hC hH hlo hl)
theorem T_lcmp {x y : Int64} (hd : decode mt.2.1 pc = .ok (.lcmp, 1)) (hp : pc + 1 = n) (k : TW G mt R cells slots n L (.int (lg_cmp x y) :: st) σ Z) : TW G mt R cells slots pc L (.long y :: .long x :: st) σ Z := by
  subst hp
  intro p e s m args below meth c H locs ls hC hH hlo hl
  exact W.lcmp hC.1 hC.2.1 hd (k p e s m args below meth c H locs ls hC hH hlo hl)
theorem T_i2l {x : Int32} (hd : decode mt.2.1 pc = .ok (.i2l, 1)) (hp : pc + 1 = n) (k : TW G mt R cells slots n L (.long x.toInt64 :: st) σ Z) : TW G mt R cells slots pc L (.int x :: st) σ Z := by
  subst hp
  intro p e s m args below meth c H locs ls hC hH hlo hl
  exact lv_i2l hC.1 hC.2.1 hd rfl (k p e s m args below meth c H locs ls hC hH hlo hl)
theorem T_l2i {x : Int64} (hd : decode mt.2.1 pc = .ok (.l2i, 1)) (hp : pc + 1 = n) (k : TW G mt R cells slots n L (.int x.toInt32 :: st) σ Z) : TW G mt R cells slots pc L (.long x :: st) σ Z := by
  subst hp
  intro p e s m args below meth c H locs ls hC hH hlo hl
  exact lv_l2i hC.1 hC.2.1 hd rfl (k p e s m args below meth c H locs ls hC hH hlo hl)
theorem T_dup {v : Value} (hd : decode mt.2.1 pc = .ok (.dup, 1)) (hp : pc + 1 = n) (hv : v.category = 1) (k : TW G mt R cells slots n L (v :: v :: st) σ Z) : TW G mt R cells slots pc L (v :: st) σ Z := by
  subst hp
  intro p e s m args below meth c H locs ls hC hH hlo hl
  exact lv_dup hC.1 hC.2.1 hd hv (k p e s m args below meth c H locs ls hC hH hlo hl)
theorem T_pop {v : Value} (hd : decode mt.2.1 pc = .ok (.pop, 1)) (hp : pc + 1 = n) (hv : v.category = 1) (k : TW G mt R cells slots n L st σ Z) : TW G mt R cells slots pc L (v :: st) σ Z := by
  subst hp
  intro p e s m args below meth c H locs ls hC hH hlo hl
  exact lv_pop hC.1 hC.2.1 hd hv (k p e s m args below meth c H locs ls hC hH hlo hl)
theorem T_dup2 {v w : Value} (hd : decode mt.2.1 pc = .ok (.dup2, 1)) (hp : pc + 1 = n) (hv : v.category = 1) (hw : w.category = 1) (k : TW G mt R cells slots n L (v :: w :: v :: w :: st) σ Z) : TW G mt R cells slots pc L (v :: w :: st) σ Z := by
  subst hp
  intro p e s m args below meth c H locs ls hC hH hlo hl
  exact lv_dup2_11 hC.1 hC.2.1 hd hv hw (k p e s m args below meth c H locs ls hC hH hlo hl)
theorem T_if_eq {x : Int32} {off : Int} {t : Nat} (hd : decode mt.2.1 pc = .ok (.ifCond .eq off, 3)) (hp : pc + 3 = n) (ht : (pc : Int) + off = (t : Int)) (kt : x = 0 → TW G mt R cells slots t L st σ Z) (kf : ¬ x = 0 → TW G mt R cells slots n L st σ Z) : TW G mt R cells slots pc L (.int x :: st) σ Z := by
  subst hp
  intro p e s m args below meth c H locs ls hC hH hlo hl
  exact lv_if_eq hC.1 hC.2.1 hd ht (fun h => kt h p e s m args below meth c H locs ls hC hH hlo hl) (fun h => kf h p e s m args below meth c H locs ls hC hH hlo hl)
theorem T_icmp_eq {x y : Int32} {off : Int} {t : Nat} (hd : decode mt.2.1 pc = .ok (.if_icmp .eq off, 3)) (hp : pc + 3 = n) (ht : (pc : Int) + off = (t : Int)) (kt : x = y → TW G mt R cells slots t L st σ Z) (kf : ¬ x = y → TW G mt R cells slots n L st σ Z) : TW G mt R cells slots pc L (.int y :: .int x :: st) σ Z := by
  subst hp
  intro p e s m args below meth c H locs ls hC hH hlo hl
  exact lv_icmp_eq hC.1 hC.2.1 hd ht (fun h => kt h p e s m args below meth c H locs ls hC hH hlo hl) (fun h => kf h p e s m args below meth c H locs ls hC hH hlo hl)
theorem T_if_ne {x : Int32} {off : Int} {t : Nat} (hd : decode mt.2.1 pc = .ok (.ifCond .ne off, 3)) (hp : pc + 3 = n) (ht : (pc : Int) + off = (t : Int)) (kt : ¬ x = 0 → TW G mt R cells slots t L st σ Z) (kf : x = 0 → TW G mt R cells slots n L st σ Z) : TW G mt R cells slots pc L (.int x :: st) σ Z := by
  subst hp
  intro p e s m args below meth c H locs ls hC hH hlo hl
  exact lv_if_ne hC.1 hC.2.1 hd ht (fun h => kt h p e s m args below meth c H locs ls hC hH hlo hl) (fun h => kf h p e s m args below meth c H locs ls hC hH hlo hl)
theorem T_icmp_ne {x y : Int32} {off : Int} {t : Nat} (hd : decode mt.2.1 pc = .ok (.if_icmp .ne off, 3)) (hp : pc + 3 = n) (ht : (pc : Int) + off = (t : Int)) (kt : ¬ x = y → TW G mt R cells slots t L st σ Z) (kf : x = y → TW G mt R cells slots n L st σ Z) : TW G mt R cells slots pc L (.int y :: .int x :: st) σ Z := by
  subst hp
  intro p e s m args below meth c H locs ls hC hH hlo hl
  exact lv_icmp_ne hC.1 hC.2.1 hd ht (fun h => kt h p e s m args below meth c H locs ls hC hH hlo hl) (fun h => kf h p e s m args below meth c H locs ls hC hH hlo hl)
theorem T_if_lt {x : Int32} {off : Int} {t : Nat} (hd : decode mt.2.1 pc = .ok (.ifCond .lt off, 3)) (hp : pc + 3 = n) (ht : (pc : Int) + off = (t : Int)) (kt : x < 0 → TW G mt R cells slots t L st σ Z) (kf : ¬ x < 0 → TW G mt R cells slots n L st σ Z) : TW G mt R cells slots pc L (.int x :: st) σ Z := by
  subst hp
  intro p e s m args below meth c H locs ls hC hH hlo hl
  exact lv_if_lt hC.1 hC.2.1 hd ht (fun h => kt h p e s m args below meth c H locs ls hC hH hlo hl) (fun h => kf h p e s m args below meth c H locs ls hC hH hlo hl)
theorem T_icmp_lt {x y : Int32} {off : Int} {t : Nat} (hd : decode mt.2.1 pc = .ok (.if_icmp .lt off, 3)) (hp : pc + 3 = n) (ht : (pc : Int) + off = (t : Int)) (kt : x < y → TW G mt R cells slots t L st σ Z) (kf : ¬ x < y → TW G mt R cells slots n L st σ Z) : TW G mt R cells slots pc L (.int y :: .int x :: st) σ Z := by
  subst hp
  intro p e s m args below meth c H locs ls hC hH hlo hl
  exact lv_icmp_lt hC.1 hC.2.1 hd ht (fun h => kt h p e s m args below meth c H locs ls hC hH hlo hl) (fun h => kf h p e s m args below meth c H locs ls hC hH hlo hl)
theorem T_if_ge {x : Int32} {off : Int} {t : Nat} (hd : decode mt.2.1 pc = .ok (.ifCond .ge off, 3)) (hp : pc + 3 = n) (ht : (pc : Int) + off = (t : Int)) (kt : 0 ≤ x → TW G mt R cells slots t L st σ Z) (kf : ¬ 0 ≤ x → TW G mt R cells slots n L st σ Z) : TW G mt R cells slots pc L (.int x :: st) σ Z := by
  subst hp
  intro p e s m args below meth c H locs ls hC hH hlo hl
  exact lv_if_ge hC.1 hC.2.1 hd ht (fun h => kt h p e s m args below meth c H locs ls hC hH hlo hl) (fun h => kf h p e s m args below meth c H locs ls hC hH hlo hl)
theorem T_icmp_ge {x y : Int32} {off : Int} {t : Nat} (hd : decode mt.2.1 pc = .ok (.if_icmp .ge off, 3)) (hp : pc + 3 = n) (ht : (pc : Int) + off = (t : Int)) (kt : y ≤ x → TW G mt R cells slots t L st σ Z) (kf : ¬ y ≤ x → TW G mt R cells slots n L st σ Z) : TW G mt R cells slots pc L (.int y :: .int x :: st) σ Z := by
  subst hp
  intro p e s m args below meth c H locs ls hC hH hlo hl
  exact lv_icmp_ge hC.1 hC.2.1 hd ht (fun h => kt h p e s m args below meth c H locs ls hC hH hlo hl) (fun h => kf h p e s m args below meth c H locs ls hC hH hlo hl)
theorem T_icmp_gt {x y : Int32} {off : Int} {t : Nat} (hd : decode mt.2.1 pc = .ok (.if_icmp .gt off, 3)) (hp : pc + 3 = n) (ht : (pc : Int) + off = (t : Int)) (kt : y < x → TW G mt R cells slots t L st σ Z) (kf : ¬ y < x → TW G mt R cells slots n L st σ Z) : TW G mt R cells slots pc L (.int y :: .int x :: st) σ Z := by
  subst hp
  intro p e s m args below meth c H locs ls hC hH hlo hl
  exact lv_icmp_gt hC.1 hC.2.1 hd ht (fun h => kt h p e s m args below meth c H locs ls hC hH hlo hl) (fun h => kf h p e s m args below meth c H locs ls hC hH hlo hl)
theorem T_if_le {x : Int32} {off : Int} {t : Nat} (hd : decode mt.2.1 pc = .ok (.ifCond .le off, 3)) (hp : pc + 3 = n) (ht : (pc : Int) + off = (t : Int)) (kt : x ≤ 0 → TW G mt R cells slots t L st σ Z) (kf : ¬ x ≤ 0 → TW G mt R cells slots n L st σ Z) : TW G mt R cells slots pc L (.int x :: st) σ Z := by
  subst hp
  intro p e s m args below meth c H locs ls hC hH hlo hl
  exact lv_if_le hC.1 hC.2.1 hd ht (fun h => kt h p e s m args below meth c H locs ls hC hH hlo hl) (fun h => kf h p e s m args below meth c H locs ls hC hH hlo hl)
theorem T_icmp_le {x y : Int32} {off : Int} {t : Nat} (hd : decode mt.2.1 pc = .ok (.if_icmp .le off, 3)) (hp : pc + 3 = n) (ht : (pc : Int) + off = (t : Int)) (kt : x ≤ y → TW G mt R cells slots t L st σ Z) (kf : ¬ x ≤ y → TW G mt R cells slots n L st σ Z) : TW G mt R cells slots pc L (.int y :: .int x :: st) σ Z := by
  subst hp
  intro p e s m args below meth c H locs ls hC hH hlo hl
  exact lv_icmp_le hC.1 hC.2.1 hd ht (fun h => kt h p e s m args below meth c H locs ls hC hH hlo hl) (fun h => kf h p e s m args below meth c H locs ls hC hH hlo hl)
theorem T_goto {off : Int} {t : Nat} (hd : decode mt.2.1 pc = .ok (.goto off, 3)) (ht : (pc : Int) + off = (t : Int)) (k : TW G mt R cells slots t L st σ Z) : TW G mt R cells slots pc L st σ Z := by
  intro p e s m args below meth c H locs ls hC hH hlo hl
  exact lv_goto hC.1 hC.2.1 hd ht (k p e s m args below meth c H locs ls hC hH hlo hl)
theorem T_tin {x : Int32} {d lo hi off : Int} {offs : Array Int} {len t : Nat} (hd : decode mt.2.1 pc = .ok (.tableswitch d lo hi offs, len)) (h1 : ¬ x.toInt < lo) (h2 : ¬ hi < x.toInt) (ho : offs[(x.toInt - lo).toNat]? = some off) (ht : (pc : Int) + off = (t : Int)) (k : TW G mt R cells slots t L st σ Z) : TW G mt R cells slots pc L (.int x :: st) σ Z := by
  intro p e s m args below meth c H locs ls hC hH hlo hl
  exact lv_tableIn hC.1 hC.2.1 hd h1 h2 ho ht (k p e s m args below meth c H locs ls hC hH hlo hl)
theorem T_tout {x : Int32} {d lo hi : Int} {offs : Array Int} {len t : Nat} (hd : decode mt.2.1 pc = .ok (.tableswitch d lo hi offs, len)) (h1 : x.toInt < lo ∨ hi < x.toInt) (ht : (pc : Int) + d = (t : Int)) (k : TW G mt R cells slots t L st σ Z) : TW G mt R cells slots pc L (.int x :: st) σ Z := by
  intro p e s m args below meth c H locs ls hC hH hlo hl
  exact lv_tableOut hC.1 hC.2.1 hd h1 ht (k p e s m args below meth c H locs ls hC hH hlo hl)
theorem T_lsw {x : Int32} {d off : Int} {ps : Array (Int × Int)} {len t : Nat} (hd : decode mt.2.1 pc = .ok (.lookupswitch d ps, len)) (hq : (ps.toList.zip (ps.toList.drop 1)).all (fun (a, next) => a.1 < next.1) = true) (ho : Op.lookupswitch.offset ps.toList d x.toInt = off) (ht : (pc : Int) + off = (t : Int)) (k : TW G mt R cells slots t L st σ Z) : TW G mt R cells slots pc L (.int x :: st) σ Z := by
  intro p e s m args below meth c H locs ls hC hH hlo hl
  exact lv_lookup hC.1 hC.2.1 hd hq ho ht (k p e s m args below meth c H locs ls hC hH hlo hl)

/-- fewer locals known -/
theorem T_loc {L' : List (Option Value)} (h : ∀ (i : Nat) (v : Value), L'[i]? = some (some v) → L[i]? = some (some v)) (k : TW G mt R cells slots pc L' st σ Z) : TW G mt R cells slots pc L st σ Z := fun p e s m args below meth c H locs ls hC hH hlo hl => k p e s m args below meth c H locs ls hC hH hlo ⟨hl.1, hl.2.1, fun i v q => hl.2.2 i v (h i v q)⟩
end TL
end
section
/-! ===== T-LAYER: memory ===== -/
section TM
variable {G : tl_G} {mt : tl_M} {R : Room} {cells slots pc n : Nat} {L : List (Option Value)} {st : List Value} {σ : tl_S} {Z : tl_Z}
/-- a field's link: pool entry idx of class own is field k of class number ci, of type ty, final or not -/
def tl_FF (own : String) (idx ci k : Nat) (ty : FieldType) (fin : Bool) : Prop := ∃ (C : String) (T : u_T) (N : Nat), tl_cl[ci]? = some (C, T, N) ∧ k < N ∧ (∀ w ∈ u_ws C T N, w ∈ tl_W) ∧ Cond.fieldLink own idx (T k).1 (T k).2.1 (T k).2.2.1 ∈ tl_W ∧ (∀ j, j < N → parseFieldDescriptor (T j).2.2.1 = some (tl_ty ci j)) ∧ (∀ a, a < N → ∀ b, b < N → a ≠ b → (T a).2.1 ≠ (T b).2.1) ∧ tl_ty ci k = ty ∧ (T k).2.2.2 = fin ∧ (fin = true → (T k).1 = own)
theorem tl_own {H : Heap} {a : Nat} (h : tl_H G σ H) (hs : (sS σ a).1 ≠ 0) : gB G ≤ a := Nat.not_lt.mp fun q => hs (h.2.2.2.1 a q)
theorem tl_H_upd {σ' : tl_S} {H H' : Heap} {a : Nat} (h : tl_H G σ H) (hz : H'.size = H.size) (ho : ∀ q, q ≠ a → H'[q]? = H[q]?) (hB : gB G ≤ a) (hS : sS σ' = sS σ) (hZ : sZ σ' = sZ σ) (hM : ∀ b, b ≠ a → sM σ' b = sM σ b) (hJ : ∀ b, b ≠ a → sJ σ' b = sJ σ b) (hP : ∀ b, b ≠ a → sP σ' b = sP σ b) (hc : tl_cell G σ' a H') : tl_H G σ' H' := by
  obtain ⟨h1, h2, h3, h4, h5⟩ := h
  refine ⟨by rw [hz, hZ]; exact h1, by rw [hZ]; exact h2, fun q hq => (ho q (by omega)).trans (h3 q hq), fun b hb => by rw [hS]; exact h4 b hb, fun b => ?_⟩
  by_cases hb : b = a
  · subst hb; exact hc
  · have h6 := h5 b
    unfold tl_cell at h6 ⊢
    rw [hS, hM b hb, hJ b hb, hP b hb]
    exact tl_at_kept h6 (ho b hb)
/-- a new cell at the heap's end -/
theorem tl_H_new {σ' : tl_S} {H H' : Heap} {t0 n0 : Nat} (h : tl_H G σ H) (hz : H'.size = sZ σ + 1) (ho : ∀ q, q < sZ σ → H'[q]? = H[q]?) (hS : sS σ' = up1 (sS σ) (sZ σ) (t0, n0)) (hZ : sZ σ' = sZ σ + 1) (hM : ∀ b, b ≠ sZ σ → sM σ' b = sM σ b) (hJ : ∀ b, b ≠ sZ σ → sJ σ' b = sJ σ b) (hP : ∀ b, b ≠ sZ σ → sP σ' b = sP σ b) (hc : tl_at G t0 n0 (sZ σ) (sM σ' (sZ σ)) (sJ σ' (sZ σ)) (sP σ' (sZ σ)) H') : tl_H G σ' H' := by
  obtain ⟨h1, h2, h3, h4, h5⟩ := h
  refine ⟨by rw [hz, hZ], by rw [hZ]; omega, fun q hq => (ho q (by omega)).trans (h3 q hq), fun b hb => by rw [hS, up1_o (by omega)]; exact h4 b hb, fun b => ?_⟩
  by_cases hb : b = sZ σ
  · subst hb
    unfold tl_cell
    rw [hS, up1_s]
    exact hc
  · have h6 := h5 b
    unfold tl_cell at h6 ⊢
    rw [hS, up1_o hb, hM b hb, hJ b hb, hP b hb]
    by_cases ht : (sS σ b).1 = 0
    · rw [ht]; trivial
    · have h7 := tl_at_lt h6 ht
      exact tl_at_kept h6 (ho b (by omega))
theorem T_get {idx ci k a : Nat} {ty : FieldType} {fin : Bool} (hd : decode mt.2.1 pc = .ok (.getfield idx, 3)) (hp : pc + 3 = n) (hf : tl_FF mt.1 idx ci k ty fin) (hs : sS σ a = (1, ci)) (kk : TW G mt R cells slots n L (tl_fv ty (sM σ a k) (sJ σ a k) (sP σ a k) :: st) σ Z) : TW G mt R cells slots pc L (.ref a :: st) σ Z := by
  subst hp
  intro p e s m args below meth c H locs ls hC hH hlo hl
  obtain ⟨hx, hb, -, -, -, -, hown, hts, hK⟩ := id hC
  obtain ⟨C, T, N, hc, hk, hin, hlink, hty, hnm, hty1, -, -⟩ := hf
  have hcell := hH.2.2.2.2 a
  unfold tl_cell at hcell
  rw [hs] at hcell
  obtain ⟨q, hq, cell, q1, q2, q3, q4⟩ := hcell
  cases hc.symm.trans hq
  obtain ⟨hS, hfc, kC, hkC, hkind⟩ := hK.1.1 ci _ hc
  obtain ⟨cf, kf, fi, f, hi, hsl⟩ := hS k hk
  refine W.getf hx hb hown (hts _ hlink) hi (u_facts hfc hkC (u_lays hts hin hk) hi).1 q1 (by rw [q3]; exact fun h => by cases h) (v := tl_fv ty (sM σ a k) (sJ σ a k) (sP σ a k)) ?_ rfl rfl hd (kk p e s m args below meth c H locs ls hC hH hlo hl)
  rw [hsl, q4 k hk]
  show some (tl_fv (tl_ty ci k) _ _ _) = _
  rw [hty1]
theorem T_getI {idx ci k a : Nat} {fin : Bool} (hd : decode mt.2.1 pc = .ok (.getfield idx, 3)) (hp : pc + 3 = n) (hf : tl_FF mt.1 idx ci k .int fin) (hs : sS σ a = (1, ci)) (kk : TW G mt R cells slots n L (.int (sM σ a k) :: st) σ Z) : TW G mt R cells slots pc L (.ref a :: st) σ Z := T_get hd hp hf hs kk
theorem T_getA {idx ci k a r : Nat} {t : FieldType} {fin : Bool} (hd : decode mt.2.1 pc = .ok (.getfield idx, 3)) (hp : pc + 3 = n) (hf : tl_FF mt.1 idx ci k (.array t) fin) (hs : sS σ a = (1, ci)) (hr : sP σ a k = some r) (kk : TW G mt R cells slots n L (.ref r :: st) σ Z) : TW G mt R cells slots pc L (.ref a :: st) σ Z := T_get hd hp hf hs (by rw [hr]; exact kk)
theorem T_getO {idx ci k a r : Nat} {t : String} {fin : Bool} (hd : decode mt.2.1 pc = .ok (.getfield idx, 3)) (hp : pc + 3 = n) (hf : tl_FF mt.1 idx ci k (.object t) fin) (hs : sS σ a = (1, ci)) (hr : sP σ a k = some r) (kk : TW G mt R cells slots n L (.ref r :: st) σ Z) : TW G mt R cells slots pc L (.ref a :: st) σ Z := T_get hd hp hf hs (by rw [hr]; exact kk)
/-- putfield: the new state holds v there, and differs at a alone -/
theorem T_put {idx ci k a : Nat} {ty : FieldType} {fin : Bool} {v : Value} {σ' : tl_S} (hd : decode mt.2.1 pc = .ok (.putfield idx, 3)) (hp : pc + 3 = n) (hf : tl_FF mt.1 idx ci k ty fin) (hfi : fin = true → mt.2.2.2.2 = "<init>") (hs : sS σ a = (1, ci)) (hn : narrow ty v = v) (hfit : fits ty v = true) (hS' : sS σ' = sS σ) (hZ' : sZ σ' = sZ σ) (hM' : ∀ b, b ≠ a → sM σ' b = sM σ b) (hJ' : ∀ b, b ≠ a → sJ σ' b = sJ σ b) (hP' : ∀ b, b ≠ a → sP σ' b = sP σ b) (hv : tl_fv ty (sM σ' a k) (sJ σ' a k) (sP σ' a k) = v) (hv2 : ∀ j, j ≠ k → sM σ' a j = sM σ a j ∧ sJ σ' a j = sJ σ a j ∧ sP σ' a j = sP σ a j) (kk : TW G mt R cells slots n L st σ' Z) : TW G mt R cells slots pc L (v :: .ref a :: st) σ Z := by
  subst hp
  intro p e s m args below meth c H locs ls hC hH hlo hl
  obtain ⟨hx, hb, -, -, -, hname, hown, hts, hK⟩ := id hC
  obtain ⟨C, T, N, hc, hk, hin, hlink, hty, hnm, hty1, hfin, hdecl⟩ := hf
  have hcell := hH.2.2.2.2 a
  unfold tl_cell at hcell
  rw [hs] at hcell
  obtain ⟨q, hq, cell, q1, q2, q3, q4⟩ := hcell
  cases hc.symm.trans hq
  obtain ⟨hS, hfc, kC, hkC, hkind⟩ := hK.1.1 ci _ hc
  obtain ⟨cf, kf, fi, f, hi, hsl⟩ := hS k hk
  have hap : ∀ x y, x < N → y < N → x ≠ y → ((gD G).2 ci) x ≠ ((gD G).2 ci) y := va_apart (own := mt.1) (D := gD G) (cl := tl_cl) (tys := tl_tys G) hts hin (tl_ty ci) hty hnm hK.1 hc
  have hst := (u_facts hfc hkC (u_lays hts hin hk) hi).1
  have hdk : parseFieldDescriptor (T k).2.2.1 = some ty := by rw [hty k hk, hty1]
  have hown' : gB G ≤ a := tl_own hH (by rw [hs]; simp)
  have fini : ∀ (H' : Heap), H'[a]? = some (cell.setSlot f.slot v) → H'.size = H.size → (∀ q, q ≠ a → H'[q]? = H[q]?) → W p (gL G) e R s m args below meth c H' (locs ++ [⟨a, f.slot⟩]) cells slots (Z below args s) (F0 m (pc + 3) ls st) := by
    intro H' e1 e2 e3
    refine kk p e s m args below meth c H' _ ls hC ?_ ?_ hl
    · refine tl_H_upd hH e2 e3 hown' hS' hZ' hM' hJ' hP' ?_
      unfold tl_cell
      rw [hS', hs]
      refine ⟨(C, T, N), hc, cell.setSlot f.slot v, e1, q2, q3, fun j hj => ?_⟩
      rw [hsl]
      have h8 := t_set q4 hap hk v j hj
      rw [h8]
      by_cases hjk : j = k
      · subst hjk
        simp only [updV, if_true]
        rw [hty1, hv]
      · simp only [updV, if_neg hjk]
        obtain ⟨z1, z2, z3⟩ := hv2 j hjk
        rw [z1, z2, z3]
    · intro q hq
      rcases List.mem_append.mp hq with h9 | h9
      · exact hlo q h9
      · rw [List.mem_singleton.mp h9]
        exact hown'
  have hlay := hts _ (hin _ (u_in_lay hk))
  unfold u_lay at hlay
  cases fin with
  | false =>
    rw [if_neg (by rw [hfin]; decide)] at hlay
    have h6 := u_store hfc hkC hkind hlay hi hdk hn hfit
    exact W.putK hx hb (f := f) ⟨hown, hts _ hlink, ⟨_, _, _, hi⟩, hst⟩ (by rw [q2]; exact h6) q1 q3 (by rw [hsl]; exact k2_hasslot (q4 k hk)) rfl rfl hd fini
  | true =>
    rw [if_pos hfin] at hlay
    have hcf : m.cls = cf := by
      obtain ⟨_, _, c', _, _, _, -, -, hf', -, -, -, hown2, -⟩ := Cond.laysFinal_spec hlay
      have e1 : c' = cf := by have := hi.symm.trans hf'; simp at this; exact this.1.symm
      rw [hdecl rfl] at hown2
      rw [← e1]; exact Option.some.inj (hown.symm.trans hown2)
    have h6 := u_fits hfc hkC hkind (Or.inr hlay) hi hdk hn hfit
    exact W.putFinK hx hb hown (hts _ hlink) hi hst hcf (hname.trans (hfi rfl)) (by rw [q2]; exact h6) q1 q3 (by rw [hsl]; exact k2_hasslot (q4 k hk)) rfl rfl hd fini
theorem T_putI {idx ci k a : Nat} {fin : Bool} {x : Int32} (hd : decode mt.2.1 pc = .ok (.putfield idx, 3)) (hp : pc + 3 = n) (hf : tl_FF mt.1 idx ci k .int fin) (hfi : fin = true → mt.2.2.2.2 = "<init>") (hs : sS σ a = (1, ci)) (kk : TW G mt R cells slots n L st (sS σ, up2 (sM σ) a k x, sJ σ, sP σ, sZ σ) Z) : TW G mt R cells slots pc L (.int x :: .ref a :: st) σ Z :=
  T_put (σ' := (sS σ, up2 (sM σ) a k x, sJ σ, sP σ, sZ σ)) hd hp hf hfi hs rfl rfl rfl rfl (fun b hb => up2_o hb) (fun _ _ => rfl) (fun _ _ => rfl) (by show Value.int (up2 (sM σ) a k x a k) = _; rw [up2_s]) (fun j hj => ⟨up2_n hj, rfl, rfl⟩) kk
theorem T_putA {idx ci k a x : Nat} {t : FieldType} {fin : Bool} (hd : decode mt.2.1 pc = .ok (.putfield idx, 3)) (hp : pc + 3 = n) (hf : tl_FF mt.1 idx ci k (.array t) fin) (hfi : fin = true → mt.2.2.2.2 = "<init>") (hs : sS σ a = (1, ci)) (kk : TW G mt R cells slots n L st (sS σ, sM σ, sJ σ, up2 (sP σ) a k (some x), sZ σ) Z) : TW G mt R cells slots pc L (.ref x :: .ref a :: st) σ Z :=
  T_put (σ' := (sS σ, sM σ, sJ σ, up2 (sP σ) a k (some x), sZ σ)) hd hp hf hfi hs rfl rfl rfl rfl (fun _ _ => rfl) (fun _ _ => rfl) (fun b hb => up2_o hb) (by show va_rf (up2 (sP σ) a k (some x) a k) = _; rw [up2_s]; rfl) (fun j hj => ⟨rfl, rfl, up2_n hj⟩) kk
theorem T_putO {idx ci k a x : Nat} {t : String} {fin : Bool} (hd : decode mt.2.1 pc = .ok (.putfield idx, 3)) (hp : pc + 3 = n) (hf : tl_FF mt.1 idx ci k (.object t) fin) (hfi : fin = true → mt.2.2.2.2 = "<init>") (hs : sS σ a = (1, ci)) (kk : TW G mt R cells slots n L st (sS σ, sM σ, sJ σ, up2 (sP σ) a k (some x), sZ σ) Z) : TW G mt R cells slots pc L (.ref x :: .ref a :: st) σ Z :=
  T_put (σ' := (sS σ, sM σ, sJ σ, up2 (sP σ) a k (some x), sZ σ)) hd hp hf hfi hs rfl rfl rfl rfl (fun _ _ => rfl) (fun _ _ => rfl) (fun b hb => up2_o hb) (by show va_rf (up2 (sP σ) a k (some x) a k) = _; rw [up2_s]; rfl) (fun j hj => ⟨rfl, rfl, up2_n hj⟩) kk
theorem tl_in {i N : Nat} (hi : i < N) (hN : N < 2 ^ 31) : ¬ (nI i < 0 ∨ N ≤ (nI i).toNatClampNeg) := nI_in hi hN
/-- array reads and stores, by a number i below the length -/
theorem T_iald {j : Int32} {a N i : Nat} (hd : decode mt.2.1 pc = .ok (.iaload, 1)) (hp : pc + 1 = n) (hs : sS σ a = (2, N)) (hj : j = nI i) (hi : i < N) (hN : N < 2 ^ 31) (kk : TW G mt R cells slots n L (.int (sM σ a i) :: st) σ Z) : TW G mt R cells slots pc L (.int j :: .ref a :: st) σ Z := by
  subst hp; subst hj
  intro p e s m args below meth c H locs ls hC hH hlo hl
  have hcell := hH.2.2.2.2 a
  unfold tl_cell at hcell
  rw [hs] at hcell
  have hK := hC.2.2.2.2.2.2.2.2
  refine W.iald (v := .int (sM σ a i)) hC.1 hC.2.1 hcell ((hK.1.2 0 (gA G 0, .int) rfl).1 N (fun j => .int (sM σ a j))) (fun q => by cases q) (by rw [arrV_size]; exact tl_in hi hN) (by rw [nI_clamp (by omega), arrV_read _ _ hi]) rfl rfl hd (kk p e s m args below meth c H locs ls hC hH hlo hl)
theorem T_zald {j : Int32} {a N i : Nat} (hd : decode mt.2.1 pc = .ok (.baload, 1)) (hp : pc + 1 = n) (hs : sS σ a = (3, N)) (hj : j = nI i) (hi : i < N) (hN : N < 2 ^ 31) (kk : TW G mt R cells slots n L (.int (sM σ a i) :: st) σ Z) : TW G mt R cells slots pc L (.int j :: .ref a :: st) σ Z := by
  subst hp; subst hj
  intro p e s m args below meth c H locs ls hC hH hlo hl
  have hcell := hH.2.2.2.2 a
  unfold tl_cell at hcell
  rw [hs] at hcell
  have hK := hC.2.2.2.2.2.2.2.2
  refine W.zald (v := .int (sM σ a i)) hC.1 hC.2.1 hcell ((hK.1.2 1 (gA G 1, .boolean) rfl).1 N (fun j => .int (sM σ a j))) (fun q => by cases q) (by rw [arrV_size]; exact tl_in hi hN) (by rw [nI_clamp (by omega), arrV_read _ _ hi]) rfl rfl hd (kk p e s m args below meth c H locs ls hC hH hlo hl)
theorem T_lald {j : Int32} {a N i : Nat} (hd : decode mt.2.1 pc = .ok (.laload, 1)) (hp : pc + 1 = n) (hs : sS σ a = (4, N)) (hj : j = nI i) (hi : i < N) (hN : N < 2 ^ 31) (kk : TW G mt R cells slots n L (.long (sJ σ a i) :: st) σ Z) : TW G mt R cells slots pc L (.int j :: .ref a :: st) σ Z := by
  subst hp; subst hj
  intro p e s m args below meth c H locs ls hC hH hlo hl
  have hcell := hH.2.2.2.2 a
  unfold tl_cell at hcell
  rw [hs] at hcell
  have hK := hC.2.2.2.2.2.2.2.2
  refine W.lald (v := .long (sJ σ a i)) hC.1 hC.2.1 hcell ((hK.1.2 2 (gA G 2, .long) rfl).1 N (fun j => .long (sJ σ a j))) (fun q => by cases q) (by rw [arrV_size]; exact tl_in hi hN) (by rw [nI_clamp (by omega), arrV_read _ _ hi]) rfl rfl hd (kk p e s m args below meth c H locs ls hC hH hlo hl)
theorem T_aald {j : Int32} {a N i r : Nat} (hd : decode mt.2.1 pc = .ok (.aaload, 1)) (hp : pc + 1 = n) (hs : sS σ a = (5, N)) (hj : j = nI i) (hi : i < N) (hN : N < 2 ^ 31) (hr : sP σ a i = some r) (kk : TW G mt R cells slots n L (.ref r :: st) σ Z) : TW G mt R cells slots pc L (.int j :: .ref a :: st) σ Z := by
  subst hp; subst hj
  intro p e s m args below meth c H locs ls hC hH hlo hl
  have hcell := hH.2.2.2.2 a
  unfold tl_cell at hcell
  rw [hs] at hcell
  have hK := hC.2.2.2.2.2.2.2.2
  refine W.aald (v := .ref r) (ty := .object RX0) hC.1 hC.2.1 hcell ((hK.1.2 3 (gA G 3, .object RX0) rfl).1 N (fun j => va_rf (sP σ a j))) rfl (fun q => by cases q) (by rw [arrV_size]; exact tl_in hi hN) (by rw [nI_clamp (by omega), arrV_read _ _ hi, hr]; rfl) rfl rfl hd (kk p e s m args below meth c H locs ls hC hH hlo hl)
theorem T_ialdR {j : Int32} {q i : Nat} (hd : decode mt.2.1 pc = .ok (.iaload, 1)) (hp : pc + 1 = n) (hq : q < 3) (hj : j = nI i) (hi : i < (gR G q).2.1) (hN : (gR G q).2.1 < 2 ^ 31) (kk : TW G mt R cells slots n L (.int ((gR G q).2.2 i) :: st) σ Z) : TW G mt R cells slots pc L (.int j :: .ref (gR G q).1 :: st) σ Z := by
  subst hp; subst hj
  intro p e s m args below meth c H locs ls hC hH hlo hl
  obtain ⟨⟨scr, h1, h2, h3, h4, h5⟩, hB⟩ := hC.2.2.2.2.2.2.2.2.2.1 q hq
  exact W.iald (v := .int ((gR G q).2.2 i)) hC.1 hC.2.1 (by rw [hH.2.2.1 _ hB]; exact h1) h2 h3 (fun h => tl_in hi hN (h.imp id (fun z => Nat.le_trans h4 z))) (by rw [nI_clamp (by omega)]; exact h5 _ hi) rfl rfl hd (kk p e s m args below meth c H locs ls hC hH hlo hl)
theorem T_alen {a N : Nat} (hd : decode mt.2.1 pc = .ok (.arraylength, 1)) (hp : pc + 1 = n) (hs : sS σ a = (2, N)) (kk : TW G mt R cells slots n L (.int (nI N) :: st) σ Z) : TW G mt R cells slots pc L (.ref a :: st) σ Z := by
  subst hp
  intro p e s m args below meth c H locs ls hC hH hlo hl
  have hcell := hH.2.2.2.2 a
  unfold tl_cell at hcell
  rw [hs] at hcell
  have hK := hC.2.2.2.2.2.2.2.2
  exact W.alen (n := nI N) hC.1 hC.2.1 hcell ((hK.1.2 0 (gA G 0, .int) rfl).1 N (fun j => .int (sM σ a j))) (by rw [arrV_size] <;> rfl) rfl rfl hd (kk p e s m args below meth c H locs ls hC hH hlo hl)
theorem T_alenR {q : Nat} (hd : decode mt.2.1 pc = .ok (.arraylength, 1)) (hp : pc + 1 = n) (hq : q = 0) (kk : TW G mt R cells slots n L (.int (nI (gR G q).2.1) :: st) σ Z) : TW G mt R cells slots pc L (.ref (gR G q).1 :: st) σ Z := by
  subst hp; subst hq
  intro p e s m args below meth c H locs ls hC hH hlo hl
  have hB := (hC.2.2.2.2.2.2.2.2.2.1 0 (by decide)).2
  obtain ⟨scr, h1, h2, h3, h4, h5⟩ := hC.2.2.2.2.2.2.2.2.2.2.2.2.2
  exact W.alen (n := nI (gR G 0).2.1) hC.1 hC.2.1 (by rw [hH.2.2.1 _ hB]; exact h1) h2 (by rw [h4] <;> rfl) rfl rfl hd (kk p e s m args below meth c H locs ls hC hH hlo hl)
theorem tl_lo {locs : List Loc} {a j : Nat} (h : ∀ q ∈ locs, gB G ≤ q.base) (ha : gB G ≤ a) : ∀ q ∈ locs ++ [⟨a, j⟩], gB G ≤ q.base := by
  intro q hq
  rcases List.mem_append.mp hq with h9 | h9
  · exact h q h9
  · rw [List.mem_singleton.mp h9]
    exact ha
theorem tl_updM {f : Nat → Nat → Int32} {a i : Nat} {x : Int32} : updV (fun j => Value.int (f a j)) i (.int x) = fun j => Value.int (up2 f a i x a j) := by
  funext q
  by_cases hq : q = i
  · subst hq; simp [updV, up2]
  · simp [updV, up2, hq]
theorem tl_updJ {f : Nat → Nat → Int64} {a i : Nat} {x : Int64} : updV (fun j => Value.long (f a j)) i (.long x) = fun j => Value.long (up2 f a i x a j) := by
  funext q
  by_cases hq : q = i
  · subst hq; simp [updV, up2]
  · simp [updV, up2, hq]
theorem tl_updP {f : Nat → Nat → Option Nat} {a i x : Nat} : updV (fun j => va_rf (f a j)) i (.ref x) = fun j => va_rf (up2 f a i (some x) a j) := by
  funext q
  by_cases hq : q = i
  · subst hq; simp [updV, up2, va_rf]
  · simp [updV, up2, hq]
theorem T_iast {j x : Int32} {a N i : Nat} (hd : decode mt.2.1 pc = .ok (.iastore, 1)) (hp : pc + 1 = n) (hs : sS σ a = (2, N)) (hj : j = nI i) (hi : i < N) (hN : N < 2 ^ 31) (kk : TW G mt R cells slots n L st (sS σ, up2 (sM σ) a i x, sJ σ, sP σ, sZ σ) Z) : TW G mt R cells slots pc L (.int x :: .int j :: .ref a :: st) σ Z := by
  subst hp; subst hj
  intro p e s m args below meth c H locs ls hC hH hlo hl
  have hcell := hH.2.2.2.2 a
  unfold tl_cell at hcell
  rw [hs] at hcell
  have hK := hC.2.2.2.2.2.2.2.2
  have hB : gB G ≤ a := tl_own hH (by rw [hs]; simp)
  refine W.iast hC.1 hC.2.1 hcell ((hK.1.2 0 (gA G 0, .int) rfl).1 N (fun j => .int (sM σ a j))) (fun q => by cases q) (by rw [arrV_size]; exact tl_in hi hN) rfl rfl hd fun H1 e1 z oq => ?_
  refine kk p e s m args below meth c H1 _ ls hC (tl_H_upd hH z oq hB rfl rfl (fun b hb => up2_o hb) (fun _ _ => rfl) (fun _ _ => rfl) ?_) (tl_lo hlo hB) hl
  unfold tl_cell
  show tl_at G (sS σ a).1 (sS σ a).2 a _ _ _ H1
  rw [hs]
  show H1[a]? = some (arrV _ _ _)
  rw [e1, arrV_store, nI_clamp (by omega), tl_updM]
theorem T_zast {j x : Int32} {a N i : Nat} (hd : decode mt.2.1 pc = .ok (.bastore, 1)) (hp : pc + 1 = n) (hs : sS σ a = (3, N)) (hj : j = nI i) (hi : i < N) (hN : N < 2 ^ 31) (hx : x = 0 ∨ x = 1) (kk : TW G mt R cells slots n L st (sS σ, up2 (sM σ) a i x, sJ σ, sP σ, sZ σ) Z) : TW G mt R cells slots pc L (.int x :: .int j :: .ref a :: st) σ Z := by
  subst hp; subst hj
  intro p e s m args below meth c H locs ls hC hH hlo hl
  have hcell := hH.2.2.2.2 a
  unfold tl_cell at hcell
  rw [hs] at hcell
  have hK := hC.2.2.2.2.2.2.2.2
  have hB : gB G ≤ a := tl_own hH (by rw [hs]; simp)
  have hnx : narrow .boolean (.int x) = .int x := by rcases hx with rfl | rfl <;> rfl
  refine W.zast hC.1 hC.2.1 hcell ((hK.1.2 1 (gA G 1, .boolean) rfl).1 N (fun j => .int (sM σ a j))) (fun q => by cases q) (by rw [arrV_size]; exact tl_in hi hN) rfl rfl hd fun H1 e1 z oq => ?_
  refine kk p e s m args below meth c H1 _ ls hC (tl_H_upd hH z oq hB rfl rfl (fun b hb => up2_o hb) (fun _ _ => rfl) (fun _ _ => rfl) ?_) (tl_lo hlo hB) hl
  unfold tl_cell
  show tl_at G (sS σ a).1 (sS σ a).2 a _ _ _ H1
  rw [hs]
  show H1[a]? = some (arrV _ _ _)
  rw [e1, hnx, arrV_store, nI_clamp (by omega), tl_updM]
theorem T_last {j : Int32} {x : Int64} {a N i : Nat} (hd : decode mt.2.1 pc = .ok (.lastore, 1)) (hp : pc + 1 = n) (hs : sS σ a = (4, N)) (hj : j = nI i) (hi : i < N) (hN : N < 2 ^ 31) (kk : TW G mt R cells slots n L st (sS σ, sM σ, up2 (sJ σ) a i x, sP σ, sZ σ) Z) : TW G mt R cells slots pc L (.long x :: .int j :: .ref a :: st) σ Z := by
  subst hp; subst hj
  intro p e s m args below meth c H locs ls hC hH hlo hl
  have hcell := hH.2.2.2.2 a
  unfold tl_cell at hcell
  rw [hs] at hcell
  have hK := hC.2.2.2.2.2.2.2.2
  have hB : gB G ≤ a := tl_own hH (by rw [hs]; simp)
  refine W.last hC.1 hC.2.1 hcell ((hK.1.2 2 (gA G 2, .long) rfl).1 N (fun j => .long (sJ σ a j))) (fun q => by cases q) (by rw [arrV_size]; exact tl_in hi hN) rfl rfl hd fun H1 e1 z oq => ?_
  refine kk p e s m args below meth c H1 _ ls hC (tl_H_upd hH z oq hB rfl rfl (fun _ _ => rfl) (fun b hb => up2_o hb) (fun _ _ => rfl) ?_) (tl_lo hlo hB) hl
  unfold tl_cell
  show tl_at G (sS σ a).1 (sS σ a).2 a _ _ _ H1
  rw [hs]
  show H1[a]? = some (arrV _ _ _)
  rw [e1, arrV_store, nI_clamp (by omega), tl_updJ]
theorem T_aast {j : Int32} {a N i v : Nat} (hd : decode mt.2.1 pc = .ok (.aastore, 1)) (hp : pc + 1 = n) (hs : sS σ a = (5, N)) (hv : sS σ v = (1, 0)) (hj : j = nI i) (hi : i < N) (hN : N < 2 ^ 31) (kk : TW G mt R cells slots n L st (sS σ, sM σ, sJ σ, up2 (sP σ) a i (some v), sZ σ) Z) : TW G mt R cells slots pc L (.ref v :: .int j :: .ref a :: st) σ Z := by
  subst hp; subst hj
  intro p e s m args below meth c H locs ls hC hH hlo hl
  have hcell := hH.2.2.2.2 a
  unfold tl_cell at hcell
  rw [hs] at hcell
  have hcv := hH.2.2.2.2 v
  unfold tl_cell at hcv
  rw [hv] at hcv
  obtain ⟨q', hq', cellV, g1, g2, g3, -⟩ := hcv
  have hK := hC.2.2.2.2.2.2.2.2
  have hB : gB G ≤ a := tl_own hH (by rw [hs]; simp)
  have hcls := (hK.1.1 0 _ hq').2
  cases (show tl_cl[0]? = some (RX0, TX0, 6) from rfl).symm.trans hq'
  obtain ⟨kA, comp, k1, k2, k3, -⟩ := (hK.1.2 3 (gA G 3, .object RX0) rfl).2
  have hcomp : comp = (gD G).1 0 := Option.some.inj (k3.symm.trans hcls.1)
  subst hcomp
  obtain ⟨kC, hkC, -⟩ := hcls.2
  refine W.aast hC.1 hC.2.1 hcell (fun q h => by cases h) (fun h => by cases h) k1 k2 rfl hkC ⟨nI_pos (by omega), by rw [arrV_size, nI_clamp (by omega)]; exact hi⟩ g1 (fun q h => by rw [g3] at h; cases h) (by rw [g2]; exact hkC) (by rw [g2]; exact va_assign hcls) rfl rfl hd fun H1 e1 z oq => ?_
  refine kk p e s m args below meth c H1 _ ls hC (tl_H_upd hH z oq hB rfl rfl (fun _ _ => rfl) (fun _ _ => rfl) (fun b hb => up2_o hb) ?_) (tl_lo hlo hB) hl
  unfold tl_cell
  show tl_at G (sS σ a).1 (sS σ a).2 a _ _ _ H1
  rw [hs]
  show H1[a]? = some (arrV _ _ _)
  rw [e1, arrV_store, nI_clamp (by omega), tl_updP]
theorem T_gets {idx i : Nat} (hd : decode mt.2.1 pc = .ok (.getstatic idx, 3)) (hp : pc + 3 = n) (h1 : 1 ≤ i) (h2 : i < 3) (hw : Cond.fieldLink mt.1 idx (tl_sf i).1 (tl_sf i).2.1 (tl_sf i).2.2 ∈ tl_W) (kk : TW G mt R cells slots n L (.ref (gR G i).1 :: st) σ Z) : TW G mt R cells slots pc L st σ Z := by
  subst hp
  intro p e s m args below meth c H locs ls hC hH hlo hl
  obtain ⟨cf, kf, fi, f, a, cell, z1, z2, z3, z4, z5, z6, z7, z8⟩ := hC.2.2.2.2.2.2.2.2.2.2.1 i h1 h2
  exact W.gets hC.1 hC.2.1 hC.2.2.2.2.2.2.1 (hC.2.2.2.2.2.2.2.1 _ hw) z1 z2 z3 z4 (by rw [hH.2.2.1 a (Nat.not_le.mp z8)]; exact z5) (fun e => by rw [e] at z6; cases z6) z7 rfl hd (kk p e s m args below meth c H locs ls hC hH hlo hl)
theorem T_getsN {idx i : Nat} (hd : decode mt.2.1 pc = .ok (.getstatic idx, 3)) (hp : pc + 3 = n) (h1 : 1 ≤ i) (h2 : i < 3) (hm : mt.1 = RX0) (hi : idx = tl_si i) (kk : TW G mt R cells slots n L (.ref (gR G i).1 :: st) σ Z) : TW G mt R cells slots pc L st σ Z := by
  subst hp; subst hi
  intro p e s m args below meth c H locs ls hC hH hlo hl
  obtain ⟨cf, kf, fi, f, a, cell, z1, z2, z3, z4, z5, z6, z7, z8⟩ := hC.2.2.2.2.2.2.2.2.2.2.1 i h1 h2
  have hN := hC.2.2.2.2.2.2.2.2.2.2.2.2.1
  have hown := hC.2.2.2.2.2.2.1
  rw [hm] at hown
  rcases (show i = 1 ∨ i = 2 by omega) with rfl | rfl
  · exact va_WgetsN hC.1 hC.2.1 hown (va_Nw.use rfl hN.1) z1 z2 z3 z4 (by rw [hH.2.2.1 a (Nat.not_le.mp z8)]; exact z5) (fun e => by rw [e] at z6; cases z6) z7 rfl hd (kk p e s m args below meth c H locs ls hC hH hlo hl)
  · exact va_WgetsN hC.1 hC.2.1 hown (va_Nw.use rfl hN.2) z1 z2 z3 z4 (by rw [hH.2.2.1 a (Nat.not_le.mp z8)]; exact z5) (fun e => by rw [e] at z6; cases z6) z7 rfl hd (kk p e s m args below meth c H locs ls hC hH hlo hl)
end TM
end
section
/-! ===== T-LAYER: making, calls, returns, contracts ===== -/
section TC
variable {G : tl_G} {mt : tl_M} {R : Room} {cells slots pc n : Nat} {L : List (Option Value)} {st : List Value} {σ : tl_S} {Z : tl_Z}
def zr {α : Type} (M : Nat → Nat → α) (z : Nat) (v : α) : Nat → Nat → α := fun a j => if a = z then v else M a j
theorem zr_o {α : Type} {M : Nat → Nat → α} {z b : Nat} {v : α} (h : b ≠ z) : zr M z v b = M b := by
  funext j
  simp [zr, h]
theorem zr_s {α : Type} {M : Nat → Nat → α} {z : Nat} {v : α} : zr M z v z = fun _ => v := by
  funext j
  simp [zr]
/-- the state with a new cell of shape (t, k) -/
def tl_nw (σ : tl_S) (t k : Nat) : tl_S := (up1 (sS σ) (sZ σ) (t, k), zr (sM σ) (sZ σ) 0, zr (sJ σ) (sZ σ) 0, zr (sP σ) (sZ σ) none, sZ σ + 1)
theorem tl_H_nw {H H' : Heap} {t k : Nat} (h : tl_H G σ H) (hz : H'.size = sZ σ + 1) (ho : ∀ q, q < sZ σ → H'[q]? = H[q]?) (hc : tl_at G t k (sZ σ) (fun _ => 0) (fun _ => 0) (fun _ => none) H') : tl_H G (tl_nw σ t k) H' := by
  refine tl_H_new (t0 := t) (n0 := k) h hz ho rfl rfl (fun b hb => zr_o hb) (fun b hb => zr_o hb) (fun b hb => zr_o hb) ?_
  show tl_at G t k (sZ σ) (zr (sM σ) (sZ σ) 0 (sZ σ)) (zr (sJ σ) (sZ σ) 0 (sZ σ)) (zr (sP σ) (sZ σ) none (sZ σ)) H'
  rw [zr_s, zr_s, zr_s]
  exact hc
theorem T_newI {N : Nat} {j : Int32} (hd : decode mt.2.1 pc = .ok (.newarray .int, 2)) (hp : pc + 2 = n) (hw : Cond.arrayClass .int ∈ tl_W) (hj : j = nI N) (hN : N ≤ 100000) (hc : cells + 1 ≤ R.cells) (hs : slots + N ≤ R.slots) (kk : TW G mt R (cells + 1) (slots + N) n L (.ref (sZ σ) :: st) (tl_nw σ 2 N) Z) : TW G mt R cells slots pc L (.int j :: st) σ Z := by
  subst hp; subst hj
  intro p e s m args below meth c H locs ls hC hH hlo hl
  refine va_newaK (atype := .int) hC.1 hC.2.1 (hC.2.2.2.2.2.2.2.1 _ hw) rfl hd rfl (nI_pos (by omega)) (nI_clamp (by omega)) (by show N * 4 ≤ _; omega) hc hs hH.1 fun H1 cA e1 z1 o1 hAr hNm => ?_
  have hA : gA G 0 = cA := Option.some.inj (((hC.2.2.2.2.2.2.2.2.1.2 0 (gA G 0, .int) rfl).2).symm.trans hNm)
  refine kk p e s m args below meth c H1 _ ls hC (tl_H_nw hH z1 o1 ?_) hlo hl
  show H1[sZ σ]? = some (arrV (gA G 0) N _)
  rw [hA]
  exact e1
theorem T_newZ {N : Nat} {j : Int32} (hd : decode mt.2.1 pc = .ok (.newarray .boolean, 2)) (hp : pc + 2 = n) (hw : Cond.arrayClass .boolean ∈ tl_W) (hj : j = nI N) (hN : N ≤ 100000) (hc : cells + 1 ≤ R.cells) (hs : slots + N ≤ R.slots) (kk : TW G mt R (cells + 1) (slots + N) n L (.ref (sZ σ) :: st) (tl_nw σ 3 N) Z) : TW G mt R cells slots pc L (.int j :: st) σ Z := by
  subst hp; subst hj
  intro p e s m args below meth c H locs ls hC hH hlo hl
  refine va_newaK (atype := .boolean) hC.1 hC.2.1 (hC.2.2.2.2.2.2.2.1 _ hw) rfl hd rfl (nI_pos (by omega)) (nI_clamp (by omega)) (by show N * 1 ≤ _; omega) hc hs hH.1 fun H1 cA e1 z1 o1 hAr hNm => ?_
  have hA : gA G 1 = cA := Option.some.inj (((hC.2.2.2.2.2.2.2.2.1.2 1 (gA G 1, .boolean) rfl).2).symm.trans hNm)
  refine kk p e s m args below meth c H1 _ ls hC (tl_H_nw hH z1 o1 ?_) hlo hl
  show H1[sZ σ]? = some (arrV (gA G 1) N _)
  rw [hA]
  exact e1
theorem T_newJ {N : Nat} {j : Int32} (hd : decode mt.2.1 pc = .ok (.newarray .long, 2)) (hp : pc + 2 = n) (hw : Cond.arrayClass .long ∈ tl_W) (hj : j = nI N) (hN : N ≤ 100000) (hc : cells + 1 ≤ R.cells) (hs : slots + N ≤ R.slots) (kk : TW G mt R (cells + 1) (slots + N) n L (.ref (sZ σ) :: st) (tl_nw σ 4 N) Z) : TW G mt R cells slots pc L (.int j :: st) σ Z := by
  subst hp; subst hj
  intro p e s m args below meth c H locs ls hC hH hlo hl
  refine va_newaK (atype := .long) hC.1 hC.2.1 (hC.2.2.2.2.2.2.2.1 _ hw) rfl hd rfl (nI_pos (by omega)) (nI_clamp (by omega)) (by show N * 8 ≤ _; omega) hc hs hH.1 fun H1 cA e1 z1 o1 hAr hNm => ?_
  have hA : gA G 2 = cA := Option.some.inj (((hC.2.2.2.2.2.2.2.2.1.2 2 (gA G 2, .long) rfl).2).symm.trans hNm)
  refine kk p e s m args below meth c H1 _ ls hC (tl_H_nw hH z1 o1 ?_) hlo hl
  show H1[sZ σ]? = some (arrV (gA G 2) N _)
  rw [hA]
  exact e1
theorem T_anew {N idx : Nat} {j : Int32} (hd : decode mt.2.1 pc = .ok (.anewarray idx, 3)) (hp : pc + 3 = n) (hw : Cond.classLink mt.1 idx RX0 ∈ tl_W) (hj : j = nI N) (hN : N ≤ 100000) (hc : cells + 1 ≤ R.cells) (hs : slots + N ≤ R.slots) (kk : TW G mt R (cells + 1) (slots + N) n L (.ref (sZ σ) :: st) (tl_nw σ 5 N) Z) : TW G mt R cells slots pc L (.int j :: st) σ Z := by
  subst hp; subst hj
  intro p e s m args below meth c H locs ls hC hH hlo hl
  have hcl : (nI N).toNatClampNeg = N := nI_clamp (by omega)
  refine W.anew hC.1 hC.2.1 hC.2.2.2.2.2.2.1 (hC.2.2.2.2.2.2.2.1 _ hw) (va_AO.use hC.2.2.2.2.2.2.2.2.2.2.2.1) rfl hd rfl (nI_pos (by omega)) (by rw [hcl]; omega) hc (by rw [hcl]; exact hs) fun cA kA comp h1 h2 h3 h4 => ?_
  rw [hcl, arrV_new, hH.1]
  obtain ⟨kA', comp', k1, k2, k3, k4⟩ := (hC.2.2.2.2.2.2.2.2.1.2 3 (gA G 3, .object RX0) rfl).2
  have hA : gA G 3 = cA := Option.some.inj (k4.symm.trans h1)
  refine kk p e s m args below meth c _ _ ls hC (tl_H_nw hH (by rw [Array.size_push, hH.1]) (fun q hq => ?_) ?_) hlo hl
  · rw [Array.getElem?_push, if_neg (by rw [hH.1]; omega)]
  · show (H.push _)[sZ σ]? = some (arrV (gA G 3) N _)
    rw [hA, ← hH.1]
    simp [va_rf]
/-- what is needed of a class to make an object of it -/
def tl_CN (own : String) (idx ci : Nat) (N : Nat) : Prop := ∃ (C : String) (T : u_T), tl_cl[ci]? = some (C, T, N) ∧ (∀ w ∈ u_ws C T N, w ∈ tl_W) ∧ Cond.classLink own idx C ∈ tl_W ∧ Cond.instantiable C N ∈ tl_W ∧ Cond.initialized C ∈ tl_W ∧ (∀ j, j < N → parseFieldDescriptor (T j).2.2.1 = some (tl_ty ci j)) ∧ ∀ j, j < N → defaultValue (tl_ty ci j) = tl_fv (tl_ty ci j) 0 0 none
theorem T_new {idx ci N : Nat} (hd : decode mt.2.1 pc = .ok (.new idx, 3)) (hp : pc + 3 = n) (hn : tl_CN mt.1 idx ci N) (hc : cells + 1 ≤ R.cells) (hs : slots + N ≤ R.slots) (kk : TW G mt R (cells + 1) (slots + N) n L (.ref (sZ σ) :: st) (tl_nw σ 1 ci) Z) : TW G mt R cells slots pc L st σ Z := by
  subst hp
  intro p e s m args below meth c H locs ls hC hH hlo hl
  obtain ⟨hx, hb, -, -, -, -, hown, hts, hK⟩ := id hC
  obtain ⟨C, T, hq, hin, hcl, hinst, hini, hty, hdf⟩ := hn
  have hKn := hK.1.1 ci _ hq
  refine W.newcK hx hb hown (hts _ hcl) (hts _ hinst) (hts _ hini) rfl hd hc hs hKn.2.1 hH.1 fun H1 kC hkC e1 z1 o1 => ?_
  refine kk p e s m args below meth c H1 _ ls hC (tl_H_nw hH z1 o1 ?_) hlo hl
  exact ⟨(C, T, N), hq, (u_born (tl_ty ci) hts hin hKn hkC e1 hty).to (fun j hj => hdf j hj)⟩
theorem T_objI {idx a : Nat} (hd : decode mt.2.1 pc = .ok (.invokespecial idx, 3)) (hp : pc + 3 = n) (hw : Cond.methodLink mt.1 idx objectInit ∈ tl_W) (hw2 : Cond.instanceMethod objectInit ∈ tl_W) (hw3 : Cond.code objectInit ⟨#[0xb1]⟩ 1 none ∈ tl_W) (hf : 1 ≤ R.frames) (hlo' : 20 ≤ R.locals) (hst : (st.map fun v => v.category).sum ≤ 8) (kk : TW G mt R cells slots n L st σ Z) : TW G mt R cells slots pc L (.ref a :: st) σ Z := by
  subst hp
  intro p e s m args below meth c H locs ls hC hH hlo hl
  refine W.objInit hC.1 hC.2.1 hC.2.2.2.2.2.2.1 (hC.2.2.2.2.2.2.2.1 _ hw) (hC.2.2.2.2.2.2.2.1 _ hw2) (hC.2.2.2.2.2.2.2.1 _ hw3) rfl (by rw [hC.2.2.1]; exact hl.1) rfl hd hf ?_ (kk p e s m args below meth c H locs ls hC hH hlo hl)
  have h1 := lv_room (m := m) (pc := pc) (ls := ls) (rest := .ref a :: st) hst
  omega
def tl_rm (d mc ms : Nat) : Room := { frames := d, cells := mc, slots := ms, locals := 40 * d }
/-- a method's end -/
def tl_Q (G : tl_G) (Q : Option Value → tl_S → Prop) : Array Value → State → Outcome → State → Prop := fun _ _ o t => ∃ (v : Option Value) (σ' : tl_S), o = .returned v ∧ Q v σ' ∧ tl_K G t ∧ tl_H G σ' t.heap
def ZM (G : tl_G) (Q : Option Value → tl_S → Prop) (mc ms : Nat) : tl_Z := fun below args s => MQ below (tl_Q G Q) args s mc ms (fun q => gB G ≤ q)
/-- A METHOD'S CONTRACT -/
def CT (G : tl_G) (y : MethodName) (mt : tl_M) (d mc ms : Nat) (av : List Value) (σ : tl_S) (Q : Option Value → tl_S → Prop) : Prop :=
  Met (gL G) y (Cond.code y mt.2.1 mt.2.2.1 mt.2.2.2.1 :: tl_W) (tl_rm d mc ms) (va_Pc av (fun U => tl_K G U ∧ tl_H G σ U.heap)) (tl_Q G Q) mc ms (fun q => gB G ≤ q)
theorem T_iret {v : Int32} {Q : Option Value → tl_S → Prop} (hd : decode mt.2.1 pc = .ok (.ireturn, 1)) (hr : mt.2.2.2.1 = some .int) (hQ : Q (some (.int v)) σ) : TW G mt R cells slots pc L [.int v] σ (ZM G Q cells slots) := by
  intro p e s m args below meth c H locs ls hC hH hlo hl
  exact W.iret hC.1 hC.2.1 (hC.2.2.2.1.trans hr) (fun t ht hW => ⟨_, σ, rfl, hQ, tl_K_moved hW hC.2.2.2.2.2.2.2.2, by rw [ht]; exact hH⟩) hlo hd hC.2.2.2.2.1
theorem T_zret {v : Int32} {Q : Option Value → tl_S → Prop} (hd : decode mt.2.1 pc = .ok (.ireturn, 1)) (hr : mt.2.2.2.1 = some .boolean) (hv : v = 0 ∨ v = 1) (hQ : Q (some (.int v)) σ) : TW G mt R cells slots pc L [.int v] σ (ZM G Q cells slots) := by
  intro p e s m args below meth c H locs ls hC hH hlo hl
  exact W.zret hC.1 hC.2.1 (hC.2.2.2.1.trans hr) (by rcases hv with rfl | rfl <;> rfl) (fun t ht hW => ⟨_, σ, rfl, hQ, tl_K_moved hW hC.2.2.2.2.2.2.2.2, by rw [ht]; exact hH⟩) hlo hd hC.2.2.2.2.1
theorem T_lret {v : Int64} {Q : Option Value → tl_S → Prop} (hd : decode mt.2.1 pc = .ok (.lreturn, 1)) (hr : mt.2.2.2.1 = some .long) (hQ : Q (some (.long v)) σ) : TW G mt R cells slots pc L [.long v] σ (ZM G Q cells slots) := by
  intro p e s m args below meth c H locs ls hC hH hlo hl
  exact W.lret hC.1 hC.2.1 (hC.2.2.2.1.trans hr) (fun t ht hW => ⟨_, σ, rfl, hQ, tl_K_moved hW hC.2.2.2.2.2.2.2.2, by rw [ht]; exact hH⟩) hlo hd hC.2.2.2.2.1
theorem T_vret {Q : Option Value → tl_S → Prop} (hd : decode mt.2.1 pc = .ok (.return_, 1)) (hr : mt.2.2.2.1 = none) (hQ : Q none σ) : TW G mt R cells slots pc L [] σ (ZM G Q cells slots) := by
  intro p e s m args below meth c H locs ls hC hH hlo hl
  exact W.vret hC.1 hC.2.1 (hC.2.2.2.1.trans hr) (fun t ht hW => ⟨_, σ, rfl, hQ, tl_K_moved hW hC.2.2.2.2.2.2.2.2, by rw [ht]; exact hH⟩) hlo hd hC.2.2.2.2.1
/-- the locals at a method's entry -/
def tl_args : List Value → List (Option Value)
  | [] => []
  | v :: vs => if v.category = 2 then some v :: none :: tl_args vs else some v :: tl_args vs
theorem tl_args_in : ∀ (vs : List Value) (k i : Nat) (v : Value), (tl_args vs)[i]? = some (some v) → (k + i, v) ∈ lv_args k vs
  | [], k, i, v, h => by simp [tl_args] at h
  | w :: vs, k, i, v, h => by
    unfold tl_args at h
    unfold lv_args
    by_cases hw : w.category = 2
    · rw [if_pos hw] at h ⊢
      match i, h with
      | 0, h => simp at h; subst h; exact List.mem_cons_self
      | 1, h => simp at h
      | i + 2, h =>
        rw [List.getElem?_cons_succ, List.getElem?_cons_succ] at h
        have h1 := tl_args_in vs (k + 2) i v h
        rw [show k + (i + 2) = k + 2 + i by omega]
        exact List.mem_cons_of_mem _ h1
    · rw [if_neg hw] at h ⊢
      match i, h with
      | 0, h => simp at h; subst h; exact List.mem_cons_self
      | i + 1, h =>
        rw [List.getElem?_cons_succ] at h
        have h1 := tl_args_in vs (k + 1) i v h
        rw [show k + (i + 1) = k + 1 + i by omega]
        exact List.mem_cons_of_mem _ h1
theorem CT_of {y : MethodName} {d mc ms : Nat} {av : List Value} {Q : Option Value → tl_S → Prop} (hpl : plainName y.cls = true) (hy1 : y.cls = mt.1) (hy2 : y.name = mt.2.2.2.2) (hle : (lg_sl av).length ≤ mt.2.2.1) (h : TW G mt (tl_rm d mc ms) 0 0 0 (tl_args av ++ List.replicate (mt.2.2.1 - (tl_args av).length) none) [] σ (ZM G Q mc ms)) : CT G y mt d mc ms av σ Q := by
  refine Met.ofW (cc := mt.2.1) (maxL := mt.2.2.1) (ret := mt.2.2.2.1) hpl rfl ?_
  intro p e s m args below meth c s₁ B hml hv
  obtain ⟨rfl, hK, hH⟩ := hv
  have hts := atoms_spec (ws := Cond.code y mt.2.1 mt.2.2.1 mt.2.2.2.1 :: tl_W) B.pre
  have hown : s.vm.findClass mt.1 = some m.cls := by rw [← hy1]; exact findClass_of_methodNamed B.named
  have hnm : meth.name = mt.2.2.2.2 := by rw [← hy2]; exact (name_of_methodNamed B.named B.method).1
  have hl := lv_entry av (n := mt.2.2.1) hle
  rw [lg_entry_eq]
  refine h p e s m av.toArray below meth c s.heap [] _ ⟨B.exec, B.bytes, hml, B.returns, B.notSynchronized, hnm, hown, fun w hw => hts w (List.mem_cons_of_mem _ hw), hK⟩ hH (fun q hq => by cases hq) ⟨hl.1, hl.2.1, fun i v hi => ?_⟩
  rw [List.getElem?_append] at hi
  split at hi
  · have h1 := tl_args_in av 0 i v hi
    rw [Nat.zero_add] at h1
    exact hl.2.2 (i, v) h1
  · rw [List.getElem?_replicate] at hi
    split at hi <;> cases hi
theorem tl_good : GoodIn tl_W tl_W := goodIn_sub (fun _ h => h) (by decide +kernel)
theorem tl_goodC {w : Cond} (h : w ∈ tl_W) : GoodIn tl_W (w :: tl_W) := fun x hx => by
  rcases List.mem_cons.mp hx with rfl | hx
  · exact tl_good _ h
  · exact tl_good _ hx
/-- a call's words -/
def tl_CW (own : String) (idx : Nat) (y : MethodName) (mt' : tl_M) (k : Nat) : Prop := Cond.methodLink own idx y ∈ tl_W ∧ Cond.initialized y.cls ∈ tl_W ∧ Cond.code y mt'.2.1 mt'.2.2.1 mt'.2.2.2.1 ∈ tl_W ∧ y.cls ≠ "java/lang/invoke/MethodHandle" ∧ y.cls ≠ "java/lang/invoke/VarHandle" ∧ (parseMethodDescriptor y.desc).map (fun d => d.parameters.length) = some k
def tl_VW (own : String) (idx : Nat) (y : MethodName) (mt' : tl_M) (k ci : Nat) : Prop := tl_CW own idx y mt' k ∧ Cond.instanceMethod y ∈ tl_W ∧ Cond.selects y.cls y y ∈ tl_W ∧ ∃ r, tl_cl[ci]? = some r ∧ r.1 = y.cls
theorem tl_callB {own : String} {idx k d mc ms : Nat} {y : MethodName} {mt' : tl_M} {s : State} {args : Array Value} (hw : tl_CW own idx y mt' k) (hts : ∀ w ∈ tl_W, w.before args s = true) (h1 : d + 1 ≤ R.frames) (h2 : 8 + (mt'.2.2.1 + 11) + 40 * d ≤ R.locals) : CallB R s args own idx y mt'.2.1 mt'.2.2.1 mt'.2.2.2.1 (Cond.code y mt'.2.1 mt'.2.2.1 mt'.2.2.2.1 :: tl_W) (tl_rm d mc ms) mc ms k :=
  callB_of k hts (tl_goodC hw.2.2.1) rfl rfl rfl (hts _ hw.2.1) (hts _ hw.1) ⟨hw.2.2.2.1, hw.2.2.2.2.1, hw.2.2.2.2.2⟩ ⟨h1, h2⟩
theorem tl_blind {av : List Value} : FrameBlind (va_Pc av (fun U => tl_K G U ∧ tl_H G σ U.heap)) := fun a U g mk q => ⟨q.1, tl_K_same (u := U) (U := U.calling g mk a) rfl q.2.1, q.2.2⟩
/-- behind a call -/
theorem tl_after {p : Program} {e : Env} {s : State} {m : MethodId} {args a : Array Value} {below : List Frame} {meth : Method} {c : Code} {H : Heap} {locs : List Loc} {ls : Array Slot} {st0 rest : List Value} {mc ms : Nat} {Q' : Option Value → tl_S → Prop} (hr : va_Run p (gL G) e R s m args below meth c H locs cells slots mc ms (F0 m pc ls st0) rest (tl_Q G Q' a) (fun q => gB G ≤ q)) (hC : tl_C G mt p s m args meth c) (hlo : ∀ q ∈ locs, gB G ≤ q.base) (hl : tl_lh ls mt.2.2.1 L) (kk : ∀ (v : Option Value) (σ' : tl_S), Q' v σ' → TW G mt R (cells + mc) (slots + ms) (pc + 3) L (v.toList ++ rest) σ' Z) : W p (gL G) e R s m args below meth c H locs cells slots (Z below args s) (F0 m pc ls st0) := by
  intro T hT X
  obtain ⟨v, st₀, t, T', L', h0, X', hL, e1, e2, ⟨v', σ', hv, hQ, hK, hH⟩, st⟩ := hr T hT X
  cases hv
  obtain ⟨t2, a1, b1⟩ := kk v σ' hQ p e s m args below meth c T'.heap (locs ++ L') ls hC (by rw [e1]; exact hH) (fun q hq => by
    rcases List.mem_append.mp hq with h | h
    · exact hlo q h
    · exact hL q h) hl T' rfl X'
  exact ⟨t2, st t2 a1, b1⟩
theorem T_callV {idx d mc ms ci b k : Nat} {y : MethodName} {mt' : tl_M} {As stk rest : List Value} {Q' : Option Value → tl_S → Prop} (hd : decode mt.2.1 pc = .ok (.invokevirtual idx, 3)) (hp : pc + 3 = n) (hw : tl_VW mt.1 idx y mt' k ci) (hk : As.length = k) (hst : stk = As.reverse ++ .ref b :: rest) (hs : sS σ b = (1, ci)) (hcat : (rest.map fun v => v.category).sum ≤ 8) (hR : d + 1 ≤ R.frames ∧ 8 + (mt'.2.2.1 + 11) + 40 * d ≤ R.locals ∧ cells + mc ≤ R.cells ∧ slots + ms ≤ R.slots) (hc : CT G y mt' d mc ms (.ref b :: As) σ Q') (kk : ∀ (v : Option Value) (σ' : tl_S), Q' v σ' → TW G mt R (cells + mc) (slots + ms) n L (v.toList ++ rest) σ' Z) : TW G mt R cells slots pc L stk σ Z := by
  subst hp; subst hst
  intro p e s m args below meth c H locs ls hC hH hlo hl
  obtain ⟨hx, hb, hml, -, -, -, hown, hts, hK⟩ := id hC
  obtain ⟨hcw, hin, hsel, r, hr1, hr2⟩ := hw
  have hcell := hH.2.2.2.2 b
  unfold tl_cell at hcell
  rw [hs] at hcell
  obtain ⟨q, hq, cell, q1, q2, q3, q4⟩ := hcell
  cases hr1.symm.trans hq
  refine tl_after (va_runV (As := As) (rest := rest) ⟨hx, hb, hml, hown, hts⟩ hc ⟨tl_callB hcw hts hR.1 hR.2.1, hts _ hin, hts _ hsel⟩ ⟨tl_blind, ⟨cell, q1, by rw [q3]; rfl, by rw [q2, ← hr2]; exact (hK.1.1 ci r hr1).2.1⟩, fun U hU hW => ⟨rfl, tl_K_moved hW hK, by rw [hU]; exact hH⟩⟩ rfl hk hl.1 rfl (lv_room hcat) hd ⟨hR.2.2.1, hR.2.2.2⟩) hC hlo hl kk
theorem T_callS {idx d mc ms k : Nat} {y : MethodName} {mt' : tl_M} {As stk rest : List Value} {Q' : Option Value → tl_S → Prop} (hd : decode mt.2.1 pc = .ok (.invokestatic idx, 3)) (hp : pc + 3 = n) (hw : tl_CW mt.1 idx y mt' k ∧ Cond.static y ∈ tl_W) (hk : As.length = k) (hst : stk = As.reverse ++ rest) (hcat : (rest.map fun v => v.category).sum ≤ 8) (hR : d + 1 ≤ R.frames ∧ 8 + (mt'.2.2.1 + 11) + 40 * d ≤ R.locals ∧ cells + mc ≤ R.cells ∧ slots + ms ≤ R.slots) (hc : CT G y mt' d mc ms As σ Q') (kk : ∀ (v : Option Value) (σ' : tl_S), Q' v σ' → TW G mt R (cells + mc) (slots + ms) n L (v.toList ++ rest) σ' Z) : TW G mt R cells slots pc L stk σ Z := by
  subst hp; subst hst
  intro p e s m args below meth c H locs ls hC hH hlo hl
  obtain ⟨hx, hb, hml, -, -, -, hown, hts, hK⟩ := id hC
  refine tl_after (va_runS (As := As) (rest := rest) ⟨hx, hb, hml, hown, hts⟩ hc ⟨tl_callB hw.1 hts hR.1 hR.2.1, hts _ hw.2⟩ ⟨tl_blind, fun U hU hW => ⟨rfl, tl_K_moved hW hK, by rw [hU]; exact hH⟩⟩ rfl hk hl.1 rfl (lv_room hcat) hd ⟨hR.2.2.1, hR.2.2.2⟩) hC hlo hl kk
theorem T_callI {idx d mc ms b k : Nat} {y : MethodName} {mt' : tl_M} {As stk rest : List Value} {Q' : Option Value → tl_S → Prop} (hd : decode mt.2.1 pc = .ok (.invokespecial idx, 3)) (hp : pc + 3 = n) (hw : tl_CW mt.1 idx y mt' k ∧ Cond.instanceMethod y ∈ tl_W ∧ y.name = "<init>" ∧ mt'.2.2.2.1 = none) (hk : As.length = k) (hst : stk = As.reverse ++ .ref b :: rest) (hcat : (rest.map fun v => v.category).sum ≤ 8) (hR : d + 1 ≤ R.frames ∧ 8 + (mt'.2.2.1 + 11) + 40 * d ≤ R.locals ∧ cells + mc ≤ R.cells ∧ slots + ms ≤ R.slots) (hc : CT G y mt' d mc ms (.ref b :: As) σ Q') (kk : ∀ (v : Option Value) (σ' : tl_S), Q' v σ' → TW G mt R (cells + mc) (slots + ms) n L (v.toList ++ rest) σ' Z) : TW G mt R cells slots pc L stk σ Z := by
  subst hp; subst hst
  intro p e s m args below meth c H locs ls hC hH hlo hl
  obtain ⟨hx, hb, hml, -, -, -, hown, hts, hK⟩ := id hC
  obtain ⟨hcw, hin, hyn, hrn⟩ := hw
  have hB := tl_callB (mc := mc) (ms := ms) hcw hts hR.1 hR.2.1
  rw [hrn] at hB
  unfold CT at hc
  rw [hrn] at hc
  refine tl_after (va_runI (As := As) (rest := rest) ⟨hx, hb, hml, hown, hts⟩ hc ⟨hB, hyn, hts _ hin⟩ ⟨tl_blind, fun U hU hW => ⟨rfl, tl_K_moved hW hK, by rw [hU]; exact hH⟩⟩ rfl hk hl.1 rfl (lv_room hcat) hd ⟨hR.2.2.1, hR.2.2.2⟩) hC hlo hl kk
end TC
end
