/-! ===== Z-LAYER: ints as Int, addresses counted from the base; ranges and frames kept ===== -/
abbrev zV : Type := Int ⊕ (Int64 ⊕ (Nat ⊕ Nat))
abbrev vI (z : Int) : zV := Sum.inl z
abbrev vJ (x : Int64) : zV := Sum.inr (Sum.inl x)
abbrev vR (a : Nat) : zV := Sum.inr (Sum.inr (Sum.inl a))
abbrev vS (i : Nat) : zV := Sum.inr (Sum.inr (Sum.inr i))
abbrev zM : Type := Nat → Int → Int
abbrev zJ : Type := Nat → Int → Int64
abbrev zF : Type := (Nat → Nat × Nat) × (Nat → Nat → Option Nat) × Nat
abbrev zI (z : Int) : Prop := -2147483648 ≤ z ∧ z ≤ 2147483647
def vok (v : zV) : Prop := match v with
  | .inl z => zI z
  | .inr _ => True
def cv (G : tl_G) (v : zV) : Value := match v with
  | .inl z => .int (Int32.ofInt z)
  | .inr (.inl x) => .long x
  | .inr (.inr (.inl a)) => .ref (gB G + a)
  | .inr (.inr (.inr i)) => .ref (gR G i).1
def uz {α : Type} (M : Nat → Int → α) (a : Nat) (j : Int) (v : α) : Nat → Int → α := fun a' j' => if a' = a then (if j' = j then v else M a' j') else M a' j'
theorem uz_o {α : Type} {M : Nat → Int → α} {a a' : Nat} {j : Int} {v : α} (h : a' ≠ a) : uz M a j v a' = M a' := by
  funext j'
  simp [uz, h]
theorem uz_s {α : Type} {M : Nat → Int → α} {a : Nat} {j : Int} {v : α} : uz M a j v a j = v := by simp [uz]
theorem uz_n {α : Type} {M : Nat → Int → α} {a : Nat} {j j' : Int} {v : α} (h : j' ≠ j) : uz M a j v a j' = M a j' := by simp [uz, h]
theorem uz_a {α : Type} {M : Nat → Int → α} {a : Nat} {j j' : Int} {v : α} : uz M a j v a j' = if j' = j then v else M a j' := by simp [uz]
/-- the range of each cell -/
abbrev zfull : Int × Int := (-2147483648, 2147483647)
def zTn : List (Int → Int × Int) := [fun k => if k = 4 then (0, 40) else if k = 5 then (0, 4) else zfull, fun _ => (0, 10), fun _ => zfull, fun _ => (0, 39), fun _ => (0, 1)]
def zTl : List (Int → Int × Int) := [
  fun k => if k = 7 then (0, 8) else zfull, fun _ => zfull,
  fun k => if k = 2 then (0, 8) else zfull, fun _ => (0, 7), fun _ => (-1, 7),
  fun k => if k = 6 then (-1, 251) else if k = 7 then (0, 252) else if k = 8 then (0, 250) else zfull,
  fun k => (0, if k < 2 then 8 else 7), fun _ => (0, 251), fun _ => (0, 251), fun _ => (0, 3), fun _ => (-1, 251), fun _ => (-1, 251),
  fun _ => (-1, 251), fun _ => (-1, 251), fun _ => (-1, 39), fun _ => (0, 251)] ++ (zTn ++ (zTn ++ (zTn ++ [
  fun k => if k = 8 then (0, 250) else if k = 12 then (0, 41) else if k = 13 then (0, 8) else if k = 23 then (-1, 519) else if k = 24 then (0, 520) else if k = 27 then (0, 2147483647) else zfull,
  fun _ => (0, 40), fun _ => (0, 4), fun _ => (0, 10), fun _ => zfull, fun _ => (0, 39), fun _ => (0, 1), fun _ => (0, 7), fun _ => (-1, 7), fun _ => (0, 1), fun _ => (0, 39), fun _ => (0, 3), fun _ => (0, 1),
  fun _ => zfull, fun _ => (0, 255), fun _ => (0, 519), fun _ => (0, 7), fun _ => zfull, fun _ => (0, 56), fun _ => (-1, 520), fun _ => (-1, 519), fun _ => (0, 2147483647),
  fun _ => zfull, fun _ => zfull, fun _ => (0, 1), fun _ => (-1, 39), fun _ => zfull])))
def zT (a : Nat) (k : Int) : Int × Int := zTl.getD a (fun _ => zfull) k
theorem zT_in (a : Nat) (k : Int) : (-2147483648 ≤ (zT a k).1 ∧ (zT a k).1 ≤ 0) ∧ 0 ≤ (zT a k).2 ∧ (zT a k).2 ≤ 2147483647 := by
  have h : ∀ f ∈ zTl, (-2147483648 ≤ (f k).1 ∧ (f k).1 ≤ 0) ∧ 0 ≤ (f k).2 ∧ (f k).2 ≤ 2147483647 := by
    intro f hf
    simp only [zTl, zTn, List.cons_append, List.nil_append, List.mem_cons, List.not_mem_nil, or_false] at hf
    rcases hf with rfl | rfl | rfl | rfl | rfl | rfl | rfl | rfl | rfl | rfl | rfl | rfl | rfl | rfl | rfl | rfl | rfl | rfl | rfl | rfl | rfl | rfl | rfl | rfl | rfl | rfl | rfl | rfl | rfl | rfl | rfl | rfl | rfl | rfl | rfl | rfl | rfl | rfl | rfl | rfl | rfl | rfl | rfl | rfl | rfl | rfl | rfl | rfl | rfl | rfl | rfl | rfl | rfl | rfl | rfl | rfl | rfl | rfl <;> dsimp only [zfull] <;> (repeat' split) <;> decide
  unfold zT
  rw [List.getD_eq_getElem?_getD]
  rcases hq : zTl[a]? with _ | f
  · simp only [Option.getD_none, zfull]; decide
  · exact h f (List.mem_of_getElem? hq)
def zOK (M : zM) : Prop := ∀ a k, (zT a k).1 ≤ M a k ∧ M a k ≤ (zT a k).2
theorem zOK_in {M : zM} (h : zOK M) (a : Nat) (k : Int) : zI (M a k) := by
  have h1 := h a k
  have h2 := zT_in a k
  omega
theorem zOK_up {M : zM} {a : Nat} {j v lo hi : Int} (h : zOK M) (ht : zT a j = (lo, hi)) (h1 : lo ≤ v) (h2 : v ≤ hi) : zOK (uz M a j v) := by
  intro a' k
  unfold uz
  split
  · rename_i e
    subst e
    split
    · rename_i e; subst e; rw [ht]; exact ⟨h1, h2⟩
    · exact h a' k
  · exact h a' k
/-- the static tables -/
def opF (k : Int) : Int := if k < 3 then 0 else if k = 3 then 1 else if k < 10 then 2 else 3
def tabF (k : Int) : Int := if k = 2 then 255 else if k = 3 then 85 else if k = 4 then 136 else if k = 5 then 238 else if k = 6 then 102 else if k = 7 then 119 else if k = 8 then 17 else if k = 9 then 153 else if k = 10 then 216 else 0
theorem opF_in (k : Int) : 0 ≤ opF k ∧ opF k ≤ 3 := by unfold opF; (repeat' split) <;> decide
theorem tabF_in (k : Int) : 0 ≤ tabF k ∧ tabF k ≤ 255 := by unfold tabF; (repeat' split) <;> decide
def scr (G : tl_G) (i : Int) : Int := ((gR G 0).2.2 i.toNat).toInt
def gZ (G : tl_G) : Prop := ((gR G 1).2.1 = 11 ∧ ∀ i : Nat, i < 11 → (gR G 1).2.2 i = Int32.ofInt (opF i)) ∧ ((gR G 2).2.1 = 11 ∧ ∀ i : Nat, i < 11 → (gR G 2).2.2 i = Int32.ofInt (tabF i)) ∧ (gR G 0).2.1 < 2 ^ 31
def tS (G : tl_G) (F : zF) (M : zM) (J : zJ) : tl_S :=
  (fun a => if a < gB G then (0, 0) else F.1 (a - gB G),
   fun a k => if a < gB G then 0 else Int32.ofInt (M (a - gB G) k),
   fun a k => if a < gB G then 0 else J (a - gB G) k,
   fun a k => if a < gB G then none else (F.2.1 (a - gB G) k).map (fun q => gB G + q),
   gB G + F.2.2)
section ZB
variable {G : tl_G} {F : zF} {M : zM} {J : zJ} {a : Nat}
theorem tS_S : sS (tS G F M J) (gB G + a) = F.1 a := by
  have h : ¬ gB G + a < gB G := by omega
  simp [tS, sS, h]
theorem tS_M {k : Nat} : sM (tS G F M J) (gB G + a) k = Int32.ofInt (M a k) := by
  have h : ¬ gB G + a < gB G := by omega
  simp [tS, sM, h]
theorem tS_J {k : Nat} : sJ (tS G F M J) (gB G + a) k = J a k := by
  have h : ¬ gB G + a < gB G := by omega
  simp [tS, sJ, h]
theorem tS_P {k : Nat} : sP (tS G F M J) (gB G + a) k = (F.2.1 a k).map (fun q => gB G + q) := by
  have h : ¬ gB G + a < gB G := by omega
  simp [tS, sP, h]
theorem tS_uM {k : Nat} {x : Int} : (sS (tS G F M J), up2 (sM (tS G F M J)) (gB G + a) k (Int32.ofInt x), sJ (tS G F M J), sP (tS G F M J), sZ (tS G F M J)) = tS G F (uz M a k x) J := by
  have h : up2 (sM (tS G F M J)) (gB G + a) k (Int32.ofInt x) = sM (tS G F (uz M a k x) J) := by
    funext a' k'
    simp only [up2, tS, sM, uz]
    by_cases h1 : a' < gB G
    · rw [if_pos h1, if_pos h1, if_neg (by omega)]
    · rw [if_neg h1, if_neg h1]
      by_cases h2 : a' = gB G + a
      · subst h2
        rw [if_pos rfl, show gB G + a - gB G = a by omega, if_pos rfl]
        by_cases h3 : k' = k
        · subst h3; rw [if_pos rfl, if_pos rfl]
        · rw [if_neg h3, if_neg (by omega)]
      · rw [if_neg h2, if_neg (by omega)]
  rw [h]
  rfl
theorem tS_uJ {k : Nat} {x : Int64} : (sS (tS G F M J), sM (tS G F M J), up2 (sJ (tS G F M J)) (gB G + a) k x, sP (tS G F M J), sZ (tS G F M J)) = tS G F M (uz J a k x) := by
  have h : up2 (sJ (tS G F M J)) (gB G + a) k x = sJ (tS G F M (uz J a k x)) := by
    funext a' k'
    simp only [up2, tS, sJ, uz]
    by_cases h1 : a' < gB G
    · rw [if_pos h1, if_pos h1, if_neg (by omega)]
    · rw [if_neg h1, if_neg h1]
      by_cases h2 : a' = gB G + a
      · subst h2
        rw [if_pos rfl, show gB G + a - gB G = a by omega, if_pos rfl]
        by_cases h3 : k' = k
        · subst h3; rw [if_pos rfl, if_pos rfl]
        · rw [if_neg h3, if_neg (by omega)]
      · rw [if_neg h2, if_neg (by omega)]
  rw [h]
  rfl
end ZB
theorem i32 {x : Int} (h : zI x) : (Int32.ofInt x).toInt = x := Int32.toInt_ofInt_of_le (by omega) (by omega)
theorem i32lt {x y : Int} (hx : zI x) (hy : zI y) : Int32.ofInt x < Int32.ofInt y ↔ x < y := by rw [Int32.lt_iff_toInt_lt, i32 hx, i32 hy]
theorem i32le {x y : Int} (hx : zI x) (hy : zI y) : Int32.ofInt x ≤ Int32.ofInt y ↔ x ≤ y := by rw [Int32.le_iff_toInt_le, i32 hx, i32 hy]
theorem i32eq {x y : Int} (hx : zI x) (hy : zI y) : Int32.ofInt x = Int32.ofInt y ↔ x = y := by rw [← Int32.toInt_inj, i32 hx, i32 hy]
theorem i32n {j : Int} (h0 : 0 ≤ j) (h1 : j < 2147483648) : Int32.ofInt j = nI j.toNat := by
  rw [← Int32.toInt_inj, i32 (by omega), nI_toInt (by omega)]
  omega
theorem zIof (x : Int32) : zI x.toInt := by
  have h1 := x.le_toInt
  have h2 := x.toInt_lt
  omega
theorem zI0 : zI 0 := by decide
def zargs : List zV → List (Option zV)
  | [] => []
  | .inr (.inl x) :: vs => some (vJ x) :: none :: zargs vs
  | v :: vs => some v :: zargs vs
theorem zargs_map {G : tl_G} : ∀ av : List zV, tl_args (av.map (cv G)) = (zargs av).map (Option.map (cv G))
  | [] => rfl
  | .inl z :: vs => by simp only [List.map_cons, tl_args, zargs]; rw [zargs_map vs]; rfl
  | .inr (.inl x) :: vs => by simp only [List.map_cons, tl_args, zargs]; rw [zargs_map vs]; rfl
  | .inr (.inr (.inl x)) :: vs => by simp only [List.map_cons, tl_args, zargs]; rw [zargs_map vs]; rfl
  | .inr (.inr (.inr x)) :: vs => by simp only [List.map_cons, tl_args, zargs]; rw [zargs_map vs]; rfl
theorem zargs_mem : ∀ (av : List zV) (v : zV), some v ∈ zargs av → v ∈ av
  | [], v, h => by simp [zargs] at h
  | .inl z :: vs, v, h => by
    simp only [zargs, List.mem_cons, Option.some.injEq] at h
    rcases h with rfl | h
    · exact List.mem_cons_self
    · exact List.mem_cons_of_mem _ (zargs_mem vs v h)
  | .inr (.inl x) :: vs, v, h => by
    simp only [zargs, List.mem_cons, Option.some.injEq, reduceCtorEq, false_or] at h
    rcases h with rfl | h
    · exact List.mem_cons_self
    · exact List.mem_cons_of_mem _ (zargs_mem vs v h)
  | .inr (.inr (.inl x)) :: vs, v, h => by
    simp only [zargs, List.mem_cons, Option.some.injEq] at h
    rcases h with rfl | h
    · exact List.mem_cons_self
    · exact List.mem_cons_of_mem _ (zargs_mem vs v h)
  | .inr (.inr (.inr x)) :: vs, v, h => by
    simp only [zargs, List.mem_cons, Option.some.injEq] at h
    rcases h with rfl | h
    · exact List.mem_cons_self
    · exact List.mem_cons_of_mem _ (zargs_mem vs v h)
def lsub : List (Option zV) → List (Option zV) → Prop
  | [], _ => True
  | x :: xs, y :: ys => (x = none ∨ x = y) ∧ lsub xs ys
  | _ :: _, [] => False
theorem lsub_get : ∀ {L' L : List (Option zV)}, lsub L' L → ∀ (i : Nat) (v : zV), L'[i]? = some (some v) → L[i]? = some (some v)
  | [], _, _, i, v, h => by simp at h
  | x :: xs, y :: ys, hs, 0, v, h => by
    simp only [List.getElem?_cons_zero, Option.some.injEq] at h ⊢
    rcases hs.1 with e | e
    · rw [e] at h; cases h
    · rw [← e]; exact h
  | x :: xs, y :: ys, hs, i + 1, v, h => by
    simp only [List.getElem?_cons_succ] at h ⊢
    exact lsub_get hs.2 i v h
  | _ :: _, [], hs, _, _, _ => hs.elim
theorem lsub_nil {L : List (Option zV)} : lsub [] L := trivial
theorem lsub_none {x : Option zV} {L' L : List (Option zV)} (h : lsub L' L) : lsub (none :: L') (x :: L) := ⟨Or.inl rfl, h⟩
theorem lsub_same {x : Option zV} {L' L : List (Option zV)} (h : lsub L' L) : lsub (x :: L') (x :: L) := ⟨Or.inr rfl, h⟩
/-- a switch's cases -/
def zcases (P : Int → Prop) (x : Int) : Int → List Int → Prop
  | _, [] => True
  | v, o :: os => (x = v → P o) ∧ zcases P x (v + 1) os
theorem zcases_nil {P : Int → Prop} {x v : Int} : zcases P x v [] := trivial
theorem zcases_cons {P : Int → Prop} {x v o : Int} {os : List Int} (h : x = v → P o) (hs : zcases P x (v + 1) os) : zcases P x v (o :: os) := ⟨h, hs⟩
theorem zcases_get {P : Int → Prop} {x : Int} : ∀ {os : List Int} {v off : Int}, zcases P x v os → v ≤ x → os[(x - v).toNat]? = some off → P off
  | [], v, off, _, _, h => by simp at h
  | o :: os, v, off, hc, hv, h => by
    by_cases he : x = v
    · subst he
      simp at h
      subst h
      exact hc.1 rfl
    · rw [show (x - v).toNat = (x - (v + 1)).toNat + 1 by omega, List.getElem?_cons_succ] at h
      exact zcases_get hc.2 (by omega) h
def lcases (P : Int → Prop) (x : Int) : List (Int × Int) → Prop
  | [] => True
  | p :: ps => (x = p.1 → P p.2) ∧ lcases P x ps
theorem lcases_nil {P : Int → Prop} {x : Int} : lcases P x [] := trivial
theorem lcases_cons {P : Int → Prop} {x : Int} {p : Int × Int} {ps : List (Int × Int)} (h : x = p.1 → P p.2) (hs : lcases P x ps) : lcases P x (p :: ps) := ⟨h, hs⟩
theorem lcases_get {P : Int → Prop} {x : Int} : ∀ {ps : List (Int × Int)} {p : Int × Int}, lcases P x ps → p ∈ ps → x = p.1 → P p.2
  | [], p, _, h, _ => by simp at h
  | q :: ps, p, hc, h, e => by
    rcases List.mem_cons.mp h with rfl | h
    · exact hc.1 e
    · exact lcases_get hc.2 h e
theorem lsw_cases (d x : Int) : ∀ ps : List (Int × Int), (∃ p ∈ ps, x = p.1 ∧ Op.lookupswitch.offset ps d x = p.2) ∨ ((∀ p ∈ ps, x ≠ p.1) ∧ Op.lookupswitch.offset ps d x = d)
  | [] => Or.inr ⟨fun p h => by simp at h, rfl⟩
  | q :: ps => by
    by_cases h : q.1 = x
    · exact Or.inl ⟨q, List.mem_cons_self, h.symm, by rw [show q = (q.1, q.2) from rfl, Op.lookupswitch.offset_cons, if_pos h]⟩
    · rcases lsw_cases d x ps with ⟨p, h1, h2, h3⟩ | ⟨h1, h2⟩
      · exact Or.inl ⟨p, List.mem_cons_of_mem _ h1, h2, by rw [show q = (q.1, q.2) from rfl, Op.lookupswitch.offset_cons, if_neg h]; exact h3⟩
      · refine Or.inr ⟨fun p hp => ?_, by rw [show q = (q.1, q.2) from rfl, Op.lookupswitch.offset_cons, if_neg h]; exact h2⟩
        rcases List.mem_cons.mp hp with rfl | hp
        · exact fun e => h e.symm
        · exact h1 p hp
/-- THE JUDGEMENT: K: the kept addresses, M0 J0: the memory at entry -/
def TZ (G : tl_G) (mt : tl_M) (R : Room) (cells slots : Nat) (K : Nat → Prop) (M0 : zM) (J0 : zJ) (pc : Nat) (L : List (Option zV)) (st : List zV) (F : zF) (M : zM) (J : zJ) (Z : tl_Z) : Prop :=
  gZ G → zOK M → (∀ a, K a → M a = M0 a ∧ J a = J0 a) → (∀ v, some v ∈ L → vok v) → (∀ v ∈ st, vok v) →
    TW G mt R cells slots pc (L.map (Option.map (cv G))) (st.map (cv G)) (tS G F M J) Z
section ZL
variable {G : tl_G} {mt : tl_M} {R : Room} {cells slots pc n : Nat} {K : Nat → Prop} {M0 : zM} {J0 : zJ} {L L' : List (Option zV)} {st : List zV} {F : zF} {M : zM} {J : zJ} {Z : tl_Z}
theorem Z_loc (h : lsub L' L) (k : TZ G mt R cells slots K M0 J0 pc L' st F M J Z) : TZ G mt R cells slots K M0 J0 pc L st F M J Z := by
  intro hg hm hf hl hs
  refine T_loc (L' := L'.map (Option.map (cv G))) (fun i v hv => ?_) (k hg hm hf (fun v hv => ?_) hs)
  · rw [List.getElem?_map] at hv ⊢
    rcases hq : L'[i]? with _ | _ | w
    · rw [hq] at hv; cases hv
    · rw [hq] at hv; cases hv
    · rw [hq] at hv
      rw [lsub_get h i w hq]
      exact hv
  · obtain ⟨i, hi⟩ := List.mem_iff_getElem?.mp hv
    exact hl v (List.mem_iff_getElem?.mpr ⟨i, lsub_get h i v hi⟩)
theorem Z_fr (k : (∀ a, K a → M a = M0 a ∧ J a = J0 a) → TZ G mt R cells slots K M0 J0 pc L st F M J Z) : TZ G mt R cells slots K M0 J0 pc L st F M J Z := fun hg hm hf hl hs => k hf hg hm hf hl hs
theorem Z_ok (k : zOK M → TZ G mt R cells slots K M0 J0 pc L st F M J Z) : TZ G mt R cells slots K M0 J0 pc L st F M J Z := fun hg hm hf hl hs => k hm hg hm hf hl hs
theorem Z_rg (a : Nat) (j : Int) {lo hi : Int} (ht : zT a j = (lo, hi)) (k : lo ≤ M a j → M a j ≤ hi → TZ G mt R cells slots K M0 J0 pc L st F M J Z) : TZ G mt R cells slots K M0 J0 pc L st F M J Z := fun hg hm hf hl hs => by
  have h1 := hm a j
  rw [ht] at h1
  exact k h1.1 h1.2 hg hm hf hl hs
/-- forget what the memory is -/
theorem Z_any (k : ∀ M, TZ G mt R cells slots K M0 J0 pc L st F M J Z) : TZ G mt R cells slots K M0 J0 pc L st F M J Z := k M
theorem Z_iconst {i : Int} (hd : decode mt.2.1 pc = .ok (.iconst i, 1)) (hp : pc + 1 = n) (hv : zI i) (k : TZ G mt R cells slots K M0 J0 n L (vI i :: st) F M J Z) : TZ G mt R cells slots K M0 J0 pc L st F M J Z := by
  intro hg hm hf hl hs
  exact T_iconst hd hp rfl (k hg hm hf hl (List.forall_mem_cons.mpr ⟨hv, hs⟩))
theorem Z_bipush {i : Int} (hd : decode mt.2.1 pc = .ok (.bipush i, 2)) (hp : pc + 2 = n) (hv : zI i) (he : (Int8.ofInt i).toInt32 = Int32.ofInt i) (k : TZ G mt R cells slots K M0 J0 n L (vI i :: st) F M J Z) : TZ G mt R cells slots K M0 J0 pc L st F M J Z := by
  intro hg hm hf hl hs
  exact T_bipush hd hp he (k hg hm hf hl (List.forall_mem_cons.mpr ⟨hv, hs⟩))
theorem Z_sipush {i : Int} (hd : decode mt.2.1 pc = .ok (.sipush i, 3)) (hp : pc + 3 = n) (hv : zI i) (he : (Int16.ofInt i).toInt32 = Int32.ofInt i) (k : TZ G mt R cells slots K M0 J0 n L (vI i :: st) F M J Z) : TZ G mt R cells slots K M0 J0 pc L st F M J Z := by
  intro hg hm hf hl hs
  exact T_sipush hd hp he (k hg hm hf hl (List.forall_mem_cons.mpr ⟨hv, hs⟩))
theorem Z_lconst {i : Fin 2} {v : Int64} (hd : decode mt.2.1 pc = .ok (.lconst i, 1)) (hp : pc + 1 = n) (hv : Int64.ofNat (i : Nat) = v) (k : TZ G mt R cells slots K M0 J0 n L (vJ v :: st) F M J Z) : TZ G mt R cells slots K M0 J0 pc L st F M J Z := by
  intro hg hm hf hl hs
  exact T_lconst hd hp hv (k hg hm hf hl (List.forall_mem_cons.mpr ⟨trivial, hs⟩))
theorem Z_ldc2 {i : Nat} {v : Int64} (hd : decode mt.2.1 pc = .ok (.ldc2_w i, 3)) (hp : pc + 3 = n) (hw : Cond.constantLong mt.1 i v ∈ tl_W) (k : TZ G mt R cells slots K M0 J0 n L (vJ v :: st) F M J Z) : TZ G mt R cells slots K M0 J0 pc L st F M J Z := by
  intro hg hm hf hl hs
  exact T_ldc2 hd hp hw (k hg hm hf hl (List.forall_mem_cons.mpr ⟨trivial, hs⟩))
theorem Z_iload_n {i : Fin 4} {x : Int} (hd : decode mt.2.1 pc = .ok (.iload_n i, 1)) (hp : pc + 1 = n) (hi : L[(i : Nat)]? = some (some (vI x))) (k : TZ G mt R cells slots K M0 J0 n L (vI x :: st) F M J Z) : TZ G mt R cells slots K M0 J0 pc L st F M J Z := by
  intro hg hm hf hl hs
  exact T_iload_n hd hp (by rw [List.getElem?_map, hi]; rfl) (k hg hm hf hl (List.forall_mem_cons.mpr ⟨hl _ (List.mem_of_getElem? hi), hs⟩))
theorem Z_iload {i : Nat} {x : Int} (hd : decode mt.2.1 pc = .ok (.iload i, 2)) (hp : pc + 2 = n) (hi : L[i]? = some (some (vI x))) (k : TZ G mt R cells slots K M0 J0 n L (vI x :: st) F M J Z) : TZ G mt R cells slots K M0 J0 pc L st F M J Z := by
  intro hg hm hf hl hs
  exact T_iload hd hp (by rw [List.getElem?_map, hi]; rfl) (k hg hm hf hl (List.forall_mem_cons.mpr ⟨hl _ (List.mem_of_getElem? hi), hs⟩))
theorem Z_aload_n {i : Fin 4} {x : Nat} (hd : decode mt.2.1 pc = .ok (.aload_n i, 1)) (hp : pc + 1 = n) (hi : L[(i : Nat)]? = some (some (vR x))) (k : TZ G mt R cells slots K M0 J0 n L (vR x :: st) F M J Z) : TZ G mt R cells slots K M0 J0 pc L st F M J Z := by
  intro hg hm hf hl hs
  exact T_aload_n hd hp (by rw [List.getElem?_map, hi]; rfl) (k hg hm hf hl (List.forall_mem_cons.mpr ⟨hl _ (List.mem_of_getElem? hi), hs⟩))
theorem Z_aload {i : Nat} {x : Nat} (hd : decode mt.2.1 pc = .ok (.aload i, 2)) (hp : pc + 2 = n) (hi : L[i]? = some (some (vR x))) (k : TZ G mt R cells slots K M0 J0 n L (vR x :: st) F M J Z) : TZ G mt R cells slots K M0 J0 pc L st F M J Z := by
  intro hg hm hf hl hs
  exact T_aload hd hp (by rw [List.getElem?_map, hi]; rfl) (k hg hm hf hl (List.forall_mem_cons.mpr ⟨hl _ (List.mem_of_getElem? hi), hs⟩))
theorem Z_lload_n {i : Fin 4} {x : Int64} (hd : decode mt.2.1 pc = .ok (.lload_n i, 1)) (hp : pc + 1 = n) (hi : L[(i : Nat)]? = some (some (vJ x))) (k : TZ G mt R cells slots K M0 J0 n L (vJ x :: st) F M J Z) : TZ G mt R cells slots K M0 J0 pc L st F M J Z := by
  intro hg hm hf hl hs
  exact T_lload_n hd hp (by rw [List.getElem?_map, hi]; rfl) (k hg hm hf hl (List.forall_mem_cons.mpr ⟨hl _ (List.mem_of_getElem? hi), hs⟩))
theorem Z_lload {i : Nat} {x : Int64} (hd : decode mt.2.1 pc = .ok (.lload i, 2)) (hp : pc + 2 = n) (hi : L[i]? = some (some (vJ x))) (k : TZ G mt R cells slots K M0 J0 n L (vJ x :: st) F M J Z) : TZ G mt R cells slots K M0 J0 pc L st F M J Z := by
  intro hg hm hf hl hs
  exact T_lload hd hp (by rw [List.getElem?_map, hi]; rfl) (k hg hm hf hl (List.forall_mem_cons.mpr ⟨hl _ (List.mem_of_getElem? hi), hs⟩))
theorem Z_aload_nS {i : Fin 4} {x : Nat} (hd : decode mt.2.1 pc = .ok (.aload_n i, 1)) (hp : pc + 1 = n) (hi : L[(i : Nat)]? = some (some (vS x))) (k : TZ G mt R cells slots K M0 J0 n L (vS x :: st) F M J Z) : TZ G mt R cells slots K M0 J0 pc L st F M J Z := by
  intro hg hm hf hl hs
  exact T_aload_n hd hp (by rw [List.getElem?_map, hi]; rfl) (k hg hm hf hl (List.forall_mem_cons.mpr ⟨trivial, hs⟩))
theorem Z_aloadS {i : Nat} {x : Nat} (hd : decode mt.2.1 pc = .ok (.aload i, 2)) (hp : pc + 2 = n) (hi : L[i]? = some (some (vS x))) (k : TZ G mt R cells slots K M0 J0 n L (vS x :: st) F M J Z) : TZ G mt R cells slots K M0 J0 pc L st F M J Z := by
  intro hg hm hf hl hs
  exact T_aload hd hp (by rw [List.getElem?_map, hi]; rfl) (k hg hm hf hl (List.forall_mem_cons.mpr ⟨trivial, hs⟩))
theorem fr_st {a : Nat} {j x : Int} (hK : ¬ K a) (hf : ∀ a, K a → M a = M0 a ∧ J a = J0 a) : ∀ b, K b → uz M a j x b = M0 b ∧ J b = J0 b := by
  intro b hb
  have hne : b ≠ a := fun e => hK (by rw [← e]; exact hb)
  rw [uz_o hne]
  exact hf b hb
theorem fr_stJ {a : Nat} {j : Int} {x : Int64} (hK : ¬ K a) (hf : ∀ a, K a → M a = M0 a ∧ J a = J0 a) : ∀ b, K b → M b = M0 b ∧ uz J a j x b = J0 b := by
  intro b hb
  have hne : b ≠ a := fun e => hK (by rw [← e]; exact hb)
  rw [uz_o hne]
  exact hf b hb
theorem set_ok {L : List (Option zV)} {i : Nat} {w : zV} (hl : ∀ v, some v ∈ L → vok v) (hw : vok w) : ∀ v, some v ∈ L.set i (some w) → vok v := by
  intro v hv
  rcases List.mem_or_eq_of_mem_set hv with h | h
  · exact hl v h
  · cases h; exact hw
theorem set_ok2 {L : List (Option zV)} {i : Nat} (hl : ∀ v, some v ∈ L → vok v) : ∀ v, some v ∈ L.set i none → vok v := by
  intro v hv
  rcases List.mem_or_eq_of_mem_set hv with h | h
  · exact hl v h
  · cases h
def znl (L : List (Option zV)) (i : Nat) : Bool := match i with
  | 0 => true
  | i + 1 => match L[i]? with
    | some (some (.inr (.inl _))) => false
    | _ => true
theorem znl_ok {G : tl_G} {L : List (Option zV)} {i : Nat} (h : znl L i = true) : tl_nl (L.map (Option.map (cv G))) i = true := by
  cases i with
  | zero => rfl
  | succ i =>
    unfold znl at h
    unfold tl_nl
    simp only [List.getElem?_map]
    rcases hq : L[i]? with _ | _ | w
    · rfl
    · rfl
    · simp only [hq] at h
      rcases w with z | z | z | z
      · rfl
      · cases h
      · rfl
      · rfl
theorem Z_istore_n {i : Fin 4} {x : Int} (hd : decode mt.2.1 pc = .ok (.istore_n i, 1)) (hp : pc + 1 = n) (hn : (i : Nat) < mt.2.2.1) (hk : znl L (i : Nat) = true) (hL : L.set (i : Nat) (some (vI x)) = L') (k : TZ G mt R cells slots K M0 J0 n L' st F M J Z) : TZ G mt R cells slots K M0 J0 pc L (vI x :: st) F M J Z := by
  intro hg hm hf hl hs
  subst hL
  have h1 := k hg hm hf (set_ok hl (hs _ List.mem_cons_self)) (List.forall_mem_cons.mp hs).2
  rw [List.map_set] at h1
  exact T_istore_n hd hp hn (znl_ok hk) h1
theorem Z_istore {i : Nat} {x : Int} (hd : decode mt.2.1 pc = .ok (.istore i, 2)) (hp : pc + 2 = n) (hn : i < mt.2.2.1) (hk : znl L i = true) (hL : L.set i (some (vI x)) = L') (k : TZ G mt R cells slots K M0 J0 n L' st F M J Z) : TZ G mt R cells slots K M0 J0 pc L (vI x :: st) F M J Z := by
  intro hg hm hf hl hs
  subst hL
  have h1 := k hg hm hf (set_ok hl (hs _ List.mem_cons_self)) (List.forall_mem_cons.mp hs).2
  rw [List.map_set] at h1
  exact T_istore hd hp hn (znl_ok hk) h1
theorem Z_astore_n {i : Fin 4} {x : Nat} (hd : decode mt.2.1 pc = .ok (.astore_n i, 1)) (hp : pc + 1 = n) (hn : (i : Nat) < mt.2.2.1) (hk : znl L (i : Nat) = true) (hL : L.set (i : Nat) (some (vR x)) = L') (k : TZ G mt R cells slots K M0 J0 n L' st F M J Z) : TZ G mt R cells slots K M0 J0 pc L (vR x :: st) F M J Z := by
  intro hg hm hf hl hs
  subst hL
  have h1 := k hg hm hf (set_ok hl (hs _ List.mem_cons_self)) (List.forall_mem_cons.mp hs).2
  rw [List.map_set] at h1
  exact T_astore_n hd hp hn (znl_ok hk) h1
theorem Z_astore {i : Nat} {x : Nat} (hd : decode mt.2.1 pc = .ok (.astore i, 2)) (hp : pc + 2 = n) (hn : i < mt.2.2.1) (hk : znl L i = true) (hL : L.set i (some (vR x)) = L') (k : TZ G mt R cells slots K M0 J0 n L' st F M J Z) : TZ G mt R cells slots K M0 J0 pc L (vR x :: st) F M J Z := by
  intro hg hm hf hl hs
  subst hL
  have h1 := k hg hm hf (set_ok hl (hs _ List.mem_cons_self)) (List.forall_mem_cons.mp hs).2
  rw [List.map_set] at h1
  exact T_astore hd hp hn (znl_ok hk) h1
theorem Z_lstore_n {i : Fin 4} {x : Int64} (hd : decode mt.2.1 pc = .ok (.lstore_n i, 1)) (hp : pc + 1 = n) (hn : (i : Nat) + 1 < mt.2.2.1) (hk : znl L (i : Nat) = true) (hL : (L.set (i : Nat) (some (vJ x))).set ((i : Nat) + 1) none = L') (k : TZ G mt R cells slots K M0 J0 n L' st F M J Z) : TZ G mt R cells slots K M0 J0 pc L (vJ x :: st) F M J Z := by
  intro hg hm hf hl hs
  subst hL
  have h1 := k hg hm hf (set_ok2 (set_ok hl (hs _ List.mem_cons_self))) (List.forall_mem_cons.mp hs).2
  rw [List.map_set, List.map_set] at h1
  exact T_lstore_n hd hp hn (znl_ok hk) h1
theorem Z_lstore {i : Nat} {x : Int64} (hd : decode mt.2.1 pc = .ok (.lstore i, 2)) (hp : pc + 2 = n) (hn : i + 1 < mt.2.2.1) (hk : znl L i = true) (hL : (L.set i (some (vJ x))).set (i + 1) none = L') (k : TZ G mt R cells slots K M0 J0 n L' st F M J Z) : TZ G mt R cells slots K M0 J0 pc L (vJ x :: st) F M J Z := by
  intro hg hm hf hl hs
  subst hL
  have h1 := k hg hm hf (set_ok2 (set_ok hl (hs _ List.mem_cons_self))) (List.forall_mem_cons.mp hs).2
  rw [List.map_set, List.map_set] at h1
  exact T_lstore hd hp hn (znl_ok hk) h1
theorem Z_iinc {i : Nat} {d x y : Int} (hd : decode mt.2.1 pc = .ok (.iinc i d, 3)) (hp : pc + 3 = n) (hi : L[i]? = some (some (vI x))) (hn : i < mt.2.2.1) (hk : znl L i = true) (hy : x + d = y) (hr : zI y) (hL : L.set i (some (vI y)) = L') (k : TZ G mt R cells slots K M0 J0 n L' st F M J Z) : TZ G mt R cells slots K M0 J0 pc L st F M J Z := by
  intro hg hm hf hl hs
  subst hL
  subst hy
  have h1 := k hg hm hf (set_ok hl hr) hs
  rw [List.map_set] at h1
  refine T_iinc hd hp (by rw [List.getElem?_map, hi]; rfl) hn (znl_ok hk) ?_
  rw [← Int32.ofInt_add]
  exact h1
theorem Z_iadd {x y : Int} (hd : decode mt.2.1 pc = .ok (.iadd, 1)) (hp : pc + 1 = n) (hr : zI (x + y)) (k : TZ G mt R cells slots K M0 J0 n L (vI (x + y) :: st) F M J Z) : TZ G mt R cells slots K M0 J0 pc L (vI y :: vI x :: st) F M J Z := by
  intro hg hm hf hl hs
  have h1 := k hg hm hf hl (List.forall_mem_cons.mpr ⟨hr, (List.forall_mem_cons.mp (List.forall_mem_cons.mp hs).2).2⟩)
  refine T_iadd (x := Int32.ofInt x) (y := Int32.ofInt y) hd hp ?_
  rw [← Int32.ofInt_add]
  exact h1
theorem Z_isub {x y : Int} (hd : decode mt.2.1 pc = .ok (.isub, 1)) (hp : pc + 1 = n) (hr : zI (x - y)) (k : TZ G mt R cells slots K M0 J0 n L (vI (x - y) :: st) F M J Z) : TZ G mt R cells slots K M0 J0 pc L (vI y :: vI x :: st) F M J Z := by
  intro hg hm hf hl hs
  have h1 := k hg hm hf hl (List.forall_mem_cons.mpr ⟨hr, (List.forall_mem_cons.mp (List.forall_mem_cons.mp hs).2).2⟩)
  refine T_isub (x := Int32.ofInt x) (y := Int32.ofInt y) hd hp ?_
  rw [← Int32.ofInt_sub]
  exact h1
theorem Z_imul {x y : Int} (hd : decode mt.2.1 pc = .ok (.imul, 1)) (hp : pc + 1 = n) (hr : zI (x * y)) (k : TZ G mt R cells slots K M0 J0 n L (vI (x * y) :: st) F M J Z) : TZ G mt R cells slots K M0 J0 pc L (vI y :: vI x :: st) F M J Z := by
  intro hg hm hf hl hs
  have h1 := k hg hm hf hl (List.forall_mem_cons.mpr ⟨hr, (List.forall_mem_cons.mp (List.forall_mem_cons.mp hs).2).2⟩)
  refine T_imul (x := Int32.ofInt x) (y := Int32.ofInt y) hd hp ?_
  rw [← Int32.ofInt_mul]
  exact h1
def wr (x : Int) : Int := (Int32.ofInt x).toInt
theorem wr_eq {x : Int} (h : zI x) : wr x = x := i32 h
theorem Z_iaddw {x y : Int} (hd : decode mt.2.1 pc = .ok (.iadd, 1)) (hp : pc + 1 = n) (k : TZ G mt R cells slots K M0 J0 n L (vI (wr (x + y)) :: st) F M J Z) : TZ G mt R cells slots K M0 J0 pc L (vI y :: vI x :: st) F M J Z := by
  intro hg hm hf hl hs
  have h1 := k hg hm hf hl (List.forall_mem_cons.mpr ⟨zIof _, (List.forall_mem_cons.mp (List.forall_mem_cons.mp hs).2).2⟩)
  refine T_iadd (x := Int32.ofInt x) (y := Int32.ofInt y) hd hp ?_
  have h2 : cv G (vI (wr (x + y))) = .int (Int32.ofInt x + Int32.ofInt y) := by simp only [cv, wr, Int32.ofInt_toInt, Int32.ofInt_add]
  rw [List.map_cons, h2] at h1
  exact h1
def zand (x y : Int) : Int := (Int32.ofInt x &&& Int32.ofInt y).toInt
theorem Z_iand {x y : Int} (hd : decode mt.2.1 pc = .ok (.iand, 1)) (hp : pc + 1 = n) (k : TZ G mt R cells slots K M0 J0 n L (vI (zand x y) :: st) F M J Z) : TZ G mt R cells slots K M0 J0 pc L (vI y :: vI x :: st) F M J Z := by
  intro hg hm hf hl hs
  have h1 := k hg hm hf hl (List.forall_mem_cons.mpr ⟨zIof _, (List.forall_mem_cons.mp (List.forall_mem_cons.mp hs).2).2⟩)
  refine T_iand (x := Int32.ofInt x) (y := Int32.ofInt y) hd hp ?_
  have h2 : cv G (vI (zand x y)) = .int (Int32.ofInt x &&& Int32.ofInt y) := by simp only [cv, zand, Int32.ofInt_toInt]
  rw [List.map_cons, h2] at h1
  exact h1
def zor (x y : Int) : Int := (Int32.ofInt x ||| Int32.ofInt y).toInt
theorem Z_ior {x y : Int} (hd : decode mt.2.1 pc = .ok (.ior, 1)) (hp : pc + 1 = n) (k : TZ G mt R cells slots K M0 J0 n L (vI (zor x y) :: st) F M J Z) : TZ G mt R cells slots K M0 J0 pc L (vI y :: vI x :: st) F M J Z := by
  intro hg hm hf hl hs
  have h1 := k hg hm hf hl (List.forall_mem_cons.mpr ⟨zIof _, (List.forall_mem_cons.mp (List.forall_mem_cons.mp hs).2).2⟩)
  refine T_ior (x := Int32.ofInt x) (y := Int32.ofInt y) hd hp ?_
  have h2 : cv G (vI (zor x y)) = .int (Int32.ofInt x ||| Int32.ofInt y) := by simp only [cv, zor, Int32.ofInt_toInt]
  rw [List.map_cons, h2] at h1
  exact h1
def zxor (x y : Int) : Int := (Int32.ofInt x ^^^ Int32.ofInt y).toInt
theorem Z_ixor {x y : Int} (hd : decode mt.2.1 pc = .ok (.ixor, 1)) (hp : pc + 1 = n) (k : TZ G mt R cells slots K M0 J0 n L (vI (zxor x y) :: st) F M J Z) : TZ G mt R cells slots K M0 J0 pc L (vI y :: vI x :: st) F M J Z := by
  intro hg hm hf hl hs
  have h1 := k hg hm hf hl (List.forall_mem_cons.mpr ⟨zIof _, (List.forall_mem_cons.mp (List.forall_mem_cons.mp hs).2).2⟩)
  refine T_ixor (x := Int32.ofInt x) (y := Int32.ofInt y) hd hp ?_
  have h2 : cv G (vI (zxor x y)) = .int (Int32.ofInt x ^^^ Int32.ofInt y) := by simp only [cv, zxor, Int32.ofInt_toInt]
  rw [List.map_cons, h2] at h1
  exact h1
def zshl (x y : Int) : Int := (Int32.ofInt x <<< (Int32.ofInt y &&& 31)).toInt
theorem Z_ishl {x y : Int} (hd : decode mt.2.1 pc = .ok (.ishl, 1)) (hp : pc + 1 = n) (k : TZ G mt R cells slots K M0 J0 n L (vI (zshl x y) :: st) F M J Z) : TZ G mt R cells slots K M0 J0 pc L (vI y :: vI x :: st) F M J Z := by
  intro hg hm hf hl hs
  have h1 := k hg hm hf hl (List.forall_mem_cons.mpr ⟨zIof _, (List.forall_mem_cons.mp (List.forall_mem_cons.mp hs).2).2⟩)
  refine T_ishl (x := Int32.ofInt x) (y := Int32.ofInt y) hd hp ?_
  have h2 : cv G (vI (zshl x y)) = .int (Int32.ofInt x <<< (Int32.ofInt y &&& 31)) := by simp only [cv, zshl, Int32.ofInt_toInt]
  rw [List.map_cons, h2] at h1
  exact h1
def zshr (x y : Int) : Int := (Int32.ofInt x >>> (Int32.ofInt y &&& 31)).toInt
theorem Z_ishr {x y : Int} (hd : decode mt.2.1 pc = .ok (.ishr, 1)) (hp : pc + 1 = n) (k : TZ G mt R cells slots K M0 J0 n L (vI (zshr x y) :: st) F M J Z) : TZ G mt R cells slots K M0 J0 pc L (vI y :: vI x :: st) F M J Z := by
  intro hg hm hf hl hs
  have h1 := k hg hm hf hl (List.forall_mem_cons.mpr ⟨zIof _, (List.forall_mem_cons.mp (List.forall_mem_cons.mp hs).2).2⟩)
  refine T_ishr (x := Int32.ofInt x) (y := Int32.ofInt y) hd hp ?_
  have h2 : cv G (vI (zshr x y)) = .int (Int32.ofInt x >>> (Int32.ofInt y &&& 31)) := by simp only [cv, zshr, Int32.ofInt_toInt]
  rw [List.map_cons, h2] at h1
  exact h1
def zdiv (x y : Int) : Int := (Int32.ofInt x / Int32.ofInt y).toInt
theorem Z_idiv {x y : Int} (hd : decode mt.2.1 pc = .ok (.idiv, 1)) (hp : pc + 1 = n) (hy : zI y) (h0 : y ≠ 0) (k : TZ G mt R cells slots K M0 J0 n L (vI (zdiv x y) :: st) F M J Z) : TZ G mt R cells slots K M0 J0 pc L (vI y :: vI x :: st) F M J Z := by
  intro hg hm hf hl hs
  have h1 := k hg hm hf hl (List.forall_mem_cons.mpr ⟨zIof _, (List.forall_mem_cons.mp (List.forall_mem_cons.mp hs).2).2⟩)
  refine T_idiv (x := Int32.ofInt x) (y := Int32.ofInt y) hd hp (fun h => h0 ((i32eq hy zI0).mp h)) ?_
  have h2 : cv G (vI (zdiv x y)) = .int (Int32.ofInt x / Int32.ofInt y) := by simp only [cv, zdiv, Int32.ofInt_toInt]
  rw [List.map_cons, h2] at h1
  exact h1
def zrem (x y : Int) : Int := (Int32.ofInt x - Int32.ofInt x / Int32.ofInt y * Int32.ofInt y).toInt
theorem Z_irem {x y : Int} (hd : decode mt.2.1 pc = .ok (.irem, 1)) (hp : pc + 1 = n) (hy : zI y) (h0 : y ≠ 0) (k : TZ G mt R cells slots K M0 J0 n L (vI (zrem x y) :: st) F M J Z) : TZ G mt R cells slots K M0 J0 pc L (vI y :: vI x :: st) F M J Z := by
  intro hg hm hf hl hs
  have h1 := k hg hm hf hl (List.forall_mem_cons.mpr ⟨zIof _, (List.forall_mem_cons.mp (List.forall_mem_cons.mp hs).2).2⟩)
  refine T_irem (x := Int32.ofInt x) (y := Int32.ofInt y) hd hp (fun h => h0 ((i32eq hy zI0).mp h)) ?_
  have h2 : cv G (vI (zrem x y)) = .int (Int32.ofInt x - Int32.ofInt x / Int32.ofInt y * Int32.ofInt y) := by simp only [cv, zrem, Int32.ofInt_toInt]
  rw [List.map_cons, h2] at h1
  exact h1
theorem Z_ladd {x y : Int64} (hd : decode mt.2.1 pc = .ok (.ladd, 1)) (hp : pc + 1 = n) (k : TZ G mt R cells slots K M0 J0 n L (vJ (x + y) :: st) F M J Z) : TZ G mt R cells slots K M0 J0 pc L (vJ y :: vJ x :: st) F M J Z := by
  intro hg hm hf hl hs
  exact T_ladd hd hp (k hg hm hf hl (List.forall_mem_cons.mpr ⟨trivial, (List.forall_mem_cons.mp (List.forall_mem_cons.mp hs).2).2⟩))
theorem Z_lsub {x y : Int64} (hd : decode mt.2.1 pc = .ok (.lsub, 1)) (hp : pc + 1 = n) (k : TZ G mt R cells slots K M0 J0 n L (vJ (x - y) :: st) F M J Z) : TZ G mt R cells slots K M0 J0 pc L (vJ y :: vJ x :: st) F M J Z := by
  intro hg hm hf hl hs
  exact T_lsub hd hp (k hg hm hf hl (List.forall_mem_cons.mpr ⟨trivial, (List.forall_mem_cons.mp (List.forall_mem_cons.mp hs).2).2⟩))
theorem Z_lmul {x y : Int64} (hd : decode mt.2.1 pc = .ok (.lmul, 1)) (hp : pc + 1 = n) (k : TZ G mt R cells slots K M0 J0 n L (vJ (x * y) :: st) F M J Z) : TZ G mt R cells slots K M0 J0 pc L (vJ y :: vJ x :: st) F M J Z := by
  intro hg hm hf hl hs
  exact T_lmul hd hp (k hg hm hf hl (List.forall_mem_cons.mpr ⟨trivial, (List.forall_mem_cons.mp (List.forall_mem_cons.mp hs).2).2⟩))
theorem Z_land {x y : Int64} (hd : decode mt.2.1 pc = .ok (.land, 1)) (hp : pc + 1 = n) (k : TZ G mt R cells slots K M0 J0 n L (vJ (x &&& y) :: st) F M J Z) : TZ G mt R cells slots K M0 J0 pc L (vJ y :: vJ x :: st) F M J Z := by
  intro hg hm hf hl hs
  exact T_land hd hp (k hg hm hf hl (List.forall_mem_cons.mpr ⟨trivial, (List.forall_mem_cons.mp (List.forall_mem_cons.mp hs).2).2⟩))
theorem Z_lor {x y : Int64} (hd : decode mt.2.1 pc = .ok (.lor, 1)) (hp : pc + 1 = n) (k : TZ G mt R cells slots K M0 J0 n L (vJ (x ||| y) :: st) F M J Z) : TZ G mt R cells slots K M0 J0 pc L (vJ y :: vJ x :: st) F M J Z := by
  intro hg hm hf hl hs
  exact T_lor hd hp (k hg hm hf hl (List.forall_mem_cons.mpr ⟨trivial, (List.forall_mem_cons.mp (List.forall_mem_cons.mp hs).2).2⟩))
theorem Z_lxor {x y : Int64} (hd : decode mt.2.1 pc = .ok (.lxor, 1)) (hp : pc + 1 = n) (k : TZ G mt R cells slots K M0 J0 n L (vJ (x ^^^ y) :: st) F M J Z) : TZ G mt R cells slots K M0 J0 pc L (vJ y :: vJ x :: st) F M J Z := by
  intro hg hm hf hl hs
  exact T_lxor hd hp (k hg hm hf hl (List.forall_mem_cons.mpr ⟨trivial, (List.forall_mem_cons.mp (List.forall_mem_cons.mp hs).2).2⟩))
def zlshl (x : Int64) (y : Int) : Int64 := x <<< ((Int32.ofInt y).toInt64 &&& 63)
theorem Z_lshl {x : Int64} {y : Int} (hd : decode mt.2.1 pc = .ok (.lshl, 1)) (hp : pc + 1 = n) (k : TZ G mt R cells slots K M0 J0 n L (vJ (zlshl x y) :: st) F M J Z) : TZ G mt R cells slots K M0 J0 pc L (vI y :: vJ x :: st) F M J Z := by
  intro hg hm hf hl hs
  exact T_lshl (x := x) (y := Int32.ofInt y) hd hp (k hg hm hf hl (List.forall_mem_cons.mpr ⟨trivial, (List.forall_mem_cons.mp (List.forall_mem_cons.mp hs).2).2⟩))
def zlshr (x : Int64) (y : Int) : Int64 := x >>> ((Int32.ofInt y).toInt64 &&& 63)
theorem Z_lshr {x : Int64} {y : Int} (hd : decode mt.2.1 pc = .ok (.lshr, 1)) (hp : pc + 1 = n) (k : TZ G mt R cells slots K M0 J0 n L (vJ (zlshr x y) :: st) F M J Z) : TZ G mt R cells slots K M0 J0 pc L (vI y :: vJ x :: st) F M J Z := by
  intro hg hm hf hl hs
  exact T_lshr (x := x) (y := Int32.ofInt y) hd hp (k hg hm hf hl (List.forall_mem_cons.mpr ⟨trivial, (List.forall_mem_cons.mp (List.forall_mem_cons.mp hs).2).2⟩))
def zlushr (x : Int64) (y : Int) : Int64 := (x.toUInt64 >>> ((Int32.ofInt y).toInt64.toUInt64 &&& Int64.toUInt64 63)).toInt64
theorem Z_lushr {x : Int64} {y : Int} (hd : decode mt.2.1 pc = .ok (.lushr, 1)) (hp : pc + 1 = n) (k : TZ G mt R cells slots K M0 J0 n L (vJ (zlushr x y) :: st) F M J Z) : TZ G mt R cells slots K M0 J0 pc L (vI y :: vJ x :: st) F M J Z := by
  intro hg hm hf hl hs
  exact T_lushr (x := x) (y := Int32.ofInt y) hd hp (k hg hm hf hl (List.forall_mem_cons.mpr ⟨trivial, (List.forall_mem_cons.mp (List.forall_mem_cons.mp hs).2).2⟩))
def zcmp (x y : Int64) : Int := (lg_cmp x y).toInt
theorem Z_lcmp {x y : Int64} (hd : decode mt.2.1 pc = .ok (.lcmp, 1)) (hp : pc + 1 = n) (k : TZ G mt R cells slots K M0 J0 n L (vI (zcmp x y) :: st) F M J Z) : TZ G mt R cells slots K M0 J0 pc L (vJ y :: vJ x :: st) F M J Z := by
  intro hg hm hf hl hs
  have h1 := k hg hm hf hl (List.forall_mem_cons.mpr ⟨zIof _, (List.forall_mem_cons.mp (List.forall_mem_cons.mp hs).2).2⟩)
  refine T_lcmp (x := x) (y := y) hd hp ?_
  have h2 : cv G (vI (zcmp x y)) = .int (lg_cmp x y) := by simp only [cv, zcmp, Int32.ofInt_toInt]
  rw [List.map_cons, h2] at h1
  exact h1
theorem Z_i2l {x : Int} (hd : decode mt.2.1 pc = .ok (.i2l, 1)) (hp : pc + 1 = n) (k : TZ G mt R cells slots K M0 J0 n L (vJ (Int32.ofInt x).toInt64 :: st) F M J Z) : TZ G mt R cells slots K M0 J0 pc L (vI x :: st) F M J Z := by
  intro hg hm hf hl hs
  exact T_i2l (x := Int32.ofInt x) hd hp (k hg hm hf hl (List.forall_mem_cons.mpr ⟨trivial, (List.forall_mem_cons.mp hs).2⟩))
def zl2i (x : Int64) : Int := x.toInt32.toInt
theorem Z_l2i {x : Int64} (hd : decode mt.2.1 pc = .ok (.l2i, 1)) (hp : pc + 1 = n) (k : TZ G mt R cells slots K M0 J0 n L (vI (zl2i x) :: st) F M J Z) : TZ G mt R cells slots K M0 J0 pc L (vJ x :: st) F M J Z := by
  intro hg hm hf hl hs
  have h1 := k hg hm hf hl (List.forall_mem_cons.mpr ⟨zIof _, (List.forall_mem_cons.mp hs).2⟩)
  refine T_l2i (x := x) hd hp ?_
  have h2 : cv G (vI (zl2i x)) = .int x.toInt32 := by simp only [cv, zl2i, Int32.ofInt_toInt]
  rw [List.map_cons, h2] at h1
  exact h1
def zc1 (v : zV) : Bool := match v with
  | .inr (.inl _) => false
  | _ => true
theorem zc1_ok {G : tl_G} {v : zV} (h : zc1 v = true) : (cv G v).category = 1 := by
  match v, h with
  | .inl z, _ => rfl
  | .inr (.inr (.inl z)), _ => rfl
  | .inr (.inr (.inr z)), _ => rfl
theorem Z_dup {v : zV} (hd : decode mt.2.1 pc = .ok (.dup, 1)) (hp : pc + 1 = n) (hv : zc1 v = true) (k : TZ G mt R cells slots K M0 J0 n L (v :: v :: st) F M J Z) : TZ G mt R cells slots K M0 J0 pc L (v :: st) F M J Z := by
  intro hg hm hf hl hs
  exact T_dup hd hp (zc1_ok hv) (k hg hm hf hl (List.forall_mem_cons.mpr ⟨hs _ List.mem_cons_self, hs⟩))
theorem Z_pop {v : zV} (hd : decode mt.2.1 pc = .ok (.pop, 1)) (hp : pc + 1 = n) (hv : zc1 v = true) (k : TZ G mt R cells slots K M0 J0 n L st F M J Z) : TZ G mt R cells slots K M0 J0 pc L (v :: st) F M J Z := by
  intro hg hm hf hl hs
  exact T_pop hd hp (zc1_ok hv) (k hg hm hf hl (List.forall_mem_cons.mp hs).2)
theorem Z_dup2 {v u : zV} (hd : decode mt.2.1 pc = .ok (.dup2, 1)) (hp : pc + 1 = n) (hv : zc1 v = true) (hu : zc1 u = true) (k : TZ G mt R cells slots K M0 J0 n L (v :: u :: v :: u :: st) F M J Z) : TZ G mt R cells slots K M0 J0 pc L (v :: u :: st) F M J Z := by
  intro hg hm hf hl hs
  exact T_dup2 hd hp (zc1_ok hv) (zc1_ok hu) (k hg hm hf hl (List.forall_mem_cons.mpr ⟨hs _ List.mem_cons_self, List.forall_mem_cons.mpr ⟨(List.forall_mem_cons.mp (List.forall_mem_cons.mp hs).2).1, hs⟩⟩))
theorem Z_if_eq {x : Int} {off : Int} {t : Nat} (hd : decode mt.2.1 pc = .ok (.ifCond .eq off, 3)) (hp : pc + 3 = n) (ht : (pc : Int) + off = (t : Int)) (kt : x = 0 → TZ G mt R cells slots K M0 J0 t L st F M J Z) (kf : ¬ x = 0 → TZ G mt R cells slots K M0 J0 n L st F M J Z) : TZ G mt R cells slots K M0 J0 pc L (vI x :: st) F M J Z := by
  intro hg hm hf hl hs
  have hx : zI x := (List.forall_mem_cons.mp hs).1
  have ht2 := (List.forall_mem_cons.mp hs).2
  exact T_if_eq (x := Int32.ofInt x) hd hp ht (fun h => (fun h => kt ((i32eq hx zI0).mp h)) h hg hm hf hl ht2) (fun h => (fun h => kf (fun e => h ((i32eq hx zI0).mpr e))) h hg hm hf hl ht2)
theorem Z_icmp_eq {x y : Int} {off : Int} {t : Nat} (hd : decode mt.2.1 pc = .ok (.if_icmp .eq off, 3)) (hp : pc + 3 = n) (ht : (pc : Int) + off = (t : Int)) (kt : x = y → TZ G mt R cells slots K M0 J0 t L st F M J Z) (kf : ¬ x = y → TZ G mt R cells slots K M0 J0 n L st F M J Z) : TZ G mt R cells slots K M0 J0 pc L (vI y :: vI x :: st) F M J Z := by
  intro hg hm hf hl hs
  have hx : zI x := (List.forall_mem_cons.mp (List.forall_mem_cons.mp hs).2).1
  have hy : zI y := (List.forall_mem_cons.mp hs).1
  have ht2 := (List.forall_mem_cons.mp (List.forall_mem_cons.mp hs).2).2
  exact T_icmp_eq (x := Int32.ofInt x) (y := Int32.ofInt y) hd hp ht (fun h => (fun h => kt ((i32eq hx hy).mp h)) h hg hm hf hl ht2) (fun h => (fun h => kf (fun e => h ((i32eq hx hy).mpr e))) h hg hm hf hl ht2)
theorem Z_if_ne {x : Int} {off : Int} {t : Nat} (hd : decode mt.2.1 pc = .ok (.ifCond .ne off, 3)) (hp : pc + 3 = n) (ht : (pc : Int) + off = (t : Int)) (kt : ¬ x = 0 → TZ G mt R cells slots K M0 J0 t L st F M J Z) (kf : x = 0 → TZ G mt R cells slots K M0 J0 n L st F M J Z) : TZ G mt R cells slots K M0 J0 pc L (vI x :: st) F M J Z := by
  intro hg hm hf hl hs
  have hx : zI x := (List.forall_mem_cons.mp hs).1
  have ht2 := (List.forall_mem_cons.mp hs).2
  exact T_if_ne (x := Int32.ofInt x) hd hp ht (fun h => (fun h => kt (fun e => h ((i32eq hx zI0).mpr e))) h hg hm hf hl ht2) (fun h => (fun h => kf ((i32eq hx zI0).mp h)) h hg hm hf hl ht2)
theorem Z_icmp_ne {x y : Int} {off : Int} {t : Nat} (hd : decode mt.2.1 pc = .ok (.if_icmp .ne off, 3)) (hp : pc + 3 = n) (ht : (pc : Int) + off = (t : Int)) (kt : ¬ x = y → TZ G mt R cells slots K M0 J0 t L st F M J Z) (kf : x = y → TZ G mt R cells slots K M0 J0 n L st F M J Z) : TZ G mt R cells slots K M0 J0 pc L (vI y :: vI x :: st) F M J Z := by
  intro hg hm hf hl hs
  have hx : zI x := (List.forall_mem_cons.mp (List.forall_mem_cons.mp hs).2).1
  have hy : zI y := (List.forall_mem_cons.mp hs).1
  have ht2 := (List.forall_mem_cons.mp (List.forall_mem_cons.mp hs).2).2
  exact T_icmp_ne (x := Int32.ofInt x) (y := Int32.ofInt y) hd hp ht (fun h => (fun h => kt (fun e => h ((i32eq hx hy).mpr e))) h hg hm hf hl ht2) (fun h => (fun h => kf ((i32eq hx hy).mp h)) h hg hm hf hl ht2)
theorem Z_if_lt {x : Int} {off : Int} {t : Nat} (hd : decode mt.2.1 pc = .ok (.ifCond .lt off, 3)) (hp : pc + 3 = n) (ht : (pc : Int) + off = (t : Int)) (kt : x < 0 → TZ G mt R cells slots K M0 J0 t L st F M J Z) (kf : ¬ x < 0 → TZ G mt R cells slots K M0 J0 n L st F M J Z) : TZ G mt R cells slots K M0 J0 pc L (vI x :: st) F M J Z := by
  intro hg hm hf hl hs
  have hx : zI x := (List.forall_mem_cons.mp hs).1
  have ht2 := (List.forall_mem_cons.mp hs).2
  exact T_if_lt (x := Int32.ofInt x) hd hp ht (fun h => (fun h => kt ((i32lt hx zI0).mp h)) h hg hm hf hl ht2) (fun h => (fun h => kf (fun e => h ((i32lt hx zI0).mpr e))) h hg hm hf hl ht2)
theorem Z_icmp_lt {x y : Int} {off : Int} {t : Nat} (hd : decode mt.2.1 pc = .ok (.if_icmp .lt off, 3)) (hp : pc + 3 = n) (ht : (pc : Int) + off = (t : Int)) (kt : x < y → TZ G mt R cells slots K M0 J0 t L st F M J Z) (kf : ¬ x < y → TZ G mt R cells slots K M0 J0 n L st F M J Z) : TZ G mt R cells slots K M0 J0 pc L (vI y :: vI x :: st) F M J Z := by
  intro hg hm hf hl hs
  have hx : zI x := (List.forall_mem_cons.mp (List.forall_mem_cons.mp hs).2).1
  have hy : zI y := (List.forall_mem_cons.mp hs).1
  have ht2 := (List.forall_mem_cons.mp (List.forall_mem_cons.mp hs).2).2
  exact T_icmp_lt (x := Int32.ofInt x) (y := Int32.ofInt y) hd hp ht (fun h => (fun h => kt ((i32lt hx hy).mp h)) h hg hm hf hl ht2) (fun h => (fun h => kf (fun e => h ((i32lt hx hy).mpr e))) h hg hm hf hl ht2)
theorem Z_if_ge {x : Int} {off : Int} {t : Nat} (hd : decode mt.2.1 pc = .ok (.ifCond .ge off, 3)) (hp : pc + 3 = n) (ht : (pc : Int) + off = (t : Int)) (kt : 0 ≤ x → TZ G mt R cells slots K M0 J0 t L st F M J Z) (kf : ¬ 0 ≤ x → TZ G mt R cells slots K M0 J0 n L st F M J Z) : TZ G mt R cells slots K M0 J0 pc L (vI x :: st) F M J Z := by
  intro hg hm hf hl hs
  have hx : zI x := (List.forall_mem_cons.mp hs).1
  have ht2 := (List.forall_mem_cons.mp hs).2
  exact T_if_ge (x := Int32.ofInt x) hd hp ht (fun h => (fun h => kt ((i32le zI0 hx).mp h)) h hg hm hf hl ht2) (fun h => (fun h => kf (fun e => h ((i32le zI0 hx).mpr e))) h hg hm hf hl ht2)
theorem Z_icmp_ge {x y : Int} {off : Int} {t : Nat} (hd : decode mt.2.1 pc = .ok (.if_icmp .ge off, 3)) (hp : pc + 3 = n) (ht : (pc : Int) + off = (t : Int)) (kt : y ≤ x → TZ G mt R cells slots K M0 J0 t L st F M J Z) (kf : ¬ y ≤ x → TZ G mt R cells slots K M0 J0 n L st F M J Z) : TZ G mt R cells slots K M0 J0 pc L (vI y :: vI x :: st) F M J Z := by
  intro hg hm hf hl hs
  have hx : zI x := (List.forall_mem_cons.mp (List.forall_mem_cons.mp hs).2).1
  have hy : zI y := (List.forall_mem_cons.mp hs).1
  have ht2 := (List.forall_mem_cons.mp (List.forall_mem_cons.mp hs).2).2
  exact T_icmp_ge (x := Int32.ofInt x) (y := Int32.ofInt y) hd hp ht (fun h => (fun h => kt ((i32le hy hx).mp h)) h hg hm hf hl ht2) (fun h => (fun h => kf (fun e => h ((i32le hy hx).mpr e))) h hg hm hf hl ht2)
theorem Z_if_gt {x : Int} {off : Int} {t : Nat} (hd : decode mt.2.1 pc = .ok (.ifCond .gt off, 3)) (hp : pc + 3 = n) (ht : (pc : Int) + off = (t : Int)) (kt : 0 < x → TZ G mt R cells slots K M0 J0 t L st F M J Z) (kf : ¬ 0 < x → TZ G mt R cells slots K M0 J0 n L st F M J Z) : TZ G mt R cells slots K M0 J0 pc L (vI x :: st) F M J Z := by
  intro hg hm hf hl hs
  have hx : zI x := (List.forall_mem_cons.mp hs).1
  have ht2 := (List.forall_mem_cons.mp hs).2
  exact T_if_gt (x := Int32.ofInt x) hd hp ht (fun h => (fun h => kt ((i32lt zI0 hx).mp h)) h hg hm hf hl ht2) (fun h => (fun h => kf (fun e => h ((i32lt zI0 hx).mpr e))) h hg hm hf hl ht2)
theorem Z_icmp_gt {x y : Int} {off : Int} {t : Nat} (hd : decode mt.2.1 pc = .ok (.if_icmp .gt off, 3)) (hp : pc + 3 = n) (ht : (pc : Int) + off = (t : Int)) (kt : y < x → TZ G mt R cells slots K M0 J0 t L st F M J Z) (kf : ¬ y < x → TZ G mt R cells slots K M0 J0 n L st F M J Z) : TZ G mt R cells slots K M0 J0 pc L (vI y :: vI x :: st) F M J Z := by
  intro hg hm hf hl hs
  have hx : zI x := (List.forall_mem_cons.mp (List.forall_mem_cons.mp hs).2).1
  have hy : zI y := (List.forall_mem_cons.mp hs).1
  have ht2 := (List.forall_mem_cons.mp (List.forall_mem_cons.mp hs).2).2
  exact T_icmp_gt (x := Int32.ofInt x) (y := Int32.ofInt y) hd hp ht (fun h => (fun h => kt ((i32lt hy hx).mp h)) h hg hm hf hl ht2) (fun h => (fun h => kf (fun e => h ((i32lt hy hx).mpr e))) h hg hm hf hl ht2)
theorem Z_if_le {x : Int} {off : Int} {t : Nat} (hd : decode mt.2.1 pc = .ok (.ifCond .le off, 3)) (hp : pc + 3 = n) (ht : (pc : Int) + off = (t : Int)) (kt : x ≤ 0 → TZ G mt R cells slots K M0 J0 t L st F M J Z) (kf : ¬ x ≤ 0 → TZ G mt R cells slots K M0 J0 n L st F M J Z) : TZ G mt R cells slots K M0 J0 pc L (vI x :: st) F M J Z := by
  intro hg hm hf hl hs
  have hx : zI x := (List.forall_mem_cons.mp hs).1
  have ht2 := (List.forall_mem_cons.mp hs).2
  exact T_if_le (x := Int32.ofInt x) hd hp ht (fun h => (fun h => kt ((i32le hx zI0).mp h)) h hg hm hf hl ht2) (fun h => (fun h => kf (fun e => h ((i32le hx zI0).mpr e))) h hg hm hf hl ht2)
theorem Z_icmp_le {x y : Int} {off : Int} {t : Nat} (hd : decode mt.2.1 pc = .ok (.if_icmp .le off, 3)) (hp : pc + 3 = n) (ht : (pc : Int) + off = (t : Int)) (kt : x ≤ y → TZ G mt R cells slots K M0 J0 t L st F M J Z) (kf : ¬ x ≤ y → TZ G mt R cells slots K M0 J0 n L st F M J Z) : TZ G mt R cells slots K M0 J0 pc L (vI y :: vI x :: st) F M J Z := by
  intro hg hm hf hl hs
  have hx : zI x := (List.forall_mem_cons.mp (List.forall_mem_cons.mp hs).2).1
  have hy : zI y := (List.forall_mem_cons.mp hs).1
  have ht2 := (List.forall_mem_cons.mp (List.forall_mem_cons.mp hs).2).2
  exact T_icmp_le (x := Int32.ofInt x) (y := Int32.ofInt y) hd hp ht (fun h => (fun h => kt ((i32le hx hy).mp h)) h hg hm hf hl ht2) (fun h => (fun h => kf (fun e => h ((i32le hx hy).mpr e))) h hg hm hf hl ht2)
theorem Z_goto {off : Int} {t : Nat} (hd : decode mt.2.1 pc = .ok (.goto off, 3)) (ht : (pc : Int) + off = (t : Int)) (k : TZ G mt R cells slots K M0 J0 t L st F M J Z) : TZ G mt R cells slots K M0 J0 pc L st F M J Z := fun hg hm hf hl hs => T_goto hd ht (k hg hm hf hl hs)
theorem Z_tin {x : Int} {d lo hi off : Int} {offs : Array Int} {len t : Nat} (hd : decode mt.2.1 pc = .ok (.tableswitch d lo hi offs, len)) (h1 : lo ≤ x) (h2 : x ≤ hi) (ho : offs[(x - lo).toNat]? = some off) (ht : (pc : Int) + off = (t : Int)) (k : TZ G mt R cells slots K M0 J0 t L st F M J Z) : TZ G mt R cells slots K M0 J0 pc L (vI x :: st) F M J Z := by
  intro hg hm hf hl hs
  have hx : (Int32.ofInt x).toInt = x := i32 (List.forall_mem_cons.mp hs).1
  exact T_tin (x := Int32.ofInt x) hd (by rw [hx]; omega) (by rw [hx]; omega) (by rw [hx]; exact ho) ht (k hg hm hf hl (List.forall_mem_cons.mp hs).2)
theorem Z_tout {x : Int} {d lo hi : Int} {offs : Array Int} {len t : Nat} (hd : decode mt.2.1 pc = .ok (.tableswitch d lo hi offs, len)) (h1 : x < lo ∨ hi < x) (ht : (pc : Int) + d = (t : Int)) (k : TZ G mt R cells slots K M0 J0 t L st F M J Z) : TZ G mt R cells slots K M0 J0 pc L (vI x :: st) F M J Z := by
  intro hg hm hf hl hs
  have hx : (Int32.ofInt x).toInt = x := i32 (List.forall_mem_cons.mp hs).1
  exact T_tout (x := Int32.ofInt x) hd (by rw [hx]; exact h1) ht (k hg hm hf hl (List.forall_mem_cons.mp hs).2)
theorem Z_lsw {x : Int} {d off : Int} {ps : Array (Int × Int)} {len t : Nat} (hd : decode mt.2.1 pc = .ok (.lookupswitch d ps, len)) (hq : (ps.toList.zip (ps.toList.drop 1)).all (fun (a, next) => a.1 < next.1) = true) (ho : Op.lookupswitch.offset ps.toList d x = off) (ht : (pc : Int) + off = (t : Int)) (k : TZ G mt R cells slots K M0 J0 t L st F M J Z) : TZ G mt R cells slots K M0 J0 pc L (vI x :: st) F M J Z := by
  intro hg hm hf hl hs
  have hx : (Int32.ofInt x).toInt = x := i32 (List.forall_mem_cons.mp hs).1
  exact T_lsw (x := Int32.ofInt x) hd hq (by rw [hx]; exact ho) ht (k hg hm hf hl (List.forall_mem_cons.mp hs).2)
theorem Z_getI {idx ci k a : Nat} {fin : Bool} {ki lo hi : Int} (hd : decode mt.2.1 pc = .ok (.getfield idx, 3)) (hp : pc + 3 = n) (hf0 : tl_FF mt.1 idx ci k .int fin) (hk : (k : Int) = ki) (hsh : F.1 a = (1, ci)) (ht : zT a ki = (lo, hi)) (kk : lo ≤ M a ki → M a ki ≤ hi → TZ G mt R cells slots K M0 J0 n L (vI (M a ki) :: st) F M J Z) : TZ G mt R cells slots K M0 J0 pc L (vR a :: st) F M J Z := by
  intro hg hm hf hl hs
  subst hk
  have h1 := hm a k
  rw [ht] at h1
  refine T_getI hd hp hf0 (by rw [tS_S]; exact hsh) ?_
  rw [tS_M]
  exact kk h1.1 h1.2 hg hm hf hl (List.forall_mem_cons.mpr ⟨zOK_in hm _ _, (List.forall_mem_cons.mp hs).2⟩)
theorem Z_putI {idx ci k a : Nat} {fin : Bool} {ki x lo hi : Int} (hd : decode mt.2.1 pc = .ok (.putfield idx, 3)) (hp : pc + 3 = n) (hf0 : tl_FF mt.1 idx ci k .int fin) (hk : (k : Int) = ki) (hfi : fin = true → mt.2.2.2.2 = "<init>") (hsh : F.1 a = (1, ci)) (ht : zT a ki = (lo, hi)) (h1 : lo ≤ x) (h2 : x ≤ hi) (hK : ¬ K a) (kk : TZ G mt R cells slots K M0 J0 n L st F (uz M a ki x) J Z) : TZ G mt R cells slots K M0 J0 pc L (vI x :: vR a :: st) F M J Z := by
  intro hg hm hf hl hs
  subst hk
  refine T_putI hd hp hf0 hfi (by rw [tS_S]; exact hsh) ?_
  rw [tS_uM]
  exact kk hg (zOK_up hm ht h1 h2) (fr_st hK hf) hl (List.forall_mem_cons.mp (List.forall_mem_cons.mp hs).2).2
theorem Z_getZ {idx ci k a : Nat} {fin : Bool} {ki lo hi : Int} (hd : decode mt.2.1 pc = .ok (.getfield idx, 3)) (hp : pc + 3 = n) (hf0 : tl_FF mt.1 idx ci k .boolean fin) (hk : (k : Int) = ki) (hsh : F.1 a = (1, ci)) (ht : zT a ki = (lo, hi)) (kk : lo ≤ M a ki → M a ki ≤ hi → TZ G mt R cells slots K M0 J0 n L (vI (M a ki) :: st) F M J Z) : TZ G mt R cells slots K M0 J0 pc L (vR a :: st) F M J Z := by
  intro hg hm hf hl hs
  subst hk
  have h1 := hm a k
  rw [ht] at h1
  refine T_getZ hd hp hf0 (by rw [tS_S]; exact hsh) ?_
  rw [tS_M]
  exact kk h1.1 h1.2 hg hm hf hl (List.forall_mem_cons.mpr ⟨zOK_in hm _ _, (List.forall_mem_cons.mp hs).2⟩)
theorem Z_putZ {idx ci k a : Nat} {fin : Bool} {ki x : Int} (hd : decode mt.2.1 pc = .ok (.putfield idx, 3)) (hp : pc + 3 = n) (hf0 : tl_FF mt.1 idx ci k .boolean fin) (hk : (k : Int) = ki) (hfi : fin = true → mt.2.2.2.2 = "<init>") (hsh : F.1 a = (1, ci)) (ht : zT a ki = (0, 1)) (h1 : 0 ≤ x) (h2 : x ≤ 1) (hK : ¬ K a) (kk : TZ G mt R cells slots K M0 J0 n L st F (uz M a ki x) J Z) : TZ G mt R cells slots K M0 J0 pc L (vI x :: vR a :: st) F M J Z := by
  intro hg hm hf hl hs
  subst hk
  refine T_putZ hd hp hf0 hfi (by rw [tS_S]; exact hsh) (by rcases (show x = 0 ∨ x = 1 by omega) with h | h <;> rw [h] <;> first | exact Or.inl rfl | exact Or.inr rfl) ?_
  rw [tS_uM]
  exact kk hg (zOK_up hm ht h1 h2) (fr_st hK hf) hl (List.forall_mem_cons.mp (List.forall_mem_cons.mp hs).2).2
theorem Z_getA {idx ci k a r : Nat} {t : FieldType} {fin : Bool} (hd : decode mt.2.1 pc = .ok (.getfield idx, 3)) (hp : pc + 3 = n) (hf0 : tl_FF mt.1 idx ci k (.array t) fin) (hsh : F.1 a = (1, ci)) (hr : F.2.1 a k = some r) (kk : TZ G mt R cells slots K M0 J0 n L (vR r :: st) F M J Z) : TZ G mt R cells slots K M0 J0 pc L (vR a :: st) F M J Z := by
  intro hg hm hf hl hs
  exact T_getA hd hp hf0 (by rw [tS_S]; exact hsh) (by rw [tS_P, hr]; rfl) (kk hg hm hf hl (List.forall_mem_cons.mpr ⟨trivial, (List.forall_mem_cons.mp hs).2⟩))
theorem Z_getO {idx ci k a r : Nat} {t : String} {fin : Bool} (hd : decode mt.2.1 pc = .ok (.getfield idx, 3)) (hp : pc + 3 = n) (hf0 : tl_FF mt.1 idx ci k (.object t) fin) (hsh : F.1 a = (1, ci)) (hr : F.2.1 a k = some r) (kk : TZ G mt R cells slots K M0 J0 n L (vR r :: st) F M J Z) : TZ G mt R cells slots K M0 J0 pc L (vR a :: st) F M J Z := by
  intro hg hm hf hl hs
  exact T_getO hd hp hf0 (by rw [tS_S]; exact hsh) (by rw [tS_P, hr]; rfl) (kk hg hm hf hl (List.forall_mem_cons.mpr ⟨trivial, (List.forall_mem_cons.mp hs).2⟩))
theorem Z_iald {a N : Nat} {j lo hi : Int} (hd : decode mt.2.1 pc = .ok (.iaload, 1)) (hp : pc + 1 = n) (hsh : F.1 a = (2, N)) (ht : zT a j = (lo, hi)) (hN : N < 2147483648) (h0 : 0 ≤ j) (h1 : j < (N : Int)) (kk : lo ≤ M a j → M a j ≤ hi → TZ G mt R cells slots K M0 J0 n L (vI (M a j) :: st) F M J Z) : TZ G mt R cells slots K M0 J0 pc L (vI j :: vR a :: st) F M J Z := by
  intro hg hm hf hl hs
  have h5 := hm a j
  rw [ht] at h5
  refine T_iald (j := Int32.ofInt j) (i := j.toNat) hd hp (by rw [tS_S]; exact hsh) (i32n h0 (by omega)) (by omega) (by omega) ?_
  rw [tS_M, Int.toNat_of_nonneg h0]
  exact kk h5.1 h5.2 hg hm hf hl (List.forall_mem_cons.mpr ⟨zOK_in hm _ _, (List.forall_mem_cons.mp (List.forall_mem_cons.mp hs).2).2⟩)
theorem Z_zald {a N : Nat} {j lo hi : Int} (hd : decode mt.2.1 pc = .ok (.baload, 1)) (hp : pc + 1 = n) (hsh : F.1 a = (3, N)) (ht : zT a j = (lo, hi)) (hN : N < 2147483648) (h0 : 0 ≤ j) (h1 : j < (N : Int)) (kk : lo ≤ M a j → M a j ≤ hi → TZ G mt R cells slots K M0 J0 n L (vI (M a j) :: st) F M J Z) : TZ G mt R cells slots K M0 J0 pc L (vI j :: vR a :: st) F M J Z := by
  intro hg hm hf hl hs
  have h5 := hm a j
  rw [ht] at h5
  refine T_zald (j := Int32.ofInt j) (i := j.toNat) hd hp (by rw [tS_S]; exact hsh) (i32n h0 (by omega)) (by omega) (by omega) ?_
  rw [tS_M, Int.toNat_of_nonneg h0]
  exact kk h5.1 h5.2 hg hm hf hl (List.forall_mem_cons.mpr ⟨zOK_in hm _ _, (List.forall_mem_cons.mp (List.forall_mem_cons.mp hs).2).2⟩)
theorem Z_lald {a N : Nat} {j : Int} (hd : decode mt.2.1 pc = .ok (.laload, 1)) (hp : pc + 1 = n) (hsh : F.1 a = (4, N)) (hN : N < 2147483648) (h0 : 0 ≤ j) (h1 : j < (N : Int)) (kk : TZ G mt R cells slots K M0 J0 n L (vJ (J a j) :: st) F M J Z) : TZ G mt R cells slots K M0 J0 pc L (vI j :: vR a :: st) F M J Z := by
  intro hg hm hf hl hs
  refine T_lald (j := Int32.ofInt j) (i := j.toNat) hd hp (by rw [tS_S]; exact hsh) (i32n h0 (by omega)) (by omega) (by omega) ?_
  rw [tS_J, Int.toNat_of_nonneg h0]
  exact kk hg hm hf hl (List.forall_mem_cons.mpr ⟨trivial, (List.forall_mem_cons.mp (List.forall_mem_cons.mp hs).2).2⟩)
theorem Z_aald {a N r : Nat} {j : Int} (hd : decode mt.2.1 pc = .ok (.aaload, 1)) (hp : pc + 1 = n) (hsh : F.1 a = (5, N)) (hN : N < 2147483648) (h0 : 0 ≤ j) (h1 : j < (N : Int)) (hr : F.2.1 a j.toNat = some r) (kk : TZ G mt R cells slots K M0 J0 n L (vR r :: st) F M J Z) : TZ G mt R cells slots K M0 J0 pc L (vI j :: vR a :: st) F M J Z := by
  intro hg hm hf hl hs
  refine T_aald (j := Int32.ofInt j) (i := j.toNat) hd hp (by rw [tS_S]; exact hsh) (i32n h0 (by omega)) (by omega) (by omega) (by rw [tS_P, hr]; rfl) ?_
  exact kk hg hm hf hl (List.forall_mem_cons.mpr ⟨trivial, (List.forall_mem_cons.mp (List.forall_mem_cons.mp hs).2).2⟩)
theorem Z_ialdS1 {j : Int} (hd : decode mt.2.1 pc = .ok (.iaload, 1)) (hp : pc + 1 = n) (h0 : 0 ≤ j) (h1 : j < 11) (kk : 0 ≤ opF j → opF j ≤ 3 → TZ G mt R cells slots K M0 J0 n L (vI (opF j) :: st) F M J Z) : TZ G mt R cells slots K M0 J0 pc L (vI j :: vS 1 :: st) F M J Z := by
  intro hg hm hf hl hs
  have hq := hg.1
  refine T_ialdR (q := 1) (j := Int32.ofInt j) (i := j.toNat) hd hp (by decide) (i32n h0 (by omega)) (by omega) (by omega) ?_
  rw [hq.2 j.toNat (by omega), Int.toNat_of_nonneg h0]
  have h5 := opF_in j
  exact kk h5.1 h5.2 hg hm hf hl (List.forall_mem_cons.mpr ⟨(by show zI (opF j); omega), (List.forall_mem_cons.mp (List.forall_mem_cons.mp hs).2).2⟩)
theorem Z_ialdS2 {j : Int} (hd : decode mt.2.1 pc = .ok (.iaload, 1)) (hp : pc + 1 = n) (h0 : 0 ≤ j) (h1 : j < 11) (kk : 0 ≤ tabF j → tabF j ≤ 255 → TZ G mt R cells slots K M0 J0 n L (vI (tabF j) :: st) F M J Z) : TZ G mt R cells slots K M0 J0 pc L (vI j :: vS 2 :: st) F M J Z := by
  intro hg hm hf hl hs
  have hq := hg.2.1
  refine T_ialdR (q := 2) (j := Int32.ofInt j) (i := j.toNat) hd hp (by decide) (i32n h0 (by omega)) (by omega) (by omega) ?_
  rw [hq.2 j.toNat (by omega), Int.toNat_of_nonneg h0]
  have h5 := tabF_in j
  exact kk h5.1 h5.2 hg hm hf hl (List.forall_mem_cons.mpr ⟨(by show zI (tabF j); omega), (List.forall_mem_cons.mp (List.forall_mem_cons.mp hs).2).2⟩)
theorem Z_ialdS0 {j : Int} (hd : decode mt.2.1 pc = .ok (.iaload, 1)) (hp : pc + 1 = n) (h0 : 0 ≤ j) (h1 : j < ((gR G 0).2.1 : Int)) (kk : zI (scr G j) → TZ G mt R cells slots K M0 J0 n L (vI (scr G j) :: st) F M J Z) : TZ G mt R cells slots K M0 J0 pc L (vI j :: vS 0 :: st) F M J Z := by
  intro hg hm hf hl hs
  have hq := hg.2.2
  refine T_ialdR (q := 0) (j := Int32.ofInt j) (i := j.toNat) hd hp (by decide) (i32n h0 (by omega)) (by omega) (by omega) ?_
  have h1 := kk (zIof _) hg hm hf hl (List.forall_mem_cons.mpr ⟨zIof _, (List.forall_mem_cons.mp (List.forall_mem_cons.mp hs).2).2⟩)
  have h2 : cv G (vI (scr G j)) = .int ((gR G 0).2.2 j.toNat) := by simp only [cv, scr, Int32.ofInt_toInt]
  rw [List.map_cons, h2] at h1
  exact h1
theorem Z_alen {a N : Nat} (hd : decode mt.2.1 pc = .ok (.arraylength, 1)) (hp : pc + 1 = n) (hsh : F.1 a = (2, N)) (hN : N < 2147483648) (kk : TZ G mt R cells slots K M0 J0 n L (vI (N : Int) :: st) F M J Z) : TZ G mt R cells slots K M0 J0 pc L (vR a :: st) F M J Z := by
  intro hg hm hf hl hs
  refine T_alen hd hp (by rw [tS_S]; exact hsh) ?_
  have h1 := kk hg hm hf hl (List.forall_mem_cons.mpr ⟨(by show zI (N : Int); omega), (List.forall_mem_cons.mp hs).2⟩)
  have h2 : cv G (vI (N : Int)) = .int (nI N) := by
    show Value.int (Int32.ofInt (N : Int)) = _
    rw [i32n (by omega) (by omega)]
    rfl
  rw [List.map_cons, h2] at h1
  exact h1
theorem Z_alenS0 (hd : decode mt.2.1 pc = .ok (.arraylength, 1)) (hp : pc + 1 = n) (kk : TZ G mt R cells slots K M0 J0 n L (vI ((gR G 0).2.1 : Int) :: st) F M J Z) : TZ G mt R cells slots K M0 J0 pc L (vS 0 :: st) F M J Z := by
  intro hg hm hf hl hs
  have hN := hg.2.2
  refine T_alenR (q := 0) hd hp (by decide) ?_
  have h1 := kk hg hm hf hl (List.forall_mem_cons.mpr ⟨(by show zI ((gR G 0).2.1 : Int); omega), (List.forall_mem_cons.mp hs).2⟩)
  have h2 : cv G (vI ((gR G 0).2.1 : Int)) = .int (nI (gR G 0).2.1) := by
    show Value.int (Int32.ofInt ((gR G 0).2.1 : Int)) = _
    rw [i32n (by omega) (by omega)]
    rfl
  rw [List.map_cons, h2] at h1
  exact h1
theorem Z_gets {idx i : Nat} (hd : decode mt.2.1 pc = .ok (.getstatic idx, 3)) (hp : pc + 3 = n) (h1 : 1 ≤ i) (h2 : i < 3) (hw : Cond.fieldLink mt.1 idx (tl_sf i).1 (tl_sf i).2.1 (tl_sf i).2.2 ∈ tl_W) (kk : TZ G mt R cells slots K M0 J0 n L (vS i :: st) F M J Z) : TZ G mt R cells slots K M0 J0 pc L st F M J Z := fun hg hm hf hl hs => T_gets hd hp h1 h2 hw (kk hg hm hf hl (List.forall_mem_cons.mpr ⟨trivial, hs⟩))
theorem Z_getsN {idx i : Nat} (hd : decode mt.2.1 pc = .ok (.getstatic idx, 3)) (hp : pc + 3 = n) (h1 : 1 ≤ i) (h2 : i < 3) (hm0 : mt.1 = RX0) (hi : idx = tl_si i) (kk : TZ G mt R cells slots K M0 J0 n L (vS i :: st) F M J Z) : TZ G mt R cells slots K M0 J0 pc L st F M J Z := fun hg hm hf hl hs => T_getsN hd hp h1 h2 hm0 hi (kk hg hm hf hl (List.forall_mem_cons.mpr ⟨trivial, hs⟩))
theorem Z_iast {a N : Nat} {j x lo hi : Int} (hd : decode mt.2.1 pc = .ok (.iastore, 1)) (hp : pc + 1 = n) (hsh : F.1 a = (2, N)) (ht : zT a j = (lo, hi)) (hN : N < 2147483648) (h0 : 0 ≤ j) (h1 : j < (N : Int)) (h2 : lo ≤ x) (h3 : x ≤ hi) (hK : ¬ K a) (kk : TZ G mt R cells slots K M0 J0 n L st F (uz M a j x) J Z) : TZ G mt R cells slots K M0 J0 pc L (vI x :: vI j :: vR a :: st) F M J Z := by
  intro hg hm hf hl hs
  refine T_iast (j := Int32.ofInt j) (x := Int32.ofInt x) (i := j.toNat) hd hp (by rw [tS_S]; exact hsh) (i32n h0 (by omega)) (by omega) (by omega) ?_
  rw [tS_uM, Int.toNat_of_nonneg h0]
  exact kk hg (zOK_up hm ht h2 h3) (fr_st hK hf) hl (List.forall_mem_cons.mp (List.forall_mem_cons.mp (List.forall_mem_cons.mp hs).2).2).2
theorem Z_zast {a N : Nat} {j x : Int} (hd : decode mt.2.1 pc = .ok (.bastore, 1)) (hp : pc + 1 = n) (hsh : F.1 a = (3, N)) (ht : zT a j = (0, 1)) (hN : N < 2147483648) (h0 : 0 ≤ j) (h1 : j < (N : Int)) (h2 : 0 ≤ x) (h3 : x ≤ 1) (hK : ¬ K a) (kk : TZ G mt R cells slots K M0 J0 n L st F (uz M a j x) J Z) : TZ G mt R cells slots K M0 J0 pc L (vI x :: vI j :: vR a :: st) F M J Z := by
  intro hg hm hf hl hs
  refine T_zast (j := Int32.ofInt j) (x := Int32.ofInt x) (i := j.toNat) hd hp (by rw [tS_S]; exact hsh) (i32n h0 (by omega)) (by omega) (by omega) (by rcases (show x = 0 ∨ x = 1 by omega) with h | h <;> rw [h] <;> first | exact Or.inl rfl | exact Or.inr rfl) ?_
  rw [tS_uM, Int.toNat_of_nonneg h0]
  exact kk hg (zOK_up hm ht h2 h3) (fr_st hK hf) hl (List.forall_mem_cons.mp (List.forall_mem_cons.mp (List.forall_mem_cons.mp hs).2).2).2
theorem Z_last {a N : Nat} {j : Int} {x : Int64} (hd : decode mt.2.1 pc = .ok (.lastore, 1)) (hp : pc + 1 = n) (hsh : F.1 a = (4, N)) (hN : N < 2147483648) (h0 : 0 ≤ j) (h1 : j < (N : Int)) (hK : ¬ K a) (kk : TZ G mt R cells slots K M0 J0 n L st F M (uz J a j x) Z) : TZ G mt R cells slots K M0 J0 pc L (vJ x :: vI j :: vR a :: st) F M J Z := by
  intro hg hm hf hl hs
  refine T_last (j := Int32.ofInt j) (x := x) (i := j.toNat) hd hp (by rw [tS_S]; exact hsh) (i32n h0 (by omega)) (by omega) (by omega) ?_
  rw [tS_uJ, Int.toNat_of_nonneg h0]
  exact kk hg hm (fr_stJ hK hf) hl (List.forall_mem_cons.mp (List.forall_mem_cons.mp (List.forall_mem_cons.mp hs).2).2).2
theorem Z_tsw {x : Int} {d lo hi : Int} {offs : Array Int} {len td : Nat} (hd : decode mt.2.1 pc = .ok (.tableswitch d lo hi offs, len)) (hsz : offs.toList.length = (hi - lo + 1).toNat) (hpos : ∀ o ∈ offs.toList, 0 ≤ (pc : Int) + o) (ht : (pc : Int) + d = (td : Int)) (kin : zcases (fun o => ∀ t : Nat, (pc : Int) + o = (t : Int) → TZ G mt R cells slots K M0 J0 t L st F M J Z) x lo offs.toList) (kout : x < lo ∨ hi < x → TZ G mt R cells slots K M0 J0 td L st F M J Z) : TZ G mt R cells slots K M0 J0 pc L (vI x :: st) F M J Z := by
  by_cases h : lo ≤ x ∧ x ≤ hi
  · have hlt : (x - lo).toNat < offs.toList.length := by rw [hsz]; omega
    have ho : offs.toList[(x - lo).toNat]? = some (offs.toList[(x - lo).toNat]) := List.getElem?_eq_getElem hlt
    have hk := zcases_get kin h.1 ho
    intro hg hm hf hl hs
    have hx : (Int32.ofInt x).toInt = x := i32 (List.forall_mem_cons.mp hs).1
    have hn := hpos _ (List.mem_of_getElem? ho)
    exact Z_tin hd h.1 h.2 (by rw [← Array.getElem?_toList]; exact ho) (t := ((pc : Int) + offs.toList[(x - lo).toNat]).toNat) (by omega) (hk _ (by omega)) hg hm hf hl hs
  · exact Z_tout hd (by omega) ht (kout (by omega))
theorem Z_lsc {x d : Int} {ps : Array (Int × Int)} {len td : Nat} (hd : decode mt.2.1 pc = .ok (.lookupswitch d ps, len)) (hq : (ps.toList.zip (ps.toList.drop 1)).all (fun (a, next) => a.1 < next.1) = true) (hpos : ∀ p ∈ ps.toList, 0 ≤ (pc : Int) + p.2) (ht : (pc : Int) + d = (td : Int)) (kin : lcases (fun o => ∀ t : Nat, (pc : Int) + o = (t : Int) → TZ G mt R cells slots K M0 J0 t L st F M J Z) x ps.toList) (kout : (∀ p ∈ ps.toList, x ≠ p.1) → TZ G mt R cells slots K M0 J0 td L st F M J Z) : TZ G mt R cells slots K M0 J0 pc L (vI x :: st) F M J Z := by
  rcases lsw_cases d x ps.toList with ⟨p, h1, h2, h3⟩ | ⟨h1, h2⟩
  · have hn := hpos p h1
    exact Z_lsw hd hq h3 (t := ((pc : Int) + p.2).toNat) (by omega) (lcases_get kin h1 h2 _ (by omega))
  · exact Z_lsw hd hq h2 ht (kout h1)
end ZL
/-! contracts of methods that make no object -/
def zPost (G : tl_G) (K : Nat → Prop) (F : zF) (M : zM) (J : zJ) (Q : Option zV → zM → zJ → Prop) : Option Value → tl_S → Prop := fun v σ' => ∃ v' M' J', v = Option.map (cv G) v' ∧ σ' = tS G F M' J' ∧ (∀ u, v' = some u → vok u) ∧ zOK M' ∧ (∀ a, K a → M' a = M a ∧ J' a = J a) ∧ Q v' M' J'
def ZN (G : tl_G) (y : MethodName) (mt : tl_M) (d : Nat) (K : Nat → Prop) (av : List zV) (F : zF) (M : zM) (J : zJ) (Q : Option zV → zM → zJ → Prop) : Prop := gZ G → zOK M → (∀ v ∈ av, vok v) → CT G y mt d 0 0 (av.map (cv G)) (tS G F M J) (zPost G K F M J Q)
def qI (Q : Int → zM → zJ → Prop) : Option zV → zM → zJ → Prop := fun v M' J' => ∃ x, v = some (vI x) ∧ Q x M' J'
def qL (Q : Int64 → zM → zJ → Prop) : Option zV → zM → zJ → Prop := fun v M' J' => ∃ x, v = some (vJ x) ∧ Q x M' J'
def qV (Q : zM → zJ → Prop) : Option zV → zM → zJ → Prop := fun v M' J' => v = none ∧ Q M' J'
section ZC
variable {G : tl_G} {mt : tl_M} {R : Room} {cells slots pc n : Nat} {K : Nat → Prop} {M0 : zM} {J0 : zJ} {L L' : List (Option zV)} {st : List zV} {F : zF} {M : zM} {J : zJ} {Z : tl_Z}
theorem ZN_of {y : MethodName} {d : Nat} {K : Nat → Prop} {av : List zV} {Q : Option zV → zM → zJ → Prop} (hpl : plainName y.cls = true) (hy1 : y.cls = mt.1) (hy2 : y.name = mt.2.2.2.2) (hle : (lg_sl (av.map (cv G))).length ≤ mt.2.2.1) (hL : zargs av ++ List.replicate (mt.2.2.1 - (zargs av).length) none = L) (h : (∀ v ∈ av, vok v) → TZ G mt (tl_rm d 0 0) 0 0 K M J 0 L [] F M J (ZM G (zPost G K F M J Q) 0 0)) : ZN G y mt d K av F M J Q := by
  intro hg hm ha
  refine CT_of hpl hy1 hy2 hle ?_
  have h1 := h ha hg hm (fun a _ => ⟨rfl, rfl⟩) (fun v hv => ?_) (fun v hv => by cases hv)
  · rw [zargs_map, List.length_map]
    rw [← hL, List.map_append, List.map_replicate] at h1
    exact h1
  · rw [← hL] at hv
    rcases List.mem_append.mp hv with q | q
    · exact ha v (zargs_mem av v q)
    · have := List.eq_of_mem_replicate q
      cases this
theorem Z_iret {v : Int} {K : Nat → Prop} {M0 : zM} {J0 : zJ} {Q : Int → zM → zJ → Prop} (hd : decode mt.2.1 pc = .ok (.ireturn, 1)) (hr : mt.2.2.2.1 = some .int) (hQ : Q v M J) : TZ G mt R cells slots K M0 J0 pc L [vI v] F M J (ZM G (zPost G K F M0 J0 (qI Q)) cells slots) := by
  intro hg hm hf hl hs
  exact T_iret hd hr ⟨some (vI v), M, J, rfl, rfl, fun u hu => by cases hu; exact hs _ List.mem_cons_self, hm, hf, v, rfl, hQ⟩
theorem Z_zret {v : Int} {K : Nat → Prop} {M0 : zM} {J0 : zJ} {Q : Int → zM → zJ → Prop} (hd : decode mt.2.1 pc = .ok (.ireturn, 1)) (hr : mt.2.2.2.1 = some .boolean) (h0 : 0 ≤ v) (h1 : v ≤ 1) (hQ : Q v M J) : TZ G mt R cells slots K M0 J0 pc L [vI v] F M J (ZM G (zPost G K F M0 J0 (qI Q)) cells slots) := by
  intro hg hm hf hl hs
  exact T_zret hd hr (by rcases (show v = 0 ∨ v = 1 by omega) with h | h <;> rw [h] <;> first | exact Or.inl rfl | exact Or.inr rfl) ⟨some (vI v), M, J, rfl, rfl, fun u hu => by cases hu; exact hs _ List.mem_cons_self, hm, hf, v, rfl, hQ⟩
theorem Z_lret {v : Int64} {K : Nat → Prop} {M0 : zM} {J0 : zJ} {Q : Int64 → zM → zJ → Prop} (hd : decode mt.2.1 pc = .ok (.lreturn, 1)) (hr : mt.2.2.2.1 = some .long) (hQ : Q v M J) : TZ G mt R cells slots K M0 J0 pc L [vJ v] F M J (ZM G (zPost G K F M0 J0 (qL Q)) cells slots) := by
  intro hg hm hf hl hs
  exact T_lret hd hr ⟨some (vJ v), M, J, rfl, rfl, fun u hu => by cases hu; trivial, hm, hf, v, rfl, hQ⟩
theorem Z_vret {K : Nat → Prop} {M0 : zM} {J0 : zJ} {Q : zM → zJ → Prop} (hd : decode mt.2.1 pc = .ok (.return_, 1)) (hr : mt.2.2.2.1 = none) (hQ : Q M J) : TZ G mt R cells slots K M0 J0 pc L [] F M J (ZM G (zPost G K F M0 J0 (qV Q)) cells slots) := by
  intro hg hm hf hl hs
  exact T_vret hd hr ⟨none, M, J, rfl, rfl, (fun u hu => by cases hu), hm, hf, rfl, hQ⟩
theorem fr_after {K' : Nat → Prop} {M' : zM} {J' : zJ} (hKK : ∀ a, K a → K' a) (hf : ∀ a, K a → M a = M0 a ∧ J a = J0 a) (h : ∀ a, K' a → M' a = M a ∧ J' a = J a) : ∀ a, K a → M' a = M0 a ∧ J' a = J0 a := fun a ha => ⟨((h a (hKK a ha)).1).trans (hf a ha).1, ((h a (hKK a ha)).2).trans (hf a ha).2⟩
theorem zmap_st {As rest : List zV} {v : zV} : (As.reverse ++ v :: rest).map (cv G) = (As.map (cv G)).reverse ++ cv G v :: rest.map (cv G) := by rw [List.map_append, List.map_reverse, List.map_cons]
theorem zmap_st' {As rest : List zV} : (As.reverse ++ rest).map (cv G) = (As.map (cv G)).reverse ++ rest.map (cv G) := by rw [List.map_append, List.map_reverse]
theorem zok_args {As rest : List zV} (h : ∀ v ∈ As.reverse ++ rest, vok v) : (∀ v ∈ As, vok v) ∧ ∀ v ∈ rest, vok v := ⟨fun v hv => h v (List.mem_append_left _ (List.mem_reverse.mpr hv)), fun v hv => h v (List.mem_append_right _ hv)⟩
theorem Z_callVi {idx d ci b k : Nat} {y : MethodName} {mt' : tl_M} {K' : Nat → Prop} {stk : List zV} {Q' : Int → zM → zJ → Prop} (As rest : List zV) (hd : decode mt.2.1 pc = .ok (.invokevirtual idx, 3)) (hp : pc + 3 = n) (hw : tl_VW mt.1 idx y mt' k ci) (hk : As.length = k) (hst : stk = As.reverse ++ vR b :: rest) (hsh : F.1 b = (1, ci)) (hcat : ((rest.map (cv G)).map fun v => v.category).sum ≤ 8) (hR : d + 1 ≤ R.frames ∧ 8 + (mt'.2.2.1 + 11) + 40 * d ≤ R.locals ∧ cells + 0 ≤ R.cells ∧ slots + 0 ≤ R.slots) (hKK : ∀ a, K a → K' a) (hc : ZN G y mt' d K' (vR b :: As) F M J (qI Q')) (kk : ∀ (x : Int) (M' : zM) (J' : zJ), zI x → (∀ a, K' a → M' a = M a ∧ J' a = J a) → Q' x M' J' → TZ G mt R cells slots K M0 J0 n L (vI x :: rest) F M' J' Z) : TZ G mt R cells slots K M0 J0 pc L stk F M J Z := by
  intro hg hm hf hl hs
  subst hst
  have h1 := zok_args (rest := vR b :: rest) hs
  have h2 := (List.forall_mem_cons.mp h1.2).2
  refine T_callV (As := As.map (cv G)) (rest := rest.map (cv G)) hd hp hw (by rw [List.length_map]; exact hk) zmap_st (by rw [tS_S]; exact hsh) hcat hR (hc hg hm (List.forall_mem_cons.mpr ⟨trivial, h1.1⟩)) ?_
  rintro v σ' ⟨v', M', J', rfl, rfl, hv, hm', hf', x, rfl, hQ⟩
  exact kk x M' J' (hv _ rfl) hf' hQ hg hm' (fr_after hKK hf hf') hl (List.forall_mem_cons.mpr ⟨hv _ rfl, h2⟩)
theorem Z_callSi {idx d k : Nat} {y : MethodName} {mt' : tl_M} {K' : Nat → Prop} {stk : List zV} {Q' : Int → zM → zJ → Prop} (As rest : List zV) (hd : decode mt.2.1 pc = .ok (.invokestatic idx, 3)) (hp : pc + 3 = n) (hw : tl_CW mt.1 idx y mt' k ∧ Cond.static y ∈ tl_W) (hk : As.length = k) (hst : stk = As.reverse ++ rest) (hcat : ((rest.map (cv G)).map fun v => v.category).sum ≤ 8) (hR : d + 1 ≤ R.frames ∧ 8 + (mt'.2.2.1 + 11) + 40 * d ≤ R.locals ∧ cells + 0 ≤ R.cells ∧ slots + 0 ≤ R.slots) (hKK : ∀ a, K a → K' a) (hc : ZN G y mt' d K' As F M J (qI Q')) (kk : ∀ (x : Int) (M' : zM) (J' : zJ), zI x → (∀ a, K' a → M' a = M a ∧ J' a = J a) → Q' x M' J' → TZ G mt R cells slots K M0 J0 n L (vI x :: rest) F M' J' Z) : TZ G mt R cells slots K M0 J0 pc L stk F M J Z := by
  intro hg hm hf hl hs
  subst hst
  have h1 := zok_args hs
  have h2 := h1.2
  refine T_callS (As := As.map (cv G)) (rest := rest.map (cv G)) hd hp hw (by rw [List.length_map]; exact hk) zmap_st' hcat hR (hc hg hm h1.1) ?_
  rintro v σ' ⟨v', M', J', rfl, rfl, hv, hm', hf', x, rfl, hQ⟩
  exact kk x M' J' (hv _ rfl) hf' hQ hg hm' (fr_after hKK hf hf') hl (List.forall_mem_cons.mpr ⟨hv _ rfl, h2⟩)
theorem Z_callVl {idx d ci b k : Nat} {y : MethodName} {mt' : tl_M} {K' : Nat → Prop} {stk : List zV} {Q' : Int64 → zM → zJ → Prop} (As rest : List zV) (hd : decode mt.2.1 pc = .ok (.invokevirtual idx, 3)) (hp : pc + 3 = n) (hw : tl_VW mt.1 idx y mt' k ci) (hk : As.length = k) (hst : stk = As.reverse ++ vR b :: rest) (hsh : F.1 b = (1, ci)) (hcat : ((rest.map (cv G)).map fun v => v.category).sum ≤ 8) (hR : d + 1 ≤ R.frames ∧ 8 + (mt'.2.2.1 + 11) + 40 * d ≤ R.locals ∧ cells + 0 ≤ R.cells ∧ slots + 0 ≤ R.slots) (hKK : ∀ a, K a → K' a) (hc : ZN G y mt' d K' (vR b :: As) F M J (qL Q')) (kk : ∀ (x : Int64) (M' : zM) (J' : zJ), (∀ a, K' a → M' a = M a ∧ J' a = J a) → Q' x M' J' → TZ G mt R cells slots K M0 J0 n L (vJ x :: rest) F M' J' Z) : TZ G mt R cells slots K M0 J0 pc L stk F M J Z := by
  intro hg hm hf hl hs
  subst hst
  have h1 := zok_args (rest := vR b :: rest) hs
  have h2 := (List.forall_mem_cons.mp h1.2).2
  refine T_callV (As := As.map (cv G)) (rest := rest.map (cv G)) hd hp hw (by rw [List.length_map]; exact hk) zmap_st (by rw [tS_S]; exact hsh) hcat hR (hc hg hm (List.forall_mem_cons.mpr ⟨trivial, h1.1⟩)) ?_
  rintro v σ' ⟨v', M', J', rfl, rfl, hv, hm', hf', x, rfl, hQ⟩
  exact kk x M' J' hf' hQ hg hm' (fr_after hKK hf hf') hl (List.forall_mem_cons.mpr ⟨trivial, h2⟩)
theorem Z_callSl {idx d k : Nat} {y : MethodName} {mt' : tl_M} {K' : Nat → Prop} {stk : List zV} {Q' : Int64 → zM → zJ → Prop} (As rest : List zV) (hd : decode mt.2.1 pc = .ok (.invokestatic idx, 3)) (hp : pc + 3 = n) (hw : tl_CW mt.1 idx y mt' k ∧ Cond.static y ∈ tl_W) (hk : As.length = k) (hst : stk = As.reverse ++ rest) (hcat : ((rest.map (cv G)).map fun v => v.category).sum ≤ 8) (hR : d + 1 ≤ R.frames ∧ 8 + (mt'.2.2.1 + 11) + 40 * d ≤ R.locals ∧ cells + 0 ≤ R.cells ∧ slots + 0 ≤ R.slots) (hKK : ∀ a, K a → K' a) (hc : ZN G y mt' d K' As F M J (qL Q')) (kk : ∀ (x : Int64) (M' : zM) (J' : zJ), (∀ a, K' a → M' a = M a ∧ J' a = J a) → Q' x M' J' → TZ G mt R cells slots K M0 J0 n L (vJ x :: rest) F M' J' Z) : TZ G mt R cells slots K M0 J0 pc L stk F M J Z := by
  intro hg hm hf hl hs
  subst hst
  have h1 := zok_args hs
  have h2 := h1.2
  refine T_callS (As := As.map (cv G)) (rest := rest.map (cv G)) hd hp hw (by rw [List.length_map]; exact hk) zmap_st' hcat hR (hc hg hm h1.1) ?_
  rintro v σ' ⟨v', M', J', rfl, rfl, hv, hm', hf', x, rfl, hQ⟩
  exact kk x M' J' hf' hQ hg hm' (fr_after hKK hf hf') hl (List.forall_mem_cons.mpr ⟨trivial, h2⟩)
theorem Z_callVv {idx d ci b k : Nat} {y : MethodName} {mt' : tl_M} {K' : Nat → Prop} {stk : List zV} {Q' : zM → zJ → Prop} (As rest : List zV) (hd : decode mt.2.1 pc = .ok (.invokevirtual idx, 3)) (hp : pc + 3 = n) (hw : tl_VW mt.1 idx y mt' k ci) (hk : As.length = k) (hst : stk = As.reverse ++ vR b :: rest) (hsh : F.1 b = (1, ci)) (hcat : ((rest.map (cv G)).map fun v => v.category).sum ≤ 8) (hR : d + 1 ≤ R.frames ∧ 8 + (mt'.2.2.1 + 11) + 40 * d ≤ R.locals ∧ cells + 0 ≤ R.cells ∧ slots + 0 ≤ R.slots) (hKK : ∀ a, K a → K' a) (hc : ZN G y mt' d K' (vR b :: As) F M J (qV Q')) (kk : ∀ (M' : zM) (J' : zJ), (∀ a, K' a → M' a = M a ∧ J' a = J a) → Q' M' J' → TZ G mt R cells slots K M0 J0 n L rest F M' J' Z) : TZ G mt R cells slots K M0 J0 pc L stk F M J Z := by
  intro hg hm hf hl hs
  subst hst
  have h1 := zok_args (rest := vR b :: rest) hs
  have h2 := (List.forall_mem_cons.mp h1.2).2
  refine T_callV (As := As.map (cv G)) (rest := rest.map (cv G)) hd hp hw (by rw [List.length_map]; exact hk) zmap_st (by rw [tS_S]; exact hsh) hcat hR (hc hg hm (List.forall_mem_cons.mpr ⟨trivial, h1.1⟩)) ?_
  rintro v σ' ⟨v', M', J', rfl, rfl, hv, hm', hf', rfl, hQ⟩
  exact kk M' J' hf' hQ hg hm' (fr_after hKK hf hf') hl h2
theorem Z_callSv {idx d k : Nat} {y : MethodName} {mt' : tl_M} {K' : Nat → Prop} {stk : List zV} {Q' : zM → zJ → Prop} (As rest : List zV) (hd : decode mt.2.1 pc = .ok (.invokestatic idx, 3)) (hp : pc + 3 = n) (hw : tl_CW mt.1 idx y mt' k ∧ Cond.static y ∈ tl_W) (hk : As.length = k) (hst : stk = As.reverse ++ rest) (hcat : ((rest.map (cv G)).map fun v => v.category).sum ≤ 8) (hR : d + 1 ≤ R.frames ∧ 8 + (mt'.2.2.1 + 11) + 40 * d ≤ R.locals ∧ cells + 0 ≤ R.cells ∧ slots + 0 ≤ R.slots) (hKK : ∀ a, K a → K' a) (hc : ZN G y mt' d K' As F M J (qV Q')) (kk : ∀ (M' : zM) (J' : zJ), (∀ a, K' a → M' a = M a ∧ J' a = J a) → Q' M' J' → TZ G mt R cells slots K M0 J0 n L rest F M' J' Z) : TZ G mt R cells slots K M0 J0 pc L stk F M J Z := by
  intro hg hm hf hl hs
  subst hst
  have h1 := zok_args hs
  have h2 := h1.2
  refine T_callS (As := As.map (cv G)) (rest := rest.map (cv G)) hd hp hw (by rw [List.length_map]; exact hk) zmap_st' hcat hR (hc hg hm h1.1) ?_
  rintro v σ' ⟨v', M', J', rfl, rfl, hv, hm', hf', rfl, hQ⟩
  exact kk M' J' hf' hQ hg hm' (fr_after hKK hf hf') hl h2
end ZC
