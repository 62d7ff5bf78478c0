/-! ===== T-LAYER: memory ===== -/
section TM
variable {G : tl_G} {mt : tl_M} {R : Room} {cells slots pc n : Nat} {L : List (Option Value)} {st : List Value} {σ : tl_S} {Z : tl_Z}
/-- a field's link: pool entry idx of class own is field k of class number ci, of type ty, final or not -/
def tl_FF (own : String) (idx ci k : Nat) (ty : FieldType) (fin : Bool) : Prop := ∃ (C : String) (T : u_T) (N : Nat), tl_cl[ci]? = some (C, T, N) ∧ k < N ∧ (∀ w ∈ u_ws C T N, w ∈ tl_W) ∧ Cond.fieldLink own idx (T k).1 (T k).2.1 (T k).2.2.1 ∈ tl_W ∧ (∀ j, j < N → parseFieldDescriptor (T j).2.2.1 = some (tl_ty ci j)) ∧ (∀ a, a < N → ∀ b, b < N → a ≠ b → (T a).2.1 ≠ (T b).2.1) ∧ tl_ty ci k = ty ∧ (T k).2.2.2 = fin ∧ (fin = true → (T k).1 = own)
theorem tl_own {H : Heap} {a : Nat} (h : tl_H G σ H) (hs : (sS σ a).1 ≠ 0) : gB G ≤ a := Nat.not_lt.mp fun q => hs (h.2.2.2.1 a q)
theorem tl_H_upd {σ' : tl_S} {H H' : Heap} {a : Nat} (h : tl_H G σ H) (hz : H'.size = H.size) (ho : ∀ q, q ≠ a → H'[q]? = H[q]?) (hB : gB G ≤ a) (hS : sS σ' = sS σ) (hZ : sZ σ' = sZ σ) (hM : ∀ b, b ≠ a → sM σ' b = sM σ b) (hJ : ∀ b, b ≠ a → sJ σ' b = sJ σ b) (hP : ∀ b, b ≠ a → sP σ' b = sP σ b) (hc : tl_cell G σ' a H') : tl_H G σ' H' := by
  obtain ⟨h1, h2, h3, h4, h5⟩ := h
  refine ⟨by rw [hz, hZ]; exact h1, by rw [hZ]; exact h2, fun q hq => (ho q (by omega)).trans (h3 q hq), fun b hb => by rw [hS]; exact h4 b hb, fun b => ?_⟩
  by_cases hb : b = a
  · subst hb; exact hc
  · have h6 := h5 b
    unfold tl_cell at h6 ⊢
    rw [hS, hM b hb, hJ b hb, hP b hb]
    exact tl_at_kept h6 (ho b hb)
/-- a new cell at the heap's end -/
theorem tl_H_new {σ' : tl_S} {H H' : Heap} {t0 n0 : Nat} (h : tl_H G σ H) (hz : H'.size = sZ σ + 1) (ho : ∀ q, q < sZ σ → H'[q]? = H[q]?) (hS : sS σ' = up1 (sS σ) (sZ σ) (t0, n0)) (hZ : sZ σ' = sZ σ + 1) (hM : ∀ b, b ≠ sZ σ → sM σ' b = sM σ b) (hJ : ∀ b, b ≠ sZ σ → sJ σ' b = sJ σ b) (hP : ∀ b, b ≠ sZ σ → sP σ' b = sP σ b) (hc : tl_at G t0 n0 (sZ σ) (sM σ' (sZ σ)) (sJ σ' (sZ σ)) (sP σ' (sZ σ)) H') : tl_H G σ' H' := by
  obtain ⟨h1, h2, h3, h4, h5⟩ := h
  refine ⟨by rw [hz, hZ], by rw [hZ]; omega, fun q hq => (ho q (by omega)).trans (h3 q hq), fun b hb => by rw [hS, up1_o (by omega)]; exact h4 b hb, fun b => ?_⟩
  by_cases hb : b = sZ σ
  · subst hb
    unfold tl_cell
    rw [hS, up1_s]
    exact hc
  · have h6 := h5 b
    unfold tl_cell at h6 ⊢
    rw [hS, up1_o hb, hM b hb, hJ b hb, hP b hb]
    by_cases ht : (sS σ b).1 = 0
    · rw [ht]; trivial
    · have h7 := tl_at_lt h6 ht
      exact tl_at_kept h6 (ho b (by omega))
theorem T_get {idx ci k a : Nat} {ty : FieldType} {fin : Bool} (hd : decode mt.2.1 pc = .ok (.getfield idx, 3)) (hp : pc + 3 = n) (hf : tl_FF mt.1 idx ci k ty fin) (hs : sS σ a = (1, ci)) (kk : TW G mt R cells slots n L (tl_fv ty (sM σ a k) (sJ σ a k) (sP σ a k) :: st) σ Z) : TW G mt R cells slots pc L (.ref a :: st) σ Z := by
  subst hp
  intro p e s m args below meth c H locs ls hC hH hlo hl
  obtain ⟨hx, hb, -, -, -, -, hown, hts, hK⟩ := id hC
  obtain ⟨C, T, N, hc, hk, hin, hlink, hty, hnm, hty1, -, -⟩ := hf
  have hcell := hH.2.2.2.2 a
  unfold tl_cell at hcell
  rw [hs] at hcell
  obtain ⟨q, hq, cell, q1, q2, q3, q4⟩ := hcell
  cases hc.symm.trans hq
  obtain ⟨hS, hfc, kC, hkC, hkind⟩ := hK.1.1 ci _ hc
  obtain ⟨cf, kf, fi, f, hi, hsl⟩ := hS k hk
  refine W.getf hx hb hown (hts _ hlink) hi (u_facts hfc hkC (u_lays hts hin hk) hi).1 q1 (by rw [q3]; exact fun h => by cases h) (v := tl_fv ty (sM σ a k) (sJ σ a k) (sP σ a k)) ?_ rfl rfl hd (kk p e s m args below meth c H locs ls hC hH hlo hl)
  rw [hsl, q4 k hk]
  show some (tl_fv (tl_ty ci k) _ _ _) = _
  rw [hty1]
theorem T_getI {idx ci k a : Nat} {fin : Bool} (hd : decode mt.2.1 pc = .ok (.getfield idx, 3)) (hp : pc + 3 = n) (hf : tl_FF mt.1 idx ci k .int fin) (hs : sS σ a = (1, ci)) (kk : TW G mt R cells slots n L (.int (sM σ a k) :: st) σ Z) : TW G mt R cells slots pc L (.ref a :: st) σ Z := T_get hd hp hf hs kk
theorem T_getZ {idx ci k a : Nat} {fin : Bool} (hd : decode mt.2.1 pc = .ok (.getfield idx, 3)) (hp : pc + 3 = n) (hf : tl_FF mt.1 idx ci k .boolean fin) (hs : sS σ a = (1, ci)) (kk : TW G mt R cells slots n L (.int (sM σ a k) :: st) σ Z) : TW G mt R cells slots pc L (.ref a :: st) σ Z := T_get hd hp hf hs kk
theorem T_getJ {idx ci k a : Nat} {fin : Bool} (hd : decode mt.2.1 pc = .ok (.getfield idx, 3)) (hp : pc + 3 = n) (hf : tl_FF mt.1 idx ci k .long fin) (hs : sS σ a = (1, ci)) (kk : TW G mt R cells slots n L (.long (sJ σ a k) :: st) σ Z) : TW G mt R cells slots pc L (.ref a :: st) σ Z := T_get hd hp hf hs kk
theorem T_getA {idx ci k a r : Nat} {t : FieldType} {fin : Bool} (hd : decode mt.2.1 pc = .ok (.getfield idx, 3)) (hp : pc + 3 = n) (hf : tl_FF mt.1 idx ci k (.array t) fin) (hs : sS σ a = (1, ci)) (hr : sP σ a k = some r) (kk : TW G mt R cells slots n L (.ref r :: st) σ Z) : TW G mt R cells slots pc L (.ref a :: st) σ Z := T_get hd hp hf hs (by rw [hr]; exact kk)
theorem T_getO {idx ci k a r : Nat} {t : String} {fin : Bool} (hd : decode mt.2.1 pc = .ok (.getfield idx, 3)) (hp : pc + 3 = n) (hf : tl_FF mt.1 idx ci k (.object t) fin) (hs : sS σ a = (1, ci)) (hr : sP σ a k = some r) (kk : TW G mt R cells slots n L (.ref r :: st) σ Z) : TW G mt R cells slots pc L (.ref a :: st) σ Z := T_get hd hp hf hs (by rw [hr]; exact kk)
/-- putfield: the new state holds v there, and differs at a alone -/
theorem T_put {idx ci k a : Nat} {ty : FieldType} {fin : Bool} {v : Value} {σ' : tl_S} (hd : decode mt.2.1 pc = .ok (.putfield idx, 3)) (hp : pc + 3 = n) (hf : tl_FF mt.1 idx ci k ty fin) (hfi : fin = true → mt.2.2.2.2 = "<init>") (hs : sS σ a = (1, ci)) (hn : narrow ty v = v) (hfit : fits ty v = true) (hS' : sS σ' = sS σ) (hZ' : sZ σ' = sZ σ) (hM' : ∀ b, b ≠ a → sM σ' b = sM σ b) (hJ' : ∀ b, b ≠ a → sJ σ' b = sJ σ b) (hP' : ∀ b, b ≠ a → sP σ' b = sP σ b) (hv : tl_fv ty (sM σ' a k) (sJ σ' a k) (sP σ' a k) = v) (hv2 : ∀ j, j ≠ k → sM σ' a j = sM σ a j ∧ sJ σ' a j = sJ σ a j ∧ sP σ' a j = sP σ a j) (kk : TW G mt R cells slots n L st σ' Z) : TW G mt R cells slots pc L (v :: .ref a :: st) σ Z := by
  subst hp
  intro p e s m args below meth c H locs ls hC hH hlo hl
  obtain ⟨hx, hb, -, -, -, hname, hown, hts, hK⟩ := id hC
  obtain ⟨C, T, N, hc, hk, hin, hlink, hty, hnm, hty1, hfin, hdecl⟩ := hf
  have hcell := hH.2.2.2.2 a
  unfold tl_cell at hcell
  rw [hs] at hcell
  obtain ⟨q, hq, cell, q1, q2, q3, q4⟩ := hcell
  cases hc.symm.trans hq
  obtain ⟨hS, hfc, kC, hkC, hkind⟩ := hK.1.1 ci _ hc
  obtain ⟨cf, kf, fi, f, hi, hsl⟩ := hS k hk
  have hap : ∀ x y, x < N → y < N → x ≠ y → ((gD G).2 ci) x ≠ ((gD G).2 ci) y := va_apart (own := mt.1) (D := gD G) (cl := tl_cl) (tys := tl_tys G) hts hin (tl_ty ci) hty hnm hK.1 hc
  have hst := (u_facts hfc hkC (u_lays hts hin hk) hi).1
  have hdk : parseFieldDescriptor (T k).2.2.1 = some ty := by rw [hty k hk, hty1]
  have hown' : gB G ≤ a := tl_own hH (by rw [hs]; simp)
  have fini : ∀ (H' : Heap), H'[a]? = some (cell.setSlot f.slot v) → H'.size = H.size → (∀ q, q ≠ a → H'[q]? = H[q]?) → W p (gL G) e R s m args below meth c H' (locs ++ [⟨a, f.slot⟩]) cells slots (Z below args s) (F0 m (pc + 3) ls st) := by
    intro H' e1 e2 e3
    refine kk p e s m args below meth c H' _ ls hC ?_ ?_ hl
    · refine tl_H_upd hH e2 e3 hown' hS' hZ' hM' hJ' hP' ?_
      unfold tl_cell
      rw [hS', hs]
      refine ⟨(C, T, N), hc, cell.setSlot f.slot v, e1, q2, q3, fun j hj => ?_⟩
      rw [hsl]
      have h8 := t_set q4 hap hk v j hj
      rw [h8]
      by_cases hjk : j = k
      · subst hjk
        simp only [updV, if_true]
        rw [hty1, hv]
      · simp only [updV, if_neg hjk]
        obtain ⟨z1, z2, z3⟩ := hv2 j hjk
        rw [z1, z2, z3]
    · intro q hq
      rcases List.mem_append.mp hq with h9 | h9
      · exact hlo q h9
      · rw [List.mem_singleton.mp h9]
        exact hown'
  have hlay := hts _ (hin _ (u_in_lay hk))
  unfold u_lay at hlay
  cases fin with
  | false =>
    rw [if_neg (by rw [hfin]; decide)] at hlay
    have h6 := u_store hfc hkC hkind hlay hi hdk hn hfit
    exact W.putK hx hb (f := f) ⟨hown, hts _ hlink, ⟨_, _, _, hi⟩, hst⟩ (by rw [q2]; exact h6) q1 q3 (by rw [hsl]; exact k2_hasslot (q4 k hk)) rfl rfl hd fini
  | true =>
    rw [if_pos hfin] at hlay
    have hcf : m.cls = cf := by
      obtain ⟨_, _, c', _, _, _, -, -, hf', -, -, -, hown2, -⟩ := Cond.laysFinal_spec hlay
      have e1 : c' = cf := by have := hi.symm.trans hf'; simp at this; exact this.1.symm
      rw [hdecl rfl] at hown2
      rw [← e1]; exact Option.some.inj (hown.symm.trans hown2)
    have h6 := u_fits hfc hkC hkind (Or.inr hlay) hi hdk hn hfit
    exact W.putFinK hx hb hown (hts _ hlink) hi hst hcf (hname.trans (hfi rfl)) (by rw [q2]; exact h6) q1 q3 (by rw [hsl]; exact k2_hasslot (q4 k hk)) rfl rfl hd fini
theorem T_putI {idx ci k a : Nat} {fin : Bool} {x : Int32} (hd : decode mt.2.1 pc = .ok (.putfield idx, 3)) (hp : pc + 3 = n) (hf : tl_FF mt.1 idx ci k .int fin) (hfi : fin = true → mt.2.2.2.2 = "<init>") (hs : sS σ a = (1, ci)) (kk : TW G mt R cells slots n L st (sS σ, up2 (sM σ) a k x, sJ σ, sP σ, sZ σ) Z) : TW G mt R cells slots pc L (.int x :: .ref a :: st) σ Z :=
  T_put (σ' := (sS σ, up2 (sM σ) a k x, sJ σ, sP σ, sZ σ)) hd hp hf hfi hs rfl rfl rfl rfl (fun b hb => up2_o hb) (fun _ _ => rfl) (fun _ _ => rfl) (by show Value.int (up2 (sM σ) a k x a k) = _; rw [up2_s]) (fun j hj => ⟨up2_n hj, rfl, rfl⟩) kk
theorem T_putZ {idx ci k a : Nat} {fin : Bool} {x : Int32} (hd : decode mt.2.1 pc = .ok (.putfield idx, 3)) (hp : pc + 3 = n) (hf : tl_FF mt.1 idx ci k .boolean fin) (hfi : fin = true → mt.2.2.2.2 = "<init>") (hs : sS σ a = (1, ci)) (hx : x = 0 ∨ x = 1) (kk : TW G mt R cells slots n L st (sS σ, up2 (sM σ) a k x, sJ σ, sP σ, sZ σ) Z) : TW G mt R cells slots pc L (.int x :: .ref a :: st) σ Z :=
  T_put (σ' := (sS σ, up2 (sM σ) a k x, sJ σ, sP σ, sZ σ)) hd hp hf hfi hs (by rcases hx with rfl | rfl <;> rfl) (by rcases hx with rfl | rfl <;> rfl) rfl rfl (fun b hb => up2_o hb) (fun _ _ => rfl) (fun _ _ => rfl) (by show Value.int (up2 (sM σ) a k x a k) = _; rw [up2_s]) (fun j hj => ⟨up2_n hj, rfl, rfl⟩) kk
theorem T_putJ {idx ci k a : Nat} {fin : Bool} {x : Int64} (hd : decode mt.2.1 pc = .ok (.putfield idx, 3)) (hp : pc + 3 = n) (hf : tl_FF mt.1 idx ci k .long fin) (hfi : fin = true → mt.2.2.2.2 = "<init>") (hs : sS σ a = (1, ci)) (kk : TW G mt R cells slots n L st (sS σ, sM σ, up2 (sJ σ) a k x, sP σ, sZ σ) Z) : TW G mt R cells slots pc L (.long x :: .ref a :: st) σ Z :=
  T_put (σ' := (sS σ, sM σ, up2 (sJ σ) a k x, sP σ, sZ σ)) hd hp hf hfi hs rfl rfl rfl rfl (fun _ _ => rfl) (fun b hb => up2_o hb) (fun _ _ => rfl) (by show Value.long (up2 (sJ σ) a k x a k) = _; rw [up2_s]) (fun j hj => ⟨rfl, up2_n hj, rfl⟩) kk
theorem T_putA {idx ci k a x : Nat} {t : FieldType} {fin : Bool} (hd : decode mt.2.1 pc = .ok (.putfield idx, 3)) (hp : pc + 3 = n) (hf : tl_FF mt.1 idx ci k (.array t) fin) (hfi : fin = true → mt.2.2.2.2 = "<init>") (hs : sS σ a = (1, ci)) (kk : TW G mt R cells slots n L st (sS σ, sM σ, sJ σ, up2 (sP σ) a k (some x), sZ σ) Z) : TW G mt R cells slots pc L (.ref x :: .ref a :: st) σ Z :=
  T_put (σ' := (sS σ, sM σ, sJ σ, up2 (sP σ) a k (some x), sZ σ)) hd hp hf hfi hs rfl rfl rfl rfl (fun _ _ => rfl) (fun _ _ => rfl) (fun b hb => up2_o hb) (by show va_rf (up2 (sP σ) a k (some x) a k) = _; rw [up2_s]; rfl) (fun j hj => ⟨rfl, rfl, up2_n hj⟩) kk
theorem T_putO {idx ci k a x : Nat} {t : String} {fin : Bool} (hd : decode mt.2.1 pc = .ok (.putfield idx, 3)) (hp : pc + 3 = n) (hf : tl_FF mt.1 idx ci k (.object t) fin) (hfi : fin = true → mt.2.2.2.2 = "<init>") (hs : sS σ a = (1, ci)) (kk : TW G mt R cells slots n L st (sS σ, sM σ, sJ σ, up2 (sP σ) a k (some x), sZ σ) Z) : TW G mt R cells slots pc L (.ref x :: .ref a :: st) σ Z :=
  T_put (σ' := (sS σ, sM σ, sJ σ, up2 (sP σ) a k (some x), sZ σ)) hd hp hf hfi hs rfl rfl rfl rfl (fun _ _ => rfl) (fun _ _ => rfl) (fun b hb => up2_o hb) (by show va_rf (up2 (sP σ) a k (some x) a k) = _; rw [up2_s]; rfl) (fun j hj => ⟨rfl, rfl, up2_n hj⟩) kk
theorem tl_in {i N : Nat} (hi : i < N) (hN : N < 2 ^ 31) : ¬ (nI i < 0 ∨ N ≤ (nI i).toNatClampNeg) := nI_in hi hN
/-- array reads and stores, by a number i below the length -/
theorem T_iald {j : Int32} {a N i : Nat} (hd : decode mt.2.1 pc = .ok (.iaload, 1)) (hp : pc + 1 = n) (hs : sS σ a = (2, N)) (hj : j = nI i) (hi : i < N) (hN : N < 2 ^ 31) (kk : TW G mt R cells slots n L (.int (sM σ a i) :: st) σ Z) : TW G mt R cells slots pc L (.int j :: .ref a :: st) σ Z := by
  subst hp; subst hj
  intro p e s m args below meth c H locs ls hC hH hlo hl
  have hcell := hH.2.2.2.2 a
  unfold tl_cell at hcell
  rw [hs] at hcell
  have hK := hC.2.2.2.2.2.2.2.2
  refine W.iald (v := .int (sM σ a i)) hC.1 hC.2.1 hcell ((hK.1.2 0 (gA G 0, .int) rfl).1 N (fun j => .int (sM σ a j))) (fun q => by cases q) (by rw [arrV_size]; exact tl_in hi hN) (by rw [nI_clamp (by omega), arrV_read _ _ hi]) rfl rfl hd (kk p e s m args below meth c H locs ls hC hH hlo hl)
theorem T_zald {j : Int32} {a N i : Nat} (hd : decode mt.2.1 pc = .ok (.baload, 1)) (hp : pc + 1 = n) (hs : sS σ a = (3, N)) (hj : j = nI i) (hi : i < N) (hN : N < 2 ^ 31) (kk : TW G mt R cells slots n L (.int (sM σ a i) :: st) σ Z) : TW G mt R cells slots pc L (.int j :: .ref a :: st) σ Z := by
  subst hp; subst hj
  intro p e s m args below meth c H locs ls hC hH hlo hl
  have hcell := hH.2.2.2.2 a
  unfold tl_cell at hcell
  rw [hs] at hcell
  have hK := hC.2.2.2.2.2.2.2.2
  refine W.zald (v := .int (sM σ a i)) hC.1 hC.2.1 hcell ((hK.1.2 1 (gA G 1, .boolean) rfl).1 N (fun j => .int (sM σ a j))) (fun q => by cases q) (by rw [arrV_size]; exact tl_in hi hN) (by rw [nI_clamp (by omega), arrV_read _ _ hi]) rfl rfl hd (kk p e s m args below meth c H locs ls hC hH hlo hl)
theorem T_lald {j : Int32} {a N i : Nat} (hd : decode mt.2.1 pc = .ok (.laload, 1)) (hp : pc + 1 = n) (hs : sS σ a = (4, N)) (hj : j = nI i) (hi : i < N) (hN : N < 2 ^ 31) (kk : TW G mt R cells slots n L (.long (sJ σ a i) :: st) σ Z) : TW G mt R cells slots pc L (.int j :: .ref a :: st) σ Z := by
  subst hp; subst hj
  intro p e s m args below meth c H locs ls hC hH hlo hl
  have hcell := hH.2.2.2.2 a
  unfold tl_cell at hcell
  rw [hs] at hcell
  have hK := hC.2.2.2.2.2.2.2.2
  refine W.lald (v := .long (sJ σ a i)) hC.1 hC.2.1 hcell ((hK.1.2 2 (gA G 2, .long) rfl).1 N (fun j => .long (sJ σ a j))) (fun q => by cases q) (by rw [arrV_size]; exact tl_in hi hN) (by rw [nI_clamp (by omega), arrV_read _ _ hi]) rfl rfl hd (kk p e s m args below meth c H locs ls hC hH hlo hl)
theorem T_aald {j : Int32} {a N i r : Nat} (hd : decode mt.2.1 pc = .ok (.aaload, 1)) (hp : pc + 1 = n) (hs : sS σ a = (5, N)) (hj : j = nI i) (hi : i < N) (hN : N < 2 ^ 31) (hr : sP σ a i = some r) (kk : TW G mt R cells slots n L (.ref r :: st) σ Z) : TW G mt R cells slots pc L (.int j :: .ref a :: st) σ Z := by
  subst hp; subst hj
  intro p e s m args below meth c H locs ls hC hH hlo hl
  have hcell := hH.2.2.2.2 a
  unfold tl_cell at hcell
  rw [hs] at hcell
  have hK := hC.2.2.2.2.2.2.2.2
  refine W.aald (v := .ref r) (ty := .object RX0) hC.1 hC.2.1 hcell ((hK.1.2 3 (gA G 3, .object RX0) rfl).1 N (fun j => va_rf (sP σ a j))) rfl (fun q => by cases q) (by rw [arrV_size]; exact tl_in hi hN) (by rw [nI_clamp (by omega), arrV_read _ _ hi, hr]; rfl) rfl rfl hd (kk p e s m args below meth c H locs ls hC hH hlo hl)
theorem T_ialdR {j : Int32} {q i : Nat} (hd : decode mt.2.1 pc = .ok (.iaload, 1)) (hp : pc + 1 = n) (hq : q < 3) (hj : j = nI i) (hi : i < (gR G q).2.1) (hN : (gR G q).2.1 < 2 ^ 31) (kk : TW G mt R cells slots n L (.int ((gR G q).2.2 i) :: st) σ Z) : TW G mt R cells slots pc L (.int j :: .ref (gR G q).1 :: st) σ Z := by
  subst hp; subst hj
  intro p e s m args below meth c H locs ls hC hH hlo hl
  obtain ⟨⟨scr, h1, h2, h3, h4, h5⟩, hB⟩ := hC.2.2.2.2.2.2.2.2.2.1 q hq
  exact W.iald (v := .int ((gR G q).2.2 i)) hC.1 hC.2.1 (by rw [hH.2.2.1 _ hB]; exact h1) h2 h3 (fun h => tl_in hi hN (h.imp id (fun z => Nat.le_trans h4 z))) (by rw [nI_clamp (by omega)]; exact h5 _ hi) rfl rfl hd (kk p e s m args below meth c H locs ls hC hH hlo hl)
theorem T_alen {a N : Nat} (hd : decode mt.2.1 pc = .ok (.arraylength, 1)) (hp : pc + 1 = n) (hs : sS σ a = (2, N)) (kk : TW G mt R cells slots n L (.int (nI N) :: st) σ Z) : TW G mt R cells slots pc L (.ref a :: st) σ Z := by
  subst hp
  intro p e s m args below meth c H locs ls hC hH hlo hl
  have hcell := hH.2.2.2.2 a
  unfold tl_cell at hcell
  rw [hs] at hcell
  have hK := hC.2.2.2.2.2.2.2.2
  exact W.alen (n := nI N) hC.1 hC.2.1 hcell ((hK.1.2 0 (gA G 0, .int) rfl).1 N (fun j => .int (sM σ a j))) (by rw [arrV_size] <;> rfl) rfl rfl hd (kk p e s m args below meth c H locs ls hC hH hlo hl)
theorem T_alenR {q : Nat} (hd : decode mt.2.1 pc = .ok (.arraylength, 1)) (hp : pc + 1 = n) (hq : q = 0) (kk : TW G mt R cells slots n L (.int (nI (gR G q).2.1) :: st) σ Z) : TW G mt R cells slots pc L (.ref (gR G q).1 :: st) σ Z := by
  subst hp; subst hq
  intro p e s m args below meth c H locs ls hC hH hlo hl
  have hB := (hC.2.2.2.2.2.2.2.2.2.1 0 (by decide)).2
  obtain ⟨scr, h1, h2, h3, h4, h5⟩ := hC.2.2.2.2.2.2.2.2.2.2.2.2.2
  exact W.alen (n := nI (gR G 0).2.1) hC.1 hC.2.1 (by rw [hH.2.2.1 _ hB]; exact h1) h2 (by rw [h4] <;> rfl) rfl rfl hd (kk p e s m args below meth c H locs ls hC hH hlo hl)
theorem tl_lo {locs : List Loc} {a j : Nat} (h : ∀ q ∈ locs, gB G ≤ q.base) (ha : gB G ≤ a) : ∀ q ∈ locs ++ [⟨a, j⟩], gB G ≤ q.base := by
  intro q hq
  rcases List.mem_append.mp hq with h9 | h9
  · exact h q h9
  · rw [List.mem_singleton.mp h9]
    exact ha
theorem tl_updM {f : Nat → Nat → Int32} {a i : Nat} {x : Int32} : updV (fun j => Value.int (f a j)) i (.int x) = fun j => Value.int (up2 f a i x a j) := by
  funext q
  by_cases hq : q = i
  · subst hq; simp [updV, up2]
  · simp [updV, up2, hq]
theorem tl_updJ {f : Nat → Nat → Int64} {a i : Nat} {x : Int64} : updV (fun j => Value.long (f a j)) i (.long x) = fun j => Value.long (up2 f a i x a j) := by
  funext q
  by_cases hq : q = i
  · subst hq; simp [updV, up2]
  · simp [updV, up2, hq]
theorem tl_updP {f : Nat → Nat → Option Nat} {a i x : Nat} : updV (fun j => va_rf (f a j)) i (.ref x) = fun j => va_rf (up2 f a i (some x) a j) := by
  funext q
  by_cases hq : q = i
  · subst hq; simp [updV, up2, va_rf]
  · simp [updV, up2, hq]
theorem T_iast {j x : Int32} {a N i : Nat} (hd : decode mt.2.1 pc = .ok (.iastore, 1)) (hp : pc + 1 = n) (hs : sS σ a = (2, N)) (hj : j = nI i) (hi : i < N) (hN : N < 2 ^ 31) (kk : TW G mt R cells slots n L st (sS σ, up2 (sM σ) a i x, sJ σ, sP σ, sZ σ) Z) : TW G mt R cells slots pc L (.int x :: .int j :: .ref a :: st) σ Z := by
  subst hp; subst hj
  intro p e s m args below meth c H locs ls hC hH hlo hl
  have hcell := hH.2.2.2.2 a
  unfold tl_cell at hcell
  rw [hs] at hcell
  have hK := hC.2.2.2.2.2.2.2.2
  have hB : gB G ≤ a := tl_own hH (by rw [hs]; simp)
  refine W.iast hC.1 hC.2.1 hcell ((hK.1.2 0 (gA G 0, .int) rfl).1 N (fun j => .int (sM σ a j))) (fun q => by cases q) (by rw [arrV_size]; exact tl_in hi hN) rfl rfl hd fun H1 e1 z oq => ?_
  refine kk p e s m args below meth c H1 _ ls hC (tl_H_upd hH z oq hB rfl rfl (fun b hb => up2_o hb) (fun _ _ => rfl) (fun _ _ => rfl) ?_) (tl_lo hlo hB) hl
  unfold tl_cell
  show tl_at G (sS σ a).1 (sS σ a).2 a _ _ _ H1
  rw [hs]
  show H1[a]? = some (arrV _ _ _)
  rw [e1, arrV_store, nI_clamp (by omega), tl_updM]
theorem T_zast {j x : Int32} {a N i : Nat} (hd : decode mt.2.1 pc = .ok (.bastore, 1)) (hp : pc + 1 = n) (hs : sS σ a = (3, N)) (hj : j = nI i) (hi : i < N) (hN : N < 2 ^ 31) (hx : x = 0 ∨ x = 1) (kk : TW G mt R cells slots n L st (sS σ, up2 (sM σ) a i x, sJ σ, sP σ, sZ σ) Z) : TW G mt R cells slots pc L (.int x :: .int j :: .ref a :: st) σ Z := by
  subst hp; subst hj
  intro p e s m args below meth c H locs ls hC hH hlo hl
  have hcell := hH.2.2.2.2 a
  unfold tl_cell at hcell
  rw [hs] at hcell
  have hK := hC.2.2.2.2.2.2.2.2
  have hB : gB G ≤ a := tl_own hH (by rw [hs]; simp)
  have hnx : narrow .boolean (.int x) = .int x := by rcases hx with rfl | rfl <;> rfl
  refine W.zast hC.1 hC.2.1 hcell ((hK.1.2 1 (gA G 1, .boolean) rfl).1 N (fun j => .int (sM σ a j))) (fun q => by cases q) (by rw [arrV_size]; exact tl_in hi hN) rfl rfl hd fun H1 e1 z oq => ?_
  refine kk p e s m args below meth c H1 _ ls hC (tl_H_upd hH z oq hB rfl rfl (fun b hb => up2_o hb) (fun _ _ => rfl) (fun _ _ => rfl) ?_) (tl_lo hlo hB) hl
  unfold tl_cell
  show tl_at G (sS σ a).1 (sS σ a).2 a _ _ _ H1
  rw [hs]
  show H1[a]? = some (arrV _ _ _)
  rw [e1, hnx, arrV_store, nI_clamp (by omega), tl_updM]
theorem T_last {j : Int32} {x : Int64} {a N i : Nat} (hd : decode mt.2.1 pc = .ok (.lastore, 1)) (hp : pc + 1 = n) (hs : sS σ a = (4, N)) (hj : j = nI i) (hi : i < N) (hN : N < 2 ^ 31) (kk : TW G mt R cells slots n L st (sS σ, sM σ, up2 (sJ σ) a i x, sP σ, sZ σ) Z) : TW G mt R cells slots pc L (.long x :: .int j :: .ref a :: st) σ Z := by
  subst hp; subst hj
  intro p e s m args below meth c H locs ls hC hH hlo hl
  have hcell := hH.2.2.2.2 a
  unfold tl_cell at hcell
  rw [hs] at hcell
  have hK := hC.2.2.2.2.2.2.2.2
  have hB : gB G ≤ a := tl_own hH (by rw [hs]; simp)
  refine W.last hC.1 hC.2.1 hcell ((hK.1.2 2 (gA G 2, .long) rfl).1 N (fun j => .long (sJ σ a j))) (fun q => by cases q) (by rw [arrV_size]; exact tl_in hi hN) rfl rfl hd fun H1 e1 z oq => ?_
  refine kk p e s m args below meth c H1 _ ls hC (tl_H_upd hH z oq hB rfl rfl (fun _ _ => rfl) (fun b hb => up2_o hb) (fun _ _ => rfl) ?_) (tl_lo hlo hB) hl
  unfold tl_cell
  show tl_at G (sS σ a).1 (sS σ a).2 a _ _ _ H1
  rw [hs]
  show H1[a]? = some (arrV _ _ _)
  rw [e1, arrV_store, nI_clamp (by omega), tl_updJ]
theorem T_aast {j : Int32} {a N i v : Nat} (hd : decode mt.2.1 pc = .ok (.aastore, 1)) (hp : pc + 1 = n) (hs : sS σ a = (5, N)) (hv : sS σ v = (1, 0)) (hj : j = nI i) (hi : i < N) (hN : N < 2 ^ 31) (kk : TW G mt R cells slots n L st (sS σ, sM σ, sJ σ, up2 (sP σ) a i (some v), sZ σ) Z) : TW G mt R cells slots pc L (.ref v :: .int j :: .ref a :: st) σ Z := by
  subst hp; subst hj
  intro p e s m args below meth c H locs ls hC hH hlo hl
  have hcell := hH.2.2.2.2 a
  unfold tl_cell at hcell
  rw [hs] at hcell
  have hcv := hH.2.2.2.2 v
  unfold tl_cell at hcv
  rw [hv] at hcv
  obtain ⟨q', hq', cellV, g1, g2, g3, -⟩ := hcv
  have hK := hC.2.2.2.2.2.2.2.2
  have hB : gB G ≤ a := tl_own hH (by rw [hs]; simp)
  have hcls := (hK.1.1 0 _ hq').2
  cases (show tl_cl[0]? = some (RX0, TX0, 6) from rfl).symm.trans hq'
  obtain ⟨kA, comp, k1, k2, k3, -⟩ := (hK.1.2 3 (gA G 3, .object RX0) rfl).2
  have hcomp : comp = (gD G).1 0 := Option.some.inj (k3.symm.trans hcls.1)
  subst hcomp
  obtain ⟨kC, hkC, -⟩ := hcls.2
  refine W.aast hC.1 hC.2.1 hcell (fun q h => by cases h) (fun h => by cases h) k1 k2 rfl hkC ⟨nI_pos (by omega), by rw [arrV_size, nI_clamp (by omega)]; exact hi⟩ g1 (fun q h => by rw [g3] at h; cases h) (by rw [g2]; exact hkC) (by rw [g2]; exact va_assign hcls) rfl rfl hd fun H1 e1 z oq => ?_
  refine kk p e s m args below meth c H1 _ ls hC (tl_H_upd hH z oq hB rfl rfl (fun _ _ => rfl) (fun _ _ => rfl) (fun b hb => up2_o hb) ?_) (tl_lo hlo hB) hl
  unfold tl_cell
  show tl_at G (sS σ a).1 (sS σ a).2 a _ _ _ H1
  rw [hs]
  show H1[a]? = some (arrV _ _ _)
  rw [e1, arrV_store, nI_clamp (by omega), tl_updP]
theorem T_gets {idx i : Nat} (hd : decode mt.2.1 pc = .ok (.getstatic idx, 3)) (hp : pc + 3 = n) (h1 : 1 ≤ i) (h2 : i < 3) (hw : Cond.fieldLink mt.1 idx (tl_sf i).1 (tl_sf i).2.1 (tl_sf i).2.2 ∈ tl_W) (kk : TW G mt R cells slots n L (.ref (gR G i).1 :: st) σ Z) : TW G mt R cells slots pc L st σ Z := by
  subst hp
  intro p e s m args below meth c H locs ls hC hH hlo hl
  obtain ⟨cf, kf, fi, f, a, cell, z1, z2, z3, z4, z5, z6, z7, z8⟩ := hC.2.2.2.2.2.2.2.2.2.2.1 i h1 h2
  exact W.gets hC.1 hC.2.1 hC.2.2.2.2.2.2.1 (hC.2.2.2.2.2.2.2.1 _ hw) z1 z2 z3 z4 (by rw [hH.2.2.1 a (Nat.not_le.mp z8)]; exact z5) (fun e => by rw [e] at z6; cases z6) z7 rfl hd (kk p e s m args below meth c H locs ls hC hH hlo hl)
theorem T_getsN {idx i : Nat} (hd : decode mt.2.1 pc = .ok (.getstatic idx, 3)) (hp : pc + 3 = n) (h1 : 1 ≤ i) (h2 : i < 3) (hm : mt.1 = RX0) (hi : idx = tl_si i) (kk : TW G mt R cells slots n L (.ref (gR G i).1 :: st) σ Z) : TW G mt R cells slots pc L st σ Z := by
  subst hp; subst hi
  intro p e s m args below meth c H locs ls hC hH hlo hl
  obtain ⟨cf, kf, fi, f, a, cell, z1, z2, z3, z4, z5, z6, z7, z8⟩ := hC.2.2.2.2.2.2.2.2.2.2.1 i h1 h2
  have hN := hC.2.2.2.2.2.2.2.2.2.2.2.2.1
  have hown := hC.2.2.2.2.2.2.1
  rw [hm] at hown
  rcases (show i = 1 ∨ i = 2 by omega) with rfl | rfl
  · exact va_WgetsN hC.1 hC.2.1 hown (va_Nw.use rfl hN.1) z1 z2 z3 z4 (by rw [hH.2.2.1 a (Nat.not_le.mp z8)]; exact z5) (fun e => by rw [e] at z6; cases z6) z7 rfl hd (kk p e s m args below meth c H locs ls hC hH hlo hl)
  · exact va_WgetsN hC.1 hC.2.1 hown (va_Nw.use rfl hN.2) z1 z2 z3 z4 (by rw [hH.2.2.1 a (Nat.not_le.mp z8)]; exact z5) (fun e => by rw [e] at z6; cases z6) z7 rfl hd (kk p e s m args below meth c H locs ls hC hH hlo hl)
end TM
