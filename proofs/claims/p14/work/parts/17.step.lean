/-! ===== the bench: steps ===== -/
abbrev kColl (a : Nat) : Prop := ¬ a = 5 ∧ ¬ a = 9 ∧ ¬ a = 10 ∧ ¬ a = 11
abbrev kKeep (a : Nat) : Prop := ¬ a = 0 ∧ ¬ a = 15
abbrev k0 (a : Nat) : Prop := ¬ a = 0
abbrev k13 (a : Nat) : Prop := ¬ a = 13
abbrev kGive (a : Nat) : Prop := ¬ a = 0 ∧ ¬ a = 9 ∧ ¬ a = 12 ∧ ¬ a = 13
def ordOK (M : zM) : Prop := ∀ v : Int, 0 ≤ v → v < 8 → 0 ≤ M 4 v
theorem ordOK_fr {M M' : zM} (h : ordOK M) (h4 : M' 4 = M 4) : ordOK M' := by
  unfold ordOK
  rw [h4]
  exact h
def noH (M : zM) : Prop := ∀ h : Int, 0 ≤ h → h < 12 → M 12 h = -1
def frsh (M : zM) : Prop := noH M ∧ (∀ g : Int, 0 ≤ g → g < 40 → M 13 g = -1) ∧ M 0 7 = 0
theorem Z_nm {G : tl_G} {mt : tl_M} {R : Room} {cells slots pc : Nat} {K : Nat → Prop} {M0 : zM} {J0 : zJ} {L : List (Option zV)} {st : List zV} {F : zF} {M : zM} {J : zJ} {Z : tl_Z} (k : ∀ M1, M1 = M → TZ G mt R cells slots K M0 J0 pc L st F M1 J Z) : TZ G mt R cells slots K M0 J0 pc L st F M J Z := k M rfl
set_option maxRecDepth 20000 in
theorem zX3_beginSteps {G : tl_G} {M : zM} {J : zJ} {K : Nat → Prop} (hK0 : ¬ K 0) : ZN G yX3_beginSteps mX3_beginSteps 0 K [vR 0] F1 M J (qV (fun M' J' => J' = J ∧ M' = uz M 0 8 0)) := by
  refine ZN_of (L := [_]) (by decide) rfl rfl (Nat.le_of_ble_eq_true rfl) rfl (fun hav => ?_)
  refine Z_aload_n (n := 1) dX3_beginSteps_0 rfl rfl ?_
  refine Z_iconst (n := 2) dX3_beginSteps_1 rfl (by decide) ?_
  refine Z_putI (n := 5) (ki := 8) dX3_beginSteps_2 rfl ffX3_46 rfl (by decide) rfl rfl (by first | assumption | omega | decide) (by first | assumption | omega | decide) (by assumption) ?_
  refine Z_vret dX3_beginSteps_5 rfl ?_
  exact ⟨rfl, rfl⟩
set_option maxRecDepth 20000 in
theorem zX3_endSteps {G : tl_G} {M : zM} {J : zJ} {K : Nat → Prop} (hK0 : ¬ K 0) (hK13 : ¬ K 13) : ZN G yX3_endSteps mX3_endSteps 1 K [vR 0] F1 M J (qV (fun M' J' => J' = J ∧ M' = fillz (uz M 0 7 0) 13 40 (-1))) := by
  refine ZN_of (L := [_]) (by decide) rfl rfl (Nat.le_of_ble_eq_true rfl) rfl (fun hav => ?_)
  refine Z_aload_n (n := 1) dX3_endSteps_0 rfl rfl ?_
  refine Z_iconst (n := 2) dX3_endSteps_1 rfl (by decide) ?_
  refine Z_putI (n := 5) (ki := 7) dX3_endSteps_2 rfl ffX3_42 rfl (by decide) rfl rfl (by first | assumption | omega | decide) (by first | assumption | omega | decide) (by assumption) ?_
  refine Z_aload_n (n := 6) dX3_endSteps_5 rfl rfl ?_
  refine Z_getA (n := 9) dX3_endSteps_6 rfl ffX3_33 rfl rfl ?_
  refine Z_iconst (n := 10) dX3_endSteps_9 rfl (by decide) ?_
  refine Z_callSv (n := 13) [_, _] _ dX3_endSteps_10 rfl cwX3_56 rfl rfl (Nat.le_of_ble_eq_true rfl) (by refine ⟨?_, ?_, ?_, ?_⟩ <;> exact Nat.le_of_ble_eq_true rfl) (fun _ h => h) (zJ7_fill_53178  (by rfl) (by decide) (by exact fun _ => rfl) (by decide) (by decide) (by assumption)) ?_
  intro M10 J10 f10 q10
  obtain ⟨e10_1, e10_2⟩ := q10
  replace e10_1 := e10_1.symm; subst e10_1
  replace e10_2 := e10_2.symm; subst e10_2
  refine Z_vret dX3_endSteps_13 rfl ?_
  exact ⟨rfl, rfl⟩
