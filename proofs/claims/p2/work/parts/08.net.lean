/-! ===== Net ===== -/
section NET
variable {G : tl_G} {σ : tl_S}
set_option maxRecDepth 20000 in
theorem c_hasGate {d a : Nat} {g : Int32} (hs : sS σ a = (1, 0)) : CT G yX0_hasGate mX0_hasGate d 0 0 [.ref a, .int g] σ (fun v σ' => σ' = σ ∧ v = some (.int (if 0 ≤ g ∧ g < sM σ a 4 then 1 else 0))) := by
  refine CT_of (by decide) rfl rfl (Nat.le_of_ble_eq_true rfl) ?_
  refine T_iload_n (n := 1) dX0_hasGate_0 rfl rfl ?_
  refine T_if_lt (n := 4) (t := 16) dX0_hasGate_1 rfl (by decide) (fun hc => ?_) (fun hc => ?_)
  · refine T_iconst (v := nI 0) (n := 17) dX0_hasGate_16 rfl (by decide) ?_
    refine T_zret dX0_hasGate_17 rfl (Or.inl rfl) ⟨rfl, ?_⟩
    rw [if_neg (fun h => absurd hc (Int32.not_lt.mpr h.1))]
    rfl
  · refine T_iload_n (n := 5) dX0_hasGate_4 rfl rfl ?_
    refine T_aload_n (n := 6) dX0_hasGate_5 rfl rfl ?_
    refine T_getI (n := 9) dX0_hasGate_6 rfl ffX0_24 (by assumption) ?_
    refine T_icmp_ge (n := 12) (t := 16) dX0_hasGate_9 rfl (by decide) (fun hc => ?_) (fun hc => ?_)
    · refine T_iconst (v := nI 0) (n := 17) dX0_hasGate_16 rfl (by decide) ?_
      refine T_zret dX0_hasGate_17 rfl (Or.inl rfl) ⟨rfl, ?_⟩
      rw [if_neg (fun h => absurd hc (Int32.not_le.mpr h.2))]
      rfl
    · refine T_iconst (v := nI 1) (n := 13) dX0_hasGate_12 rfl (by decide) ?_
      refine T_goto (t := 17) dX0_hasGate_13 (by decide) ?_
      refine T_zret dX0_hasGate_17 rfl (Or.inr rfl) ⟨rfl, ?_⟩
      rw [if_pos ⟨Int32.not_lt.mp (by assumption), Int32.not_le.mp (by assumption)⟩]
      rfl
end NET
