set_option maxRecDepth 100000 in
theorem x_inv0 : Inv x_cD false := by
  refine ⟨by unfold iRow; decide +kernel, by unfold iTxt; decide +kernel, by unfold iFnd; decide +kernel, by unfold iAsk; decide +kernel, 0, by unfold iGrn; decide +kernel, ⟨0, by decide +kernel⟩, fun k hk => Or.inl ?_⟩
  match k, hk with
  | 0, _ => decide +kernel
  | 1, _ => decide +kernel
  | 2, _ => decide +kernel
  | k + 3, h => omega
