theorem sF_m : gG sFS 77 3 = 0 ∧ gG sFS 77 4 = 0 ∧ gG sFS 77 5 = 0 ∧ gG sFS 77 6 = 0 := by decide +kernel
theorem MR.mk0 {σ : St} (hS : Std σ) (h : gG σ 77 3 = 0 ∧ gG σ 77 4 = 0 ∧ gG σ 77 5 = 0 ∧ gG σ 77 6 = 0) : MR σ (gG σ 78, gG σ 79, fun _ => 0, gG σ 81, gG σ 87, gG σ 88, gG σ 89, gG σ 90, gL σ 91) := ⟨hS, ⟨rfl, rfl⟩, ⟨h.1, h.2.1, h.2.2.1, h.2.2.2⟩, rfl, ⟨rfl, rfl, rfl, rfl⟩, rfl⟩
theorem A0_mr : MR sFS A0 := MR.mk0 sF_std sF_m
