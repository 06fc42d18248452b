/-! ===== the words of System.arraycopy; taking a line out of the model's row ===== -/
theorem tw_ac1 : tw (.methodLink "TallyWaxModel" 54 arraycopyName) := tw_692
theorem tw_ac2 : tw (.native arraycopyName) := ⟨by decide +kernel, by decide +kernel⟩
theorem tw_ac3 : tw (.static arraycopyName) := ⟨by decide +kernel, by decide +kernel⟩
theorem tw_ac4 : tw (.initialized "java/lang/System") := ⟨by decide +kernel, by decide +kernel⟩
