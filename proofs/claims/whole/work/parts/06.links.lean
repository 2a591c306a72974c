set_option maxRecDepth 100000 in
theorem pv_LM_ok_0 : ∀ e ∈ pv_LM_0, pv_mOk e = true := by decide +kernel
set_option maxRecDepth 100000 in
theorem pv_LM_ok_1 : ∀ e ∈ pv_LM_1, pv_mOk e = true := by decide +kernel
set_option maxRecDepth 100000 in
theorem pv_LM_ok_2 : ∀ e ∈ pv_LM_2, pv_mOk e = true := by decide +kernel
set_option maxRecDepth 100000 in
theorem pv_LM_ok_3 : ∀ e ∈ pv_LM_3, pv_mOk e = true := by decide +kernel
set_option maxRecDepth 100000 in
theorem pv_LM_ok_4 : ∀ e ∈ pv_LM_4, pv_mOk e = true := by decide +kernel
set_option maxRecDepth 100000 in
theorem pv_LM_ok_5 : ∀ e ∈ pv_LM_5, pv_mOk e = true := by decide +kernel
set_option maxRecDepth 100000 in
theorem pv_LM_ok_6 : ∀ e ∈ pv_LM_6, pv_mOk e = true := by decide +kernel
set_option maxRecDepth 100000 in
theorem pv_LM_ok_7 : ∀ e ∈ pv_LM_7, pv_mOk e = true := by decide +kernel
set_option maxRecDepth 100000 in
theorem pv_LM_ok_8 : ∀ e ∈ pv_LM_8, pv_mOk e = true := by decide +kernel
set_option maxRecDepth 100000 in
theorem pv_LM_ok_9 : ∀ e ∈ pv_LM_9, pv_mOk e = true := by decide +kernel
theorem pv_LM_ok : ∀ e ∈ pv_LM, pv_mOk e = true := List.forall_mem_append.mpr ⟨pv_LM_ok_0, List.forall_mem_append.mpr ⟨pv_LM_ok_1, List.forall_mem_append.mpr ⟨pv_LM_ok_2, List.forall_mem_append.mpr ⟨pv_LM_ok_3, List.forall_mem_append.mpr ⟨pv_LM_ok_4, List.forall_mem_append.mpr ⟨pv_LM_ok_5, List.forall_mem_append.mpr ⟨pv_LM_ok_6, List.forall_mem_append.mpr ⟨pv_LM_ok_7, List.forall_mem_append.mpr ⟨pv_LM_ok_8, pv_LM_ok_9⟩⟩⟩⟩⟩⟩⟩⟩⟩
set_option maxRecDepth 100000 in
theorem pv_LMN_ok : ∀ e ∈ pv_LMN, pv_mOk e = true := by decide +kernel
