theorem acp_n : Cond.native arraycopyName ∈ pv_gt := pv_gt_in (List.mem_of_getElem? (i := 626) (by decide +kernel)) rfl
theorem acp_s : Cond.static arraycopyName ∈ pv_gt := pv_gt_in (List.mem_of_getElem? (i := 625) (by decide +kernel)) rfl
theorem acp_i : Cond.initialized "java/lang/System" ∈ pv_gt := pv_gt_in (List.mem_of_getElem? (i := 70) (by decide +kernel)) rfl
theorem cln_l : Cond.methodLink RJ7 310 ⟨"[B", "clone", "()Ljava/lang/Object;"⟩ ∈ pv_gt := pv_gt_in (List.mem_of_getElem? (i := 830) (by decide +kernel)) rfl
theorem cln_m : Cond.sameMethod "[B" "java/lang/Object" "clone" "()Ljava/lang/Object;" ∈ pv_gt := pv_gt_in (List.mem_of_getElem? (i := 831) (by decide +kernel)) rfl
theorem cln_n : Cond.native ⟨"java/lang/Object", "clone", "()Ljava/lang/Object;"⟩ ∈ pv_gt := pv_gt_in (List.mem_of_getElem? (i := 832) (by decide +kernel)) rfl
theorem cln_i : Cond.instanceMethod ⟨"java/lang/Object", "clone", "()Ljava/lang/Object;"⟩ ∈ pv_gt := pv_gt_in (List.mem_of_getElem? (i := 833) (by decide +kernel)) rfl
theorem cln_s : Cond.selects "[B" ⟨"[B", "clone", "()Ljava/lang/Object;"⟩ ⟨"java/lang/Object", "clone", "()Ljava/lang/Object;"⟩ ∈ pv_gt := pv_gt_in (List.mem_of_getElem? (i := 834) (by decide +kernel)) rfl
