/-! words of the machine's own members -/
theorem tn_getC : Cond.native ⟨"java/lang/Object", "getClass", "()Ljava/lang/Class;"⟩ ∈ GW := gw_at tin_5 129 rfl rfl
theorem tn_acopy : Cond.native ⟨"java/lang/System", "arraycopy", "(Ljava/lang/Object;ILjava/lang/Object;II)V"⟩ ∈ GW := gw_at tin_5 141 rfl rfl
theorem tn_clone : Cond.native ⟨"java/lang/Object", "clone", "()Ljava/lang/Object;"⟩ ∈ GW := gw_at tin_6 0 rfl rfl
theorem tx_getC : Cond.declares ⟨"java/lang/Object", "getClass", "()Ljava/lang/Class;"⟩ ∈ XW := xw_at tin_7 106 rfl rfl
theorem tx_io : Cond.castable "[I" "java/lang/Object" ∈ XW := xw_at tin_7 109 rfl rfl
theorem tx_bc : Cond.castable "[B" "java/lang/Cloneable" ∈ XW := xw_at tin_6 3 rfl rfl
