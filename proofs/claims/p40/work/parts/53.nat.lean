/-! words of the machine's own members -/
theorem tn_getC : Cond.native ⟨"java/lang/Object", "getClass", "()Ljava/lang/Class;"⟩ ∈ GW := gw_at tin_5 133 rfl rfl
theorem tn_acopy : Cond.native ⟨"java/lang/System", "arraycopy", "(Ljava/lang/Object;ILjava/lang/Object;II)V"⟩ ∈ GW := gw_at tin_5 145 rfl rfl
theorem tn_clone : Cond.native ⟨"java/lang/Object", "clone", "()Ljava/lang/Object;"⟩ ∈ GW := gw_at tin_6 4 rfl rfl
theorem tx_getC : Cond.declares ⟨"java/lang/Object", "getClass", "()Ljava/lang/Class;"⟩ ∈ XW := xw_at tin_7 110 rfl rfl
theorem tx_io : Cond.castable "[I" "java/lang/Object" ∈ XW := xw_at tin_7 113 rfl rfl
theorem tx_bc : Cond.castable "[B" "java/lang/Cloneable" ∈ XW := xw_at tin_6 7 rfl rfl
