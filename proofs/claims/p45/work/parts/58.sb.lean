/-! StringBuilder, told -/
theorem sbI_le {a b : Nat} (ha : a < 2 ^ 30) (hb : b < 2 ^ 30) (h : nI a - nI b ≤ 0) : a ≤ b := by
  rcases Nat.lt_or_ge b a with q | q
  · have h2 := subI_neg hb ha q
    have h3 : nI b - nI a = -(nI a - nI b) := Int32.neg_sub.symm
    rw [pk_sub (by omega)] at h
    exact absurd ((nI_leI (a := a - b) (b := 0) (by omega) (by decide)).mp h) (by omega)
  · exact q
theorem sbI_le2 {a b : Nat} (ha : a < 2 ^ 30) (hb : b < 2 ^ 30) (h : a ≤ b) : nI a - nI b ≤ 0 := by
  rcases Nat.lt_or_ge a b with q | q
  · exact Int32.le_of_lt (subI_neg ha hb q)
  · rw [show a = b by omega, Int32.sub_self]; exact Int32.le_refl _
theorem fit_nar (x : Int32) : fits .byte (.int (vp_nar .byte x)) = true := pk_fb x
theorem at_D1 {A : Nat → Prop} {a : Nat} {e : va_E} (ha : A a) : va_D A [(a, e)] := by
  refine ⟨fun i j p q hi hj he => ?_, fun k q hk => ?_⟩
  · match i, j, hi, hj with
    | 0, 0, _, _ => rfl
    | i + 1, _, hi, _ => simp at hi
    | 0, j + 1, _, hj => simp at hj
  · match k, hk with
    | 0, hk => cases hk; exact ha
    | k + 1, hk => simp at hk
/-- a builder of n signs of one byte each -/
def SBs (G : Cx) (A : Nat → Prop) (a n : Nat) (H : Heap) : Prop := ∃ (va cap : Nat) (g : Nat → Int32), va_at G.1 vwCl (a, .inr (1, [.ref va, .int 0, .int 0, .int (nI n)])) H ∧ va_at G.1 vwCl (va, .inl (G.2.1 2, cap, .inl g)) H ∧ A va ∧ n ≤ cap ∧ 16 ≤ cap ∧ cap < 2 ^ 20 ∧ ∀ i : Nat, i < cap → fits .byte (.int (g i)) = true
section SBS
variable {p : Program} {l : Launch} {e : Env} {R : Room} {s : State} {m : MethodId} {args : Array Value} {below : List Frame} {meth : Method} {c : Code} {H H1 : Heap} {locs : List Loc} {cells slots : Nat} {Q : State → Prop}
variable {cc bytes : ByteArray} {pc nL maxL index n mc ms : Nat} {ls : Array Slot} {rest st0 : List Value} {G : Cx} {A A1 B : Nat → Prop} {own C owner : String} {cC : ClassId} {x y : MethodName} {ret : Option FieldType} {ws : List Cond} {rm : Room} {b a : Nat} {As : List Value} {Wd : Heap → Prop}
theorem findBA (hK : va_K G.1 vwCl (tyL G.2.1) s) : s.vm.findClass "[B" = some (G.2.1 2) := (hK.2 2 _ rfl).2
theorem bytes_fit {cA : ClassId} {n : Nat} {f : Nat → Int32} (hf : ∀ i : Nat, i < n → fits .byte (.int (f i)) = true) : ∀ (i : Nat) (v : Value), (vp_cell cA (n, .inl f)).slots[i]? = some v → fits .byte v = true := fun i v h => by
  have hi : i < n := by
    have := (Array.getElem?_eq_some_iff.mp h).1
    rw [vp_cell_i, arrV_size] at this; exact this
  rw [vp_cell_i, arrV_read _ _ hi] at h
  cases h
  exact hf i hi
theorem SBs_mono (hAB : ∀ q, A q → B q) (h : SBs G A a n H) : SBs G B a n H := by
  obtain ⟨va, cap, g, h1, h2, h3, h4⟩ := h
  exact ⟨va, cap, g, h1, h2, hAB _ h3, h4⟩
theorem SBs_n (h : SBs G A a n H) (oq : ∀ q : Nat, q < H.size → H1[q]? = H[q]?) : SBs G A a n H1 := by
  obtain ⟨va, cap, g, h1, h2, h3⟩ := h
  exact ⟨va, cap, g, at_n h1 oq, at_n h2 oq, h3⟩
theorem SBs_recv (hK : va_K G.1 vwCl (tyL G.2.1) s) (h : SBs G A a n H) : ∃ cell : Cell, H[a]? = some cell ∧ cell.vm.isStatics = false ∧ s.vm.findClass "java/lang/StringBuilder" = some cell.cls := by
  obtain ⟨va, cap, g, h1, -⟩ := h
  exact at_recv hK h1 (q := (RJ4, TJ4, 4)) rfl
theorem SBs_A (hK : va_K G.1 vwCl (tyL G.2.1) s) (h : SBs G A a n H) (hA : A a) : A a ∧ ¬ ∃ t9, IA0 G a t9 H := by
  obtain ⟨va, cap, g, h1, -⟩ := h
  exact ⟨hA, fun ⟨t9, z⟩ => at_ne_oa hK h1 (r := (RJ4, TJ4, 4)) rfl z.fst 0 rfl rfl⟩
theorem SBs_sub (hK : va_K G.1 vwCl (tyL G.2.1) s) (h : SBs G A a n H) : SBs G (fun q9 => A q9 ∧ ¬ ∃ t9, IA0 G q9 t9 H) a n H := by
  obtain ⟨va, cap, g, h1, h2, h3, h4⟩ := h
  exact ⟨va, cap, g, h1, h2, ⟨h3, fun ⟨t9, z⟩ => at_ne_aa hK h2 z.fst 2 0 rfl rfl (by decide) rfl⟩, h4⟩
theorem gSU {own : String} {index n : Nat} {y : MethodName} {cc : ByteArray} {r : Option FieldType} (h1 : Cond.methodLink own index y ∈ GW) (h2 : Cond.sameMethod y.cls y.cls y.name y.desc ∈ GW) (h3 : Cond.superclass own y.cls ∈ GW) (h4 : Cond.instanceMethod y ∈ GW) (h5 : Cond.initialized y.cls ∈ GW) (h6 : Cond.code y cc n r ∈ GW) : GoodIn GW (va_wsSU own index y (.code y cc n r :: GW)) := by
  intro w hw
  unfold va_wsSU at hw
  rcases List.mem_append.mp hw with h | h
  · simp only [List.mem_cons, List.not_mem_nil, or_false] at h
    rcases h with rfl | rfl | rfl | rfl | rfl
    · exact good_gw h1
    · exact good_gw h2
    · exact good_gw h3
    · exact good_gw h4
    · exact good_gw h5
  · exact gI h6 w h
theorem gO {own C owner : String} {index n : Nat} {x y : MethodName} {cc : ByteArray} {r : Option FieldType} (h1 : Cond.methodLink own index x ∈ GW) (h2 : Cond.sameMethod x.cls owner x.name x.desc ∈ GW) (h3 : Cond.instanceMethod ⟨owner, x.name, x.desc⟩ ∈ GW) (h4 : Cond.selects C x y ∈ GW) (h5 : Cond.instanceMethod y ∈ GW) (h6 : Cond.initialized y.cls ∈ GW) (h7 : Cond.code y cc n r ∈ GW) : GoodIn GW (va_wsO own index C owner x y (.code y cc n r :: GW)) := by
  intro w hw
  unfold va_wsO at hw
  rcases List.mem_append.mp hw with h | h
  · simp only [List.mem_cons, List.not_mem_nil, or_false] at h
    rcases h with rfl | rfl | rfl | rfl | rfl | rfl
    · exact good_gw h1
    · exact good_gw h2
    · exact good_gw h3
    · exact good_gw h4
    · exact good_gw h5
    · exact good_gw h6
  · exact gI h7 w h
theorem runC {g : JFrame} {Qa : State → Outcome → State → Prop} {free : Addr → Prop} (h : va_Run p l e R s m args below meth c H locs cells slots mc ms g rest Qa free) : CallRun p l e R s m args below meth c H locs cells slots mc ms g rest Qa free := by
  intro T hT X
  obtain ⟨v, st₀, t, T', L, h0, X', hL, e1, e2, hQ, st⟩ := h T hT X
  exact ⟨v, st₀, t, T', L, h0, X', hL, e1, hQ, st⟩
theorem kU_i {post : Int32 → Prop} (S : CallFix p m c cc nL s args GW own) (hM : Met l y ws rm (PC G A (.ref b :: As) Wd) (vp_Si post) 0 0 (fun _ => False)) (cw : va_CU R s args own C owner index x y bytes maxL ret ws rm 0 0 n) (hC : cx G A s) (hS : va_S A s.heap H locs) (hA : ∀ q : Nat, s.heap.size ≤ q → A q)
    (hr : ∃ cell : Cell, H[b]? = some cell ∧ cell.vm.isStatics = false ∧ s.vm.findClass C = some cell.cls) (hW : Wd H) (hst : st0 = As.reverse ++ .ref b :: rest) (hn : As.length = n) (hl : ls.size = nL) (hrm : (rest.map fun v => v.category).sum ≤ 8) (hf : cells ≤ R.cells ∧ slots ≤ R.slots) (hdg : decode cc pc = .ok (.invokevirtual index, 3))
    (kk : ∀ r : Int32, post r → W p l e R s m args below meth c H locs cells slots Q (F0 m (pc + 3) ls (.int r :: rest))) : W p l e R s m args below meth c H locs cells slots Q (F0 m pc ls st0) := by
  subst hst
  exact vp_callSi (runC (va_runU (As := As) (rest := rest) (g := F0 m pc ls (As.reverse ++ .ref b :: rest)) S hM cw ⟨PC.blind, hr, PC.go hC hS (fun _ z => z) (fun q h => hA q (Nat.le_trans hS.1 h)) hW⟩ rfl hn hl rfl (lv_room hrm) hdg hf)) kk
theorem kSU_i {post : Int32 → Prop} (hat : ClassAt s C cC) (S : CallFix p m c cc nL s args GW own) (hM : Met l y ws rm (PC G A (.ref b :: As) Wd) (vp_Si post) 0 0 (fun _ => False)) (cw : va_CS R s args own index y bytes maxL ret ws rm 0 0 n) (hC : cx G A s) (hS : va_S A s.heap H locs) (hA : ∀ q : Nat, s.heap.size ≤ q → A q)
    (hr : ∃ cell : Cell, H[b]? = some cell ∧ cell.vm.isStatics = false ∧ s.vm.findClass C = some cell.cls) (hW : Wd H) (hst : st0 = As.reverse ++ .ref b :: rest) (hn : As.length = n) (hl : ls.size = nL) (hrm : (rest.map fun v => v.category).sum ≤ 8) (hf : cells ≤ R.cells ∧ slots ≤ R.slots) (hdg : decode cc pc = .ok (.invokespecial index, 3))
    (kk : ∀ r : Int32, post r → W p l e R s m args below meth c H locs cells slots Q (F0 m (pc + 3) ls (.int r :: rest))) : W p l e R s m args below meth c H locs cells slots Q (F0 m pc ls st0) := by
  subst hst
  exact vp_callSi (runC (va_runSU (As := As) (rest := rest) (g := F0 m pc ls (As.reverse ++ .ref b :: rest)) hat S hM cw ⟨PC.blind, hr, PC.go hC hS (fun _ z => z) (fun q h => hA q (Nat.le_trans hS.1 h)) hW⟩ rfl hn hl rfl (lv_room hrm) hdg hf)) kk
theorem qR_SU {P : Nat → Heap → Prop} (hat : ClassAt s C cC) (S : CallFix p m c cc nL s args GW own) (hM : Met l y ws rm (PC G A1 (.ref b :: As) Wd) (qR A1 P) mc ms A1) (cw : va_CS R s args own index y bytes maxL ret ws rm mc ms n) (hC : cx G A s) (hS : va_S A s.heap H locs) (hAA : ∀ q, A1 q → A q) (hA1 : ∀ q : Nat, H.size ≤ q → A1 q)
    (hr : ∃ cell : Cell, H[b]? = some cell ∧ cell.vm.isStatics = false ∧ s.vm.findClass C = some cell.cls) (hW : Wd H) (hst : st0 = As.reverse ++ .ref b :: rest) (hn : As.length = n) (hl : ls.size = nL) (hrm : (rest.map fun v => v.category).sum ≤ 8) (hf : cells + mc ≤ R.cells ∧ slots + ms ≤ R.slots) (hdg : decode cc pc = .ok (.invokespecial index, 3))
    (kk : ∀ (a : Nat) (H1 : Heap) (locs1 : List Loc), P a H1 → kp A1 H H1 → va_S A s.heap H1 locs1 → W p l e R s m args below meth c H1 locs1 (cells + mc) (slots + ms) Q (F0 m (pc + 3) ls (.ref a :: rest))) : W p l e R s m args below meth c H locs cells slots Q (F0 m pc ls st0) := by
  subst hst
  exact va_callr (va_runSU (As := As) (rest := rest) (g := F0 m pc ls (As.reverse ++ .ref b :: rest)) hat S hM cw ⟨PC.blind, hr, PC.go hC hS hAA hA1 hW⟩ rfl hn hl rfl (lv_room hrm) hdg hf) hS (fun q _ h => hAA q h) hAA (fun u a t H1 locs1 ht _ _ hB hz hk hS1 => kk a H1 locs1 (show P a H1 from ht ▸ hB) ⟨hz, hk⟩ hS1)
end SBS
theorem dX4_told_0 : decode cX4_told 0 = .ok (.new 1, 3) := by decide +kernel
theorem dX4_told_3 : decode cX4_told 3 = .ok (.dup, 1) := by decide +kernel
theorem dX4_told_4 : decode cX4_told 4 = .ok (.invokespecial 3, 3) := by decide +kernel
theorem dX4_told_7 : decode cX4_told 7 = .ok (.astore_n 1, 1) := by decide +kernel
theorem dX4_told_8 : decode cX4_told 8 = .ok (.aload_n 0, 1) := by decide +kernel
theorem dX4_told_9 : decode cX4_told 9 = .ok (.astore_n 2, 1) := by decide +kernel
theorem dX4_told_10 : decode cX4_told 10 = .ok (.aload_n 2, 1) := by decide +kernel
theorem dX4_told_11 : decode cX4_told 11 = .ok (.arraylength, 1) := by decide +kernel
theorem dX4_told_12 : decode cX4_told 12 = .ok (.istore_n 3, 1) := by decide +kernel
theorem dX4_told_13 : decode cX4_told 13 = .ok (.iconst 0, 1) := by decide +kernel
theorem dX4_told_14 : decode cX4_told 14 = .ok (.istore 4, 2) := by decide +kernel
theorem dX4_told_16 : decode cX4_told 16 = .ok (.iload 4, 2) := by decide +kernel
theorem dX4_told_18 : decode cX4_told 18 = .ok (.iload_n 3, 1) := by decide +kernel
theorem dX4_told_19 : decode cX4_told 19 = .ok (.if_icmp .ge 23, 3) := by decide +kernel
theorem dX4_told_22 : decode cX4_told 22 = .ok (.aload_n 2, 1) := by decide +kernel
theorem dX4_told_23 : decode cX4_told 23 = .ok (.iload 4, 2) := by decide +kernel
theorem dX4_told_25 : decode cX4_told 25 = .ok (.iaload, 1) := by decide +kernel
theorem dX4_told_26 : decode cX4_told 26 = .ok (.istore 5, 2) := by decide +kernel
theorem dX4_told_28 : decode cX4_told 28 = .ok (.aload_n 1, 1) := by decide +kernel
theorem dX4_told_29 : decode cX4_told 29 = .ok (.iload 5, 2) := by decide +kernel
theorem dX4_told_31 : decode cX4_told 31 = .ok (.i2c, 1) := by decide +kernel
theorem dX4_told_32 : decode cX4_told 32 = .ok (.invokevirtual 7, 3) := by decide +kernel
theorem dX4_told_35 : decode cX4_told 35 = .ok (.pop, 1) := by decide +kernel
theorem dX4_told_36 : decode cX4_told 36 = .ok (.iinc 4 1, 3) := by decide +kernel
theorem dX4_told_39 : decode cX4_told 39 = .ok (.goto (-23), 3) := by decide +kernel
theorem dX4_told_42 : decode cX4_told 42 = .ok (.aload_n 1, 1) := by decide +kernel
theorem dX4_told_43 : decode cX4_told 43 = .ok (.invokevirtual 11, 3) := by decide +kernel
theorem dX4_told_46 : decode cX4_told 46 = .ok (.areturn, 1) := by decide +kernel
theorem dJ5_init_d00df_0 : decode cJ5_init_d00df 0 = .ok (.aload_n 0, 1) := by decide +kernel
theorem dJ5_init_d00df_1 : decode cJ5_init_d00df 1 = .ok (.invokespecial 3, 3) := by decide +kernel
theorem dJ5_init_d00df_4 : decode cJ5_init_d00df 4 = .ok (.getstatic 18, 3) := by decide +kernel
theorem dJ5_init_d00df_7 : decode cJ5_init_d00df 7 = .ok (.ifCond .eq 18, 3) := by decide +kernel
theorem dJ5_init_d00df_10 : decode cJ5_init_d00df 10 = .ok (.aload_n 0, 1) := by decide +kernel
theorem dJ5_init_d00df_11 : decode cJ5_init_d00df 11 = .ok (.iload_n 1, 1) := by decide +kernel
theorem dJ5_init_d00df_12 : decode cJ5_init_d00df 12 = .ok (.newarray .byte, 2) := by decide +kernel
theorem dJ5_init_d00df_14 : decode cJ5_init_d00df 14 = .ok (.putfield 15, 3) := by decide +kernel
theorem dJ5_init_d00df_17 : decode cJ5_init_d00df 17 = .ok (.aload_n 0, 1) := by decide +kernel
theorem dJ5_init_d00df_18 : decode cJ5_init_d00df 18 = .ok (.iconst 0, 1) := by decide +kernel
theorem dJ5_init_d00df_19 : decode cJ5_init_d00df 19 = .ok (.putfield 22, 3) := by decide +kernel
theorem dJ5_init_d00df_22 : decode cJ5_init_d00df 22 = .ok (.goto 16, 3) := by decide +kernel
theorem dJ5_init_d00df_25 : decode cJ5_init_d00df 25 = .ok (.aload_n 0, 1) := by decide +kernel
theorem dJ5_init_d00df_26 : decode cJ5_init_d00df 26 = .ok (.iload_n 1, 1) := by decide +kernel
theorem dJ5_init_d00df_27 : decode cJ5_init_d00df 27 = .ok (.invokestatic 26, 3) := by decide +kernel
theorem dJ5_init_d00df_30 : decode cJ5_init_d00df 30 = .ok (.putfield 15, 3) := by decide +kernel
theorem dJ5_init_d00df_33 : decode cJ5_init_d00df 33 = .ok (.aload_n 0, 1) := by decide +kernel
theorem dJ5_init_d00df_34 : decode cJ5_init_d00df 34 = .ok (.iconst 1, 1) := by decide +kernel
theorem dJ5_init_d00df_35 : decode cJ5_init_d00df 35 = .ok (.putfield 22, 3) := by decide +kernel
theorem dJ5_init_d00df_38 : decode cJ5_init_d00df 38 = .ok (.return_, 1) := by decide +kernel
theorem dJ5_length_8abf5_0 : decode cJ5_length_8abf5 0 = .ok (.aload_n 0, 1) := by decide +kernel
theorem dJ5_length_8abf5_1 : decode cJ5_length_8abf5 1 = .ok (.getfield 79, 3) := by decide +kernel
theorem dJ5_length_8abf5_4 : decode cJ5_length_8abf5 4 = .ok (.ireturn, 1) := by decide +kernel
theorem dJ5_ensureCapacityInternal_d00df_0 : decode cJ5_ensureCapacityInternal_d00df 0 = .ok (.aload_n 0, 1) := by decide +kernel
theorem dJ5_ensureCapacityInternal_d00df_1 : decode cJ5_ensureCapacityInternal_d00df 1 = .ok (.getfield 15, 3) := by decide +kernel
theorem dJ5_ensureCapacityInternal_d00df_4 : decode cJ5_ensureCapacityInternal_d00df 4 = .ok (.arraylength, 1) := by decide +kernel
theorem dJ5_ensureCapacityInternal_d00df_5 : decode cJ5_ensureCapacityInternal_d00df 5 = .ok (.aload_n 0, 1) := by decide +kernel
theorem dJ5_ensureCapacityInternal_d00df_6 : decode cJ5_ensureCapacityInternal_d00df 6 = .ok (.getfield 22, 3) := by decide +kernel
theorem dJ5_ensureCapacityInternal_d00df_9 : decode cJ5_ensureCapacityInternal_d00df 9 = .ok (.ishr, 1) := by decide +kernel
theorem dJ5_ensureCapacityInternal_d00df_10 : decode cJ5_ensureCapacityInternal_d00df 10 = .ok (.istore_n 2, 1) := by decide +kernel
theorem dJ5_ensureCapacityInternal_d00df_11 : decode cJ5_ensureCapacityInternal_d00df 11 = .ok (.iload_n 1, 1) := by decide +kernel
theorem dJ5_ensureCapacityInternal_d00df_12 : decode cJ5_ensureCapacityInternal_d00df 12 = .ok (.iload_n 2, 1) := by decide +kernel
theorem dJ5_ensureCapacityInternal_d00df_13 : decode cJ5_ensureCapacityInternal_d00df 13 = .ok (.isub, 1) := by decide +kernel
theorem dJ5_ensureCapacityInternal_d00df_14 : decode cJ5_ensureCapacityInternal_d00df 14 = .ok (.ifCond .le 24, 3) := by decide +kernel
theorem dJ5_ensureCapacityInternal_d00df_17 : decode cJ5_ensureCapacityInternal_d00df 17 = .ok (.aload_n 0, 1) := by decide +kernel
theorem dJ5_ensureCapacityInternal_d00df_18 : decode cJ5_ensureCapacityInternal_d00df 18 = .ok (.aload_n 0, 1) := by decide +kernel
theorem dJ5_ensureCapacityInternal_d00df_19 : decode cJ5_ensureCapacityInternal_d00df 19 = .ok (.getfield 15, 3) := by decide +kernel
theorem dJ5_ensureCapacityInternal_d00df_22 : decode cJ5_ensureCapacityInternal_d00df 22 = .ok (.aload_n 0, 1) := by decide +kernel
theorem dJ5_ensureCapacityInternal_d00df_23 : decode cJ5_ensureCapacityInternal_d00df 23 = .ok (.iload_n 1, 1) := by decide +kernel
theorem dJ5_ensureCapacityInternal_d00df_24 : decode cJ5_ensureCapacityInternal_d00df 24 = .ok (.invokevirtual 104, 3) := by decide +kernel
theorem dJ5_ensureCapacityInternal_d00df_27 : decode cJ5_ensureCapacityInternal_d00df 27 = .ok (.aload_n 0, 1) := by decide +kernel
theorem dJ5_ensureCapacityInternal_d00df_28 : decode cJ5_ensureCapacityInternal_d00df 28 = .ok (.getfield 22, 3) := by decide +kernel
theorem dJ5_ensureCapacityInternal_d00df_31 : decode cJ5_ensureCapacityInternal_d00df 31 = .ok (.ishl, 1) := by decide +kernel
theorem dJ5_ensureCapacityInternal_d00df_32 : decode cJ5_ensureCapacityInternal_d00df 32 = .ok (.invokestatic 108, 3) := by decide +kernel
theorem dJ5_ensureCapacityInternal_d00df_35 : decode cJ5_ensureCapacityInternal_d00df 35 = .ok (.putfield 15, 3) := by decide +kernel
theorem dJ5_ensureCapacityInternal_d00df_38 : decode cJ5_ensureCapacityInternal_d00df 38 = .ok (.return_, 1) := by decide +kernel
theorem dJ5_newCapacity_0f7a4_0 : decode cJ5_newCapacity_0f7a4 0 = .ok (.aload_n 0, 1) := by decide +kernel
theorem dJ5_newCapacity_0f7a4_1 : decode cJ5_newCapacity_0f7a4 1 = .ok (.getfield 15, 3) := by decide +kernel
theorem dJ5_newCapacity_0f7a4_4 : decode cJ5_newCapacity_0f7a4 4 = .ok (.arraylength, 1) := by decide +kernel
theorem dJ5_newCapacity_0f7a4_5 : decode cJ5_newCapacity_0f7a4 5 = .ok (.istore_n 2, 1) := by decide +kernel
theorem dJ5_newCapacity_0f7a4_6 : decode cJ5_newCapacity_0f7a4 6 = .ok (.iload_n 1, 1) := by decide +kernel
theorem dJ5_newCapacity_0f7a4_7 : decode cJ5_newCapacity_0f7a4 7 = .ok (.aload_n 0, 1) := by decide +kernel
theorem dJ5_newCapacity_0f7a4_8 : decode cJ5_newCapacity_0f7a4 8 = .ok (.getfield 22, 3) := by decide +kernel
theorem dJ5_newCapacity_0f7a4_11 : decode cJ5_newCapacity_0f7a4 11 = .ok (.ishl, 1) := by decide +kernel
theorem dJ5_newCapacity_0f7a4_12 : decode cJ5_newCapacity_0f7a4 12 = .ok (.istore_n 3, 1) := by decide +kernel
theorem dJ5_newCapacity_0f7a4_13 : decode cJ5_newCapacity_0f7a4 13 = .ok (.iload_n 3, 1) := by decide +kernel
theorem dJ5_newCapacity_0f7a4_14 : decode cJ5_newCapacity_0f7a4 14 = .ok (.iload_n 2, 1) := by decide +kernel
theorem dJ5_newCapacity_0f7a4_15 : decode cJ5_newCapacity_0f7a4 15 = .ok (.isub, 1) := by decide +kernel
theorem dJ5_newCapacity_0f7a4_16 : decode cJ5_newCapacity_0f7a4 16 = .ok (.istore 4, 2) := by decide +kernel
theorem dJ5_newCapacity_0f7a4_18 : decode cJ5_newCapacity_0f7a4 18 = .ok (.iload_n 2, 1) := by decide +kernel
theorem dJ5_newCapacity_0f7a4_19 : decode cJ5_newCapacity_0f7a4 19 = .ok (.iload 4, 2) := by decide +kernel
theorem dJ5_newCapacity_0f7a4_21 : decode cJ5_newCapacity_0f7a4 21 = .ok (.iload_n 2, 1) := by decide +kernel
theorem dJ5_newCapacity_0f7a4_22 : decode cJ5_newCapacity_0f7a4 22 = .ok (.iconst 2, 1) := by decide +kernel
theorem dJ5_newCapacity_0f7a4_23 : decode cJ5_newCapacity_0f7a4 23 = .ok (.aload_n 0, 1) := by decide +kernel
theorem dJ5_newCapacity_0f7a4_24 : decode cJ5_newCapacity_0f7a4 24 = .ok (.getfield 22, 3) := by decide +kernel
theorem dJ5_newCapacity_0f7a4_27 : decode cJ5_newCapacity_0f7a4 27 = .ok (.ishl, 1) := by decide +kernel
theorem dJ5_newCapacity_0f7a4_28 : decode cJ5_newCapacity_0f7a4 28 = .ok (.iadd, 1) := by decide +kernel
theorem dJ5_newCapacity_0f7a4_29 : decode cJ5_newCapacity_0f7a4 29 = .ok (.invokestatic 114, 3) := by decide +kernel
theorem dJ5_newCapacity_0f7a4_32 : decode cJ5_newCapacity_0f7a4 32 = .ok (.istore 5, 2) := by decide +kernel
theorem dJ5_newCapacity_0f7a4_34 : decode cJ5_newCapacity_0f7a4 34 = .ok (.iload 5, 2) := by decide +kernel
theorem dJ5_newCapacity_0f7a4_36 : decode cJ5_newCapacity_0f7a4 36 = .ok (.ldc 39, 2) := by decide +kernel
theorem dJ5_newCapacity_0f7a4_38 : decode cJ5_newCapacity_0f7a4 38 = .ok (.if_icmp .ne 13, 3) := by decide +kernel
theorem dJ5_newCapacity_0f7a4_41 : decode cJ5_newCapacity_0f7a4 41 = .ok (.new 120, 3) := by decide +kernel
theorem dJ5_newCapacity_0f7a4_44 : decode cJ5_newCapacity_0f7a4 44 = .ok (.dup, 1) := by decide +kernel
theorem dJ5_newCapacity_0f7a4_45 : decode cJ5_newCapacity_0f7a4 45 = .ok (.ldc 122, 2) := by decide +kernel
theorem dJ5_newCapacity_0f7a4_47 : decode cJ5_newCapacity_0f7a4 47 = .ok (.invokespecial 124, 3) := by decide +kernel
theorem dJ5_newCapacity_0f7a4_50 : decode cJ5_newCapacity_0f7a4 50 = .ok (.athrow, 1) := by decide +kernel
theorem dJ5_newCapacity_0f7a4_51 : decode cJ5_newCapacity_0f7a4 51 = .ok (.iload 5, 2) := by decide +kernel
theorem dJ5_newCapacity_0f7a4_53 : decode cJ5_newCapacity_0f7a4 53 = .ok (.aload_n 0, 1) := by decide +kernel
theorem dJ5_newCapacity_0f7a4_54 : decode cJ5_newCapacity_0f7a4 54 = .ok (.getfield 22, 3) := by decide +kernel
theorem dJ5_newCapacity_0f7a4_57 : decode cJ5_newCapacity_0f7a4 57 = .ok (.ishr, 1) := by decide +kernel
theorem dJ5_newCapacity_0f7a4_58 : decode cJ5_newCapacity_0f7a4 58 = .ok (.ireturn, 1) := by decide +kernel
theorem dJ5_append_3fe6f_0 : decode cJ5_append_3fe6f 0 = .ok (.aload_n 0, 1) := by decide +kernel
theorem dJ5_append_3fe6f_1 : decode cJ5_append_3fe6f 1 = .ok (.aload_n 0, 1) := by decide +kernel
theorem dJ5_append_3fe6f_2 : decode cJ5_append_3fe6f 2 = .ok (.getfield 79, 3) := by decide +kernel
theorem dJ5_append_3fe6f_5 : decode cJ5_append_3fe6f 5 = .ok (.iconst 1, 1) := by decide +kernel
theorem dJ5_append_3fe6f_6 : decode cJ5_append_3fe6f 6 = .ok (.iadd, 1) := by decide +kernel
theorem dJ5_append_3fe6f_7 : decode cJ5_append_3fe6f 7 = .ok (.invokevirtual 100, 3) := by decide +kernel
theorem dJ5_append_3fe6f_10 : decode cJ5_append_3fe6f 10 = .ok (.aload_n 0, 1) := by decide +kernel
theorem dJ5_append_3fe6f_11 : decode cJ5_append_3fe6f 11 = .ok (.invokevirtual 83, 3) := by decide +kernel
theorem dJ5_append_3fe6f_14 : decode cJ5_append_3fe6f 14 = .ok (.ifCond .eq 31, 3) := by decide +kernel
theorem dJ5_append_3fe6f_17 : decode cJ5_append_3fe6f 17 = .ok (.iload_n 1, 1) := by decide +kernel
theorem dJ5_append_3fe6f_18 : decode cJ5_append_3fe6f 18 = .ok (.invokestatic 191, 3) := by decide +kernel
theorem dJ5_append_3fe6f_21 : decode cJ5_append_3fe6f 21 = .ok (.ifCond .eq 24, 3) := by decide +kernel
theorem dJ5_append_3fe6f_24 : decode cJ5_append_3fe6f 24 = .ok (.aload_n 0, 1) := by decide +kernel
theorem dJ5_append_3fe6f_25 : decode cJ5_append_3fe6f 25 = .ok (.getfield 15, 3) := by decide +kernel
theorem dJ5_append_3fe6f_28 : decode cJ5_append_3fe6f 28 = .ok (.aload_n 0, 1) := by decide +kernel
theorem dJ5_append_3fe6f_29 : decode cJ5_append_3fe6f 29 = .ok (.dup, 1) := by decide +kernel
theorem dJ5_append_3fe6f_30 : decode cJ5_append_3fe6f 30 = .ok (.getfield 79, 3) := by decide +kernel
theorem dJ5_append_3fe6f_33 : decode cJ5_append_3fe6f 33 = .ok (.dup_x1, 1) := by decide +kernel
theorem dJ5_append_3fe6f_34 : decode cJ5_append_3fe6f 34 = .ok (.iconst 1, 1) := by decide +kernel
theorem dJ5_append_3fe6f_35 : decode cJ5_append_3fe6f 35 = .ok (.iadd, 1) := by decide +kernel
theorem dJ5_append_3fe6f_36 : decode cJ5_append_3fe6f 36 = .ok (.putfield 79, 3) := by decide +kernel
theorem dJ5_append_3fe6f_39 : decode cJ5_append_3fe6f 39 = .ok (.iload_n 1, 1) := by decide +kernel
theorem dJ5_append_3fe6f_40 : decode cJ5_append_3fe6f 40 = .ok (.i2b, 1) := by decide +kernel
theorem dJ5_append_3fe6f_41 : decode cJ5_append_3fe6f 41 = .ok (.bastore, 1) := by decide +kernel
theorem dJ5_append_3fe6f_42 : decode cJ5_append_3fe6f 42 = .ok (.goto 33, 3) := by decide +kernel
theorem dJ5_append_3fe6f_45 : decode cJ5_append_3fe6f 45 = .ok (.aload_n 0, 1) := by decide +kernel
theorem dJ5_append_3fe6f_46 : decode cJ5_append_3fe6f 46 = .ok (.invokevirtual 83, 3) := by decide +kernel
theorem dJ5_append_3fe6f_49 : decode cJ5_append_3fe6f 49 = .ok (.ifCond .eq 7, 3) := by decide +kernel
theorem dJ5_append_3fe6f_52 : decode cJ5_append_3fe6f 52 = .ok (.aload_n 0, 1) := by decide +kernel
theorem dJ5_append_3fe6f_53 : decode cJ5_append_3fe6f 53 = .ok (.invokevirtual 195, 3) := by decide +kernel
theorem dJ5_append_3fe6f_56 : decode cJ5_append_3fe6f 56 = .ok (.aload_n 0, 1) := by decide +kernel
theorem dJ5_append_3fe6f_57 : decode cJ5_append_3fe6f 57 = .ok (.getfield 15, 3) := by decide +kernel
theorem dJ5_append_3fe6f_60 : decode cJ5_append_3fe6f 60 = .ok (.aload_n 0, 1) := by decide +kernel
theorem dJ5_append_3fe6f_61 : decode cJ5_append_3fe6f 61 = .ok (.dup, 1) := by decide +kernel
theorem dJ5_append_3fe6f_62 : decode cJ5_append_3fe6f 62 = .ok (.getfield 79, 3) := by decide +kernel
theorem dJ5_append_3fe6f_65 : decode cJ5_append_3fe6f 65 = .ok (.dup_x1, 1) := by decide +kernel
theorem dJ5_append_3fe6f_66 : decode cJ5_append_3fe6f 66 = .ok (.iconst 1, 1) := by decide +kernel
theorem dJ5_append_3fe6f_67 : decode cJ5_append_3fe6f 67 = .ok (.iadd, 1) := by decide +kernel
theorem dJ5_append_3fe6f_68 : decode cJ5_append_3fe6f 68 = .ok (.putfield 79, 3) := by decide +kernel
theorem dJ5_append_3fe6f_71 : decode cJ5_append_3fe6f 71 = .ok (.iload_n 1, 1) := by decide +kernel
theorem dJ5_append_3fe6f_72 : decode cJ5_append_3fe6f 72 = .ok (.invokestatic 197, 3) := by decide +kernel
theorem dJ5_append_3fe6f_75 : decode cJ5_append_3fe6f 75 = .ok (.aload_n 0, 1) := by decide +kernel
theorem dJ5_append_3fe6f_76 : decode cJ5_append_3fe6f 76 = .ok (.areturn, 1) := by decide +kernel
theorem dJ5_getValue_6d5f1_0 : decode cJ5_getValue_6d5f1 0 = .ok (.aload_n 0, 1) := by decide +kernel
theorem dJ5_getValue_6d5f1_1 : decode cJ5_getValue_6d5f1 1 = .ok (.getfield 15, 3) := by decide +kernel
theorem dJ5_getValue_6d5f1_4 : decode cJ5_getValue_6d5f1 4 = .ok (.areturn, 1) := by decide +kernel
theorem dJ5_isLatin1_aae02_0 : decode cJ5_isLatin1_aae02 0 = .ok (.getstatic 18, 3) := by decide +kernel
theorem dJ5_isLatin1_aae02_3 : decode cJ5_isLatin1_aae02 3 = .ok (.ifCond .eq 14, 3) := by decide +kernel
theorem dJ5_isLatin1_aae02_6 : decode cJ5_isLatin1_aae02 6 = .ok (.aload_n 0, 1) := by decide +kernel
theorem dJ5_isLatin1_aae02_7 : decode cJ5_isLatin1_aae02 7 = .ok (.getfield 22, 3) := by decide +kernel
theorem dJ5_isLatin1_aae02_10 : decode cJ5_isLatin1_aae02 10 = .ok (.ifCond .ne 7, 3) := by decide +kernel
theorem dJ5_isLatin1_aae02_13 : decode cJ5_isLatin1_aae02 13 = .ok (.iconst 1, 1) := by decide +kernel
theorem dJ5_isLatin1_aae02_14 : decode cJ5_isLatin1_aae02 14 = .ok (.goto 4, 3) := by decide +kernel
theorem dJ5_isLatin1_aae02_17 : decode cJ5_isLatin1_aae02 17 = .ok (.iconst 0, 1) := by decide +kernel
theorem dJ5_isLatin1_aae02_18 : decode cJ5_isLatin1_aae02 18 = .ok (.ireturn, 1) := by decide +kernel
theorem dJ0_init_81219_0 : decode cJ0_init_81219 0 = .ok (.aload_n 0, 1) := by decide +kernel
theorem dJ0_init_81219_1 : decode cJ0_init_81219 1 = .ok (.aload_n 1, 1) := by decide +kernel
theorem dJ0_init_81219_2 : decode cJ0_init_81219 2 = .ok (.aconst_null, 1) := by decide +kernel
theorem dJ0_init_81219_3 : decode cJ0_init_81219 3 = .ok (.invokespecial 489, 3) := by decide +kernel
theorem dJ0_init_81219_6 : decode cJ0_init_81219 6 = .ok (.return_, 1) := by decide +kernel
theorem dJ0_init_db425_0 : decode cJ0_init_db425 0 = .ok (.aload_n 0, 1) := by decide +kernel
theorem dJ0_init_db425_1 : decode cJ0_init_db425 1 = .ok (.invokespecial 1, 3) := by decide +kernel
theorem dJ0_init_db425_4 : decode cJ0_init_db425 4 = .ok (.aload_n 1, 1) := by decide +kernel
theorem dJ0_init_db425_5 : decode cJ0_init_db425 5 = .ok (.invokevirtual 552, 3) := by decide +kernel
theorem dJ0_init_db425_8 : decode cJ0_init_db425 8 = .ok (.astore_n 3, 1) := by decide +kernel
theorem dJ0_init_db425_9 : decode cJ0_init_db425 9 = .ok (.aload_n 1, 1) := by decide +kernel
theorem dJ0_init_db425_10 : decode cJ0_init_db425 10 = .ok (.invokevirtual 549, 3) := by decide +kernel
theorem dJ0_init_db425_13 : decode cJ0_init_db425 13 = .ok (.istore 4, 2) := by decide +kernel
theorem dJ0_init_db425_15 : decode cJ0_init_db425 15 = .ok (.aload_n 1, 1) := by decide +kernel
theorem dJ0_init_db425_16 : decode cJ0_init_db425 16 = .ok (.invokevirtual 1047, 3) := by decide +kernel
theorem dJ0_init_db425_19 : decode cJ0_init_db425 19 = .ok (.ifCond .eq 22, 3) := by decide +kernel
theorem dJ0_init_db425_22 : decode cJ0_init_db425 22 = .ok (.aload_n 0, 1) := by decide +kernel
theorem dJ0_init_db425_23 : decode cJ0_init_db425 23 = .ok (.iconst 0, 1) := by decide +kernel
theorem dJ0_init_db425_24 : decode cJ0_init_db425 24 = .ok (.putfield 15, 3) := by decide +kernel
theorem dJ0_init_db425_27 : decode cJ0_init_db425 27 = .ok (.aload_n 0, 1) := by decide +kernel
theorem dJ0_init_db425_28 : decode cJ0_init_db425 28 = .ok (.aload_n 3, 1) := by decide +kernel
theorem dJ0_init_db425_29 : decode cJ0_init_db425 29 = .ok (.iconst 0, 1) := by decide +kernel
theorem dJ0_init_db425_30 : decode cJ0_init_db425 30 = .ok (.iload 4, 2) := by decide +kernel
theorem dJ0_init_db425_32 : decode cJ0_init_db425 32 = .ok (.invokestatic 54, 3) := by decide +kernel
theorem dJ0_init_db425_35 : decode cJ0_init_db425 35 = .ok (.putfield 9, 3) := by decide +kernel
theorem dJ0_init_db425_38 : decode cJ0_init_db425 38 = .ok (.goto 59, 3) := by decide +kernel
theorem dJ0_init_db425_41 : decode cJ0_init_db425 41 = .ok (.getstatic 38, 3) := by decide +kernel
theorem dJ0_init_db425_44 : decode cJ0_init_db425 44 = .ok (.ifCond .eq 35, 3) := by decide +kernel
theorem dJ0_init_db425_47 : decode cJ0_init_db425 47 = .ok (.aload_n 1, 1) := by decide +kernel
theorem dJ0_init_db425_48 : decode cJ0_init_db425 48 = .ok (.getfield 1048, 3) := by decide +kernel
theorem dJ0_init_db425_51 : decode cJ0_init_db425 51 = .ok (.ifCond .eq 28, 3) := by decide +kernel
theorem dJ0_init_db425_54 : decode cJ0_init_db425 54 = .ok (.aload_n 0, 1) := by decide +kernel
theorem dJ0_init_db425_55 : decode cJ0_init_db425 55 = .ok (.aload_n 3, 1) := by decide +kernel
theorem dJ0_init_db425_56 : decode cJ0_init_db425 56 = .ok (.iconst 0, 1) := by decide +kernel
theorem dJ0_init_db425_57 : decode cJ0_init_db425 57 = .ok (.iload 4, 2) := by decide +kernel
theorem dJ0_init_db425_59 : decode cJ0_init_db425 59 = .ok (.invokestatic 1051, 3) := by decide +kernel
theorem dJ0_init_db425_62 : decode cJ0_init_db425 62 = .ok (.putfield 9, 3) := by decide +kernel
theorem dJ0_init_db425_65 : decode cJ0_init_db425 65 = .ok (.aload_n 0, 1) := by decide +kernel
theorem dJ0_init_db425_66 : decode cJ0_init_db425 66 = .ok (.aload_n 0, 1) := by decide +kernel
theorem dJ0_init_db425_67 : decode cJ0_init_db425 67 = .ok (.getfield 9, 3) := by decide +kernel
theorem dJ0_init_db425_70 : decode cJ0_init_db425 70 = .ok (.iload 4, 2) := by decide +kernel
theorem dJ0_init_db425_72 : decode cJ0_init_db425 72 = .ok (.invokestatic 47, 3) := by decide +kernel
theorem dJ0_init_db425_75 : decode cJ0_init_db425 75 = .ok (.putfield 15, 3) := by decide +kernel
theorem dJ0_init_db425_78 : decode cJ0_init_db425 78 = .ok (.return_, 1) := by decide +kernel
theorem dJ0_init_db425_79 : decode cJ0_init_db425 79 = .ok (.aload_n 0, 1) := by decide +kernel
theorem dJ0_init_db425_80 : decode cJ0_init_db425 80 = .ok (.iconst 1, 1) := by decide +kernel
theorem dJ0_init_db425_81 : decode cJ0_init_db425 81 = .ok (.putfield 15, 3) := by decide +kernel
theorem dJ0_init_db425_84 : decode cJ0_init_db425 84 = .ok (.aload_n 0, 1) := by decide +kernel
theorem dJ0_init_db425_85 : decode cJ0_init_db425 85 = .ok (.aload_n 3, 1) := by decide +kernel
theorem dJ0_init_db425_86 : decode cJ0_init_db425 86 = .ok (.iconst 0, 1) := by decide +kernel
theorem dJ0_init_db425_87 : decode cJ0_init_db425 87 = .ok (.iload 4, 2) := by decide +kernel
theorem dJ0_init_db425_89 : decode cJ0_init_db425 89 = .ok (.iconst 1, 1) := by decide +kernel
theorem dJ0_init_db425_90 : decode cJ0_init_db425 90 = .ok (.ishl, 1) := by decide +kernel
theorem dJ0_init_db425_91 : decode cJ0_init_db425 91 = .ok (.invokestatic 54, 3) := by decide +kernel
theorem dJ0_init_db425_94 : decode cJ0_init_db425 94 = .ok (.putfield 9, 3) := by decide +kernel
theorem dJ0_init_db425_97 : decode cJ0_init_db425 97 = .ok (.return_, 1) := by decide +kernel
theorem dJ4_init_da8c8_0 : decode cJ4_init_da8c8 0 = .ok (.aload_n 0, 1) := by decide +kernel
theorem dJ4_init_da8c8_1 : decode cJ4_init_da8c8 1 = .ok (.bipush 16, 2) := by decide +kernel
theorem dJ4_init_da8c8_3 : decode cJ4_init_da8c8 3 = .ok (.invokespecial 1, 3) := by decide +kernel
theorem dJ4_init_da8c8_6 : decode cJ4_init_da8c8 6 = .ok (.return_, 1) := by decide +kernel
theorem dJ4_append_cf468_0 : decode cJ4_append_cf468 0 = .ok (.aload_n 0, 1) := by decide +kernel
theorem dJ4_append_cf468_1 : decode cJ4_append_cf468 1 = .ok (.iload_n 1, 1) := by decide +kernel
theorem dJ4_append_cf468_2 : decode cJ4_append_cf468 2 = .ok (.invokespecial 50, 3) := by decide +kernel
theorem dJ4_append_cf468_5 : decode cJ4_append_cf468 5 = .ok (.pop, 1) := by decide +kernel
theorem dJ4_append_cf468_6 : decode cJ4_append_cf468 6 = .ok (.aload_n 0, 1) := by decide +kernel
theorem dJ4_append_cf468_7 : decode cJ4_append_cf468 7 = .ok (.areturn, 1) := by decide +kernel
theorem dJ4_toString_0e30d_0 : decode cJ4_toString_0e30d 0 = .ok (.new 18, 3) := by decide +kernel
theorem dJ4_toString_0e30d_3 : decode cJ4_toString_0e30d 3 = .ok (.dup, 1) := by decide +kernel
theorem dJ4_toString_0e30d_4 : decode cJ4_toString_0e30d 4 = .ok (.aload_n 0, 1) := by decide +kernel
theorem dJ4_toString_0e30d_5 : decode cJ4_toString_0e30d 5 = .ok (.invokespecial 137, 3) := by decide +kernel
theorem dJ4_toString_0e30d_8 : decode cJ4_toString_0e30d 8 = .ok (.areturn, 1) := by decide +kernel
theorem dJ4_length_8abf5_0 : decode cJ4_length_8abf5 0 = .ok (.aload_n 0, 1) := by decide +kernel
theorem dJ4_length_8abf5_1 : decode cJ4_length_8abf5 1 = .ok (.invokespecial 343, 3) := by decide +kernel
theorem dJ4_length_8abf5_4 : decode cJ4_length_8abf5 4 = .ok (.ireturn, 1) := by decide +kernel
theorem dJ1_canEncode_fc78d_0 : decode cJ1_canEncode_fc78d 0 = .ok (.iload_n 0, 1) := by decide +kernel
theorem dJ1_canEncode_fc78d_1 : decode cJ1_canEncode_fc78d 1 = .ok (.sipush 255, 3) := by decide +kernel
theorem dJ1_canEncode_fc78d_4 : decode cJ1_canEncode_fc78d 4 = .ok (.if_icmp .gt 7, 3) := by decide +kernel
theorem dJ1_canEncode_fc78d_7 : decode cJ1_canEncode_fc78d 7 = .ok (.iconst 1, 1) := by decide +kernel
theorem dJ1_canEncode_fc78d_8 : decode cJ1_canEncode_fc78d 8 = .ok (.goto 4, 3) := by decide +kernel
theorem dJ1_canEncode_fc78d_11 : decode cJ1_canEncode_fc78d 11 = .ok (.iconst 0, 1) := by decide +kernel
theorem dJ1_canEncode_fc78d_12 : decode cJ1_canEncode_fc78d 12 = .ok (.ireturn, 1) := by decide +kernel
theorem dJ7_copyOf_9075b_0 : decode cJ7_copyOf_9075b 0 = .ok (.iload_n 1, 1) := by decide +kernel
theorem dJ7_copyOf_9075b_1 : decode cJ7_copyOf_9075b 1 = .ok (.aload_n 0, 1) := by decide +kernel
theorem dJ7_copyOf_9075b_2 : decode cJ7_copyOf_9075b 2 = .ok (.arraylength, 1) := by decide +kernel
theorem dJ7_copyOf_9075b_3 : decode cJ7_copyOf_9075b 3 = .ok (.if_icmp .ne 11, 3) := by decide +kernel
theorem dJ7_copyOf_9075b_6 : decode cJ7_copyOf_9075b 6 = .ok (.aload_n 0, 1) := by decide +kernel
theorem dJ7_copyOf_9075b_7 : decode cJ7_copyOf_9075b 7 = .ok (.invokevirtual 310, 3) := by decide +kernel
theorem dJ7_copyOf_9075b_10 : decode cJ7_copyOf_9075b 10 = .ok (.checkcast 311, 3) := by decide +kernel
theorem dJ7_copyOf_9075b_13 : decode cJ7_copyOf_9075b 13 = .ok (.areturn, 1) := by decide +kernel
theorem dJ7_copyOf_9075b_14 : decode cJ7_copyOf_9075b 14 = .ok (.iload_n 1, 1) := by decide +kernel
theorem dJ7_copyOf_9075b_15 : decode cJ7_copyOf_9075b 15 = .ok (.newarray .byte, 2) := by decide +kernel
theorem dJ7_copyOf_9075b_17 : decode cJ7_copyOf_9075b 17 = .ok (.astore_n 2, 1) := by decide +kernel
theorem dJ7_copyOf_9075b_18 : decode cJ7_copyOf_9075b 18 = .ok (.aload_n 0, 1) := by decide +kernel
theorem dJ7_copyOf_9075b_19 : decode cJ7_copyOf_9075b 19 = .ok (.iconst 0, 1) := by decide +kernel
theorem dJ7_copyOf_9075b_20 : decode cJ7_copyOf_9075b 20 = .ok (.aload_n 2, 1) := by decide +kernel
theorem dJ7_copyOf_9075b_21 : decode cJ7_copyOf_9075b 21 = .ok (.iconst 0, 1) := by decide +kernel
theorem dJ7_copyOf_9075b_22 : decode cJ7_copyOf_9075b 22 = .ok (.aload_n 0, 1) := by decide +kernel
theorem dJ7_copyOf_9075b_23 : decode cJ7_copyOf_9075b 23 = .ok (.arraylength, 1) := by decide +kernel
theorem dJ7_copyOf_9075b_24 : decode cJ7_copyOf_9075b 24 = .ok (.iload_n 1, 1) := by decide +kernel
theorem dJ7_copyOf_9075b_25 : decode cJ7_copyOf_9075b 25 = .ok (.invokestatic 304, 3) := by decide +kernel
theorem dJ7_copyOf_9075b_28 : decode cJ7_copyOf_9075b 28 = .ok (.invokestatic 150, 3) := by decide +kernel
theorem dJ7_copyOf_9075b_31 : decode cJ7_copyOf_9075b 31 = .ok (.aload_n 2, 1) := by decide +kernel
theorem dJ7_copyOf_9075b_32 : decode cJ7_copyOf_9075b 32 = .ok (.areturn, 1) := by decide +kernel
theorem dJ7_checkLength_df160_0 : decode cJ7_checkLength_df160 0 = .ok (.iload_n 1, 1) := by decide +kernel
theorem dJ7_checkLength_df160_1 : decode cJ7_checkLength_df160 1 = .ok (.iload_n 0, 1) := by decide +kernel
theorem dJ7_checkLength_df160_2 : decode cJ7_checkLength_df160 2 = .ok (.if_icmp .ge 35, 3) := by decide +kernel
theorem dJ7_checkLength_df160_5 : decode cJ7_checkLength_df160 5 = .ok (.new 43, 3) := by decide +kernel
theorem dJ7_checkLength_df160_8 : decode cJ7_checkLength_df160 8 = .ok (.dup, 1) := by decide +kernel
theorem dJ7_checkLength_df160_9 : decode cJ7_checkLength_df160 9 = .ok (.new 45, 3) := by decide +kernel
theorem dJ7_checkLength_df160_12 : decode cJ7_checkLength_df160 12 = .ok (.dup, 1) := by decide +kernel
theorem dJ7_checkLength_df160_13 : decode cJ7_checkLength_df160 13 = .ok (.invokespecial 47, 3) := by decide +kernel
theorem dJ7_checkLength_df160_16 : decode cJ7_checkLength_df160 16 = .ok (.iload_n 0, 1) := by decide +kernel
theorem dJ7_checkLength_df160_17 : decode cJ7_checkLength_df160 17 = .ok (.invokevirtual 54, 3) := by decide +kernel
theorem dJ7_checkLength_df160_20 : decode cJ7_checkLength_df160 20 = .ok (.ldc_w 337, 3) := by decide +kernel
theorem dJ7_checkLength_df160_23 : decode cJ7_checkLength_df160 23 = .ok (.invokevirtual 50, 3) := by decide +kernel
theorem dJ7_checkLength_df160_26 : decode cJ7_checkLength_df160 26 = .ok (.iload_n 1, 1) := by decide +kernel
theorem dJ7_checkLength_df160_27 : decode cJ7_checkLength_df160 27 = .ok (.invokevirtual 54, 3) := by decide +kernel
theorem dJ7_checkLength_df160_30 : decode cJ7_checkLength_df160 30 = .ok (.invokevirtual 61, 3) := by decide +kernel
theorem dJ7_checkLength_df160_33 : decode cJ7_checkLength_df160 33 = .ok (.invokespecial 65, 3) := by decide +kernel
theorem dJ7_checkLength_df160_36 : decode cJ7_checkLength_df160 36 = .ok (.athrow, 1) := by decide +kernel
theorem dJ7_checkLength_df160_37 : decode cJ7_checkLength_df160 37 = .ok (.return_, 1) := by decide +kernel
theorem dJ7_copyOfRange_39247_0 : decode cJ7_copyOfRange_39247 0 = .ok (.iload_n 1, 1) := by decide +kernel
theorem dJ7_copyOfRange_39247_1 : decode cJ7_copyOfRange_39247 1 = .ok (.ifCond .ne 9, 3) := by decide +kernel
theorem dJ7_copyOfRange_39247_4 : decode cJ7_copyOfRange_39247 4 = .ok (.iload_n 2, 1) := by decide +kernel
theorem dJ7_copyOfRange_39247_5 : decode cJ7_copyOfRange_39247 5 = .ok (.aload_n 0, 1) := by decide +kernel
theorem dJ7_copyOfRange_39247_6 : decode cJ7_copyOfRange_39247 6 = .ok (.arraylength, 1) := by decide +kernel
theorem dJ7_copyOfRange_39247_7 : decode cJ7_copyOfRange_39247 7 = .ok (.if_icmp .eq 10, 3) := by decide +kernel
theorem dJ7_copyOfRange_39247_10 : decode cJ7_copyOfRange_39247 10 = .ok (.aload_n 0, 1) := by decide +kernel
theorem dJ7_copyOfRange_39247_11 : decode cJ7_copyOfRange_39247 11 = .ok (.iload_n 1, 1) := by decide +kernel
theorem dJ7_copyOfRange_39247_12 : decode cJ7_copyOfRange_39247 12 = .ok (.iload_n 2, 1) := by decide +kernel
theorem dJ7_copyOfRange_39247_13 : decode cJ7_copyOfRange_39247 13 = .ok (.invokestatic 339, 3) := by decide +kernel
theorem dJ7_copyOfRange_39247_16 : decode cJ7_copyOfRange_39247 16 = .ok (.areturn, 1) := by decide +kernel
theorem dJ7_copyOfRange_39247_17 : decode cJ7_copyOfRange_39247 17 = .ok (.aload_n 0, 1) := by decide +kernel
theorem dJ7_copyOfRange_39247_18 : decode cJ7_copyOfRange_39247 18 = .ok (.invokevirtual 310, 3) := by decide +kernel
theorem dJ7_copyOfRange_39247_21 : decode cJ7_copyOfRange_39247 21 = .ok (.checkcast 311, 3) := by decide +kernel
theorem dJ7_copyOfRange_39247_24 : decode cJ7_copyOfRange_39247 24 = .ok (.areturn, 1) := by decide +kernel
theorem dJ7_copyOfRangeByte_39247_0 : decode cJ7_copyOfRangeByte_39247 0 = .ok (.iload_n 1, 1) := by decide +kernel
theorem dJ7_copyOfRangeByte_39247_1 : decode cJ7_copyOfRangeByte_39247 1 = .ok (.iload_n 2, 1) := by decide +kernel
theorem dJ7_copyOfRangeByte_39247_2 : decode cJ7_copyOfRangeByte_39247 2 = .ok (.invokestatic 343, 3) := by decide +kernel
theorem dJ7_copyOfRangeByte_39247_5 : decode cJ7_copyOfRangeByte_39247 5 = .ok (.iload_n 2, 1) := by decide +kernel
theorem dJ7_copyOfRangeByte_39247_6 : decode cJ7_copyOfRangeByte_39247 6 = .ok (.iload_n 1, 1) := by decide +kernel
theorem dJ7_copyOfRangeByte_39247_7 : decode cJ7_copyOfRangeByte_39247 7 = .ok (.isub, 1) := by decide +kernel
theorem dJ7_copyOfRangeByte_39247_8 : decode cJ7_copyOfRangeByte_39247 8 = .ok (.istore_n 3, 1) := by decide +kernel
theorem dJ7_copyOfRangeByte_39247_9 : decode cJ7_copyOfRangeByte_39247 9 = .ok (.iload_n 3, 1) := by decide +kernel
theorem dJ7_copyOfRangeByte_39247_10 : decode cJ7_copyOfRangeByte_39247 10 = .ok (.newarray .byte, 2) := by decide +kernel
theorem dJ7_copyOfRangeByte_39247_12 : decode cJ7_copyOfRangeByte_39247 12 = .ok (.astore 4, 2) := by decide +kernel
theorem dJ7_copyOfRangeByte_39247_14 : decode cJ7_copyOfRangeByte_39247 14 = .ok (.aload_n 0, 1) := by decide +kernel
theorem dJ7_copyOfRangeByte_39247_15 : decode cJ7_copyOfRangeByte_39247 15 = .ok (.iload_n 1, 1) := by decide +kernel
theorem dJ7_copyOfRangeByte_39247_16 : decode cJ7_copyOfRangeByte_39247 16 = .ok (.aload 4, 2) := by decide +kernel
theorem dJ7_copyOfRangeByte_39247_18 : decode cJ7_copyOfRangeByte_39247 18 = .ok (.iconst 0, 1) := by decide +kernel
theorem dJ7_copyOfRangeByte_39247_19 : decode cJ7_copyOfRangeByte_39247 19 = .ok (.aload_n 0, 1) := by decide +kernel
theorem dJ7_copyOfRangeByte_39247_20 : decode cJ7_copyOfRangeByte_39247 20 = .ok (.arraylength, 1) := by decide +kernel
theorem dJ7_copyOfRangeByte_39247_21 : decode cJ7_copyOfRangeByte_39247 21 = .ok (.iload_n 1, 1) := by decide +kernel
theorem dJ7_copyOfRangeByte_39247_22 : decode cJ7_copyOfRangeByte_39247 22 = .ok (.isub, 1) := by decide +kernel
theorem dJ7_copyOfRangeByte_39247_23 : decode cJ7_copyOfRangeByte_39247 23 = .ok (.iload_n 3, 1) := by decide +kernel
theorem dJ7_copyOfRangeByte_39247_24 : decode cJ7_copyOfRangeByte_39247 24 = .ok (.invokestatic 304, 3) := by decide +kernel
theorem dJ7_copyOfRangeByte_39247_27 : decode cJ7_copyOfRangeByte_39247 27 = .ok (.invokestatic 150, 3) := by decide +kernel
theorem dJ7_copyOfRangeByte_39247_30 : decode cJ7_copyOfRangeByte_39247 30 = .ok (.aload 4, 2) := by decide +kernel
theorem dJ7_copyOfRangeByte_39247_32 : decode cJ7_copyOfRangeByte_39247 32 = .ok (.areturn, 1) := by decide +kernel
abbrev rmJ5_init_d00df : Room := { frames := 1, cells := 1, slots := 16, locals := 20 }
theorem mJ5_init_d00df {l : Launch} {G : Cx} {A : Nat → Prop} {a : Nat} (hAa : A a) : Met l yJ5_init_d00df (.code yJ5_init_d00df cJ5_init_d00df 2 (none : Option Jvm.ClassFile.FieldType) :: GW) rmJ5_init_d00df (PC G A [.ref a, .int (nI 16)] (fun H => va_at G.1 vwCl (a, .inr (1, [.null, .int 0, .int 0, .int 0])) H)) (qV A (SBs G A a 0)) 1 16 (A) := by
  refine mstart "java/lang/AbstractStringBuilder" (by decide +kernel) rfl (Nat.le_of_ble_eq_true rfl) ?_
  intro p e s m below meth c ls hx hb hr hts hown hml hlocks hname hC hA hW hl
  have hl : lv_has ls 2 [(0, .ref a), (1, .int (nI 16))] := hl
  have hK := hC.1
  have hS : va_S A s.heap s.heap [] := va_S.rf
  obtain ⟨-, -, -, -, -, -, -, zc8, -⟩ := hC.2.2.1
  have hO := hW
  refine lv_aload_n hx hb dJ5_init_d00df_0 rfl (lv_at hl 0 rfl) ?_
  refine W.objInit hx hb hown (hts _ tw_5_202) (hts _ tw_1_35) (hts _ tw_1_36) rfl (by rw [hml]; exact hl.1) rfl dJ5_init_d00df_1 (Nat.le_of_ble_eq_true rfl) (Nat.le_of_ble_eq_true rfl) ?_
  refine W.eq (g2 := F0 m 4 ls []) rfl ?_
  refine va_gets (v := .int 1) hx hb zc8 hS hown (hts _ tw_5_203) (fun _ h9 => h9) dJ5_init_d00df_4 ?_
  refine lv_if_eq (tgt := 25) hx hb dJ5_init_d00df_7 (by decide) (fun q => absurd q (by decide)) (fun _ => ?_)
  refine lv_aload_n hx hb dJ5_init_d00df_10 rfl (lv_at hl 0 rfl) ?_
  refine lv_iload_n hx hb dJ5_init_d00df_11 rfl (lv_at hl 1 rfl) ?_
  refine h_newa (D := G.1) (atype := .byte) (N := 16) (z := (16, .inl (fun _ => 0))) hx hb (hts _ tw_1_162) rfl (fun h => h) hK 2 rfl hS rfl (nI_pos (by omega)) (nI_clamp (by omega)) (show 16 * _ ≤ _ from by show 16 * 1 ≤ 536870912; omega) (Nat.le_trans (show 0 + 1 ≤ 1 by omega) (Nat.le_of_ble_eq_true rfl)) (Nat.le_trans (show 0 + 16 ≤ 16 by omega) (Nat.le_of_ble_eq_true rfl)) dJ5_init_d00df_12 (fun na H21 hna hFna z21 o21 hS => ?_)
  have n21hO : a ≠ na := fun q => absurd hO.lt (by rw [q, hna]; exact Nat.lt_irrefl _)
  have hO := at_n hO o21
  have hZ21 := hS.1
  have hMna : A na := hA na (by omega)
  refine h_put (D := G.1) (ci := 1) (C := RJ4) (T := TJ4) (N := 4) hx hb hts inJ4 tyJ4 tyJ4_ok nmJ4 hown hK hO hS hAa rfl 0 (by decide) (hts _ tw_5_205) (fun _ h9 => h9) rfl (tyJ4_ok 0 (by decide)) rfl rfl (Nat.le_of_ble_eq_true rfl) dJ5_init_d00df_14 (fun H22 L22 hO z22 o22 hS => ?_)
  have hO : va_at G.1 vwCl (a, .inr (1, [.ref na, .int 0, .int 0, .int 0])) H22 := hO
  have hFna := at_o hFna o22 (Ne.symm n21hO)
  have hZ22 := hS.1
  refine lv_aload_n hx hb dJ5_init_d00df_17 rfl (lv_at hl 0 rfl) ?_
  refine lv_iconst (v := nI 0) hx hb dJ5_init_d00df_18 (by decide) ?_
  refine h_put (D := G.1) (ci := 1) (C := RJ4) (T := TJ4) (N := 4) hx hb hts inJ4 tyJ4 tyJ4_ok nmJ4 hown hK hO hS hAa rfl 1 (by decide) (hts _ tw_5_206) (fun _ h9 => h9) rfl (tyJ4_ok 1 (by decide)) rfl rfl (Nat.le_of_ble_eq_true rfl) dJ5_init_d00df_19 (fun H23 L23 hO z23 o23 hS => ?_)
  have hO : va_at G.1 vwCl (a, .inr (1, [.ref na, .int 0, .int 0, .int 0])) H23 := hO
  have hFna := at_o hFna o23 (Ne.symm n21hO)
  have hZ23 := hS.1
  refine lv_goto (tgt := 38) hx hb dJ5_init_d00df_22 (by decide) ?_
  exact q_v hx hb hr hlocks dJ5_init_d00df_38 hS (by omega) (by omega) ⟨na, 16, _, hO, hFna, hMna, Nat.zero_le _, Nat.le_refl _, by decide, fun i hi => rfl⟩

abbrev rmJ4_init_da8c8 : Room := { frames := 2, cells := 1, slots := 16, locals := 41 }
theorem mJ4_init_da8c8 {l : Launch} {G : Cx} {A : Nat → Prop} {a : Nat} (hAa : A a) : Met l yJ4_init_da8c8 (.code yJ4_init_da8c8 cJ4_init_da8c8 1 (none : Option Jvm.ClassFile.FieldType) :: GW) rmJ4_init_da8c8 (PC G A [.ref a] (fun H => va_at G.1 vwCl (a, .inr (1, [.null, .int 0, .int 0, .int 0])) H)) (qV A (SBs G A a 0)) 1 16 (A) := by
  refine mstart "java/lang/StringBuilder" (by decide +kernel) rfl (Nat.le_of_ble_eq_true rfl) ?_
  intro p e s m below meth c ls hx hb hr hts hown hml hlocks hname hC hA hW hl
  have hl : lv_has ls 1 [(0, .ref a)] := hl
  have hK := hC.1
  have hS : va_S A s.heap s.heap [] := va_S.rf
  have hO := hW
  refine lv_aload_n hx hb dJ4_init_da8c8_0 rfl (lv_at hl 0 rfl) ?_
  refine lv_bipush (v := nI 16) hx hb dJ4_init_da8c8_1 (by decide) ?_
  refine qV_I (A := A) (A1 := A) (b := a) (As := [.int (nI 16)]) (rest := []) ⟨hx, hb, hml, hown, hts⟩ (mJ5_init_d00df (A := A) hAa) (cwI 1 hts (gI tw_5_201) rfl rfl rfl (hts _ tw_1_24) (hts _ tw_5_199) (hts _ tw_5_200) rfl (by decide +kernel) ⟨Nat.le_of_ble_eq_true rfl, Nat.le_of_ble_eq_true rfl⟩) hC hS (fun _ h => h) (fun q h => hA q (Nat.le_trans hS.1 h))  hO rfl rfl hl.1 (Nat.le_of_ble_eq_true rfl) ⟨Nat.le_trans (show 0 + 1 ≤ 1 by omega) (Nat.le_of_ble_eq_true rfl), Nat.le_trans (show 0 + 16 ≤ 16 by omega) (Nat.le_of_ble_eq_true rfl)⟩ dJ4_init_da8c8_3 (fun H24 L24 hP24 hk24 hS => ?_)
  have hZ24 := hS.1
  exact q_v hx hb hr hlocks dJ4_init_da8c8_6 hS (by omega) (by omega) hP24

abbrev rmJ5_isLatin1_aae02 : Room := { frames := 1, cells := 0, slots := 0, locals := 20 }
theorem mJ5_isLatin1_aae02 {l : Launch} {G : Cx} {A : Nat → Prop} {a va n : Nat} : Met l yJ5_isLatin1_aae02 (.code yJ5_isLatin1_aae02 cJ5_isLatin1_aae02 1 (some .boolean) :: GW) rmJ5_isLatin1_aae02 (PC G A [.ref a] (fun H => va_at G.1 vwCl (a, .inr (1, [.ref va, .int 0, .int 0, .int (nI n)])) H)) (vp_Si (fun r => r = bI true)) 0 0 (fun _ => False) := by
  refine mstart "java/lang/AbstractStringBuilder" (by decide +kernel) rfl (Nat.le_of_ble_eq_true rfl) ?_
  intro p e s m below meth c ls hx hb hr hts hown hml hlocks hname hC hA hW hl
  have hl : lv_has ls 1 [(0, .ref a)] := hl
  have hK := hC.1
  have hS : va_S A s.heap s.heap [] := va_S.rf
  obtain ⟨-, -, -, -, -, -, -, zc8, -⟩ := hC.2.2.1
  have hO := hW
  refine va_gets (v := .int 1) hx hb zc8 hS hown (hts _ tw_5_203) (fun _ h9 => h9) dJ5_isLatin1_aae02_0 ?_
  refine lv_if_eq (tgt := 17) hx hb dJ5_isLatin1_aae02_3 (by decide) (fun q => absurd q (by decide)) (fun _ => ?_)
  refine lv_aload_n hx hb dJ5_isLatin1_aae02_6 rfl (lv_at hl 0 rfl) ?_
  refine va_get (D := G.1) (ci := 1) (C := RJ4) (T := TJ4) (N := 4) hx hb hts inJ4 hown hK (at_P hO) 0 rfl rfl 1 (by decide) (hts _ tw_5_206) (fun _ h9 => h9) rfl dJ5_isLatin1_aae02_7 ?_
  refine lv_if_ne (tgt := 17) hx hb dJ5_isLatin1_aae02_10 (by decide) (fun q => absurd rfl q) (fun _ => ?_)
  refine lv_iconst (v := nI 1) hx hb dJ5_isLatin1_aae02_13 (by decide) ?_
  refine lv_goto (tgt := 18) hx hb dJ5_isLatin1_aae02_14 (by decide) ?_
  exact p_z (b := true) hx hb hr hlocks dJ5_isLatin1_aae02_18 rfl

abbrev rmJ1_canEncode_fc78d : Room := { frames := 0, cells := 0, slots := 0, locals := 0 }
theorem mJ1_canEncode_fc78d {l : Launch} {G : Cx} {A : Nat → Prop} {k0 : Nat} (hk0 : k0 < 256) : Met l yJ1_canEncode_fc78d (.code yJ1_canEncode_fc78d cJ1_canEncode_fc78d 1 (some .boolean) :: GW) rmJ1_canEncode_fc78d (PC G A [.int (nI k0)] (fun _ => True)) (vp_Si (fun r => r = bI true)) 0 0 (fun _ => False) := by
  refine mstart "java/lang/StringLatin1" (by decide +kernel) rfl (Nat.le_of_ble_eq_true rfl) ?_
  intro p e s m below meth c ls hx hb hr hts hown hml hlocks hname hC hA hW hl
  have hl : lv_has ls 1 [(0, .int (nI k0))] := hl
  have hK := hC.1
  have hS : va_S A s.heap s.heap [] := va_S.rf
  refine lv_iload_n hx hb dJ1_canEncode_fc78d_0 rfl (lv_at hl 0 rfl) ?_
  refine lv_sipush (v := nI 255) hx hb dJ1_canEncode_fc78d_1 (by decide) ?_
  refine b_gt (tgt := 11) hx hb dJ1_canEncode_fc78d_4 (by decide) (by omega) (by omega) (fun c_25 => ?_) (fun c_25 => ?_)
  · exact absurd c_25 (by omega)
  · refine lv_iconst (v := nI 1) hx hb dJ1_canEncode_fc78d_7 (by decide) ?_
    refine lv_goto (tgt := 12) hx hb dJ1_canEncode_fc78d_8 (by decide) ?_
    exact p_z (b := true) hx hb hr hlocks dJ1_canEncode_fc78d_12 rfl

abbrev rmJ5_getValue_6d5f1 : Room := { frames := 1, cells := 0, slots := 0, locals := 20 }
theorem mJ5_getValue_6d5f1 {l : Launch} {G : Cx} {A : Nat → Prop} {a va n : Nat} : Met l yJ5_getValue_6d5f1 (.code yJ5_getValue_6d5f1 cJ5_getValue_6d5f1 1 (some (.array .byte)) :: GW) rmJ5_getValue_6d5f1 (PC G A [.ref a] (fun H => va_at G.1 vwCl (a, .inr (1, [.ref va, .int 0, .int 0, .int (nI n)])) H)) (pR (fun r => r = va)) 0 0 (fun _ => False) := by
  refine mstart "java/lang/AbstractStringBuilder" (by decide +kernel) rfl (Nat.le_of_ble_eq_true rfl) ?_
  intro p e s m below meth c ls hx hb hr hts hown hml hlocks hname hC hA hW hl
  have hl : lv_has ls 1 [(0, .ref a)] := hl
  have hK := hC.1
  have hS : va_S A s.heap s.heap [] := va_S.rf
  have hO := hW
  refine lv_aload_n hx hb dJ5_getValue_6d5f1_0 rfl (lv_at hl 0 rfl) ?_
  refine va_get (D := G.1) (ci := 1) (C := RJ4) (T := TJ4) (N := 4) hx hb hts inJ4 hown hK (at_P hO) 0 rfl rfl 0 (by decide) (hts _ tw_5_205) (fun _ h9 => h9) rfl dJ5_getValue_6d5f1_1 ?_
  exact p_a hx hb hr (Or.inr ⟨_, rfl⟩) hlocks dJ5_getValue_6d5f1_4 rfl

abbrev rmJ5_length_8abf5 : Room := { frames := 1, cells := 0, slots := 0, locals := 20 }
theorem mJ5_length_8abf5 {l : Launch} {G : Cx} {A : Nat → Prop} {a va n : Nat} : Met l yJ5_length_8abf5 (.code yJ5_length_8abf5 cJ5_length_8abf5 1 (some .int) :: GW) rmJ5_length_8abf5 (PC G A [.ref a] (fun H => va_at G.1 vwCl (a, .inr (1, [.ref va, .int 0, .int 0, .int (nI n)])) H)) (vp_Si (fun r => r = nI n)) 0 0 (fun _ => False) := by
  refine mstart "java/lang/AbstractStringBuilder" (by decide +kernel) rfl (Nat.le_of_ble_eq_true rfl) ?_
  intro p e s m below meth c ls hx hb hr hts hown hml hlocks hname hC hA hW hl
  have hl : lv_has ls 1 [(0, .ref a)] := hl
  have hK := hC.1
  have hS : va_S A s.heap s.heap [] := va_S.rf
  have hO := hW
  refine lv_aload_n hx hb dJ5_length_8abf5_0 rfl (lv_at hl 0 rfl) ?_
  refine va_get (D := G.1) (ci := 1) (C := RJ4) (T := TJ4) (N := 4) hx hb hts inJ4 hown hK (at_P hO) 0 rfl rfl 3 (by decide) (hts _ tw_5_208) (fun _ h9 => h9) rfl dJ5_length_8abf5_1 ?_
  exact p_i hx hb hr hlocks dJ5_length_8abf5_4 rfl

abbrev rmJ5_newCapacity_0f7a4 : Room := { frames := 2, cells := 0, slots := 0, locals := 43 }
theorem mJ5_newCapacity_0f7a4 {l : Launch} {G : Cx} {A : Nat → Prop} {a va n cap : Nat} {g : Nat → Int32} (hc : cap ≤ 1000) : Met l yJ5_newCapacity_0f7a4 (.code yJ5_newCapacity_0f7a4 cJ5_newCapacity_0f7a4 6 (some .int) :: GW) rmJ5_newCapacity_0f7a4 (PC G A [.ref a, .int (nI (cap + 1))] (fun H => va_at G.1 vwCl (a, .inr (1, [.ref va, .int 0, .int 0, .int (nI n)])) H ∧ va_at G.1 vwCl (va, .inl (G.2.1 2, cap, .inl g)) H)) (vp_Si (fun r => r = nI (cap + max 1 (cap + 2)))) 0 0 (fun _ => False) := by
  refine mstart "java/lang/AbstractStringBuilder" (by decide +kernel) rfl (Nat.le_of_ble_eq_true rfl) ?_
  intro p e s m below meth c ls hx hb hr hts hown hml hlocks hname hC hA hW hl
  have hl : lv_has ls 6 [(0, .ref a), (1, .int (nI (cap + 1)))] := hl
  have hK := hC.1
  have hS : va_S A s.heap s.heap [] := va_S.rf
  obtain ⟨hO, hB⟩ := hW
  have hm1 := Nat.le_max_left 1 (cap + 2)
  have hm2 : max 1 (cap + 2) ≤ cap + 2 := Nat.max_le.mpr ⟨by omega, Nat.le_refl _⟩
  refine lv_aload_n hx hb dJ5_newCapacity_0f7a4_0 rfl (lv_at hl 0 rfl) ?_
  refine va_get (D := G.1) (ci := 1) (C := RJ4) (T := TJ4) (N := 4) hx hb hts inJ4 hown hK (at_P hO) 0 rfl rfl 0 (by decide) (hts _ tw_5_205) (fun _ h9 => h9) rfl dJ5_newCapacity_0f7a4_1 ?_
  refine va_alen hx hb hK (at_P hB) 0 2 (v := nI cap) rfl rfl rfl dJ5_newCapacity_0f7a4_4 ?_
  refine lv_istore_n (lv' := [(2, .int (nI cap)), (0, .ref a), (1, .int (nI (cap + 1)))]) hx hb dJ5_newCapacity_0f7a4_5 rfl hl (by decide) rfl (fun ls hl => ?_)
  refine lv_iload_n hx hb dJ5_newCapacity_0f7a4_6 rfl (lv_at hl 2 rfl) ?_
  refine lv_aload_n hx hb dJ5_newCapacity_0f7a4_7 rfl (lv_at hl 1 rfl) ?_
  refine va_get (D := G.1) (ci := 1) (C := RJ4) (T := TJ4) (N := 4) hx hb hts inJ4 hown hK (at_P hO) 0 rfl rfl 1 (by decide) (hts _ tw_5_206) (fun _ h9 => h9) rfl dJ5_newCapacity_0f7a4_8 ?_
  refine lv_ishl hx hb dJ5_newCapacity_0f7a4_11 ?_
  refine lv_cv (show _ = nI (cap + 1) from (pk_shlN _ 0 (by decide) (by omega)).trans (by rw [Nat.pow_zero, Nat.mul_one])) ?_
  refine lv_istore_n (lv' := [(3, .int (nI (cap + 1))), (2, .int (nI cap)), (0, .ref a), (1, .int (nI (cap + 1)))]) hx hb dJ5_newCapacity_0f7a4_12 rfl hl (by decide) rfl (fun ls hl => ?_)
  refine lv_iload_n hx hb dJ5_newCapacity_0f7a4_13 rfl (lv_at hl 0 rfl) ?_
  refine lv_iload_n hx hb dJ5_newCapacity_0f7a4_14 rfl (lv_at hl 1 rfl) ?_
  refine lv_isub hx hb dJ5_newCapacity_0f7a4_15 ?_
  refine lv_cv (pk_sub (a := cap + 1) (b := cap) (by omega)) ?_
  refine lv_cv (show nI (cap + 1 - cap) = nI 1 from by rw [Nat.add_sub_cancel_left]) ?_
  refine lv_istore (lv' := [(4, .int (nI 1)), (3, .int (nI (cap + 1))), (2, .int (nI cap)), (0, .ref a), (1, .int (nI (cap + 1)))]) hx hb dJ5_newCapacity_0f7a4_16 hl (by decide) rfl (fun ls hl => ?_)
  refine lv_iload_n hx hb dJ5_newCapacity_0f7a4_18 rfl (lv_at hl 2 rfl) ?_
  refine lv_iload hx hb dJ5_newCapacity_0f7a4_19 (lv_at hl 0 rfl) ?_
  refine lv_iload_n hx hb dJ5_newCapacity_0f7a4_21 rfl (lv_at hl 2 rfl) ?_
  refine lv_iconst (v := nI 2) hx hb dJ5_newCapacity_0f7a4_22 (by decide) ?_
  refine lv_aload_n hx hb dJ5_newCapacity_0f7a4_23 rfl (lv_at hl 3 rfl) ?_
  refine va_get (D := G.1) (ci := 1) (C := RJ4) (T := TJ4) (N := 4) hx hb hts inJ4 hown hK (at_P hO) 0 rfl rfl 1 (by decide) (hts _ tw_5_206) (fun _ h9 => h9) rfl dJ5_newCapacity_0f7a4_24 ?_
  refine lv_ishl hx hb dJ5_newCapacity_0f7a4_27 ?_
  refine lv_cv (show _ = nI 2 from rfl) ?_
  refine lv_iadd hx hb dJ5_newCapacity_0f7a4_28 ?_
  refine lv_cv (nI_add cap 2) ?_
  refine kS_i (A := A) (As := [.int (nI cap), .int (nI 1), .int (nI (cap + 2))]) (rest := []) ⟨hx, hb, hml, hown, hts⟩ (mJ8_newLength_cabcc (A := A) (o9 := cap) (a9 := 1) (b9 := cap + 2) (by omega) (by omega)) (va_cwS 3 hts (gS tw_5_233 tw_5_102 tw_1_20 tw_5_103) rfl rfl rfl (by decide +kernel) ⟨Nat.le_of_ble_eq_true rfl, Nat.le_of_ble_eq_true rfl⟩) hC hS hA  trivial rfl rfl hl.1 (Nat.le_of_ble_eq_true rfl) ⟨Nat.zero_le _, Nat.zero_le _⟩ dJ5_newCapacity_0f7a4_29 (fun r9 h9 => lv_cv h9 ?_)
  refine lv_istore (lv' := [(5, .int (nI (cap + max 1 (cap + 2)))), (4, .int (nI 1)), (3, .int (nI (cap + 1))), (2, .int (nI cap)), (0, .ref a), (1, .int (nI (cap + 1)))]) hx hb dJ5_newCapacity_0f7a4_32 hl (by decide) rfl (fun ls hl => ?_)
  refine lv_iload hx hb dJ5_newCapacity_0f7a4_34 (lv_at hl 0 rfl) ?_
  refine lv_ldc (v := 2147483647) hx hb hown (hts _ tw_5_234) dJ5_newCapacity_0f7a4_36 ?_
  refine lv_cv (show (2147483647 : Int32) = nI 2147483647 from rfl) ?_
  refine b_ne (tgt := 51) hx hb dJ5_newCapacity_0f7a4_38 (by decide) (by omega) (by omega) (fun c_26 => ?_) (fun c_26 => ?_)
  · refine lv_iload hx hb dJ5_newCapacity_0f7a4_51 (lv_at hl 0 rfl) ?_
    refine lv_aload_n hx hb dJ5_newCapacity_0f7a4_53 rfl (lv_at hl 4 rfl) ?_
    refine va_get (D := G.1) (ci := 1) (C := RJ4) (T := TJ4) (N := 4) hx hb hts inJ4 hown hK (at_P hO) 0 rfl rfl 1 (by decide) (hts _ tw_5_206) (fun _ h9 => h9) rfl dJ5_newCapacity_0f7a4_54 ?_
    refine lv_ishr hx hb dJ5_newCapacity_0f7a4_57 ?_
    refine lv_cv (show _ = nI (cap + max 1 (cap + 2)) from (pk_shrN (by omega) _ 0 (by decide)).trans (by rw [Nat.pow_zero, Nat.div_one])) ?_
    exact p_i hx hb hr hlocks dJ5_newCapacity_0f7a4_58 rfl
  · exact absurd c_26 (by omega)

abbrev rmJ7_copyOf_9075b : Room := { frames := 1, cells := 1, slots := 122, locals := 60 }
theorem mJ7_copyOf_9075b {l : Launch} {G : Cx} {A : Nat → Prop} {va cap m9 sz : Nat} {f : Nat → Int32} (hAv : A va) (hc : cap < m9) (hm9 : m9 ≤ 122) (hf : ∀ i : Nat, i < cap → fits .byte (.int (f i)) = true) : Met l yJ7_copyOf_9075b (.code yJ7_copyOf_9075b cJ7_copyOf_9075b 3 (some (.array .byte)) :: GW) rmJ7_copyOf_9075b (PC G A [.ref va, .int (nI m9)] (fun H => H.size = sz ∧ va_at G.1 vwCl (va, .inl (G.2.1 2, cap, .inl f)) H)) (qR A (fun r H => sz ≤ r ∧ va_at G.1 vwCl (va, .inl (G.2.1 2, cap, .inl f)) H ∧ ∃ g : Nat → Int32, va_at G.1 vwCl (r, .inl (G.2.1 2, m9, .inl g)) H ∧ ∀ i : Nat, i < m9 → fits .byte (.int (g i)) = true)) 1 122 (A) := by
  refine mstart "java/util/Arrays" (by decide +kernel) rfl (Nat.le_of_ble_eq_true rfl) ?_
  intro p e s m below meth c ls hx hb hr hts hown hml hlocks hname hC hA hW hl
  have hl : lv_has ls 3 [(0, .ref va), (1, .int (nI m9))] := hl
  have hK := hC.1
  have hS : va_S A s.heap s.heap [] := va_S.rf
  obtain ⟨hsz, hB⟩ := hW
  refine lv_iload_n hx hb dJ7_copyOf_9075b_0 rfl (lv_at hl 1 rfl) ?_
  refine lv_aload_n hx hb dJ7_copyOf_9075b_1 rfl (lv_at hl 0 rfl) ?_
  refine va_alen hx hb hK (at_P hB) 0 2 (v := nI cap) rfl rfl rfl dJ7_copyOf_9075b_2 ?_
  refine b_ne (tgt := 14) hx hb dJ7_copyOf_9075b_3 (by decide) (by omega) (by omega) (fun c_27 => ?_) (fun c_27 => ?_)
  · refine lv_iload_n hx hb dJ7_copyOf_9075b_14 rfl (lv_at hl 1 rfl) ?_
    refine h_newa (D := G.1) (atype := .byte) (N := m9) (z := (m9, .inl (fun _ => 0))) hx hb (hts _ tw_1_162) rfl (fun h => h) hK 2 rfl hS rfl (nI_pos (by omega)) (nI_clamp (by omega)) (show m9 * _ ≤ _ from by show m9 * 1 ≤ 536870912; omega) (Nat.le_trans (show 0 + 1 ≤ 1 by omega) (Nat.le_of_ble_eq_true rfl)) (Nat.le_trans (show 0 + m9 ≤ 122 by omega) (Nat.le_of_ble_eq_true rfl)) dJ7_copyOf_9075b_15 (fun na H28 hna hFna z28 o28 hS => ?_)
    have n28hB : va ≠ na := fun q => absurd hB.lt (by rw [q, hna]; exact Nat.lt_irrefl _)
    have hB := at_n hB o28
    have hZ28 := hS.1
    have hMna : A na := hA na (by omega)
    refine lv_astore_n (lv' := [(2, .ref na), (0, .ref va), (1, .int (nI m9))]) hx hb dJ7_copyOf_9075b_17 rfl hl (by decide) rfl (fun ls hl => ?_)
    refine lv_aload_n hx hb dJ7_copyOf_9075b_18 rfl (lv_at hl 1 rfl) ?_
    refine lv_iconst (v := nI 0) hx hb dJ7_copyOf_9075b_19 (by decide) ?_
    refine lv_aload_n hx hb dJ7_copyOf_9075b_20 rfl (lv_at hl 0 rfl) ?_
    refine lv_iconst (v := nI 0) hx hb dJ7_copyOf_9075b_21 (by decide) ?_
    refine lv_aload_n hx hb dJ7_copyOf_9075b_22 rfl (lv_at hl 1 rfl) ?_
    refine va_alen hx hb hK (at_P hB) 0 2 (v := nI cap) rfl rfl rfl dJ7_copyOf_9075b_23 ?_
    refine lv_iload_n hx hb dJ7_copyOf_9075b_24 rfl (lv_at hl 2 rfl) ?_
    refine va_mmin hx hb (hml.trans hl.1.symm) hown (hts _ tw_5_136) (hts _ tw_5_137) (hts _ tw_1_19) (hts _ tw_5_138) (Nat.le_of_ble_eq_true rfl) (Nat.le_of_ble_eq_true rfl) (Nat.le_trans (show (0 + 1) ≤ 1 by omega) (Nat.le_of_ble_eq_true rfl)) (Nat.le_trans (show (0 + m9) ≤ 122 by omega) (Nat.le_of_ble_eq_true rfl)) dJ7_copyOf_9075b_25 ?_
    refine lv_cv (mmin_nI (a := cap) (b := m9) (by omega) (by omega)) ?_
    refine lv_cv (show _ = nI cap from by rw [Nat.min_eq_left (by omega)]) ?_
    refine va_copyi (D := G.1) (a := na) (a0 := va) (f := f) (g := (fun _ => 0)) (ty := .byte) (ws := [(va, .inl (G.2.1 2, cap, .inl f)), (na, .inl (G.2.1 2, m9, .inl (fun _ => 0)))]) hx hb (hml.trans hl.1.symm) hown (hts _ tw_5_139) (hts _ tn_acopy) (hts _ tw_5_140) (hts _ tw_1_22) hK (at_P2 hB hFna) (at_D2 n28hB hAv hMna) hS 0 1 2 2 rfl rfl rfl rfl rfl (nI_pos (by omega)) (nI_pos (by omega)) (nI_pos (by omega)) (by rw [nI_clamp (by omega), nI_clamp (by omega)]; omega) (by rw [nI_clamp (by omega), nI_clamp (by omega)]; omega) (fun i hi => by rw [nI_clamp (by omega)] at hi ⊢; rw [Nat.zero_add]; exact hf i hi) (Nat.le_of_ble_eq_true rfl) (Nat.le_of_ble_eq_true rfl) dJ7_copyOf_9075b_28 (fun H9 L9 hP9 hD9 hS => ?_)
    have hB := hP9 0 _ rfl
    have hFna := hP9 1 _ rfl
    have hZ9 := hS.1
    refine lv_aload_n hx hb dJ7_copyOf_9075b_31 rfl (lv_at hl 0 rfl) ?_
    exact q_a hx hb hr (Or.inr ⟨_, rfl⟩) hlocks dJ7_copyOf_9075b_32 hS (by omega) (by omega) ⟨by omega, hB, _, hFna, fun i hi => by unfold va_cpy; split; (next q => exact hf _ (by rw [nI_clamp (by omega), nI_clamp (by omega)] at q; rw [nI_clamp (by omega)]; omega)); rfl⟩
  · exact absurd c_27 (by omega)

abbrev rmJ5_ensureCapacityInternal_d00df : Room := { frames := 3, cells := 1, slots := 122, locals := 82 }
theorem mJ5_ensureCapacityInternal_d00df {l : Launch} {G : Cx} {A : Nat → Prop} {a n : Nat} (hAa : A a) (h60 : n ≤ 60) : Met l yJ5_ensureCapacityInternal_d00df (.code yJ5_ensureCapacityInternal_d00df cJ5_ensureCapacityInternal_d00df 3 (none : Option Jvm.ClassFile.FieldType) :: GW) rmJ5_ensureCapacityInternal_d00df (PC G A [.ref a, .int (nI (n + 1))] (SBs G A a n)) (qV A (fun H => ∃ (va cap : Nat) (g : Nat → Int32), va_at G.1 vwCl (a, .inr (1, [.ref va, .int 0, .int 0, .int (nI n)])) H ∧ va_at G.1 vwCl (va, .inl (G.2.1 2, cap, .inl g)) H ∧ A va ∧ n + 1 ≤ cap ∧ 16 ≤ cap ∧ cap < 2 ^ 20 ∧ ∀ i : Nat, i < cap → fits .byte (.int (g i)) = true)) 1 122 (A) := by
  refine mstart "java/lang/AbstractStringBuilder" (by decide +kernel) rfl (Nat.le_of_ble_eq_true rfl) ?_
  intro p e s m below meth c ls hx hb hr hts hown hml hlocks hname hC hA hW hl
  have hl : lv_has ls 3 [(0, .ref a), (1, .int (nI (n + 1)))] := hl
  have hK := hC.1
  have hS : va_S A s.heap s.heap [] := va_S.rf
  obtain ⟨va, cap, g, hO, hB, hAv, hnc, h16, hc20, hg⟩ := hW
  refine lv_aload_n hx hb dJ5_ensureCapacityInternal_d00df_0 rfl (lv_at hl 0 rfl) ?_
  refine va_get (D := G.1) (ci := 1) (C := RJ4) (T := TJ4) (N := 4) hx hb hts inJ4 hown hK (at_P hO) 0 rfl rfl 0 (by decide) (hts _ tw_5_205) (fun _ h9 => h9) rfl dJ5_ensureCapacityInternal_d00df_1 ?_
  refine va_alen hx hb hK (at_P hB) 0 2 (v := nI cap) rfl rfl rfl dJ5_ensureCapacityInternal_d00df_4 ?_
  refine lv_aload_n hx hb dJ5_ensureCapacityInternal_d00df_5 rfl (lv_at hl 0 rfl) ?_
  refine va_get (D := G.1) (ci := 1) (C := RJ4) (T := TJ4) (N := 4) hx hb hts inJ4 hown hK (at_P hO) 0 rfl rfl 1 (by decide) (hts _ tw_5_206) (fun _ h9 => h9) rfl dJ5_ensureCapacityInternal_d00df_6 ?_
  refine lv_ishr hx hb dJ5_ensureCapacityInternal_d00df_9 ?_
  refine lv_cv (show _ = nI cap from (pk_shrN (by omega) _ 0 (by decide)).trans (by rw [Nat.pow_zero, Nat.div_one])) ?_
  refine lv_istore_n (lv' := [(2, .int (nI cap)), (0, .ref a), (1, .int (nI (n + 1)))]) hx hb dJ5_ensureCapacityInternal_d00df_10 rfl hl (by decide) rfl (fun ls hl => ?_)
  refine lv_iload_n hx hb dJ5_ensureCapacityInternal_d00df_11 rfl (lv_at hl 2 rfl) ?_
  refine lv_iload_n hx hb dJ5_ensureCapacityInternal_d00df_12 rfl (lv_at hl 0 rfl) ?_
  refine lv_isub hx hb dJ5_ensureCapacityInternal_d00df_13 ?_
  refine lv_if_le (tgt := 38) hx hb dJ5_ensureCapacityInternal_d00df_14 (by decide) (fun c_29 => ?_) (fun c_29 => ?_)
  · exact q_v hx hb hr hlocks dJ5_ensureCapacityInternal_d00df_38 hS (by omega) (by omega) ⟨va, cap, g, hO, hB, hAv, sbI_le (by omega) (by omega) c_29, h16, hc20, hg⟩
  · have hcn : n = cap := by rcases Nat.lt_or_ge n cap with q | q; exact absurd (show nI (n + 1) - nI cap ≤ 0 from sbI_le2 (by omega) (by omega) (by omega)) c_29; omega
    subst hcn
    have hm1 := Nat.le_max_left 1 (n + 2)
    have hm2 : max 1 (n + 2) ≤ n + 2 := Nat.max_le.mpr ⟨by omega, Nat.le_refl _⟩
    refine lv_aload_n hx hb dJ5_ensureCapacityInternal_d00df_17 rfl (lv_at hl 1 rfl) ?_
    refine lv_aload_n hx hb dJ5_ensureCapacityInternal_d00df_18 rfl (lv_at hl 1 rfl) ?_
    refine va_get (D := G.1) (ci := 1) (C := RJ4) (T := TJ4) (N := 4) hx hb hts inJ4 hown hK (at_P hO) 0 rfl rfl 0 (by decide) (hts _ tw_5_205) (fun _ h9 => h9) rfl dJ5_ensureCapacityInternal_d00df_19 ?_
    refine lv_aload_n hx hb dJ5_ensureCapacityInternal_d00df_22 rfl (lv_at hl 1 rfl) ?_
    refine lv_iload_n hx hb dJ5_ensureCapacityInternal_d00df_23 rfl (lv_at hl 2 rfl) ?_
    refine kV_i (A := A) (b := a) (As := [.int (nI (n + 1))]) (rest := .ref va :: .ref a :: []) ⟨hx, hb, hml, hown, hts⟩ (mJ5_newCapacity_0f7a4 (A := A) (n := n) (va := va) (cap := n) (g := g) (by omega)) ⟨callB_of 1 hts (gI tw_5_232) rfl rfl rfl (hts _ tw_1_24) (hts _ tw_5_229) (by decide +kernel) ⟨Nat.le_of_ble_eq_true rfl, Nat.le_of_ble_eq_true rfl⟩, hts _ tw_5_231, hts _ sel_J5_newCapacity_0f7a4⟩ hC hS hA (at_recv hK hO (q := (RJ4, TJ4, 4)) rfl) ⟨hO, hB⟩ rfl rfl hl.1 (Nat.le_of_ble_eq_true rfl) ⟨Nat.zero_le _, Nat.zero_le _⟩ dJ5_ensureCapacityInternal_d00df_24 (fun r9 h9 => lv_cv h9 ?_)
    refine lv_aload_n hx hb dJ5_ensureCapacityInternal_d00df_27 rfl (lv_at hl 1 rfl) ?_
    refine va_get (D := G.1) (ci := 1) (C := RJ4) (T := TJ4) (N := 4) hx hb hts inJ4 hown hK (at_P hO) 0 rfl rfl 1 (by decide) (hts _ tw_5_206) (fun _ h9 => h9) rfl dJ5_ensureCapacityInternal_d00df_28 ?_
    refine lv_ishl hx hb dJ5_ensureCapacityInternal_d00df_31 ?_
    refine lv_cv (show _ = nI (n + max 1 (n + 2)) from (pk_shlN _ 0 (by decide) (by omega)).trans (by rw [Nat.pow_zero, Nat.mul_one])) ?_
    have hav : a ≠ va := at_ne_oa hK hO (r := (RJ4, TJ4, 4)) rfl hB 2 rfl
    refine qR_S (A := A) (A1 := ow va va s.heap.size)  (As := [.ref va, .int (nI (n + max 1 (n + 2)))]) (rest := .ref a :: []) ⟨hx, hb, hml, hown, hts⟩ (mJ7_copyOf_9075b (A := ow va va s.heap.size) (sz := s.heap.size) (f := g) (cap := n) (m9 := n + max 1 (n + 2)) (Or.inl rfl) (by omega) (by omega) hg) (va_cwS 2 hts (gS tw_5_235 tw_5_236 tw_1_21 tw_5_237) rfl rfl rfl (by decide +kernel) ⟨Nat.le_of_ble_eq_true rfl, Nat.le_of_ble_eq_true rfl⟩) hC hS (ow_in hAv hAv hA (Nat.le_refl _)) ow_n  ⟨rfl, hB⟩ rfl rfl hl.1 (Nat.le_of_ble_eq_true rfl) ⟨Nat.le_trans (show 0 + 1 ≤ 1 by omega) (Nat.le_of_ble_eq_true rfl), Nat.le_trans (show 0 + 122 ≤ 122 by omega) (Nat.le_of_ble_eq_true rfl)⟩ dJ5_ensureCapacityInternal_d00df_32 (fun rv30 H30 L30 hP30 hk30 hS => ?_)
    have hZ30 := hS.1
    obtain ⟨hsr, hB9, g9, hG9, hg9⟩ := hP30
    have haz := hO.lt
    have hO := at_kp hO hk30 (ow_no hav hav hO.lt)
    have hAr : A rv30 := hA _ hsr
    refine h_put (D := G.1) (ci := 1) (C := RJ4) (T := TJ4) (N := 4) hx hb hts inJ4 tyJ4 tyJ4_ok nmJ4 hown hK hO hS hAa rfl 0 (by decide) (hts _ tw_5_205) (fun _ h9 => h9) rfl (tyJ4_ok 0 (by decide)) rfl rfl (Nat.le_of_ble_eq_true rfl) dJ5_ensureCapacityInternal_d00df_35 (fun H31 L31 hO z31 o31 hS => ?_)
    have hO : va_at G.1 vwCl (a, .inr (1, [.ref rv30, .int 0, .int 0, .int (nI n)])) H31 := hO
    have hG9 := at_o hG9 o31 (by omega)
    have hZ31 := hS.1
    exact q_v hx hb hr hlocks dJ5_ensureCapacityInternal_d00df_38 hS (by omega) (by omega) ⟨rv30, _, g9, hO, hG9, hAr, by omega, by omega, by omega, hg9⟩

abbrev rmJ5_append_3fe6f : Room := { frames := 4, cells := 1, slots := 122, locals := 104 }
theorem mJ5_append_3fe6f {l : Launch} {G : Cx} {A : Nat → Prop} {a n k0 : Nat} (hAa : A a) (h60 : n ≤ 60) (hk0 : k0 < 256) : Met l yJ5_append_3fe6f (.code yJ5_append_3fe6f cJ5_append_3fe6f 2 (some (.object "java/lang/AbstractStringBuilder")) :: GW) rmJ5_append_3fe6f (PC G A [.ref a, .int (nI k0)] (SBs G A a n)) (qR A (fun r H => r = a ∧ SBs G A a (n + 1) H)) 1 122 (A) := by
  refine mstart "java/lang/AbstractStringBuilder" (by decide +kernel) rfl (Nat.le_of_ble_eq_true rfl) ?_
  intro p e s m below meth c ls hx hb hr hts hown hml hlocks hname hC hA hW hl
  have hl : lv_has ls 2 [(0, .ref a), (1, .int (nI k0))] := hl
  have hK := hC.1
  have hS : va_S A s.heap s.heap [] := va_S.rf
  have hL := hW
  obtain ⟨va, cap, g, hO, hB, hAv, hnc, h16, hc20, hg⟩ := hW
  refine lv_aload_n hx hb dJ5_append_3fe6f_0 rfl (lv_at hl 0 rfl) ?_
  refine lv_aload_n hx hb dJ5_append_3fe6f_1 rfl (lv_at hl 0 rfl) ?_
  refine va_get (D := G.1) (ci := 1) (C := RJ4) (T := TJ4) (N := 4) hx hb hts inJ4 hown hK (at_P hO) 0 rfl rfl 3 (by decide) (hts _ tw_5_208) (fun _ h9 => h9) rfl dJ5_append_3fe6f_2 ?_
  refine lv_iconst (v := nI 1) hx hb dJ5_append_3fe6f_5 (by decide) ?_
  refine lv_iadd hx hb dJ5_append_3fe6f_6 ?_
  refine lv_cv (nI_add n 1) ?_
  refine qV_V (A := A) (A1 := A) (b := a) (As := [.int (nI (n + 1))]) (rest := []) ⟨hx, hb, hml, hown, hts⟩ (mJ5_ensureCapacityInternal_d00df (A := A) (n := n) hAa h60) ⟨callB_of 1 hts (gI tw_5_228) rfl rfl rfl (hts _ tw_1_24) (hts _ tw_5_225) (by decide +kernel) ⟨Nat.le_of_ble_eq_true rfl, Nat.le_of_ble_eq_true rfl⟩, hts _ tw_5_227, hts _ sel_J5_ensureCapacityInternal_d00df⟩ hC hS (fun _ h => h) (fun q h => hA q (Nat.le_trans hS.1 h)) (at_recv hK hO (q := (RJ4, TJ4, 4)) rfl) hL rfl rfl hl.1 (Nat.le_of_ble_eq_true rfl) ⟨Nat.le_trans (show 0 + 1 ≤ 1 by omega) (Nat.le_of_ble_eq_true rfl), Nat.le_trans (show 0 + 122 ≤ 122 by omega) (Nat.le_of_ble_eq_true rfl)⟩ dJ5_append_3fe6f_7 (fun H32 L32 hP32 hk32 hS => ?_)
  have hZ32 := hS.1
  obtain ⟨va, cap, g, hO, hB, hAv, hnc, h16, hc20, hg⟩ := hP32
  have hav : a ≠ va := at_ne_oa hK hO (r := (RJ4, TJ4, 4)) rfl hB 2 rfl
  refine lv_aload_n hx hb dJ5_append_3fe6f_10 rfl (lv_at hl 0 rfl) ?_
  refine kV_i (A := A) (b := a) (As := []) (rest := []) ⟨hx, hb, hml, hown, hts⟩ (mJ5_isLatin1_aae02 (A := A) (va := va) (n := n)) ⟨callB_of 0 hts (gI tw_6_9) rfl rfl rfl (hts _ tw_1_24) (hts _ tw_6_5) (by decide +kernel) ⟨Nat.le_of_ble_eq_true rfl, Nat.le_of_ble_eq_true rfl⟩, hts _ tw_6_6, hts _ tw_6_8⟩ hC hS hA (at_recv hK hO (q := (RJ4, TJ4, 4)) rfl) hO rfl rfl hl.1 (Nat.le_of_ble_eq_true rfl) ⟨Nat.le_trans (show (0 + 1) ≤ 1 by omega) (Nat.le_of_ble_eq_true rfl), Nat.le_trans (show (0 + 122) ≤ 122 by omega) (Nat.le_of_ble_eq_true rfl)⟩ dJ5_append_3fe6f_11 (fun r9 h9 => lv_cv h9 ?_)
  refine f_eq (tgt := 45) hx hb dJ5_append_3fe6f_14 (by decide) (fun c_33 => ?_) (fun c_33 => ?_)
  · exact absurd c_33 (by decide)
  · refine lv_iload_n hx hb dJ5_append_3fe6f_17 rfl (lv_at hl 1 rfl) ?_
    refine kS_i (A := A) (As := [.int (nI k0)]) (rest := []) ⟨hx, hb, hml, hown, hts⟩ (mJ1_canEncode_fc78d (A := A) hk0) (va_cwS 1 hts (gS tw_6_10 tw_6_11 tw_1_5 tw_6_12) rfl rfl rfl (by decide +kernel) ⟨Nat.le_of_ble_eq_true rfl, Nat.le_of_ble_eq_true rfl⟩) hC hS hA  trivial rfl rfl hl.1 (Nat.le_of_ble_eq_true rfl) ⟨Nat.le_trans (show (0 + 1) ≤ 1 by omega) (Nat.le_of_ble_eq_true rfl), Nat.le_trans (show (0 + 122) ≤ 122 by omega) (Nat.le_of_ble_eq_true rfl)⟩ dJ5_append_3fe6f_18 (fun r9 h9 => lv_cv h9 ?_)
    refine f_eq (tgt := 45) hx hb dJ5_append_3fe6f_21 (by decide) (fun c_34 => ?_) (fun c_34 => ?_)
    · exact absurd c_34 (by decide)
    · refine lv_aload_n hx hb dJ5_append_3fe6f_24 rfl (lv_at hl 0 rfl) ?_
      refine va_get (D := G.1) (ci := 1) (C := RJ4) (T := TJ4) (N := 4) hx hb hts inJ4 hown hK (at_P hO) 0 rfl rfl 0 (by decide) (hts _ tw_5_205) (fun _ h9 => h9) rfl dJ5_append_3fe6f_25 ?_
      refine lv_aload_n hx hb dJ5_append_3fe6f_28 rfl (lv_at hl 0 rfl) ?_
      refine lv_dup hx hb dJ5_append_3fe6f_29 rfl ?_
      refine va_get (D := G.1) (ci := 1) (C := RJ4) (T := TJ4) (N := 4) hx hb hts inJ4 hown hK (at_P hO) 0 rfl rfl 3 (by decide) (hts _ tw_5_208) (fun _ h9 => h9) rfl dJ5_append_3fe6f_30 ?_
      refine lv_dup_x1 hx hb dJ5_append_3fe6f_33 rfl rfl ?_
      refine lv_iconst (v := nI 1) hx hb dJ5_append_3fe6f_34 (by decide) ?_
      refine lv_iadd hx hb dJ5_append_3fe6f_35 ?_
      refine lv_cv (nI_add n 1) ?_
      refine h_put (D := G.1) (ci := 1) (C := RJ4) (T := TJ4) (N := 4) hx hb hts inJ4 tyJ4 tyJ4_ok nmJ4 hown hK hO hS hAa rfl 3 (by decide) (hts _ tw_5_208) (fun _ h9 => h9) rfl (tyJ4_ok 3 (by decide)) rfl rfl (Nat.le_of_ble_eq_true rfl) dJ5_append_3fe6f_36 (fun H35 L35 hO z35 o35 hS => ?_)
      have hO : va_at G.1 vwCl (a, .inr (1, [.ref va, .int 0, .int 0, .int (nI (n + 1))])) H35 := hO
      have hB := at_o hB o35 (Ne.symm hav)
      have hZ35 := hS.1
      refine lv_iload_n hx hb dJ5_append_3fe6f_39 rfl (lv_at hl 1 rfl) ?_
      refine lv_i2b hx hb dJ5_append_3fe6f_40 rfl ?_
      refine h_bst (D := G.1) hx hb hK 2 hB rfl hS hAv (vp_in_nI (n := n) (N := cap) (by omega) (by omega)) dJ5_append_3fe6f_41 (fun H36 L36 hB z36 o36 hS => ?_)
      rw [nI_clamp (n := n) (by omega)] at hB
      have hO := at_o hO o36 hav
      have hZ36 := hS.1
      refine lv_goto (tgt := 75) hx hb dJ5_append_3fe6f_42 (by decide) ?_
      refine lv_aload_n hx hb dJ5_append_3fe6f_75 rfl (lv_at hl 0 rfl) ?_
      exact q_a hx hb hr (Or.inl ⟨_, rfl⟩) hlocks dJ5_append_3fe6f_76 hS (by omega) (by omega) ⟨rfl, va, cap, _, hO, hB, hAv, hnc, h16, hc20, fun i hi => by by_cases q : i = n; rw [q, pk_us]; exact fit_nar _; rw [pk_un q]; exact hg i hi⟩

abbrev rmJ4_append_cf468 : Room := { frames := 5, cells := 1, slots := 122, locals := 125 }
theorem mJ4_append_cf468 {l : Launch} {G : Cx} {A : Nat → Prop} {a n k0 : Nat} (hAa : A a) (h60 : n ≤ 60) (hk0 : k0 < 256) : Met l yJ4_append_cf468 (.code yJ4_append_cf468 cJ4_append_cf468 2 (some (.object "java/lang/StringBuilder")) :: GW) rmJ4_append_cf468 (PC G A [.ref a, .int (nI k0)] (SBs G A a n)) (qR A (fun r H => r = a ∧ SBs G A a (n + 1) H)) 1 122 (A) := by
  refine mstart "java/lang/StringBuilder" (by decide +kernel) rfl (Nat.le_of_ble_eq_true rfl) ?_
  intro p e s m below meth c ls hx hb hr hts hown hml hlocks hname hC hA hW hl
  have hl : lv_has ls 2 [(0, .ref a), (1, .int (nI k0))] := hl
  have hK := hC.1
  have hS : va_S A s.heap s.heap [] := va_S.rf
  have hL := hW
  obtain ⟨va, cap, g, hO, -⟩ := hL
  refine lv_aload_n hx hb dJ4_append_cf468_0 rfl (lv_at hl 0 rfl) ?_
  refine lv_iload_n hx hb dJ4_append_cf468_1 rfl (lv_at hl 1 rfl) ?_
  refine qR_SU (A := A) (A1 := A) (b := a) (As := [.int (nI k0)]) (rest := []) (hK.1 1 _ rfl).2 ⟨hx, hb, hml, hown, hts⟩ (mJ5_append_3fe6f (A := A) (n := n) hAa h60 hk0) (va_cwSU 1 hts (gSU tw_5_222 tw_7_82 tw_5_217 tw_5_223 tw_1_24 tw_5_224) rfl rfl rfl (by decide +kernel) ⟨Nat.le_of_ble_eq_true rfl, Nat.le_of_ble_eq_true rfl⟩) hC hS (fun _ h => h) hA (at_recv hK hO (q := (RJ4, TJ4, 4)) rfl) hW rfl rfl hl.1 (Nat.le_of_ble_eq_true rfl) ⟨Nat.le_trans (show 0 + 1 ≤ 1 by omega) (Nat.le_of_ble_eq_true rfl), Nat.le_trans (show 0 + 122 ≤ 122 by omega) (Nat.le_of_ble_eq_true rfl)⟩ dJ4_append_cf468_2 (fun r9 H9 L9 hP9 hk9 hS => ?_)
  refine lv_pop hx hb dJ4_append_cf468_5 rfl ?_
  refine lv_aload_n hx hb dJ4_append_cf468_6 rfl (lv_at hl 0 rfl) ?_
  exact q_a hx hb hr (Or.inl ⟨_, rfl⟩) hlocks dJ4_append_cf468_7 hS (by omega) (by omega) ⟨rfl, hP9.2⟩

abbrev rmJ4_length_8abf5 : Room := { frames := 2, cells := 0, slots := 0, locals := 40 }
theorem mJ4_length_8abf5 {l : Launch} {G : Cx} {A : Nat → Prop} {a va n : Nat} : Met l yJ4_length_8abf5 (.code yJ4_length_8abf5 cJ4_length_8abf5 1 (some .int) :: GW) rmJ4_length_8abf5 (PC G A [.ref a] (fun H => va_at G.1 vwCl (a, .inr (1, [.ref va, .int 0, .int 0, .int (nI n)])) H)) (vp_Si (fun r => r = nI n)) 0 0 (fun _ => False) := by
  refine mstart "java/lang/StringBuilder" (by decide +kernel) rfl (Nat.le_of_ble_eq_true rfl) ?_
  intro p e s m below meth c ls hx hb hr hts hown hml hlocks hname hC hA hW hl
  have hl : lv_has ls 1 [(0, .ref a)] := hl
  have hK := hC.1
  have hS : va_S A s.heap s.heap [] := va_S.rf
  have hO := hW
  refine lv_aload_n hx hb dJ4_length_8abf5_0 rfl (lv_at hl 0 rfl) ?_
  refine kSU_i (A := A) (b := a) (As := []) (rest := []) (hK.1 1 _ rfl).2 ⟨hx, hb, hml, hown, hts⟩ (mJ5_length_8abf5 (A := A) (va := va) (n := n)) (va_cwSU 0 hts (gSU tw_6_48 tw_6_44 tw_5_217 tw_6_43 tw_1_24 tw_6_49) rfl rfl rfl (by decide +kernel) ⟨Nat.le_of_ble_eq_true rfl, Nat.le_of_ble_eq_true rfl⟩) hC hS hA (at_recv hK hO (q := (RJ4, TJ4, 4)) rfl) hO rfl rfl hl.1 (Nat.le_of_ble_eq_true rfl) ⟨Nat.zero_le _, Nat.zero_le _⟩ dJ4_length_8abf5_1 (fun r9 h9 => lv_cv h9 ?_)
  exact p_i hx hb hr hlocks dJ4_length_8abf5_4 rfl

abbrev rmJ7_checkLength_df160 : Room := { frames := 1, cells := 0, slots := 0, locals := 20 }
theorem mJ7_checkLength_df160 {l : Launch} {G : Cx} {A : Nat → Prop} {n : Nat} (hn : n < 2 ^ 31) : Met l yJ7_checkLength_df160 (.code yJ7_checkLength_df160 cJ7_checkLength_df160 2 (none : Option Jvm.ClassFile.FieldType) :: GW) rmJ7_checkLength_df160 (PC G A [.int (nI 0), .int (nI n)] (fun _ => True)) (pV) 0 0 (fun _ => False) := by
  refine mstart "java/util/Arrays" (by decide +kernel) rfl (Nat.le_of_ble_eq_true rfl) ?_
  intro p e s m below meth c ls hx hb hr hts hown hml hlocks hname hC hA hW hl
  have hl : lv_has ls 2 [(0, .int (nI 0)), (1, .int (nI n))] := hl
  have hK := hC.1
  have hS : va_S A s.heap s.heap [] := va_S.rf
  refine lv_iload_n hx hb dJ7_checkLength_df160_0 rfl (lv_at hl 1 rfl) ?_
  refine lv_iload_n hx hb dJ7_checkLength_df160_1 rfl (lv_at hl 0 rfl) ?_
  refine b_ge (tgt := 37) hx hb dJ7_checkLength_df160_2 (by decide) (by omega) (by omega) (fun c_37 => ?_) (fun c_37 => ?_)
  · exact p_v hx hb hr hlocks dJ7_checkLength_df160_37
  · exact absurd c_37 (by omega)

abbrev rmJ7_copyOfRangeByte_39247 : Room := { frames := 2, cells := 1, slots := 60, locals := 60 }
theorem mJ7_copyOfRangeByte_39247 {l : Launch} {G : Cx} {A : Nat → Prop} {va cap n sz : Nat} {f : Nat → Int32} (hAv : A va) (hc : n ≤ cap) (hn : n ≤ 60) (hc20 : cap < 2 ^ 20) (hf : ∀ i : Nat, i < cap → fits .byte (.int (f i)) = true) : Met l yJ7_copyOfRangeByte_39247 (.code yJ7_copyOfRangeByte_39247 cJ7_copyOfRangeByte_39247 5 (some (.array .byte)) :: GW) rmJ7_copyOfRangeByte_39247 (PC G A [.ref va, .int (nI 0), .int (nI n)] (fun H => H.size = sz ∧ va_at G.1 vwCl (va, .inl (G.2.1 2, cap, .inl f)) H)) (qR A (fun _ _ => True)) 1 60 (A) := by
  refine mstart "java/util/Arrays" (by decide +kernel) rfl (Nat.le_of_ble_eq_true rfl) ?_
  intro p e s m below meth c ls hx hb hr hts hown hml hlocks hname hC hA hW hl
  have hl : lv_has ls 5 [(0, .ref va), (1, .int (nI 0)), (2, .int (nI n))] := hl
  have hK := hC.1
  have hS : va_S A s.heap s.heap [] := va_S.rf
  obtain ⟨hsz, hB⟩ := hW
  refine lv_iload_n hx hb dJ7_copyOfRangeByte_39247_0 rfl (lv_at hl 1 rfl) ?_
  refine lv_iload_n hx hb dJ7_copyOfRangeByte_39247_1 rfl (lv_at hl 2 rfl) ?_
  refine kS_v (A := A) (As := [.int (nI 0), .int (nI n)]) (rest := []) ⟨hx, hb, hml, hown, hts⟩ (mJ7_checkLength_df160 (A := A) (n := n) (by omega)) (va_cwS 2 hts (gS tw_6_57 tw_6_58 tw_1_21 tw_6_59) rfl rfl rfl (by decide +kernel) ⟨Nat.le_of_ble_eq_true rfl, Nat.le_of_ble_eq_true rfl⟩) hC hS hA  trivial rfl rfl hl.1 (Nat.le_of_ble_eq_true rfl) ⟨Nat.zero_le _, Nat.zero_le _⟩ dJ7_copyOfRangeByte_39247_2 ?_
  refine lv_iload_n hx hb dJ7_copyOfRangeByte_39247_5 rfl (lv_at hl 2 rfl) ?_
  refine lv_iload_n hx hb dJ7_copyOfRangeByte_39247_6 rfl (lv_at hl 1 rfl) ?_
  refine lv_isub hx hb dJ7_copyOfRangeByte_39247_7 ?_
  refine lv_cv (pk_sub (a := n) (b := 0) (by omega)) ?_
  refine lv_cv (show nI (n - 0) = nI n from rfl) ?_
  refine lv_istore_n (lv' := [(3, .int (nI n)), (0, .ref va), (1, .int (nI 0)), (2, .int (nI n))]) hx hb dJ7_copyOfRangeByte_39247_8 rfl hl (by decide) rfl (fun ls hl => ?_)
  refine lv_iload_n hx hb dJ7_copyOfRangeByte_39247_9 rfl (lv_at hl 0 rfl) ?_
  refine h_newa (D := G.1) (atype := .byte) (N := n) (z := (n, .inl (fun _ => 0))) hx hb (hts _ tw_1_162) rfl (fun h => h) hK 2 rfl hS rfl (nI_pos (by omega)) (nI_clamp (by omega)) (show n * _ ≤ _ from by show n * 1 ≤ 536870912; omega) (Nat.le_trans (show 0 + 1 ≤ 1 by omega) (Nat.le_of_ble_eq_true rfl)) (Nat.le_trans (show 0 + n ≤ 60 by omega) (Nat.le_of_ble_eq_true rfl)) dJ7_copyOfRangeByte_39247_10 (fun na H38 hna hFna z38 o38 hS => ?_)
  have n38hB : va ≠ na := fun q => absurd hB.lt (by rw [q, hna]; exact Nat.lt_irrefl _)
  have hB := at_n hB o38
  have hZ38 := hS.1
  have hMna : A na := hA na (by omega)
  refine lv_astore (lv' := [(4, .ref na), (3, .int (nI n)), (0, .ref va), (1, .int (nI 0)), (2, .int (nI n))]) hx hb dJ7_copyOfRangeByte_39247_12 hl (by decide) rfl (fun ls hl => ?_)
  refine lv_aload_n hx hb dJ7_copyOfRangeByte_39247_14 rfl (lv_at hl 2 rfl) ?_
  refine lv_iload_n hx hb dJ7_copyOfRangeByte_39247_15 rfl (lv_at hl 3 rfl) ?_
  refine lv_aload hx hb dJ7_copyOfRangeByte_39247_16 (lv_at hl 0 rfl) ?_
  refine lv_iconst (v := nI 0) hx hb dJ7_copyOfRangeByte_39247_18 (by decide) ?_
  refine lv_aload_n hx hb dJ7_copyOfRangeByte_39247_19 rfl (lv_at hl 2 rfl) ?_
  refine va_alen hx hb hK (at_P hB) 0 2 (v := nI cap) rfl rfl rfl dJ7_copyOfRangeByte_39247_20 ?_
  refine lv_iload_n hx hb dJ7_copyOfRangeByte_39247_21 rfl (lv_at hl 3 rfl) ?_
  refine lv_isub hx hb dJ7_copyOfRangeByte_39247_22 ?_
  refine lv_cv (pk_sub (a := cap) (b := 0) (by omega)) ?_
  refine lv_cv (show nI (cap - 0) = nI cap from rfl) ?_
  refine lv_iload_n hx hb dJ7_copyOfRangeByte_39247_23 rfl (lv_at hl 1 rfl) ?_
  refine va_mmin hx hb (hml.trans hl.1.symm) hown (hts _ tw_5_136) (hts _ tw_5_137) (hts _ tw_1_19) (hts _ tw_5_138) (Nat.le_of_ble_eq_true rfl) (Nat.le_of_ble_eq_true rfl) (Nat.le_trans (show (0 + 1) ≤ 1 by omega) (Nat.le_of_ble_eq_true rfl)) (Nat.le_trans (show (0 + n) ≤ 60 by omega) (Nat.le_of_ble_eq_true rfl)) dJ7_copyOfRangeByte_39247_24 ?_
  refine lv_cv (mmin_nI (a := cap) (b := n) (by omega) (by omega)) ?_
  refine lv_cv (show _ = nI n from by rw [Nat.min_eq_right hc]) ?_
  refine va_copyi (D := G.1) (a := na) (a0 := va) (f := f) (g := (fun _ => 0)) (ty := .byte) (ws := [(va, .inl (G.2.1 2, cap, .inl f)), (na, .inl (G.2.1 2, n, .inl (fun _ => 0)))]) hx hb (hml.trans hl.1.symm) hown (hts _ tw_5_139) (hts _ tn_acopy) (hts _ tw_5_140) (hts _ tw_1_22) hK (at_P2 hB hFna) (at_D2 n38hB hAv hMna) hS 0 1 2 2 rfl rfl rfl rfl rfl (nI_pos (by omega)) (nI_pos (by omega)) (nI_pos (by omega)) (by rw [nI_clamp (by omega), nI_clamp (by omega)]; omega) (by rw [nI_clamp (by omega), nI_clamp (by omega)]; omega) (fun i hi => by rw [nI_clamp (by omega)] at hi ⊢; rw [Nat.zero_add]; exact hf i (by omega)) (Nat.le_of_ble_eq_true rfl) (Nat.le_of_ble_eq_true rfl) dJ7_copyOfRangeByte_39247_27 (fun H9 L9 hP9 hD9 hS => ?_)
  have hB := hP9 0 _ rfl
  have hFna := hP9 1 _ rfl
  have hZ9 := hS.1
  refine lv_aload hx hb dJ7_copyOfRangeByte_39247_30 (lv_at hl 0 rfl) ?_
  exact q_a hx hb hr (Or.inr ⟨_, rfl⟩) hlocks dJ7_copyOfRangeByte_39247_32 hS (by omega) (by omega) trivial

abbrev rmJ7_copyOfRange_39247 : Room := { frames := 3, cells := 1, slots := 60, locals := 84 }
theorem mJ7_copyOfRange_39247 {l : Launch} {G : Cx} {A : Nat → Prop} {va cap n sz : Nat} {f : Nat → Int32} (hAv : A va) (hc : n ≤ cap) (hn : n ≤ 60) (hc20 : cap < 2 ^ 20) (hf : ∀ i : Nat, i < cap → fits .byte (.int (f i)) = true) : Met l yJ7_copyOfRange_39247 (.code yJ7_copyOfRange_39247 cJ7_copyOfRange_39247 3 (some (.array .byte)) :: GW) rmJ7_copyOfRange_39247 (PC G A [.ref va, .int (nI 0), .int (nI n)] (fun H => H.size = sz ∧ va_at G.1 vwCl (va, .inl (G.2.1 2, cap, .inl f)) H)) (qR A (fun _ _ => True)) 1 60 (A) := by
  refine mstart "java/util/Arrays" (by decide +kernel) rfl (Nat.le_of_ble_eq_true rfl) ?_
  intro p e s m below meth c ls hx hb hr hts hown hml hlocks hname hC hA hW hl
  have hl : lv_has ls 3 [(0, .ref va), (1, .int (nI 0)), (2, .int (nI n))] := hl
  have hK := hC.1
  have hS : va_S A s.heap s.heap [] := va_S.rf
  obtain ⟨hsz, hB⟩ := hW
  refine lv_iload_n hx hb dJ7_copyOfRange_39247_0 rfl (lv_at hl 1 rfl) ?_
  refine z_ne (tgt := 10) hx hb dJ7_copyOfRange_39247_1 (by decide) (by omega) (fun c_39 => ?_) (fun c_39 => ?_)
  · exact absurd c_39 (by omega)
  · refine lv_iload_n hx hb dJ7_copyOfRange_39247_4 rfl (lv_at hl 2 rfl) ?_
    refine lv_aload_n hx hb dJ7_copyOfRange_39247_5 rfl (lv_at hl 0 rfl) ?_
    refine va_alen hx hb hK (at_P hB) 0 2 (v := nI cap) rfl rfl rfl dJ7_copyOfRange_39247_6 ?_
    refine b_eq (tgt := 17) hx hb dJ7_copyOfRange_39247_7 (by decide) (by omega) (by omega) (fun c_40 => ?_) (fun c_40 => ?_)
    · have hnc : n = cap := c_40
      subst hnc
      refine lv_aload_n hx hb dJ7_copyOfRange_39247_17 rfl (lv_at hl 0 rfl) ?_
      refine va_clone (D := G.1) (A := A) (ws := [(va, .inl (G.2.1 2, n, .inl f))]) (ad := "[B") hx hb (hml.trans hl.1.symm) hown (hts _ tw_5_238) (hts _ tw_5_239) (hts _ tn_clone) (hts _ tw_6_1) (hts _ tw_6_2) (xWs.use hC.2.2.2.2.2.2.2.2.2.2.2.1 tx_bc) hK (at_P hB) (at_D1 hAv) hS hA 0 2 rfl rfl (findBA hK) (bytes_fit hf) (Nat.le_of_ble_eq_true rfl) (Nat.le_of_ble_eq_true rfl) (Nat.le_trans (show 0 + 1 ≤ 1 by omega) (Nat.le_of_ble_eq_true rfl)) (Nat.le_trans (show 0 + n ≤ 60 by omega) (Nat.le_of_ble_eq_true rfl)) dJ7_copyOfRange_39247_18 (fun nb H9 hK9 hP9 hD9 hS9 => ?_)
      refine va_castA (D := G.1) hx hb hown (hts _ tw_6_4) hP9 1 rfl (findBA hK) dJ7_copyOfRange_39247_21 ?_
      have hS := hS9
      exact q_a hx hb hr (Or.inr ⟨_, rfl⟩) hlocks dJ7_copyOfRange_39247_24 hS (by omega) (by omega) trivial
    · refine lv_aload_n hx hb dJ7_copyOfRange_39247_10 rfl (lv_at hl 0 rfl) ?_
      refine lv_iload_n hx hb dJ7_copyOfRange_39247_11 rfl (lv_at hl 1 rfl) ?_
      refine lv_iload_n hx hb dJ7_copyOfRange_39247_12 rfl (lv_at hl 2 rfl) ?_
      refine qR_S (A := A) (A1 := A)  (As := [.ref va, .int (nI 0), .int (nI n)]) (rest := []) ⟨hx, hb, hml, hown, hts⟩ (mJ7_copyOfRangeByte_39247 (A := A) (sz := sz) (f := f) (cap := cap) hAv hc hn hc20 hf) (va_cwS 3 hts (gS tw_6_54 tw_6_55 tw_1_21 tw_6_56) rfl rfl rfl (by decide +kernel) ⟨Nat.le_of_ble_eq_true rfl, Nat.le_of_ble_eq_true rfl⟩) hC hS (fun _ h => h) (fun q h => hA q (Nat.le_trans hS.1 h))  ⟨hsz, hB⟩ rfl rfl hl.1 (Nat.le_of_ble_eq_true rfl) ⟨Nat.le_trans (show 0 + 1 ≤ 1 by omega) (Nat.le_of_ble_eq_true rfl), Nat.le_trans (show 0 + 60 ≤ 60 by omega) (Nat.le_of_ble_eq_true rfl)⟩ dJ7_copyOfRange_39247_13 (fun rv41 H41 L41 hP41 hk41 hS => ?_)
      have hZ41 := hS.1
      exact q_a hx hb hr (Or.inr ⟨_, rfl⟩) hlocks dJ7_copyOfRange_39247_16 hS (by omega) (by omega) hP41

abbrev rmJ0_init_db425 : Room := { frames := 4, cells := 1, slots := 60, locals := 106 }
theorem mJ0_init_db425 {l : Launch} {G : Cx} {A : Nat → Prop} {a b n : Nat} (hAa : A a) (h60 : n ≤ 60) : Met l yJ0_init_db425 (.code yJ0_init_db425 cJ0_init_db425 5 (none : Option Jvm.ClassFile.FieldType) :: GW) rmJ0_init_db425 (PC G A [.ref a, .ref b, .null] (fun H => va_at G.1 vwCl (a, .inr (0, [.null, .int 0, .int 0, .int 0])) H ∧ SBs G A b n H)) (qV A (fun _ => True)) 1 60 (A) := by
  refine mstart "java/lang/String" (by decide +kernel) rfl (Nat.le_of_ble_eq_true rfl) ?_
  intro p e s m below meth c ls hx hb hr hts hown hml hlocks hname hC hA hW hl
  have hl : lv_has ls 5 [(0, .ref a), (1, .ref b), (2, .null)] := hl
  have hK := hC.1
  have hS : va_S A s.heap s.heap [] := va_S.rf
  obtain ⟨hSo, va, cap, g, hO, hB, hAv, hnc, h16, hc20, hg⟩ := hW
  have hav : a ≠ va := at_ne_oa hK hSo (r := (RJ0, TJ0, 4)) rfl hB 2 rfl
  refine lv_aload_n hx hb dJ0_init_db425_0 rfl (lv_at hl 0 rfl) ?_
  refine W.objInit hx hb hown (hts _ tw_1_183) (hts _ tw_1_35) (hts _ tw_1_36) rfl (by rw [hml]; exact hl.1) rfl dJ0_init_db425_1 (Nat.le_of_ble_eq_true rfl) (Nat.le_of_ble_eq_true rfl) ?_
  refine W.eq (g2 := F0 m 4 ls []) rfl ?_
  refine lv_aload_n hx hb dJ0_init_db425_4 rfl (lv_at hl 1 rfl) ?_
  refine kV_a (A := A) (b := b) (As := []) (rest := []) ⟨hx, hb, hml, hown, hts⟩ (mJ5_getValue_6d5f1 (A := A) (n := n) (va := va)) ⟨callB_of 0 hts (gI tw_6_41) rfl rfl rfl (hts _ tw_1_24) (hts _ tw_6_37) (by decide +kernel) ⟨Nat.le_of_ble_eq_true rfl, Nat.le_of_ble_eq_true rfl⟩, hts _ tw_6_38, hts _ tw_6_40⟩ hC hS hA (at_recv hK hO (q := (RJ4, TJ4, 4)) rfl) hO rfl rfl hl.1 (Nat.le_of_ble_eq_true rfl) ⟨Nat.zero_le _, Nat.zero_le _⟩ dJ0_init_db425_5 (fun a_42 ha_42 => ?_)
  have e7 : a_42 = va := ha_42
  subst e7
  refine lv_astore_n (lv' := [(3, .ref a_42), (0, .ref a), (1, .ref b), (2, .null)]) hx hb dJ0_init_db425_8 rfl hl (by decide) rfl (fun ls hl => ?_)
  refine lv_aload_n hx hb dJ0_init_db425_9 rfl (lv_at hl 2 rfl) ?_
  refine kU_i (A := A) (b := b) (As := []) (rest := []) ⟨hx, hb, hml, hown, hts⟩ (mJ4_length_8abf5 (A := A) (va := a_42) (n := n)) (va_cwO 0 hts (gO tw_6_42 tw_6_44 tw_6_43 tw_6_45 tw_6_46 tw_1_25 tw_6_47) rfl rfl rfl tw_6_49 (by decide +kernel) ⟨Nat.le_of_ble_eq_true rfl, Nat.le_of_ble_eq_true rfl⟩) hC hS hA (at_recv hK hO (q := (RJ4, TJ4, 4)) rfl) hO rfl rfl hl.1 (Nat.le_of_ble_eq_true rfl) ⟨Nat.zero_le _, Nat.zero_le _⟩ dJ0_init_db425_10 (fun r9 h9 => lv_cv h9 ?_)
  refine lv_istore (lv' := [(4, .int (nI n)), (3, .ref a_42), (0, .ref a), (1, .ref b), (2, .null)]) hx hb dJ0_init_db425_13 hl (by decide) rfl (fun ls hl => ?_)
  refine lv_aload_n hx hb dJ0_init_db425_15 rfl (lv_at hl 3 rfl) ?_
  refine kV_i (A := A) (b := b) (As := []) (rest := []) ⟨hx, hb, hml, hown, hts⟩ (mJ5_isLatin1_aae02 (A := A) (va := a_42) (n := n)) ⟨callB_of 0 hts (gI tw_6_9) rfl rfl rfl (hts _ tw_1_24) (hts _ tw_6_50) (by decide +kernel) ⟨Nat.le_of_ble_eq_true rfl, Nat.le_of_ble_eq_true rfl⟩, hts _ tw_6_6, hts _ tw_6_8⟩ hC hS hA (at_recv hK hO (q := (RJ4, TJ4, 4)) rfl) hO rfl rfl hl.1 (Nat.le_of_ble_eq_true rfl) ⟨Nat.zero_le _, Nat.zero_le _⟩ dJ0_init_db425_16 (fun r9 h9 => lv_cv h9 ?_)
  refine f_eq (tgt := 41) hx hb dJ0_init_db425_19 (by decide) (fun c_43 => ?_) (fun c_43 => ?_)
  · exact absurd c_43 (by decide)
  · refine lv_aload_n hx hb dJ0_init_db425_22 rfl (lv_at hl 2 rfl) ?_
    refine lv_iconst (v := nI 0) hx hb dJ0_init_db425_23 (by decide) ?_
    refine h_putF (D := G.1) (ci := 0) (C := RJ0) (T := TJ0) (N := 4) hx hb hts inJ0 tyJ0 tyJ0_ok nmJ0 hown hK hSo hS hAa rfl 1 (by decide) (hts _ tw_1_221) (fun _ h9 => h9) rfl hname rfl (tyJ0_ok 1 (by decide)) rfl rfl (Nat.le_of_ble_eq_true rfl) dJ0_init_db425_24 (fun H44 L44 hSo z44 o44 hS => ?_)
    have hSo : va_at G.1 vwCl (a, .inr (0, [.null, .int 0, .int 0, .int 0])) H44 := hSo
    have hZ44 := hS.1
    have hB := at_o hB o44 (Ne.symm hav)
    refine lv_aload_n hx hb dJ0_init_db425_27 rfl (lv_at hl 2 rfl) ?_
    refine lv_aload_n hx hb dJ0_init_db425_28 rfl (lv_at hl 1 rfl) ?_
    refine lv_iconst (v := nI 0) hx hb dJ0_init_db425_29 (by decide) ?_
    refine lv_iload hx hb dJ0_init_db425_30 (lv_at hl 0 rfl) ?_
    refine qR_S (A := A) (A1 := ow a_42 a_42 H44.size)  (As := [.ref a_42, .int (nI 0), .int (nI n)]) (rest := .ref a :: []) ⟨hx, hb, hml, hown, hts⟩ (mJ7_copyOfRange_39247 (A := ow a_42 a_42 H44.size) (sz := H44.size) (f := g) (cap := cap) (n := n) (Or.inl rfl) hnc h60 hc20 hg) (va_cwS 3 hts (gS tw_6_51 tw_6_52 tw_1_21 tw_6_53) rfl rfl rfl (by decide +kernel) ⟨Nat.le_of_ble_eq_true rfl, Nat.le_of_ble_eq_true rfl⟩) hC hS (ow_in hAv hAv hA hS.1) ow_n  ⟨rfl, hB⟩ rfl rfl hl.1 (Nat.le_of_ble_eq_true rfl) ⟨Nat.le_trans (show 0 + 1 ≤ 1 by omega) (Nat.le_of_ble_eq_true rfl), Nat.le_trans (show 0 + 60 ≤ 60 by omega) (Nat.le_of_ble_eq_true rfl)⟩ dJ0_init_db425_32 (fun rv45 H45 L45 hP45 hk45 hS => ?_)
    have hZ45 := hS.1
    have hSo := at_kp hSo hk45 (ow_no hav hav hSo.lt)
    refine h_putF (D := G.1) (ci := 0) (C := RJ0) (T := TJ0) (N := 4) hx hb hts inJ0 tyJ0 tyJ0_ok nmJ0 hown hK hSo hS hAa rfl 0 (by decide) (hts _ tw_1_220) (fun _ h9 => h9) rfl hname rfl (tyJ0_ok 0 (by decide)) rfl rfl (Nat.le_of_ble_eq_true rfl) dJ0_init_db425_35 (fun H46 L46 hSo z46 o46 hS => ?_)
    have hSo : va_at G.1 vwCl (a, .inr (0, [.ref rv45, .int 0, .int 0, .int 0])) H46 := hSo
    have hZ46 := hS.1
    refine lv_goto (tgt := 97) hx hb dJ0_init_db425_38 (by decide) ?_
    exact q_v hx hb hr hlocks dJ0_init_db425_97 hS (by omega) (by omega) trivial

abbrev rmJ0_init_81219 : Room := { frames := 5, cells := 1, slots := 60, locals := 130 }
theorem mJ0_init_81219 {l : Launch} {G : Cx} {A : Nat → Prop} {a b n : Nat} (hAa : A a) (h60 : n ≤ 60) : Met l yJ0_init_81219 (.code yJ0_init_81219 cJ0_init_81219 2 (none : Option Jvm.ClassFile.FieldType) :: GW) rmJ0_init_81219 (PC G A [.ref a, .ref b] (fun H => va_at G.1 vwCl (a, .inr (0, [.null, .int 0, .int 0, .int 0])) H ∧ SBs G A b n H)) (qV A (fun _ => True)) 1 60 (A) := by
  refine mstart "java/lang/String" (by decide +kernel) rfl (Nat.le_of_ble_eq_true rfl) ?_
  intro p e s m below meth c ls hx hb hr hts hown hml hlocks hname hC hA hW hl
  have hl : lv_has ls 2 [(0, .ref a), (1, .ref b)] := hl
  have hK := hC.1
  have hS : va_S A s.heap s.heap [] := va_S.rf
  refine lv_aload_n hx hb dJ0_init_81219_0 rfl (lv_at hl 0 rfl) ?_
  refine lv_aload_n hx hb dJ0_init_81219_1 rfl (lv_at hl 1 rfl) ?_
  refine lv_null hx hb dJ0_init_81219_2 ?_
  refine qV_I (A := A) (A1 := A) (b := a) (As := [.ref b, .null]) (rest := []) ⟨hx, hb, hml, hown, hts⟩ (mJ0_init_db425 (A := A) (n := n) hAa h60) (cwI 2 hts (gI tw_6_36) rfl rfl rfl (hts _ tw_1_4) (hts _ tw_6_34) (hts _ tw_6_35) rfl (by decide +kernel) ⟨Nat.le_of_ble_eq_true rfl, Nat.le_of_ble_eq_true rfl⟩) hC hS (fun _ h => h) (fun q h => hA q (Nat.le_trans hS.1 h))  hW rfl rfl hl.1 (Nat.le_of_ble_eq_true rfl) ⟨Nat.le_trans (show 0 + 1 ≤ 1 by omega) (Nat.le_of_ble_eq_true rfl), Nat.le_trans (show 0 + 60 ≤ 60 by omega) (Nat.le_of_ble_eq_true rfl)⟩ dJ0_init_81219_3 (fun H47 L47 hP47 hk47 hS => ?_)
  have hZ47 := hS.1
  exact q_v hx hb hr hlocks dJ0_init_81219_6 hS (by omega) (by omega) trivial

abbrev rmJ4_toString_0e30d : Room := { frames := 6, cells := 2, slots := 64, locals := 151 }
theorem mJ4_toString_0e30d {l : Launch} {G : Cx} {A : Nat → Prop} {a n : Nat} (h60 : n ≤ 60) : Met l yJ4_toString_0e30d (.code yJ4_toString_0e30d cJ4_toString_0e30d 1 (some (.object "java/lang/String")) :: GW) rmJ4_toString_0e30d (PC G A [.ref a] (SBs G A a n)) (qR A (fun _ _ => True)) 2 64 (A) := by
  refine mstart "java/lang/StringBuilder" (by decide +kernel) rfl (Nat.le_of_ble_eq_true rfl) ?_
  intro p e s m below meth c ls hx hb hr hts hown hml hlocks hname hC hA hW hl
  have hl : lv_has ls 1 [(0, .ref a)] := hl
  have hK := hC.1
  have hS : va_S A s.heap s.heap [] := va_S.rf
  refine h_new (D := G.1) (C := RJ0) (T := TJ0) (N := 4) (ci := 0) (fs := [.null, .int 0, .int 0, .int 0]) hx hb hts inJ0 tyJ0 tyJ0_ok hown (hts _ tw_6_30) (hts _ tw_1_176) (hts _ tw_1_4) hK hS rfl (fun j hj => match j, hj with | 0, _ => rfl | 1, _ => rfl | 2, _ => rfl | 3, _ => rfl) (Nat.le_trans (show 0 + 1 ≤ 2 by omega) (Nat.le_of_ble_eq_true rfl)) (Nat.le_trans (show 0 + 4 ≤ 64 by omega) (Nat.le_of_ble_eq_true rfl)) dJ4_toString_0e30d_0 (fun so H48 hso hOso z48 o48 hS => ?_)
  have hZ48 := hS.1
  have hMso : A so := hA so (by omega)
  have hL := SBs_n hW o48
  refine lv_dup hx hb dJ4_toString_0e30d_3 rfl ?_
  refine lv_aload_n hx hb dJ4_toString_0e30d_4 rfl (lv_at hl 0 rfl) ?_
  refine qV_I (A := A) (A1 := A) (b := so) (As := [.ref a]) (rest := .ref so :: []) ⟨hx, hb, hml, hown, hts⟩ (mJ0_init_81219 (A := A) (n := n) hMso h60) (cwI 1 hts (gI tw_6_33) rfl rfl rfl (hts _ tw_1_4) (hts _ tw_6_31) (hts _ tw_6_32) rfl (by decide +kernel) ⟨Nat.le_of_ble_eq_true rfl, Nat.le_of_ble_eq_true rfl⟩) hC hS (fun _ h => h) (fun q h => hA q (Nat.le_trans hS.1 h))  ⟨hOso, hL⟩ rfl rfl hl.1 (Nat.le_of_ble_eq_true rfl) ⟨Nat.le_trans (show (0 + 1) + 1 ≤ 2 by omega) (Nat.le_of_ble_eq_true rfl), Nat.le_trans (show (0 + 4) + 60 ≤ 64 by omega) (Nat.le_of_ble_eq_true rfl)⟩ dJ4_toString_0e30d_5 (fun H49 L49 hP49 hk49 hS => ?_)
  have hZ49 := hS.1
  exact q_a hx hb hr (Or.inl ⟨_, rfl⟩) hlocks dJ4_toString_0e30d_8 hS (by omega) (by omega) trivial

abbrev rmX4_told : Room := { frames := 7, cells := 64, slots := 7404, locals := 171 }
theorem mX4_told {l : Launch} {G : Cx} {A : Nat → Prop} {a sz : Nat} {t : List Nat} (tok : okc t) (t60 : t.length ≤ 60) : Met l yX4_told (.code yX4_told cX4_told 6 (some (.object "java/lang/String")) :: GW) rmX4_told (PC G A [.ref a] (fun H => H.size = sz ∧ IA0 G a t H)) (qR A (fun _ _ => True)) 64 7404 (A) := by
  refine mstart "SigntextModel" (by decide +kernel) rfl (Nat.le_of_ble_eq_true rfl) ?_
  intro p e s m below meth c ls hx hb hr hts hown hml hlocks hname hC hA hW hl
  have hl : lv_has ls 6 [(0, .ref a)] := hl
  have hK := hC.1
  have hS : va_S A s.heap s.heap [] := va_S.rf
  obtain ⟨hsz, hR⟩ := hW
  refine h_new (D := G.1) (C := RJ4) (T := TJ4) (N := 4) (ci := 1) (fs := [.null, .int 0, .int 0, .int 0]) hx hb hts inJ4 tyJ4 tyJ4_ok hown (hts _ tw_5_194) (hts _ tw_5_195) (hts _ tw_1_25) hK hS rfl (fun j hj => match j, hj with | 0, _ => rfl | 1, _ => rfl | 2, _ => rfl | 3, _ => rfl) (Nat.le_trans (show 0 + 1 ≤ 64 by omega) (Nat.le_of_ble_eq_true rfl)) (Nat.le_trans (show 0 + 4 ≤ 7404 by omega) (Nat.le_of_ble_eq_true rfl)) dX4_told_0 (fun sb H50 hsb hOsb z50 o50 hS => ?_)
  have hZ50 := hS.1
  have hMsb : A sb := hA sb (by omega)
  have hR := hR.n o50
  refine lv_dup hx hb dX4_told_3 rfl ?_
  refine qV_I (A := A) (A1 := ow sb sb H50.size) (b := sb) (As := []) (rest := .ref sb :: []) ⟨hx, hb, hml, hown, hts⟩ (mJ4_init_da8c8 (A := ow sb sb H50.size) (Or.inl rfl)) (cwI 0 hts (gI tw_5_198) rfl rfl rfl (hts _ tw_1_25) (hts _ tw_5_196) (hts _ tw_5_197) rfl (by decide +kernel) ⟨Nat.le_of_ble_eq_true rfl, Nat.le_of_ble_eq_true rfl⟩) hC hS (ow_in hMsb hMsb hA (by omega)) ow_n  hOsb rfl rfl hl.1 (Nat.le_of_ble_eq_true rfl) ⟨Nat.le_trans (show (0 + 1) + 1 ≤ 64 by omega) (Nat.le_of_ble_eq_true rfl), Nat.le_trans (show (0 + 4) + 16 ≤ 7404 by omega) (Nat.le_of_ble_eq_true rfl)⟩ dX4_told_4 (fun H51 L51 hP51 hk51 hS => ?_)
  have hZ51 := hS.1
  have hra : a ≠ sb := by have h8 := hOsb; rintro rfl; exact at_ne_oa hK h8 (r := (RJ4, TJ4, 4)) rfl hR.fst 0 rfl rfl
  have hR := hR.kp hk51 (ow_no hra hra hR.lt)
  have hL : SBs G A sb 0 H51 := SBs_mono (ow_in hMsb hMsb hA (by omega)) hP51
  have hR1 := hR.ia hC.2.1.2
  refine lv_astore_n (lv' := [(1, .ref sb), (0, .ref a)]) hx hb dX4_told_7 rfl hl (by decide) rfl (fun ls hl => ?_)
  refine lv_aload_n hx hb dX4_told_8 rfl (lv_at hl 1 rfl) ?_
  refine lv_astore_n (lv' := [(2, .ref a), (1, .ref sb), (0, .ref a)]) hx hb dX4_told_9 rfl hl (by decide) rfl (fun ls hl => ?_)
  refine lv_aload_n hx hb dX4_told_10 rfl (lv_at hl 0 rfl) ?_
  refine h_ilen hx hb hC.2.1 hR1 dX4_told_11 ?_
  refine lv_istore_n (lv' := [(3, .int (nI t.length)), (2, .ref a), (1, .ref sb), (0, .ref a)]) hx hb dX4_told_12 rfl hl (by decide) rfl (fun ls hl => ?_)
  refine lv_iconst (v := nI 0) hx hb dX4_told_13 (by decide) ?_
  refine lv_istore (lv' := [(4, .int (nI 0)), (3, .int (nI t.length)), (2, .ref a), (1, .ref sb), (0, .ref a)]) hx hb dX4_told_14 hl (by decide) rfl (fun ls hl => ?_)
  have hl : lv_has ls 6 [(4, .int (nI 0)), (3, .int (nI t.length)), (2, .ref a), (1, .ref sb)] := (lv_sub hl [0, 1, 2, 3] rfl)
  refine W.widen (k := 2 + 0) (n := 20 + 0 * 122) (by decide) (by decide) ?_
  refine nloop (P := fun j => ∀ (ls : Array Slot) (H : Heap) (L : List Loc), lv_has ls 6 [(4, .int (nI j)), (3, .int (nI t.length)), (2, .ref a), (1, .ref sb)] → va_S A s.heap H L → IA0 G a t H → SBs G A sb j H → W p l e rmX4_told s m [.ref a].toArray below meth c H L (2 + j) (20 + j * 122) (MQ below (qR A (fun _ _ => True)) [.ref a].toArray s 64 7404 (A)) (F0 m 16 ls [])) t.length ?_ 0 (Nat.zero_le _) ls H51 L51 hl hS hR hL
  clear hl
  intro j hj ih ls H L hl
  clear hS hR hL hR1
  intro hS hR hL
  have hZ0 := hS.1
  have hR1 := hR.ia hC.2.1.2
  refine lv_iload hx hb dX4_told_16 (lv_at hl 0 rfl) ?_
  refine lv_iload_n hx hb dX4_told_18 rfl (lv_at hl 1 rfl) ?_
  refine b_ge (tgt := 42) hx hb dX4_told_19 (by decide) (by omega) (by omega) (fun c_52 => ?_) (fun c_52 => ?_)
  · have ej : j = t.length := by omega
    rw [ej] at hL
    refine lv_aload_n hx hb dX4_told_42 rfl (lv_at hl 3 rfl) ?_
    refine qR_V (A := A) (A1 := A) (b := sb) (As := []) (rest := []) ⟨hx, hb, hml, hown, hts⟩ (mJ4_toString_0e30d (A := A) (n := t.length) t60) (cwV 0 hts (gV tw_6_26 tw_6_27 tw_6_28 tw_1_25 tw_6_29) rfl rfl rfl (by decide +kernel) ⟨Nat.le_of_ble_eq_true rfl, Nat.le_of_ble_eq_true rfl⟩) hC hS (fun _ h => h) (fun q h => hA q (Nat.le_trans hS.1 h)) (SBs_recv hK hL) hL rfl rfl hl.1 (Nat.le_of_ble_eq_true rfl) ⟨Nat.le_trans (show (2 + j) + 2 ≤ 64 by omega) (Nat.le_of_ble_eq_true rfl), Nat.le_trans (show (20 + j * 122) + 64 ≤ 7404 by omega) (Nat.le_of_ble_eq_true rfl)⟩ dX4_told_43 (fun rv53 H53 L53 hP53 hk53 hS => ?_)
    have hZ53 := hS.1
    exact q_a hx hb hr (Or.inl ⟨_, rfl⟩) hlocks dX4_told_46 hS (by omega) (by omega) trivial
  · have tk := tok j
    refine lv_aload_n hx hb dX4_told_22 rfl (lv_at hl 2 rfl) ?_
    refine lv_iload hx hb dX4_told_23 (lv_at hl 0 rfl) ?_
    refine h_ild hx hb hC.2.1 hR1 (i := j) (by omega) (by omega) dX4_told_25 ?_
    refine lv_istore (lv' := [(5, .int (nI (t.getD j 0))), (4, .int (nI j)), (3, .int (nI t.length)), (2, .ref a), (1, .ref sb)]) hx hb dX4_told_26 hl (by decide) rfl (fun ls hl => ?_)
    refine lv_aload_n hx hb dX4_told_28 rfl (lv_at hl 4 rfl) ?_
    refine lv_iload hx hb dX4_told_29 (lv_at hl 0 rfl) ?_
    refine lv_i2c hx hb dX4_told_31 (show _ = nI (t.getD j 0) from (chr_id (n := t.getD j 0) (by omega))) ?_
    refine qR_V (A := A) (A1 := (fun q9 => A q9 ∧ ¬ ∃ t9, IA0 G q9 t9 H)) (b := sb) (As := [.int (nI (t.getD j 0))]) (rest := []) ⟨hx, hb, hml, hown, hts⟩ (mJ4_append_cf468 (A := (fun q9 => A q9 ∧ ¬ ∃ t9, IA0 G q9 t9 H)) (n := j) (k0 := t.getD j 0) (SBs_A hK hL hMsb) (by omega) tk) (cwV 1 hts (gV tw_5_218 tw_5_219 tw_5_220 tw_1_25 tw_5_221) rfl rfl rfl (by decide +kernel) ⟨Nat.le_of_ble_eq_true rfl, Nat.le_of_ble_eq_true rfl⟩) hC hS (fun _ h => h.1) (fun q h => ⟨hA q (Nat.le_trans hS.1 h), fun ⟨t9, z9⟩ => by have := z9.lt; omega⟩) (SBs_recv hK hL) (SBs_sub hK hL) rfl rfl hl.1 (Nat.le_of_ble_eq_true rfl) ⟨Nat.le_trans (show (2 + j) + 1 ≤ 64 by omega) (Nat.le_of_ble_eq_true rfl), Nat.le_trans (show (20 + j * 122) + 122 ≤ 7404 by omega) (Nat.le_of_ble_eq_true rfl)⟩ dX4_told_32 (fun rv54 H54 L54 hP54 hk54 hS => ?_)
    have hZ54 := hS.1
    refine lv_pop hx hb dX4_told_35 rfl ?_
    refine lv_iinc (v := nI (j + 1)) (lv' := [(4, .int (nI (j + 1))), (5, .int (nI (t.getD j 0))), (3, .int (nI t.length)), (2, .ref a), (1, .ref sb)]) hx hb dX4_told_36 hl (k := 1) rfl (nI_add j 1) (by decide) rfl (fun ls hl => ?_)
    refine lv_goto (tgt := 16) hx hb dX4_told_39 (by decide) ?_
    refine W.widen (k := 2 + (j + 1)) (n := 20 + (j + 1) * 122) (by omega) (by omega) ?_
    exact ih (j + 1) (by omega) (by omega) ls H54 L54 (lv_sub hl [0, 2, 3, 4] rfl) hS (hR.kp hk54 (fun q => q.2 ⟨_, hR⟩)) (SBs_mono (fun _ h => h.1) hP54.2)
