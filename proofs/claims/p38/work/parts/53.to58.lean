/-! 53.nat -/
section
/-! words of the machine's own members -/
theorem tn_getC : Cond.native ⟨"java/lang/Object", "getClass", "()Ljava/lang/Class;"⟩ ∈ GW := gw_at tin_5 133 rfl rfl
theorem tn_acopy : Cond.native ⟨"java/lang/System", "arraycopy", "(Ljava/lang/Object;ILjava/lang/Object;II)V"⟩ ∈ GW := gw_at tin_5 145 rfl rfl
theorem tn_clone : Cond.native ⟨"java/lang/Object", "clone", "()Ljava/lang/Object;"⟩ ∈ GW := gw_at tin_6 4 rfl rfl
theorem tx_getC : Cond.declares ⟨"java/lang/Object", "getClass", "()Ljava/lang/Class;"⟩ ∈ XW := xw_at tin_7 110 rfl rfl
theorem tx_io : Cond.castable "[I" "java/lang/Object" ∈ XW := xw_at tin_7 113 rfl rfl
theorem tx_bc : Cond.castable "[B" "java/lang/Cloneable" ∈ XW := xw_at tin_6 7 rfl rfl
end
/-! 54.list2 -/
section
/-! ArrayList, 2: it grows -/
theorem IA0.fst {G : Cx} {a : Nat} {t : List Nat} {H : Heap} (h : IA0 G a t H) : va_at G.1 vwCl (a, .inl (G.2.1 0, t.length, .inl h.choose)) H := h.choose_spec.1
theorem va_up_s {f : Nat → Option Nat} {i : Nat} {x : Option Nat} : va_up f i x i = x := if_pos rfl
theorem at_P2 {D : va_G} {cl : List vw_C} {a b : Nat} {e e2 : va_E} {H : Heap} (h : va_at D cl (a, e) H) (h2 : va_at D cl (b, e2) H) : va_P D cl [(a, e), (b, e2)] H := fun k q hk => by
  match k, hk with
  | 0, hk => cases hk; exact h
  | 1, hk => cases hk; exact h2
  | k + 2, hk => simp at hk
theorem at_D2 {A : Nat → Prop} {a b : Nat} {e e2 : va_E} (hn : a ≠ b) (ha : A a) (hb : A b) : va_D A [(a, e), (b, e2)] := by
  refine ⟨fun i j p q hi hj he => ?_, fun k q hk => ?_⟩
  · match i, j, hi, hj with
    | 0, 0, _, _ => rfl
    | 1, 1, _, _ => rfl
    | 0, 1, hi, hj => cases hi; cases hj; exact absurd he hn
    | 1, 0, hi, hj => cases hi; cases hj; exact absurd he.symm hn
    | i + 2, _, hi, _ => simp at hi
    | 0, j + 2, _, hj => simp at hj
    | 1, j + 2, _, hj => simp at hj
  · match k, hk with
    | 0, hk => cases hk; exact ha
    | 1, hk => cases hk; exact hb
    | k + 2, hk => simp at hk
theorem mmax_nI {a b : Nat} (ha : a < 2 ^ 31) (hb : b < 2 ^ 31) : (if nI a < nI b then nI b else nI a) = nI (max a b) := by
  by_cases h : a < b
  · rw [if_pos ((nI_ltI ha hb).mpr h), Nat.max_eq_right (by omega)]
  · rw [if_neg (fun q => h ((nI_ltI ha hb).mp q)), Nat.max_eq_left (by omega)]
theorem mmin_nI {a b : Nat} (ha : a < 2 ^ 31) (hb : b < 2 ^ 31) : (if nI b < nI a then nI b else nI a) = nI (min a b) := by
  by_cases h : b < a
  · rw [if_pos ((nI_ltI hb ha).mpr h), Nat.min_eq_right (by omega)]
  · rw [if_neg (fun q => h ((nI_ltI hb ha).mp q)), Nat.min_eq_left (by omega)]
section L2
variable {p : Program} {l : Launch} {e : Env} {R : Room} {s : State} {m : MethodId} {args : Array Value} {below : List Frame} {meth : Method} {c : Code} {H : Heap} {locs : List Loc} {cells slots : Nat} {Q : State → Prop}
variable {cc : ByteArray} {pc : Nat} {ls : Array Slot} {rest : List Value} {A : Nat → Prop} {a : Nat} {H0 : Heap} {G : Cx}
theorem findIA (hK : va_K G.1 vwCl (tyL G.2.1) s) : s.vm.findClass "[I" = some (G.2.1 0) := (hK.2 0 _ rfl).2
theorem findOA (hK : va_K G.1 vwCl (tyL G.2.1) s) : s.vm.findClass "[Ljava/lang/Object;" = some (G.2.1 5) := by
  obtain ⟨-, -, -, -, -, h4⟩ := (hK.2 5 _ rfl).2
  exact h4
theorem ia0_inst (hK : va_K G.1 vwCl (tyL G.2.1) s) {y : Nat} {t : List Nat} (h : IA0 G y t H) : ∃ cellV : Cell, H[y]? = some cellV ∧ cellV.vm.isStatics = false ∧ s.vm.findClass "[I" = some cellV.cls := by
  obtain ⟨f, h1, -⟩ := h
  exact ⟨_, h1, rfl, findIA hK⟩
theorem asg_io (hC : cx G A s) {comp c0 : ClassId} (h1 : s.vm.findClass "java/lang/Object" = some comp) (h2 : s.vm.findClass "[I" = some c0) : s.vm.assignable c0 comp = true := by
  have hx : xWs s := hC.2.2.2.2.2.2.2.2.2.2.2.1
  obtain ⟨x, t1, f1, f2, f3⟩ := Cond.castable_spec (xWs.use (a := #[]) hx tx_io)
  cases h2.symm.trans f1
  cases h1.symm.trans f2
  exact f3
theorem h_aastO (hexec : p.tables.exec = Jvm.exec) (hb : c.code = cc) (hC : cx G A s) {n v : Nat} {f : Nat → Option Nat} {nv : Nat} {fv : Nat → Int32} (h : va_at G.1 vwCl (a, .inl (G.2.1 5, n, .inr (.inr (.inr (.inr f))))) H) (hv : va_at G.1 vwCl (v, .inl (G.2.1 0, nv, .inl fv)) H) (hS : va_S A H0 H locs) (ha : A a) {i : Int32} (hin : vp_in i n) (hdg : decode cc pc = .ok (.aastore, 1))
    (kk : ∀ (H1 : Heap) (locs1 : List Loc), va_at G.1 vwCl (a, .inl (G.2.1 5, n, .inr (.inr (.inr (.inr (va_up f i.toNatClampNeg (some v))))))) H1 → H1.size = H.size → (∀ q : Nat, q ≠ a → H1[q]? = H[q]?) → va_S A H0 H1 locs1 → W p l e R s m args below meth c H1 locs1 cells slots Q (F0 m (pc + 1) ls rest)) : W p l e R s m args below meth c H locs cells slots Q (F0 m pc ls (.ref v :: .int i :: .ref a :: rest)) := by
  have hK := hC.1
  have hlt : i.toNatClampNeg < n := Nat.not_le.mp fun q => hin (Or.inr q)
  have h0 : ¬ i < 0 := fun q => hin (Or.inl q)
  obtain ⟨kA, comp, k1, k2, k3, -⟩ := (hK.2 5 _ rfl).2
  obtain ⟨kI, cmI, k4, k5⟩ := kI0 hC
  obtain ⟨kO, hkO, -⟩ := Vm.findClass_spec k3
  refine W.aast hexec hb h (fun q h => by cases h) (fun h => by cases h) k1 k2 rfl hkO ⟨h0, by show _ < (arrV _ _ _).slots.size; rw [arrV_size]; exact hlt⟩ hv (fun q h => by cases h) (by exact k4) (by exact asg_io hC k3 (findIA hK)) rfl rfl hdg fun H1 e z oq => ?_
  refine kk H1 _ ?_ z oq (hS.put z oq ha)
  show H1[a]? = some (vp_cell _ _)
  rw [e]
  rw [vp_cell_q, vp_cell_q, arrV_store]
  congr 2
  funext q
  by_cases hq : q = i.toNatClampNeg
  · subst hq
    simp [updV, va_up, va_rf]
  · simp [updV, va_up, hq]
end L2
theorem dJx4a65c_grow_92f84_0 : decode cJx4a65c_grow_92f84 0 = .ok (.aload_n 0, 1) := by decide +kernel
theorem dJx4a65c_grow_92f84_1 : decode cJx4a65c_grow_92f84 1 = .ok (.getfield 9, 3) := by decide +kernel
theorem dJx4a65c_grow_92f84_4 : decode cJx4a65c_grow_92f84 4 = .ok (.arraylength, 1) := by decide +kernel
theorem dJx4a65c_grow_92f84_5 : decode cJx4a65c_grow_92f84 5 = .ok (.istore_n 2, 1) := by decide +kernel
theorem dJx4a65c_grow_92f84_6 : decode cJx4a65c_grow_92f84 6 = .ok (.iload_n 2, 1) := by decide +kernel
theorem dJx4a65c_grow_92f84_7 : decode cJx4a65c_grow_92f84 7 = .ok (.ifCond .gt 13, 3) := by decide +kernel
theorem dJx4a65c_grow_92f84_10 : decode cJx4a65c_grow_92f84 10 = .ok (.aload_n 0, 1) := by decide +kernel
theorem dJx4a65c_grow_92f84_11 : decode cJx4a65c_grow_92f84 11 = .ok (.getfield 9, 3) := by decide +kernel
theorem dJx4a65c_grow_92f84_14 : decode cJx4a65c_grow_92f84 14 = .ok (.getstatic 39, 3) := by decide +kernel
theorem dJx4a65c_grow_92f84_17 : decode cJx4a65c_grow_92f84 17 = .ok (.if_acmp .eq 28, 3) := by decide +kernel
theorem dJx4a65c_grow_92f84_20 : decode cJx4a65c_grow_92f84 20 = .ok (.iload_n 2, 1) := by decide +kernel
theorem dJx4a65c_grow_92f84_21 : decode cJx4a65c_grow_92f84 21 = .ok (.iload_n 1, 1) := by decide +kernel
theorem dJx4a65c_grow_92f84_22 : decode cJx4a65c_grow_92f84 22 = .ok (.iload_n 2, 1) := by decide +kernel
theorem dJx4a65c_grow_92f84_23 : decode cJx4a65c_grow_92f84 23 = .ok (.isub, 1) := by decide +kernel
theorem dJx4a65c_grow_92f84_24 : decode cJx4a65c_grow_92f84 24 = .ok (.iload_n 2, 1) := by decide +kernel
theorem dJx4a65c_grow_92f84_25 : decode cJx4a65c_grow_92f84 25 = .ok (.iconst 1, 1) := by decide +kernel
theorem dJx4a65c_grow_92f84_26 : decode cJx4a65c_grow_92f84 26 = .ok (.ishr, 1) := by decide +kernel
theorem dJx4a65c_grow_92f84_27 : decode cJx4a65c_grow_92f84 27 = .ok (.invokestatic 73, 3) := by decide +kernel
theorem dJx4a65c_grow_92f84_30 : decode cJx4a65c_grow_92f84 30 = .ok (.istore_n 3, 1) := by decide +kernel
theorem dJx4a65c_grow_92f84_31 : decode cJx4a65c_grow_92f84 31 = .ok (.aload_n 0, 1) := by decide +kernel
theorem dJx4a65c_grow_92f84_32 : decode cJx4a65c_grow_92f84 32 = .ok (.aload_n 0, 1) := by decide +kernel
theorem dJx4a65c_grow_92f84_33 : decode cJx4a65c_grow_92f84 33 = .ok (.getfield 9, 3) := by decide +kernel
theorem dJx4a65c_grow_92f84_36 : decode cJx4a65c_grow_92f84 36 = .ok (.iload_n 3, 1) := by decide +kernel
theorem dJx4a65c_grow_92f84_37 : decode cJx4a65c_grow_92f84 37 = .ok (.invokestatic 66, 3) := by decide +kernel
theorem dJx4a65c_grow_92f84_40 : decode cJx4a65c_grow_92f84 40 = .ok (.dup_x1, 1) := by decide +kernel
theorem dJx4a65c_grow_92f84_41 : decode cJx4a65c_grow_92f84 41 = .ok (.putfield 9, 3) := by decide +kernel
theorem dJx4a65c_grow_92f84_44 : decode cJx4a65c_grow_92f84 44 = .ok (.areturn, 1) := by decide +kernel
theorem dJx4a65c_grow_92f84_45 : decode cJx4a65c_grow_92f84 45 = .ok (.aload_n 0, 1) := by decide +kernel
theorem dJx4a65c_grow_92f84_46 : decode cJx4a65c_grow_92f84 46 = .ok (.bipush 10, 2) := by decide +kernel
theorem dJx4a65c_grow_92f84_48 : decode cJx4a65c_grow_92f84 48 = .ok (.iload_n 1, 1) := by decide +kernel
theorem dJx4a65c_grow_92f84_49 : decode cJx4a65c_grow_92f84 49 = .ok (.invokestatic 79, 3) := by decide +kernel
theorem dJx4a65c_grow_92f84_52 : decode cJx4a65c_grow_92f84 52 = .ok (.anewarray 7, 3) := by decide +kernel
theorem dJx4a65c_grow_92f84_55 : decode cJx4a65c_grow_92f84 55 = .ok (.dup_x1, 1) := by decide +kernel
theorem dJx4a65c_grow_92f84_56 : decode cJx4a65c_grow_92f84 56 = .ok (.putfield 9, 3) := by decide +kernel
theorem dJx4a65c_grow_92f84_59 : decode cJx4a65c_grow_92f84 59 = .ok (.areturn, 1) := by decide +kernel
theorem dJx4a65c_grow_d5877_0 : decode cJx4a65c_grow_d5877 0 = .ok (.aload_n 0, 1) := by decide +kernel
theorem dJx4a65c_grow_d5877_1 : decode cJx4a65c_grow_d5877 1 = .ok (.aload_n 0, 1) := by decide +kernel
theorem dJx4a65c_grow_d5877_2 : decode cJx4a65c_grow_d5877 2 = .ok (.getfield 48, 3) := by decide +kernel
theorem dJx4a65c_grow_d5877_5 : decode cJx4a65c_grow_d5877 5 = .ok (.iconst 1, 1) := by decide +kernel
theorem dJx4a65c_grow_d5877_6 : decode cJx4a65c_grow_d5877 6 = .ok (.iadd, 1) := by decide +kernel
theorem dJx4a65c_grow_d5877_7 : decode cJx4a65c_grow_d5877 7 = .ok (.invokevirtual 69, 3) := by decide +kernel
theorem dJx4a65c_grow_d5877_10 : decode cJx4a65c_grow_d5877 10 = .ok (.areturn, 1) := by decide +kernel
theorem dJx4a65c_add_72be8_0 : decode cJx4a65c_add_72be8 0 = .ok (.iload_n 3, 1) := by decide +kernel
theorem dJx4a65c_add_72be8_1 : decode cJx4a65c_add_72be8 1 = .ok (.aload_n 2, 1) := by decide +kernel
theorem dJx4a65c_add_72be8_2 : decode cJx4a65c_add_72be8 2 = .ok (.arraylength, 1) := by decide +kernel
theorem dJx4a65c_add_72be8_3 : decode cJx4a65c_add_72be8 3 = .ok (.if_icmp .ne 8, 3) := by decide +kernel
theorem dJx4a65c_add_72be8_6 : decode cJx4a65c_add_72be8 6 = .ok (.aload_n 0, 1) := by decide +kernel
theorem dJx4a65c_add_72be8_7 : decode cJx4a65c_add_72be8 7 = .ok (.invokevirtual 129, 3) := by decide +kernel
theorem dJx4a65c_add_72be8_10 : decode cJx4a65c_add_72be8 10 = .ok (.astore_n 2, 1) := by decide +kernel
theorem dJx4a65c_add_72be8_11 : decode cJx4a65c_add_72be8 11 = .ok (.aload_n 2, 1) := by decide +kernel
theorem dJx4a65c_add_72be8_12 : decode cJx4a65c_add_72be8 12 = .ok (.iload_n 3, 1) := by decide +kernel
theorem dJx4a65c_add_72be8_13 : decode cJx4a65c_add_72be8 13 = .ok (.aload_n 1, 1) := by decide +kernel
theorem dJx4a65c_add_72be8_14 : decode cJx4a65c_add_72be8 14 = .ok (.aastore, 1) := by decide +kernel
theorem dJx4a65c_add_72be8_15 : decode cJx4a65c_add_72be8 15 = .ok (.aload_n 0, 1) := by decide +kernel
theorem dJx4a65c_add_72be8_16 : decode cJx4a65c_add_72be8 16 = .ok (.iload_n 3, 1) := by decide +kernel
theorem dJx4a65c_add_72be8_17 : decode cJx4a65c_add_72be8 17 = .ok (.iconst 1, 1) := by decide +kernel
theorem dJx4a65c_add_72be8_18 : decode cJx4a65c_add_72be8 18 = .ok (.iadd, 1) := by decide +kernel
theorem dJx4a65c_add_72be8_19 : decode cJx4a65c_add_72be8 19 = .ok (.putfield 48, 3) := by decide +kernel
theorem dJx4a65c_add_72be8_22 : decode cJx4a65c_add_72be8 22 = .ok (.return_, 1) := by decide +kernel
theorem dJ7_copyOf_1904c_0 : decode cJ7_copyOf_1904c 0 = .ok (.aload_n 0, 1) := by decide +kernel
theorem dJ7_copyOf_1904c_1 : decode cJ7_copyOf_1904c 1 = .ok (.iload_n 1, 1) := by decide +kernel
theorem dJ7_copyOf_1904c_2 : decode cJ7_copyOf_1904c 2 = .ok (.aload_n 0, 1) := by decide +kernel
theorem dJ7_copyOf_1904c_3 : decode cJ7_copyOf_1904c 3 = .ok (.invokevirtual 86, 3) := by decide +kernel
theorem dJ7_copyOf_1904c_6 : decode cJ7_copyOf_1904c 6 = .ok (.invokestatic 300, 3) := by decide +kernel
theorem dJ7_copyOf_1904c_9 : decode cJ7_copyOf_1904c 9 = .ok (.areturn, 1) := by decide +kernel
theorem dJ7_copyOf_6403c_0 : decode cJ7_copyOf_6403c 0 = .ok (.aload_n 2, 1) := by decide +kernel
theorem dJ7_copyOf_6403c_1 : decode cJ7_copyOf_6403c 1 = .ok (.ldc 110, 2) := by decide +kernel
theorem dJ7_copyOf_6403c_3 : decode cJ7_copyOf_6403c 3 = .ok (.if_acmp .ne 10, 3) := by decide +kernel
theorem dJ7_copyOf_6403c_6 : decode cJ7_copyOf_6403c 6 = .ok (.iload_n 1, 1) := by decide +kernel
theorem dJ7_copyOf_6403c_7 : decode cJ7_copyOf_6403c 7 = .ok (.anewarray 2, 3) := by decide +kernel
theorem dJ7_copyOf_6403c_10 : decode cJ7_copyOf_6403c 10 = .ok (.goto 14, 3) := by decide +kernel
theorem dJ7_copyOf_6403c_13 : decode cJ7_copyOf_6403c 13 = .ok (.aload_n 2, 1) := by decide +kernel
theorem dJ7_copyOf_6403c_14 : decode cJ7_copyOf_6403c 14 = .ok (.invokevirtual 90, 3) := by decide +kernel
theorem dJ7_copyOf_6403c_17 : decode cJ7_copyOf_6403c 17 = .ok (.iload_n 1, 1) := by decide +kernel
theorem dJ7_copyOf_6403c_18 : decode cJ7_copyOf_6403c 18 = .ok (.invokestatic 95, 3) := by decide +kernel
theorem dJ7_copyOf_6403c_21 : decode cJ7_copyOf_6403c 21 = .ok (.checkcast 110, 3) := by decide +kernel
theorem dJ7_copyOf_6403c_24 : decode cJ7_copyOf_6403c 24 = .ok (.astore_n 3, 1) := by decide +kernel
theorem dJ7_copyOf_6403c_25 : decode cJ7_copyOf_6403c 25 = .ok (.aload_n 0, 1) := by decide +kernel
theorem dJ7_copyOf_6403c_26 : decode cJ7_copyOf_6403c 26 = .ok (.iconst 0, 1) := by decide +kernel
theorem dJ7_copyOf_6403c_27 : decode cJ7_copyOf_6403c 27 = .ok (.aload_n 3, 1) := by decide +kernel
theorem dJ7_copyOf_6403c_28 : decode cJ7_copyOf_6403c 28 = .ok (.iconst 0, 1) := by decide +kernel
theorem dJ7_copyOf_6403c_29 : decode cJ7_copyOf_6403c 29 = .ok (.aload_n 0, 1) := by decide +kernel
theorem dJ7_copyOf_6403c_30 : decode cJ7_copyOf_6403c 30 = .ok (.arraylength, 1) := by decide +kernel
theorem dJ7_copyOf_6403c_31 : decode cJ7_copyOf_6403c 31 = .ok (.iload_n 1, 1) := by decide +kernel
theorem dJ7_copyOf_6403c_32 : decode cJ7_copyOf_6403c 32 = .ok (.invokestatic 304, 3) := by decide +kernel
theorem dJ7_copyOf_6403c_35 : decode cJ7_copyOf_6403c 35 = .ok (.invokestatic 150, 3) := by decide +kernel
theorem dJ7_copyOf_6403c_38 : decode cJ7_copyOf_6403c 38 = .ok (.aload_n 3, 1) := by decide +kernel
theorem dJ7_copyOf_6403c_39 : decode cJ7_copyOf_6403c 39 = .ok (.areturn, 1) := by decide +kernel
theorem dJ8_newLength_cabcc_0 : decode cJ8_newLength_cabcc 0 = .ok (.iload_n 0, 1) := by decide +kernel
theorem dJ8_newLength_cabcc_1 : decode cJ8_newLength_cabcc 1 = .ok (.iload_n 1, 1) := by decide +kernel
theorem dJ8_newLength_cabcc_2 : decode cJ8_newLength_cabcc 2 = .ok (.iload_n 2, 1) := by decide +kernel
theorem dJ8_newLength_cabcc_3 : decode cJ8_newLength_cabcc 3 = .ok (.invokestatic 194, 3) := by decide +kernel
theorem dJ8_newLength_cabcc_6 : decode cJ8_newLength_cabcc 6 = .ok (.iadd, 1) := by decide +kernel
theorem dJ8_newLength_cabcc_7 : decode cJ8_newLength_cabcc 7 = .ok (.istore_n 3, 1) := by decide +kernel
theorem dJ8_newLength_cabcc_8 : decode cJ8_newLength_cabcc 8 = .ok (.iconst 0, 1) := by decide +kernel
theorem dJ8_newLength_cabcc_9 : decode cJ8_newLength_cabcc 9 = .ok (.iload_n 3, 1) := by decide +kernel
theorem dJ8_newLength_cabcc_10 : decode cJ8_newLength_cabcc 10 = .ok (.if_icmp .ge 11, 3) := by decide +kernel
theorem dJ8_newLength_cabcc_13 : decode cJ8_newLength_cabcc 13 = .ok (.iload_n 3, 1) := by decide +kernel
theorem dJ8_newLength_cabcc_14 : decode cJ8_newLength_cabcc 14 = .ok (.ldc 200, 2) := by decide +kernel
theorem dJ8_newLength_cabcc_16 : decode cJ8_newLength_cabcc 16 = .ok (.if_icmp .gt 5, 3) := by decide +kernel
theorem dJ8_newLength_cabcc_19 : decode cJ8_newLength_cabcc 19 = .ok (.iload_n 3, 1) := by decide +kernel
theorem dJ8_newLength_cabcc_20 : decode cJ8_newLength_cabcc 20 = .ok (.ireturn, 1) := by decide +kernel
theorem dJ8_newLength_cabcc_21 : decode cJ8_newLength_cabcc 21 = .ok (.iload_n 0, 1) := by decide +kernel
theorem dJ8_newLength_cabcc_22 : decode cJ8_newLength_cabcc 22 = .ok (.iload_n 1, 1) := by decide +kernel
theorem dJ8_newLength_cabcc_23 : decode cJ8_newLength_cabcc 23 = .ok (.invokestatic 201, 3) := by decide +kernel
theorem dJ8_newLength_cabcc_26 : decode cJ8_newLength_cabcc 26 = .ok (.ireturn, 1) := by decide +kernel
abbrev rmJ8_newLength_cabcc : Room := { frames := 1, cells := 0, slots := 0, locals := 20 }
theorem mJ8_newLength_cabcc {l : Launch} {G : Cx} {A : Nat → Prop} {o9 a9 b9 : Nat} (h0 : 0 < max a9 b9) (h30 : o9 + max a9 b9 < 2 ^ 30) : Met l yJ8_newLength_cabcc (.code yJ8_newLength_cabcc cJ8_newLength_cabcc 4 (some .int) :: GW) rmJ8_newLength_cabcc (PC G A [.int (nI o9), .int (nI a9), .int (nI b9)] (fun _ => True)) (vp_Si (fun r => r = nI (o9 + max a9 b9))) 0 0 (fun _ => False) := by
  refine mstart "jdk/internal/util/ArraysSupport" (by decide +kernel) rfl (Nat.le_of_ble_eq_true rfl) ?_
  intro p e s m below meth c ls hx hb hr hts hown hml hlocks hname hC hA hW hl
  have hl : lv_has ls 4 [(0, .int (nI o9)), (1, .int (nI a9)), (2, .int (nI b9))] := hl
  have hK := hC.1
  have hS : va_S A s.heap s.heap [] := va_S.rf
  have hm1 := Nat.le_max_left a9 b9
  have hm2 := Nat.le_max_right a9 b9
  refine lv_iload_n hx hb dJ8_newLength_cabcc_0 rfl (lv_at hl 0 rfl) ?_
  refine lv_iload_n hx hb dJ8_newLength_cabcc_1 rfl (lv_at hl 1 rfl) ?_
  refine lv_iload_n hx hb dJ8_newLength_cabcc_2 rfl (lv_at hl 2 rfl) ?_
  refine va_mmax hx hb (hml.trans hl.1.symm) hown (hts _ tw_5_104) (hts _ tw_5_105) (hts _ tw_1_19) (hts _ tw_5_106) (Nat.le_of_ble_eq_true rfl) (Nat.le_of_ble_eq_true rfl) (Nat.zero_le _) (Nat.zero_le _) dJ8_newLength_cabcc_3 ?_
  refine lv_cv (mmax_nI (a := a9) (b := b9) (by omega) (by omega)) ?_
  refine lv_iadd hx hb dJ8_newLength_cabcc_6 ?_
  refine lv_cv (nI_add o9 (max a9 b9)) ?_
  refine lv_istore_n (lv' := [(3, .int (nI (o9 + max a9 b9))), (0, .int (nI o9)), (1, .int (nI a9)), (2, .int (nI b9))]) hx hb dJ8_newLength_cabcc_7 rfl hl (by decide) rfl (fun ls hl => ?_)
  refine lv_iconst (v := nI 0) hx hb dJ8_newLength_cabcc_8 (by decide) ?_
  refine lv_iload_n hx hb dJ8_newLength_cabcc_9 rfl (lv_at hl 0 rfl) ?_
  refine b_ge (tgt := 21) hx hb dJ8_newLength_cabcc_10 (by decide) (by omega) (by omega) (fun c_1 => ?_) (fun c_1 => ?_)
  · exact absurd c_1 (by omega)
  · refine lv_iload_n hx hb dJ8_newLength_cabcc_13 rfl (lv_at hl 0 rfl) ?_
    refine lv_ldc (v := 2147483639) hx hb hown (hts _ tw_5_107) dJ8_newLength_cabcc_14 ?_
    refine lv_cv (show (2147483639 : Int32) = nI 2147483639 from rfl) ?_
    refine b_gt (tgt := 21) hx hb dJ8_newLength_cabcc_16 (by decide) (by omega) (by omega) (fun c_2 => ?_) (fun c_2 => ?_)
    · exact absurd c_2 (by omega)
    · refine lv_iload_n hx hb dJ8_newLength_cabcc_19 rfl (lv_at hl 0 rfl) ?_
      exact p_i hx hb hr hlocks dJ8_newLength_cabcc_20 rfl

abbrev rmJ7_copyOf_6403c : Room := { frames := 1, cells := 1, slots := 90, locals := 60 }
theorem mJ7_copyOf_6403c {l : Launch} {G : Cx} {A : Nat → Prop} {ed cap m9 sz : Nat} {f : Nat → Option Nat} (hAe : A ed) (hc : cap ≤ m9) (hm9 : m9 ≤ 90) : Met l yJ7_copyOf_6403c (.code yJ7_copyOf_6403c cJ7_copyOf_6403c 4 (some (.array (.object "java/lang/Object"))) :: GW) rmJ7_copyOf_6403c (PC G A [.ref ed, .int (nI m9), .ref (G.2.2 11)] (fun H => H.size = sz ∧ va_at G.1 vwCl (ed, .inl (G.2.1 5, cap, .inr (.inr (.inr (.inr f))))) H ∧ (∀ i : Nat, i < cap → ∃ (y : Nat) (t : List Nat), f i = some y ∧ IA0 G y t H))) (qR A (fun r H => sz ≤ r ∧ va_at G.1 vwCl (ed, .inl (G.2.1 5, cap, .inr (.inr (.inr (.inr f))))) H ∧ ∃ g : Nat → Option Nat, va_at G.1 vwCl (r, .inl (G.2.1 5, m9, .inr (.inr (.inr (.inr g))))) H ∧ ∀ i : Nat, i < cap → g i = f i)) 1 90 (A) := by
  refine mstart "java/util/Arrays" (by decide +kernel) rfl (Nat.le_of_ble_eq_true rfl) ?_
  intro p e s m below meth c ls hx hb hr hts hown hml hlocks hname hC hA hW hl
  have hl : lv_has ls 4 [(0, .ref ed), (1, .int (nI m9)), (2, .ref (G.2.2 11))] := hl
  have hK := hC.1
  have hS : va_S A s.heap s.heap [] := va_S.rf
  obtain ⟨hsz, hE, hrows⟩ := hW
  refine lv_aload_n hx hb dJ7_copyOf_6403c_0 rfl (lv_at hl 2 rfl) ?_
  refine va_ldcM hx hb hown (hts _ tw_5_133) hC.2.2.2.2.2.2.2.2.2.2.2.2.2.2.2.2.1 dJ7_copyOf_6403c_1 ?_
  refine lv_acmp_ne (rx := some (G.2.2 11)) (ry := some (G.2.2 11)) (tgt := 13) hx hb dJ7_copyOf_6403c_3 (by decide) (fun q => absurd rfl q) (fun _ => ?_)
  refine lv_iload_n hx hb dJ7_copyOf_6403c_6 rfl (lv_at hl 1 rfl) ?_
  refine h_newq (N' := m9) hx hb hown (hts _ tw_5_135) hC.2.2.2.2.2.2.2.2.2.1 hK 5 rfl hS (nI_pos (by omega)) (nI_clamp (by omega)) (by omega) (Nat.le_trans (show 0 + 1 ≤ 1 by omega) (Nat.le_of_ble_eq_true rfl)) (Nat.le_trans (show 0 + m9 ≤ 90 by omega) (Nat.le_of_ble_eq_true rfl)) dJ7_copyOf_6403c_7 (fun na H3 hna hFna z3 o3 hS => ?_)
  have n3hE : ed ≠ na := fun q => absurd hE.lt (by rw [q, hna]; exact Nat.lt_irrefl _)
  have hE := at_n hE o3
  have hZ3 := hS.1
  have hMna : A na := hA na (by omega)
  have hrows : (∀ i : Nat, i < cap → ∃ (y : Nat) (t : List Nat), f i = some y ∧ IA0 G y t H3) := fun i hi => by obtain ⟨y, t, h1, h2⟩ := hrows i hi; exact ⟨y, t, h1, h2.n o3⟩
  refine lv_goto (tgt := 24) hx hb dJ7_copyOf_6403c_10 (by decide) ?_
  refine lv_astore_n (lv' := [(3, .ref na), (0, .ref ed), (1, .int (nI m9)), (2, .ref (G.2.2 11))]) hx hb dJ7_copyOf_6403c_24 rfl hl (by decide) rfl (fun ls hl => ?_)
  refine lv_aload_n hx hb dJ7_copyOf_6403c_25 rfl (lv_at hl 1 rfl) ?_
  refine lv_iconst (v := nI 0) hx hb dJ7_copyOf_6403c_26 (by decide) ?_
  refine lv_aload_n hx hb dJ7_copyOf_6403c_27 rfl (lv_at hl 0 rfl) ?_
  refine lv_iconst (v := nI 0) hx hb dJ7_copyOf_6403c_28 (by decide) ?_
  refine lv_aload_n hx hb dJ7_copyOf_6403c_29 rfl (lv_at hl 1 rfl) ?_
  refine va_alen hx hb hK (at_P hE) 0 5 (v := nI cap) rfl rfl rfl dJ7_copyOf_6403c_30 ?_
  refine lv_iload_n hx hb dJ7_copyOf_6403c_31 rfl (lv_at hl 2 rfl) ?_
  refine va_mmin hx hb (hml.trans hl.1.symm) hown (hts _ tw_5_136) (hts _ tw_5_137) (hts _ tw_1_19) (hts _ tw_5_138) (Nat.le_of_ble_eq_true rfl) (Nat.le_of_ble_eq_true rfl) (Nat.le_trans (show (0 + 1) ≤ 1 by omega) (Nat.le_of_ble_eq_true rfl)) (Nat.le_trans (show (0 + m9) ≤ 90 by omega) (Nat.le_of_ble_eq_true rfl)) dJ7_copyOf_6403c_32 ?_
  refine lv_cv (mmin_nI (a := cap) (b := m9) (by omega) (by omega)) ?_
  refine lv_cv (show _ = nI cap from by rw [Nat.min_eq_left hc]) ?_
  refine va_copyq (D := G.1) (a := na) (a0 := ed) (f := f) (g := fun _ => none) (C := "[I") (ws := [(ed, .inl (G.2.1 5, cap, .inr (.inr (.inr (.inr f))))), (na, .inl (G.2.1 5, m9, .inr (.inr (.inr (.inr (fun _ => none))))))]) hx hb (hml.trans hl.1.symm) hown (hts _ tw_5_139) (hts _ tn_acopy) (hts _ tw_5_140) (hts _ tw_1_22) hK (at_P2 hE hFna) (at_D2 n3hE hAe hMna) hS 0 1 5 5 rfl rfl rfl rfl (nI_pos (by omega)) (nI_pos (by omega)) (nI_pos (by omega)) (by rw [nI_clamp (by omega), nI_clamp (by omega)]; omega) (by rw [nI_clamp (by omega), nI_clamp (by omega)]; omega) (fun i hi y hy => by rw [nI_clamp (by omega)] at hi hy; rw [Nat.zero_add] at hy; obtain ⟨y9, t9, h1, h2⟩ := hrows i hi; rw [h1] at hy; cases hy; exact ia0_inst hK h2) (fun c1 c2 q1 q2 => asg_io hC q1 q2) (Nat.le_of_ble_eq_true rfl) (Nat.le_of_ble_eq_true rfl) dJ7_copyOf_6403c_35 (fun H9 L9 hP9 hD9 hS => ?_)
  have hE : va_at G.1 vwCl (ed, .inl (G.2.1 5, cap, .inr (.inr (.inr (.inr f))))) H9 := hP9 0 _ rfl
  have hN9 := hP9 1 _ rfl
  have hZ9 := hS.1
  refine lv_aload_n hx hb dJ7_copyOf_6403c_38 rfl (lv_at hl 0 rfl) ?_
  exact q_a hx hb hr (Or.inr ⟨_, rfl⟩) hlocks dJ7_copyOf_6403c_39 hS (by omega) (by omega) ⟨by omega, hE, _, hN9, fun i hi => by unfold va_cpy; rw [nI_clamp (n := 0) (by omega), nI_clamp (n := cap) (by omega), if_pos ⟨Nat.zero_le _, by omega⟩]; congr 1; omega⟩

abbrev rmJ7_copyOf_1904c : Room := { frames := 2, cells := 1, slots := 90, locals := 83 }
theorem mJ7_copyOf_1904c {l : Launch} {G : Cx} {A : Nat → Prop} {ed cap m9 sz : Nat} {f : Nat → Option Nat} (hAe : A ed) (hc : cap ≤ m9) (hm9 : m9 ≤ 90) : Met l yJ7_copyOf_1904c (.code yJ7_copyOf_1904c cJ7_copyOf_1904c 2 (some (.array (.object "java/lang/Object"))) :: GW) rmJ7_copyOf_1904c (PC G A [.ref ed, .int (nI m9)] (fun H => H.size = sz ∧ va_at G.1 vwCl (ed, .inl (G.2.1 5, cap, .inr (.inr (.inr (.inr f))))) H ∧ (∀ i : Nat, i < cap → ∃ (y : Nat) (t : List Nat), f i = some y ∧ IA0 G y t H))) (qR A (fun r H => sz ≤ r ∧ va_at G.1 vwCl (ed, .inl (G.2.1 5, cap, .inr (.inr (.inr (.inr f))))) H ∧ ∃ g : Nat → Option Nat, va_at G.1 vwCl (r, .inl (G.2.1 5, m9, .inr (.inr (.inr (.inr g))))) H ∧ ∀ i : Nat, i < cap → g i = f i)) 1 90 (A) := by
  refine mstart "java/util/Arrays" (by decide +kernel) rfl (Nat.le_of_ble_eq_true rfl) ?_
  intro p e s m below meth c ls hx hb hr hts hown hml hlocks hname hC hA hW hl
  have hl : lv_has ls 2 [(0, .ref ed), (1, .int (nI m9))] := hl
  have hK := hC.1
  have hS : va_S A s.heap s.heap [] := va_S.rf
  obtain ⟨hsz, hE, hrows⟩ := hW
  refine lv_aload_n hx hb dJ7_copyOf_1904c_0 rfl (lv_at hl 0 rfl) ?_
  refine lv_iload_n hx hb dJ7_copyOf_1904c_1 rfl (lv_at hl 1 rfl) ?_
  refine lv_aload_n hx hb dJ7_copyOf_1904c_2 rfl (lv_at hl 0 rfl) ?_
  refine va_getC hx hb (hml.trans hl.1.symm) hown (hts _ tw_5_114) (xWs.use hC.2.2.2.2.2.2.2.2.2.2.2.1 tx_getC) (hts _ tw_7_105) (hts _ tw_5_115) (hts _ tn_getC) hC.2.2.2.2.2.2.2.2.2.2.2.2.2.2.2.2.1 ⟨_, hE, rfl, findOA hK⟩ (Nat.le_of_ble_eq_true rfl) (Nat.le_of_ble_eq_true rfl) dJ7_copyOf_1904c_3 ?_
  refine qR_S (A := A) (A1 := A)  (As := [.ref ed, .int (nI m9), .ref (G.2.2 11)]) (rest := []) ⟨hx, hb, hml, hown, hts⟩ (mJ7_copyOf_6403c (A := A) (sz := sz) (f := f) (cap := cap) hAe hc hm9) (va_cwS 3 hts (gS tw_5_130 tw_5_131 tw_1_21 tw_5_132) rfl rfl rfl (by decide +kernel) ⟨Nat.le_of_ble_eq_true rfl, Nat.le_of_ble_eq_true rfl⟩) hC hS (fun _ h => h) (fun q h => hA q (Nat.le_trans hS.1 h))  ⟨hsz, hE, hrows⟩ rfl rfl hl.1 (Nat.le_of_ble_eq_true rfl) ⟨Nat.le_trans (show 0 + 1 ≤ 1 by omega) (Nat.le_of_ble_eq_true rfl), Nat.le_trans (show 0 + 90 ≤ 90 by omega) (Nat.le_of_ble_eq_true rfl)⟩ dJ7_copyOf_1904c_6 (fun rv4 H4 L4 hP4 hk4 hS => ?_)
  have hZ4 := hS.1
  exact q_a hx hb hr (Or.inr ⟨_, rfl⟩) hlocks dJ7_copyOf_1904c_9 hS (by omega) (by omega) hP4

abbrev rmJx4a65c_grow_92f84 : Room := { frames := 3, cells := 1, slots := 90, locals := 104 }
theorem mJx4a65c_grow_92f84_0 {l : Launch} {G : Cx} {A : Nat → Prop} {pa : Nat} {md : Int32} (hAp : A pa) : Met l yJx4a65c_grow_92f84 (.code yJx4a65c_grow_92f84 cJx4a65c_grow_92f84 4 (some (.array (.object "java/lang/Object"))) :: GW) rmJx4a65c_grow_92f84 (PC G A [.ref pa, .int (nI 1)] (fun H => va_at G.1 vwCl (pa, .inr (3, [.int md, .ref (G.2.2 10), .int 0])) H)) (qR A (fun r H => va_at G.1 vwCl (pa, .inr (3, [.int md, .ref r, .int 0])) H ∧ va_at G.1 vwCl (r, .inl (G.2.1 5, 10, .inr (.inr (.inr (.inr (fun _ => none)))))) H ∧ A r)) 1 90 (A) := by
  refine mstart "java/util/ArrayList" (by decide +kernel) rfl (Nat.le_of_ble_eq_true rfl) ?_
  intro p e s m below meth c ls hx hb hr hts hown hml hlocks hname hC hA hW hl
  have hl : lv_has ls 4 [(0, .ref pa), (1, .int (nI 1))] := hl
  have hK := hC.1
  have hS : va_S A s.heap s.heap [] := va_S.rf
  obtain ⟨-, -, -, -, -, -, -, -, zc9, zc10, -⟩ := hC.2.2.1
  have hO := hW
  refine lv_aload_n hx hb dJx4a65c_grow_92f84_0 rfl (lv_at hl 0 rfl) ?_
  refine va_get (D := G.1) (ci := 3) (C := RJx4a65c) (T := TJx4a65c) (N := 3) hx hb hts inJx4a65c hown hK (at_P hO) 0 rfl rfl 1 (by decide) (hts _ tw_4_157) (fun _ h9 => h9) rfl dJx4a65c_grow_92f84_1 ?_
  refine va_tlen (v := nI 0) hx hb zc10 hS rfl dJx4a65c_grow_92f84_4 ?_
  refine lv_istore_n (lv' := [(2, .int (nI 0)), (0, .ref pa), (1, .int (nI 1))]) hx hb dJx4a65c_grow_92f84_5 rfl hl (by decide) rfl (fun ls hl => ?_)
  refine lv_iload_n hx hb dJx4a65c_grow_92f84_6 rfl (lv_at hl 0 rfl) ?_
  refine lv_if_gt (tgt := 20) hx hb dJx4a65c_grow_92f84_7 (by decide) (fun q => absurd q (by decide)) (fun _ => ?_)
  refine lv_aload_n hx hb dJx4a65c_grow_92f84_10 rfl (lv_at hl 1 rfl) ?_
  refine va_get (D := G.1) (ci := 3) (C := RJx4a65c) (T := TJx4a65c) (N := 3) hx hb hts inJx4a65c hown hK (at_P hO) 0 rfl rfl 1 (by decide) (hts _ tw_4_157) (fun _ h9 => h9) rfl dJx4a65c_grow_92f84_11 ?_
  refine va_gets (v := .ref (G.2.2 10)) hx hb zc9 hS hown (hts _ tw_4_155) (fun _ h9 => h9) dJx4a65c_grow_92f84_14 ?_
  refine lv_acmp_eq (rx := some (G.2.2 10)) (ry := some (G.2.2 10)) (tgt := 45) hx hb dJx4a65c_grow_92f84_17 (by decide) (fun _ => ?_) (fun q => absurd rfl q)
  refine lv_aload_n hx hb dJx4a65c_grow_92f84_45 rfl (lv_at hl 1 rfl) ?_
  refine lv_bipush (v := nI 10) hx hb dJx4a65c_grow_92f84_46 (by decide) ?_
  refine lv_iload_n hx hb dJx4a65c_grow_92f84_48 rfl (lv_at hl 2 rfl) ?_
  refine va_mmax hx hb (hml.trans hl.1.symm) hown (hts _ tw_5_142) (hts _ tw_5_105) (hts _ tw_1_19) (hts _ tw_5_106) (Nat.le_of_ble_eq_true rfl) (Nat.le_of_ble_eq_true rfl) (Nat.zero_le _) (Nat.zero_le _) dJx4a65c_grow_92f84_49 ?_
  refine lv_cv (mmax_nI (a := 10) (b := 1) (by omega) (by omega)) ?_
  refine lv_cv (show _ = nI 10 from rfl) ?_
  refine h_newq (N' := 10) hx hb hown (hts _ tw_5_143) hC.2.2.2.2.2.2.2.2.2.1 hK 5 rfl hS (nI_pos (by omega)) (nI_clamp (by omega)) (by omega) (Nat.le_trans (show 0 + 1 ≤ 1 by omega) (Nat.le_of_ble_eq_true rfl)) (Nat.le_trans (show 0 + 10 ≤ 90 by omega) (Nat.le_of_ble_eq_true rfl)) dJx4a65c_grow_92f84_52 (fun na H5 hna hFna z5 o5 hS => ?_)
  have n5hO : pa ≠ na := fun q => absurd hO.lt (by rw [q, hna]; exact Nat.lt_irrefl _)
  have hO := at_n hO o5
  have hZ5 := hS.1
  have hMna : A na := hA na (by omega)
  refine lv_dup_x1 hx hb dJx4a65c_grow_92f84_55 rfl rfl ?_
  refine h_put (D := G.1) (ci := 3) (C := RJx4a65c) (T := TJx4a65c) (N := 3) hx hb hts inJx4a65c tyJx4a65c tyJx4a65c_ok nmJx4a65c hown hK hO hS hAp rfl 1 (by decide) (hts _ tw_4_157) (fun _ h9 => h9) rfl (tyJx4a65c_ok 1 (by decide)) rfl rfl (Nat.le_of_ble_eq_true rfl) dJx4a65c_grow_92f84_56 (fun H6 L6 hO z6 o6 hS => ?_)
  have hO : va_at G.1 vwCl (pa, .inr (3, [.int md, .ref na, .int 0])) H6 := hO
  have hFna := at_o hFna o6 (Ne.symm n5hO)
  have hZ6 := hS.1
  exact q_a hx hb hr (Or.inr ⟨_, rfl⟩) hlocks dJx4a65c_grow_92f84_59 hS (by omega) (by omega) ⟨hO, hFna, hMna⟩

theorem mJx4a65c_grow_92f84_1 {l : Launch} {G : Cx} {A : Nat → Prop} {pa ed cap : Nat} {md : Int32} {f : Nat → Option Nat} (hAp : A pa) (hAe : A ed) (h1 : 1 ≤ cap) (h60 : cap ≤ 60) : Met l yJx4a65c_grow_92f84 (.code yJx4a65c_grow_92f84 cJx4a65c_grow_92f84 4 (some (.array (.object "java/lang/Object"))) :: GW) rmJx4a65c_grow_92f84 (PC G A [.ref pa, .int (nI (cap + 1))] (fun H => va_at G.1 vwCl (pa, .inr (3, [.int md, .ref ed, .int (nI cap)])) H ∧ va_at G.1 vwCl (ed, .inl (G.2.1 5, cap, .inr (.inr (.inr (.inr f))))) H ∧ (∀ i : Nat, i < cap → ∃ (y : Nat) (t : List Nat), f i = some y ∧ IA0 G y t H))) (qR A (fun r H => va_at G.1 vwCl (pa, .inr (3, [.int md, .ref r, .int (nI cap)])) H ∧ (∃ g : Nat → Option Nat, va_at G.1 vwCl (r, .inl (G.2.1 5, cap + max 1 (cap / 2), .inr (.inr (.inr (.inr g))))) H ∧ ∀ i : Nat, i < cap → g i = f i) ∧ A r)) 1 90 (A) := by
  refine mstart "java/util/ArrayList" (by decide +kernel) rfl (Nat.le_of_ble_eq_true rfl) ?_
  intro p e s m below meth c ls hx hb hr hts hown hml hlocks hname hC hA hW hl
  have hl : lv_has ls 4 [(0, .ref pa), (1, .int (nI (cap + 1)))] := hl
  have hK := hC.1
  have hS : va_S A s.heap s.heap [] := va_S.rf
  obtain ⟨hO, hE, hrows⟩ := hW
  have hm1 := Nat.le_max_left 1 (cap / 2)
  have hm2 : max 1 (cap / 2) ≤ 30 := Nat.max_le.mpr ⟨by omega, by omega⟩
  refine lv_aload_n hx hb dJx4a65c_grow_92f84_0 rfl (lv_at hl 0 rfl) ?_
  refine va_get (D := G.1) (ci := 3) (C := RJx4a65c) (T := TJx4a65c) (N := 3) hx hb hts inJx4a65c hown hK (at_P hO) 0 rfl rfl 1 (by decide) (hts _ tw_4_157) (fun _ h9 => h9) rfl dJx4a65c_grow_92f84_1 ?_
  refine va_alen hx hb hK (at_P hE) 0 5 (v := nI cap) rfl rfl rfl dJx4a65c_grow_92f84_4 ?_
  refine lv_istore_n (lv' := [(2, .int (nI cap)), (0, .ref pa), (1, .int (nI (cap + 1)))]) hx hb dJx4a65c_grow_92f84_5 rfl hl (by decide) rfl (fun ls hl => ?_)
  refine lv_iload_n hx hb dJx4a65c_grow_92f84_6 rfl (lv_at hl 0 rfl) ?_
  refine lv_if_gt (tgt := 20) hx hb dJx4a65c_grow_92f84_7 (by decide) (fun c9 => ?_) (fun q => absurd (show nI 0 < nI cap from (nI_ltI (by omega) (by omega)).mpr (by omega)) q)
  refine lv_iload_n hx hb dJx4a65c_grow_92f84_20 rfl (lv_at hl 0 rfl) ?_
  refine lv_iload_n hx hb dJx4a65c_grow_92f84_21 rfl (lv_at hl 2 rfl) ?_
  refine lv_iload_n hx hb dJx4a65c_grow_92f84_22 rfl (lv_at hl 0 rfl) ?_
  refine lv_isub hx hb dJx4a65c_grow_92f84_23 ?_
  refine lv_cv (pk_sub (a := cap + 1) (b := cap) (by omega)) ?_
  refine lv_cv (show nI (cap + 1 - cap) = nI 1 from by rw [Nat.add_sub_cancel_left]) ?_
  refine lv_iload_n hx hb dJx4a65c_grow_92f84_24 rfl (lv_at hl 0 rfl) ?_
  refine lv_iconst (v := nI 1) hx hb dJx4a65c_grow_92f84_25 (by decide) ?_
  refine lv_ishr hx hb dJx4a65c_grow_92f84_26 ?_
  refine lv_cv (show _ = nI (cap / 2) from pk_shrN (by omega) _ 1 (by decide)) ?_
  refine kS_i (A := A) (As := [.int (nI cap), .int (nI 1), .int (nI (cap / 2))]) (rest := []) ⟨hx, hb, hml, hown, hts⟩ (mJ8_newLength_cabcc (A := A) (o9 := cap) (a9 := 1) (b9 := cap / 2) (by omega) (by omega)) (va_cwS 3 hts (gS tw_5_101 tw_5_102 tw_1_20 tw_5_103) rfl rfl rfl (by decide +kernel) ⟨Nat.le_of_ble_eq_true rfl, Nat.le_of_ble_eq_true rfl⟩) hC hS hA  trivial rfl rfl hl.1 (Nat.le_of_ble_eq_true rfl) ⟨Nat.zero_le _, Nat.zero_le _⟩ dJx4a65c_grow_92f84_27 (fun r9 h9 => lv_cv h9 ?_)
  refine lv_istore_n (lv' := [(3, .int (nI (cap + max 1 (cap / 2)))), (2, .int (nI cap)), (0, .ref pa), (1, .int (nI (cap + 1)))]) hx hb dJx4a65c_grow_92f84_30 rfl hl (by decide) rfl (fun ls hl => ?_)
  refine lv_aload_n hx hb dJx4a65c_grow_92f84_31 rfl (lv_at hl 2 rfl) ?_
  refine lv_aload_n hx hb dJx4a65c_grow_92f84_32 rfl (lv_at hl 2 rfl) ?_
  refine va_get (D := G.1) (ci := 3) (C := RJx4a65c) (T := TJx4a65c) (N := 3) hx hb hts inJx4a65c hown hK (at_P hO) 0 rfl rfl 1 (by decide) (hts _ tw_4_157) (fun _ h9 => h9) rfl dJx4a65c_grow_92f84_33 ?_
  refine lv_iload_n hx hb dJx4a65c_grow_92f84_36 rfl (lv_at hl 0 rfl) ?_
  have hPe : pa ≠ ed := at_ne_oa hK hO (r := (RJx4a65c, TJx4a65c, 3)) rfl hE 5 rfl
  refine qR_S (A := A) (A1 := ow ed ed s.heap.size)  (As := [.ref ed, .int (nI (cap + max 1 (cap / 2)))]) (rest := .ref pa :: []) ⟨hx, hb, hml, hown, hts⟩ (mJ7_copyOf_1904c (A := ow ed ed s.heap.size) (sz := s.heap.size) (f := f) (cap := cap) (m9 := cap + max 1 (cap / 2)) (Or.inl rfl) (by omega) (by omega)) (va_cwS 2 hts (gS tw_5_111 tw_5_112 tw_1_21 tw_5_113) rfl rfl rfl (by decide +kernel) ⟨Nat.le_of_ble_eq_true rfl, Nat.le_of_ble_eq_true rfl⟩) hC hS (ow_in hAe hAe hA (Nat.le_refl _)) ow_n  ⟨rfl, hE, hrows⟩ rfl rfl hl.1 (Nat.le_of_ble_eq_true rfl) ⟨Nat.le_trans (show 0 + 1 ≤ 1 by omega) (Nat.le_of_ble_eq_true rfl), Nat.le_trans (show 0 + 90 ≤ 90 by omega) (Nat.le_of_ble_eq_true rfl)⟩ dJx4a65c_grow_92f84_37 (fun rv7 H7 L7 hP7 hk7 hS => ?_)
  have hZ7 := hS.1
  obtain ⟨hsr, hE9, g9, hG9, hg9⟩ := hP7
  have hpl := hO.lt
  have hO := at_kp hO hk7 (ow_no hPe hPe hO.lt)
  have hAr : A rv7 := hA _ hsr
  refine lv_dup_x1 hx hb dJx4a65c_grow_92f84_40 rfl rfl ?_
  refine h_put (D := G.1) (ci := 3) (C := RJx4a65c) (T := TJx4a65c) (N := 3) hx hb hts inJx4a65c tyJx4a65c tyJx4a65c_ok nmJx4a65c hown hK hO hS hAp rfl 1 (by decide) (hts _ tw_4_157) (fun _ h9 => h9) rfl (tyJx4a65c_ok 1 (by decide)) rfl rfl (Nat.le_of_ble_eq_true rfl) dJx4a65c_grow_92f84_41 (fun H8 L8 hO z8 o8 hS => ?_)
  have hO : va_at G.1 vwCl (pa, .inr (3, [.int md, .ref rv7, .int (nI cap)])) H8 := hO
  have hG9 := at_o hG9 o8 (by omega)
  have hZ8 := hS.1
  exact q_a hx hb hr (Or.inr ⟨_, rfl⟩) hlocks dJx4a65c_grow_92f84_44 hS (by omega) (by omega) ⟨hO, ⟨g9, hG9, hg9⟩, hAr⟩

abbrev rmJx4a65c_grow_d5877 : Room := { frames := 4, cells := 1, slots := 90, locals := 127 }
theorem mJx4a65c_grow_d5877_0 {l : Launch} {G : Cx} {A : Nat → Prop} {pa : Nat} {md : Int32} (hAp : A pa) : Met l yJx4a65c_grow_d5877 (.code yJx4a65c_grow_d5877 cJx4a65c_grow_d5877 1 (some (.array (.object "java/lang/Object"))) :: GW) rmJx4a65c_grow_d5877 (PC G A [.ref pa] (fun H => va_at G.1 vwCl (pa, .inr (3, [.int md, .ref (G.2.2 10), .int 0])) H)) (qR A (fun r H => va_at G.1 vwCl (pa, .inr (3, [.int md, .ref r, .int 0])) H ∧ va_at G.1 vwCl (r, .inl (G.2.1 5, 10, .inr (.inr (.inr (.inr (fun _ => none)))))) H ∧ A r)) 1 90 (A) := by
  refine mstart "java/util/ArrayList" (by decide +kernel) rfl (Nat.le_of_ble_eq_true rfl) ?_
  intro p e s m below meth c ls hx hb hr hts hown hml hlocks hname hC hA hW hl
  have hl : lv_has ls 1 [(0, .ref pa)] := hl
  have hK := hC.1
  have hS : va_S A s.heap s.heap [] := va_S.rf
  have hO := hW
  have hO : va_at G.1 vwCl (pa, .inr (3, [.int md, .ref (G.2.2 10), .int (nI 0)])) s.heap := hO
  refine lv_aload_n hx hb dJx4a65c_grow_d5877_0 rfl (lv_at hl 0 rfl) ?_
  refine lv_aload_n hx hb dJx4a65c_grow_d5877_1 rfl (lv_at hl 0 rfl) ?_
  refine va_get (D := G.1) (ci := 3) (C := RJx4a65c) (T := TJx4a65c) (N := 3) hx hb hts inJx4a65c hown hK (at_P hO) 0 rfl rfl 2 (by decide) (hts _ tw_4_160) (fun _ h9 => h9) rfl dJx4a65c_grow_d5877_2 ?_
  refine lv_iconst (v := nI 1) hx hb dJx4a65c_grow_d5877_5 (by decide) ?_
  refine lv_iadd hx hb dJx4a65c_grow_d5877_6 ?_
  refine lv_cv (nI_add 0 1) ?_
  refine lv_cv (show nI (0 + 1) = nI 1 from rfl) ?_
  refine qR_V (A := A) (A1 := A) (b := pa) (As := [.int (nI 1)]) (rest := []) ⟨hx, hb, hml, hown, hts⟩ (mJx4a65c_grow_92f84_0 (A := A) hAp) (cwV 1 hts (gV tw_5_97 tw_5_99 sel_Jx4a65c_grow_92f84 tw_1_11 tw_5_100) rfl rfl rfl (by decide +kernel) ⟨Nat.le_of_ble_eq_true rfl, Nat.le_of_ble_eq_true rfl⟩) hC hS (fun _ h => h) (fun q h => hA q (Nat.le_trans hS.1 h)) (at_recv hK hO (q := (RJx4a65c, TJx4a65c, 3)) rfl) hW rfl rfl hl.1 (Nat.le_of_ble_eq_true rfl) ⟨Nat.le_trans (show 0 + 1 ≤ 1 by omega) (Nat.le_of_ble_eq_true rfl), Nat.le_trans (show 0 + 90 ≤ 90 by omega) (Nat.le_of_ble_eq_true rfl)⟩ dJx4a65c_grow_d5877_7 (fun rv9 H9 L9 hP9 hk9 hS => ?_)
  have hZ9 := hS.1
  exact q_a hx hb hr (Or.inr ⟨_, rfl⟩) hlocks dJx4a65c_grow_d5877_10 hS (by omega) (by omega) hP9

theorem mJx4a65c_grow_d5877_1 {l : Launch} {G : Cx} {A : Nat → Prop} {pa ed cap : Nat} {md : Int32} {f : Nat → Option Nat} (hAp : A pa) (hAe : A ed) (h1 : 1 ≤ cap) (h60 : cap ≤ 60) : Met l yJx4a65c_grow_d5877 (.code yJx4a65c_grow_d5877 cJx4a65c_grow_d5877 1 (some (.array (.object "java/lang/Object"))) :: GW) rmJx4a65c_grow_d5877 (PC G A [.ref pa] (fun H => va_at G.1 vwCl (pa, .inr (3, [.int md, .ref ed, .int (nI cap)])) H ∧ va_at G.1 vwCl (ed, .inl (G.2.1 5, cap, .inr (.inr (.inr (.inr f))))) H ∧ (∀ i : Nat, i < cap → ∃ (y : Nat) (t : List Nat), f i = some y ∧ IA0 G y t H))) (qR A (fun r H => va_at G.1 vwCl (pa, .inr (3, [.int md, .ref r, .int (nI cap)])) H ∧ (∃ g : Nat → Option Nat, va_at G.1 vwCl (r, .inl (G.2.1 5, cap + max 1 (cap / 2), .inr (.inr (.inr (.inr g))))) H ∧ ∀ i : Nat, i < cap → g i = f i) ∧ A r)) 1 90 (A) := by
  refine mstart "java/util/ArrayList" (by decide +kernel) rfl (Nat.le_of_ble_eq_true rfl) ?_
  intro p e s m below meth c ls hx hb hr hts hown hml hlocks hname hC hA hW hl
  have hl : lv_has ls 1 [(0, .ref pa)] := hl
  have hK := hC.1
  have hS : va_S A s.heap s.heap [] := va_S.rf
  have hO := hW.1
  refine lv_aload_n hx hb dJx4a65c_grow_d5877_0 rfl (lv_at hl 0 rfl) ?_
  refine lv_aload_n hx hb dJx4a65c_grow_d5877_1 rfl (lv_at hl 0 rfl) ?_
  refine va_get (D := G.1) (ci := 3) (C := RJx4a65c) (T := TJx4a65c) (N := 3) hx hb hts inJx4a65c hown hK (at_P hO) 0 rfl rfl 2 (by decide) (hts _ tw_4_160) (fun _ h9 => h9) rfl dJx4a65c_grow_d5877_2 ?_
  refine lv_iconst (v := nI 1) hx hb dJx4a65c_grow_d5877_5 (by decide) ?_
  refine lv_iadd hx hb dJx4a65c_grow_d5877_6 ?_
  refine lv_cv (nI_add cap 1) ?_
  refine qR_V (A := A) (A1 := A) (b := pa) (As := [.int (nI (cap + 1))]) (rest := []) ⟨hx, hb, hml, hown, hts⟩ (mJx4a65c_grow_92f84_1 (A := A) (f := f) (cap := cap) hAp hAe h1 h60) (cwV 1 hts (gV tw_5_97 tw_5_99 sel_Jx4a65c_grow_92f84 tw_1_11 tw_5_100) rfl rfl rfl (by decide +kernel) ⟨Nat.le_of_ble_eq_true rfl, Nat.le_of_ble_eq_true rfl⟩) hC hS (fun _ h => h) (fun q h => hA q (Nat.le_trans hS.1 h)) (at_recv hK hO (q := (RJx4a65c, TJx4a65c, 3)) rfl) hW rfl rfl hl.1 (Nat.le_of_ble_eq_true rfl) ⟨Nat.le_trans (show 0 + 1 ≤ 1 by omega) (Nat.le_of_ble_eq_true rfl), Nat.le_trans (show 0 + 90 ≤ 90 by omega) (Nat.le_of_ble_eq_true rfl)⟩ dJx4a65c_grow_d5877_7 (fun rv10 H10 L10 hP10 hk10 hS => ?_)
  have hZ10 := hS.1
  exact q_a hx hb hr (Or.inr ⟨_, rfl⟩) hlocks dJx4a65c_grow_d5877_10 hS (by omega) (by omega) hP10

abbrev rmJx4a65c_add_72be8 : Room := { frames := 5, cells := 1, slots := 90, locals := 147 }
theorem mJx4a65c_add_72be8 {l : Launch} {G : Cx} {A : Nat → Prop} {pa r ed n : Nat} {md : Int32} {f : Nat → Option Nat} {cap : Nat} {t : List Nat} (hAp : A pa) (hAe : A ed) (hnc : n ≤ cap) (h60 : n ≤ 60) (h1 : 1 ≤ cap) (hc20 : cap < 2 ^ 20) (hfr : ∀ i : Nat, i < n → ∃ y, f i = some y) : Met l yJx4a65c_add_72be8 (.code yJx4a65c_add_72be8 cJx4a65c_add_72be8 4 (none : Option Jvm.ClassFile.FieldType) :: GW) rmJx4a65c_add_72be8 (PC G A [.ref pa, .ref r, .ref ed, .int (nI n)] (fun H => va_at G.1 vwCl (pa, .inr (3, [.int md, .ref ed, .int (nI n)])) H ∧ va_at G.1 vwCl (ed, .inl (G.2.1 5, cap, .inr (.inr (.inr (.inr f))))) H ∧ (∀ (i y : Nat), i < n → f i = some y → ∃ t, IA0 G y t H) ∧ IA0 G r t H)) (qV A (fun H => ∃ (ed2 cap2 : Nat) (g : Nat → Option Nat), va_at G.1 vwCl (pa, .inr (3, [.int md, .ref ed2, .int (nI (n + 1))])) H ∧ va_at G.1 vwCl (ed2, .inl (G.2.1 5, cap2, .inr (.inr (.inr (.inr g))))) H ∧ A ed2 ∧ n + 1 ≤ cap2 ∧ cap2 < 2 ^ 20 ∧ (∀ i : Nat, i < n → g i = f i) ∧ g n = some r)) 1 90 (A) := by
  refine mstart "java/util/ArrayList" (by decide +kernel) rfl (Nat.le_of_ble_eq_true rfl) ?_
  intro p e s m below meth c ls hx hb hr hts hown hml hlocks hname hC hA hW hl
  have hl : lv_has ls 4 [(0, .ref pa), (1, .ref r), (2, .ref ed), (3, .int (nI n))] := hl
  have hK := hC.1
  have hS : va_S A s.heap s.heap [] := va_S.rf
  obtain ⟨hO, hE, hrows, hR⟩ := hW
  have hPe : pa ≠ ed := at_ne_oa hK hO (r := (RJx4a65c, TJx4a65c, 3)) rfl hE 5 rfl
  refine lv_iload_n hx hb dJx4a65c_add_72be8_0 rfl (lv_at hl 3 rfl) ?_
  refine lv_aload_n hx hb dJx4a65c_add_72be8_1 rfl (lv_at hl 2 rfl) ?_
  refine va_alen hx hb hK (at_P hE) 0 5 (v := nI cap) rfl rfl rfl dJx4a65c_add_72be8_2 ?_
  refine b_ne (tgt := 11) hx hb dJx4a65c_add_72be8_3 (by decide) (by omega) (by omega) (fun c_11 => ?_) (fun c_11 => ?_)
  · refine lv_aload_n hx hb dJx4a65c_add_72be8_11 rfl (lv_at hl 2 rfl) ?_
    refine lv_iload_n hx hb dJx4a65c_add_72be8_12 rfl (lv_at hl 3 rfl) ?_
    refine lv_aload_n hx hb dJx4a65c_add_72be8_13 rfl (lv_at hl 1 rfl) ?_
    have hPe9 : pa ≠ ed := at_ne_oa hK hO (r := (RJx4a65c, TJx4a65c, 3)) rfl hE 5 rfl
    refine h_aastO hx hb hC hE hR.fst hS hAe (vp_in_nI (n := n) (N := cap) (by omega) (by omega)) dJx4a65c_add_72be8_14 (fun H12 L12 hE z12 o12 hS => ?_)
    rw [nI_clamp (n := n) (by omega)] at hE
    have hO := at_o hO o12 hPe9
    have hZ12 := hS.1
    refine lv_aload_n hx hb dJx4a65c_add_72be8_15 rfl (lv_at hl 0 rfl) ?_
    refine lv_iload_n hx hb dJx4a65c_add_72be8_16 rfl (lv_at hl 3 rfl) ?_
    refine lv_iconst (v := nI 1) hx hb dJx4a65c_add_72be8_17 (by decide) ?_
    refine lv_iadd hx hb dJx4a65c_add_72be8_18 ?_
    refine lv_cv (nI_add n 1) ?_
    refine h_put (D := G.1) (ci := 3) (C := RJx4a65c) (T := TJx4a65c) (N := 3) hx hb hts inJx4a65c tyJx4a65c tyJx4a65c_ok nmJx4a65c hown hK hO hS hAp rfl 2 (by decide) (hts _ tw_4_160) (fun _ h9 => h9) rfl (tyJx4a65c_ok 2 (by decide)) rfl rfl (Nat.le_of_ble_eq_true rfl) dJx4a65c_add_72be8_19 (fun H13 L13 hO z13 o13 hS => ?_)
    have hO : va_at G.1 vwCl (pa, .inr (3, [.int md, .ref ed, .int (nI (n + 1))])) H13 := hO
    have hE := at_o hE o13 (Ne.symm hPe9)
    have hZ13 := hS.1
    exact q_v hx hb hr hlocks dJx4a65c_add_72be8_22 hS (by omega) (by omega) ⟨ed, cap, _, hO, hE, hAe, by omega, hc20, fun i hi => va_up_ne _ _ (by omega), va_up_s⟩
  · have hnc2 : n = cap := c_11
    subst hnc2
    refine lv_aload_n hx hb dJx4a65c_add_72be8_6 rfl (lv_at hl 0 rfl) ?_
    refine qR_V (A := A) (A1 := (fun q9 => A q9 ∧ q9 ≠ r)) (b := pa) (As := []) (rest := []) ⟨hx, hb, hml, hown, hts⟩ (mJx4a65c_grow_d5877_1 (A := (fun q9 => A q9 ∧ q9 ≠ r)) (f := f) (cap := n) (ed := ed) (md := md) ⟨hAp, at_ne_oa hK hO (r := (RJx4a65c, TJx4a65c, 3)) rfl hR.fst 0 rfl⟩ ⟨hAe, at_ne_aa hK hE hR.fst 5 0 rfl rfl (by decide)⟩ h1 h60) (cwV 0 hts (gV tw_5_93 tw_5_95 sel_Jx4a65c_grow_d5877 tw_1_11 tw_5_96) rfl rfl rfl (by decide +kernel) ⟨Nat.le_of_ble_eq_true rfl, Nat.le_of_ble_eq_true rfl⟩) hC hS (fun _ h => h.1) (fun q h => ⟨hA q (Nat.le_trans hS.1 h), by have := hR.lt; omega⟩) (at_recv hK hO (q := (RJx4a65c, TJx4a65c, 3)) rfl) ⟨hO, hE, fun i hi => by obtain ⟨y, hy⟩ := hfr i hi; obtain ⟨t9, ht9⟩ := hrows i y hi hy; exact ⟨y, t9, hy, ht9⟩⟩ rfl rfl hl.1 (Nat.le_of_ble_eq_true rfl) ⟨Nat.le_trans (show 0 + 1 ≤ 1 by omega) (Nat.le_of_ble_eq_true rfl), Nat.le_trans (show 0 + 90 ≤ 90 by omega) (Nat.le_of_ble_eq_true rfl)⟩ dJx4a65c_add_72be8_7 (fun rv14 H14 L14 hP14 hk14 hS => ?_)
    have hZ14 := hS.1
    obtain ⟨hO, ⟨g9, hE, hg9⟩, hAr⟩ := hP14
    have hR := hR.kp hk14 (fun q => q.2 rfl)
    have hmx := Nat.le_max_left 1 (n / 2)
    have hmy : max 1 (n / 2) ≤ 60 := Nat.max_le.mpr ⟨by omega, by omega⟩
    refine lv_astore_n (lv' := [(2, .ref rv14), (0, .ref pa), (1, .ref r), (3, .int (nI n))]) hx hb dJx4a65c_add_72be8_10 rfl hl (by decide) rfl (fun ls hl => ?_)
    refine lv_aload_n hx hb dJx4a65c_add_72be8_11 rfl (lv_at hl 0 rfl) ?_
    refine lv_iload_n hx hb dJx4a65c_add_72be8_12 rfl (lv_at hl 3 rfl) ?_
    refine lv_aload_n hx hb dJx4a65c_add_72be8_13 rfl (lv_at hl 2 rfl) ?_
    have hPe9 : pa ≠ rv14 := at_ne_oa hK hO (r := (RJx4a65c, TJx4a65c, 3)) rfl hE 5 rfl
    refine h_aastO hx hb hC hE hR.fst hS hAr.1 (vp_in_nI (n := n) (N := n + max 1 (n / 2)) (by omega) (by omega)) dJx4a65c_add_72be8_14 (fun H15 L15 hE z15 o15 hS => ?_)
    rw [nI_clamp (n := n) (by omega)] at hE
    have hO := at_o hO o15 hPe9
    have hZ15 := hS.1
    refine lv_aload_n hx hb dJx4a65c_add_72be8_15 rfl (lv_at hl 1 rfl) ?_
    refine lv_iload_n hx hb dJx4a65c_add_72be8_16 rfl (lv_at hl 3 rfl) ?_
    refine lv_iconst (v := nI 1) hx hb dJx4a65c_add_72be8_17 (by decide) ?_
    refine lv_iadd hx hb dJx4a65c_add_72be8_18 ?_
    refine lv_cv (nI_add n 1) ?_
    refine h_put (D := G.1) (ci := 3) (C := RJx4a65c) (T := TJx4a65c) (N := 3) hx hb hts inJx4a65c tyJx4a65c tyJx4a65c_ok nmJx4a65c hown hK hO hS hAp rfl 2 (by decide) (hts _ tw_4_160) (fun _ h9 => h9) rfl (tyJx4a65c_ok 2 (by decide)) rfl rfl (Nat.le_of_ble_eq_true rfl) dJx4a65c_add_72be8_19 (fun H16 L16 hO z16 o16 hS => ?_)
    have hO : va_at G.1 vwCl (pa, .inr (3, [.int md, .ref rv14, .int (nI (n + 1))])) H16 := hO
    have hE := at_o hE o16 (Ne.symm hPe9)
    have hZ16 := hS.1
    exact q_v hx hb hr hlocks dJx4a65c_add_72be8_22 hS (by omega) (by omega) ⟨rv14, n + max 1 (n / 2), _, hO, hE, hAr.1, by omega, by omega, fun i hi => (va_up_ne _ _ (by omega)).trans (hg9 i hi), va_up_s⟩

theorem mJx4a65c_add_72be8_0 {l : Launch} {G : Cx} {A : Nat → Prop} {pa r : Nat} {md : Int32} {t : List Nat} (hAp : A pa) : Met l yJx4a65c_add_72be8 (.code yJx4a65c_add_72be8 cJx4a65c_add_72be8 4 (none : Option Jvm.ClassFile.FieldType) :: GW) rmJx4a65c_add_72be8 (PC G A [.ref pa, .ref r, .ref (G.2.2 10), .int (nI 0)] (fun H => va_at G.1 vwCl (pa, .inr (3, [.int md, .ref (G.2.2 10), .int (nI 0)])) H ∧ IA0 G r t H)) (qV A (fun H => ∃ (ed2 cap2 : Nat) (g : Nat → Option Nat), va_at G.1 vwCl (pa, .inr (3, [.int md, .ref ed2, .int (nI (0 + 1))])) H ∧ va_at G.1 vwCl (ed2, .inl (G.2.1 5, cap2, .inr (.inr (.inr (.inr g))))) H ∧ A ed2 ∧ 0 + 1 ≤ cap2 ∧ cap2 < 2 ^ 20 ∧ g 0 = some r)) 1 90 (A) := by
  refine mstart "java/util/ArrayList" (by decide +kernel) rfl (Nat.le_of_ble_eq_true rfl) ?_
  intro p e s m below meth c ls hx hb hr hts hown hml hlocks hname hC hA hW hl
  have hl : lv_has ls 4 [(0, .ref pa), (1, .ref r), (2, .ref (G.2.2 10)), (3, .int (nI 0))] := hl
  have hK := hC.1
  have hS : va_S A s.heap s.heap [] := va_S.rf
  obtain ⟨-, -, -, -, -, -, -, -, zc9, zc10, -⟩ := hC.2.2.1
  obtain ⟨hO, hR⟩ := hW
  refine lv_iload_n hx hb dJx4a65c_add_72be8_0 rfl (lv_at hl 3 rfl) ?_
  refine lv_aload_n hx hb dJx4a65c_add_72be8_1 rfl (lv_at hl 2 rfl) ?_
  refine va_tlen (v := nI 0) hx hb zc10 hS rfl dJx4a65c_add_72be8_2 ?_
  refine b_ne (tgt := 11) hx hb dJx4a65c_add_72be8_3 (by decide) (by omega) (by omega) (fun c_17 => ?_) (fun c_17 => ?_)
  · exact absurd c_17 (by omega)
  · refine lv_aload_n hx hb dJx4a65c_add_72be8_6 rfl (lv_at hl 0 rfl) ?_
    refine qR_V (A := A) (A1 := (fun q9 => A q9 ∧ q9 ≠ r)) (b := pa) (As := []) (rest := []) ⟨hx, hb, hml, hown, hts⟩ (mJx4a65c_grow_d5877_0 (A := (fun q9 => A q9 ∧ q9 ≠ r)) ⟨hAp, at_ne_oa hK hO (r := (RJx4a65c, TJx4a65c, 3)) rfl hR.fst 0 rfl⟩) (cwV 0 hts (gV tw_5_93 tw_5_95 sel_Jx4a65c_grow_d5877 tw_1_11 tw_5_96) rfl rfl rfl (by decide +kernel) ⟨Nat.le_of_ble_eq_true rfl, Nat.le_of_ble_eq_true rfl⟩) hC hS (fun _ h => h.1) (fun q h => ⟨hA q (Nat.le_trans hS.1 h), by have := hR.lt; omega⟩) (at_recv hK hO (q := (RJx4a65c, TJx4a65c, 3)) rfl) hO rfl rfl hl.1 (Nat.le_of_ble_eq_true rfl) ⟨Nat.le_trans (show 0 + 1 ≤ 1 by omega) (Nat.le_of_ble_eq_true rfl), Nat.le_trans (show 0 + 90 ≤ 90 by omega) (Nat.le_of_ble_eq_true rfl)⟩ dJx4a65c_add_72be8_7 (fun rv18 H18 L18 hP18 hk18 hS => ?_)
    have hZ18 := hS.1
    obtain ⟨hO, hE, hAr⟩ := hP18
    have hR := hR.kp hk18 (fun q => q.2 rfl)
    refine lv_astore_n (lv' := [(2, .ref rv18), (0, .ref pa), (1, .ref r), (3, .int (nI 0))]) hx hb dJx4a65c_add_72be8_10 rfl hl (by decide) rfl (fun ls hl => ?_)
    refine lv_aload_n hx hb dJx4a65c_add_72be8_11 rfl (lv_at hl 0 rfl) ?_
    refine lv_iload_n hx hb dJx4a65c_add_72be8_12 rfl (lv_at hl 3 rfl) ?_
    refine lv_aload_n hx hb dJx4a65c_add_72be8_13 rfl (lv_at hl 2 rfl) ?_
    have hPe9 : pa ≠ rv18 := at_ne_oa hK hO (r := (RJx4a65c, TJx4a65c, 3)) rfl hE 5 rfl
    refine h_aastO hx hb hC hE hR.fst hS hAr.1 (vp_in_nI (n := 0) (N := 10) (by omega) (by omega)) dJx4a65c_add_72be8_14 (fun H19 L19 hE z19 o19 hS => ?_)
    rw [nI_clamp (n := 0) (by omega)] at hE
    have hO := at_o hO o19 hPe9
    have hZ19 := hS.1
    refine lv_aload_n hx hb dJx4a65c_add_72be8_15 rfl (lv_at hl 1 rfl) ?_
    refine lv_iload_n hx hb dJx4a65c_add_72be8_16 rfl (lv_at hl 3 rfl) ?_
    refine lv_iconst (v := nI 1) hx hb dJx4a65c_add_72be8_17 (by decide) ?_
    refine lv_iadd hx hb dJx4a65c_add_72be8_18 ?_
    refine lv_cv (nI_add 0 1) ?_
    refine h_put (D := G.1) (ci := 3) (C := RJx4a65c) (T := TJx4a65c) (N := 3) hx hb hts inJx4a65c tyJx4a65c tyJx4a65c_ok nmJx4a65c hown hK hO hS hAp rfl 2 (by decide) (hts _ tw_4_160) (fun _ h9 => h9) rfl (tyJx4a65c_ok 2 (by decide)) rfl rfl (Nat.le_of_ble_eq_true rfl) dJx4a65c_add_72be8_19 (fun H20 L20 hO z20 o20 hS => ?_)
    have hO : va_at G.1 vwCl (pa, .inr (3, [.int md, .ref rv18, .int (nI (0 + 1))])) H20 := hO
    have hE := at_o hE o20 (Ne.symm hPe9)
    have hZ20 := hS.1
    exact q_v hx hb hr hlocks dJx4a65c_add_72be8_22 hS (by omega) (by omega) ⟨rv18, 10, _, hO, hE, hAr.1, by decide, by decide, va_up_s⟩
end
/-! 55.list3 -/
section
/-! ArrayList, 3: add, remove, made -/
/-- a list of rows: pa holds the cells pe -/
def LQ (G : Cx) (A : Nat → Prop) (pa : Nat) (pe : List Nat) (H : Heap) : Prop := (pe = [] ∧ ∃ md : Int32, va_at G.1 vwCl (pa, .inr (3, [.int md, .ref (G.2.2 10), .int 0])) H) ∨
  ∃ (md : Int32) (ed cap : Nat) (f : Nat → Option Nat), va_at G.1 vwCl (pa, .inr (3, [.int md, .ref ed, .int (nI pe.length)])) H ∧ va_at G.1 vwCl (ed, .inl (G.2.1 5, cap, .inr (.inr (.inr (.inr f))))) H ∧ A ed ∧ pe.length ≤ cap ∧ 1 ≤ cap ∧ cap < 2 ^ 20 ∧ ∀ i : Nat, i < pe.length → f i = some (pe.getD i 0)
section L3
variable {p : Program} {l : Launch} {e : Env} {R : Room} {s : State} {m : MethodId} {args : Array Value} {below : List Frame} {meth : Method} {c : Code} {H : Heap} {locs : List Loc} {cells slots : Nat} {Q : State → Prop}
variable {cc : ByteArray} {pc : Nat} {ls : Array Slot} {rest : List Value} {A : Nat → Prop} {a : Nat} {H0 : Heap} {G : Cx}
theorem h_aastNull (hexec : p.tables.exec = Jvm.exec) (hb : c.code = cc) (hC : cx G A s) {n : Nat} {f : Nat → Option Nat} (h : va_at G.1 vwCl (a, .inl (G.2.1 5, n, .inr (.inr (.inr (.inr f))))) H) (hS : va_S A H0 H locs) (ha : A a) {i : Int32} (hin : vp_in i n) (hdg : decode cc pc = .ok (.aastore, 1))
    (kk : ∀ (H1 : Heap) (locs1 : List Loc), va_at G.1 vwCl (a, .inl (G.2.1 5, n, .inr (.inr (.inr (.inr (va_up f i.toNatClampNeg none)))))) H1 → H1.size = H.size → (∀ q : Nat, q ≠ a → H1[q]? = H[q]?) → va_S A H0 H1 locs1 → W p l e R s m args below meth c H1 locs1 cells slots Q (F0 m (pc + 1) ls rest)) : W p l e R s m args below meth c H locs cells slots Q (F0 m pc ls (.null :: .int i :: .ref a :: rest)) := by
  have hK := hC.1
  refine va_WaastN (C := "java/lang/Object") hexec hb h ((hK.2 5 _ rfl).1 n (fun j => va_rf (f j))) (fun h => by cases h) (by show ¬ (i < 0 ∨ (arrV _ _ _).slots.size ≤ _); rw [arrV_size]; exact hin) rfl rfl hdg fun H1 e z oq => ?_
  refine kk H1 _ ?_ z oq (hS.put z oq ha)
  show H1[a]? = some (vp_cell _ _)
  rw [e]
  rw [vp_cell_q, vp_cell_q, arrV_store]
  congr 2
  funext q
  by_cases hq : q = i.toNatClampNeg
  · subst hq
    simp [updV, va_up, va_rf]
  · simp [updV, va_up, hq]
end L3
theorem dJxa1e45_init_da8c8_0 : decode cJxa1e45_init_da8c8 0 = .ok (.aload_n 0, 1) := by decide +kernel
theorem dJxa1e45_init_da8c8_1 : decode cJxa1e45_init_da8c8 1 = .ok (.invokespecial 1, 3) := by decide +kernel
theorem dJxa1e45_init_da8c8_4 : decode cJxa1e45_init_da8c8 4 = .ok (.return_, 1) := by decide +kernel
theorem dJxc12de_init_da8c8_0 : decode cJxc12de_init_da8c8 0 = .ok (.aload_n 0, 1) := by decide +kernel
theorem dJxc12de_init_da8c8_1 : decode cJxc12de_init_da8c8 1 = .ok (.invokespecial 1, 3) := by decide +kernel
theorem dJxc12de_init_da8c8_4 : decode cJxc12de_init_da8c8 4 = .ok (.aload_n 0, 1) := by decide +kernel
theorem dJxc12de_init_da8c8_5 : decode cJxc12de_init_da8c8 5 = .ok (.iconst 0, 1) := by decide +kernel
theorem dJxc12de_init_da8c8_6 : decode cJxc12de_init_da8c8 6 = .ok (.putfield 7, 3) := by decide +kernel
theorem dJxc12de_init_da8c8_9 : decode cJxc12de_init_da8c8 9 = .ok (.return_, 1) := by decide +kernel
theorem dJx4a65c_init_da8c8_0 : decode cJx4a65c_init_da8c8 0 = .ok (.aload_n 0, 1) := by decide +kernel
theorem dJx4a65c_init_da8c8_1 : decode cJx4a65c_init_da8c8 1 = .ok (.invokespecial 1, 3) := by decide +kernel
theorem dJx4a65c_init_da8c8_4 : decode cJx4a65c_init_da8c8 4 = .ok (.aload_n 0, 1) := by decide +kernel
theorem dJx4a65c_init_da8c8_5 : decode cJx4a65c_init_da8c8 5 = .ok (.getstatic 39, 3) := by decide +kernel
theorem dJx4a65c_init_da8c8_8 : decode cJx4a65c_init_da8c8 8 = .ok (.putfield 9, 3) := by decide +kernel
theorem dJx4a65c_init_da8c8_11 : decode cJx4a65c_init_da8c8 11 = .ok (.return_, 1) := by decide +kernel
theorem dJx4a65c_add_9ea2d_0 : decode cJx4a65c_add_9ea2d 0 = .ok (.aload_n 0, 1) := by decide +kernel
theorem dJx4a65c_add_9ea2d_1 : decode cJx4a65c_add_9ea2d 1 = .ok (.dup, 1) := by decide +kernel
theorem dJx4a65c_add_9ea2d_2 : decode cJx4a65c_add_9ea2d 2 = .ok (.getfield 63, 3) := by decide +kernel
theorem dJx4a65c_add_9ea2d_5 : decode cJx4a65c_add_9ea2d 5 = .ok (.iconst 1, 1) := by decide +kernel
theorem dJx4a65c_add_9ea2d_6 : decode cJx4a65c_add_9ea2d 6 = .ok (.iadd, 1) := by decide +kernel
theorem dJx4a65c_add_9ea2d_7 : decode cJx4a65c_add_9ea2d 7 = .ok (.putfield 63, 3) := by decide +kernel
theorem dJx4a65c_add_9ea2d_10 : decode cJx4a65c_add_9ea2d 10 = .ok (.aload_n 0, 1) := by decide +kernel
theorem dJx4a65c_add_9ea2d_11 : decode cJx4a65c_add_9ea2d 11 = .ok (.aload_n 1, 1) := by decide +kernel
theorem dJx4a65c_add_9ea2d_12 : decode cJx4a65c_add_9ea2d 12 = .ok (.aload_n 0, 1) := by decide +kernel
theorem dJx4a65c_add_9ea2d_13 : decode cJx4a65c_add_9ea2d 13 = .ok (.getfield 9, 3) := by decide +kernel
theorem dJx4a65c_add_9ea2d_16 : decode cJx4a65c_add_9ea2d 16 = .ok (.aload_n 0, 1) := by decide +kernel
theorem dJx4a65c_add_9ea2d_17 : decode cJx4a65c_add_9ea2d 17 = .ok (.getfield 48, 3) := by decide +kernel
theorem dJx4a65c_add_9ea2d_20 : decode cJx4a65c_add_9ea2d 20 = .ok (.invokevirtual 131, 3) := by decide +kernel
theorem dJx4a65c_add_9ea2d_23 : decode cJx4a65c_add_9ea2d 23 = .ok (.iconst 1, 1) := by decide +kernel
theorem dJx4a65c_add_9ea2d_24 : decode cJx4a65c_add_9ea2d 24 = .ok (.ireturn, 1) := by decide +kernel
theorem dJx4a65c_remove_915e3_0 : decode cJx4a65c_remove_915e3 0 = .ok (.iload_n 1, 1) := by decide +kernel
theorem dJx4a65c_remove_915e3_1 : decode cJx4a65c_remove_915e3 1 = .ok (.aload_n 0, 1) := by decide +kernel
theorem dJx4a65c_remove_915e3_2 : decode cJx4a65c_remove_915e3 2 = .ok (.getfield 48, 3) := by decide +kernel
theorem dJx4a65c_remove_915e3_5 : decode cJx4a65c_remove_915e3 5 = .ok (.invokestatic 118, 3) := by decide +kernel
theorem dJx4a65c_remove_915e3_8 : decode cJx4a65c_remove_915e3 8 = .ok (.pop, 1) := by decide +kernel
theorem dJx4a65c_remove_915e3_9 : decode cJx4a65c_remove_915e3 9 = .ok (.aload_n 0, 1) := by decide +kernel
theorem dJx4a65c_remove_915e3_10 : decode cJx4a65c_remove_915e3 10 = .ok (.getfield 9, 3) := by decide +kernel
theorem dJx4a65c_remove_915e3_13 : decode cJx4a65c_remove_915e3 13 = .ok (.astore_n 2, 1) := by decide +kernel
theorem dJx4a65c_remove_915e3_14 : decode cJx4a65c_remove_915e3 14 = .ok (.aload_n 2, 1) := by decide +kernel
theorem dJx4a65c_remove_915e3_15 : decode cJx4a65c_remove_915e3 15 = .ok (.iload_n 1, 1) := by decide +kernel
theorem dJx4a65c_remove_915e3_16 : decode cJx4a65c_remove_915e3 16 = .ok (.aaload, 1) := by decide +kernel
theorem dJx4a65c_remove_915e3_17 : decode cJx4a65c_remove_915e3 17 = .ok (.astore_n 3, 1) := by decide +kernel
theorem dJx4a65c_remove_915e3_18 : decode cJx4a65c_remove_915e3 18 = .ok (.aload_n 0, 1) := by decide +kernel
theorem dJx4a65c_remove_915e3_19 : decode cJx4a65c_remove_915e3 19 = .ok (.aload_n 2, 1) := by decide +kernel
theorem dJx4a65c_remove_915e3_20 : decode cJx4a65c_remove_915e3 20 = .ok (.iload_n 1, 1) := by decide +kernel
theorem dJx4a65c_remove_915e3_21 : decode cJx4a65c_remove_915e3 21 = .ok (.invokevirtual 144, 3) := by decide +kernel
theorem dJx4a65c_remove_915e3_24 : decode cJx4a65c_remove_915e3 24 = .ok (.aload_n 3, 1) := by decide +kernel
theorem dJx4a65c_remove_915e3_25 : decode cJx4a65c_remove_915e3 25 = .ok (.areturn, 1) := by decide +kernel
theorem dJx4a65c_fastRemove_b59b0_0 : decode cJx4a65c_fastRemove_b59b0 0 = .ok (.aload_n 0, 1) := by decide +kernel
theorem dJx4a65c_fastRemove_b59b0_1 : decode cJx4a65c_fastRemove_b59b0 1 = .ok (.dup, 1) := by decide +kernel
theorem dJx4a65c_fastRemove_b59b0_2 : decode cJx4a65c_fastRemove_b59b0 2 = .ok (.getfield 63, 3) := by decide +kernel
theorem dJx4a65c_fastRemove_b59b0_5 : decode cJx4a65c_fastRemove_b59b0 5 = .ok (.iconst 1, 1) := by decide +kernel
theorem dJx4a65c_fastRemove_b59b0_6 : decode cJx4a65c_fastRemove_b59b0 6 = .ok (.iadd, 1) := by decide +kernel
theorem dJx4a65c_fastRemove_b59b0_7 : decode cJx4a65c_fastRemove_b59b0 7 = .ok (.putfield 63, 3) := by decide +kernel
theorem dJx4a65c_fastRemove_b59b0_10 : decode cJx4a65c_fastRemove_b59b0 10 = .ok (.aload_n 0, 1) := by decide +kernel
theorem dJx4a65c_fastRemove_b59b0_11 : decode cJx4a65c_fastRemove_b59b0 11 = .ok (.getfield 48, 3) := by decide +kernel
theorem dJx4a65c_fastRemove_b59b0_14 : decode cJx4a65c_fastRemove_b59b0 14 = .ok (.iconst 1, 1) := by decide +kernel
theorem dJx4a65c_fastRemove_b59b0_15 : decode cJx4a65c_fastRemove_b59b0 15 = .ok (.isub, 1) := by decide +kernel
theorem dJx4a65c_fastRemove_b59b0_16 : decode cJx4a65c_fastRemove_b59b0 16 = .ok (.dup, 1) := by decide +kernel
theorem dJx4a65c_fastRemove_b59b0_17 : decode cJx4a65c_fastRemove_b59b0 17 = .ok (.istore_n 3, 1) := by decide +kernel
theorem dJx4a65c_fastRemove_b59b0_18 : decode cJx4a65c_fastRemove_b59b0 18 = .ok (.iload_n 2, 1) := by decide +kernel
theorem dJx4a65c_fastRemove_b59b0_19 : decode cJx4a65c_fastRemove_b59b0 19 = .ok (.if_icmp .le 15, 3) := by decide +kernel
theorem dJx4a65c_fastRemove_b59b0_22 : decode cJx4a65c_fastRemove_b59b0 22 = .ok (.aload_n 1, 1) := by decide +kernel
theorem dJx4a65c_fastRemove_b59b0_23 : decode cJx4a65c_fastRemove_b59b0 23 = .ok (.iload_n 2, 1) := by decide +kernel
theorem dJx4a65c_fastRemove_b59b0_24 : decode cJx4a65c_fastRemove_b59b0 24 = .ok (.iconst 1, 1) := by decide +kernel
theorem dJx4a65c_fastRemove_b59b0_25 : decode cJx4a65c_fastRemove_b59b0 25 = .ok (.iadd, 1) := by decide +kernel
theorem dJx4a65c_fastRemove_b59b0_26 : decode cJx4a65c_fastRemove_b59b0 26 = .ok (.aload_n 1, 1) := by decide +kernel
theorem dJx4a65c_fastRemove_b59b0_27 : decode cJx4a65c_fastRemove_b59b0 27 = .ok (.iload_n 2, 1) := by decide +kernel
theorem dJx4a65c_fastRemove_b59b0_28 : decode cJx4a65c_fastRemove_b59b0 28 = .ok (.iload_n 3, 1) := by decide +kernel
theorem dJx4a65c_fastRemove_b59b0_29 : decode cJx4a65c_fastRemove_b59b0 29 = .ok (.iload_n 2, 1) := by decide +kernel
theorem dJx4a65c_fastRemove_b59b0_30 : decode cJx4a65c_fastRemove_b59b0 30 = .ok (.isub, 1) := by decide +kernel
theorem dJx4a65c_fastRemove_b59b0_31 : decode cJx4a65c_fastRemove_b59b0 31 = .ok (.invokestatic 112, 3) := by decide +kernel
theorem dJx4a65c_fastRemove_b59b0_34 : decode cJx4a65c_fastRemove_b59b0 34 = .ok (.aload_n 1, 1) := by decide +kernel
theorem dJx4a65c_fastRemove_b59b0_35 : decode cJx4a65c_fastRemove_b59b0 35 = .ok (.aload_n 0, 1) := by decide +kernel
theorem dJx4a65c_fastRemove_b59b0_36 : decode cJx4a65c_fastRemove_b59b0 36 = .ok (.iload_n 3, 1) := by decide +kernel
theorem dJx4a65c_fastRemove_b59b0_37 : decode cJx4a65c_fastRemove_b59b0 37 = .ok (.dup_x1, 1) := by decide +kernel
theorem dJx4a65c_fastRemove_b59b0_38 : decode cJx4a65c_fastRemove_b59b0 38 = .ok (.putfield 48, 3) := by decide +kernel
theorem dJx4a65c_fastRemove_b59b0_41 : decode cJx4a65c_fastRemove_b59b0 41 = .ok (.aconst_null, 1) := by decide +kernel
theorem dJx4a65c_fastRemove_b59b0_42 : decode cJx4a65c_fastRemove_b59b0 42 = .ok (.aastore, 1) := by decide +kernel
theorem dJx4a65c_fastRemove_b59b0_43 : decode cJx4a65c_fastRemove_b59b0 43 = .ok (.return_, 1) := by decide +kernel
abbrev rmJx4a65c_fastRemove_b59b0 : Room := { frames := 1, cells := 0, slots := 0, locals := 20 }
theorem mJx4a65c_fastRemove_b59b0 {l : Launch} {G : Cx} {A : Nat → Prop} {pa ed n cap : Nat} {md : Int32} {f : Nat → Option Nat} (hAp : A pa) (hAe : A ed) (hnc : n < cap) (hc20 : cap < 2 ^ 20) : Met l yJx4a65c_fastRemove_b59b0 (.code yJx4a65c_fastRemove_b59b0 cJx4a65c_fastRemove_b59b0 4 (none : Option Jvm.ClassFile.FieldType) :: GW) rmJx4a65c_fastRemove_b59b0 (PC G A [.ref pa, .ref ed, .int (nI n)] (fun H => va_at G.1 vwCl (pa, .inr (3, [.int md, .ref ed, .int (nI (n + 1))])) H ∧ va_at G.1 vwCl (ed, .inl (G.2.1 5, cap, .inr (.inr (.inr (.inr f))))) H)) (qV A (fun H => va_at G.1 vwCl (pa, .inr (3, [.int (md + nI 1), .ref ed, .int (nI n)])) H ∧ va_at G.1 vwCl (ed, .inl (G.2.1 5, cap, .inr (.inr (.inr (.inr (va_up f n none)))))) H)) 0 0 (A) := by
  refine mstart "java/util/ArrayList" (by decide +kernel) rfl (Nat.le_of_ble_eq_true rfl) ?_
  intro p e s m below meth c ls hx hb hr hts hown hml hlocks hname hC hA hW hl
  have hl : lv_has ls 4 [(0, .ref pa), (1, .ref ed), (2, .int (nI n))] := hl
  have hK := hC.1
  have hS : va_S A s.heap s.heap [] := va_S.rf
  obtain ⟨hO, hE⟩ := hW
  have hPe : pa ≠ ed := at_ne_oa hK hO (r := (RJx4a65c, TJx4a65c, 3)) rfl hE 5 rfl
  refine lv_aload_n hx hb dJx4a65c_fastRemove_b59b0_0 rfl (lv_at hl 0 rfl) ?_
  refine lv_dup hx hb dJx4a65c_fastRemove_b59b0_1 rfl ?_
  refine va_get (D := G.1) (ci := 3) (C := RJx4a65c) (T := TJx4a65c) (N := 3) hx hb hts inJx4a65c hown hK (at_P hO) 0 rfl rfl 0 (by decide) (hts _ tw_4_164) (fun x9 h9 => u_same (hts _ tw_4_163) x9 h9) rfl dJx4a65c_fastRemove_b59b0_2 ?_
  refine lv_iconst (v := nI 1) hx hb dJx4a65c_fastRemove_b59b0_5 (by decide) ?_
  refine lv_iadd hx hb dJx4a65c_fastRemove_b59b0_6 ?_
  refine h_put (D := G.1) (ci := 3) (C := RJx4a65c) (T := TJx4a65c) (N := 3) hx hb hts inJx4a65c tyJx4a65c tyJx4a65c_ok nmJx4a65c hown hK hO hS hAp rfl 0 (by decide) (hts _ tw_4_164) (fun x9 h9 => u_same (hts _ tw_4_163) x9 h9) rfl (tyJx4a65c_ok 0 (by decide)) rfl rfl (Nat.le_of_ble_eq_true rfl) dJx4a65c_fastRemove_b59b0_7 (fun H21 L21 hO z21 o21 hS => ?_)
  have hO : va_at G.1 vwCl (pa, .inr (3, [.int (md + nI 1), .ref ed, .int (nI (n + 1))])) H21 := hO
  have hE := at_o hE o21 (Ne.symm hPe)
  have hZ21 := hS.1
  refine lv_aload_n hx hb dJx4a65c_fastRemove_b59b0_10 rfl (lv_at hl 0 rfl) ?_
  refine va_get (D := G.1) (ci := 3) (C := RJx4a65c) (T := TJx4a65c) (N := 3) hx hb hts inJx4a65c hown hK (at_P hO) 0 rfl rfl 2 (by decide) (hts _ tw_4_160) (fun _ h9 => h9) rfl dJx4a65c_fastRemove_b59b0_11 ?_
  refine lv_iconst (v := nI 1) hx hb dJx4a65c_fastRemove_b59b0_14 (by decide) ?_
  refine lv_isub hx hb dJx4a65c_fastRemove_b59b0_15 ?_
  refine lv_cv (nI_pred n) ?_
  refine lv_dup hx hb dJx4a65c_fastRemove_b59b0_16 rfl ?_
  refine lv_istore_n (lv' := [(3, .int (nI n)), (0, .ref pa), (1, .ref ed), (2, .int (nI n))]) hx hb dJx4a65c_fastRemove_b59b0_17 rfl hl (by decide) rfl (fun ls hl => ?_)
  refine lv_iload_n hx hb dJx4a65c_fastRemove_b59b0_18 rfl (lv_at hl 3 rfl) ?_
  refine b_le (tgt := 34) hx hb dJx4a65c_fastRemove_b59b0_19 (by decide) (by omega) (by omega) (fun c_22 => ?_) (fun c_22 => ?_)
  · refine lv_aload_n hx hb dJx4a65c_fastRemove_b59b0_34 rfl (lv_at hl 2 rfl) ?_
    refine lv_aload_n hx hb dJx4a65c_fastRemove_b59b0_35 rfl (lv_at hl 1 rfl) ?_
    refine lv_iload_n hx hb dJx4a65c_fastRemove_b59b0_36 rfl (lv_at hl 0 rfl) ?_
    refine lv_dup_x1 hx hb dJx4a65c_fastRemove_b59b0_37 rfl rfl ?_
    refine h_put (D := G.1) (ci := 3) (C := RJx4a65c) (T := TJx4a65c) (N := 3) hx hb hts inJx4a65c tyJx4a65c tyJx4a65c_ok nmJx4a65c hown hK hO hS hAp rfl 2 (by decide) (hts _ tw_4_160) (fun _ h9 => h9) rfl (tyJx4a65c_ok 2 (by decide)) rfl rfl (Nat.le_of_ble_eq_true rfl) dJx4a65c_fastRemove_b59b0_38 (fun H23 L23 hO z23 o23 hS => ?_)
    have hO : va_at G.1 vwCl (pa, .inr (3, [.int (md + nI 1), .ref ed, .int (nI n)])) H23 := hO
    have hE := at_o hE o23 (Ne.symm hPe)
    have hZ23 := hS.1
    refine lv_null hx hb dJx4a65c_fastRemove_b59b0_41 ?_
    refine h_aastNull hx hb hC hE hS hAe (vp_in_nI (n := n) (N := cap) (by omega) (by omega)) dJx4a65c_fastRemove_b59b0_42 (fun H24 L24 hE z24 o24 hS => ?_)
    rw [nI_clamp (n := n) (by omega)] at hE
    have hO := at_o hO o24 hPe
    exact q_v hx hb hr hlocks dJx4a65c_fastRemove_b59b0_43 hS (Nat.le_refl _) (Nat.le_refl _) ⟨hO, hE⟩
  · exact absurd c_22 (by omega)

abbrev rmJx4a65c_remove_915e3 : Room := { frames := 2, cells := 0, slots := 0, locals := 43 }
theorem mJx4a65c_remove_915e3 {l : Launch} {G : Cx} {A : Nat → Prop} {pa x9 : Nat} {pe : List Nat} (hAp : A pa) : Met l yJx4a65c_remove_915e3 (.code yJx4a65c_remove_915e3 cJx4a65c_remove_915e3 4 (some (.object "java/lang/Object")) :: GW) rmJx4a65c_remove_915e3 (PC G A [.ref pa, .int (nI pe.length)] (LQ G A pa (pe ++ [x9]))) (qR A (fun _ H => LQ G A pa pe H)) 0 0 (A) := by
  refine mstart "java/util/ArrayList" (by decide +kernel) rfl (Nat.le_of_ble_eq_true rfl) ?_
  intro p e s m below meth c ls hx hb hr hts hown hml hlocks hname hC hA hW hl
  have hl : lv_has ls 4 [(0, .ref pa), (1, .int (nI pe.length))] := hl
  have hK := hC.1
  have hS : va_S A s.heap s.heap [] := va_S.rf
  have la : (pe ++ [x9]).length = pe.length + 1 := List.length_append
  obtain ⟨he, -⟩ | ⟨md, ed, cap, f, hO, hE, hAe, hnc, h1, hc20, hf⟩ := hW
  · exact absurd (congrArg List.length he) (by rw [la]; exact Nat.succ_ne_zero _)
  rw [la] at hO hnc hf
  refine lv_iload_n hx hb dJx4a65c_remove_915e3_0 rfl (lv_at hl 1 rfl) ?_
  refine lv_aload_n hx hb dJx4a65c_remove_915e3_1 rfl (lv_at hl 0 rfl) ?_
  refine va_get (D := G.1) (ci := 3) (C := RJx4a65c) (T := TJx4a65c) (N := 3) hx hb hts inJx4a65c hown hK (at_P hO) 0 rfl rfl 2 (by decide) (hts _ tw_4_160) (fun _ h9 => h9) rfl dJx4a65c_remove_915e3_2 ?_
  refine kS_i (A := A) (As := [.int (nI pe.length), .int (nI (pe.length + 1))]) (rest := []) ⟨hx, hb, hml, hown, hts⟩ (mJ15_checkIndex_7cf53 (A := A) (j := pe.length) (n := pe.length + 1) (by omega) (by omega)) (va_cwS 2 hts (gS tw_5_156 tw_5_157 tw_1_23 tw_5_158) rfl rfl rfl (by decide +kernel) ⟨Nat.le_of_ble_eq_true rfl, Nat.le_of_ble_eq_true rfl⟩) hC hS hA  trivial rfl rfl hl.1 (Nat.le_of_ble_eq_true rfl) ⟨Nat.zero_le _, Nat.zero_le _⟩ dJx4a65c_remove_915e3_5 (fun r9 h9 => lv_cv h9 ?_)
  refine lv_pop hx hb dJx4a65c_remove_915e3_8 rfl ?_
  refine lv_aload_n hx hb dJx4a65c_remove_915e3_9 rfl (lv_at hl 0 rfl) ?_
  refine va_get (D := G.1) (ci := 3) (C := RJx4a65c) (T := TJx4a65c) (N := 3) hx hb hts inJx4a65c hown hK (at_P hO) 0 rfl rfl 1 (by decide) (hts _ tw_4_157) (fun _ h9 => h9) rfl dJx4a65c_remove_915e3_10 ?_
  refine lv_astore_n (lv' := [(2, .ref ed), (0, .ref pa), (1, .int (nI pe.length))]) hx hb dJx4a65c_remove_915e3_13 rfl hl (by decide) rfl (fun ls hl => ?_)
  refine lv_aload_n hx hb dJx4a65c_remove_915e3_14 rfl (lv_at hl 0 rfl) ?_
  refine lv_iload_n hx hb dJx4a65c_remove_915e3_15 rfl (lv_at hl 2 rfl) ?_
  refine va_aldq (D := G.1) hx hb hK (at_P hE) 0 5 rfl rfl (vp_in_nI (n := pe.length) (N := cap) (by omega) (by omega)) dJx4a65c_remove_915e3_16 ?_
  refine v_cv (show va_rf _ = .ref x9 from by rw [nI_clamp (n := pe.length) (by omega), hf _ (by omega), getD_last]; rfl) ?_
  refine lv_astore_n (lv' := [(3, .ref x9), (2, .ref ed), (0, .ref pa), (1, .int (nI pe.length))]) hx hb dJx4a65c_remove_915e3_17 rfl hl (by decide) rfl (fun ls hl => ?_)
  refine lv_aload_n hx hb dJx4a65c_remove_915e3_18 rfl (lv_at hl 2 rfl) ?_
  refine lv_aload_n hx hb dJx4a65c_remove_915e3_19 rfl (lv_at hl 1 rfl) ?_
  refine lv_iload_n hx hb dJx4a65c_remove_915e3_20 rfl (lv_at hl 3 rfl) ?_
  refine qV_V (A := A) (A1 := A) (b := pa) (As := [.ref ed, .int (nI pe.length)]) (rest := []) ⟨hx, hb, hml, hown, hts⟩ (mJx4a65c_fastRemove_b59b0 (A := A) (n := pe.length) (md := md) (f := f) (cap := cap) hAp hAe (by omega) hc20) (cwV 2 hts (gV tw_5_169 tw_5_171 sel_Jx4a65c_fastRemove_b59b0 tw_1_11 tw_5_172) rfl rfl rfl (by decide +kernel) ⟨Nat.le_of_ble_eq_true rfl, Nat.le_of_ble_eq_true rfl⟩) hC hS (fun _ h => h) (fun q h => hA q (Nat.le_trans hS.1 h)) (at_recv hK hO (q := (RJx4a65c, TJx4a65c, 3)) rfl) ⟨hO, hE⟩ rfl rfl hl.1 (Nat.le_of_ble_eq_true rfl) ⟨Nat.zero_le _, Nat.zero_le _⟩ dJx4a65c_remove_915e3_21 (fun H25 L25 hP25 hk25 hS => ?_)
  have hZ25 := hS.1
  refine lv_aload_n hx hb dJx4a65c_remove_915e3_24 rfl (lv_at hl 0 rfl) ?_
  exact q_a hx hb hr (Or.inl ⟨_, rfl⟩) hlocks dJx4a65c_remove_915e3_25 hS (Nat.le_refl _) (Nat.le_refl _) (Or.inr ⟨_, ed, cap, _, hP25.1, hP25.2, hAe, by omega, h1, hc20, fun i hi => by rw [va_up_ne _ _ (by omega), hf i (by omega), getD_app1 hi]⟩)

abbrev rmJx4a65c_add_9ea2d : Room := { frames := 6, cells := 1, slots := 90, locals := 170 }
theorem mJx4a65c_add_9ea2d {l : Launch} {G : Cx} {A : Nat → Prop} {pa r : Nat} {pe : List Nat} {t : List Nat} (hAp : A pa) (h60 : pe.length ≤ 60) : Met l yJx4a65c_add_9ea2d (.code yJx4a65c_add_9ea2d cJx4a65c_add_9ea2d 2 (some .boolean) :: GW) rmJx4a65c_add_9ea2d (PC G A [.ref pa, .ref r] (fun H => LQ G A pa pe H ∧ (∀ i : Nat, i < pe.length → ∃ t, IA0 G (pe.getD i 0) t H) ∧ IA0 G r t H)) (qI A (fun v H => v = bI true ∧ LQ G A pa (pe ++ [r]) H)) 1 90 (A) := by
  refine mstart "java/util/ArrayList" (by decide +kernel) rfl (Nat.le_of_ble_eq_true rfl) ?_
  intro p e s m below meth c ls hx hb hr hts hown hml hlocks hname hC hA hW hl
  have hl : lv_has ls 2 [(0, .ref pa), (1, .ref r)] := hl
  have hK := hC.1
  have hS : va_S A s.heap s.heap [] := va_S.rf
  obtain ⟨hL, hrows, hR⟩ := hW
  rcases hL with ⟨he, md, hO⟩ | ⟨md, ed, cap, f, hO, hE, hAe, hnc, h1, hc20, hf⟩
  · have hRp := Ne.symm (at_ne_oa hK hO (r := (RJx4a65c, TJx4a65c, 3)) rfl hR.fst 0 rfl)
    subst he
    have hO : va_at G.1 vwCl (pa, .inr (3, [.int md, .ref (G.2.2 10), .int (nI 0)])) s.heap := hO
    refine lv_aload_n hx hb dJx4a65c_add_9ea2d_0 rfl (lv_at hl 0 rfl) ?_
    refine lv_dup hx hb dJx4a65c_add_9ea2d_1 rfl ?_
    refine va_get (D := G.1) (ci := 3) (C := RJx4a65c) (T := TJx4a65c) (N := 3) hx hb hts inJx4a65c hown hK (at_P hO) 0 rfl rfl 0 (by decide) (hts _ tw_4_164) (fun x9 h9 => u_same (hts _ tw_4_163) x9 h9) rfl dJx4a65c_add_9ea2d_2 ?_
    refine lv_iconst (v := nI 1) hx hb dJx4a65c_add_9ea2d_5 (by decide) ?_
    refine lv_iadd hx hb dJx4a65c_add_9ea2d_6 ?_
    refine h_put (D := G.1) (ci := 3) (C := RJx4a65c) (T := TJx4a65c) (N := 3) hx hb hts inJx4a65c tyJx4a65c tyJx4a65c_ok nmJx4a65c hown hK hO hS hAp rfl 0 (by decide) (hts _ tw_4_164) (fun x9 h9 => u_same (hts _ tw_4_163) x9 h9) rfl (tyJx4a65c_ok 0 (by decide)) rfl rfl (Nat.le_of_ble_eq_true rfl) dJx4a65c_add_9ea2d_7 (fun H26 L26 hO z26 o26 hS => ?_)
    have hO : va_at G.1 vwCl (pa, .inr (3, [.int (md + nI 1), .ref (G.2.2 10), .int (nI 0)])) H26 := hO
    have hZ26 := hS.1
    have hR := hR.o o26 hRp
    refine lv_aload_n hx hb dJx4a65c_add_9ea2d_10 rfl (lv_at hl 0 rfl) ?_
    refine lv_aload_n hx hb dJx4a65c_add_9ea2d_11 rfl (lv_at hl 1 rfl) ?_
    refine lv_aload_n hx hb dJx4a65c_add_9ea2d_12 rfl (lv_at hl 0 rfl) ?_
    refine va_get (D := G.1) (ci := 3) (C := RJx4a65c) (T := TJx4a65c) (N := 3) hx hb hts inJx4a65c hown hK (at_P hO) 0 rfl rfl 1 (by decide) (hts _ tw_4_157) (fun _ h9 => h9) rfl dJx4a65c_add_9ea2d_13 ?_
    refine lv_aload_n hx hb dJx4a65c_add_9ea2d_16 rfl (lv_at hl 0 rfl) ?_
    refine va_get (D := G.1) (ci := 3) (C := RJx4a65c) (T := TJx4a65c) (N := 3) hx hb hts inJx4a65c hown hK (at_P hO) 0 rfl rfl 2 (by decide) (hts _ tw_4_160) (fun _ h9 => h9) rfl dJx4a65c_add_9ea2d_17 ?_
    refine qV_V (A := A) (A1 := A) (b := pa) (As := [.ref r, .ref (G.2.2 10), .int (nI 0)]) (rest := []) ⟨hx, hb, hml, hown, hts⟩ (mJx4a65c_add_72be8_0 (A := A) (t := t) hAp) (cwV 3 hts (gV tw_5_89 tw_5_91 sel_Jx4a65c_add_72be8 tw_1_11 tw_5_92) rfl rfl rfl (by decide +kernel) ⟨Nat.le_of_ble_eq_true rfl, Nat.le_of_ble_eq_true rfl⟩) hC hS (fun _ h => h) (fun q h => hA q (Nat.le_trans hS.1 h)) (at_recv hK hO (q := (RJx4a65c, TJx4a65c, 3)) rfl) ⟨hO, hR⟩ rfl rfl hl.1 (Nat.le_of_ble_eq_true rfl) ⟨Nat.le_trans (show 0 + 1 ≤ 1 by omega) (Nat.le_of_ble_eq_true rfl), Nat.le_trans (show 0 + 90 ≤ 90 by omega) (Nat.le_of_ble_eq_true rfl)⟩ dJx4a65c_add_9ea2d_20 (fun H27 L27 hP27 hk27 hS => ?_)
    have hZ27 := hS.1
    refine lv_iconst (v := nI 1) hx hb dJx4a65c_add_9ea2d_23 (by decide) ?_
    obtain ⟨ed2, cap2, g, q1, q2, q3, q4, q5, q6⟩ := hP27
    exact q_z (b9 := true) hx hb hr hlocks dJx4a65c_add_9ea2d_24 hS (by omega) (by omega) ⟨rfl, Or.inr ⟨_, ed2, cap2, g, q1, q2, q3, q4, by omega, q5, fun i hi => by obtain rfl : i = 0 := Nat.lt_one_iff.mp hi; exact q6⟩⟩
  · have hRp := Ne.symm (at_ne_oa hK hO (r := (RJx4a65c, TJx4a65c, 3)) rfl hR.fst 0 rfl)
    have hPe : pa ≠ ed := at_ne_oa hK hO (r := (RJx4a65c, TJx4a65c, 3)) rfl hE 5 rfl
    have hO0 := hO
    refine lv_aload_n hx hb dJx4a65c_add_9ea2d_0 rfl (lv_at hl 0 rfl) ?_
    refine lv_dup hx hb dJx4a65c_add_9ea2d_1 rfl ?_
    refine va_get (D := G.1) (ci := 3) (C := RJx4a65c) (T := TJx4a65c) (N := 3) hx hb hts inJx4a65c hown hK (at_P hO) 0 rfl rfl 0 (by decide) (hts _ tw_4_164) (fun x9 h9 => u_same (hts _ tw_4_163) x9 h9) rfl dJx4a65c_add_9ea2d_2 ?_
    refine lv_iconst (v := nI 1) hx hb dJx4a65c_add_9ea2d_5 (by decide) ?_
    refine lv_iadd hx hb dJx4a65c_add_9ea2d_6 ?_
    refine h_put (D := G.1) (ci := 3) (C := RJx4a65c) (T := TJx4a65c) (N := 3) hx hb hts inJx4a65c tyJx4a65c tyJx4a65c_ok nmJx4a65c hown hK hO hS hAp rfl 0 (by decide) (hts _ tw_4_164) (fun x9 h9 => u_same (hts _ tw_4_163) x9 h9) rfl (tyJx4a65c_ok 0 (by decide)) rfl rfl (Nat.le_of_ble_eq_true rfl) dJx4a65c_add_9ea2d_7 (fun H28 L28 hO z28 o28 hS => ?_)
    have hO : va_at G.1 vwCl (pa, .inr (3, [.int (md + nI 1), .ref ed, .int (nI pe.length)])) H28 := hO
    have hE := at_o hE o28 (Ne.symm hPe)
    have hZ28 := hS.1
    have hR := hR.o o28 hRp
    have hrows : ∀ i : Nat, i < pe.length → ∃ t, IA0 G (pe.getD i 0) t H28 := fun i hi => by obtain ⟨t9, h9⟩ := hrows i hi; exact ⟨t9, h9.o o28 (Ne.symm (at_ne_oa hK hO (r := (RJx4a65c, TJx4a65c, 3)) rfl (h9.o o28 (fun q => by rw [q] at h9; exact at_ne_oa hK hO0 (r := (RJx4a65c, TJx4a65c, 3)) rfl h9.fst 0 rfl rfl)).fst 0 rfl))⟩
    refine lv_aload_n hx hb dJx4a65c_add_9ea2d_10 rfl (lv_at hl 0 rfl) ?_
    refine lv_aload_n hx hb dJx4a65c_add_9ea2d_11 rfl (lv_at hl 1 rfl) ?_
    refine lv_aload_n hx hb dJx4a65c_add_9ea2d_12 rfl (lv_at hl 0 rfl) ?_
    refine va_get (D := G.1) (ci := 3) (C := RJx4a65c) (T := TJx4a65c) (N := 3) hx hb hts inJx4a65c hown hK (at_P hO) 0 rfl rfl 1 (by decide) (hts _ tw_4_157) (fun _ h9 => h9) rfl dJx4a65c_add_9ea2d_13 ?_
    refine lv_aload_n hx hb dJx4a65c_add_9ea2d_16 rfl (lv_at hl 0 rfl) ?_
    refine va_get (D := G.1) (ci := 3) (C := RJx4a65c) (T := TJx4a65c) (N := 3) hx hb hts inJx4a65c hown hK (at_P hO) 0 rfl rfl 2 (by decide) (hts _ tw_4_160) (fun _ h9 => h9) rfl dJx4a65c_add_9ea2d_17 ?_
    refine qV_V (A := A) (A1 := A) (b := pa) (As := [.ref r, .ref ed, .int (nI pe.length)]) (rest := []) ⟨hx, hb, hml, hown, hts⟩ (mJx4a65c_add_72be8 (A := A) (f := f) (cap := cap) (n := pe.length) (t := t) hAp hAe hnc h60 h1 hc20 (fun i hi => ⟨_, hf i hi⟩)) (cwV 3 hts (gV tw_5_89 tw_5_91 sel_Jx4a65c_add_72be8 tw_1_11 tw_5_92) rfl rfl rfl (by decide +kernel) ⟨Nat.le_of_ble_eq_true rfl, Nat.le_of_ble_eq_true rfl⟩) hC hS (fun _ h => h) (fun q h => hA q (Nat.le_trans hS.1 h)) (at_recv hK hO (q := (RJx4a65c, TJx4a65c, 3)) rfl) ⟨hO, hE, fun i y hi hy => by rw [hf i hi] at hy; cases hy; exact hrows i hi, hR⟩ rfl rfl hl.1 (Nat.le_of_ble_eq_true rfl) ⟨Nat.le_trans (show 0 + 1 ≤ 1 by omega) (Nat.le_of_ble_eq_true rfl), Nat.le_trans (show 0 + 90 ≤ 90 by omega) (Nat.le_of_ble_eq_true rfl)⟩ dJx4a65c_add_9ea2d_20 (fun H29 L29 hP29 hk29 hS => ?_)
    have hZ29 := hS.1
    refine lv_iconst (v := nI 1) hx hb dJx4a65c_add_9ea2d_23 (by decide) ?_
    obtain ⟨ed2, cap2, g, q1, q2, q3, q4, q5, q6, q7⟩ := hP29
    have la : (pe ++ [r]).length = pe.length + 1 := List.length_append
    exact q_z (b9 := true) hx hb hr hlocks dJx4a65c_add_9ea2d_24 hS (by omega) (by omega) ⟨rfl, Or.inr ⟨_, ed2, cap2, g, by rw [la]; exact q1, q2, q3, by omega, by omega, q5, fun i hi => by rcases Nat.lt_or_ge i pe.length with q | q; rw [q6 i q, hf i q, getD_app1 q]; rw [show i = pe.length by omega, q7, getD_last]⟩⟩

abbrev rmJxa1e45_init_da8c8 : Room := { frames := 1, cells := 0, slots := 0, locals := 20 }
theorem mJxa1e45_init_da8c8 {l : Launch} {G : Cx} {A : Nat → Prop} {pa : Nat} : Met l yJxa1e45_init_da8c8 (.code yJxa1e45_init_da8c8 cJxa1e45_init_da8c8 1 (none : Option Jvm.ClassFile.FieldType) :: GW) rmJxa1e45_init_da8c8 (PC G A [.ref pa] (fun H => va_at G.1 vwCl (pa, .inr (3, [.int 0, .null, .int 0])) H)) (qV A (fun H => va_at G.1 vwCl (pa, .inr (3, [.int 0, .null, .int 0])) H)) 0 0 (A) := by
  refine mstart "java/util/AbstractCollection" (by decide +kernel) rfl (Nat.le_of_ble_eq_true rfl) ?_
  intro p e s m below meth c ls hx hb hr hts hown hml hlocks hname hC hA hW hl
  have hl : lv_has ls 1 [(0, .ref pa)] := hl
  have hK := hC.1
  have hS : va_S A s.heap s.heap [] := va_S.rf
  have hO := hW
  refine lv_aload_n hx hb dJxa1e45_init_da8c8_0 rfl (lv_at hl 0 rfl) ?_
  refine W.objInit hx hb hown (hts _ tw_4_154) (hts _ tw_1_35) (hts _ tw_1_36) rfl (by rw [hml]; exact hl.1) rfl dJxa1e45_init_da8c8_1 (Nat.le_of_ble_eq_true rfl) (Nat.le_of_ble_eq_true rfl) ?_
  refine W.eq (g2 := F0 m 4 ls []) rfl ?_
  exact q_v hx hb hr hlocks dJxa1e45_init_da8c8_4 hS (Nat.le_refl _) (Nat.le_refl _) hO

abbrev rmJxc12de_init_da8c8 : Room := { frames := 2, cells := 0, slots := 0, locals := 40 }
theorem mJxc12de_init_da8c8 {l : Launch} {G : Cx} {A : Nat → Prop} {pa : Nat} (hAp : A pa) : Met l yJxc12de_init_da8c8 (.code yJxc12de_init_da8c8 cJxc12de_init_da8c8 1 (none : Option Jvm.ClassFile.FieldType) :: GW) rmJxc12de_init_da8c8 (PC G A [.ref pa] (fun H => va_at G.1 vwCl (pa, .inr (3, [.int 0, .null, .int 0])) H)) (qV A (fun H => va_at G.1 vwCl (pa, .inr (3, [.int 0, .null, .int 0])) H)) 0 0 (A) := by
  refine mstart "java/util/AbstractList" (by decide +kernel) rfl (Nat.le_of_ble_eq_true rfl) ?_
  intro p e s m below meth c ls hx hb hr hts hown hml hlocks hname hC hA hW hl
  have hl : lv_has ls 1 [(0, .ref pa)] := hl
  have hK := hC.1
  have hS : va_S A s.heap s.heap [] := va_S.rf
  have hO := hW
  refine lv_aload_n hx hb dJxc12de_init_da8c8_0 rfl (lv_at hl 0 rfl) ?_
  refine qV_I (A := A) (A1 := A) (b := pa) (As := []) (rest := []) ⟨hx, hb, hml, hown, hts⟩ (mJxa1e45_init_da8c8 (A := A) ) (cwI 0 hts (gI tw_4_153) rfl rfl rfl (hts _ tw_1_9) (hts _ tw_4_151) (hts _ tw_4_152) rfl (by decide +kernel) ⟨Nat.le_of_ble_eq_true rfl, Nat.le_of_ble_eq_true rfl⟩) hC hS (fun _ h => h) (fun q h => hA q (Nat.le_trans hS.1 h))  hO rfl rfl hl.1 (Nat.le_of_ble_eq_true rfl) ⟨Nat.zero_le _, Nat.zero_le _⟩ dJxc12de_init_da8c8_1 (fun H30 L30 hP30 hk30 hS => ?_)
  have hZ30 := hS.1
  have hO := hP30
  refine lv_aload_n hx hb dJxc12de_init_da8c8_4 rfl (lv_at hl 0 rfl) ?_
  refine lv_iconst (v := nI 0) hx hb dJxc12de_init_da8c8_5 (by decide) ?_
  refine h_put (D := G.1) (ci := 3) (C := RJx4a65c) (T := TJx4a65c) (N := 3) hx hb hts inJx4a65c tyJx4a65c tyJx4a65c_ok nmJx4a65c hown hK hO hS hAp rfl 0 (by decide) (hts _ tw_4_161) (fun _ h9 => h9) rfl (tyJx4a65c_ok 0 (by decide)) rfl rfl (Nat.le_of_ble_eq_true rfl) dJxc12de_init_da8c8_6 (fun H31 L31 hO z31 o31 hS => ?_)
  have hO : va_at G.1 vwCl (pa, .inr (3, [.int (nI 0), .null, .int 0])) H31 := hO
  have hZ31 := hS.1
  exact q_v hx hb hr hlocks dJxc12de_init_da8c8_9 hS (Nat.le_refl _) (Nat.le_refl _) hO

abbrev rmJx4a65c_init_da8c8 : Room := { frames := 3, cells := 0, slots := 0, locals := 60 }
theorem mJx4a65c_init_da8c8 {l : Launch} {G : Cx} {A : Nat → Prop} {pa : Nat} (hAp : A pa) : Met l yJx4a65c_init_da8c8 (.code yJx4a65c_init_da8c8 cJx4a65c_init_da8c8 1 (none : Option Jvm.ClassFile.FieldType) :: GW) rmJx4a65c_init_da8c8 (PC G A [.ref pa] (fun H => va_at G.1 vwCl (pa, .inr (3, [.int 0, .null, .int 0])) H)) (qV A (LQ G A pa [])) 0 0 (A) := by
  refine mstart "java/util/ArrayList" (by decide +kernel) rfl (Nat.le_of_ble_eq_true rfl) ?_
  intro p e s m below meth c ls hx hb hr hts hown hml hlocks hname hC hA hW hl
  have hl : lv_has ls 1 [(0, .ref pa)] := hl
  have hK := hC.1
  have hS : va_S A s.heap s.heap [] := va_S.rf
  obtain ⟨-, -, -, -, -, -, -, -, zc9, zc10, -⟩ := hC.2.2.1
  have hO := hW
  refine lv_aload_n hx hb dJx4a65c_init_da8c8_0 rfl (lv_at hl 0 rfl) ?_
  refine qV_I (A := A) (A1 := A) (b := pa) (As := []) (rest := []) ⟨hx, hb, hml, hown, hts⟩ (mJxc12de_init_da8c8 (A := A) hAp) (cwI 0 hts (gI tw_4_150) rfl rfl rfl (hts _ tw_1_10) (hts _ tw_4_148) (hts _ tw_4_149) rfl (by decide +kernel) ⟨Nat.le_of_ble_eq_true rfl, Nat.le_of_ble_eq_true rfl⟩) hC hS (fun _ h => h) (fun q h => hA q (Nat.le_trans hS.1 h))  hO rfl rfl hl.1 (Nat.le_of_ble_eq_true rfl) ⟨Nat.zero_le _, Nat.zero_le _⟩ dJx4a65c_init_da8c8_1 (fun H32 L32 hP32 hk32 hS => ?_)
  have hZ32 := hS.1
  have hO := hP32
  refine lv_aload_n hx hb dJx4a65c_init_da8c8_4 rfl (lv_at hl 0 rfl) ?_
  refine va_gets (v := .ref (G.2.2 10)) hx hb zc9 hS hown (hts _ tw_4_155) (fun _ h9 => h9) dJx4a65c_init_da8c8_5 ?_
  refine h_put (D := G.1) (ci := 3) (C := RJx4a65c) (T := TJx4a65c) (N := 3) hx hb hts inJx4a65c tyJx4a65c tyJx4a65c_ok nmJx4a65c hown hK hO hS hAp rfl 1 (by decide) (hts _ tw_4_157) (fun _ h9 => h9) rfl (tyJx4a65c_ok 1 (by decide)) rfl rfl (Nat.le_of_ble_eq_true rfl) dJx4a65c_init_da8c8_8 (fun H33 L33 hO z33 o33 hS => ?_)
  have hO : va_at G.1 vwCl (pa, .inr (3, [.int 0, .ref (G.2.2 10), .int 0])) H33 := hO
  have hZ33 := hS.1
  exact q_v hx hb hr hlocks dJx4a65c_init_da8c8_11 hS (Nat.le_refl _) (Nat.le_refl _) (Or.inl ⟨rfl, _, hO⟩)
end
/-! 56.mod17 -/
section
/-! The model, 17: pieces -/
section LQS
variable {G : Cx} {A B : Nat → Prop} {pa : Nat} {pe : List Nat} {H H1 : Heap} {s : State}
theorem LQ_mono (hAB : ∀ q, A q → B q) (h : LQ G A pa pe H) : LQ G B pa pe H := by
  rcases h with h | ⟨md, ed, cap, f, q1, q2, q3, q4⟩
  · exact Or.inl h
  · exact Or.inr ⟨md, ed, cap, f, q1, q2, hAB _ q3, q4⟩
theorem LQ_obj (h : LQ G A pa pe H) : ∃ (md : Int32) (ed : Nat), va_at G.1 vwCl (pa, .inr (3, [.int md, .ref ed, .int (nI pe.length)])) H := by
  rcases h with ⟨he, md, h⟩ | ⟨md, ed, cap, f, q1, -⟩
  · subst he; exact ⟨md, _, h⟩
  · exact ⟨md, ed, q1⟩
theorem LQ_some (h : LQ G A pa pe H) (hn : 0 < pe.length) : ∃ (md : Int32) (ed cap : Nat) (f : Nat → Option Nat), va_at G.1 vwCl (pa, .inr (3, [.int md, .ref ed, .int (nI pe.length)])) H ∧ va_at G.1 vwCl (ed, .inl (G.2.1 5, cap, .inr (.inr (.inr (.inr f))))) H ∧ A ed ∧ pe.length ≤ cap ∧ 1 ≤ cap ∧ cap < 2 ^ 20 ∧ ∀ i : Nat, i < pe.length → f i = some (pe.getD i 0) := by
  rcases h with ⟨he, -⟩ | h
  · subst he; exact absurd hn (Nat.lt_irrefl 0)
  · exact h
theorem LQ_recv (hK : va_K G.1 vwCl (tyL G.2.1) s) (h : LQ G A pa pe H) : ∃ cell : Cell, H[pa]? = some cell ∧ cell.vm.isStatics = false ∧ s.vm.findClass "java/util/ArrayList" = some cell.cls := by
  obtain ⟨md, ed, h⟩ := LQ_obj h
  exact at_recv hK h (q := (RJx4a65c, TJx4a65c, 3)) rfl
theorem LQ_nI (hK : va_K G.1 vwCl (tyL G.2.1) s) (h : LQ G A pa pe H) : ¬ ∃ t9, IA0 G pa t9 H := by
  rintro ⟨t9, z⟩
  obtain ⟨md, ed, h⟩ := LQ_obj h
  exact at_ne_oa hK h (r := (RJx4a65c, TJx4a65c, 3)) rfl z.fst 0 rfl rfl
theorem LQ_A (hK : va_K G.1 vwCl (tyL G.2.1) s) (h : LQ G A pa pe H) (hA : A pa) : A pa ∧ ¬ ∃ t9, IA0 G pa t9 H := ⟨hA, LQ_nI hK h⟩
theorem LQ_sub (hK : va_K G.1 vwCl (tyL G.2.1) s) (h : LQ G A pa pe H) : LQ G (fun q9 => A q9 ∧ ¬ ∃ t9, IA0 G q9 t9 H) pa pe H := by
  rcases h with h | ⟨md, ed, cap, f, q1, q2, q3, q4⟩
  · exact Or.inl h
  · exact Or.inr ⟨md, ed, cap, f, q1, q2, ⟨q3, fun ⟨t9, z⟩ => at_ne_aa hK q2 z.fst 5 0 rfl rfl (by decide) rfl⟩, q4⟩
theorem LQ_kp {X : Nat → Prop} (h : LQ G A pa pe H) (hk : kp X H H1) (hX : ∀ q : Nat, q < H.size → ¬ X q) : LQ G A pa pe H1 := by
  rcases h with ⟨he, md, h⟩ | ⟨md, ed, cap, f, q1, q2, q3, q4⟩
  · exact Or.inl ⟨he, md, at_kp h hk (hX _ h.lt)⟩
  · exact Or.inr ⟨md, ed, cap, f, at_kp q1 hk (hX _ q1.lt), at_kp q2 hk (hX _ q2.lt), q3, q4⟩
end LQS
theorem bgE_app {e9 : List Nat} {x i : Nat} (h : i ≤ e9.length) : bgE (e9 ++ [x]) i = bgE e9 i := by
  cases i with
  | zero => rfl
  | succ i => show (e9 ++ [x]).getD i 0 + 1 = e9.getD i 0 + 1; rw [getD_app1 (by omega)]
theorem take_s {t : List Nat} {j : Nat} (h : j ≤ t.length) (h1 : 1 ≤ j) : t.take j = t.take (j - 1) ++ [t.getD (j - 1) 0] := by
  obtain ⟨k, rfl⟩ : ∃ k, j = k + 1 := ⟨j - 1, by omega⟩
  rw [Nat.add_sub_cancel, List.take_add_one, List.getD_eq_getElem?_getD, List.getElem?_eq_getElem (by omega)]
  rfl
theorem dX4_pieces_0 : decode cX4_pieces 0 = .ok (.new 43, 3) := by decide +kernel
theorem dX4_pieces_3 : decode cX4_pieces 3 = .ok (.dup, 1) := by decide +kernel
theorem dX4_pieces_4 : decode cX4_pieces 4 = .ok (.invokespecial 45, 3) := by decide +kernel
theorem dX4_pieces_7 : decode cX4_pieces 7 = .ok (.astore_n 1, 1) := by decide +kernel
theorem dX4_pieces_8 : decode cX4_pieces 8 = .ok (.iconst 0, 1) := by decide +kernel
theorem dX4_pieces_9 : decode cX4_pieces 9 = .ok (.istore_n 2, 1) := by decide +kernel
theorem dX4_pieces_10 : decode cX4_pieces 10 = .ok (.iconst 0, 1) := by decide +kernel
theorem dX4_pieces_11 : decode cX4_pieces 11 = .ok (.istore_n 3, 1) := by decide +kernel
theorem dX4_pieces_12 : decode cX4_pieces 12 = .ok (.iconst 0, 1) := by decide +kernel
theorem dX4_pieces_13 : decode cX4_pieces 13 = .ok (.istore 4, 2) := by decide +kernel
theorem dX4_pieces_15 : decode cX4_pieces 15 = .ok (.iload 4, 2) := by decide +kernel
theorem dX4_pieces_17 : decode cX4_pieces 17 = .ok (.aload_n 0, 1) := by decide +kernel
theorem dX4_pieces_18 : decode cX4_pieces 18 = .ok (.arraylength, 1) := by decide +kernel
theorem dX4_pieces_19 : decode cX4_pieces 19 = .ok (.if_icmp .ge 37, 3) := by decide +kernel
theorem dX4_pieces_22 : decode cX4_pieces 22 = .ok (.aload_n 0, 1) := by decide +kernel
theorem dX4_pieces_23 : decode cX4_pieces 23 = .ok (.iload 4, 2) := by decide +kernel
theorem dX4_pieces_25 : decode cX4_pieces 25 = .ok (.iaload, 1) := by decide +kernel
theorem dX4_pieces_26 : decode cX4_pieces 26 = .ok (.bipush 44, 2) := by decide +kernel
theorem dX4_pieces_28 : decode cX4_pieces 28 = .ok (.if_icmp .ne 22, 3) := by decide +kernel
theorem dX4_pieces_31 : decode cX4_pieces 31 = .ok (.aload_n 1, 1) := by decide +kernel
theorem dX4_pieces_32 : decode cX4_pieces 32 = .ok (.aload_n 0, 1) := by decide +kernel
theorem dX4_pieces_33 : decode cX4_pieces 33 = .ok (.iload_n 2, 1) := by decide +kernel
theorem dX4_pieces_34 : decode cX4_pieces 34 = .ok (.iload 4, 2) := by decide +kernel
theorem dX4_pieces_36 : decode cX4_pieces 36 = .ok (.invokestatic 31, 3) := by decide +kernel
theorem dX4_pieces_39 : decode cX4_pieces 39 = .ok (.invokevirtual 46, 3) := by decide +kernel
theorem dX4_pieces_42 : decode cX4_pieces 42 = .ok (.pop, 1) := by decide +kernel
theorem dX4_pieces_43 : decode cX4_pieces 43 = .ok (.iload 4, 2) := by decide +kernel
theorem dX4_pieces_45 : decode cX4_pieces 45 = .ok (.iconst 1, 1) := by decide +kernel
theorem dX4_pieces_46 : decode cX4_pieces 46 = .ok (.iadd, 1) := by decide +kernel
theorem dX4_pieces_47 : decode cX4_pieces 47 = .ok (.istore_n 2, 1) := by decide +kernel
theorem dX4_pieces_48 : decode cX4_pieces 48 = .ok (.iconst 1, 1) := by decide +kernel
theorem dX4_pieces_49 : decode cX4_pieces 49 = .ok (.istore_n 3, 1) := by decide +kernel
theorem dX4_pieces_50 : decode cX4_pieces 50 = .ok (.iinc 4 1, 3) := by decide +kernel
theorem dX4_pieces_53 : decode cX4_pieces 53 = .ok (.goto (-38), 3) := by decide +kernel
theorem dX4_pieces_56 : decode cX4_pieces 56 = .ok (.aload_n 1, 1) := by decide +kernel
theorem dX4_pieces_57 : decode cX4_pieces 57 = .ok (.aload_n 0, 1) := by decide +kernel
theorem dX4_pieces_58 : decode cX4_pieces 58 = .ok (.iload_n 2, 1) := by decide +kernel
theorem dX4_pieces_59 : decode cX4_pieces 59 = .ok (.aload_n 0, 1) := by decide +kernel
theorem dX4_pieces_60 : decode cX4_pieces 60 = .ok (.arraylength, 1) := by decide +kernel
theorem dX4_pieces_61 : decode cX4_pieces 61 = .ok (.invokestatic 31, 3) := by decide +kernel
theorem dX4_pieces_64 : decode cX4_pieces 64 = .ok (.invokevirtual 46, 3) := by decide +kernel
theorem dX4_pieces_67 : decode cX4_pieces 67 = .ok (.pop, 1) := by decide +kernel
theorem dX4_pieces_68 : decode cX4_pieces 68 = .ok (.iload_n 3, 1) := by decide +kernel
theorem dX4_pieces_69 : decode cX4_pieces 69 = .ok (.ifCond .eq 41, 3) := by decide +kernel
theorem dX4_pieces_72 : decode cX4_pieces 72 = .ok (.aload_n 1, 1) := by decide +kernel
theorem dX4_pieces_73 : decode cX4_pieces 73 = .ok (.invokevirtual 50, 3) := by decide +kernel
theorem dX4_pieces_76 : decode cX4_pieces 76 = .ok (.ifCond .ne 34, 3) := by decide +kernel
theorem dX4_pieces_79 : decode cX4_pieces 79 = .ok (.aload_n 1, 1) := by decide +kernel
theorem dX4_pieces_80 : decode cX4_pieces 80 = .ok (.aload_n 1, 1) := by decide +kernel
theorem dX4_pieces_81 : decode cX4_pieces 81 = .ok (.invokevirtual 54, 3) := by decide +kernel
theorem dX4_pieces_84 : decode cX4_pieces 84 = .ok (.iconst 1, 1) := by decide +kernel
theorem dX4_pieces_85 : decode cX4_pieces 85 = .ok (.isub, 1) := by decide +kernel
theorem dX4_pieces_86 : decode cX4_pieces 86 = .ok (.invokevirtual 58, 3) := by decide +kernel
theorem dX4_pieces_89 : decode cX4_pieces 89 = .ok (.checkcast 62, 3) := by decide +kernel
theorem dX4_pieces_92 : decode cX4_pieces 92 = .ok (.arraylength, 1) := by decide +kernel
theorem dX4_pieces_93 : decode cX4_pieces 93 = .ok (.ifCond .ne 17, 3) := by decide +kernel
theorem dX4_pieces_96 : decode cX4_pieces 96 = .ok (.aload_n 1, 1) := by decide +kernel
theorem dX4_pieces_97 : decode cX4_pieces 97 = .ok (.aload_n 1, 1) := by decide +kernel
theorem dX4_pieces_98 : decode cX4_pieces 98 = .ok (.invokevirtual 54, 3) := by decide +kernel
theorem dX4_pieces_101 : decode cX4_pieces 101 = .ok (.iconst 1, 1) := by decide +kernel
theorem dX4_pieces_102 : decode cX4_pieces 102 = .ok (.isub, 1) := by decide +kernel
theorem dX4_pieces_103 : decode cX4_pieces 103 = .ok (.invokevirtual 64, 3) := by decide +kernel
theorem dX4_pieces_106 : decode cX4_pieces 106 = .ok (.pop, 1) := by decide +kernel
theorem dX4_pieces_107 : decode cX4_pieces 107 = .ok (.goto (-39), 3) := by decide +kernel
theorem dX4_pieces_110 : decode cX4_pieces 110 = .ok (.aload_n 1, 1) := by decide +kernel
theorem dX4_pieces_111 : decode cX4_pieces 111 = .ok (.areturn, 1) := by decide +kernel
abbrev rmX4_pieces : Room := { frames := 7, cells := 123, slots := 9214, locals := 191 }
theorem mX4_pieces {l : Launch} {G : Cx} {A : Nat → Prop} {a sz : Nat} {t : List Nat} (tok : okc t) (t60 : t.length ≤ 60) : Met l yX4_pieces (.code yX4_pieces cX4_pieces 5 (some (.object "java/util/ArrayList")) :: GW) rmX4_pieces (PC G A [.ref a] (fun H => H.size = sz ∧ IA0 G a t H)) (qR A (fun r H => ∃ (es pe : List Nat), isCut t es ∧ LQ G A r pe H ∧ pe.length = es.length ∧ sz ≤ r ∧ ∀ i : Nat, i < es.length → IA0 G (pe.getD i 0) (cutL t (bgE es i) (es.getD i 0)) H ∧ sz ≤ pe.getD i 0)) 123 9214 (A) := by
  refine mstart "SigntextModel" (by decide +kernel) rfl (Nat.le_of_ble_eq_true rfl) ?_
  intro p e s m below meth c ls hx hb hr hts hown hml hlocks hname hC hA hW hl
  have hl : lv_has ls 5 [(0, .ref a)] := hl
  have hK := hC.1
  have hS : va_S A s.heap s.heap [] := va_S.rf
  obtain ⟨hsz, hR⟩ := hW
  refine h_new (D := G.1) (C := RJx4a65c) (T := TJx4a65c) (N := 3) (ci := 3) (fs := [.int 0, .null, .int 0]) hx hb hts inJx4a65c tyJx4a65c tyJx4a65c_ok hown (hts _ tw_4_143) (hts _ tw_4_144) (hts _ tw_1_11) hK hS rfl (fun j hj => match j, hj with | 0, _ => rfl | 1, _ => rfl | 2, _ => rfl) (Nat.le_trans (show 0 + 1 ≤ 123 by omega) (Nat.le_of_ble_eq_true rfl)) (Nat.le_trans (show 0 + 3 ≤ 9214 by omega) (Nat.le_of_ble_eq_true rfl)) dX4_pieces_0 (fun pa H1 hpa hOpa z1 o1 hS => ?_)
  have hZ1 := hS.1
  have hMpa : A pa := hA pa (by omega)
  have hR := hR.n o1
  refine lv_dup hx hb dX4_pieces_3 rfl ?_
  refine qV_I (A := A) (A1 := ow pa pa H1.size) (b := pa) (As := []) (rest := .ref pa :: []) ⟨hx, hb, hml, hown, hts⟩ (mJx4a65c_init_da8c8 (A := ow pa pa H1.size) (Or.inl rfl)) (cwI 0 hts (gI tw_4_147) rfl rfl rfl (hts _ tw_1_11) (hts _ tw_4_145) (hts _ tw_4_146) rfl (by decide +kernel) ⟨Nat.le_of_ble_eq_true rfl, Nat.le_of_ble_eq_true rfl⟩) hC hS (ow_in hMpa hMpa hA (by omega)) ow_n  hOpa rfl rfl hl.1 (Nat.le_of_ble_eq_true rfl) ⟨Nat.le_trans (show (0 + 1) ≤ 123 by omega) (Nat.le_of_ble_eq_true rfl), Nat.le_trans (show (0 + 3) ≤ 9214 by omega) (Nat.le_of_ble_eq_true rfl)⟩ dX4_pieces_4 (fun H2 L2 hP2 hk2 hS => ?_)
  have hZ2 := hS.1
  have hra : a ≠ pa := by have h8 := hOpa; rintro rfl; exact at_ne_oa hK h8 (r := (RJx4a65c, TJx4a65c, 3)) rfl hR.fst 0 rfl rfl
  have hR := hR.kp hk2 (ow_no hra hra hR.lt)
  have hL : LQ G A pa [] H2 := LQ_mono (ow_in hMpa hMpa hA (by omega)) hP2
  have hpsz : sz ≤ pa := by omega
  refine lv_astore_n (lv' := [(1, .ref pa), (0, .ref a)]) hx hb dX4_pieces_7 rfl hl (by decide) rfl (fun ls hl => ?_)
  refine lv_iconst (v := nI 0) hx hb dX4_pieces_8 (by decide) ?_
  refine lv_istore_n (lv' := [(2, .int (nI 0)), (1, .ref pa), (0, .ref a)]) hx hb dX4_pieces_9 rfl hl (by decide) rfl (fun ls hl => ?_)
  refine lv_iconst (v := nI 0) hx hb dX4_pieces_10 (by decide) ?_
  refine lv_istore_n (lv' := [(3, .int (nI 0)), (2, .int (nI 0)), (1, .ref pa), (0, .ref a)]) hx hb dX4_pieces_11 rfl hl (by decide) rfl (fun ls hl => ?_)
  refine lv_iconst (v := nI 0) hx hb dX4_pieces_12 (by decide) ?_
  refine lv_istore (lv' := [(4, .int (nI 0)), (3, .int (nI 0)), (2, .int (nI 0)), (1, .ref pa), (0, .ref a)]) hx hb dX4_pieces_13 hl (by decide) rfl (fun ls hl => ?_)
  refine W.widen (k := 1 + 0 * 2) (n := 3 + 0 * 151) (by decide) (by decide) ?_
  have hl : lv_has ls 5 [(4, .int (nI 0)), (3, .int (bI false)), (2, .int (nI (bgE [] 0))), (1, .ref pa), (0, .ref a)] := (lv_sub hl [0, 1, 2, 3, 4] rfl)
  refine nloop (P := fun j => ∀ (ls : Array Slot) (H : Heap) (L : List Loc) (e9 pe : List Nat) (b : Bool), lv_has ls 5 [(4, .int (nI j)), (3, .int (bI b)), (2, .int (nI (bgE e9 e9.length))), (1, .ref pa), (0, .ref a)] → va_S A s.heap H L → IA0 G a t H → LQ G A pa pe H → pe.length = e9.length → (∀ i : Nat, i < e9.length → IA0 G (pe.getD i 0) (cutL t (bgE e9 i) (e9.getD i 0)) H ∧ sz ≤ pe.getD i 0) → e9 ++ comE (t.drop j) j = comE t 0 → bgE e9 e9.length ≤ j → (b = true ↔ 0 < e9.length) → W p l e rmX4_pieces s m [.ref a].toArray below meth c H L (1 + j * 2) (3 + j * 151) (MQ below (qR A (fun r H => ∃ (es pe : List Nat), isCut t es ∧ LQ G A r pe H ∧ pe.length = es.length ∧ sz ≤ r ∧ ∀ i : Nat, i < es.length → IA0 G (pe.getD i 0) (cutL t (bgE es i) (es.getD i 0)) H ∧ sz ≤ pe.getD i 0)) [.ref a].toArray s 123 9214 (A)) (F0 m 15 ls [])) t.length ?_ 0 (Nat.zero_le _) ls H2 L2 [] [] false hl hS hR hL rfl (fun i hi => absurd hi (Nat.not_lt_zero i)) rfl (Nat.zero_le _) ⟨fun q => Bool.noConfusion q, fun q => absurd q (Nat.lt_irrefl 0)⟩
  clear hl
  intro j hj ih ls H L e9 pe b hl
  clear hS hR hL
  intro hS hR hL hpl hrw hEE hbg hb9
  have hZ0 := hS.1
  have h60 := comE_room hEE
  have hR1 := hR.ia hC.2.1.2
  refine lv_iload hx hb dX4_pieces_15 (lv_at hl 0 rfl) ?_
  refine lv_aload_n hx hb dX4_pieces_17 rfl (lv_at hl 4 rfl) ?_
  refine h_ilen hx hb hC.2.1 hR1 dX4_pieces_18 ?_
  have hAp : A pa := hMpa
  refine b_ge (tgt := 56) hx hb dX4_pieces_19 (by decide) (by omega) (by omega) (fun c_3 => ?_) (fun c_3 => ?_)
  · have ej : j = t.length := by omega
    clear ih
    subst ej
    have hEE : e9 ++ [t.length] = comE t 0 := by rw [List.drop_length] at hEE; exact hEE
    refine lv_aload_n hx hb dX4_pieces_56 rfl (lv_at hl 3 rfl) ?_
    refine lv_aload_n hx hb dX4_pieces_57 rfl (lv_at hl 4 rfl) ?_
    refine lv_iload_n hx hb dX4_pieces_58 rfl (lv_at hl 2 rfl) ?_
    refine lv_aload_n hx hb dX4_pieces_59 rfl (lv_at hl 4 rfl) ?_
    refine h_ilen hx hb hC.2.1 hR1 dX4_pieces_60 ?_
    have hra9 := hR.lt
    refine qR_S (A := A) (A1 := nw H.size)  (As := [.ref a, .int (nI (bgE e9 e9.length)), .int (nI t.length)]) (rest := .ref pa :: []) ⟨hx, hb, hml, hown, hts⟩ (mX4_cut (A := nw H.size) (sz := H.size) (t := t) (i := bgE e9 e9.length) (i2 := t.length) hbg (Nat.le_refl _) (by omega)) (va_cwS 3 hts (gS tw_4_226 tw_4_227 tw_1_8 tw_4_228) rfl rfl rfl (by decide +kernel) ⟨Nat.le_of_ble_eq_true rfl, Nat.le_of_ble_eq_true rfl⟩) hC hS (nw_in hA hS.1) nw_n  ⟨rfl, hR1⟩ rfl rfl hl.1 (Nat.le_of_ble_eq_true rfl) ⟨Nat.le_trans (show (1 + t.length * 2) + 1 ≤ 123 by omega) (Nat.le_of_ble_eq_true rfl), Nat.le_trans (show (3 + t.length * 151) + 61 ≤ 9214 by omega) (Nat.le_of_ble_eq_true rfl)⟩ dX4_pieces_61 (fun rv4 H4 L4 hP4 hk4 hS => ?_)
    have hZ4 := hS.1
    have hN := hP4.2
    have hNz := hP4.1
    have hR := hR.kp hk4 (Nat.not_le_of_lt hR.lt)
    have hL : LQ G A pa pe H4 := LQ_kp hL hk4 (fun q hq => Nat.not_le_of_lt hq)
    have hrw : ∀ i : Nat, i < e9.length → IA0 G (pe.getD i 0) (cutL t (bgE e9 i) (e9.getD i 0)) H4 ∧ sz ≤ pe.getD i 0 := fun i hi => ⟨(hrw i hi).1.kp hk4 (Nat.not_le_of_lt (hrw i hi).1.lt), (hrw i hi).2⟩
    refine qI_V (A := A) (A1 := (fun q9 => A q9 ∧ ¬ ∃ t9, IA0 G q9 t9 H4)) (b := pa) (As := [.ref rv4]) (rest := []) ⟨hx, hb, hml, hown, hts⟩ (mJx4a65c_add_9ea2d (A := (fun q9 => A q9 ∧ ¬ ∃ t9, IA0 G q9 t9 H4)) (pe := pe) (t := cutL t (bgE e9 e9.length) t.length) (LQ_A hK hL hAp) (by omega)) (cwV 1 hts (gV tw_5_85 tw_5_86 tw_5_87 tw_1_11 tw_5_88) rfl rfl rfl (by decide +kernel) ⟨Nat.le_of_ble_eq_true rfl, Nat.le_of_ble_eq_true rfl⟩) hC hS (fun _ h => h.1) (fun q h => ⟨hA q (Nat.le_trans hS.1 h), fun ⟨t9, z9⟩ => by have := z9.lt; omega⟩) (LQ_recv hK hL) ⟨LQ_sub hK hL, fun i hi => ⟨_, (hrw i (by omega)).1⟩, hN⟩ rfl rfl hl.1 (Nat.le_of_ble_eq_true rfl) ⟨Nat.le_trans (show ((1 + t.length * 2) + 1) + 1 ≤ 123 by omega) (Nat.le_of_ble_eq_true rfl), Nat.le_trans (show ((3 + t.length * 151) + 61) + 90 ≤ 9214 by omega) (Nat.le_of_ble_eq_true rfl)⟩ dX4_pieces_64 (fun rv5 H5 L5 hP5 hk5 hS => ?_)
    have hZ5 := hS.1
    have hL : LQ G A pa (pe ++ [rv4]) H5 := LQ_mono (fun _ h => h.1) hP5.2
    have hR := hR.kp hk5 (fun q => q.2 ⟨_, hR⟩)
    have hrw : ∀ i : Nat, i < (e9 ++ [t.length]).length → IA0 G ((pe ++ [rv4]).getD i 0) (cutL t (bgE (e9 ++ [t.length]) i) ((e9 ++ [t.length]).getD i 0)) H5 ∧ sz ≤ (pe ++ [rv4]).getD i 0 := fun i hi => by rw [List.length_append] at hi; have hi : i < e9.length + 1 := hi; rw [bgE_app (by omega)]; rcases Nat.lt_or_ge i e9.length with q | q; rw [getD_app1 q, getD_app1 (by omega)]; exact ⟨(hrw i q).1.kp hk5 (fun z => z.2 ⟨_, (hrw i q).1⟩), (hrw i q).2⟩; rw [show i = e9.length by omega, getD_last, ← hpl, getD_last, hpl]; exact ⟨hN.kp hk5 (fun z => z.2 ⟨_, hN⟩), by omega⟩
    have hpl : (pe ++ [rv4]).length = (e9 ++ [t.length]).length := by rw [List.length_append, List.length_append, hpl]; rfl
    obtain ⟨E, hEd⟩ : ∃ E, E = e9 ++ [t.length] := ⟨_, rfl⟩
    obtain ⟨PE, hPd⟩ : ∃ PE, PE = pe ++ [rv4] := ⟨_, rfl⟩
    rw [← hEd] at hrw hpl hEE
    rw [← hPd] at hrw hpl hL
    have hEl : E.length = e9.length + 1 := by rw [hEd, List.length_append]; rfl
    refine lv_pop hx hb dX4_pieces_67 rfl ?_
    have hl : lv_has ls 5 [(3, .int (bI b)), (1, .ref pa)] := (lv_sub hl [1, 3] rfl)
    generalize hcl : (((1 + t.length * 2) + 1) + 1) = CC
    generalize hsl : (((3 + t.length * 151) + 61) + 90) = SS9
    refine dloop (P := fun j => ∀ (ls : Array Slot) (H : Heap) (L : List Loc), lv_has ls 5 [(3, .int (bI b)), (1, .ref pa)] → va_S A s.heap H L → LQ G A pa (PE.take j) H → (∀ i : Nat, i < E.length → IA0 G (PE.getD i 0) (cutL t (bgE E i) (E.getD i 0)) H ∧ sz ≤ PE.getD i 0) → j ≤ E.length → (j < E.length → b = true) → (∀ k : Nat, j ≤ k → k < E.length → bgE E k = E.getD k 0) → W p l e rmX4_pieces s m [.ref a].toArray below meth c H L CC SS9 (MQ below (qR A (fun r H => ∃ (es pe : List Nat), isCut t es ∧ LQ G A r pe H ∧ pe.length = es.length ∧ sz ≤ r ∧ ∀ i : Nat, i < es.length → IA0 G (pe.getD i 0) (cutL t (bgE es i) (es.getD i 0)) H ∧ sz ≤ pe.getD i 0)) [.ref a].toArray s 123 9214 (A)) (F0 m 68 ls [])) ?_ E.length ls H5 L5 hl hS (by rw [← hpl, List.take_length]; exact hL) hrw (Nat.le_refl _) (fun q => absurd q (Nat.lt_irrefl _)) (fun k h1 h2 => absurd h2 (by omega))
    clear hl
    intro j ih ls H L hl
    clear hS hL hrw hR hR1
    intro hS hL hrw hjE hjb hem
    have hZ0 := hS.1
    have hjl : (PE.take j).length = j := by rw [List.length_take]; omega
    refine lv_iload_n hx hb dX4_pieces_68 rfl (lv_at hl 0 rfl) ?_
    refine f_eq (tgt := 110) hx hb dX4_pieces_69 (by decide) (fun c_6 => ?_) (fun c_6 => ?_)
    · have he0 : ¬ 0 < e9.length := fun q => by rw [hb9.mpr q] at c_6; exact Bool.noConfusion c_6
      have hje : j = E.length := by rcases Nat.lt_or_ge j E.length with q | q; rw [hjb q] at c_6; exact Bool.noConfusion c_6; omega
      refine lv_aload_n hx hb dX4_pieces_110 rfl (lv_at hl 1 rfl) ?_
      exact q_a hx hb hr (Or.inl ⟨_, rfl⟩) hlocks dX4_pieces_111 hS (by omega) (by omega) ⟨E.take j, PE.take j, ⟨j, by rw [← hEE]; exact hjE, by rw [← hEE], by rw [← hEE]; exact (Or.inl ⟨by omega, hje⟩)⟩, hL, by rw [List.length_take, List.length_take, hpl], hpsz, fun i hi => by rw [List.length_take] at hi; rw [getD_take (by omega), getD_take (by omega), bgE_take (by omega)]; exact hrw i (by omega)⟩
    · have he1 : 1 < E.length := by have := hb9.mp c_6; omega
      obtain ⟨md, ed, hO⟩ := LQ_obj hL
      rw [hjl] at hO
      refine lv_aload_n hx hb dX4_pieces_72 rfl (lv_at hl 1 rfl) ?_
      refine kV_i (A := A) (b := pa) (As := []) (rest := []) ⟨hx, hb, hml, hown, hts⟩ (mJx4a65c_isEmpty_aae02 (A := A) (ed := ed) (n := j) (md := md) (by omega)) (cwV 0 hts (gV tw_5_144 tw_5_145 tw_5_146 tw_1_11 tw_5_147) rfl rfl rfl (by decide +kernel) ⟨Nat.le_of_ble_eq_true rfl, Nat.le_of_ble_eq_true rfl⟩) hC hS hA (LQ_recv hK hL) hO rfl rfl hl.1 (Nat.le_of_ble_eq_true rfl) ⟨Nat.le_trans (show CC ≤ 123 by omega) (Nat.le_of_ble_eq_true rfl), Nat.le_trans (show SS9 ≤ 9214 by omega) (Nat.le_of_ble_eq_true rfl)⟩ dX4_pieces_73 (fun r9 h9 => lv_cv h9 ?_)
      refine f_ne (tgt := 110) hx hb dX4_pieces_76 (by decide) (fun c_7 => ?_) (fun c_7 => ?_)
      · have hj0 : j = 0 := of_decide_eq_true c_7
        refine lv_aload_n hx hb dX4_pieces_110 rfl (lv_at hl 1 rfl) ?_
        exact q_a hx hb hr (Or.inl ⟨_, rfl⟩) hlocks dX4_pieces_111 hS (by omega) (by omega) ⟨E.take j, PE.take j, ⟨j, by rw [← hEE]; exact hjE, by rw [← hEE], by rw [← hEE]; exact (Or.inr ⟨he1, hem, fun q => absurd q (by omega)⟩)⟩, hL, by rw [List.length_take, List.length_take, hpl], hpsz, fun i hi => by rw [List.length_take] at hi; rw [getD_take (by omega), getD_take (by omega), bgE_take (by omega)]; exact hrw i (by omega)⟩
      · have hj1 : 1 ≤ j := by have := of_decide_eq_false c_7; omega
        refine lv_aload_n hx hb dX4_pieces_79 rfl (lv_at hl 1 rfl) ?_
        refine lv_aload_n hx hb dX4_pieces_80 rfl (lv_at hl 1 rfl) ?_
        refine kV_i (A := A) (b := pa) (As := []) (rest := .ref pa :: []) ⟨hx, hb, hml, hown, hts⟩ (mJx4a65c_size_8abf5 (A := A) (ed := ed) (n := j) (md := md) (by omega)) (cwV 0 hts (gV tw_5_148 tw_5_149 tw_5_150 tw_1_11 tw_5_151) rfl rfl rfl (by decide +kernel) ⟨Nat.le_of_ble_eq_true rfl, Nat.le_of_ble_eq_true rfl⟩) hC hS hA (LQ_recv hK hL) hO rfl rfl hl.1 (Nat.le_of_ble_eq_true rfl) ⟨Nat.le_trans (show CC ≤ 123 by omega) (Nat.le_of_ble_eq_true rfl), Nat.le_trans (show SS9 ≤ 9214 by omega) (Nat.le_of_ble_eq_true rfl)⟩ dX4_pieces_81 (fun r9 h9 => lv_cv h9 ?_)
        refine lv_iconst (v := nI 1) hx hb dX4_pieces_84 (by decide) ?_
        refine lv_isub hx hb dX4_pieces_85 ?_
        refine lv_cv (pk_sub (a := j) (b := 1) (by omega)) ?_
        obtain ⟨md2, ed2, cap2, f2, q1, q2, q3, q4, q5, q6, q7⟩ := LQ_some hL (by omega)
        rw [hjl] at q1 q4 q7
        have hq7 := q7 (j - 1) (by omega)
        rw [getD_take (by omega)] at hq7
        have hrj := (hrw (j - 1) (by omega)).1
        refine kV_a (A := A) (b := pa) (As := [.int (nI (j - 1))]) (rest := []) ⟨hx, hb, hml, hown, hts⟩ (mJx4a65c_get_915e3 (A := A) (j := j - 1) (n := j) (f := f2) (cap := cap2) (md := md2) (ed := ed2) (by omega) q4 (by omega) hq7) (cwV 1 hts (gV tw_5_152 tw_5_153 tw_5_154 tw_1_11 tw_5_155) rfl rfl rfl (by decide +kernel) ⟨Nat.le_of_ble_eq_true rfl, Nat.le_of_ble_eq_true rfl⟩) hC hS hA (LQ_recv hK hL) ⟨q1, q2⟩ rfl rfl hl.1 (Nat.le_of_ble_eq_true rfl) ⟨Nat.le_trans (show CC ≤ 123 by omega) (Nat.le_of_ble_eq_true rfl), Nat.le_trans (show SS9 ≤ 9214 by omega) (Nat.le_of_ble_eq_true rfl)⟩ dX4_pieces_86 (fun a_8 ha_8 => ?_)
        have e7 : a_8 = PE.getD (j - 1) 0 := ha_8
        subst e7
        refine va_castA (D := G.1) hx hb hown (hts _ tw_5_164) (at_P hrj.fst) 0 rfl (findIA hK) dX4_pieces_89 ?_
        have hrj1 := hrj.ia hC.2.1.2
        have hok := (hEE ▸ comE_ok t : okE t E) (j - 1) (by omega)
        have hcl9 := cutL_len (t := t) (i := bgE E (j - 1)) (j := E.getD (j - 1) 0) hok.2
        have hcle := cutL_le t (bgE E (j - 1)) (E.getD (j - 1) 0)
        refine h_ilen hx hb hC.2.1 hrj1 dX4_pieces_92 ?_
        refine z_ne (tgt := 110) hx hb dX4_pieces_93 (by decide) (by omega) (fun c_9 => ?_) (fun c_9 => ?_)
        · refine lv_aload_n hx hb dX4_pieces_110 rfl (lv_at hl 1 rfl) ?_
          exact q_a hx hb hr (Or.inl ⟨_, rfl⟩) hlocks dX4_pieces_111 hS (by omega) (by omega) ⟨E.take j, PE.take j, ⟨j, by rw [← hEE]; exact hjE, by rw [← hEE], by rw [← hEE]; exact (Or.inr ⟨he1, hem, fun _ q => c_9 (by omega)⟩)⟩, hL, by rw [List.length_take, List.length_take, hpl], hpsz, fun i hi => by rw [List.length_take] at hi; rw [getD_take (by omega), getD_take (by omega), bgE_take (by omega)]; exact hrw i (by omega)⟩
        · refine lv_aload_n hx hb dX4_pieces_96 rfl (lv_at hl 1 rfl) ?_
          refine lv_aload_n hx hb dX4_pieces_97 rfl (lv_at hl 1 rfl) ?_
          refine kV_i (A := A) (b := pa) (As := []) (rest := .ref pa :: []) ⟨hx, hb, hml, hown, hts⟩ (mJx4a65c_size_8abf5 (A := A) (ed := ed) (n := j) (md := md) (by omega)) (cwV 0 hts (gV tw_5_148 tw_5_149 tw_5_150 tw_1_11 tw_5_151) rfl rfl rfl (by decide +kernel) ⟨Nat.le_of_ble_eq_true rfl, Nat.le_of_ble_eq_true rfl⟩) hC hS hA (LQ_recv hK hL) hO rfl rfl hl.1 (Nat.le_of_ble_eq_true rfl) ⟨Nat.le_trans (show CC ≤ 123 by omega) (Nat.le_of_ble_eq_true rfl), Nat.le_trans (show SS9 ≤ 9214 by omega) (Nat.le_of_ble_eq_true rfl)⟩ dX4_pieces_98 (fun r9 h9 => lv_cv h9 ?_)
          refine lv_iconst (v := nI 1) hx hb dX4_pieces_101 (by decide) ?_
          refine lv_isub hx hb dX4_pieces_102 ?_
          refine lv_cv (pk_sub (a := j) (b := 1) (by omega)) ?_
          have etk : PE.take j = PE.take (j - 1) ++ [PE.getD (j - 1) 0] := take_s (by omega) hj1
          have hjm : (PE.take (j - 1)).length = j - 1 := by rw [List.length_take]; omega
          rw [etk] at hL
          refine lv_cv (show nI (j - 1) = nI (PE.take (j - 1)).length from by rw [hjm]) ?_
          refine qR_V (A := A) (A1 := (fun q9 => A q9 ∧ ¬ ∃ t9, IA0 G q9 t9 H)) (b := pa) (As := [.int (nI ((PE.take (j - 1)).length))]) (rest := []) ⟨hx, hb, hml, hown, hts⟩ (mJx4a65c_remove_915e3 (A := (fun q9 => A q9 ∧ ¬ ∃ t9, IA0 G q9 t9 H)) (pe := PE.take (j - 1)) (x9 := PE.getD (j - 1) 0) (LQ_A hK hL hAp)) (cwV 1 hts (gV tw_5_165 tw_5_166 tw_5_167 tw_1_11 tw_5_168) rfl rfl rfl (by decide +kernel) ⟨Nat.le_of_ble_eq_true rfl, Nat.le_of_ble_eq_true rfl⟩) hC hS (fun _ h => h.1) (fun q h => ⟨hA q (Nat.le_trans hS.1 h), fun ⟨t9, z9⟩ => by have := z9.lt; omega⟩) (LQ_recv hK hL) (LQ_sub hK hL) rfl rfl hl.1 (Nat.le_of_ble_eq_true rfl) ⟨Nat.le_trans (show CC ≤ 123 by omega) (Nat.le_of_ble_eq_true rfl), Nat.le_trans (show SS9 ≤ 9214 by omega) (Nat.le_of_ble_eq_true rfl)⟩ dX4_pieces_103 (fun rv10 H10 L10 hP10 hk10 hS => ?_)
          have hZ10 := hS.1
          refine lv_pop hx hb dX4_pieces_106 rfl ?_
          refine lv_goto (tgt := 68) hx hb dX4_pieces_107 (by decide) ?_
          exact ih (j - 1) (by omega) ls H10 L10 (lv_sub hl [0, 1] rfl) hS (LQ_mono (fun _ h => h.1) hP10) (fun i hi => ⟨(hrw i hi).1.kp hk10 (fun z => z.2 ⟨_, (hrw i hi).1⟩), (hrw i hi).2⟩) (by omega) (fun _ => c_6) (fun k h1 h2 => by rcases Nat.lt_or_ge k j with q | q; rw [show k = j - 1 by omega]; omega; exact hem k q h2)
  · refine lv_aload_n hx hb dX4_pieces_22 rfl (lv_at hl 4 rfl) ?_
    refine lv_iload hx hb dX4_pieces_23 (lv_at hl 0 rfl) ?_
    refine h_ild hx hb hC.2.1 hR1 (i := j) (by omega) (by omega) dX4_pieces_25 ?_
    refine lv_bipush (v := nI 44) hx hb dX4_pieces_26 (by decide) ?_
    have ok9 := tok j
    refine b_ne (tgt := 50) hx hb dX4_pieces_28 (by decide) (by omega) (by omega) (fun c_11 => ?_) (fun c_11 => ?_)
    · refine lv_iinc (v := nI (j + 1)) (lv' := [(4, .int (nI (j + 1))), (3, .int (bI b)), (2, .int (nI (bgE e9 e9.length))), (1, .ref pa), (0, .ref a)]) hx hb dX4_pieces_50 hl (k := 0) rfl (nI_add j 1) (by decide) rfl (fun ls hl => ?_)
      refine lv_goto (tgt := 15) hx hb dX4_pieces_53 (by decide) ?_
      refine W.widen (k := 1 + (j + 1) * 2) (n := 3 + (j + 1) * 151) (by omega) (by omega) ?_
      exact ih (j + 1) (by omega) (by omega) ls H L e9 pe b (lv_sub hl [0, 1, 2, 3, 4] rfl) hS hR hL hpl hrw (by rw [← hEE, comE_ne (by omega) c_11]) (by omega) hb9
    · refine lv_aload_n hx hb dX4_pieces_31 rfl (lv_at hl 3 rfl) ?_
      refine lv_aload_n hx hb dX4_pieces_32 rfl (lv_at hl 4 rfl) ?_
      refine lv_iload_n hx hb dX4_pieces_33 rfl (lv_at hl 2 rfl) ?_
      refine lv_iload hx hb dX4_pieces_34 (lv_at hl 0 rfl) ?_
      have hra9 := hR.lt
      refine qR_S (A := A) (A1 := nw H.size)  (As := [.ref a, .int (nI (bgE e9 e9.length)), .int (nI j)]) (rest := .ref pa :: []) ⟨hx, hb, hml, hown, hts⟩ (mX4_cut (A := nw H.size) (sz := H.size) (t := t) (i := bgE e9 e9.length) (i2 := j) hbg (by omega) (by omega)) (va_cwS 3 hts (gS tw_4_226 tw_4_227 tw_1_8 tw_4_228) rfl rfl rfl (by decide +kernel) ⟨Nat.le_of_ble_eq_true rfl, Nat.le_of_ble_eq_true rfl⟩) hC hS (nw_in hA hS.1) nw_n  ⟨rfl, hR1⟩ rfl rfl hl.1 (Nat.le_of_ble_eq_true rfl) ⟨Nat.le_trans (show (1 + j * 2) + 1 ≤ 123 by omega) (Nat.le_of_ble_eq_true rfl), Nat.le_trans (show (3 + j * 151) + 61 ≤ 9214 by omega) (Nat.le_of_ble_eq_true rfl)⟩ dX4_pieces_36 (fun rv12 H12 L12 hP12 hk12 hS => ?_)
      have hZ12 := hS.1
      have hN := hP12.2
      have hNz := hP12.1
      have hR := hR.kp hk12 (Nat.not_le_of_lt hR.lt)
      have hL : LQ G A pa pe H12 := LQ_kp hL hk12 (fun q hq => Nat.not_le_of_lt hq)
      have hrw : ∀ i : Nat, i < e9.length → IA0 G (pe.getD i 0) (cutL t (bgE e9 i) (e9.getD i 0)) H12 ∧ sz ≤ pe.getD i 0 := fun i hi => ⟨(hrw i hi).1.kp hk12 (Nat.not_le_of_lt (hrw i hi).1.lt), (hrw i hi).2⟩
      refine qI_V (A := A) (A1 := (fun q9 => A q9 ∧ ¬ ∃ t9, IA0 G q9 t9 H12)) (b := pa) (As := [.ref rv12]) (rest := []) ⟨hx, hb, hml, hown, hts⟩ (mJx4a65c_add_9ea2d (A := (fun q9 => A q9 ∧ ¬ ∃ t9, IA0 G q9 t9 H12)) (pe := pe) (t := cutL t (bgE e9 e9.length) j) (LQ_A hK hL hAp) (by omega)) (cwV 1 hts (gV tw_5_85 tw_5_86 tw_5_87 tw_1_11 tw_5_88) rfl rfl rfl (by decide +kernel) ⟨Nat.le_of_ble_eq_true rfl, Nat.le_of_ble_eq_true rfl⟩) hC hS (fun _ h => h.1) (fun q h => ⟨hA q (Nat.le_trans hS.1 h), fun ⟨t9, z9⟩ => by have := z9.lt; omega⟩) (LQ_recv hK hL) ⟨LQ_sub hK hL, fun i hi => ⟨_, (hrw i (by omega)).1⟩, hN⟩ rfl rfl hl.1 (Nat.le_of_ble_eq_true rfl) ⟨Nat.le_trans (show ((1 + j * 2) + 1) + 1 ≤ 123 by omega) (Nat.le_of_ble_eq_true rfl), Nat.le_trans (show ((3 + j * 151) + 61) + 90 ≤ 9214 by omega) (Nat.le_of_ble_eq_true rfl)⟩ dX4_pieces_39 (fun rv13 H13 L13 hP13 hk13 hS => ?_)
      have hZ13 := hS.1
      have hL : LQ G A pa (pe ++ [rv12]) H13 := LQ_mono (fun _ h => h.1) hP13.2
      have hR := hR.kp hk13 (fun q => q.2 ⟨_, hR⟩)
      have hrw : ∀ i : Nat, i < (e9 ++ [j]).length → IA0 G ((pe ++ [rv12]).getD i 0) (cutL t (bgE (e9 ++ [j]) i) ((e9 ++ [j]).getD i 0)) H13 ∧ sz ≤ (pe ++ [rv12]).getD i 0 := fun i hi => by rw [List.length_append] at hi; have hi : i < e9.length + 1 := hi; rw [bgE_app (by omega)]; rcases Nat.lt_or_ge i e9.length with q | q; rw [getD_app1 q, getD_app1 (by omega)]; exact ⟨(hrw i q).1.kp hk13 (fun z => z.2 ⟨_, (hrw i q).1⟩), (hrw i q).2⟩; rw [show i = e9.length by omega, getD_last, ← hpl, getD_last, hpl]; exact ⟨hN.kp hk13 (fun z => z.2 ⟨_, hN⟩), by omega⟩
      have hpl : (pe ++ [rv12]).length = (e9 ++ [j]).length := by rw [List.length_append, List.length_append, hpl]; rfl
      refine lv_pop hx hb dX4_pieces_42 rfl ?_
      refine lv_iload hx hb dX4_pieces_43 (lv_at hl 0 rfl) ?_
      refine lv_iconst (v := nI 1) hx hb dX4_pieces_45 (by decide) ?_
      refine lv_iadd hx hb dX4_pieces_46 ?_
      refine lv_cv (nI_add j 1) ?_
      refine lv_istore_n (lv' := [(2, .int (nI (j + 1))), (4, .int (nI j)), (3, .int (bI b)), (1, .ref pa), (0, .ref a)]) hx hb dX4_pieces_47 rfl hl (by decide) rfl (fun ls hl => ?_)
      refine lv_iconst (v := bI true) hx hb dX4_pieces_48 (by decide) ?_
      refine lv_istore_n (lv' := [(3, .int (bI true)), (2, .int (nI (j + 1))), (4, .int (nI j)), (1, .ref pa), (0, .ref a)]) hx hb dX4_pieces_49 rfl hl (by decide) rfl (fun ls hl => ?_)
      refine lv_iinc (v := nI (j + 1)) (lv' := [(4, .int (nI (j + 1))), (3, .int (bI true)), (2, .int (nI (j + 1))), (1, .ref pa), (0, .ref a)]) hx hb dX4_pieces_50 hl (k := 2) rfl (nI_add j 1) (by decide) rfl (fun ls hl => ?_)
      refine lv_goto (tgt := 15) hx hb dX4_pieces_53 (by decide) ?_
      refine W.widen (k := 1 + (j + 1) * 2) (n := 3 + (j + 1) * 151) (by omega) (by omega) ?_
      have ebg : bgE (e9 ++ [j]) (e9 ++ [j]).length = j + 1 := by rw [List.length_append]; show (e9 ++ [j]).getD e9.length 0 + 1 = j + 1; rw [getD_last]
      have hl : lv_has ls 5 [(4, .int (nI (j + 1))), (3, .int (bI true)), (2, .int (nI (bgE (e9 ++ [j]) (e9 ++ [j]).length))), (1, .ref pa), (0, .ref a)] := by rw [ebg]; exact (lv_sub hl [0, 1, 2, 3, 4] rfl)
      exact ih (j + 1) (by omega) (by omega) ls H13 L13 (e9 ++ [j]) (pe ++ [rv12]) true (lv_sub hl [0, 1, 2, 3, 4] rfl) hS hR hL hpl hrw (by rw [← hEE, comE_eq (by omega) c_11, List.append_assoc]; rfl) (by rw [ebg]; exact Nat.le_refl _) ⟨fun _ => by rw [List.length_append]; exact Nat.succ_pos _, fun _ => rfl⟩
end
/-! 57.mod18 -/
section
/-! The model, 18: pieces kept and asked for -/
/-- the pieces that the ends es cut out of t -/
def pcL (t es : List Nat) : List (List Nat) := (List.range es.length).map (fun i => cutL t (bgE es i) (es.getD i 0))
theorem pcL_len {t es : List Nat} : (pcL t es).length = es.length := by unfold pcL; rw [List.length_map, List.length_range]
theorem pcL_get {t es : List Nat} {i : Nat} (h : i < es.length) : (pcL t es).getD i [] = cutL t (bgE es i) (es.getD i 0) := by
  unfold pcL
  rw [List.getD_eq_getElem?_getD, List.getElem?_map, List.getElem?_range h]
  rfl
theorem pcL_ok {t es : List Nat} (ht : okc t) (h60 : t.length ≤ 60) (i : Nat) : okc ((pcL t es).getD i []) ∧ ((pcL t es).getD i []).length ≤ 60 := by
  rcases Nat.lt_or_ge i es.length with q | q
  · rw [pcL_get q]; exact ⟨okc_cut ht _ _, Nat.le_trans (cutL_le _ _ _) h60⟩
  · rw [List.getD_eq_getElem?_getD, List.getElem?_eq_none (by rw [pcL_len]; exact q)]; exact ⟨okc_nil, Nat.zero_le _⟩
theorem isCut_le {t es : List Nat} (h : isCut t es) (h60 : t.length ≤ 60) : es.length ≤ 61 := by
  obtain ⟨n, -, rfl, -⟩ := h
  have := comE_len t 0
  rw [List.length_take]; omega
section MWS5
variable {G : Cx} {A : Nat → Prop} {am xa : Nat} {X : Nat → List Nat} {P : List (List Nat)} {k th : Int32} {H H1 : Heap} {s : State}
theorem MWx_pc {ra pa : Nat} {tx : Nat → Nat} (h : MWx G A am xa ra pa tx X P k th H) {j : Nat} (hj : j < P.length) : ∃ (md : Int32) (ed cap : Nat) (f : Nat → Option Nat) (q : Nat), va_at G.1 vwCl (pa, .inr (3, [.int md, .ref ed, .int (nI P.length)])) H ∧ va_at G.1 vwCl (ed, .inl (G.2.1 5, cap, .inr (.inr (.inr (.inr f))))) H ∧ P.length ≤ cap ∧ cap < 2 ^ 20 ∧ f j = some q ∧ IA0 G q (P.getD j []) H := by
  obtain ⟨h0, ⟨e, md, h9⟩ | ⟨md, ed, cap, f, pe, h1, h2, h3, h4, h5, h6⟩⟩ := h.2.2.2.2.2.2.2.2.2.2.2
  · subst e; exact absurd hj (Nat.not_lt_zero j)
  · exact ⟨md, ed, cap, f, pe j, h1, h2, h4, h5, (h6 j hj).1, (h6 j hj).2.1⟩
/-- a fresh list becomes the pieces -/
theorem MWx_cut {ra pa : Nat} {tx : Nat → Nat} (hK : va_K G.1 vwCl (tyL G.2.1) s) (h : MWx G A am xa ra pa tx X P k th H) {H2 : Heap} {p2 : Nat} {pe : List Nat} {P2 : List (List Nat)} (hk : kp (nw H.size) H H2) (hpn : H.size ≤ p2) (hAp : A p2) (hL : LQ G A p2 pe H2) (hpl : pe.length = P2.length) (h61 : P2.length ≤ 61) (hrw : ∀ j : Nat, j < P2.length → IA0 G (pe.getD j 0) (P2.getD j []) H2 ∧ H.size ≤ pe.getD j 0) (hO : va_at G.1 vwCl (am, .inr (8, [.int th, .ref xa, .ref ra, .ref p2, .int k])) H1) (oq : ∀ q : Nat, q ≠ am → H1[q]? = H2[q]?) (hok : ∀ j : Nat, okc (P2.getD j []) ∧ (P2.getD j []).length ≤ 60) : MWx G A am xa ra p2 tx X P2 k th H1 := by
  have hO0 := h.obj
  obtain ⟨a1, a2, a3, a4, b1, b2, b3, b4, b5, b6, b7, b8⟩ := h
  have hne : ∀ (q : Nat) (fs : ClassId × vp_A) (t0 : Nat) (ty : FieldType), va_at G.1 vwCl (q, .inl fs) H → (tyL G.2.1)[t0]? = some (fs.1, ty) → q ≠ am := fun q fs t0 ty hq ht => Ne.symm (at_ne_oa hK hO0 (r := (RX4, TX4, 5)) rfl hq t0 ht)
  have hq : ∀ q : Nat, q < H.size → q ≠ am → H1[q]? = H[q]? := fun q h1 h2 => (oq q h2).trans (hk.2 q h1 (Nat.not_le_of_lt h1))
  have hI : ∀ {q : Nat} {t : List Nat}, IA0 G q t H → IA0 G q t H1 := fun {q t} hz => by
    obtain ⟨f, q1, q2⟩ := hz
    exact ⟨f, q1.kept (hq _ q1.lt (hne q _ 0 _ q1 rfl)), q2⟩
  have ham := b4.lt
  have hO2 : va_at G.1 vwCl (am, .inr (8, [.int th, .ref xa, .ref ra, .ref pa, .int k])) H2 := at_kp hO0 hk (Nat.not_le_of_lt ham)
  have hra := b7.lt
  refine ⟨a1, a2, a3, hok, b1, hAp, by omega, hO, b5.kept (hq _ b5.lt (hne xa _ 4 _ b5 rfl)), fun j hj => ⟨hI (b6 j hj).1, (b6 j hj).2⟩, hI b7, h61, ?_⟩
  rcases hL with ⟨he, md, h⟩ | ⟨md, ed, cap, f, q1, q2, q3, q4, q5, q6, q7⟩
  · subst he
    have hz : P2 = [] := List.length_eq_zero_iff.mp hpl.symm
    exact Or.inl ⟨hz, md, at_o h oq (by omega)⟩
  · rw [hpl] at q1 q4 q7
    exact Or.inr ⟨md, ed, cap, f, fun j => pe.getD j 0, at_o q1 oq (by omega), at_o q2 oq (Ne.symm (at_ne_oa hK hO2 (r := (RX4, TX4, 5)) rfl q2 5 rfl)), q3, q4, q6, fun j hj => ⟨q7 j hj, (hrw j hj).1.o oq (by have := (hrw j hj).2; show pe.getD j 0 ≠ am; omega), by have := (hrw j hj).2; show pe.getD j 0 ≠ ra; omega⟩⟩
end MWS5
theorem dX4_cut__0 : decode cX4_cut_ 0 = .ok (.aload_n 0, 1) := by decide +kernel
theorem dX4_cut__1 : decode cX4_cut_ 1 = .ok (.iload_n 1, 1) := by decide +kernel
theorem dX4_cut__2 : decode cX4_cut_ 2 = .ok (.invokestatic 107, 3) := by decide +kernel
theorem dX4_cut__5 : decode cX4_cut_ 5 = .ok (.iconst 1, 1) := by decide +kernel
theorem dX4_cut__6 : decode cX4_cut_ 6 = .ok (.invokevirtual 110, 3) := by decide +kernel
theorem dX4_cut__9 : decode cX4_cut_ 9 = .ok (.ifCond .eq 5, 3) := by decide +kernel
theorem dX4_cut__12 : decode cX4_cut_ 12 = .ok (.iconst 0, 1) := by decide +kernel
theorem dX4_cut__13 : decode cX4_cut_ 13 = .ok (.ireturn, 1) := by decide +kernel
theorem dX4_cut__14 : decode cX4_cut_ 14 = .ok (.aload_n 0, 1) := by decide +kernel
theorem dX4_cut__15 : decode cX4_cut_ 15 = .ok (.aload_n 0, 1) := by decide +kernel
theorem dX4_cut__16 : decode cX4_cut_ 16 = .ok (.getfield 72, 3) := by decide +kernel
theorem dX4_cut__19 : decode cX4_cut_ 19 = .ok (.iload_n 1, 1) := by decide +kernel
theorem dX4_cut__20 : decode cX4_cut_ 20 = .ok (.aaload, 1) := by decide +kernel
theorem dX4_cut__21 : decode cX4_cut_ 21 = .ok (.invokestatic 141, 3) := by decide +kernel
theorem dX4_cut__24 : decode cX4_cut_ 24 = .ok (.putfield 78, 3) := by decide +kernel
theorem dX4_cut__27 : decode cX4_cut_ 27 = .ok (.aload_n 0, 1) := by decide +kernel
theorem dX4_cut__28 : decode cX4_cut_ 28 = .ok (.getfield 78, 3) := by decide +kernel
theorem dX4_cut__31 : decode cX4_cut_ 31 = .ok (.invokevirtual 54, 3) := by decide +kernel
theorem dX4_cut__34 : decode cX4_cut_ 34 = .ok (.ireturn, 1) := by decide +kernel
theorem dX4_isNoPiece_0 : decode cX4_isNoPiece 0 = .ok (.iload_n 1, 1) := by decide +kernel
theorem dX4_isNoPiece_1 : decode cX4_isNoPiece 1 = .ok (.iconst 0, 1) := by decide +kernel
theorem dX4_isNoPiece_2 : decode cX4_isNoPiece 2 = .ok (.aload_n 0, 1) := by decide +kernel
theorem dX4_isNoPiece_3 : decode cX4_isNoPiece 3 = .ok (.getfield 78, 3) := by decide +kernel
theorem dX4_isNoPiece_6 : decode cX4_isNoPiece 6 = .ok (.invokevirtual 54, 3) := by decide +kernel
theorem dX4_isNoPiece_9 : decode cX4_isNoPiece 9 = .ok (.iconst 1, 1) := by decide +kernel
theorem dX4_isNoPiece_10 : decode cX4_isNoPiece 10 = .ok (.isub, 1) := by decide +kernel
theorem dX4_isNoPiece_11 : decode cX4_isNoPiece 11 = .ok (.invokestatic 90, 3) := by decide +kernel
theorem dX4_isNoPiece_14 : decode cX4_isNoPiece 14 = .ok (.ifCond .ne 7, 3) := by decide +kernel
theorem dX4_isNoPiece_17 : decode cX4_isNoPiece 17 = .ok (.iconst 1, 1) := by decide +kernel
theorem dX4_isNoPiece_18 : decode cX4_isNoPiece 18 = .ok (.goto 4, 3) := by decide +kernel
theorem dX4_isNoPiece_21 : decode cX4_isNoPiece 21 = .ok (.iconst 0, 1) := by decide +kernel
theorem dX4_isNoPiece_22 : decode cX4_isNoPiece 22 = .ok (.ireturn, 1) := by decide +kernel
theorem dX4_takePiece_0 : decode cX4_takePiece 0 = .ok (.aload_n 0, 1) := by decide +kernel
theorem dX4_takePiece_1 : decode cX4_takePiece 1 = .ok (.aload_n 0, 1) := by decide +kernel
theorem dX4_takePiece_2 : decode cX4_takePiece 2 = .ok (.iload_n 1, 1) := by decide +kernel
theorem dX4_takePiece_3 : decode cX4_takePiece 3 = .ok (.invokevirtual 144, 3) := by decide +kernel
theorem dX4_takePiece_6 : decode cX4_takePiece 6 = .ok (.ifCond .ne 10, 3) := by decide +kernel
theorem dX4_takePiece_9 : decode cX4_takePiece 9 = .ok (.iload_n 2, 1) := by decide +kernel
theorem dX4_takePiece_10 : decode cX4_takePiece 10 = .ok (.invokestatic 107, 3) := by decide +kernel
theorem dX4_takePiece_13 : decode cX4_takePiece 13 = .ok (.ifCond .eq 7, 3) := by decide +kernel
theorem dX4_takePiece_16 : decode cX4_takePiece 16 = .ok (.iconst 1, 1) := by decide +kernel
theorem dX4_takePiece_17 : decode cX4_takePiece 17 = .ok (.goto 4, 3) := by decide +kernel
theorem dX4_takePiece_20 : decode cX4_takePiece 20 = .ok (.iconst 0, 1) := by decide +kernel
theorem dX4_takePiece_21 : decode cX4_takePiece 21 = .ok (.iconst 1, 1) := by decide +kernel
theorem dX4_takePiece_22 : decode cX4_takePiece 22 = .ok (.invokevirtual 110, 3) := by decide +kernel
theorem dX4_takePiece_25 : decode cX4_takePiece 25 = .ok (.ifCond .eq 7, 3) := by decide +kernel
theorem dX4_takePiece_28 : decode cX4_takePiece 28 = .ok (.iconst 0, 1) := by decide +kernel
theorem dX4_takePiece_29 : decode cX4_takePiece 29 = .ok (.goto 35, 3) := by decide +kernel
theorem dX4_takePiece_32 : decode cX4_takePiece 32 = .ok (.aload_n 0, 1) := by decide +kernel
theorem dX4_takePiece_33 : decode cX4_takePiece 33 = .ok (.iload_n 2, 1) := by decide +kernel
theorem dX4_takePiece_34 : decode cX4_takePiece 34 = .ok (.aload_n 0, 1) := by decide +kernel
theorem dX4_takePiece_35 : decode cX4_takePiece 35 = .ok (.getfield 78, 3) := by decide +kernel
theorem dX4_takePiece_38 : decode cX4_takePiece 38 = .ok (.iload_n 1, 1) := by decide +kernel
theorem dX4_takePiece_39 : decode cX4_takePiece 39 = .ok (.invokevirtual 58, 3) := by decide +kernel
theorem dX4_takePiece_42 : decode cX4_takePiece 42 = .ok (.checkcast 62, 3) := by decide +kernel
theorem dX4_takePiece_45 : decode cX4_takePiece 45 = .ok (.iconst 0, 1) := by decide +kernel
theorem dX4_takePiece_46 : decode cX4_takePiece 46 = .ok (.aload_n 0, 1) := by decide +kernel
theorem dX4_takePiece_47 : decode cX4_takePiece 47 = .ok (.getfield 78, 3) := by decide +kernel
theorem dX4_takePiece_50 : decode cX4_takePiece 50 = .ok (.iload_n 1, 1) := by decide +kernel
theorem dX4_takePiece_51 : decode cX4_takePiece 51 = .ok (.invokevirtual 58, 3) := by decide +kernel
theorem dX4_takePiece_54 : decode cX4_takePiece 54 = .ok (.checkcast 62, 3) := by decide +kernel
theorem dX4_takePiece_57 : decode cX4_takePiece 57 = .ok (.arraylength, 1) := by decide +kernel
theorem dX4_takePiece_58 : decode cX4_takePiece 58 = .ok (.invokestatic 31, 3) := by decide +kernel
theorem dX4_takePiece_61 : decode cX4_takePiece 61 = .ok (.invokevirtual 113, 3) := by decide +kernel
theorem dX4_takePiece_64 : decode cX4_takePiece 64 = .ok (.ireturn, 1) := by decide +kernel
theorem dX4_isPiece_0 : decode cX4_isPiece 0 = .ok (.aload_n 0, 1) := by decide +kernel
theorem dX4_isPiece_1 : decode cX4_isPiece 1 = .ok (.aload_n 0, 1) := by decide +kernel
theorem dX4_isPiece_2 : decode cX4_isPiece 2 = .ok (.iload_n 1, 1) := by decide +kernel
theorem dX4_isPiece_3 : decode cX4_isPiece 3 = .ok (.invokevirtual 144, 3) := by decide +kernel
theorem dX4_isPiece_6 : decode cX4_isPiece 6 = .ok (.ifCond .ne 10, 3) := by decide +kernel
theorem dX4_isPiece_9 : decode cX4_isPiece 9 = .ok (.iload_n 2, 1) := by decide +kernel
theorem dX4_isPiece_10 : decode cX4_isPiece 10 = .ok (.invokestatic 107, 3) := by decide +kernel
theorem dX4_isPiece_13 : decode cX4_isPiece 13 = .ok (.ifCond .eq 7, 3) := by decide +kernel
theorem dX4_isPiece_16 : decode cX4_isPiece 16 = .ok (.iconst 1, 1) := by decide +kernel
theorem dX4_isPiece_17 : decode cX4_isPiece 17 = .ok (.goto 4, 3) := by decide +kernel
theorem dX4_isPiece_20 : decode cX4_isPiece 20 = .ok (.iconst 0, 1) := by decide +kernel
theorem dX4_isPiece_21 : decode cX4_isPiece 21 = .ok (.iconst 1, 1) := by decide +kernel
theorem dX4_isPiece_22 : decode cX4_isPiece 22 = .ok (.invokevirtual 110, 3) := by decide +kernel
theorem dX4_isPiece_25 : decode cX4_isPiece 25 = .ok (.ifCond .ne 31, 3) := by decide +kernel
theorem dX4_isPiece_28 : decode cX4_isPiece 28 = .ok (.aload_n 0, 1) := by decide +kernel
theorem dX4_isPiece_29 : decode cX4_isPiece 29 = .ok (.getfield 78, 3) := by decide +kernel
theorem dX4_isPiece_32 : decode cX4_isPiece 32 = .ok (.iload_n 1, 1) := by decide +kernel
theorem dX4_isPiece_33 : decode cX4_isPiece 33 = .ok (.invokevirtual 58, 3) := by decide +kernel
theorem dX4_isPiece_36 : decode cX4_isPiece 36 = .ok (.checkcast 62, 3) := by decide +kernel
theorem dX4_isPiece_39 : decode cX4_isPiece 39 = .ok (.aload_n 0, 1) := by decide +kernel
theorem dX4_isPiece_40 : decode cX4_isPiece 40 = .ok (.getfield 72, 3) := by decide +kernel
theorem dX4_isPiece_43 : decode cX4_isPiece 43 = .ok (.iload_n 2, 1) := by decide +kernel
theorem dX4_isPiece_44 : decode cX4_isPiece 44 = .ok (.aaload, 1) := by decide +kernel
theorem dX4_isPiece_45 : decode cX4_isPiece 45 = .ok (.iconst 0, 1) := by decide +kernel
theorem dX4_isPiece_46 : decode cX4_isPiece 46 = .ok (.invokestatic 171, 3) := by decide +kernel
theorem dX4_isPiece_49 : decode cX4_isPiece 49 = .ok (.ifCond .eq 7, 3) := by decide +kernel
theorem dX4_isPiece_52 : decode cX4_isPiece 52 = .ok (.iconst 1, 1) := by decide +kernel
theorem dX4_isPiece_53 : decode cX4_isPiece 53 = .ok (.goto 4, 3) := by decide +kernel
theorem dX4_isPiece_56 : decode cX4_isPiece 56 = .ok (.iconst 0, 1) := by decide +kernel
theorem dX4_isPiece_57 : decode cX4_isPiece 57 = .ok (.ireturn, 1) := by decide +kernel
abbrev rmX4_cut_ : Room := { frames := 8, cells := 123, slots := 9214, locals := 215 }
theorem mX4_cut_ {l : Launch} {G : Cx} {A : Nat → Prop} {am xa : Nat} {X : Nat → List Nat} {P : List (List Nat)} {k : Int32} {x th : Int32} : Met l yX4_cut_ (.code yX4_cut_ cX4_cut_ 2 (some .int) :: GW) rmX4_cut_ (PC G A [.ref am, .int x] (MW G A am xa X P k th)) (qI A (fun r H => ((NT x) ∧ r = 0 ∧ MW G A am xa X P k 1 H) ∨ ∃ (i : Nat) (es1 : List Nat), i < 4 ∧ x = nI i ∧ isCut (X i) es1 ∧ r = nI es1.length ∧ MW G A am xa X (pcL (X i) es1) k 0 H)) 123 9214 (A) := by
  refine mstart "SigntextModel" (by decide +kernel) rfl (Nat.le_of_ble_eq_true rfl) ?_
  intro p e s m below meth c ls hx hb hr hts hown hml hlocks hname hC hA hW hl
  have hl : lv_has ls 2 [(0, .ref am), (1, .int x)] := hl
  have hK := hC.1
  have hS : va_S A s.heap s.heap [] := va_S.rf
  obtain ⟨ra, pa, tx, hW⟩ := hW
  have hO := hW.obj
  have hAm := hW.1
  refine lv_aload_n hx hb dX4_cut__0 rfl (lv_at hl 0 rfl) ?_
  refine lv_iload_n hx hb dX4_cut__1 rfl (lv_at hl 1 rfl) ?_
  refine kS_i (A := A) (As := [.int x]) (rest := .ref am :: []) ⟨hx, hb, hml, hown, hts⟩ (mX4_isNone (A := A) ) (va_cwS 1 hts (gS tw_4_203 tw_4_204 tw_1_8 tw_4_205) rfl rfl rfl (by decide +kernel) ⟨Nat.le_of_ble_eq_true rfl, Nat.le_of_ble_eq_true rfl⟩) hC hS hA  trivial rfl rfl hl.1 (Nat.le_of_ble_eq_true rfl) ⟨Nat.zero_le _, Nat.zero_le _⟩ dX4_cut__2 (fun r_14 hr_14 => ?_)
  obtain ⟨r_14v, hr_14v, rfl⟩ := hr_14
  refine lv_iconst (v := nI 1) hx hb dX4_cut__5 (by decide) ?_
  cases r_14v
  · obtain ⟨i, hi, rfl⟩ : ∃ i : Nat, i < 4 ∧ x = nI i := Classical.byContradiction (fun q => Bool.noConfusion (hr_14v.mpr q))
    refine qI_V (A := A) (A1 := A) (b := am) (As := [.int (bI false), .int (nI 1)]) (rest := []) ⟨hx, hb, hml, hown, hts⟩ (mX4_start (A := A) (X := X) (P := P) (k := k) (xa := xa) (b := false) (w9 := 1) (by decide)) (cwV 2 hts (gV tw_4_206 tw_4_208 sel_X4_start tw_1_8 tw_4_209) rfl rfl rfl (by decide +kernel) ⟨Nat.le_of_ble_eq_true rfl, Nat.le_of_ble_eq_true rfl⟩) hC hS (fun _ h => h) (fun q h => hA q (Nat.le_trans hS.1 h)) (hW.recv hK) ⟨ra, pa, tx, hW⟩ rfl rfl hl.1 (Nat.le_of_ble_eq_true rfl) ⟨Nat.zero_le _, Nat.zero_le _⟩ dX4_cut__6 (fun rv15 H15 L15 hP15 hk15 hS => ?_)
    have hZ15 := hS.1
    obtain ⟨hr15, hM15⟩ := hP15
    subst hr15
    obtain ⟨ra, pa, tx, hW⟩ := hM15
    have hW : MWx G A am xa ra pa tx X P k (nI 0) H15 := hW
    have hO := hW.obj
    have hAm := hW.1
    refine f_eq (tgt := 14) hx hb dX4_cut__9 (by decide) (fun c_16 => ?_) (fun c_16 => ?_)
    · refine lv_aload_n hx hb dX4_cut__14 rfl (lv_at hl 0 rfl) ?_
      refine lv_aload_n hx hb dX4_cut__15 rfl (lv_at hl 0 rfl) ?_
      refine va_get (D := G.1) (ci := 8) (C := RX4) (T := TX4) (N := 5) hx hb hts inX4 hown hK (at_P hO) 0 rfl rfl 1 (by decide) (hts _ tw_4_173) (fun _ h9 => h9) rfl dX4_cut__16 ?_
      refine lv_iload_n hx hb dX4_cut__19 rfl (lv_at hl 1 rfl) ?_
      refine h_aaldI (D := G.1) hx hb hK 4 hW.txs rfl (vp_in_nI (n := i) (N := 4) (by omega) (by omega)) dX4_cut__20 ?_
      refine v_cv (show va_rf _ = .ref (tx i) from by rw [nI_clamp (n := i) (by omega)]; rfl) ?_
      have x60i := hW.2.2.1 i (Or.inl (by omega))
      have hTi := hW.tx (j := i) (by omega)
      have hW0 := hW
      have ham := hW.obj.lt
      refine qR_S (A := A) (A1 := nw H15.size)  (As := [.ref (tx i)]) (rest := .ref am :: []) ⟨hx, hb, hml, hown, hts⟩ (mX4_pieces (A := nw H15.size) (sz := H15.size) (t := X i) x60i.1 x60i.2) (va_cwS 1 hts (gS tw_5_82 tw_5_83 tw_1_8 tw_5_84) rfl rfl rfl (by decide +kernel) ⟨Nat.le_of_ble_eq_true rfl, Nat.le_of_ble_eq_true rfl⟩) hC hS (nw_in hA hS.1) nw_n  ⟨rfl, hTi⟩ rfl rfl hl.1 (Nat.le_of_ble_eq_true rfl) ⟨Nat.le_trans (show 0 + 123 ≤ 123 by omega) (Nat.le_of_ble_eq_true rfl), Nat.le_trans (show 0 + 9214 ≤ 9214 by omega) (Nat.le_of_ble_eq_true rfl)⟩ dX4_cut__21 (fun rv17 H17 L17 hP17 hk17 hS => ?_)
      have hZ17 := hS.1
      obtain ⟨es1, pe, hcut, hL, hpl, hpz, hrw⟩ := hP17
      have hW := hW.nw hk17
      have hO := hW.obj
      have hAm := hW.1
      refine h_put (D := G.1) (ci := 8) (C := RX4) (T := TX4) (N := 5) hx hb hts inX4 tyX4 tyX4_ok nmX4 hown hK hO hS hAm rfl 3 (by decide) (hts _ tw_4_175) (fun _ h9 => h9) rfl (tyX4_ok 3 (by decide)) rfl rfl (Nat.le_of_ble_eq_true rfl) dX4_cut__24 (fun H18 L18 hO z18 o18 hS => ?_)
      have hO : va_at G.1 vwCl (am, .inr (8, [.int (nI 0), .ref xa, .ref ra, .ref rv17, .int k])) H18 := hO
      have hZ18 := hS.1
      have hAp2 : A rv17 := hA _ (by omega)
      have hW := MWx_cut hK hW0 hk17 hpz hAp2 (LQ_mono (nw_in hA (by omega)) hL) (P2 := pcL (X i) es1) (by rw [pcL_len]; exact hpl) (by rw [pcL_len]; exact isCut_le hcut x60i.2) (fun j hj => by rw [pcL_len] at hj; rw [pcL_get hj]; exact hrw j hj) hO o18 (fun j => pcL_ok x60i.1 x60i.2 j)
      have hO := hW.obj
      refine lv_aload_n hx hb dX4_cut__27 rfl (lv_at hl 0 rfl) ?_
      refine va_get (D := G.1) (ci := 8) (C := RX4) (T := TX4) (N := 5) hx hb hts inX4 hown hK (at_P hO) 0 rfl rfl 3 (by decide) (hts _ tw_4_175) (fun _ h9 => h9) rfl dX4_cut__28 ?_
      obtain ⟨md, ed, hPa⟩ := MWx_pl hW
      rw [pcL_len] at hPa
      have hle := isCut_le hcut x60i.2
      refine kV_i (A := A) (b := rv17) (As := []) (rest := []) ⟨hx, hb, hml, hown, hts⟩ (mJx4a65c_size_8abf5 (A := A) (ed := ed) (n := es1.length) (md := md) (by omega)) (cwV 0 hts (gV tw_5_148 tw_5_149 tw_5_150 tw_1_11 tw_5_151) rfl rfl rfl (by decide +kernel) ⟨Nat.le_of_ble_eq_true rfl, Nat.le_of_ble_eq_true rfl⟩) hC hS hA (at_recv hK hPa (q := (RJx4a65c, TJx4a65c, 3)) rfl) hPa rfl rfl hl.1 (Nat.le_of_ble_eq_true rfl) ⟨Nat.le_trans (show (0 + 123) ≤ 123 by omega) (Nat.le_of_ble_eq_true rfl), Nat.le_trans (show (0 + 9214) ≤ 9214 by omega) (Nat.le_of_ble_eq_true rfl)⟩ dX4_cut__31 (fun r9 h9 => lv_cv h9 ?_)
      exact q_i hx hb hr hlocks dX4_cut__34 hS (by omega) (by omega) (Or.inr (⟨i, es1, hi, rfl, hcut, rfl, ra, _, tx, hW⟩))
    · exact absurd c_16 (by decide)
  · refine qI_V (A := A) (A1 := A) (b := am) (As := [.int (bI true), .int (nI 1)]) (rest := []) ⟨hx, hb, hml, hown, hts⟩ (mX4_start (A := A) (X := X) (P := P) (k := k) (xa := xa) (b := true) (w9 := 1) (by decide)) (cwV 2 hts (gV tw_4_206 tw_4_208 sel_X4_start tw_1_8 tw_4_209) rfl rfl rfl (by decide +kernel) ⟨Nat.le_of_ble_eq_true rfl, Nat.le_of_ble_eq_true rfl⟩) hC hS (fun _ h => h) (fun q h => hA q (Nat.le_trans hS.1 h)) (hW.recv hK) ⟨ra, pa, tx, hW⟩ rfl rfl hl.1 (Nat.le_of_ble_eq_true rfl) ⟨Nat.zero_le _, Nat.zero_le _⟩ dX4_cut__6 (fun rv19 H19 L19 hP19 hk19 hS => ?_)
    have hZ19 := hS.1
    obtain ⟨hr19, hM19⟩ := hP19
    subst hr19
    obtain ⟨ra, pa, tx, hW⟩ := hM19
    have hW : MWx G A am xa ra pa tx X P k (nI 1) H19 := hW
    have hO := hW.obj
    have hAm := hW.1
    refine f_eq (tgt := 14) hx hb dX4_cut__9 (by decide) (fun c_20 => ?_) (fun c_20 => ?_)
    · exact absurd c_20 (by decide)
    · refine lv_iconst (v := nI 0) hx hb dX4_cut__12 (by decide) ?_
      exact q_i hx hb hr hlocks dX4_cut__13 hS (by omega) (by omega) (Or.inl ⟨(hr_14v.mp rfl), rfl, ra, pa, tx, hW⟩)

abbrev rmX4_isNoPiece : Room := { frames := 2, cells := 0, slots := 0, locals := 40 }
theorem mX4_isNoPiece {l : Launch} {G : Cx} {A : Nat → Prop} {am xa : Nat} {X : Nat → List Nat} {P : List (List Nat)} {k : Int32} {x th : Int32} : Met l yX4_isNoPiece (.code yX4_isNoPiece cX4_isNoPiece 2 (some .boolean) :: GW) rmX4_isNoPiece (PC G A [.ref am, .int x] (MW G A am xa X P k th)) (vp_Si (fun r => ∃ v : Bool, (v = true ↔ ¬ ∃ j : Nat, j < P.length ∧ x = nI j) ∧ r = bI v)) 0 0 (fun _ => False) := by
  refine mstart "SigntextModel" (by decide +kernel) rfl (Nat.le_of_ble_eq_true rfl) ?_
  intro p e s m below meth c ls hx hb hr hts hown hml hlocks hname hC hA hW hl
  have hl : lv_has ls 2 [(0, .ref am), (1, .int x)] := hl
  have hK := hC.1
  have hS : va_S A s.heap s.heap [] := va_S.rf
  obtain ⟨ra, pa, tx, hW⟩ := hW
  have hO := hW.obj
  have hAm := hW.1
  have hp61 := hW.2.2.2.2.2.2.2.2.2.2.2.1
  refine lv_iload_n hx hb dX4_isNoPiece_0 rfl (lv_at hl 1 rfl) ?_
  refine lv_iconst (v := nI 0) hx hb dX4_isNoPiece_1 (by decide) ?_
  refine lv_aload_n hx hb dX4_isNoPiece_2 rfl (lv_at hl 0 rfl) ?_
  refine va_get (D := G.1) (ci := 8) (C := RX4) (T := TX4) (N := 5) hx hb hts inX4 hown hK (at_P hO) 0 rfl rfl 3 (by decide) (hts _ tw_4_175) (fun _ h9 => h9) rfl dX4_isNoPiece_3 ?_
  obtain ⟨md, ed, hPa⟩ := MWx_pl hW
  refine kV_i (A := A) (b := pa) (As := []) (rest := .int (nI 0) :: .int x :: []) ⟨hx, hb, hml, hown, hts⟩ (mJx4a65c_size_8abf5 (A := A) (ed := ed) (n := P.length) (md := md) (by omega)) (cwV 0 hts (gV tw_5_148 tw_5_149 tw_5_150 tw_1_11 tw_5_151) rfl rfl rfl (by decide +kernel) ⟨Nat.le_of_ble_eq_true rfl, Nat.le_of_ble_eq_true rfl⟩) hC hS hA (at_recv hK hPa (q := (RJx4a65c, TJx4a65c, 3)) rfl) hPa rfl rfl hl.1 (Nat.le_of_ble_eq_true rfl) ⟨Nat.zero_le _, Nat.zero_le _⟩ dX4_isNoPiece_6 (fun r9 h9 => lv_cv h9 ?_)
  refine lv_iconst (v := nI 1) hx hb dX4_isNoPiece_9 (by decide) ?_
  refine lv_isub hx hb dX4_isNoPiece_10 ?_
  refine kS_i (A := A) (As := [.int x, .int (nI 0), .int (nI P.length - nI 1)]) (rest := []) ⟨hx, hb, hml, hown, hts⟩ (mX4_isIn (A := A) ) (va_cwS 3 hts (gS tw_4_197 tw_4_198 tw_1_8 tw_4_199) rfl rfl rfl (by decide +kernel) ⟨Nat.le_of_ble_eq_true rfl, Nat.le_of_ble_eq_true rfl⟩) hC hS hA  trivial rfl rfl hl.1 (Nat.le_of_ble_eq_true rfl) ⟨Nat.zero_le _, Nat.zero_le _⟩ dX4_isNoPiece_11 (fun r9 h9 => lv_cv h9 ?_)
  refine f_ne (tgt := 21) hx hb dX4_isNoPiece_14 (by decide) (fun c_21 => ?_) (fun c_21 => ?_)
  · refine lv_iconst (v := nI 0) hx hb dX4_isNoPiece_21 (by decide) ?_
    exact p_z (b := false) hx hb hr hlocks dX4_isNoPiece_22 ⟨false, ⟨fun q => Bool.noConfusion q, fun q => absurd ((rngL (by omega)).mp (of_decide_eq_true c_21)) q⟩, rfl⟩
  · refine lv_iconst (v := nI 1) hx hb dX4_isNoPiece_17 (by decide) ?_
    refine lv_goto (tgt := 22) hx hb dX4_isNoPiece_18 (by decide) ?_
    exact p_z (b := true) hx hb hr hlocks dX4_isNoPiece_22 ⟨true, ⟨fun _ q => absurd ((rngL (by omega)).mpr q) (of_decide_eq_false c_21), fun _ => rfl⟩, rfl⟩

abbrev rmX4_takePiece : Room := { frames := 3, cells := 1, slots := 61, locals := 64 }
theorem mX4_takePiece {l : Launch} {G : Cx} {A : Nat → Prop} {am xa : Nat} {X : Nat → List Nat} {P : List (List Nat)} {k : Int32} {x y th : Int32} : Met l yX4_takePiece (.code yX4_takePiece cX4_takePiece 3 (some .int) :: GW) rmX4_takePiece (PC G A [.ref am, .int x, .int y] (MW G A am xa X P k th)) (qI A (fun r H => (((¬ ∃ j : Nat, j < P.length ∧ x = nI j) ∨ NT y) ∧ r = 0 ∧ MW G A am xa X P k 1 H) ∨ ∃ j i : Nat, j < P.length ∧ x = nI j ∧ i < 4 ∧ y = nI i ∧ r = nI (P.getD j []).length ∧ MW G A am xa (updT X i (P.getD j [])) P k 0 H)) 1 61 (A) := by
  refine mstart "SigntextModel" (by decide +kernel) rfl (Nat.le_of_ble_eq_true rfl) ?_
  intro p e s m below meth c ls hx hb hr hts hown hml hlocks hname hC hA hW hl
  have hl : lv_has ls 3 [(0, .ref am), (1, .int x), (2, .int y)] := hl
  have hK := hC.1
  have hS : va_S A s.heap s.heap [] := va_S.rf
  obtain ⟨ra, pa, tx, hW⟩ := hW
  have hO := hW.obj
  have hAm := hW.1
  have hp61 := hW.2.2.2.2.2.2.2.2.2.2.2.1
  refine lv_aload_n hx hb dX4_takePiece_0 rfl (lv_at hl 0 rfl) ?_
  refine lv_aload_n hx hb dX4_takePiece_1 rfl (lv_at hl 0 rfl) ?_
  refine lv_iload_n hx hb dX4_takePiece_2 rfl (lv_at hl 1 rfl) ?_
  refine kV_i (A := A) (b := am) (As := [.int x]) (rest := .ref am :: []) ⟨hx, hb, hml, hown, hts⟩ (mX4_isNoPiece (A := A) (xa := xa) (X := X) (P := P) (k := k)) (cwV 1 hts (gV tw_5_178 tw_5_180 sel_X4_isNoPiece tw_1_8 tw_5_181) rfl rfl rfl (by decide +kernel) ⟨Nat.le_of_ble_eq_true rfl, Nat.le_of_ble_eq_true rfl⟩) hC hS hA (hW.recv hK) ⟨ra, pa, tx, hW⟩ rfl rfl hl.1 (Nat.le_of_ble_eq_true rfl) ⟨Nat.zero_le _, Nat.zero_le _⟩ dX4_takePiece_3 (fun r_22 hr_22 => ?_)
  obtain ⟨r_22v, hr_22v, rfl⟩ := hr_22
  refine f_ne (tgt := 16) hx hb dX4_takePiece_6 (by decide) (fun c_23 => ?_) (fun c_23 => ?_)
  · refine lv_iconst (v := nI 1) hx hb dX4_takePiece_16 (by decide) ?_
    refine lv_goto (tgt := 21) hx hb dX4_takePiece_17 (by decide) ?_
    refine lv_iconst (v := nI 1) hx hb dX4_takePiece_21 (by decide) ?_
    refine qI_V (A := A) (A1 := A) (b := am) (As := [.int (bI true), .int (nI 1)]) (rest := []) ⟨hx, hb, hml, hown, hts⟩ (mX4_start (A := A) (X := X) (P := P) (k := k) (xa := xa) (b := true) (w9 := 1) (by decide)) (cwV 2 hts (gV tw_4_206 tw_4_208 sel_X4_start tw_1_8 tw_4_209) rfl rfl rfl (by decide +kernel) ⟨Nat.le_of_ble_eq_true rfl, Nat.le_of_ble_eq_true rfl⟩) hC hS (fun _ h => h) (fun q h => hA q (Nat.le_trans hS.1 h)) (hW.recv hK) ⟨ra, pa, tx, hW⟩ rfl rfl hl.1 (Nat.le_of_ble_eq_true rfl) ⟨Nat.zero_le _, Nat.zero_le _⟩ dX4_takePiece_22 (fun rv24 H24 L24 hP24 hk24 hS => ?_)
    have hZ24 := hS.1
    obtain ⟨hr24, hM24⟩ := hP24
    subst hr24
    obtain ⟨ra, pa, tx, hW⟩ := hM24
    have hW : MWx G A am xa ra pa tx X P k (nI 1) H24 := hW
    have hO := hW.obj
    have hAm := hW.1
    refine f_eq (tgt := 32) hx hb dX4_takePiece_25 (by decide) (fun c_25 => ?_) (fun c_25 => ?_)
    · exact absurd c_25 (by decide)
    · refine lv_iconst (v := nI 0) hx hb dX4_takePiece_28 (by decide) ?_
      refine lv_goto (tgt := 64) hx hb dX4_takePiece_29 (by decide) ?_
      exact q_i hx hb hr hlocks dX4_takePiece_64 hS (by omega) (by omega) (Or.inl ⟨(Or.inl (hr_22v.mp c_23)), rfl, ra, pa, tx, hW⟩)
  · obtain ⟨j, hj, rfl⟩ : ∃ j : Nat, j < P.length ∧ x = nI j := Classical.byContradiction (fun q => absurd (hr_22v.mpr q) (by rw [c_23]; decide))
    refine lv_iload_n hx hb dX4_takePiece_9 rfl (lv_at hl 2 rfl) ?_
    refine kS_i (A := A) (As := [.int y]) (rest := .ref am :: []) ⟨hx, hb, hml, hown, hts⟩ (mX4_isNone (A := A) ) (va_cwS 1 hts (gS tw_4_203 tw_4_204 tw_1_8 tw_4_205) rfl rfl rfl (by decide +kernel) ⟨Nat.le_of_ble_eq_true rfl, Nat.le_of_ble_eq_true rfl⟩) hC hS hA  trivial rfl rfl hl.1 (Nat.le_of_ble_eq_true rfl) ⟨Nat.zero_le _, Nat.zero_le _⟩ dX4_takePiece_10 (fun r_26 hr_26 => ?_)
    obtain ⟨r_26v, hr_26v, rfl⟩ := hr_26
    refine f_eq (tgt := 20) hx hb dX4_takePiece_13 (by decide) (fun c_27 => ?_) (fun c_27 => ?_)
    · obtain ⟨i, hi, rfl⟩ : ∃ i : Nat, i < 4 ∧ y = nI i := Classical.byContradiction (fun q => absurd (hr_26v.mpr q) (by rw [c_27]; decide))
      refine lv_iconst (v := nI 0) hx hb dX4_takePiece_20 (by decide) ?_
      refine lv_iconst (v := nI 1) hx hb dX4_takePiece_21 (by decide) ?_
      refine qI_V (A := A) (A1 := A) (b := am) (As := [.int (bI false), .int (nI 1)]) (rest := []) ⟨hx, hb, hml, hown, hts⟩ (mX4_start (A := A) (X := X) (P := P) (k := k) (xa := xa) (b := false) (w9 := 1) (by decide)) (cwV 2 hts (gV tw_4_206 tw_4_208 sel_X4_start tw_1_8 tw_4_209) rfl rfl rfl (by decide +kernel) ⟨Nat.le_of_ble_eq_true rfl, Nat.le_of_ble_eq_true rfl⟩) hC hS (fun _ h => h) (fun q h => hA q (Nat.le_trans hS.1 h)) (hW.recv hK) ⟨ra, pa, tx, hW⟩ rfl rfl hl.1 (Nat.le_of_ble_eq_true rfl) ⟨Nat.zero_le _, Nat.zero_le _⟩ dX4_takePiece_22 (fun rv28 H28 L28 hP28 hk28 hS => ?_)
      have hZ28 := hS.1
      obtain ⟨hr28, hM28⟩ := hP28
      subst hr28
      obtain ⟨ra, pa, tx, hW⟩ := hM28
      have hW : MWx G A am xa ra pa tx X P k (nI 0) H28 := hW
      have hO := hW.obj
      have hAm := hW.1
      refine f_eq (tgt := 32) hx hb dX4_takePiece_25 (by decide) (fun c_29 => ?_) (fun c_29 => ?_)
      · obtain ⟨md, ed, cap9, f9, pq, w1, w2, w3, w4, w5, w6⟩ := MWx_pc hW hj
        have p60 := hW.2.2.2.1 j
        refine lv_aload_n hx hb dX4_takePiece_32 rfl (lv_at hl 0 rfl) ?_
        refine lv_iload_n hx hb dX4_takePiece_33 rfl (lv_at hl 2 rfl) ?_
        refine lv_aload_n hx hb dX4_takePiece_34 rfl (lv_at hl 0 rfl) ?_
        refine va_get (D := G.1) (ci := 8) (C := RX4) (T := TX4) (N := 5) hx hb hts inX4 hown hK (at_P hO) 0 rfl rfl 3 (by decide) (hts _ tw_4_175) (fun _ h9 => h9) rfl dX4_takePiece_35 ?_
        refine lv_iload_n hx hb dX4_takePiece_38 rfl (lv_at hl 1 rfl) ?_
        refine kV_a (A := A) (b := pa) (As := [.int (nI j)]) (rest := .int (nI i) :: .ref am :: []) ⟨hx, hb, hml, hown, hts⟩ (mJx4a65c_get_915e3 (A := A) (j := j) (n := P.length) (f := f9) (cap := cap9) (md := md) (ed := ed) hj w3 (by omega) w5) (cwV 1 hts (gV tw_5_152 tw_5_153 tw_5_154 tw_1_11 tw_5_155) rfl rfl rfl (by decide +kernel) ⟨Nat.le_of_ble_eq_true rfl, Nat.le_of_ble_eq_true rfl⟩) hC hS hA (at_recv hK w1 (q := (RJx4a65c, TJx4a65c, 3)) rfl) ⟨w1, w2⟩ rfl rfl hl.1 (Nat.le_of_ble_eq_true rfl) ⟨Nat.zero_le _, Nat.zero_le _⟩ dX4_takePiece_39 (fun a_30 ha_30 => ?_)
        have e7 : a_30 = pq := ha_30
        subst e7
        refine va_castA (D := G.1) hx hb hown (hts _ tw_5_164) (at_P w6.fst) 0 rfl (findIA hK) dX4_takePiece_42 ?_
        refine lv_iconst (v := nI 0) hx hb dX4_takePiece_45 (by decide) ?_
        refine lv_aload_n hx hb dX4_takePiece_46 rfl (lv_at hl 0 rfl) ?_
        refine va_get (D := G.1) (ci := 8) (C := RX4) (T := TX4) (N := 5) hx hb hts inX4 hown hK (at_P hO) 0 rfl rfl 3 (by decide) (hts _ tw_4_175) (fun _ h9 => h9) rfl dX4_takePiece_47 ?_
        refine lv_iload_n hx hb dX4_takePiece_50 rfl (lv_at hl 1 rfl) ?_
        have w5b := w5
        refine kV_a (A := A) (b := pa) (As := [.int (nI j)]) (rest := .int (nI 0) :: .ref a_30 :: .int (nI i) :: .ref am :: []) ⟨hx, hb, hml, hown, hts⟩ (mJx4a65c_get_915e3 (A := A) (j := j) (n := P.length) (f := f9) (cap := cap9) (md := md) (ed := ed) hj w3 (by omega) w5b) (cwV 1 hts (gV tw_5_152 tw_5_153 tw_5_154 tw_1_11 tw_5_155) rfl rfl rfl (by decide +kernel) ⟨Nat.le_of_ble_eq_true rfl, Nat.le_of_ble_eq_true rfl⟩) hC hS hA (at_recv hK w1 (q := (RJx4a65c, TJx4a65c, 3)) rfl) ⟨w1, w2⟩ rfl rfl hl.1 (Nat.le_of_ble_eq_true rfl) ⟨Nat.zero_le _, Nat.zero_le _⟩ dX4_takePiece_51 (fun a_31 ha_31 => ?_)
        have e8 : a_31 = a_30 := ha_31
        rw [e8]
        refine va_castA (D := G.1) hx hb hown (hts _ tw_5_164) (at_P w6.fst) 0 rfl (findIA hK) dX4_takePiece_54 ?_
        have hPq := w6.ia hC.2.1.2
        refine h_ilen hx hb hC.2.1 hPq dX4_takePiece_57 ?_
        have hra := hW.row.lt
        refine qR_S (A := A) (A1 := nw H28.size)  (As := [.ref a_30, .int (nI 0), .int (nI ((P.getD j []).length))]) (rest := .int (nI i) :: .ref am :: []) ⟨hx, hb, hml, hown, hts⟩ (mX4_cut (A := nw H28.size) (sz := H28.size) (t := P.getD j []) (i := 0) (i2 := (P.getD j []).length) (Nat.zero_le _) (Nat.le_refl _) (by omega)) (va_cwS 3 hts (gS tw_4_226 tw_4_227 tw_1_8 tw_4_228) rfl rfl rfl (by decide +kernel) ⟨Nat.le_of_ble_eq_true rfl, Nat.le_of_ble_eq_true rfl⟩) hC hS (nw_in hA hS.1) nw_n  ⟨rfl, hPq⟩ rfl rfl hl.1 (Nat.le_of_ble_eq_true rfl) ⟨Nat.le_trans (show 0 + 1 ≤ 1 by omega) (Nat.le_of_ble_eq_true rfl), Nat.le_trans (show 0 + 61 ≤ 61 by omega) (Nat.le_of_ble_eq_true rfl)⟩ dX4_takePiece_58 (fun rv32 H32 L32 hP32 hk32 hS => ?_)
        have hZ32 := hS.1
        have hW := hW.nw hk32
        rw [cutL_all] at hP32
        refine qI_V (A := A) (A1 := A) (b := am) (As := [.int (nI i), .ref rv32]) (rest := []) ⟨hx, hb, hml, hown, hts⟩ (mX4_become (A := A) (X := X) (P := P) (k := k) (xa := xa) (t := P.getD j []) hi p60) (cwV 2 hts (gV tw_4_214 tw_4_216 sel_X4_become tw_1_8 tw_4_217) rfl rfl rfl (by decide +kernel) ⟨Nat.le_of_ble_eq_true rfl, Nat.le_of_ble_eq_true rfl⟩) hC hS (fun _ h => h) (fun q h => hA q (Nat.le_trans hS.1 h)) (hW.recv hK) ⟨ra, pa, tx, hW, hP32.2, (by have := hP32.1; omega)⟩ rfl rfl hl.1 (Nat.le_of_ble_eq_true rfl) ⟨Nat.le_trans (show (0 + 1) ≤ 1 by omega) (Nat.le_of_ble_eq_true rfl), Nat.le_trans (show (0 + 61) ≤ 61 by omega) (Nat.le_of_ble_eq_true rfl)⟩ dX4_takePiece_61 (fun rv33 H33 L33 hP33 hk33 hS => ?_)
        have hZ33 := hS.1
        exact q_i hx hb hr hlocks dX4_takePiece_64 hS (by omega) (by omega) (Or.inr (⟨j, i, hj, rfl, hi, rfl, hP33.1, hP33.2⟩))
      · exact absurd c_29 (by decide)
    · refine lv_iconst (v := nI 1) hx hb dX4_takePiece_16 (by decide) ?_
      refine lv_goto (tgt := 21) hx hb dX4_takePiece_17 (by decide) ?_
      refine lv_iconst (v := nI 1) hx hb dX4_takePiece_21 (by decide) ?_
      refine qI_V (A := A) (A1 := A) (b := am) (As := [.int (bI true), .int (nI 1)]) (rest := []) ⟨hx, hb, hml, hown, hts⟩ (mX4_start (A := A) (X := X) (P := P) (k := k) (xa := xa) (b := true) (w9 := 1) (by decide)) (cwV 2 hts (gV tw_4_206 tw_4_208 sel_X4_start tw_1_8 tw_4_209) rfl rfl rfl (by decide +kernel) ⟨Nat.le_of_ble_eq_true rfl, Nat.le_of_ble_eq_true rfl⟩) hC hS (fun _ h => h) (fun q h => hA q (Nat.le_trans hS.1 h)) (hW.recv hK) ⟨ra, pa, tx, hW⟩ rfl rfl hl.1 (Nat.le_of_ble_eq_true rfl) ⟨Nat.zero_le _, Nat.zero_le _⟩ dX4_takePiece_22 (fun rv34 H34 L34 hP34 hk34 hS => ?_)
      have hZ34 := hS.1
      obtain ⟨hr34, hM34⟩ := hP34
      subst hr34
      obtain ⟨ra, pa, tx, hW⟩ := hM34
      have hW : MWx G A am xa ra pa tx X P k (nI 1) H34 := hW
      have hO := hW.obj
      have hAm := hW.1
      refine f_eq (tgt := 32) hx hb dX4_takePiece_25 (by decide) (fun c_35 => ?_) (fun c_35 => ?_)
      · exact absurd c_35 (by decide)
      · refine lv_iconst (v := nI 0) hx hb dX4_takePiece_28 (by decide) ?_
        refine lv_goto (tgt := 64) hx hb dX4_takePiece_29 (by decide) ?_
        exact q_i hx hb hr hlocks dX4_takePiece_64 hS (by omega) (by omega) (Or.inl ⟨(Or.inr (hr_26v.mp c_27)), rfl, ra, pa, tx, hW⟩)

abbrev rmX4_isPiece : Room := { frames := 3, cells := 0, slots := 0, locals := 66 }
theorem mX4_isPiece {l : Launch} {G : Cx} {A : Nat → Prop} {am xa : Nat} {X : Nat → List Nat} {P : List (List Nat)} {k : Int32} {x y th : Int32} : Met l yX4_isPiece (.code yX4_isPiece cX4_isPiece 3 (some .boolean) :: GW) rmX4_isPiece (PC G A [.ref am, .int x, .int y] (MW G A am xa X P k th)) (qI A (fun r H => (((¬ ∃ j : Nat, j < P.length ∧ x = nI j) ∨ NT y) ∧ r = 0 ∧ MW G A am xa X P k 1 H) ∨ ∃ (j i : Nat) (v : Bool), j < P.length ∧ x = nI j ∧ i < 4 ∧ y = nI i ∧ (v = true ↔ (P.getD j []).length = (X i).length ∧ stL false (P.getD j []) (X i) 0) ∧ r = bI v ∧ MW G A am xa X P k 0 H)) 0 0 (A) := by
  refine mstart "SigntextModel" (by decide +kernel) rfl (Nat.le_of_ble_eq_true rfl) ?_
  intro p e s m below meth c ls hx hb hr hts hown hml hlocks hname hC hA hW hl
  have hl : lv_has ls 3 [(0, .ref am), (1, .int x), (2, .int y)] := hl
  have hK := hC.1
  have hS : va_S A s.heap s.heap [] := va_S.rf
  obtain ⟨ra, pa, tx, hW⟩ := hW
  have hO := hW.obj
  have hAm := hW.1
  have hp61 := hW.2.2.2.2.2.2.2.2.2.2.2.1
  refine lv_aload_n hx hb dX4_isPiece_0 rfl (lv_at hl 0 rfl) ?_
  refine lv_aload_n hx hb dX4_isPiece_1 rfl (lv_at hl 0 rfl) ?_
  refine lv_iload_n hx hb dX4_isPiece_2 rfl (lv_at hl 1 rfl) ?_
  refine kV_i (A := A) (b := am) (As := [.int x]) (rest := .ref am :: []) ⟨hx, hb, hml, hown, hts⟩ (mX4_isNoPiece (A := A) (xa := xa) (X := X) (P := P) (k := k)) (cwV 1 hts (gV tw_5_178 tw_5_180 sel_X4_isNoPiece tw_1_8 tw_5_181) rfl rfl rfl (by decide +kernel) ⟨Nat.le_of_ble_eq_true rfl, Nat.le_of_ble_eq_true rfl⟩) hC hS hA (hW.recv hK) ⟨ra, pa, tx, hW⟩ rfl rfl hl.1 (Nat.le_of_ble_eq_true rfl) ⟨Nat.zero_le _, Nat.zero_le _⟩ dX4_isPiece_3 (fun r_36 hr_36 => ?_)
  obtain ⟨r_36v, hr_36v, rfl⟩ := hr_36
  refine f_ne (tgt := 16) hx hb dX4_isPiece_6 (by decide) (fun c_37 => ?_) (fun c_37 => ?_)
  · refine lv_iconst (v := nI 1) hx hb dX4_isPiece_16 (by decide) ?_
    refine lv_goto (tgt := 21) hx hb dX4_isPiece_17 (by decide) ?_
    refine lv_iconst (v := nI 1) hx hb dX4_isPiece_21 (by decide) ?_
    refine qI_V (A := A) (A1 := A) (b := am) (As := [.int (bI true), .int (nI 1)]) (rest := []) ⟨hx, hb, hml, hown, hts⟩ (mX4_start (A := A) (X := X) (P := P) (k := k) (xa := xa) (b := true) (w9 := 1) (by decide)) (cwV 2 hts (gV tw_4_206 tw_4_208 sel_X4_start tw_1_8 tw_4_209) rfl rfl rfl (by decide +kernel) ⟨Nat.le_of_ble_eq_true rfl, Nat.le_of_ble_eq_true rfl⟩) hC hS (fun _ h => h) (fun q h => hA q (Nat.le_trans hS.1 h)) (hW.recv hK) ⟨ra, pa, tx, hW⟩ rfl rfl hl.1 (Nat.le_of_ble_eq_true rfl) ⟨Nat.zero_le _, Nat.zero_le _⟩ dX4_isPiece_22 (fun rv38 H38 L38 hP38 hk38 hS => ?_)
    have hZ38 := hS.1
    obtain ⟨hr38, hM38⟩ := hP38
    subst hr38
    obtain ⟨ra, pa, tx, hW⟩ := hM38
    have hW : MWx G A am xa ra pa tx X P k (nI 1) H38 := hW
    have hO := hW.obj
    have hAm := hW.1
    refine f_ne (tgt := 56) hx hb dX4_isPiece_25 (by decide) (fun c_39 => ?_) (fun c_39 => ?_)
    · refine lv_iconst (v := nI 0) hx hb dX4_isPiece_56 (by decide) ?_
      exact q_z (b9 := false) hx hb hr hlocks dX4_isPiece_57 hS (Nat.le_refl _) (Nat.le_refl _) (Or.inl ⟨(Or.inl (hr_36v.mp c_37)), rfl, ra, pa, tx, hW⟩)
    · exact absurd c_39 (by decide)
  · obtain ⟨j, hj, rfl⟩ : ∃ j : Nat, j < P.length ∧ x = nI j := Classical.byContradiction (fun q => absurd (hr_36v.mpr q) (by rw [c_37]; decide))
    refine lv_iload_n hx hb dX4_isPiece_9 rfl (lv_at hl 2 rfl) ?_
    refine kS_i (A := A) (As := [.int y]) (rest := .ref am :: []) ⟨hx, hb, hml, hown, hts⟩ (mX4_isNone (A := A) ) (va_cwS 1 hts (gS tw_4_203 tw_4_204 tw_1_8 tw_4_205) rfl rfl rfl (by decide +kernel) ⟨Nat.le_of_ble_eq_true rfl, Nat.le_of_ble_eq_true rfl⟩) hC hS hA  trivial rfl rfl hl.1 (Nat.le_of_ble_eq_true rfl) ⟨Nat.zero_le _, Nat.zero_le _⟩ dX4_isPiece_10 (fun r_40 hr_40 => ?_)
    obtain ⟨r_40v, hr_40v, rfl⟩ := hr_40
    refine f_eq (tgt := 20) hx hb dX4_isPiece_13 (by decide) (fun c_41 => ?_) (fun c_41 => ?_)
    · obtain ⟨i, hi, rfl⟩ : ∃ i : Nat, i < 4 ∧ y = nI i := Classical.byContradiction (fun q => absurd (hr_40v.mpr q) (by rw [c_41]; decide))
      refine lv_iconst (v := nI 0) hx hb dX4_isPiece_20 (by decide) ?_
      refine lv_iconst (v := nI 1) hx hb dX4_isPiece_21 (by decide) ?_
      refine qI_V (A := A) (A1 := A) (b := am) (As := [.int (bI false), .int (nI 1)]) (rest := []) ⟨hx, hb, hml, hown, hts⟩ (mX4_start (A := A) (X := X) (P := P) (k := k) (xa := xa) (b := false) (w9 := 1) (by decide)) (cwV 2 hts (gV tw_4_206 tw_4_208 sel_X4_start tw_1_8 tw_4_209) rfl rfl rfl (by decide +kernel) ⟨Nat.le_of_ble_eq_true rfl, Nat.le_of_ble_eq_true rfl⟩) hC hS (fun _ h => h) (fun q h => hA q (Nat.le_trans hS.1 h)) (hW.recv hK) ⟨ra, pa, tx, hW⟩ rfl rfl hl.1 (Nat.le_of_ble_eq_true rfl) ⟨Nat.zero_le _, Nat.zero_le _⟩ dX4_isPiece_22 (fun rv42 H42 L42 hP42 hk42 hS => ?_)
      have hZ42 := hS.1
      obtain ⟨hr42, hM42⟩ := hP42
      subst hr42
      obtain ⟨ra, pa, tx, hW⟩ := hM42
      have hW : MWx G A am xa ra pa tx X P k (nI 0) H42 := hW
      have hO := hW.obj
      have hAm := hW.1
      refine f_ne (tgt := 56) hx hb dX4_isPiece_25 (by decide) (fun c_43 => ?_) (fun c_43 => ?_)
      · exact absurd c_43 (by decide)
      · obtain ⟨md, ed, cap9, f9, pq, w1, w2, w3, w4, w5, w6⟩ := MWx_pc hW hj
        have p60 := hW.2.2.2.1 j
        refine lv_aload_n hx hb dX4_isPiece_28 rfl (lv_at hl 0 rfl) ?_
        refine va_get (D := G.1) (ci := 8) (C := RX4) (T := TX4) (N := 5) hx hb hts inX4 hown hK (at_P hO) 0 rfl rfl 3 (by decide) (hts _ tw_4_175) (fun _ h9 => h9) rfl dX4_isPiece_29 ?_
        refine lv_iload_n hx hb dX4_isPiece_32 rfl (lv_at hl 1 rfl) ?_
        refine kV_a (A := A) (b := pa) (As := [.int (nI j)]) (rest := []) ⟨hx, hb, hml, hown, hts⟩ (mJx4a65c_get_915e3 (A := A) (j := j) (n := P.length) (f := f9) (cap := cap9) (md := md) (ed := ed) hj w3 (by omega) w5) (cwV 1 hts (gV tw_5_152 tw_5_153 tw_5_154 tw_1_11 tw_5_155) rfl rfl rfl (by decide +kernel) ⟨Nat.le_of_ble_eq_true rfl, Nat.le_of_ble_eq_true rfl⟩) hC hS hA (at_recv hK w1 (q := (RJx4a65c, TJx4a65c, 3)) rfl) ⟨w1, w2⟩ rfl rfl hl.1 (Nat.le_of_ble_eq_true rfl) ⟨Nat.zero_le _, Nat.zero_le _⟩ dX4_isPiece_33 (fun a_44 ha_44 => ?_)
        have e7 : a_44 = pq := ha_44
        subst e7
        refine va_castA (D := G.1) hx hb hown (hts _ tw_5_164) (at_P w6.fst) 0 rfl (findIA hK) dX4_isPiece_36 ?_
        have hPq := w6.ia hC.2.1.2
        refine lv_aload_n hx hb dX4_isPiece_39 rfl (lv_at hl 0 rfl) ?_
        refine va_get (D := G.1) (ci := 8) (C := RX4) (T := TX4) (N := 5) hx hb hts inX4 hown hK (at_P hO) 0 rfl rfl 1 (by decide) (hts _ tw_4_173) (fun _ h9 => h9) rfl dX4_isPiece_40 ?_
        refine lv_iload_n hx hb dX4_isPiece_43 rfl (lv_at hl 2 rfl) ?_
        refine h_aaldI (D := G.1) hx hb hK 4 hW.txs rfl (vp_in_nI (n := i) (N := 4) (by omega) (by omega)) dX4_isPiece_44 ?_
        refine v_cv (show va_rf _ = .ref (tx i) from by rw [nI_clamp (n := i) (by omega)]; rfl) ?_
        have hTi := (hW.tx (j := i) (by omega)).ia hC.2.1.2
        have x60i := hW.2.2.1 i (Or.inl (by omega))
        have i60 := x60i.2
        refine lv_iconst (v := nI 0) hx hb dX4_isPiece_45 (by decide) ?_
        refine kS_i (A := A) (As := [.ref a_44, .ref (tx i), .int (bI false)]) (rest := []) ⟨hx, hb, hml, hown, hts⟩ (mX4_isSame (A := A) (t := P.getD j []) (u := X i) (b0 := false) p60.1 x60i.1 (by omega) (by omega)) (va_cwS 3 hts (gS tw_6_220 tw_6_221 tw_1_8 tw_6_222) rfl rfl rfl (by decide +kernel) ⟨Nat.le_of_ble_eq_true rfl, Nat.le_of_ble_eq_true rfl⟩) hC hS hA  ⟨hPq, hTi⟩ rfl rfl hl.1 (Nat.le_of_ble_eq_true rfl) ⟨Nat.zero_le _, Nat.zero_le _⟩ dX4_isPiece_46 (fun r_45 hr_45 => ?_)
        obtain ⟨v9, hv9, rfl⟩ := hr_45
        refine f_eq (tgt := 56) hx hb dX4_isPiece_49 (by decide) (fun c_46 => ?_) (fun c_46 => ?_)
        · subst c_46
          refine lv_iconst (v := nI 0) hx hb dX4_isPiece_56 (by decide) ?_
          exact q_z (b9 := false) hx hb hr hlocks dX4_isPiece_57 hS (Nat.le_refl _) (Nat.le_refl _) (Or.inr (⟨j, i, false, hj, rfl, hi, rfl, hv9, rfl, ra, pa, tx, hW⟩))
        · subst c_46
          refine lv_iconst (v := nI 1) hx hb dX4_isPiece_52 (by decide) ?_
          refine lv_goto (tgt := 57) hx hb dX4_isPiece_53 (by decide) ?_
          exact q_z (b9 := true) hx hb hr hlocks dX4_isPiece_57 hS (Nat.le_refl _) (Nat.le_refl _) (Or.inr (⟨j, i, true, hj, rfl, hi, rfl, hv9, rfl, ra, pa, tx, hW⟩))
    · refine lv_iconst (v := nI 1) hx hb dX4_isPiece_16 (by decide) ?_
      refine lv_goto (tgt := 21) hx hb dX4_isPiece_17 (by decide) ?_
      refine lv_iconst (v := nI 1) hx hb dX4_isPiece_21 (by decide) ?_
      refine qI_V (A := A) (A1 := A) (b := am) (As := [.int (bI true), .int (nI 1)]) (rest := []) ⟨hx, hb, hml, hown, hts⟩ (mX4_start (A := A) (X := X) (P := P) (k := k) (xa := xa) (b := true) (w9 := 1) (by decide)) (cwV 2 hts (gV tw_4_206 tw_4_208 sel_X4_start tw_1_8 tw_4_209) rfl rfl rfl (by decide +kernel) ⟨Nat.le_of_ble_eq_true rfl, Nat.le_of_ble_eq_true rfl⟩) hC hS (fun _ h => h) (fun q h => hA q (Nat.le_trans hS.1 h)) (hW.recv hK) ⟨ra, pa, tx, hW⟩ rfl rfl hl.1 (Nat.le_of_ble_eq_true rfl) ⟨Nat.zero_le _, Nat.zero_le _⟩ dX4_isPiece_22 (fun rv47 H47 L47 hP47 hk47 hS => ?_)
      have hZ47 := hS.1
      obtain ⟨hr47, hM47⟩ := hP47
      subst hr47
      obtain ⟨ra, pa, tx, hW⟩ := hM47
      have hW : MWx G A am xa ra pa tx X P k (nI 1) H47 := hW
      have hO := hW.obj
      have hAm := hW.1
      refine f_ne (tgt := 56) hx hb dX4_isPiece_25 (by decide) (fun c_48 => ?_) (fun c_48 => ?_)
      · refine lv_iconst (v := nI 0) hx hb dX4_isPiece_56 (by decide) ?_
        exact q_z (b9 := false) hx hb hr hlocks dX4_isPiece_57 hS (Nat.le_refl _) (Nat.le_refl _) (Or.inl ⟨(Or.inr (hr_40v.mp c_41)), rfl, ra, pa, tx, hW⟩)
      · exact absurd c_48 (by decide)
end
/-! 58.sb -/
section
/-! StringBuilder, told -/
theorem sbI_le {a b : Nat} (ha : a < 2 ^ 30) (hb : b < 2 ^ 30) (h : nI a - nI b ≤ 0) : a ≤ b := by
  rcases Nat.lt_or_ge b a with q | q
  · have h2 := subI_neg hb ha q
    have h3 : nI b - nI a = -(nI a - nI b) := Int32.neg_sub.symm
    rw [pk_sub (by omega)] at h
    exact absurd ((nI_leI (a := a - b) (b := 0) (by omega) (by decide)).mp h) (by omega)
  · exact q
theorem sbI_le2 {a b : Nat} (ha : a < 2 ^ 30) (hb : b < 2 ^ 30) (h : a ≤ b) : nI a - nI b ≤ 0 := by
  rcases Nat.lt_or_ge a b with q | q
  · exact Int32.le_of_lt (subI_neg ha hb q)
  · rw [show a = b by omega, Int32.sub_self]; exact Int32.le_refl _
theorem fit_nar (x : Int32) : fits .byte (.int (vp_nar .byte x)) = true := pk_fb x
theorem at_D1 {A : Nat → Prop} {a : Nat} {e : va_E} (ha : A a) : va_D A [(a, e)] := by
  refine ⟨fun i j p q hi hj he => ?_, fun k q hk => ?_⟩
  · match i, j, hi, hj with
    | 0, 0, _, _ => rfl
    | i + 1, _, hi, _ => simp at hi
    | 0, j + 1, _, hj => simp at hj
  · match k, hk with
    | 0, hk => cases hk; exact ha
    | k + 1, hk => simp at hk
/-- a builder of n signs of one byte each -/
def SBs (G : Cx) (A : Nat → Prop) (a n : Nat) (H : Heap) : Prop := ∃ (va cap : Nat) (g : Nat → Int32), va_at G.1 vwCl (a, .inr (1, [.ref va, .int 0, .int 0, .int (nI n)])) H ∧ va_at G.1 vwCl (va, .inl (G.2.1 2, cap, .inl g)) H ∧ A va ∧ n ≤ cap ∧ 16 ≤ cap ∧ cap < 2 ^ 20 ∧ ∀ i : Nat, i < cap → fits .byte (.int (g i)) = true
section SBS
variable {p : Program} {l : Launch} {e : Env} {R : Room} {s : State} {m : MethodId} {args : Array Value} {below : List Frame} {meth : Method} {c : Code} {H H1 : Heap} {locs : List Loc} {cells slots : Nat} {Q : State → Prop}
variable {cc bytes : ByteArray} {pc nL maxL index n mc ms : Nat} {ls : Array Slot} {rest st0 : List Value} {G : Cx} {A A1 B : Nat → Prop} {own C owner : String} {cC : ClassId} {x y : MethodName} {ret : Option FieldType} {ws : List Cond} {rm : Room} {b a : Nat} {As : List Value} {Wd : Heap → Prop}
theorem findBA (hK : va_K G.1 vwCl (tyL G.2.1) s) : s.vm.findClass "[B" = some (G.2.1 2) := (hK.2 2 _ rfl).2
theorem bytes_fit {cA : ClassId} {n : Nat} {f : Nat → Int32} (hf : ∀ i : Nat, i < n → fits .byte (.int (f i)) = true) : ∀ (i : Nat) (v : Value), (vp_cell cA (n, .inl f)).slots[i]? = some v → fits .byte v = true := fun i v h => by
  have hi : i < n := by
    have := (Array.getElem?_eq_some_iff.mp h).1
    rw [vp_cell_i, arrV_size] at this; exact this
  rw [vp_cell_i, arrV_read _ _ hi] at h
  cases h
  exact hf i hi
theorem SBs_mono (hAB : ∀ q, A q → B q) (h : SBs G A a n H) : SBs G B a n H := by
  obtain ⟨va, cap, g, h1, h2, h3, h4⟩ := h
  exact ⟨va, cap, g, h1, h2, hAB _ h3, h4⟩
theorem SBs_n (h : SBs G A a n H) (oq : ∀ q : Nat, q < H.size → H1[q]? = H[q]?) : SBs G A a n H1 := by
  obtain ⟨va, cap, g, h1, h2, h3⟩ := h
  exact ⟨va, cap, g, at_n h1 oq, at_n h2 oq, h3⟩
theorem SBs_recv (hK : va_K G.1 vwCl (tyL G.2.1) s) (h : SBs G A a n H) : ∃ cell : Cell, H[a]? = some cell ∧ cell.vm.isStatics = false ∧ s.vm.findClass "java/lang/StringBuilder" = some cell.cls := by
  obtain ⟨va, cap, g, h1, -⟩ := h
  exact at_recv hK h1 (q := (RJ4, TJ4, 4)) rfl
theorem SBs_A (hK : va_K G.1 vwCl (tyL G.2.1) s) (h : SBs G A a n H) (hA : A a) : A a ∧ ¬ ∃ t9, IA0 G a t9 H := by
  obtain ⟨va, cap, g, h1, -⟩ := h
  exact ⟨hA, fun ⟨t9, z⟩ => at_ne_oa hK h1 (r := (RJ4, TJ4, 4)) rfl z.fst 0 rfl rfl⟩
theorem SBs_sub (hK : va_K G.1 vwCl (tyL G.2.1) s) (h : SBs G A a n H) : SBs G (fun q9 => A q9 ∧ ¬ ∃ t9, IA0 G q9 t9 H) a n H := by
  obtain ⟨va, cap, g, h1, h2, h3, h4⟩ := h
  exact ⟨va, cap, g, h1, h2, ⟨h3, fun ⟨t9, z⟩ => at_ne_aa hK h2 z.fst 2 0 rfl rfl (by decide) rfl⟩, h4⟩
theorem gSU {own : String} {index n : Nat} {y : MethodName} {cc : ByteArray} {r : Option FieldType} (h1 : Cond.methodLink own index y ∈ GW) (h2 : Cond.sameMethod y.cls y.cls y.name y.desc ∈ GW) (h3 : Cond.superclass own y.cls ∈ GW) (h4 : Cond.instanceMethod y ∈ GW) (h5 : Cond.initialized y.cls ∈ GW) (h6 : Cond.code y cc n r ∈ GW) : GoodIn GW (va_wsSU own index y (.code y cc n r :: GW)) := by
  intro w hw
  unfold va_wsSU at hw
  rcases List.mem_append.mp hw with h | h
  · simp only [List.mem_cons, List.not_mem_nil, or_false] at h
    rcases h with rfl | rfl | rfl | rfl | rfl
    · exact good_gw h1
    · exact good_gw h2
    · exact good_gw h3
    · exact good_gw h4
    · exact good_gw h5
  · exact gI h6 w h
theorem gO {own C owner : String} {index n : Nat} {x y : MethodName} {cc : ByteArray} {r : Option FieldType} (h1 : Cond.methodLink own index x ∈ GW) (h2 : Cond.sameMethod x.cls owner x.name x.desc ∈ GW) (h3 : Cond.instanceMethod ⟨owner, x.name, x.desc⟩ ∈ GW) (h4 : Cond.selects C x y ∈ GW) (h5 : Cond.instanceMethod y ∈ GW) (h6 : Cond.initialized y.cls ∈ GW) (h7 : Cond.code y cc n r ∈ GW) : GoodIn GW (va_wsO own index C owner x y (.code y cc n r :: GW)) := by
  intro w hw
  unfold va_wsO at hw
  rcases List.mem_append.mp hw with h | h
  · simp only [List.mem_cons, List.not_mem_nil, or_false] at h
    rcases h with rfl | rfl | rfl | rfl | rfl | rfl
    · exact good_gw h1
    · exact good_gw h2
    · exact good_gw h3
    · exact good_gw h4
    · exact good_gw h5
    · exact good_gw h6
  · exact gI h7 w h
theorem runC {g : JFrame} {Qa : State → Outcome → State → Prop} {free : Addr → Prop} (h : va_Run p l e R s m args below meth c H locs cells slots mc ms g rest Qa free) : CallRun p l e R s m args below meth c H locs cells slots mc ms g rest Qa free := by
  intro T hT X
  obtain ⟨v, st₀, t, T', L, h0, X', hL, e1, e2, hQ, st⟩ := h T hT X
  exact ⟨v, st₀, t, T', L, h0, X', hL, e1, hQ, st⟩
theorem kU_i {post : Int32 → Prop} (S : CallFix p m c cc nL s args GW own) (hM : Met l y ws rm (PC G A (.ref b :: As) Wd) (vp_Si post) 0 0 (fun _ => False)) (cw : va_CU R s args own C owner index x y bytes maxL ret ws rm 0 0 n) (hC : cx G A s) (hS : va_S A s.heap H locs) (hA : ∀ q : Nat, s.heap.size ≤ q → A q)
    (hr : ∃ cell : Cell, H[b]? = some cell ∧ cell.vm.isStatics = false ∧ s.vm.findClass C = some cell.cls) (hW : Wd H) (hst : st0 = As.reverse ++ .ref b :: rest) (hn : As.length = n) (hl : ls.size = nL) (hrm : (rest.map fun v => v.category).sum ≤ 8) (hf : cells ≤ R.cells ∧ slots ≤ R.slots) (hdg : decode cc pc = .ok (.invokevirtual index, 3))
    (kk : ∀ r : Int32, post r → W p l e R s m args below meth c H locs cells slots Q (F0 m (pc + 3) ls (.int r :: rest))) : W p l e R s m args below meth c H locs cells slots Q (F0 m pc ls st0) := by
  subst hst
  exact vp_callSi (runC (va_runU (As := As) (rest := rest) (g := F0 m pc ls (As.reverse ++ .ref b :: rest)) S hM cw ⟨PC.blind, hr, PC.go hC hS (fun _ z => z) (fun q h => hA q (Nat.le_trans hS.1 h)) hW⟩ rfl hn hl rfl (lv_room hrm) hdg hf)) kk
theorem kSU_i {post : Int32 → Prop} (hat : ClassAt s C cC) (S : CallFix p m c cc nL s args GW own) (hM : Met l y ws rm (PC G A (.ref b :: As) Wd) (vp_Si post) 0 0 (fun _ => False)) (cw : va_CS R s args own index y bytes maxL ret ws rm 0 0 n) (hC : cx G A s) (hS : va_S A s.heap H locs) (hA : ∀ q : Nat, s.heap.size ≤ q → A q)
    (hr : ∃ cell : Cell, H[b]? = some cell ∧ cell.vm.isStatics = false ∧ s.vm.findClass C = some cell.cls) (hW : Wd H) (hst : st0 = As.reverse ++ .ref b :: rest) (hn : As.length = n) (hl : ls.size = nL) (hrm : (rest.map fun v => v.category).sum ≤ 8) (hf : cells ≤ R.cells ∧ slots ≤ R.slots) (hdg : decode cc pc = .ok (.invokespecial index, 3))
    (kk : ∀ r : Int32, post r → W p l e R s m args below meth c H locs cells slots Q (F0 m (pc + 3) ls (.int r :: rest))) : W p l e R s m args below meth c H locs cells slots Q (F0 m pc ls st0) := by
  subst hst
  exact vp_callSi (runC (va_runSU (As := As) (rest := rest) (g := F0 m pc ls (As.reverse ++ .ref b :: rest)) hat S hM cw ⟨PC.blind, hr, PC.go hC hS (fun _ z => z) (fun q h => hA q (Nat.le_trans hS.1 h)) hW⟩ rfl hn hl rfl (lv_room hrm) hdg hf)) kk
theorem qR_SU {P : Nat → Heap → Prop} (hat : ClassAt s C cC) (S : CallFix p m c cc nL s args GW own) (hM : Met l y ws rm (PC G A1 (.ref b :: As) Wd) (qR A1 P) mc ms A1) (cw : va_CS R s args own index y bytes maxL ret ws rm mc ms n) (hC : cx G A s) (hS : va_S A s.heap H locs) (hAA : ∀ q, A1 q → A q) (hA1 : ∀ q : Nat, H.size ≤ q → A1 q)
    (hr : ∃ cell : Cell, H[b]? = some cell ∧ cell.vm.isStatics = false ∧ s.vm.findClass C = some cell.cls) (hW : Wd H) (hst : st0 = As.reverse ++ .ref b :: rest) (hn : As.length = n) (hl : ls.size = nL) (hrm : (rest.map fun v => v.category).sum ≤ 8) (hf : cells + mc ≤ R.cells ∧ slots + ms ≤ R.slots) (hdg : decode cc pc = .ok (.invokespecial index, 3))
    (kk : ∀ (a : Nat) (H1 : Heap) (locs1 : List Loc), P a H1 → kp A1 H H1 → va_S A s.heap H1 locs1 → W p l e R s m args below meth c H1 locs1 (cells + mc) (slots + ms) Q (F0 m (pc + 3) ls (.ref a :: rest))) : W p l e R s m args below meth c H locs cells slots Q (F0 m pc ls st0) := by
  subst hst
  exact va_callr (va_runSU (As := As) (rest := rest) (g := F0 m pc ls (As.reverse ++ .ref b :: rest)) hat S hM cw ⟨PC.blind, hr, PC.go hC hS hAA hA1 hW⟩ rfl hn hl rfl (lv_room hrm) hdg hf) hS (fun q _ h => hAA q h) hAA (fun u a t H1 locs1 ht _ _ hB hz hk hS1 => kk a H1 locs1 (show P a H1 from ht ▸ hB) ⟨hz, hk⟩ hS1)
end SBS
theorem dX4_told_0 : decode cX4_told 0 = .ok (.new 1, 3) := by decide +kernel
theorem dX4_told_3 : decode cX4_told 3 = .ok (.dup, 1) := by decide +kernel
theorem dX4_told_4 : decode cX4_told 4 = .ok (.invokespecial 3, 3) := by decide +kernel
theorem dX4_told_7 : decode cX4_told 7 = .ok (.astore_n 1, 1) := by decide +kernel
theorem dX4_told_8 : decode cX4_told 8 = .ok (.aload_n 0, 1) := by decide +kernel
theorem dX4_told_9 : decode cX4_told 9 = .ok (.astore_n 2, 1) := by decide +kernel
theorem dX4_told_10 : decode cX4_told 10 = .ok (.aload_n 2, 1) := by decide +kernel
theorem dX4_told_11 : decode cX4_told 11 = .ok (.arraylength, 1) := by decide +kernel
theorem dX4_told_12 : decode cX4_told 12 = .ok (.istore_n 3, 1) := by decide +kernel
theorem dX4_told_13 : decode cX4_told 13 = .ok (.iconst 0, 1) := by decide +kernel
theorem dX4_told_14 : decode cX4_told 14 = .ok (.istore 4, 2) := by decide +kernel
theorem dX4_told_16 : decode cX4_told 16 = .ok (.iload 4, 2) := by decide +kernel
theorem dX4_told_18 : decode cX4_told 18 = .ok (.iload_n 3, 1) := by decide +kernel
theorem dX4_told_19 : decode cX4_told 19 = .ok (.if_icmp .ge 23, 3) := by decide +kernel
theorem dX4_told_22 : decode cX4_told 22 = .ok (.aload_n 2, 1) := by decide +kernel
theorem dX4_told_23 : decode cX4_told 23 = .ok (.iload 4, 2) := by decide +kernel
theorem dX4_told_25 : decode cX4_told 25 = .ok (.iaload, 1) := by decide +kernel
theorem dX4_told_26 : decode cX4_told 26 = .ok (.istore 5, 2) := by decide +kernel
theorem dX4_told_28 : decode cX4_told 28 = .ok (.aload_n 1, 1) := by decide +kernel
theorem dX4_told_29 : decode cX4_told 29 = .ok (.iload 5, 2) := by decide +kernel
theorem dX4_told_31 : decode cX4_told 31 = .ok (.i2c, 1) := by decide +kernel
theorem dX4_told_32 : decode cX4_told 32 = .ok (.invokevirtual 7, 3) := by decide +kernel
theorem dX4_told_35 : decode cX4_told 35 = .ok (.pop, 1) := by decide +kernel
theorem dX4_told_36 : decode cX4_told 36 = .ok (.iinc 4 1, 3) := by decide +kernel
theorem dX4_told_39 : decode cX4_told 39 = .ok (.goto (-23), 3) := by decide +kernel
theorem dX4_told_42 : decode cX4_told 42 = .ok (.aload_n 1, 1) := by decide +kernel
theorem dX4_told_43 : decode cX4_told 43 = .ok (.invokevirtual 11, 3) := by decide +kernel
theorem dX4_told_46 : decode cX4_told 46 = .ok (.areturn, 1) := by decide +kernel
theorem dJ5_init_d00df_0 : decode cJ5_init_d00df 0 = .ok (.aload_n 0, 1) := by decide +kernel
theorem dJ5_init_d00df_1 : decode cJ5_init_d00df 1 = .ok (.invokespecial 3, 3) := by decide +kernel
theorem dJ5_init_d00df_4 : decode cJ5_init_d00df 4 = .ok (.getstatic 18, 3) := by decide +kernel
theorem dJ5_init_d00df_7 : decode cJ5_init_d00df 7 = .ok (.ifCond .eq 18, 3) := by decide +kernel
theorem dJ5_init_d00df_10 : decode cJ5_init_d00df 10 = .ok (.aload_n 0, 1) := by decide +kernel
theorem dJ5_init_d00df_11 : decode cJ5_init_d00df 11 = .ok (.iload_n 1, 1) := by decide +kernel
theorem dJ5_init_d00df_12 : decode cJ5_init_d00df 12 = .ok (.newarray .byte, 2) := by decide +kernel
theorem dJ5_init_d00df_14 : decode cJ5_init_d00df 14 = .ok (.putfield 15, 3) := by decide +kernel
theorem dJ5_init_d00df_17 : decode cJ5_init_d00df 17 = .ok (.aload_n 0, 1) := by decide +kernel
theorem dJ5_init_d00df_18 : decode cJ5_init_d00df 18 = .ok (.iconst 0, 1) := by decide +kernel
theorem dJ5_init_d00df_19 : decode cJ5_init_d00df 19 = .ok (.putfield 22, 3) := by decide +kernel
theorem dJ5_init_d00df_22 : decode cJ5_init_d00df 22 = .ok (.goto 16, 3) := by decide +kernel
theorem dJ5_init_d00df_25 : decode cJ5_init_d00df 25 = .ok (.aload_n 0, 1) := by decide +kernel
theorem dJ5_init_d00df_26 : decode cJ5_init_d00df 26 = .ok (.iload_n 1, 1) := by decide +kernel
theorem dJ5_init_d00df_27 : decode cJ5_init_d00df 27 = .ok (.invokestatic 26, 3) := by decide +kernel
theorem dJ5_init_d00df_30 : decode cJ5_init_d00df 30 = .ok (.putfield 15, 3) := by decide +kernel
theorem dJ5_init_d00df_33 : decode cJ5_init_d00df 33 = .ok (.aload_n 0, 1) := by decide +kernel
theorem dJ5_init_d00df_34 : decode cJ5_init_d00df 34 = .ok (.iconst 1, 1) := by decide +kernel
theorem dJ5_init_d00df_35 : decode cJ5_init_d00df 35 = .ok (.putfield 22, 3) := by decide +kernel
theorem dJ5_init_d00df_38 : decode cJ5_init_d00df 38 = .ok (.return_, 1) := by decide +kernel
theorem dJ5_length_8abf5_0 : decode cJ5_length_8abf5 0 = .ok (.aload_n 0, 1) := by decide +kernel
theorem dJ5_length_8abf5_1 : decode cJ5_length_8abf5 1 = .ok (.getfield 79, 3) := by decide +kernel
theorem dJ5_length_8abf5_4 : decode cJ5_length_8abf5 4 = .ok (.ireturn, 1) := by decide +kernel
theorem dJ5_ensureCapacityInternal_d00df_0 : decode cJ5_ensureCapacityInternal_d00df 0 = .ok (.aload_n 0, 1) := by decide +kernel
theorem dJ5_ensureCapacityInternal_d00df_1 : decode cJ5_ensureCapacityInternal_d00df 1 = .ok (.getfield 15, 3) := by decide +kernel
theorem dJ5_ensureCapacityInternal_d00df_4 : decode cJ5_ensureCapacityInternal_d00df 4 = .ok (.arraylength, 1) := by decide +kernel
theorem dJ5_ensureCapacityInternal_d00df_5 : decode cJ5_ensureCapacityInternal_d00df 5 = .ok (.aload_n 0, 1) := by decide +kernel
theorem dJ5_ensureCapacityInternal_d00df_6 : decode cJ5_ensureCapacityInternal_d00df 6 = .ok (.getfield 22, 3) := by decide +kernel
theorem dJ5_ensureCapacityInternal_d00df_9 : decode cJ5_ensureCapacityInternal_d00df 9 = .ok (.ishr, 1) := by decide +kernel
theorem dJ5_ensureCapacityInternal_d00df_10 : decode cJ5_ensureCapacityInternal_d00df 10 = .ok (.istore_n 2, 1) := by decide +kernel
theorem dJ5_ensureCapacityInternal_d00df_11 : decode cJ5_ensureCapacityInternal_d00df 11 = .ok (.iload_n 1, 1) := by decide +kernel
theorem dJ5_ensureCapacityInternal_d00df_12 : decode cJ5_ensureCapacityInternal_d00df 12 = .ok (.iload_n 2, 1) := by decide +kernel
theorem dJ5_ensureCapacityInternal_d00df_13 : decode cJ5_ensureCapacityInternal_d00df 13 = .ok (.isub, 1) := by decide +kernel
theorem dJ5_ensureCapacityInternal_d00df_14 : decode cJ5_ensureCapacityInternal_d00df 14 = .ok (.ifCond .le 24, 3) := by decide +kernel
theorem dJ5_ensureCapacityInternal_d00df_17 : decode cJ5_ensureCapacityInternal_d00df 17 = .ok (.aload_n 0, 1) := by decide +kernel
theorem dJ5_ensureCapacityInternal_d00df_18 : decode cJ5_ensureCapacityInternal_d00df 18 = .ok (.aload_n 0, 1) := by decide +kernel
theorem dJ5_ensureCapacityInternal_d00df_19 : decode cJ5_ensureCapacityInternal_d00df 19 = .ok (.getfield 15, 3) := by decide +kernel
theorem dJ5_ensureCapacityInternal_d00df_22 : decode cJ5_ensureCapacityInternal_d00df 22 = .ok (.aload_n 0, 1) := by decide +kernel
theorem dJ5_ensureCapacityInternal_d00df_23 : decode cJ5_ensureCapacityInternal_d00df 23 = .ok (.iload_n 1, 1) := by decide +kernel
theorem dJ5_ensureCapacityInternal_d00df_24 : decode cJ5_ensureCapacityInternal_d00df 24 = .ok (.invokevirtual 104, 3) := by decide +kernel
theorem dJ5_ensureCapacityInternal_d00df_27 : decode cJ5_ensureCapacityInternal_d00df 27 = .ok (.aload_n 0, 1) := by decide +kernel
theorem dJ5_ensureCapacityInternal_d00df_28 : decode cJ5_ensureCapacityInternal_d00df 28 = .ok (.getfield 22, 3) := by decide +kernel
theorem dJ5_ensureCapacityInternal_d00df_31 : decode cJ5_ensureCapacityInternal_d00df 31 = .ok (.ishl, 1) := by decide +kernel
theorem dJ5_ensureCapacityInternal_d00df_32 : decode cJ5_ensureCapacityInternal_d00df 32 = .ok (.invokestatic 108, 3) := by decide +kernel
theorem dJ5_ensureCapacityInternal_d00df_35 : decode cJ5_ensureCapacityInternal_d00df 35 = .ok (.putfield 15, 3) := by decide +kernel
theorem dJ5_ensureCapacityInternal_d00df_38 : decode cJ5_ensureCapacityInternal_d00df 38 = .ok (.return_, 1) := by decide +kernel
theorem dJ5_newCapacity_0f7a4_0 : decode cJ5_newCapacity_0f7a4 0 = .ok (.aload_n 0, 1) := by decide +kernel
theorem dJ5_newCapacity_0f7a4_1 : decode cJ5_newCapacity_0f7a4 1 = .ok (.getfield 15, 3) := by decide +kernel
theorem dJ5_newCapacity_0f7a4_4 : decode cJ5_newCapacity_0f7a4 4 = .ok (.arraylength, 1) := by decide +kernel
theorem dJ5_newCapacity_0f7a4_5 : decode cJ5_newCapacity_0f7a4 5 = .ok (.istore_n 2, 1) := by decide +kernel
theorem dJ5_newCapacity_0f7a4_6 : decode cJ5_newCapacity_0f7a4 6 = .ok (.iload_n 1, 1) := by decide +kernel
theorem dJ5_newCapacity_0f7a4_7 : decode cJ5_newCapacity_0f7a4 7 = .ok (.aload_n 0, 1) := by decide +kernel
theorem dJ5_newCapacity_0f7a4_8 : decode cJ5_newCapacity_0f7a4 8 = .ok (.getfield 22, 3) := by decide +kernel
theorem dJ5_newCapacity_0f7a4_11 : decode cJ5_newCapacity_0f7a4 11 = .ok (.ishl, 1) := by decide +kernel
theorem dJ5_newCapacity_0f7a4_12 : decode cJ5_newCapacity_0f7a4 12 = .ok (.istore_n 3, 1) := by decide +kernel
theorem dJ5_newCapacity_0f7a4_13 : decode cJ5_newCapacity_0f7a4 13 = .ok (.iload_n 3, 1) := by decide +kernel
theorem dJ5_newCapacity_0f7a4_14 : decode cJ5_newCapacity_0f7a4 14 = .ok (.iload_n 2, 1) := by decide +kernel
theorem dJ5_newCapacity_0f7a4_15 : decode cJ5_newCapacity_0f7a4 15 = .ok (.isub, 1) := by decide +kernel
theorem dJ5_newCapacity_0f7a4_16 : decode cJ5_newCapacity_0f7a4 16 = .ok (.istore 4, 2) := by decide +kernel
theorem dJ5_newCapacity_0f7a4_18 : decode cJ5_newCapacity_0f7a4 18 = .ok (.iload_n 2, 1) := by decide +kernel
theorem dJ5_newCapacity_0f7a4_19 : decode cJ5_newCapacity_0f7a4 19 = .ok (.iload 4, 2) := by decide +kernel
theorem dJ5_newCapacity_0f7a4_21 : decode cJ5_newCapacity_0f7a4 21 = .ok (.iload_n 2, 1) := by decide +kernel
theorem dJ5_newCapacity_0f7a4_22 : decode cJ5_newCapacity_0f7a4 22 = .ok (.iconst 2, 1) := by decide +kernel
theorem dJ5_newCapacity_0f7a4_23 : decode cJ5_newCapacity_0f7a4 23 = .ok (.aload_n 0, 1) := by decide +kernel
theorem dJ5_newCapacity_0f7a4_24 : decode cJ5_newCapacity_0f7a4 24 = .ok (.getfield 22, 3) := by decide +kernel
theorem dJ5_newCapacity_0f7a4_27 : decode cJ5_newCapacity_0f7a4 27 = .ok (.ishl, 1) := by decide +kernel
theorem dJ5_newCapacity_0f7a4_28 : decode cJ5_newCapacity_0f7a4 28 = .ok (.iadd, 1) := by decide +kernel
theorem dJ5_newCapacity_0f7a4_29 : decode cJ5_newCapacity_0f7a4 29 = .ok (.invokestatic 114, 3) := by decide +kernel
theorem dJ5_newCapacity_0f7a4_32 : decode cJ5_newCapacity_0f7a4 32 = .ok (.istore 5, 2) := by decide +kernel
theorem dJ5_newCapacity_0f7a4_34 : decode cJ5_newCapacity_0f7a4 34 = .ok (.iload 5, 2) := by decide +kernel
theorem dJ5_newCapacity_0f7a4_36 : decode cJ5_newCapacity_0f7a4 36 = .ok (.ldc 39, 2) := by decide +kernel
theorem dJ5_newCapacity_0f7a4_38 : decode cJ5_newCapacity_0f7a4 38 = .ok (.if_icmp .ne 13, 3) := by decide +kernel
theorem dJ5_newCapacity_0f7a4_41 : decode cJ5_newCapacity_0f7a4 41 = .ok (.new 120, 3) := by decide +kernel
theorem dJ5_newCapacity_0f7a4_44 : decode cJ5_newCapacity_0f7a4 44 = .ok (.dup, 1) := by decide +kernel
theorem dJ5_newCapacity_0f7a4_45 : decode cJ5_newCapacity_0f7a4 45 = .ok (.ldc 122, 2) := by decide +kernel
theorem dJ5_newCapacity_0f7a4_47 : decode cJ5_newCapacity_0f7a4 47 = .ok (.invokespecial 124, 3) := by decide +kernel
theorem dJ5_newCapacity_0f7a4_50 : decode cJ5_newCapacity_0f7a4 50 = .ok (.athrow, 1) := by decide +kernel
theorem dJ5_newCapacity_0f7a4_51 : decode cJ5_newCapacity_0f7a4 51 = .ok (.iload 5, 2) := by decide +kernel
theorem dJ5_newCapacity_0f7a4_53 : decode cJ5_newCapacity_0f7a4 53 = .ok (.aload_n 0, 1) := by decide +kernel
theorem dJ5_newCapacity_0f7a4_54 : decode cJ5_newCapacity_0f7a4 54 = .ok (.getfield 22, 3) := by decide +kernel
theorem dJ5_newCapacity_0f7a4_57 : decode cJ5_newCapacity_0f7a4 57 = .ok (.ishr, 1) := by decide +kernel
theorem dJ5_newCapacity_0f7a4_58 : decode cJ5_newCapacity_0f7a4 58 = .ok (.ireturn, 1) := by decide +kernel
theorem dJ5_append_3fe6f_0 : decode cJ5_append_3fe6f 0 = .ok (.aload_n 0, 1) := by decide +kernel
theorem dJ5_append_3fe6f_1 : decode cJ5_append_3fe6f 1 = .ok (.aload_n 0, 1) := by decide +kernel
theorem dJ5_append_3fe6f_2 : decode cJ5_append_3fe6f 2 = .ok (.getfield 79, 3) := by decide +kernel
theorem dJ5_append_3fe6f_5 : decode cJ5_append_3fe6f 5 = .ok (.iconst 1, 1) := by decide +kernel
theorem dJ5_append_3fe6f_6 : decode cJ5_append_3fe6f 6 = .ok (.iadd, 1) := by decide +kernel
theorem dJ5_append_3fe6f_7 : decode cJ5_append_3fe6f 7 = .ok (.invokevirtual 100, 3) := by decide +kernel
theorem dJ5_append_3fe6f_10 : decode cJ5_append_3fe6f 10 = .ok (.aload_n 0, 1) := by decide +kernel
theorem dJ5_append_3fe6f_11 : decode cJ5_append_3fe6f 11 = .ok (.invokevirtual 83, 3) := by decide +kernel
theorem dJ5_append_3fe6f_14 : decode cJ5_append_3fe6f 14 = .ok (.ifCond .eq 31, 3) := by decide +kernel
theorem dJ5_append_3fe6f_17 : decode cJ5_append_3fe6f 17 = .ok (.iload_n 1, 1) := by decide +kernel
theorem dJ5_append_3fe6f_18 : decode cJ5_append_3fe6f 18 = .ok (.invokestatic 191, 3) := by decide +kernel
theorem dJ5_append_3fe6f_21 : decode cJ5_append_3fe6f 21 = .ok (.ifCond .eq 24, 3) := by decide +kernel
theorem dJ5_append_3fe6f_24 : decode cJ5_append_3fe6f 24 = .ok (.aload_n 0, 1) := by decide +kernel
theorem dJ5_append_3fe6f_25 : decode cJ5_append_3fe6f 25 = .ok (.getfield 15, 3) := by decide +kernel
theorem dJ5_append_3fe6f_28 : decode cJ5_append_3fe6f 28 = .ok (.aload_n 0, 1) := by decide +kernel
theorem dJ5_append_3fe6f_29 : decode cJ5_append_3fe6f 29 = .ok (.dup, 1) := by decide +kernel
theorem dJ5_append_3fe6f_30 : decode cJ5_append_3fe6f 30 = .ok (.getfield 79, 3) := by decide +kernel
theorem dJ5_append_3fe6f_33 : decode cJ5_append_3fe6f 33 = .ok (.dup_x1, 1) := by decide +kernel
theorem dJ5_append_3fe6f_34 : decode cJ5_append_3fe6f 34 = .ok (.iconst 1, 1) := by decide +kernel
theorem dJ5_append_3fe6f_35 : decode cJ5_append_3fe6f 35 = .ok (.iadd, 1) := by decide +kernel
theorem dJ5_append_3fe6f_36 : decode cJ5_append_3fe6f 36 = .ok (.putfield 79, 3) := by decide +kernel
theorem dJ5_append_3fe6f_39 : decode cJ5_append_3fe6f 39 = .ok (.iload_n 1, 1) := by decide +kernel
theorem dJ5_append_3fe6f_40 : decode cJ5_append_3fe6f 40 = .ok (.i2b, 1) := by decide +kernel
theorem dJ5_append_3fe6f_41 : decode cJ5_append_3fe6f 41 = .ok (.bastore, 1) := by decide +kernel
theorem dJ5_append_3fe6f_42 : decode cJ5_append_3fe6f 42 = .ok (.goto 33, 3) := by decide +kernel
theorem dJ5_append_3fe6f_45 : decode cJ5_append_3fe6f 45 = .ok (.aload_n 0, 1) := by decide +kernel
theorem dJ5_append_3fe6f_46 : decode cJ5_append_3fe6f 46 = .ok (.invokevirtual 83, 3) := by decide +kernel
theorem dJ5_append_3fe6f_49 : decode cJ5_append_3fe6f 49 = .ok (.ifCond .eq 7, 3) := by decide +kernel
theorem dJ5_append_3fe6f_52 : decode cJ5_append_3fe6f 52 = .ok (.aload_n 0, 1) := by decide +kernel
theorem dJ5_append_3fe6f_53 : decode cJ5_append_3fe6f 53 = .ok (.invokevirtual 195, 3) := by decide +kernel
theorem dJ5_append_3fe6f_56 : decode cJ5_append_3fe6f 56 = .ok (.aload_n 0, 1) := by decide +kernel
theorem dJ5_append_3fe6f_57 : decode cJ5_append_3fe6f 57 = .ok (.getfield 15, 3) := by decide +kernel
theorem dJ5_append_3fe6f_60 : decode cJ5_append_3fe6f 60 = .ok (.aload_n 0, 1) := by decide +kernel
theorem dJ5_append_3fe6f_61 : decode cJ5_append_3fe6f 61 = .ok (.dup, 1) := by decide +kernel
theorem dJ5_append_3fe6f_62 : decode cJ5_append_3fe6f 62 = .ok (.getfield 79, 3) := by decide +kernel
theorem dJ5_append_3fe6f_65 : decode cJ5_append_3fe6f 65 = .ok (.dup_x1, 1) := by decide +kernel
theorem dJ5_append_3fe6f_66 : decode cJ5_append_3fe6f 66 = .ok (.iconst 1, 1) := by decide +kernel
theorem dJ5_append_3fe6f_67 : decode cJ5_append_3fe6f 67 = .ok (.iadd, 1) := by decide +kernel
theorem dJ5_append_3fe6f_68 : decode cJ5_append_3fe6f 68 = .ok (.putfield 79, 3) := by decide +kernel
theorem dJ5_append_3fe6f_71 : decode cJ5_append_3fe6f 71 = .ok (.iload_n 1, 1) := by decide +kernel
theorem dJ5_append_3fe6f_72 : decode cJ5_append_3fe6f 72 = .ok (.invokestatic 197, 3) := by decide +kernel
theorem dJ5_append_3fe6f_75 : decode cJ5_append_3fe6f 75 = .ok (.aload_n 0, 1) := by decide +kernel
theorem dJ5_append_3fe6f_76 : decode cJ5_append_3fe6f 76 = .ok (.areturn, 1) := by decide +kernel
theorem dJ5_getValue_6d5f1_0 : decode cJ5_getValue_6d5f1 0 = .ok (.aload_n 0, 1) := by decide +kernel
theorem dJ5_getValue_6d5f1_1 : decode cJ5_getValue_6d5f1 1 = .ok (.getfield 15, 3) := by decide +kernel
theorem dJ5_getValue_6d5f1_4 : decode cJ5_getValue_6d5f1 4 = .ok (.areturn, 1) := by decide +kernel
theorem dJ5_isLatin1_aae02_0 : decode cJ5_isLatin1_aae02 0 = .ok (.getstatic 18, 3) := by decide +kernel
theorem dJ5_isLatin1_aae02_3 : decode cJ5_isLatin1_aae02 3 = .ok (.ifCond .eq 14, 3) := by decide +kernel
theorem dJ5_isLatin1_aae02_6 : decode cJ5_isLatin1_aae02 6 = .ok (.aload_n 0, 1) := by decide +kernel
theorem dJ5_isLatin1_aae02_7 : decode cJ5_isLatin1_aae02 7 = .ok (.getfield 22, 3) := by decide +kernel
theorem dJ5_isLatin1_aae02_10 : decode cJ5_isLatin1_aae02 10 = .ok (.ifCond .ne 7, 3) := by decide +kernel
theorem dJ5_isLatin1_aae02_13 : decode cJ5_isLatin1_aae02 13 = .ok (.iconst 1, 1) := by decide +kernel
theorem dJ5_isLatin1_aae02_14 : decode cJ5_isLatin1_aae02 14 = .ok (.goto 4, 3) := by decide +kernel
theorem dJ5_isLatin1_aae02_17 : decode cJ5_isLatin1_aae02 17 = .ok (.iconst 0, 1) := by decide +kernel
theorem dJ5_isLatin1_aae02_18 : decode cJ5_isLatin1_aae02 18 = .ok (.ireturn, 1) := by decide +kernel
theorem dJ0_init_81219_0 : decode cJ0_init_81219 0 = .ok (.aload_n 0, 1) := by decide +kernel
theorem dJ0_init_81219_1 : decode cJ0_init_81219 1 = .ok (.aload_n 1, 1) := by decide +kernel
theorem dJ0_init_81219_2 : decode cJ0_init_81219 2 = .ok (.aconst_null, 1) := by decide +kernel
theorem dJ0_init_81219_3 : decode cJ0_init_81219 3 = .ok (.invokespecial 489, 3) := by decide +kernel
theorem dJ0_init_81219_6 : decode cJ0_init_81219 6 = .ok (.return_, 1) := by decide +kernel
theorem dJ0_init_db425_0 : decode cJ0_init_db425 0 = .ok (.aload_n 0, 1) := by decide +kernel
theorem dJ0_init_db425_1 : decode cJ0_init_db425 1 = .ok (.invokespecial 1, 3) := by decide +kernel
theorem dJ0_init_db425_4 : decode cJ0_init_db425 4 = .ok (.aload_n 1, 1) := by decide +kernel
theorem dJ0_init_db425_5 : decode cJ0_init_db425 5 = .ok (.invokevirtual 552, 3) := by decide +kernel
theorem dJ0_init_db425_8 : decode cJ0_init_db425 8 = .ok (.astore_n 3, 1) := by decide +kernel
theorem dJ0_init_db425_9 : decode cJ0_init_db425 9 = .ok (.aload_n 1, 1) := by decide +kernel
theorem dJ0_init_db425_10 : decode cJ0_init_db425 10 = .ok (.invokevirtual 549, 3) := by decide +kernel
theorem dJ0_init_db425_13 : decode cJ0_init_db425 13 = .ok (.istore 4, 2) := by decide +kernel
theorem dJ0_init_db425_15 : decode cJ0_init_db425 15 = .ok (.aload_n 1, 1) := by decide +kernel
theorem dJ0_init_db425_16 : decode cJ0_init_db425 16 = .ok (.invokevirtual 1047, 3) := by decide +kernel
theorem dJ0_init_db425_19 : decode cJ0_init_db425 19 = .ok (.ifCond .eq 22, 3) := by decide +kernel
theorem dJ0_init_db425_22 : decode cJ0_init_db425 22 = .ok (.aload_n 0, 1) := by decide +kernel
theorem dJ0_init_db425_23 : decode cJ0_init_db425 23 = .ok (.iconst 0, 1) := by decide +kernel
theorem dJ0_init_db425_24 : decode cJ0_init_db425 24 = .ok (.putfield 15, 3) := by decide +kernel
theorem dJ0_init_db425_27 : decode cJ0_init_db425 27 = .ok (.aload_n 0, 1) := by decide +kernel
theorem dJ0_init_db425_28 : decode cJ0_init_db425 28 = .ok (.aload_n 3, 1) := by decide +kernel
theorem dJ0_init_db425_29 : decode cJ0_init_db425 29 = .ok (.iconst 0, 1) := by decide +kernel
theorem dJ0_init_db425_30 : decode cJ0_init_db425 30 = .ok (.iload 4, 2) := by decide +kernel
theorem dJ0_init_db425_32 : decode cJ0_init_db425 32 = .ok (.invokestatic 54, 3) := by decide +kernel
theorem dJ0_init_db425_35 : decode cJ0_init_db425 35 = .ok (.putfield 9, 3) := by decide +kernel
theorem dJ0_init_db425_38 : decode cJ0_init_db425 38 = .ok (.goto 59, 3) := by decide +kernel
theorem dJ0_init_db425_41 : decode cJ0_init_db425 41 = .ok (.getstatic 38, 3) := by decide +kernel
theorem dJ0_init_db425_44 : decode cJ0_init_db425 44 = .ok (.ifCond .eq 35, 3) := by decide +kernel
theorem dJ0_init_db425_47 : decode cJ0_init_db425 47 = .ok (.aload_n 1, 1) := by decide +kernel
theorem dJ0_init_db425_48 : decode cJ0_init_db425 48 = .ok (.getfield 1048, 3) := by decide +kernel
theorem dJ0_init_db425_51 : decode cJ0_init_db425 51 = .ok (.ifCond .eq 28, 3) := by decide +kernel
theorem dJ0_init_db425_54 : decode cJ0_init_db425 54 = .ok (.aload_n 0, 1) := by decide +kernel
theorem dJ0_init_db425_55 : decode cJ0_init_db425 55 = .ok (.aload_n 3, 1) := by decide +kernel
theorem dJ0_init_db425_56 : decode cJ0_init_db425 56 = .ok (.iconst 0, 1) := by decide +kernel
theorem dJ0_init_db425_57 : decode cJ0_init_db425 57 = .ok (.iload 4, 2) := by decide +kernel
theorem dJ0_init_db425_59 : decode cJ0_init_db425 59 = .ok (.invokestatic 1051, 3) := by decide +kernel
theorem dJ0_init_db425_62 : decode cJ0_init_db425 62 = .ok (.putfield 9, 3) := by decide +kernel
theorem dJ0_init_db425_65 : decode cJ0_init_db425 65 = .ok (.aload_n 0, 1) := by decide +kernel
theorem dJ0_init_db425_66 : decode cJ0_init_db425 66 = .ok (.aload_n 0, 1) := by decide +kernel
theorem dJ0_init_db425_67 : decode cJ0_init_db425 67 = .ok (.getfield 9, 3) := by decide +kernel
theorem dJ0_init_db425_70 : decode cJ0_init_db425 70 = .ok (.iload 4, 2) := by decide +kernel
theorem dJ0_init_db425_72 : decode cJ0_init_db425 72 = .ok (.invokestatic 47, 3) := by decide +kernel
theorem dJ0_init_db425_75 : decode cJ0_init_db425 75 = .ok (.putfield 15, 3) := by decide +kernel
theorem dJ0_init_db425_78 : decode cJ0_init_db425 78 = .ok (.return_, 1) := by decide +kernel
theorem dJ0_init_db425_79 : decode cJ0_init_db425 79 = .ok (.aload_n 0, 1) := by decide +kernel
theorem dJ0_init_db425_80 : decode cJ0_init_db425 80 = .ok (.iconst 1, 1) := by decide +kernel
theorem dJ0_init_db425_81 : decode cJ0_init_db425 81 = .ok (.putfield 15, 3) := by decide +kernel
theorem dJ0_init_db425_84 : decode cJ0_init_db425 84 = .ok (.aload_n 0, 1) := by decide +kernel
theorem dJ0_init_db425_85 : decode cJ0_init_db425 85 = .ok (.aload_n 3, 1) := by decide +kernel
theorem dJ0_init_db425_86 : decode cJ0_init_db425 86 = .ok (.iconst 0, 1) := by decide +kernel
theorem dJ0_init_db425_87 : decode cJ0_init_db425 87 = .ok (.iload 4, 2) := by decide +kernel
theorem dJ0_init_db425_89 : decode cJ0_init_db425 89 = .ok (.iconst 1, 1) := by decide +kernel
theorem dJ0_init_db425_90 : decode cJ0_init_db425 90 = .ok (.ishl, 1) := by decide +kernel
theorem dJ0_init_db425_91 : decode cJ0_init_db425 91 = .ok (.invokestatic 54, 3) := by decide +kernel
theorem dJ0_init_db425_94 : decode cJ0_init_db425 94 = .ok (.putfield 9, 3) := by decide +kernel
theorem dJ0_init_db425_97 : decode cJ0_init_db425 97 = .ok (.return_, 1) := by decide +kernel
theorem dJ4_init_da8c8_0 : decode cJ4_init_da8c8 0 = .ok (.aload_n 0, 1) := by decide +kernel
theorem dJ4_init_da8c8_1 : decode cJ4_init_da8c8 1 = .ok (.bipush 16, 2) := by decide +kernel
theorem dJ4_init_da8c8_3 : decode cJ4_init_da8c8 3 = .ok (.invokespecial 1, 3) := by decide +kernel
theorem dJ4_init_da8c8_6 : decode cJ4_init_da8c8 6 = .ok (.return_, 1) := by decide +kernel
theorem dJ4_append_cf468_0 : decode cJ4_append_cf468 0 = .ok (.aload_n 0, 1) := by decide +kernel
theorem dJ4_append_cf468_1 : decode cJ4_append_cf468 1 = .ok (.iload_n 1, 1) := by decide +kernel
theorem dJ4_append_cf468_2 : decode cJ4_append_cf468 2 = .ok (.invokespecial 50, 3) := by decide +kernel
theorem dJ4_append_cf468_5 : decode cJ4_append_cf468 5 = .ok (.pop, 1) := by decide +kernel
theorem dJ4_append_cf468_6 : decode cJ4_append_cf468 6 = .ok (.aload_n 0, 1) := by decide +kernel
theorem dJ4_append_cf468_7 : decode cJ4_append_cf468 7 = .ok (.areturn, 1) := by decide +kernel
theorem dJ4_toString_0e30d_0 : decode cJ4_toString_0e30d 0 = .ok (.new 18, 3) := by decide +kernel
theorem dJ4_toString_0e30d_3 : decode cJ4_toString_0e30d 3 = .ok (.dup, 1) := by decide +kernel
theorem dJ4_toString_0e30d_4 : decode cJ4_toString_0e30d 4 = .ok (.aload_n 0, 1) := by decide +kernel
theorem dJ4_toString_0e30d_5 : decode cJ4_toString_0e30d 5 = .ok (.invokespecial 137, 3) := by decide +kernel
theorem dJ4_toString_0e30d_8 : decode cJ4_toString_0e30d 8 = .ok (.areturn, 1) := by decide +kernel
theorem dJ4_length_8abf5_0 : decode cJ4_length_8abf5 0 = .ok (.aload_n 0, 1) := by decide +kernel
theorem dJ4_length_8abf5_1 : decode cJ4_length_8abf5 1 = .ok (.invokespecial 343, 3) := by decide +kernel
theorem dJ4_length_8abf5_4 : decode cJ4_length_8abf5 4 = .ok (.ireturn, 1) := by decide +kernel
theorem dJ1_canEncode_fc78d_0 : decode cJ1_canEncode_fc78d 0 = .ok (.iload_n 0, 1) := by decide +kernel
theorem dJ1_canEncode_fc78d_1 : decode cJ1_canEncode_fc78d 1 = .ok (.sipush 255, 3) := by decide +kernel
theorem dJ1_canEncode_fc78d_4 : decode cJ1_canEncode_fc78d 4 = .ok (.if_icmp .gt 7, 3) := by decide +kernel
theorem dJ1_canEncode_fc78d_7 : decode cJ1_canEncode_fc78d 7 = .ok (.iconst 1, 1) := by decide +kernel
theorem dJ1_canEncode_fc78d_8 : decode cJ1_canEncode_fc78d 8 = .ok (.goto 4, 3) := by decide +kernel
theorem dJ1_canEncode_fc78d_11 : decode cJ1_canEncode_fc78d 11 = .ok (.iconst 0, 1) := by decide +kernel
theorem dJ1_canEncode_fc78d_12 : decode cJ1_canEncode_fc78d 12 = .ok (.ireturn, 1) := by decide +kernel
theorem dJ7_copyOf_9075b_0 : decode cJ7_copyOf_9075b 0 = .ok (.iload_n 1, 1) := by decide +kernel
theorem dJ7_copyOf_9075b_1 : decode cJ7_copyOf_9075b 1 = .ok (.aload_n 0, 1) := by decide +kernel
theorem dJ7_copyOf_9075b_2 : decode cJ7_copyOf_9075b 2 = .ok (.arraylength, 1) := by decide +kernel
theorem dJ7_copyOf_9075b_3 : decode cJ7_copyOf_9075b 3 = .ok (.if_icmp .ne 11, 3) := by decide +kernel
theorem dJ7_copyOf_9075b_6 : decode cJ7_copyOf_9075b 6 = .ok (.aload_n 0, 1) := by decide +kernel
theorem dJ7_copyOf_9075b_7 : decode cJ7_copyOf_9075b 7 = .ok (.invokevirtual 310, 3) := by decide +kernel
theorem dJ7_copyOf_9075b_10 : decode cJ7_copyOf_9075b 10 = .ok (.checkcast 311, 3) := by decide +kernel
theorem dJ7_copyOf_9075b_13 : decode cJ7_copyOf_9075b 13 = .ok (.areturn, 1) := by decide +kernel
theorem dJ7_copyOf_9075b_14 : decode cJ7_copyOf_9075b 14 = .ok (.iload_n 1, 1) := by decide +kernel
theorem dJ7_copyOf_9075b_15 : decode cJ7_copyOf_9075b 15 = .ok (.newarray .byte, 2) := by decide +kernel
theorem dJ7_copyOf_9075b_17 : decode cJ7_copyOf_9075b 17 = .ok (.astore_n 2, 1) := by decide +kernel
theorem dJ7_copyOf_9075b_18 : decode cJ7_copyOf_9075b 18 = .ok (.aload_n 0, 1) := by decide +kernel
theorem dJ7_copyOf_9075b_19 : decode cJ7_copyOf_9075b 19 = .ok (.iconst 0, 1) := by decide +kernel
theorem dJ7_copyOf_9075b_20 : decode cJ7_copyOf_9075b 20 = .ok (.aload_n 2, 1) := by decide +kernel
theorem dJ7_copyOf_9075b_21 : decode cJ7_copyOf_9075b 21 = .ok (.iconst 0, 1) := by decide +kernel
theorem dJ7_copyOf_9075b_22 : decode cJ7_copyOf_9075b 22 = .ok (.aload_n 0, 1) := by decide +kernel
theorem dJ7_copyOf_9075b_23 : decode cJ7_copyOf_9075b 23 = .ok (.arraylength, 1) := by decide +kernel
theorem dJ7_copyOf_9075b_24 : decode cJ7_copyOf_9075b 24 = .ok (.iload_n 1, 1) := by decide +kernel
theorem dJ7_copyOf_9075b_25 : decode cJ7_copyOf_9075b 25 = .ok (.invokestatic 304, 3) := by decide +kernel
theorem dJ7_copyOf_9075b_28 : decode cJ7_copyOf_9075b 28 = .ok (.invokestatic 150, 3) := by decide +kernel
theorem dJ7_copyOf_9075b_31 : decode cJ7_copyOf_9075b 31 = .ok (.aload_n 2, 1) := by decide +kernel
theorem dJ7_copyOf_9075b_32 : decode cJ7_copyOf_9075b 32 = .ok (.areturn, 1) := by decide +kernel
theorem dJ7_checkLength_df160_0 : decode cJ7_checkLength_df160 0 = .ok (.iload_n 1, 1) := by decide +kernel
theorem dJ7_checkLength_df160_1 : decode cJ7_checkLength_df160 1 = .ok (.iload_n 0, 1) := by decide +kernel
theorem dJ7_checkLength_df160_2 : decode cJ7_checkLength_df160 2 = .ok (.if_icmp .ge 35, 3) := by decide +kernel
theorem dJ7_checkLength_df160_5 : decode cJ7_checkLength_df160 5 = .ok (.new 43, 3) := by decide +kernel
theorem dJ7_checkLength_df160_8 : decode cJ7_checkLength_df160 8 = .ok (.dup, 1) := by decide +kernel
theorem dJ7_checkLength_df160_9 : decode cJ7_checkLength_df160 9 = .ok (.new 45, 3) := by decide +kernel
theorem dJ7_checkLength_df160_12 : decode cJ7_checkLength_df160 12 = .ok (.dup, 1) := by decide +kernel
theorem dJ7_checkLength_df160_13 : decode cJ7_checkLength_df160 13 = .ok (.invokespecial 47, 3) := by decide +kernel
theorem dJ7_checkLength_df160_16 : decode cJ7_checkLength_df160 16 = .ok (.iload_n 0, 1) := by decide +kernel
theorem dJ7_checkLength_df160_17 : decode cJ7_checkLength_df160 17 = .ok (.invokevirtual 54, 3) := by decide +kernel
theorem dJ7_checkLength_df160_20 : decode cJ7_checkLength_df160 20 = .ok (.ldc_w 337, 3) := by decide +kernel
theorem dJ7_checkLength_df160_23 : decode cJ7_checkLength_df160 23 = .ok (.invokevirtual 50, 3) := by decide +kernel
theorem dJ7_checkLength_df160_26 : decode cJ7_checkLength_df160 26 = .ok (.iload_n 1, 1) := by decide +kernel
theorem dJ7_checkLength_df160_27 : decode cJ7_checkLength_df160 27 = .ok (.invokevirtual 54, 3) := by decide +kernel
theorem dJ7_checkLength_df160_30 : decode cJ7_checkLength_df160 30 = .ok (.invokevirtual 61, 3) := by decide +kernel
theorem dJ7_checkLength_df160_33 : decode cJ7_checkLength_df160 33 = .ok (.invokespecial 65, 3) := by decide +kernel
theorem dJ7_checkLength_df160_36 : decode cJ7_checkLength_df160 36 = .ok (.athrow, 1) := by decide +kernel
theorem dJ7_checkLength_df160_37 : decode cJ7_checkLength_df160 37 = .ok (.return_, 1) := by decide +kernel
theorem dJ7_copyOfRange_39247_0 : decode cJ7_copyOfRange_39247 0 = .ok (.iload_n 1, 1) := by decide +kernel
theorem dJ7_copyOfRange_39247_1 : decode cJ7_copyOfRange_39247 1 = .ok (.ifCond .ne 9, 3) := by decide +kernel
theorem dJ7_copyOfRange_39247_4 : decode cJ7_copyOfRange_39247 4 = .ok (.iload_n 2, 1) := by decide +kernel
theorem dJ7_copyOfRange_39247_5 : decode cJ7_copyOfRange_39247 5 = .ok (.aload_n 0, 1) := by decide +kernel
theorem dJ7_copyOfRange_39247_6 : decode cJ7_copyOfRange_39247 6 = .ok (.arraylength, 1) := by decide +kernel
theorem dJ7_copyOfRange_39247_7 : decode cJ7_copyOfRange_39247 7 = .ok (.if_icmp .eq 10, 3) := by decide +kernel
theorem dJ7_copyOfRange_39247_10 : decode cJ7_copyOfRange_39247 10 = .ok (.aload_n 0, 1) := by decide +kernel
theorem dJ7_copyOfRange_39247_11 : decode cJ7_copyOfRange_39247 11 = .ok (.iload_n 1, 1) := by decide +kernel
theorem dJ7_copyOfRange_39247_12 : decode cJ7_copyOfRange_39247 12 = .ok (.iload_n 2, 1) := by decide +kernel
theorem dJ7_copyOfRange_39247_13 : decode cJ7_copyOfRange_39247 13 = .ok (.invokestatic 339, 3) := by decide +kernel
theorem dJ7_copyOfRange_39247_16 : decode cJ7_copyOfRange_39247 16 = .ok (.areturn, 1) := by decide +kernel
theorem dJ7_copyOfRange_39247_17 : decode cJ7_copyOfRange_39247 17 = .ok (.aload_n 0, 1) := by decide +kernel
theorem dJ7_copyOfRange_39247_18 : decode cJ7_copyOfRange_39247 18 = .ok (.invokevirtual 310, 3) := by decide +kernel
theorem dJ7_copyOfRange_39247_21 : decode cJ7_copyOfRange_39247 21 = .ok (.checkcast 311, 3) := by decide +kernel
theorem dJ7_copyOfRange_39247_24 : decode cJ7_copyOfRange_39247 24 = .ok (.areturn, 1) := by decide +kernel
theorem dJ7_copyOfRangeByte_39247_0 : decode cJ7_copyOfRangeByte_39247 0 = .ok (.iload_n 1, 1) := by decide +kernel
theorem dJ7_copyOfRangeByte_39247_1 : decode cJ7_copyOfRangeByte_39247 1 = .ok (.iload_n 2, 1) := by decide +kernel
theorem dJ7_copyOfRangeByte_39247_2 : decode cJ7_copyOfRangeByte_39247 2 = .ok (.invokestatic 343, 3) := by decide +kernel
theorem dJ7_copyOfRangeByte_39247_5 : decode cJ7_copyOfRangeByte_39247 5 = .ok (.iload_n 2, 1) := by decide +kernel
theorem dJ7_copyOfRangeByte_39247_6 : decode cJ7_copyOfRangeByte_39247 6 = .ok (.iload_n 1, 1) := by decide +kernel
theorem dJ7_copyOfRangeByte_39247_7 : decode cJ7_copyOfRangeByte_39247 7 = .ok (.isub, 1) := by decide +kernel
theorem dJ7_copyOfRangeByte_39247_8 : decode cJ7_copyOfRangeByte_39247 8 = .ok (.istore_n 3, 1) := by decide +kernel
theorem dJ7_copyOfRangeByte_39247_9 : decode cJ7_copyOfRangeByte_39247 9 = .ok (.iload_n 3, 1) := by decide +kernel
theorem dJ7_copyOfRangeByte_39247_10 : decode cJ7_copyOfRangeByte_39247 10 = .ok (.newarray .byte, 2) := by decide +kernel
theorem dJ7_copyOfRangeByte_39247_12 : decode cJ7_copyOfRangeByte_39247 12 = .ok (.astore 4, 2) := by decide +kernel
theorem dJ7_copyOfRangeByte_39247_14 : decode cJ7_copyOfRangeByte_39247 14 = .ok (.aload_n 0, 1) := by decide +kernel
theorem dJ7_copyOfRangeByte_39247_15 : decode cJ7_copyOfRangeByte_39247 15 = .ok (.iload_n 1, 1) := by decide +kernel
theorem dJ7_copyOfRangeByte_39247_16 : decode cJ7_copyOfRangeByte_39247 16 = .ok (.aload 4, 2) := by decide +kernel
theorem dJ7_copyOfRangeByte_39247_18 : decode cJ7_copyOfRangeByte_39247 18 = .ok (.iconst 0, 1) := by decide +kernel
theorem dJ7_copyOfRangeByte_39247_19 : decode cJ7_copyOfRangeByte_39247 19 = .ok (.aload_n 0, 1) := by decide +kernel
theorem dJ7_copyOfRangeByte_39247_20 : decode cJ7_copyOfRangeByte_39247 20 = .ok (.arraylength, 1) := by decide +kernel
theorem dJ7_copyOfRangeByte_39247_21 : decode cJ7_copyOfRangeByte_39247 21 = .ok (.iload_n 1, 1) := by decide +kernel
theorem dJ7_copyOfRangeByte_39247_22 : decode cJ7_copyOfRangeByte_39247 22 = .ok (.isub, 1) := by decide +kernel
theorem dJ7_copyOfRangeByte_39247_23 : decode cJ7_copyOfRangeByte_39247 23 = .ok (.iload_n 3, 1) := by decide +kernel
theorem dJ7_copyOfRangeByte_39247_24 : decode cJ7_copyOfRangeByte_39247 24 = .ok (.invokestatic 304, 3) := by decide +kernel
theorem dJ7_copyOfRangeByte_39247_27 : decode cJ7_copyOfRangeByte_39247 27 = .ok (.invokestatic 150, 3) := by decide +kernel
theorem dJ7_copyOfRangeByte_39247_30 : decode cJ7_copyOfRangeByte_39247 30 = .ok (.aload 4, 2) := by decide +kernel
theorem dJ7_copyOfRangeByte_39247_32 : decode cJ7_copyOfRangeByte_39247 32 = .ok (.areturn, 1) := by decide +kernel
abbrev rmJ5_init_d00df : Room := { frames := 1, cells := 1, slots := 16, locals := 20 }
theorem mJ5_init_d00df {l : Launch} {G : Cx} {A : Nat → Prop} {a : Nat} (hAa : A a) : Met l yJ5_init_d00df (.code yJ5_init_d00df cJ5_init_d00df 2 (none : Option Jvm.ClassFile.FieldType) :: GW) rmJ5_init_d00df (PC G A [.ref a, .int (nI 16)] (fun H => va_at G.1 vwCl (a, .inr (1, [.null, .int 0, .int 0, .int 0])) H)) (qV A (SBs G A a 0)) 1 16 (A) := by
  refine mstart "java/lang/AbstractStringBuilder" (by decide +kernel) rfl (Nat.le_of_ble_eq_true rfl) ?_
  intro p e s m below meth c ls hx hb hr hts hown hml hlocks hname hC hA hW hl
  have hl : lv_has ls 2 [(0, .ref a), (1, .int (nI 16))] := hl
  have hK := hC.1
  have hS : va_S A s.heap s.heap [] := va_S.rf
  obtain ⟨-, -, -, -, -, -, -, zc8, -⟩ := hC.2.2.1
  have hO := hW
  refine lv_aload_n hx hb dJ5_init_d00df_0 rfl (lv_at hl 0 rfl) ?_
  refine W.objInit hx hb hown (hts _ tw_5_202) (hts _ tw_1_35) (hts _ tw_1_36) rfl (by rw [hml]; exact hl.1) rfl dJ5_init_d00df_1 (Nat.le_of_ble_eq_true rfl) (Nat.le_of_ble_eq_true rfl) ?_
  refine W.eq (g2 := F0 m 4 ls []) rfl ?_
  refine va_gets (v := .int 1) hx hb zc8 hS hown (hts _ tw_5_203) (fun _ h9 => h9) dJ5_init_d00df_4 ?_
  refine lv_if_eq (tgt := 25) hx hb dJ5_init_d00df_7 (by decide) (fun q => absurd q (by decide)) (fun _ => ?_)
  refine lv_aload_n hx hb dJ5_init_d00df_10 rfl (lv_at hl 0 rfl) ?_
  refine lv_iload_n hx hb dJ5_init_d00df_11 rfl (lv_at hl 1 rfl) ?_
  refine h_newa (D := G.1) (atype := .byte) (N := 16) (z := (16, .inl (fun _ => 0))) hx hb (hts _ tw_1_162) rfl (fun h => h) hK 2 rfl hS rfl (nI_pos (by omega)) (nI_clamp (by omega)) (show 16 * _ ≤ _ from by show 16 * 1 ≤ 536870912; omega) (Nat.le_trans (show 0 + 1 ≤ 1 by omega) (Nat.le_of_ble_eq_true rfl)) (Nat.le_trans (show 0 + 16 ≤ 16 by omega) (Nat.le_of_ble_eq_true rfl)) dJ5_init_d00df_12 (fun na H21 hna hFna z21 o21 hS => ?_)
  have n21hO : a ≠ na := fun q => absurd hO.lt (by rw [q, hna]; exact Nat.lt_irrefl _)
  have hO := at_n hO o21
  have hZ21 := hS.1
  have hMna : A na := hA na (by omega)
  refine h_put (D := G.1) (ci := 1) (C := RJ4) (T := TJ4) (N := 4) hx hb hts inJ4 tyJ4 tyJ4_ok nmJ4 hown hK hO hS hAa rfl 0 (by decide) (hts _ tw_5_205) (fun _ h9 => h9) rfl (tyJ4_ok 0 (by decide)) rfl rfl (Nat.le_of_ble_eq_true rfl) dJ5_init_d00df_14 (fun H22 L22 hO z22 o22 hS => ?_)
  have hO : va_at G.1 vwCl (a, .inr (1, [.ref na, .int 0, .int 0, .int 0])) H22 := hO
  have hFna := at_o hFna o22 (Ne.symm n21hO)
  have hZ22 := hS.1
  refine lv_aload_n hx hb dJ5_init_d00df_17 rfl (lv_at hl 0 rfl) ?_
  refine lv_iconst (v := nI 0) hx hb dJ5_init_d00df_18 (by decide) ?_
  refine h_put (D := G.1) (ci := 1) (C := RJ4) (T := TJ4) (N := 4) hx hb hts inJ4 tyJ4 tyJ4_ok nmJ4 hown hK hO hS hAa rfl 1 (by decide) (hts _ tw_5_206) (fun _ h9 => h9) rfl (tyJ4_ok 1 (by decide)) rfl rfl (Nat.le_of_ble_eq_true rfl) dJ5_init_d00df_19 (fun H23 L23 hO z23 o23 hS => ?_)
  have hO : va_at G.1 vwCl (a, .inr (1, [.ref na, .int 0, .int 0, .int 0])) H23 := hO
  have hFna := at_o hFna o23 (Ne.symm n21hO)
  have hZ23 := hS.1
  refine lv_goto (tgt := 38) hx hb dJ5_init_d00df_22 (by decide) ?_
  exact q_v hx hb hr hlocks dJ5_init_d00df_38 hS (by omega) (by omega) ⟨na, 16, _, hO, hFna, hMna, Nat.zero_le _, Nat.le_refl _, by decide, fun i hi => rfl⟩

abbrev rmJ4_init_da8c8 : Room := { frames := 2, cells := 1, slots := 16, locals := 41 }
theorem mJ4_init_da8c8 {l : Launch} {G : Cx} {A : Nat → Prop} {a : Nat} (hAa : A a) : Met l yJ4_init_da8c8 (.code yJ4_init_da8c8 cJ4_init_da8c8 1 (none : Option Jvm.ClassFile.FieldType) :: GW) rmJ4_init_da8c8 (PC G A [.ref a] (fun H => va_at G.1 vwCl (a, .inr (1, [.null, .int 0, .int 0, .int 0])) H)) (qV A (SBs G A a 0)) 1 16 (A) := by
  refine mstart "java/lang/StringBuilder" (by decide +kernel) rfl (Nat.le_of_ble_eq_true rfl) ?_
  intro p e s m below meth c ls hx hb hr hts hown hml hlocks hname hC hA hW hl
  have hl : lv_has ls 1 [(0, .ref a)] := hl
  have hK := hC.1
  have hS : va_S A s.heap s.heap [] := va_S.rf
  have hO := hW
  refine lv_aload_n hx hb dJ4_init_da8c8_0 rfl (lv_at hl 0 rfl) ?_
  refine lv_bipush (v := nI 16) hx hb dJ4_init_da8c8_1 (by decide) ?_
  refine qV_I (A := A) (A1 := A) (b := a) (As := [.int (nI 16)]) (rest := []) ⟨hx, hb, hml, hown, hts⟩ (mJ5_init_d00df (A := A) hAa) (cwI 1 hts (gI tw_5_201) rfl rfl rfl (hts _ tw_1_24) (hts _ tw_5_199) (hts _ tw_5_200) rfl (by decide +kernel) ⟨Nat.le_of_ble_eq_true rfl, Nat.le_of_ble_eq_true rfl⟩) hC hS (fun _ h => h) (fun q h => hA q (Nat.le_trans hS.1 h))  hO rfl rfl hl.1 (Nat.le_of_ble_eq_true rfl) ⟨Nat.le_trans (show 0 + 1 ≤ 1 by omega) (Nat.le_of_ble_eq_true rfl), Nat.le_trans (show 0 + 16 ≤ 16 by omega) (Nat.le_of_ble_eq_true rfl)⟩ dJ4_init_da8c8_3 (fun H24 L24 hP24 hk24 hS => ?_)
  have hZ24 := hS.1
  exact q_v hx hb hr hlocks dJ4_init_da8c8_6 hS (by omega) (by omega) hP24

abbrev rmJ5_isLatin1_aae02 : Room := { frames := 1, cells := 0, slots := 0, locals := 20 }
theorem mJ5_isLatin1_aae02 {l : Launch} {G : Cx} {A : Nat → Prop} {a va n : Nat} : Met l yJ5_isLatin1_aae02 (.code yJ5_isLatin1_aae02 cJ5_isLatin1_aae02 1 (some .boolean) :: GW) rmJ5_isLatin1_aae02 (PC G A [.ref a] (fun H => va_at G.1 vwCl (a, .inr (1, [.ref va, .int 0, .int 0, .int (nI n)])) H)) (vp_Si (fun r => r = bI true)) 0 0 (fun _ => False) := by
  refine mstart "java/lang/AbstractStringBuilder" (by decide +kernel) rfl (Nat.le_of_ble_eq_true rfl) ?_
  intro p e s m below meth c ls hx hb hr hts hown hml hlocks hname hC hA hW hl
  have hl : lv_has ls 1 [(0, .ref a)] := hl
  have hK := hC.1
  have hS : va_S A s.heap s.heap [] := va_S.rf
  obtain ⟨-, -, -, -, -, -, -, zc8, -⟩ := hC.2.2.1
  have hO := hW
  refine va_gets (v := .int 1) hx hb zc8 hS hown (hts _ tw_5_203) (fun _ h9 => h9) dJ5_isLatin1_aae02_0 ?_
  refine lv_if_eq (tgt := 17) hx hb dJ5_isLatin1_aae02_3 (by decide) (fun q => absurd q (by decide)) (fun _ => ?_)
  refine lv_aload_n hx hb dJ5_isLatin1_aae02_6 rfl (lv_at hl 0 rfl) ?_
  refine va_get (D := G.1) (ci := 1) (C := RJ4) (T := TJ4) (N := 4) hx hb hts inJ4 hown hK (at_P hO) 0 rfl rfl 1 (by decide) (hts _ tw_5_206) (fun _ h9 => h9) rfl dJ5_isLatin1_aae02_7 ?_
  refine lv_if_ne (tgt := 17) hx hb dJ5_isLatin1_aae02_10 (by decide) (fun q => absurd rfl q) (fun _ => ?_)
  refine lv_iconst (v := nI 1) hx hb dJ5_isLatin1_aae02_13 (by decide) ?_
  refine lv_goto (tgt := 18) hx hb dJ5_isLatin1_aae02_14 (by decide) ?_
  exact p_z (b := true) hx hb hr hlocks dJ5_isLatin1_aae02_18 rfl

abbrev rmJ1_canEncode_fc78d : Room := { frames := 0, cells := 0, slots := 0, locals := 0 }
theorem mJ1_canEncode_fc78d {l : Launch} {G : Cx} {A : Nat → Prop} {k0 : Nat} (hk0 : k0 < 256) : Met l yJ1_canEncode_fc78d (.code yJ1_canEncode_fc78d cJ1_canEncode_fc78d 1 (some .boolean) :: GW) rmJ1_canEncode_fc78d (PC G A [.int (nI k0)] (fun _ => True)) (vp_Si (fun r => r = bI true)) 0 0 (fun _ => False) := by
  refine mstart "java/lang/StringLatin1" (by decide +kernel) rfl (Nat.le_of_ble_eq_true rfl) ?_
  intro p e s m below meth c ls hx hb hr hts hown hml hlocks hname hC hA hW hl
  have hl : lv_has ls 1 [(0, .int (nI k0))] := hl
  have hK := hC.1
  have hS : va_S A s.heap s.heap [] := va_S.rf
  refine lv_iload_n hx hb dJ1_canEncode_fc78d_0 rfl (lv_at hl 0 rfl) ?_
  refine lv_sipush (v := nI 255) hx hb dJ1_canEncode_fc78d_1 (by decide) ?_
  refine b_gt (tgt := 11) hx hb dJ1_canEncode_fc78d_4 (by decide) (by omega) (by omega) (fun c_25 => ?_) (fun c_25 => ?_)
  · exact absurd c_25 (by omega)
  · refine lv_iconst (v := nI 1) hx hb dJ1_canEncode_fc78d_7 (by decide) ?_
    refine lv_goto (tgt := 12) hx hb dJ1_canEncode_fc78d_8 (by decide) ?_
    exact p_z (b := true) hx hb hr hlocks dJ1_canEncode_fc78d_12 rfl

abbrev rmJ5_getValue_6d5f1 : Room := { frames := 1, cells := 0, slots := 0, locals := 20 }
theorem mJ5_getValue_6d5f1 {l : Launch} {G : Cx} {A : Nat → Prop} {a va n : Nat} : Met l yJ5_getValue_6d5f1 (.code yJ5_getValue_6d5f1 cJ5_getValue_6d5f1 1 (some (.array .byte)) :: GW) rmJ5_getValue_6d5f1 (PC G A [.ref a] (fun H => va_at G.1 vwCl (a, .inr (1, [.ref va, .int 0, .int 0, .int (nI n)])) H)) (pR (fun r => r = va)) 0 0 (fun _ => False) := by
  refine mstart "java/lang/AbstractStringBuilder" (by decide +kernel) rfl (Nat.le_of_ble_eq_true rfl) ?_
  intro p e s m below meth c ls hx hb hr hts hown hml hlocks hname hC hA hW hl
  have hl : lv_has ls 1 [(0, .ref a)] := hl
  have hK := hC.1
  have hS : va_S A s.heap s.heap [] := va_S.rf
  have hO := hW
  refine lv_aload_n hx hb dJ5_getValue_6d5f1_0 rfl (lv_at hl 0 rfl) ?_
  refine va_get (D := G.1) (ci := 1) (C := RJ4) (T := TJ4) (N := 4) hx hb hts inJ4 hown hK (at_P hO) 0 rfl rfl 0 (by decide) (hts _ tw_5_205) (fun _ h9 => h9) rfl dJ5_getValue_6d5f1_1 ?_
  exact p_a hx hb hr (Or.inr ⟨_, rfl⟩) hlocks dJ5_getValue_6d5f1_4 rfl

abbrev rmJ5_length_8abf5 : Room := { frames := 1, cells := 0, slots := 0, locals := 20 }
theorem mJ5_length_8abf5 {l : Launch} {G : Cx} {A : Nat → Prop} {a va n : Nat} : Met l yJ5_length_8abf5 (.code yJ5_length_8abf5 cJ5_length_8abf5 1 (some .int) :: GW) rmJ5_length_8abf5 (PC G A [.ref a] (fun H => va_at G.1 vwCl (a, .inr (1, [.ref va, .int 0, .int 0, .int (nI n)])) H)) (vp_Si (fun r => r = nI n)) 0 0 (fun _ => False) := by
  refine mstart "java/lang/AbstractStringBuilder" (by decide +kernel) rfl (Nat.le_of_ble_eq_true rfl) ?_
  intro p e s m below meth c ls hx hb hr hts hown hml hlocks hname hC hA hW hl
  have hl : lv_has ls 1 [(0, .ref a)] := hl
  have hK := hC.1
  have hS : va_S A s.heap s.heap [] := va_S.rf
  have hO := hW
  refine lv_aload_n hx hb dJ5_length_8abf5_0 rfl (lv_at hl 0 rfl) ?_
  refine va_get (D := G.1) (ci := 1) (C := RJ4) (T := TJ4) (N := 4) hx hb hts inJ4 hown hK (at_P hO) 0 rfl rfl 3 (by decide) (hts _ tw_5_208) (fun _ h9 => h9) rfl dJ5_length_8abf5_1 ?_
  exact p_i hx hb hr hlocks dJ5_length_8abf5_4 rfl

abbrev rmJ5_newCapacity_0f7a4 : Room := { frames := 2, cells := 0, slots := 0, locals := 43 }
theorem mJ5_newCapacity_0f7a4 {l : Launch} {G : Cx} {A : Nat → Prop} {a va n cap : Nat} {g : Nat → Int32} (hc : cap ≤ 1000) : Met l yJ5_newCapacity_0f7a4 (.code yJ5_newCapacity_0f7a4 cJ5_newCapacity_0f7a4 6 (some .int) :: GW) rmJ5_newCapacity_0f7a4 (PC G A [.ref a, .int (nI (cap + 1))] (fun H => va_at G.1 vwCl (a, .inr (1, [.ref va, .int 0, .int 0, .int (nI n)])) H ∧ va_at G.1 vwCl (va, .inl (G.2.1 2, cap, .inl g)) H)) (vp_Si (fun r => r = nI (cap + max 1 (cap + 2)))) 0 0 (fun _ => False) := by
  refine mstart "java/lang/AbstractStringBuilder" (by decide +kernel) rfl (Nat.le_of_ble_eq_true rfl) ?_
  intro p e s m below meth c ls hx hb hr hts hown hml hlocks hname hC hA hW hl
  have hl : lv_has ls 6 [(0, .ref a), (1, .int (nI (cap + 1)))] := hl
  have hK := hC.1
  have hS : va_S A s.heap s.heap [] := va_S.rf
  obtain ⟨hO, hB⟩ := hW
  have hm1 := Nat.le_max_left 1 (cap + 2)
  have hm2 : max 1 (cap + 2) ≤ cap + 2 := Nat.max_le.mpr ⟨by omega, Nat.le_refl _⟩
  refine lv_aload_n hx hb dJ5_newCapacity_0f7a4_0 rfl (lv_at hl 0 rfl) ?_
  refine va_get (D := G.1) (ci := 1) (C := RJ4) (T := TJ4) (N := 4) hx hb hts inJ4 hown hK (at_P hO) 0 rfl rfl 0 (by decide) (hts _ tw_5_205) (fun _ h9 => h9) rfl dJ5_newCapacity_0f7a4_1 ?_
  refine va_alen hx hb hK (at_P hB) 0 2 (v := nI cap) rfl rfl rfl dJ5_newCapacity_0f7a4_4 ?_
  refine lv_istore_n (lv' := [(2, .int (nI cap)), (0, .ref a), (1, .int (nI (cap + 1)))]) hx hb dJ5_newCapacity_0f7a4_5 rfl hl (by decide) rfl (fun ls hl => ?_)
  refine lv_iload_n hx hb dJ5_newCapacity_0f7a4_6 rfl (lv_at hl 2 rfl) ?_
  refine lv_aload_n hx hb dJ5_newCapacity_0f7a4_7 rfl (lv_at hl 1 rfl) ?_
  refine va_get (D := G.1) (ci := 1) (C := RJ4) (T := TJ4) (N := 4) hx hb hts inJ4 hown hK (at_P hO) 0 rfl rfl 1 (by decide) (hts _ tw_5_206) (fun _ h9 => h9) rfl dJ5_newCapacity_0f7a4_8 ?_
  refine lv_ishl hx hb dJ5_newCapacity_0f7a4_11 ?_
  refine lv_cv (show _ = nI (cap + 1) from (pk_shlN _ 0 (by decide) (by omega)).trans (by rw [Nat.pow_zero, Nat.mul_one])) ?_
  refine lv_istore_n (lv' := [(3, .int (nI (cap + 1))), (2, .int (nI cap)), (0, .ref a), (1, .int (nI (cap + 1)))]) hx hb dJ5_newCapacity_0f7a4_12 rfl hl (by decide) rfl (fun ls hl => ?_)
  refine lv_iload_n hx hb dJ5_newCapacity_0f7a4_13 rfl (lv_at hl 0 rfl) ?_
  refine lv_iload_n hx hb dJ5_newCapacity_0f7a4_14 rfl (lv_at hl 1 rfl) ?_
  refine lv_isub hx hb dJ5_newCapacity_0f7a4_15 ?_
  refine lv_cv (pk_sub (a := cap + 1) (b := cap) (by omega)) ?_
  refine lv_cv (show nI (cap + 1 - cap) = nI 1 from by rw [Nat.add_sub_cancel_left]) ?_
  refine lv_istore (lv' := [(4, .int (nI 1)), (3, .int (nI (cap + 1))), (2, .int (nI cap)), (0, .ref a), (1, .int (nI (cap + 1)))]) hx hb dJ5_newCapacity_0f7a4_16 hl (by decide) rfl (fun ls hl => ?_)
  refine lv_iload_n hx hb dJ5_newCapacity_0f7a4_18 rfl (lv_at hl 2 rfl) ?_
  refine lv_iload hx hb dJ5_newCapacity_0f7a4_19 (lv_at hl 0 rfl) ?_
  refine lv_iload_n hx hb dJ5_newCapacity_0f7a4_21 rfl (lv_at hl 2 rfl) ?_
  refine lv_iconst (v := nI 2) hx hb dJ5_newCapacity_0f7a4_22 (by decide) ?_
  refine lv_aload_n hx hb dJ5_newCapacity_0f7a4_23 rfl (lv_at hl 3 rfl) ?_
  refine va_get (D := G.1) (ci := 1) (C := RJ4) (T := TJ4) (N := 4) hx hb hts inJ4 hown hK (at_P hO) 0 rfl rfl 1 (by decide) (hts _ tw_5_206) (fun _ h9 => h9) rfl dJ5_newCapacity_0f7a4_24 ?_
  refine lv_ishl hx hb dJ5_newCapacity_0f7a4_27 ?_
  refine lv_cv (show _ = nI 2 from rfl) ?_
  refine lv_iadd hx hb dJ5_newCapacity_0f7a4_28 ?_
  refine lv_cv (nI_add cap 2) ?_
  refine kS_i (A := A) (As := [.int (nI cap), .int (nI 1), .int (nI (cap + 2))]) (rest := []) ⟨hx, hb, hml, hown, hts⟩ (mJ8_newLength_cabcc (A := A) (o9 := cap) (a9 := 1) (b9 := cap + 2) (by omega) (by omega)) (va_cwS 3 hts (gS tw_5_233 tw_5_102 tw_1_20 tw_5_103) rfl rfl rfl (by decide +kernel) ⟨Nat.le_of_ble_eq_true rfl, Nat.le_of_ble_eq_true rfl⟩) hC hS hA  trivial rfl rfl hl.1 (Nat.le_of_ble_eq_true rfl) ⟨Nat.zero_le _, Nat.zero_le _⟩ dJ5_newCapacity_0f7a4_29 (fun r9 h9 => lv_cv h9 ?_)
  refine lv_istore (lv' := [(5, .int (nI (cap + max 1 (cap + 2)))), (4, .int (nI 1)), (3, .int (nI (cap + 1))), (2, .int (nI cap)), (0, .ref a), (1, .int (nI (cap + 1)))]) hx hb dJ5_newCapacity_0f7a4_32 hl (by decide) rfl (fun ls hl => ?_)
  refine lv_iload hx hb dJ5_newCapacity_0f7a4_34 (lv_at hl 0 rfl) ?_
  refine lv_ldc (v := 2147483647) hx hb hown (hts _ tw_5_234) dJ5_newCapacity_0f7a4_36 ?_
  refine lv_cv (show (2147483647 : Int32) = nI 2147483647 from rfl) ?_
  refine b_ne (tgt := 51) hx hb dJ5_newCapacity_0f7a4_38 (by decide) (by omega) (by omega) (fun c_26 => ?_) (fun c_26 => ?_)
  · refine lv_iload hx hb dJ5_newCapacity_0f7a4_51 (lv_at hl 0 rfl) ?_
    refine lv_aload_n hx hb dJ5_newCapacity_0f7a4_53 rfl (lv_at hl 4 rfl) ?_
    refine va_get (D := G.1) (ci := 1) (C := RJ4) (T := TJ4) (N := 4) hx hb hts inJ4 hown hK (at_P hO) 0 rfl rfl 1 (by decide) (hts _ tw_5_206) (fun _ h9 => h9) rfl dJ5_newCapacity_0f7a4_54 ?_
    refine lv_ishr hx hb dJ5_newCapacity_0f7a4_57 ?_
    refine lv_cv (show _ = nI (cap + max 1 (cap + 2)) from (pk_shrN (by omega) _ 0 (by decide)).trans (by rw [Nat.pow_zero, Nat.div_one])) ?_
    exact p_i hx hb hr hlocks dJ5_newCapacity_0f7a4_58 rfl
  · exact absurd c_26 (by omega)

abbrev rmJ7_copyOf_9075b : Room := { frames := 1, cells := 1, slots := 122, locals := 60 }
theorem mJ7_copyOf_9075b {l : Launch} {G : Cx} {A : Nat → Prop} {va cap m9 sz : Nat} {f : Nat → Int32} (hAv : A va) (hc : cap < m9) (hm9 : m9 ≤ 122) (hf : ∀ i : Nat, i < cap → fits .byte (.int (f i)) = true) : Met l yJ7_copyOf_9075b (.code yJ7_copyOf_9075b cJ7_copyOf_9075b 3 (some (.array .byte)) :: GW) rmJ7_copyOf_9075b (PC G A [.ref va, .int (nI m9)] (fun H => H.size = sz ∧ va_at G.1 vwCl (va, .inl (G.2.1 2, cap, .inl f)) H)) (qR A (fun r H => sz ≤ r ∧ va_at G.1 vwCl (va, .inl (G.2.1 2, cap, .inl f)) H ∧ ∃ g : Nat → Int32, va_at G.1 vwCl (r, .inl (G.2.1 2, m9, .inl g)) H ∧ ∀ i : Nat, i < m9 → fits .byte (.int (g i)) = true)) 1 122 (A) := by
  refine mstart "java/util/Arrays" (by decide +kernel) rfl (Nat.le_of_ble_eq_true rfl) ?_
  intro p e s m below meth c ls hx hb hr hts hown hml hlocks hname hC hA hW hl
  have hl : lv_has ls 3 [(0, .ref va), (1, .int (nI m9))] := hl
  have hK := hC.1
  have hS : va_S A s.heap s.heap [] := va_S.rf
  obtain ⟨hsz, hB⟩ := hW
  refine lv_iload_n hx hb dJ7_copyOf_9075b_0 rfl (lv_at hl 1 rfl) ?_
  refine lv_aload_n hx hb dJ7_copyOf_9075b_1 rfl (lv_at hl 0 rfl) ?_
  refine va_alen hx hb hK (at_P hB) 0 2 (v := nI cap) rfl rfl rfl dJ7_copyOf_9075b_2 ?_
  refine b_ne (tgt := 14) hx hb dJ7_copyOf_9075b_3 (by decide) (by omega) (by omega) (fun c_27 => ?_) (fun c_27 => ?_)
  · refine lv_iload_n hx hb dJ7_copyOf_9075b_14 rfl (lv_at hl 1 rfl) ?_
    refine h_newa (D := G.1) (atype := .byte) (N := m9) (z := (m9, .inl (fun _ => 0))) hx hb (hts _ tw_1_162) rfl (fun h => h) hK 2 rfl hS rfl (nI_pos (by omega)) (nI_clamp (by omega)) (show m9 * _ ≤ _ from by show m9 * 1 ≤ 536870912; omega) (Nat.le_trans (show 0 + 1 ≤ 1 by omega) (Nat.le_of_ble_eq_true rfl)) (Nat.le_trans (show 0 + m9 ≤ 122 by omega) (Nat.le_of_ble_eq_true rfl)) dJ7_copyOf_9075b_15 (fun na H28 hna hFna z28 o28 hS => ?_)
    have n28hB : va ≠ na := fun q => absurd hB.lt (by rw [q, hna]; exact Nat.lt_irrefl _)
    have hB := at_n hB o28
    have hZ28 := hS.1
    have hMna : A na := hA na (by omega)
    refine lv_astore_n (lv' := [(2, .ref na), (0, .ref va), (1, .int (nI m9))]) hx hb dJ7_copyOf_9075b_17 rfl hl (by decide) rfl (fun ls hl => ?_)
    refine lv_aload_n hx hb dJ7_copyOf_9075b_18 rfl (lv_at hl 1 rfl) ?_
    refine lv_iconst (v := nI 0) hx hb dJ7_copyOf_9075b_19 (by decide) ?_
    refine lv_aload_n hx hb dJ7_copyOf_9075b_20 rfl (lv_at hl 0 rfl) ?_
    refine lv_iconst (v := nI 0) hx hb dJ7_copyOf_9075b_21 (by decide) ?_
    refine lv_aload_n hx hb dJ7_copyOf_9075b_22 rfl (lv_at hl 1 rfl) ?_
    refine va_alen hx hb hK (at_P hB) 0 2 (v := nI cap) rfl rfl rfl dJ7_copyOf_9075b_23 ?_
    refine lv_iload_n hx hb dJ7_copyOf_9075b_24 rfl (lv_at hl 2 rfl) ?_
    refine va_mmin hx hb (hml.trans hl.1.symm) hown (hts _ tw_5_136) (hts _ tw_5_137) (hts _ tw_1_19) (hts _ tw_5_138) (Nat.le_of_ble_eq_true rfl) (Nat.le_of_ble_eq_true rfl) (Nat.le_trans (show (0 + 1) ≤ 1 by omega) (Nat.le_of_ble_eq_true rfl)) (Nat.le_trans (show (0 + m9) ≤ 122 by omega) (Nat.le_of_ble_eq_true rfl)) dJ7_copyOf_9075b_25 ?_
    refine lv_cv (mmin_nI (a := cap) (b := m9) (by omega) (by omega)) ?_
    refine lv_cv (show _ = nI cap from by rw [Nat.min_eq_left (by omega)]) ?_
    refine va_copyi (D := G.1) (a := na) (a0 := va) (f := f) (g := (fun _ => 0)) (ty := .byte) (ws := [(va, .inl (G.2.1 2, cap, .inl f)), (na, .inl (G.2.1 2, m9, .inl (fun _ => 0)))]) hx hb (hml.trans hl.1.symm) hown (hts _ tw_5_139) (hts _ tn_acopy) (hts _ tw_5_140) (hts _ tw_1_22) hK (at_P2 hB hFna) (at_D2 n28hB hAv hMna) hS 0 1 2 2 rfl rfl rfl rfl rfl (nI_pos (by omega)) (nI_pos (by omega)) (nI_pos (by omega)) (by rw [nI_clamp (by omega), nI_clamp (by omega)]; omega) (by rw [nI_clamp (by omega), nI_clamp (by omega)]; omega) (fun i hi => by rw [nI_clamp (by omega)] at hi ⊢; rw [Nat.zero_add]; exact hf i hi) (Nat.le_of_ble_eq_true rfl) (Nat.le_of_ble_eq_true rfl) dJ7_copyOf_9075b_28 (fun H9 L9 hP9 hD9 hS => ?_)
    have hB := hP9 0 _ rfl
    have hFna := hP9 1 _ rfl
    have hZ9 := hS.1
    refine lv_aload_n hx hb dJ7_copyOf_9075b_31 rfl (lv_at hl 0 rfl) ?_
    exact q_a hx hb hr (Or.inr ⟨_, rfl⟩) hlocks dJ7_copyOf_9075b_32 hS (by omega) (by omega) ⟨by omega, hB, _, hFna, fun i hi => by unfold va_cpy; split; (next q => exact hf _ (by rw [nI_clamp (by omega), nI_clamp (by omega)] at q; rw [nI_clamp (by omega)]; omega)); rfl⟩
  · exact absurd c_27 (by omega)

abbrev rmJ5_ensureCapacityInternal_d00df : Room := { frames := 3, cells := 1, slots := 122, locals := 82 }
theorem mJ5_ensureCapacityInternal_d00df {l : Launch} {G : Cx} {A : Nat → Prop} {a n : Nat} (hAa : A a) (h60 : n ≤ 60) : Met l yJ5_ensureCapacityInternal_d00df (.code yJ5_ensureCapacityInternal_d00df cJ5_ensureCapacityInternal_d00df 3 (none : Option Jvm.ClassFile.FieldType) :: GW) rmJ5_ensureCapacityInternal_d00df (PC G A [.ref a, .int (nI (n + 1))] (SBs G A a n)) (qV A (fun H => ∃ (va cap : Nat) (g : Nat → Int32), va_at G.1 vwCl (a, .inr (1, [.ref va, .int 0, .int 0, .int (nI n)])) H ∧ va_at G.1 vwCl (va, .inl (G.2.1 2, cap, .inl g)) H ∧ A va ∧ n + 1 ≤ cap ∧ 16 ≤ cap ∧ cap < 2 ^ 20 ∧ ∀ i : Nat, i < cap → fits .byte (.int (g i)) = true)) 1 122 (A) := by
  refine mstart "java/lang/AbstractStringBuilder" (by decide +kernel) rfl (Nat.le_of_ble_eq_true rfl) ?_
  intro p e s m below meth c ls hx hb hr hts hown hml hlocks hname hC hA hW hl
  have hl : lv_has ls 3 [(0, .ref a), (1, .int (nI (n + 1)))] := hl
  have hK := hC.1
  have hS : va_S A s.heap s.heap [] := va_S.rf
  obtain ⟨va, cap, g, hO, hB, hAv, hnc, h16, hc20, hg⟩ := hW
  refine lv_aload_n hx hb dJ5_ensureCapacityInternal_d00df_0 rfl (lv_at hl 0 rfl) ?_
  refine va_get (D := G.1) (ci := 1) (C := RJ4) (T := TJ4) (N := 4) hx hb hts inJ4 hown hK (at_P hO) 0 rfl rfl 0 (by decide) (hts _ tw_5_205) (fun _ h9 => h9) rfl dJ5_ensureCapacityInternal_d00df_1 ?_
  refine va_alen hx hb hK (at_P hB) 0 2 (v := nI cap) rfl rfl rfl dJ5_ensureCapacityInternal_d00df_4 ?_
  refine lv_aload_n hx hb dJ5_ensureCapacityInternal_d00df_5 rfl (lv_at hl 0 rfl) ?_
  refine va_get (D := G.1) (ci := 1) (C := RJ4) (T := TJ4) (N := 4) hx hb hts inJ4 hown hK (at_P hO) 0 rfl rfl 1 (by decide) (hts _ tw_5_206) (fun _ h9 => h9) rfl dJ5_ensureCapacityInternal_d00df_6 ?_
  refine lv_ishr hx hb dJ5_ensureCapacityInternal_d00df_9 ?_
  refine lv_cv (show _ = nI cap from (pk_shrN (by omega) _ 0 (by decide)).trans (by rw [Nat.pow_zero, Nat.div_one])) ?_
  refine lv_istore_n (lv' := [(2, .int (nI cap)), (0, .ref a), (1, .int (nI (n + 1)))]) hx hb dJ5_ensureCapacityInternal_d00df_10 rfl hl (by decide) rfl (fun ls hl => ?_)
  refine lv_iload_n hx hb dJ5_ensureCapacityInternal_d00df_11 rfl (lv_at hl 2 rfl) ?_
  refine lv_iload_n hx hb dJ5_ensureCapacityInternal_d00df_12 rfl (lv_at hl 0 rfl) ?_
  refine lv_isub hx hb dJ5_ensureCapacityInternal_d00df_13 ?_
  refine lv_if_le (tgt := 38) hx hb dJ5_ensureCapacityInternal_d00df_14 (by decide) (fun c_29 => ?_) (fun c_29 => ?_)
  · exact q_v hx hb hr hlocks dJ5_ensureCapacityInternal_d00df_38 hS (by omega) (by omega) ⟨va, cap, g, hO, hB, hAv, sbI_le (by omega) (by omega) c_29, h16, hc20, hg⟩
  · have hcn : n = cap := by rcases Nat.lt_or_ge n cap with q | q; exact absurd (show nI (n + 1) - nI cap ≤ 0 from sbI_le2 (by omega) (by omega) (by omega)) c_29; omega
    subst hcn
    have hm1 := Nat.le_max_left 1 (n + 2)
    have hm2 : max 1 (n + 2) ≤ n + 2 := Nat.max_le.mpr ⟨by omega, Nat.le_refl _⟩
    refine lv_aload_n hx hb dJ5_ensureCapacityInternal_d00df_17 rfl (lv_at hl 1 rfl) ?_
    refine lv_aload_n hx hb dJ5_ensureCapacityInternal_d00df_18 rfl (lv_at hl 1 rfl) ?_
    refine va_get (D := G.1) (ci := 1) (C := RJ4) (T := TJ4) (N := 4) hx hb hts inJ4 hown hK (at_P hO) 0 rfl rfl 0 (by decide) (hts _ tw_5_205) (fun _ h9 => h9) rfl dJ5_ensureCapacityInternal_d00df_19 ?_
    refine lv_aload_n hx hb dJ5_ensureCapacityInternal_d00df_22 rfl (lv_at hl 1 rfl) ?_
    refine lv_iload_n hx hb dJ5_ensureCapacityInternal_d00df_23 rfl (lv_at hl 2 rfl) ?_
    refine kV_i (A := A) (b := a) (As := [.int (nI (n + 1))]) (rest := .ref va :: .ref a :: []) ⟨hx, hb, hml, hown, hts⟩ (mJ5_newCapacity_0f7a4 (A := A) (n := n) (va := va) (cap := n) (g := g) (by omega)) ⟨callB_of 1 hts (gI tw_5_232) rfl rfl rfl (hts _ tw_1_24) (hts _ tw_5_229) (by decide +kernel) ⟨Nat.le_of_ble_eq_true rfl, Nat.le_of_ble_eq_true rfl⟩, hts _ tw_5_231, hts _ sel_J5_newCapacity_0f7a4⟩ hC hS hA (at_recv hK hO (q := (RJ4, TJ4, 4)) rfl) ⟨hO, hB⟩ rfl rfl hl.1 (Nat.le_of_ble_eq_true rfl) ⟨Nat.zero_le _, Nat.zero_le _⟩ dJ5_ensureCapacityInternal_d00df_24 (fun r9 h9 => lv_cv h9 ?_)
    refine lv_aload_n hx hb dJ5_ensureCapacityInternal_d00df_27 rfl (lv_at hl 1 rfl) ?_
    refine va_get (D := G.1) (ci := 1) (C := RJ4) (T := TJ4) (N := 4) hx hb hts inJ4 hown hK (at_P hO) 0 rfl rfl 1 (by decide) (hts _ tw_5_206) (fun _ h9 => h9) rfl dJ5_ensureCapacityInternal_d00df_28 ?_
    refine lv_ishl hx hb dJ5_ensureCapacityInternal_d00df_31 ?_
    refine lv_cv (show _ = nI (n + max 1 (n + 2)) from (pk_shlN _ 0 (by decide) (by omega)).trans (by rw [Nat.pow_zero, Nat.mul_one])) ?_
    have hav : a ≠ va := at_ne_oa hK hO (r := (RJ4, TJ4, 4)) rfl hB 2 rfl
    refine qR_S (A := A) (A1 := ow va va s.heap.size)  (As := [.ref va, .int (nI (n + max 1 (n + 2)))]) (rest := .ref a :: []) ⟨hx, hb, hml, hown, hts⟩ (mJ7_copyOf_9075b (A := ow va va s.heap.size) (sz := s.heap.size) (f := g) (cap := n) (m9 := n + max 1 (n + 2)) (Or.inl rfl) (by omega) (by omega) hg) (va_cwS 2 hts (gS tw_5_235 tw_5_236 tw_1_21 tw_5_237) rfl rfl rfl (by decide +kernel) ⟨Nat.le_of_ble_eq_true rfl, Nat.le_of_ble_eq_true rfl⟩) hC hS (ow_in hAv hAv hA (Nat.le_refl _)) ow_n  ⟨rfl, hB⟩ rfl rfl hl.1 (Nat.le_of_ble_eq_true rfl) ⟨Nat.le_trans (show 0 + 1 ≤ 1 by omega) (Nat.le_of_ble_eq_true rfl), Nat.le_trans (show 0 + 122 ≤ 122 by omega) (Nat.le_of_ble_eq_true rfl)⟩ dJ5_ensureCapacityInternal_d00df_32 (fun rv30 H30 L30 hP30 hk30 hS => ?_)
    have hZ30 := hS.1
    obtain ⟨hsr, hB9, g9, hG9, hg9⟩ := hP30
    have haz := hO.lt
    have hO := at_kp hO hk30 (ow_no hav hav hO.lt)
    have hAr : A rv30 := hA _ hsr
    refine h_put (D := G.1) (ci := 1) (C := RJ4) (T := TJ4) (N := 4) hx hb hts inJ4 tyJ4 tyJ4_ok nmJ4 hown hK hO hS hAa rfl 0 (by decide) (hts _ tw_5_205) (fun _ h9 => h9) rfl (tyJ4_ok 0 (by decide)) rfl rfl (Nat.le_of_ble_eq_true rfl) dJ5_ensureCapacityInternal_d00df_35 (fun H31 L31 hO z31 o31 hS => ?_)
    have hO : va_at G.1 vwCl (a, .inr (1, [.ref rv30, .int 0, .int 0, .int (nI n)])) H31 := hO
    have hG9 := at_o hG9 o31 (by omega)
    have hZ31 := hS.1
    exact q_v hx hb hr hlocks dJ5_ensureCapacityInternal_d00df_38 hS (by omega) (by omega) ⟨rv30, _, g9, hO, hG9, hAr, by omega, by omega, by omega, hg9⟩

abbrev rmJ5_append_3fe6f : Room := { frames := 4, cells := 1, slots := 122, locals := 104 }
theorem mJ5_append_3fe6f {l : Launch} {G : Cx} {A : Nat → Prop} {a n k0 : Nat} (hAa : A a) (h60 : n ≤ 60) (hk0 : k0 < 256) : Met l yJ5_append_3fe6f (.code yJ5_append_3fe6f cJ5_append_3fe6f 2 (some (.object "java/lang/AbstractStringBuilder")) :: GW) rmJ5_append_3fe6f (PC G A [.ref a, .int (nI k0)] (SBs G A a n)) (qR A (fun r H => r = a ∧ SBs G A a (n + 1) H)) 1 122 (A) := by
  refine mstart "java/lang/AbstractStringBuilder" (by decide +kernel) rfl (Nat.le_of_ble_eq_true rfl) ?_
  intro p e s m below meth c ls hx hb hr hts hown hml hlocks hname hC hA hW hl
  have hl : lv_has ls 2 [(0, .ref a), (1, .int (nI k0))] := hl
  have hK := hC.1
  have hS : va_S A s.heap s.heap [] := va_S.rf
  have hL := hW
  obtain ⟨va, cap, g, hO, hB, hAv, hnc, h16, hc20, hg⟩ := hW
  refine lv_aload_n hx hb dJ5_append_3fe6f_0 rfl (lv_at hl 0 rfl) ?_
  refine lv_aload_n hx hb dJ5_append_3fe6f_1 rfl (lv_at hl 0 rfl) ?_
  refine va_get (D := G.1) (ci := 1) (C := RJ4) (T := TJ4) (N := 4) hx hb hts inJ4 hown hK (at_P hO) 0 rfl rfl 3 (by decide) (hts _ tw_5_208) (fun _ h9 => h9) rfl dJ5_append_3fe6f_2 ?_
  refine lv_iconst (v := nI 1) hx hb dJ5_append_3fe6f_5 (by decide) ?_
  refine lv_iadd hx hb dJ5_append_3fe6f_6 ?_
  refine lv_cv (nI_add n 1) ?_
  refine qV_V (A := A) (A1 := A) (b := a) (As := [.int (nI (n + 1))]) (rest := []) ⟨hx, hb, hml, hown, hts⟩ (mJ5_ensureCapacityInternal_d00df (A := A) (n := n) hAa h60) ⟨callB_of 1 hts (gI tw_5_228) rfl rfl rfl (hts _ tw_1_24) (hts _ tw_5_225) (by decide +kernel) ⟨Nat.le_of_ble_eq_true rfl, Nat.le_of_ble_eq_true rfl⟩, hts _ tw_5_227, hts _ sel_J5_ensureCapacityInternal_d00df⟩ hC hS (fun _ h => h) (fun q h => hA q (Nat.le_trans hS.1 h)) (at_recv hK hO (q := (RJ4, TJ4, 4)) rfl) hL rfl rfl hl.1 (Nat.le_of_ble_eq_true rfl) ⟨Nat.le_trans (show 0 + 1 ≤ 1 by omega) (Nat.le_of_ble_eq_true rfl), Nat.le_trans (show 0 + 122 ≤ 122 by omega) (Nat.le_of_ble_eq_true rfl)⟩ dJ5_append_3fe6f_7 (fun H32 L32 hP32 hk32 hS => ?_)
  have hZ32 := hS.1
  obtain ⟨va, cap, g, hO, hB, hAv, hnc, h16, hc20, hg⟩ := hP32
  have hav : a ≠ va := at_ne_oa hK hO (r := (RJ4, TJ4, 4)) rfl hB 2 rfl
  refine lv_aload_n hx hb dJ5_append_3fe6f_10 rfl (lv_at hl 0 rfl) ?_
  refine kV_i (A := A) (b := a) (As := []) (rest := []) ⟨hx, hb, hml, hown, hts⟩ (mJ5_isLatin1_aae02 (A := A) (va := va) (n := n)) ⟨callB_of 0 hts (gI tw_6_9) rfl rfl rfl (hts _ tw_1_24) (hts _ tw_6_5) (by decide +kernel) ⟨Nat.le_of_ble_eq_true rfl, Nat.le_of_ble_eq_true rfl⟩, hts _ tw_6_6, hts _ tw_6_8⟩ hC hS hA (at_recv hK hO (q := (RJ4, TJ4, 4)) rfl) hO rfl rfl hl.1 (Nat.le_of_ble_eq_true rfl) ⟨Nat.le_trans (show (0 + 1) ≤ 1 by omega) (Nat.le_of_ble_eq_true rfl), Nat.le_trans (show (0 + 122) ≤ 122 by omega) (Nat.le_of_ble_eq_true rfl)⟩ dJ5_append_3fe6f_11 (fun r9 h9 => lv_cv h9 ?_)
  refine f_eq (tgt := 45) hx hb dJ5_append_3fe6f_14 (by decide) (fun c_33 => ?_) (fun c_33 => ?_)
  · exact absurd c_33 (by decide)
  · refine lv_iload_n hx hb dJ5_append_3fe6f_17 rfl (lv_at hl 1 rfl) ?_
    refine kS_i (A := A) (As := [.int (nI k0)]) (rest := []) ⟨hx, hb, hml, hown, hts⟩ (mJ1_canEncode_fc78d (A := A) hk0) (va_cwS 1 hts (gS tw_6_10 tw_6_11 tw_1_5 tw_6_12) rfl rfl rfl (by decide +kernel) ⟨Nat.le_of_ble_eq_true rfl, Nat.le_of_ble_eq_true rfl⟩) hC hS hA  trivial rfl rfl hl.1 (Nat.le_of_ble_eq_true rfl) ⟨Nat.le_trans (show (0 + 1) ≤ 1 by omega) (Nat.le_of_ble_eq_true rfl), Nat.le_trans (show (0 + 122) ≤ 122 by omega) (Nat.le_of_ble_eq_true rfl)⟩ dJ5_append_3fe6f_18 (fun r9 h9 => lv_cv h9 ?_)
    refine f_eq (tgt := 45) hx hb dJ5_append_3fe6f_21 (by decide) (fun c_34 => ?_) (fun c_34 => ?_)
    · exact absurd c_34 (by decide)
    · refine lv_aload_n hx hb dJ5_append_3fe6f_24 rfl (lv_at hl 0 rfl) ?_
      refine va_get (D := G.1) (ci := 1) (C := RJ4) (T := TJ4) (N := 4) hx hb hts inJ4 hown hK (at_P hO) 0 rfl rfl 0 (by decide) (hts _ tw_5_205) (fun _ h9 => h9) rfl dJ5_append_3fe6f_25 ?_
      refine lv_aload_n hx hb dJ5_append_3fe6f_28 rfl (lv_at hl 0 rfl) ?_
      refine lv_dup hx hb dJ5_append_3fe6f_29 rfl ?_
      refine va_get (D := G.1) (ci := 1) (C := RJ4) (T := TJ4) (N := 4) hx hb hts inJ4 hown hK (at_P hO) 0 rfl rfl 3 (by decide) (hts _ tw_5_208) (fun _ h9 => h9) rfl dJ5_append_3fe6f_30 ?_
      refine lv_dup_x1 hx hb dJ5_append_3fe6f_33 rfl rfl ?_
      refine lv_iconst (v := nI 1) hx hb dJ5_append_3fe6f_34 (by decide) ?_
      refine lv_iadd hx hb dJ5_append_3fe6f_35 ?_
      refine lv_cv (nI_add n 1) ?_
      refine h_put (D := G.1) (ci := 1) (C := RJ4) (T := TJ4) (N := 4) hx hb hts inJ4 tyJ4 tyJ4_ok nmJ4 hown hK hO hS hAa rfl 3 (by decide) (hts _ tw_5_208) (fun _ h9 => h9) rfl (tyJ4_ok 3 (by decide)) rfl rfl (Nat.le_of_ble_eq_true rfl) dJ5_append_3fe6f_36 (fun H35 L35 hO z35 o35 hS => ?_)
      have hO : va_at G.1 vwCl (a, .inr (1, [.ref va, .int 0, .int 0, .int (nI (n + 1))])) H35 := hO
      have hB := at_o hB o35 (Ne.symm hav)
      have hZ35 := hS.1
      refine lv_iload_n hx hb dJ5_append_3fe6f_39 rfl (lv_at hl 1 rfl) ?_
      refine lv_i2b hx hb dJ5_append_3fe6f_40 rfl ?_
      refine h_bst (D := G.1) hx hb hK 2 hB rfl hS hAv (vp_in_nI (n := n) (N := cap) (by omega) (by omega)) dJ5_append_3fe6f_41 (fun H36 L36 hB z36 o36 hS => ?_)
      rw [nI_clamp (n := n) (by omega)] at hB
      have hO := at_o hO o36 hav
      have hZ36 := hS.1
      refine lv_goto (tgt := 75) hx hb dJ5_append_3fe6f_42 (by decide) ?_
      refine lv_aload_n hx hb dJ5_append_3fe6f_75 rfl (lv_at hl 0 rfl) ?_
      exact q_a hx hb hr (Or.inl ⟨_, rfl⟩) hlocks dJ5_append_3fe6f_76 hS (by omega) (by omega) ⟨rfl, va, cap, _, hO, hB, hAv, hnc, h16, hc20, fun i hi => by by_cases q : i = n; rw [q, pk_us]; exact fit_nar _; rw [pk_un q]; exact hg i hi⟩

abbrev rmJ4_append_cf468 : Room := { frames := 5, cells := 1, slots := 122, locals := 125 }
theorem mJ4_append_cf468 {l : Launch} {G : Cx} {A : Nat → Prop} {a n k0 : Nat} (hAa : A a) (h60 : n ≤ 60) (hk0 : k0 < 256) : Met l yJ4_append_cf468 (.code yJ4_append_cf468 cJ4_append_cf468 2 (some (.object "java/lang/StringBuilder")) :: GW) rmJ4_append_cf468 (PC G A [.ref a, .int (nI k0)] (SBs G A a n)) (qR A (fun r H => r = a ∧ SBs G A a (n + 1) H)) 1 122 (A) := by
  refine mstart "java/lang/StringBuilder" (by decide +kernel) rfl (Nat.le_of_ble_eq_true rfl) ?_
  intro p e s m below meth c ls hx hb hr hts hown hml hlocks hname hC hA hW hl
  have hl : lv_has ls 2 [(0, .ref a), (1, .int (nI k0))] := hl
  have hK := hC.1
  have hS : va_S A s.heap s.heap [] := va_S.rf
  have hL := hW
  obtain ⟨va, cap, g, hO, -⟩ := hL
  refine lv_aload_n hx hb dJ4_append_cf468_0 rfl (lv_at hl 0 rfl) ?_
  refine lv_iload_n hx hb dJ4_append_cf468_1 rfl (lv_at hl 1 rfl) ?_
  refine qR_SU (A := A) (A1 := A) (b := a) (As := [.int (nI k0)]) (rest := []) (hK.1 1 _ rfl).2 ⟨hx, hb, hml, hown, hts⟩ (mJ5_append_3fe6f (A := A) (n := n) hAa h60 hk0) (va_cwSU 1 hts (gSU tw_5_222 tw_7_82 tw_5_217 tw_5_223 tw_1_24 tw_5_224) rfl rfl rfl (by decide +kernel) ⟨Nat.le_of_ble_eq_true rfl, Nat.le_of_ble_eq_true rfl⟩) hC hS (fun _ h => h) hA (at_recv hK hO (q := (RJ4, TJ4, 4)) rfl) hW rfl rfl hl.1 (Nat.le_of_ble_eq_true rfl) ⟨Nat.le_trans (show 0 + 1 ≤ 1 by omega) (Nat.le_of_ble_eq_true rfl), Nat.le_trans (show 0 + 122 ≤ 122 by omega) (Nat.le_of_ble_eq_true rfl)⟩ dJ4_append_cf468_2 (fun r9 H9 L9 hP9 hk9 hS => ?_)
  refine lv_pop hx hb dJ4_append_cf468_5 rfl ?_
  refine lv_aload_n hx hb dJ4_append_cf468_6 rfl (lv_at hl 0 rfl) ?_
  exact q_a hx hb hr (Or.inl ⟨_, rfl⟩) hlocks dJ4_append_cf468_7 hS (by omega) (by omega) ⟨rfl, hP9.2⟩

abbrev rmJ4_length_8abf5 : Room := { frames := 2, cells := 0, slots := 0, locals := 40 }
theorem mJ4_length_8abf5 {l : Launch} {G : Cx} {A : Nat → Prop} {a va n : Nat} : Met l yJ4_length_8abf5 (.code yJ4_length_8abf5 cJ4_length_8abf5 1 (some .int) :: GW) rmJ4_length_8abf5 (PC G A [.ref a] (fun H => va_at G.1 vwCl (a, .inr (1, [.ref va, .int 0, .int 0, .int (nI n)])) H)) (vp_Si (fun r => r = nI n)) 0 0 (fun _ => False) := by
  refine mstart "java/lang/StringBuilder" (by decide +kernel) rfl (Nat.le_of_ble_eq_true rfl) ?_
  intro p e s m below meth c ls hx hb hr hts hown hml hlocks hname hC hA hW hl
  have hl : lv_has ls 1 [(0, .ref a)] := hl
  have hK := hC.1
  have hS : va_S A s.heap s.heap [] := va_S.rf
  have hO := hW
  refine lv_aload_n hx hb dJ4_length_8abf5_0 rfl (lv_at hl 0 rfl) ?_
  refine kSU_i (A := A) (b := a) (As := []) (rest := []) (hK.1 1 _ rfl).2 ⟨hx, hb, hml, hown, hts⟩ (mJ5_length_8abf5 (A := A) (va := va) (n := n)) (va_cwSU 0 hts (gSU tw_6_48 tw_6_44 tw_5_217 tw_6_43 tw_1_24 tw_6_49) rfl rfl rfl (by decide +kernel) ⟨Nat.le_of_ble_eq_true rfl, Nat.le_of_ble_eq_true rfl⟩) hC hS hA (at_recv hK hO (q := (RJ4, TJ4, 4)) rfl) hO rfl rfl hl.1 (Nat.le_of_ble_eq_true rfl) ⟨Nat.zero_le _, Nat.zero_le _⟩ dJ4_length_8abf5_1 (fun r9 h9 => lv_cv h9 ?_)
  exact p_i hx hb hr hlocks dJ4_length_8abf5_4 rfl

abbrev rmJ7_checkLength_df160 : Room := { frames := 1, cells := 0, slots := 0, locals := 20 }
theorem mJ7_checkLength_df160 {l : Launch} {G : Cx} {A : Nat → Prop} {n : Nat} (hn : n < 2 ^ 31) : Met l yJ7_checkLength_df160 (.code yJ7_checkLength_df160 cJ7_checkLength_df160 2 (none : Option Jvm.ClassFile.FieldType) :: GW) rmJ7_checkLength_df160 (PC G A [.int (nI 0), .int (nI n)] (fun _ => True)) (pV) 0 0 (fun _ => False) := by
  refine mstart "java/util/Arrays" (by decide +kernel) rfl (Nat.le_of_ble_eq_true rfl) ?_
  intro p e s m below meth c ls hx hb hr hts hown hml hlocks hname hC hA hW hl
  have hl : lv_has ls 2 [(0, .int (nI 0)), (1, .int (nI n))] := hl
  have hK := hC.1
  have hS : va_S A s.heap s.heap [] := va_S.rf
  refine lv_iload_n hx hb dJ7_checkLength_df160_0 rfl (lv_at hl 1 rfl) ?_
  refine lv_iload_n hx hb dJ7_checkLength_df160_1 rfl (lv_at hl 0 rfl) ?_
  refine b_ge (tgt := 37) hx hb dJ7_checkLength_df160_2 (by decide) (by omega) (by omega) (fun c_37 => ?_) (fun c_37 => ?_)
  · exact p_v hx hb hr hlocks dJ7_checkLength_df160_37
  · exact absurd c_37 (by omega)

abbrev rmJ7_copyOfRangeByte_39247 : Room := { frames := 2, cells := 1, slots := 60, locals := 60 }
theorem mJ7_copyOfRangeByte_39247 {l : Launch} {G : Cx} {A : Nat → Prop} {va cap n sz : Nat} {f : Nat → Int32} (hAv : A va) (hc : n ≤ cap) (hn : n ≤ 60) (hc20 : cap < 2 ^ 20) (hf : ∀ i : Nat, i < cap → fits .byte (.int (f i)) = true) : Met l yJ7_copyOfRangeByte_39247 (.code yJ7_copyOfRangeByte_39247 cJ7_copyOfRangeByte_39247 5 (some (.array .byte)) :: GW) rmJ7_copyOfRangeByte_39247 (PC G A [.ref va, .int (nI 0), .int (nI n)] (fun H => H.size = sz ∧ va_at G.1 vwCl (va, .inl (G.2.1 2, cap, .inl f)) H)) (qR A (fun _ _ => True)) 1 60 (A) := by
  refine mstart "java/util/Arrays" (by decide +kernel) rfl (Nat.le_of_ble_eq_true rfl) ?_
  intro p e s m below meth c ls hx hb hr hts hown hml hlocks hname hC hA hW hl
  have hl : lv_has ls 5 [(0, .ref va), (1, .int (nI 0)), (2, .int (nI n))] := hl
  have hK := hC.1
  have hS : va_S A s.heap s.heap [] := va_S.rf
  obtain ⟨hsz, hB⟩ := hW
  refine lv_iload_n hx hb dJ7_copyOfRangeByte_39247_0 rfl (lv_at hl 1 rfl) ?_
  refine lv_iload_n hx hb dJ7_copyOfRangeByte_39247_1 rfl (lv_at hl 2 rfl) ?_
  refine kS_v (A := A) (As := [.int (nI 0), .int (nI n)]) (rest := []) ⟨hx, hb, hml, hown, hts⟩ (mJ7_checkLength_df160 (A := A) (n := n) (by omega)) (va_cwS 2 hts (gS tw_6_57 tw_6_58 tw_1_21 tw_6_59) rfl rfl rfl (by decide +kernel) ⟨Nat.le_of_ble_eq_true rfl, Nat.le_of_ble_eq_true rfl⟩) hC hS hA  trivial rfl rfl hl.1 (Nat.le_of_ble_eq_true rfl) ⟨Nat.zero_le _, Nat.zero_le _⟩ dJ7_copyOfRangeByte_39247_2 ?_
  refine lv_iload_n hx hb dJ7_copyOfRangeByte_39247_5 rfl (lv_at hl 2 rfl) ?_
  refine lv_iload_n hx hb dJ7_copyOfRangeByte_39247_6 rfl (lv_at hl 1 rfl) ?_
  refine lv_isub hx hb dJ7_copyOfRangeByte_39247_7 ?_
  refine lv_cv (pk_sub (a := n) (b := 0) (by omega)) ?_
  refine lv_cv (show nI (n - 0) = nI n from rfl) ?_
  refine lv_istore_n (lv' := [(3, .int (nI n)), (0, .ref va), (1, .int (nI 0)), (2, .int (nI n))]) hx hb dJ7_copyOfRangeByte_39247_8 rfl hl (by decide) rfl (fun ls hl => ?_)
  refine lv_iload_n hx hb dJ7_copyOfRangeByte_39247_9 rfl (lv_at hl 0 rfl) ?_
  refine h_newa (D := G.1) (atype := .byte) (N := n) (z := (n, .inl (fun _ => 0))) hx hb (hts _ tw_1_162) rfl (fun h => h) hK 2 rfl hS rfl (nI_pos (by omega)) (nI_clamp (by omega)) (show n * _ ≤ _ from by show n * 1 ≤ 536870912; omega) (Nat.le_trans (show 0 + 1 ≤ 1 by omega) (Nat.le_of_ble_eq_true rfl)) (Nat.le_trans (show 0 + n ≤ 60 by omega) (Nat.le_of_ble_eq_true rfl)) dJ7_copyOfRangeByte_39247_10 (fun na H38 hna hFna z38 o38 hS => ?_)
  have n38hB : va ≠ na := fun q => absurd hB.lt (by rw [q, hna]; exact Nat.lt_irrefl _)
  have hB := at_n hB o38
  have hZ38 := hS.1
  have hMna : A na := hA na (by omega)
  refine lv_astore (lv' := [(4, .ref na), (3, .int (nI n)), (0, .ref va), (1, .int (nI 0)), (2, .int (nI n))]) hx hb dJ7_copyOfRangeByte_39247_12 hl (by decide) rfl (fun ls hl => ?_)
  refine lv_aload_n hx hb dJ7_copyOfRangeByte_39247_14 rfl (lv_at hl 2 rfl) ?_
  refine lv_iload_n hx hb dJ7_copyOfRangeByte_39247_15 rfl (lv_at hl 3 rfl) ?_
  refine lv_aload hx hb dJ7_copyOfRangeByte_39247_16 (lv_at hl 0 rfl) ?_
  refine lv_iconst (v := nI 0) hx hb dJ7_copyOfRangeByte_39247_18 (by decide) ?_
  refine lv_aload_n hx hb dJ7_copyOfRangeByte_39247_19 rfl (lv_at hl 2 rfl) ?_
  refine va_alen hx hb hK (at_P hB) 0 2 (v := nI cap) rfl rfl rfl dJ7_copyOfRangeByte_39247_20 ?_
  refine lv_iload_n hx hb dJ7_copyOfRangeByte_39247_21 rfl (lv_at hl 3 rfl) ?_
  refine lv_isub hx hb dJ7_copyOfRangeByte_39247_22 ?_
  refine lv_cv (pk_sub (a := cap) (b := 0) (by omega)) ?_
  refine lv_cv (show nI (cap - 0) = nI cap from rfl) ?_
  refine lv_iload_n hx hb dJ7_copyOfRangeByte_39247_23 rfl (lv_at hl 1 rfl) ?_
  refine va_mmin hx hb (hml.trans hl.1.symm) hown (hts _ tw_5_136) (hts _ tw_5_137) (hts _ tw_1_19) (hts _ tw_5_138) (Nat.le_of_ble_eq_true rfl) (Nat.le_of_ble_eq_true rfl) (Nat.le_trans (show (0 + 1) ≤ 1 by omega) (Nat.le_of_ble_eq_true rfl)) (Nat.le_trans (show (0 + n) ≤ 60 by omega) (Nat.le_of_ble_eq_true rfl)) dJ7_copyOfRangeByte_39247_24 ?_
  refine lv_cv (mmin_nI (a := cap) (b := n) (by omega) (by omega)) ?_
  refine lv_cv (show _ = nI n from by rw [Nat.min_eq_right hc]) ?_
  refine va_copyi (D := G.1) (a := na) (a0 := va) (f := f) (g := (fun _ => 0)) (ty := .byte) (ws := [(va, .inl (G.2.1 2, cap, .inl f)), (na, .inl (G.2.1 2, n, .inl (fun _ => 0)))]) hx hb (hml.trans hl.1.symm) hown (hts _ tw_5_139) (hts _ tn_acopy) (hts _ tw_5_140) (hts _ tw_1_22) hK (at_P2 hB hFna) (at_D2 n38hB hAv hMna) hS 0 1 2 2 rfl rfl rfl rfl rfl (nI_pos (by omega)) (nI_pos (by omega)) (nI_pos (by omega)) (by rw [nI_clamp (by omega), nI_clamp (by omega)]; omega) (by rw [nI_clamp (by omega), nI_clamp (by omega)]; omega) (fun i hi => by rw [nI_clamp (by omega)] at hi ⊢; rw [Nat.zero_add]; exact hf i (by omega)) (Nat.le_of_ble_eq_true rfl) (Nat.le_of_ble_eq_true rfl) dJ7_copyOfRangeByte_39247_27 (fun H9 L9 hP9 hD9 hS => ?_)
  have hB := hP9 0 _ rfl
  have hFna := hP9 1 _ rfl
  have hZ9 := hS.1
  refine lv_aload hx hb dJ7_copyOfRangeByte_39247_30 (lv_at hl 0 rfl) ?_
  exact q_a hx hb hr (Or.inr ⟨_, rfl⟩) hlocks dJ7_copyOfRangeByte_39247_32 hS (by omega) (by omega) trivial

abbrev rmJ7_copyOfRange_39247 : Room := { frames := 3, cells := 1, slots := 60, locals := 84 }
theorem mJ7_copyOfRange_39247 {l : Launch} {G : Cx} {A : Nat → Prop} {va cap n sz : Nat} {f : Nat → Int32} (hAv : A va) (hc : n ≤ cap) (hn : n ≤ 60) (hc20 : cap < 2 ^ 20) (hf : ∀ i : Nat, i < cap → fits .byte (.int (f i)) = true) : Met l yJ7_copyOfRange_39247 (.code yJ7_copyOfRange_39247 cJ7_copyOfRange_39247 3 (some (.array .byte)) :: GW) rmJ7_copyOfRange_39247 (PC G A [.ref va, .int (nI 0), .int (nI n)] (fun H => H.size = sz ∧ va_at G.1 vwCl (va, .inl (G.2.1 2, cap, .inl f)) H)) (qR A (fun _ _ => True)) 1 60 (A) := by
  refine mstart "java/util/Arrays" (by decide +kernel) rfl (Nat.le_of_ble_eq_true rfl) ?_
  intro p e s m below meth c ls hx hb hr hts hown hml hlocks hname hC hA hW hl
  have hl : lv_has ls 3 [(0, .ref va), (1, .int (nI 0)), (2, .int (nI n))] := hl
  have hK := hC.1
  have hS : va_S A s.heap s.heap [] := va_S.rf
  obtain ⟨hsz, hB⟩ := hW
  refine lv_iload_n hx hb dJ7_copyOfRange_39247_0 rfl (lv_at hl 1 rfl) ?_
  refine z_ne (tgt := 10) hx hb dJ7_copyOfRange_39247_1 (by decide) (by omega) (fun c_39 => ?_) (fun c_39 => ?_)
  · exact absurd c_39 (by omega)
  · refine lv_iload_n hx hb dJ7_copyOfRange_39247_4 rfl (lv_at hl 2 rfl) ?_
    refine lv_aload_n hx hb dJ7_copyOfRange_39247_5 rfl (lv_at hl 0 rfl) ?_
    refine va_alen hx hb hK (at_P hB) 0 2 (v := nI cap) rfl rfl rfl dJ7_copyOfRange_39247_6 ?_
    refine b_eq (tgt := 17) hx hb dJ7_copyOfRange_39247_7 (by decide) (by omega) (by omega) (fun c_40 => ?_) (fun c_40 => ?_)
    · have hnc : n = cap := c_40
      subst hnc
      refine lv_aload_n hx hb dJ7_copyOfRange_39247_17 rfl (lv_at hl 0 rfl) ?_
      refine va_clone (D := G.1) (A := A) (ws := [(va, .inl (G.2.1 2, n, .inl f))]) (ad := "[B") hx hb (hml.trans hl.1.symm) hown (hts _ tw_5_238) (hts _ tw_5_239) (hts _ tn_clone) (hts _ tw_6_1) (hts _ tw_6_2) (xWs.use hC.2.2.2.2.2.2.2.2.2.2.2.1 tx_bc) hK (at_P hB) (at_D1 hAv) hS hA 0 2 rfl rfl (findBA hK) (bytes_fit hf) (Nat.le_of_ble_eq_true rfl) (Nat.le_of_ble_eq_true rfl) (Nat.le_trans (show 0 + 1 ≤ 1 by omega) (Nat.le_of_ble_eq_true rfl)) (Nat.le_trans (show 0 + n ≤ 60 by omega) (Nat.le_of_ble_eq_true rfl)) dJ7_copyOfRange_39247_18 (fun nb H9 hK9 hP9 hD9 hS9 => ?_)
      refine va_castA (D := G.1) hx hb hown (hts _ tw_6_4) hP9 1 rfl (findBA hK) dJ7_copyOfRange_39247_21 ?_
      have hS := hS9
      exact q_a hx hb hr (Or.inr ⟨_, rfl⟩) hlocks dJ7_copyOfRange_39247_24 hS (by omega) (by omega) trivial
    · refine lv_aload_n hx hb dJ7_copyOfRange_39247_10 rfl (lv_at hl 0 rfl) ?_
      refine lv_iload_n hx hb dJ7_copyOfRange_39247_11 rfl (lv_at hl 1 rfl) ?_
      refine lv_iload_n hx hb dJ7_copyOfRange_39247_12 rfl (lv_at hl 2 rfl) ?_
      refine qR_S (A := A) (A1 := A)  (As := [.ref va, .int (nI 0), .int (nI n)]) (rest := []) ⟨hx, hb, hml, hown, hts⟩ (mJ7_copyOfRangeByte_39247 (A := A) (sz := sz) (f := f) (cap := cap) hAv hc hn hc20 hf) (va_cwS 3 hts (gS tw_6_54 tw_6_55 tw_1_21 tw_6_56) rfl rfl rfl (by decide +kernel) ⟨Nat.le_of_ble_eq_true rfl, Nat.le_of_ble_eq_true rfl⟩) hC hS (fun _ h => h) (fun q h => hA q (Nat.le_trans hS.1 h))  ⟨hsz, hB⟩ rfl rfl hl.1 (Nat.le_of_ble_eq_true rfl) ⟨Nat.le_trans (show 0 + 1 ≤ 1 by omega) (Nat.le_of_ble_eq_true rfl), Nat.le_trans (show 0 + 60 ≤ 60 by omega) (Nat.le_of_ble_eq_true rfl)⟩ dJ7_copyOfRange_39247_13 (fun rv41 H41 L41 hP41 hk41 hS => ?_)
      have hZ41 := hS.1
      exact q_a hx hb hr (Or.inr ⟨_, rfl⟩) hlocks dJ7_copyOfRange_39247_16 hS (by omega) (by omega) hP41

abbrev rmJ0_init_db425 : Room := { frames := 4, cells := 1, slots := 60, locals := 106 }
theorem mJ0_init_db425 {l : Launch} {G : Cx} {A : Nat → Prop} {a b n : Nat} (hAa : A a) (h60 : n ≤ 60) : Met l yJ0_init_db425 (.code yJ0_init_db425 cJ0_init_db425 5 (none : Option Jvm.ClassFile.FieldType) :: GW) rmJ0_init_db425 (PC G A [.ref a, .ref b, .null] (fun H => va_at G.1 vwCl (a, .inr (0, [.null, .int 0, .int 0, .int 0])) H ∧ SBs G A b n H)) (qV A (fun _ => True)) 1 60 (A) := by
  refine mstart "java/lang/String" (by decide +kernel) rfl (Nat.le_of_ble_eq_true rfl) ?_
  intro p e s m below meth c ls hx hb hr hts hown hml hlocks hname hC hA hW hl
  have hl : lv_has ls 5 [(0, .ref a), (1, .ref b), (2, .null)] := hl
  have hK := hC.1
  have hS : va_S A s.heap s.heap [] := va_S.rf
  obtain ⟨hSo, va, cap, g, hO, hB, hAv, hnc, h16, hc20, hg⟩ := hW
  have hav : a ≠ va := at_ne_oa hK hSo (r := (RJ0, TJ0, 4)) rfl hB 2 rfl
  refine lv_aload_n hx hb dJ0_init_db425_0 rfl (lv_at hl 0 rfl) ?_
  refine W.objInit hx hb hown (hts _ tw_1_183) (hts _ tw_1_35) (hts _ tw_1_36) rfl (by rw [hml]; exact hl.1) rfl dJ0_init_db425_1 (Nat.le_of_ble_eq_true rfl) (Nat.le_of_ble_eq_true rfl) ?_
  refine W.eq (g2 := F0 m 4 ls []) rfl ?_
  refine lv_aload_n hx hb dJ0_init_db425_4 rfl (lv_at hl 1 rfl) ?_
  refine kV_a (A := A) (b := b) (As := []) (rest := []) ⟨hx, hb, hml, hown, hts⟩ (mJ5_getValue_6d5f1 (A := A) (n := n) (va := va)) ⟨callB_of 0 hts (gI tw_6_41) rfl rfl rfl (hts _ tw_1_24) (hts _ tw_6_37) (by decide +kernel) ⟨Nat.le_of_ble_eq_true rfl, Nat.le_of_ble_eq_true rfl⟩, hts _ tw_6_38, hts _ tw_6_40⟩ hC hS hA (at_recv hK hO (q := (RJ4, TJ4, 4)) rfl) hO rfl rfl hl.1 (Nat.le_of_ble_eq_true rfl) ⟨Nat.zero_le _, Nat.zero_le _⟩ dJ0_init_db425_5 (fun a_42 ha_42 => ?_)
  have e7 : a_42 = va := ha_42
  subst e7
  refine lv_astore_n (lv' := [(3, .ref a_42), (0, .ref a), (1, .ref b), (2, .null)]) hx hb dJ0_init_db425_8 rfl hl (by decide) rfl (fun ls hl => ?_)
  refine lv_aload_n hx hb dJ0_init_db425_9 rfl (lv_at hl 2 rfl) ?_
  refine kU_i (A := A) (b := b) (As := []) (rest := []) ⟨hx, hb, hml, hown, hts⟩ (mJ4_length_8abf5 (A := A) (va := a_42) (n := n)) (va_cwO 0 hts (gO tw_6_42 tw_6_44 tw_6_43 tw_6_45 tw_6_46 tw_1_25 tw_6_47) rfl rfl rfl tw_6_49 (by decide +kernel) ⟨Nat.le_of_ble_eq_true rfl, Nat.le_of_ble_eq_true rfl⟩) hC hS hA (at_recv hK hO (q := (RJ4, TJ4, 4)) rfl) hO rfl rfl hl.1 (Nat.le_of_ble_eq_true rfl) ⟨Nat.zero_le _, Nat.zero_le _⟩ dJ0_init_db425_10 (fun r9 h9 => lv_cv h9 ?_)
  refine lv_istore (lv' := [(4, .int (nI n)), (3, .ref a_42), (0, .ref a), (1, .ref b), (2, .null)]) hx hb dJ0_init_db425_13 hl (by decide) rfl (fun ls hl => ?_)
  refine lv_aload_n hx hb dJ0_init_db425_15 rfl (lv_at hl 3 rfl) ?_
  refine kV_i (A := A) (b := b) (As := []) (rest := []) ⟨hx, hb, hml, hown, hts⟩ (mJ5_isLatin1_aae02 (A := A) (va := a_42) (n := n)) ⟨callB_of 0 hts (gI tw_6_9) rfl rfl rfl (hts _ tw_1_24) (hts _ tw_6_50) (by decide +kernel) ⟨Nat.le_of_ble_eq_true rfl, Nat.le_of_ble_eq_true rfl⟩, hts _ tw_6_6, hts _ tw_6_8⟩ hC hS hA (at_recv hK hO (q := (RJ4, TJ4, 4)) rfl) hO rfl rfl hl.1 (Nat.le_of_ble_eq_true rfl) ⟨Nat.zero_le _, Nat.zero_le _⟩ dJ0_init_db425_16 (fun r9 h9 => lv_cv h9 ?_)
  refine f_eq (tgt := 41) hx hb dJ0_init_db425_19 (by decide) (fun c_43 => ?_) (fun c_43 => ?_)
  · exact absurd c_43 (by decide)
  · refine lv_aload_n hx hb dJ0_init_db425_22 rfl (lv_at hl 2 rfl) ?_
    refine lv_iconst (v := nI 0) hx hb dJ0_init_db425_23 (by decide) ?_
    refine h_putF (D := G.1) (ci := 0) (C := RJ0) (T := TJ0) (N := 4) hx hb hts inJ0 tyJ0 tyJ0_ok nmJ0 hown hK hSo hS hAa rfl 1 (by decide) (hts _ tw_1_221) (fun _ h9 => h9) rfl hname rfl (tyJ0_ok 1 (by decide)) rfl rfl (Nat.le_of_ble_eq_true rfl) dJ0_init_db425_24 (fun H44 L44 hSo z44 o44 hS => ?_)
    have hSo : va_at G.1 vwCl (a, .inr (0, [.null, .int 0, .int 0, .int 0])) H44 := hSo
    have hZ44 := hS.1
    have hB := at_o hB o44 (Ne.symm hav)
    refine lv_aload_n hx hb dJ0_init_db425_27 rfl (lv_at hl 2 rfl) ?_
    refine lv_aload_n hx hb dJ0_init_db425_28 rfl (lv_at hl 1 rfl) ?_
    refine lv_iconst (v := nI 0) hx hb dJ0_init_db425_29 (by decide) ?_
    refine lv_iload hx hb dJ0_init_db425_30 (lv_at hl 0 rfl) ?_
    refine qR_S (A := A) (A1 := ow a_42 a_42 H44.size)  (As := [.ref a_42, .int (nI 0), .int (nI n)]) (rest := .ref a :: []) ⟨hx, hb, hml, hown, hts⟩ (mJ7_copyOfRange_39247 (A := ow a_42 a_42 H44.size) (sz := H44.size) (f := g) (cap := cap) (n := n) (Or.inl rfl) hnc h60 hc20 hg) (va_cwS 3 hts (gS tw_6_51 tw_6_52 tw_1_21 tw_6_53) rfl rfl rfl (by decide +kernel) ⟨Nat.le_of_ble_eq_true rfl, Nat.le_of_ble_eq_true rfl⟩) hC hS (ow_in hAv hAv hA hS.1) ow_n  ⟨rfl, hB⟩ rfl rfl hl.1 (Nat.le_of_ble_eq_true rfl) ⟨Nat.le_trans (show 0 + 1 ≤ 1 by omega) (Nat.le_of_ble_eq_true rfl), Nat.le_trans (show 0 + 60 ≤ 60 by omega) (Nat.le_of_ble_eq_true rfl)⟩ dJ0_init_db425_32 (fun rv45 H45 L45 hP45 hk45 hS => ?_)
    have hZ45 := hS.1
    have hSo := at_kp hSo hk45 (ow_no hav hav hSo.lt)
    refine h_putF (D := G.1) (ci := 0) (C := RJ0) (T := TJ0) (N := 4) hx hb hts inJ0 tyJ0 tyJ0_ok nmJ0 hown hK hSo hS hAa rfl 0 (by decide) (hts _ tw_1_220) (fun _ h9 => h9) rfl hname rfl (tyJ0_ok 0 (by decide)) rfl rfl (Nat.le_of_ble_eq_true rfl) dJ0_init_db425_35 (fun H46 L46 hSo z46 o46 hS => ?_)
    have hSo : va_at G.1 vwCl (a, .inr (0, [.ref rv45, .int 0, .int 0, .int 0])) H46 := hSo
    have hZ46 := hS.1
    refine lv_goto (tgt := 97) hx hb dJ0_init_db425_38 (by decide) ?_
    exact q_v hx hb hr hlocks dJ0_init_db425_97 hS (by omega) (by omega) trivial

abbrev rmJ0_init_81219 : Room := { frames := 5, cells := 1, slots := 60, locals := 130 }
theorem mJ0_init_81219 {l : Launch} {G : Cx} {A : Nat → Prop} {a b n : Nat} (hAa : A a) (h60 : n ≤ 60) : Met l yJ0_init_81219 (.code yJ0_init_81219 cJ0_init_81219 2 (none : Option Jvm.ClassFile.FieldType) :: GW) rmJ0_init_81219 (PC G A [.ref a, .ref b] (fun H => va_at G.1 vwCl (a, .inr (0, [.null, .int 0, .int 0, .int 0])) H ∧ SBs G A b n H)) (qV A (fun _ => True)) 1 60 (A) := by
  refine mstart "java/lang/String" (by decide +kernel) rfl (Nat.le_of_ble_eq_true rfl) ?_
  intro p e s m below meth c ls hx hb hr hts hown hml hlocks hname hC hA hW hl
  have hl : lv_has ls 2 [(0, .ref a), (1, .ref b)] := hl
  have hK := hC.1
  have hS : va_S A s.heap s.heap [] := va_S.rf
  refine lv_aload_n hx hb dJ0_init_81219_0 rfl (lv_at hl 0 rfl) ?_
  refine lv_aload_n hx hb dJ0_init_81219_1 rfl (lv_at hl 1 rfl) ?_
  refine lv_null hx hb dJ0_init_81219_2 ?_
  refine qV_I (A := A) (A1 := A) (b := a) (As := [.ref b, .null]) (rest := []) ⟨hx, hb, hml, hown, hts⟩ (mJ0_init_db425 (A := A) (n := n) hAa h60) (cwI 2 hts (gI tw_6_36) rfl rfl rfl (hts _ tw_1_4) (hts _ tw_6_34) (hts _ tw_6_35) rfl (by decide +kernel) ⟨Nat.le_of_ble_eq_true rfl, Nat.le_of_ble_eq_true rfl⟩) hC hS (fun _ h => h) (fun q h => hA q (Nat.le_trans hS.1 h))  hW rfl rfl hl.1 (Nat.le_of_ble_eq_true rfl) ⟨Nat.le_trans (show 0 + 1 ≤ 1 by omega) (Nat.le_of_ble_eq_true rfl), Nat.le_trans (show 0 + 60 ≤ 60 by omega) (Nat.le_of_ble_eq_true rfl)⟩ dJ0_init_81219_3 (fun H47 L47 hP47 hk47 hS => ?_)
  have hZ47 := hS.1
  exact q_v hx hb hr hlocks dJ0_init_81219_6 hS (by omega) (by omega) trivial

abbrev rmJ4_toString_0e30d : Room := { frames := 6, cells := 2, slots := 64, locals := 151 }
theorem mJ4_toString_0e30d {l : Launch} {G : Cx} {A : Nat → Prop} {a n : Nat} (h60 : n ≤ 60) : Met l yJ4_toString_0e30d (.code yJ4_toString_0e30d cJ4_toString_0e30d 1 (some (.object "java/lang/String")) :: GW) rmJ4_toString_0e30d (PC G A [.ref a] (SBs G A a n)) (qR A (fun _ _ => True)) 2 64 (A) := by
  refine mstart "java/lang/StringBuilder" (by decide +kernel) rfl (Nat.le_of_ble_eq_true rfl) ?_
  intro p e s m below meth c ls hx hb hr hts hown hml hlocks hname hC hA hW hl
  have hl : lv_has ls 1 [(0, .ref a)] := hl
  have hK := hC.1
  have hS : va_S A s.heap s.heap [] := va_S.rf
  refine h_new (D := G.1) (C := RJ0) (T := TJ0) (N := 4) (ci := 0) (fs := [.null, .int 0, .int 0, .int 0]) hx hb hts inJ0 tyJ0 tyJ0_ok hown (hts _ tw_6_30) (hts _ tw_1_176) (hts _ tw_1_4) hK hS rfl (fun j hj => match j, hj with | 0, _ => rfl | 1, _ => rfl | 2, _ => rfl | 3, _ => rfl) (Nat.le_trans (show 0 + 1 ≤ 2 by omega) (Nat.le_of_ble_eq_true rfl)) (Nat.le_trans (show 0 + 4 ≤ 64 by omega) (Nat.le_of_ble_eq_true rfl)) dJ4_toString_0e30d_0 (fun so H48 hso hOso z48 o48 hS => ?_)
  have hZ48 := hS.1
  have hMso : A so := hA so (by omega)
  have hL := SBs_n hW o48
  refine lv_dup hx hb dJ4_toString_0e30d_3 rfl ?_
  refine lv_aload_n hx hb dJ4_toString_0e30d_4 rfl (lv_at hl 0 rfl) ?_
  refine qV_I (A := A) (A1 := A) (b := so) (As := [.ref a]) (rest := .ref so :: []) ⟨hx, hb, hml, hown, hts⟩ (mJ0_init_81219 (A := A) (n := n) hMso h60) (cwI 1 hts (gI tw_6_33) rfl rfl rfl (hts _ tw_1_4) (hts _ tw_6_31) (hts _ tw_6_32) rfl (by decide +kernel) ⟨Nat.le_of_ble_eq_true rfl, Nat.le_of_ble_eq_true rfl⟩) hC hS (fun _ h => h) (fun q h => hA q (Nat.le_trans hS.1 h))  ⟨hOso, hL⟩ rfl rfl hl.1 (Nat.le_of_ble_eq_true rfl) ⟨Nat.le_trans (show (0 + 1) + 1 ≤ 2 by omega) (Nat.le_of_ble_eq_true rfl), Nat.le_trans (show (0 + 4) + 60 ≤ 64 by omega) (Nat.le_of_ble_eq_true rfl)⟩ dJ4_toString_0e30d_5 (fun H49 L49 hP49 hk49 hS => ?_)
  have hZ49 := hS.1
  exact q_a hx hb hr (Or.inl ⟨_, rfl⟩) hlocks dJ4_toString_0e30d_8 hS (by omega) (by omega) trivial

abbrev rmX4_told : Room := { frames := 7, cells := 64, slots := 7404, locals := 171 }
theorem mX4_told {l : Launch} {G : Cx} {A : Nat → Prop} {a sz : Nat} {t : List Nat} (tok : okc t) (t60 : t.length ≤ 60) : Met l yX4_told (.code yX4_told cX4_told 6 (some (.object "java/lang/String")) :: GW) rmX4_told (PC G A [.ref a] (fun H => H.size = sz ∧ IA0 G a t H)) (qR A (fun _ _ => True)) 64 7404 (A) := by
  refine mstart "SigntextModel" (by decide +kernel) rfl (Nat.le_of_ble_eq_true rfl) ?_
  intro p e s m below meth c ls hx hb hr hts hown hml hlocks hname hC hA hW hl
  have hl : lv_has ls 6 [(0, .ref a)] := hl
  have hK := hC.1
  have hS : va_S A s.heap s.heap [] := va_S.rf
  obtain ⟨hsz, hR⟩ := hW
  refine h_new (D := G.1) (C := RJ4) (T := TJ4) (N := 4) (ci := 1) (fs := [.null, .int 0, .int 0, .int 0]) hx hb hts inJ4 tyJ4 tyJ4_ok hown (hts _ tw_5_194) (hts _ tw_5_195) (hts _ tw_1_25) hK hS rfl (fun j hj => match j, hj with | 0, _ => rfl | 1, _ => rfl | 2, _ => rfl | 3, _ => rfl) (Nat.le_trans (show 0 + 1 ≤ 64 by omega) (Nat.le_of_ble_eq_true rfl)) (Nat.le_trans (show 0 + 4 ≤ 7404 by omega) (Nat.le_of_ble_eq_true rfl)) dX4_told_0 (fun sb H50 hsb hOsb z50 o50 hS => ?_)
  have hZ50 := hS.1
  have hMsb : A sb := hA sb (by omega)
  have hR := hR.n o50
  refine lv_dup hx hb dX4_told_3 rfl ?_
  refine qV_I (A := A) (A1 := ow sb sb H50.size) (b := sb) (As := []) (rest := .ref sb :: []) ⟨hx, hb, hml, hown, hts⟩ (mJ4_init_da8c8 (A := ow sb sb H50.size) (Or.inl rfl)) (cwI 0 hts (gI tw_5_198) rfl rfl rfl (hts _ tw_1_25) (hts _ tw_5_196) (hts _ tw_5_197) rfl (by decide +kernel) ⟨Nat.le_of_ble_eq_true rfl, Nat.le_of_ble_eq_true rfl⟩) hC hS (ow_in hMsb hMsb hA (by omega)) ow_n  hOsb rfl rfl hl.1 (Nat.le_of_ble_eq_true rfl) ⟨Nat.le_trans (show (0 + 1) + 1 ≤ 64 by omega) (Nat.le_of_ble_eq_true rfl), Nat.le_trans (show (0 + 4) + 16 ≤ 7404 by omega) (Nat.le_of_ble_eq_true rfl)⟩ dX4_told_4 (fun H51 L51 hP51 hk51 hS => ?_)
  have hZ51 := hS.1
  have hra : a ≠ sb := by have h8 := hOsb; rintro rfl; exact at_ne_oa hK h8 (r := (RJ4, TJ4, 4)) rfl hR.fst 0 rfl rfl
  have hR := hR.kp hk51 (ow_no hra hra hR.lt)
  have hL : SBs G A sb 0 H51 := SBs_mono (ow_in hMsb hMsb hA (by omega)) hP51
  have hR1 := hR.ia hC.2.1.2
  refine lv_astore_n (lv' := [(1, .ref sb), (0, .ref a)]) hx hb dX4_told_7 rfl hl (by decide) rfl (fun ls hl => ?_)
  refine lv_aload_n hx hb dX4_told_8 rfl (lv_at hl 1 rfl) ?_
  refine lv_astore_n (lv' := [(2, .ref a), (1, .ref sb), (0, .ref a)]) hx hb dX4_told_9 rfl hl (by decide) rfl (fun ls hl => ?_)
  refine lv_aload_n hx hb dX4_told_10 rfl (lv_at hl 0 rfl) ?_
  refine h_ilen hx hb hC.2.1 hR1 dX4_told_11 ?_
  refine lv_istore_n (lv' := [(3, .int (nI t.length)), (2, .ref a), (1, .ref sb), (0, .ref a)]) hx hb dX4_told_12 rfl hl (by decide) rfl (fun ls hl => ?_)
  refine lv_iconst (v := nI 0) hx hb dX4_told_13 (by decide) ?_
  refine lv_istore (lv' := [(4, .int (nI 0)), (3, .int (nI t.length)), (2, .ref a), (1, .ref sb), (0, .ref a)]) hx hb dX4_told_14 hl (by decide) rfl (fun ls hl => ?_)
  have hl : lv_has ls 6 [(4, .int (nI 0)), (3, .int (nI t.length)), (2, .ref a), (1, .ref sb)] := (lv_sub hl [0, 1, 2, 3] rfl)
  refine W.widen (k := 2 + 0) (n := 20 + 0 * 122) (by decide) (by decide) ?_
  refine nloop (P := fun j => ∀ (ls : Array Slot) (H : Heap) (L : List Loc), lv_has ls 6 [(4, .int (nI j)), (3, .int (nI t.length)), (2, .ref a), (1, .ref sb)] → va_S A s.heap H L → IA0 G a t H → SBs G A sb j H → W p l e rmX4_told s m [.ref a].toArray below meth c H L (2 + j) (20 + j * 122) (MQ below (qR A (fun _ _ => True)) [.ref a].toArray s 64 7404 (A)) (F0 m 16 ls [])) t.length ?_ 0 (Nat.zero_le _) ls H51 L51 hl hS hR hL
  clear hl
  intro j hj ih ls H L hl
  clear hS hR hL hR1
  intro hS hR hL
  have hZ0 := hS.1
  have hR1 := hR.ia hC.2.1.2
  refine lv_iload hx hb dX4_told_16 (lv_at hl 0 rfl) ?_
  refine lv_iload_n hx hb dX4_told_18 rfl (lv_at hl 1 rfl) ?_
  refine b_ge (tgt := 42) hx hb dX4_told_19 (by decide) (by omega) (by omega) (fun c_52 => ?_) (fun c_52 => ?_)
  · have ej : j = t.length := by omega
    rw [ej] at hL
    refine lv_aload_n hx hb dX4_told_42 rfl (lv_at hl 3 rfl) ?_
    refine qR_V (A := A) (A1 := A) (b := sb) (As := []) (rest := []) ⟨hx, hb, hml, hown, hts⟩ (mJ4_toString_0e30d (A := A) (n := t.length) t60) (cwV 0 hts (gV tw_6_26 tw_6_27 tw_6_28 tw_1_25 tw_6_29) rfl rfl rfl (by decide +kernel) ⟨Nat.le_of_ble_eq_true rfl, Nat.le_of_ble_eq_true rfl⟩) hC hS (fun _ h => h) (fun q h => hA q (Nat.le_trans hS.1 h)) (SBs_recv hK hL) hL rfl rfl hl.1 (Nat.le_of_ble_eq_true rfl) ⟨Nat.le_trans (show (2 + j) + 2 ≤ 64 by omega) (Nat.le_of_ble_eq_true rfl), Nat.le_trans (show (20 + j * 122) + 64 ≤ 7404 by omega) (Nat.le_of_ble_eq_true rfl)⟩ dX4_told_43 (fun rv53 H53 L53 hP53 hk53 hS => ?_)
    have hZ53 := hS.1
    exact q_a hx hb hr (Or.inl ⟨_, rfl⟩) hlocks dX4_told_46 hS (by omega) (by omega) trivial
  · have tk := tok j
    refine lv_aload_n hx hb dX4_told_22 rfl (lv_at hl 2 rfl) ?_
    refine lv_iload hx hb dX4_told_23 (lv_at hl 0 rfl) ?_
    refine h_ild hx hb hC.2.1 hR1 (i := j) (by omega) (by omega) dX4_told_25 ?_
    refine lv_istore (lv' := [(5, .int (nI (t.getD j 0))), (4, .int (nI j)), (3, .int (nI t.length)), (2, .ref a), (1, .ref sb)]) hx hb dX4_told_26 hl (by decide) rfl (fun ls hl => ?_)
    refine lv_aload_n hx hb dX4_told_28 rfl (lv_at hl 4 rfl) ?_
    refine lv_iload hx hb dX4_told_29 (lv_at hl 0 rfl) ?_
    refine lv_i2c hx hb dX4_told_31 (show _ = nI (t.getD j 0) from (chr_id (n := t.getD j 0) (by omega))) ?_
    refine qR_V (A := A) (A1 := (fun q9 => A q9 ∧ ¬ ∃ t9, IA0 G q9 t9 H)) (b := sb) (As := [.int (nI (t.getD j 0))]) (rest := []) ⟨hx, hb, hml, hown, hts⟩ (mJ4_append_cf468 (A := (fun q9 => A q9 ∧ ¬ ∃ t9, IA0 G q9 t9 H)) (n := j) (k0 := t.getD j 0) (SBs_A hK hL hMsb) (by omega) tk) (cwV 1 hts (gV tw_5_218 tw_5_219 tw_5_220 tw_1_25 tw_5_221) rfl rfl rfl (by decide +kernel) ⟨Nat.le_of_ble_eq_true rfl, Nat.le_of_ble_eq_true rfl⟩) hC hS (fun _ h => h.1) (fun q h => ⟨hA q (Nat.le_trans hS.1 h), fun ⟨t9, z9⟩ => by have := z9.lt; omega⟩) (SBs_recv hK hL) (SBs_sub hK hL) rfl rfl hl.1 (Nat.le_of_ble_eq_true rfl) ⟨Nat.le_trans (show (2 + j) + 1 ≤ 64 by omega) (Nat.le_of_ble_eq_true rfl), Nat.le_trans (show (20 + j * 122) + 122 ≤ 7404 by omega) (Nat.le_of_ble_eq_true rfl)⟩ dX4_told_32 (fun rv54 H54 L54 hP54 hk54 hS => ?_)
    have hZ54 := hS.1
    refine lv_pop hx hb dX4_told_35 rfl ?_
    refine lv_iinc (v := nI (j + 1)) (lv' := [(4, .int (nI (j + 1))), (5, .int (nI (t.getD j 0))), (3, .int (nI t.length)), (2, .ref a), (1, .ref sb)]) hx hb dX4_told_36 hl (k := 1) rfl (nI_add j 1) (by decide) rfl (fun ls hl => ?_)
    refine lv_goto (tgt := 16) hx hb dX4_told_39 (by decide) ?_
    refine W.widen (k := 2 + (j + 1)) (n := 20 + (j + 1) * 122) (by omega) (by omega) ?_
    exact ih (j + 1) (by omega) (by omega) ls H54 L54 (lv_sub hl [0, 2, 3, 4] rfl) hS (hR.kp hk54 (fun q => q.2 ⟨_, hR⟩)) (SBs_mono (fun _ h => h.1) hP54.2)
end
