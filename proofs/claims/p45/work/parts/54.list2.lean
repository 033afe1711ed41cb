/-! ArrayList, 2: it grows -/
theorem IA0.fst {G : Cx} {a : Nat} {t : List Nat} {H : Heap} (h : IA0 G a t H) : va_at G.1 vwCl (a, .inl (G.2.1 0, t.length, .inl h.choose)) H := h.choose_spec.1
theorem va_up_s {f : Nat → Option Nat} {i : Nat} {x : Option Nat} : va_up f i x i = x := if_pos rfl
theorem at_P2 {D : va_G} {cl : List vw_C} {a b : Nat} {e e2 : va_E} {H : Heap} (h : va_at D cl (a, e) H) (h2 : va_at D cl (b, e2) H) : va_P D cl [(a, e), (b, e2)] H := fun k q hk => by
  match k, hk with
  | 0, hk => cases hk; exact h
  | 1, hk => cases hk; exact h2
  | k + 2, hk => simp at hk
theorem at_D2 {A : Nat → Prop} {a b : Nat} {e e2 : va_E} (hn : a ≠ b) (ha : A a) (hb : A b) : va_D A [(a, e), (b, e2)] := by
  refine ⟨fun i j p q hi hj he => ?_, fun k q hk => ?_⟩
  · match i, j, hi, hj with
    | 0, 0, _, _ => rfl
    | 1, 1, _, _ => rfl
    | 0, 1, hi, hj => cases hi; cases hj; exact absurd he hn
    | 1, 0, hi, hj => cases hi; cases hj; exact absurd he.symm hn
    | i + 2, _, hi, _ => simp at hi
    | 0, j + 2, _, hj => simp at hj
    | 1, j + 2, _, hj => simp at hj
  · match k, hk with
    | 0, hk => cases hk; exact ha
    | 1, hk => cases hk; exact hb
    | k + 2, hk => simp at hk
theorem mmax_nI {a b : Nat} (ha : a < 2 ^ 31) (hb : b < 2 ^ 31) : (if nI a < nI b then nI b else nI a) = nI (max a b) := by
  by_cases h : a < b
  · rw [if_pos ((nI_ltI ha hb).mpr h), Nat.max_eq_right (by omega)]
  · rw [if_neg (fun q => h ((nI_ltI ha hb).mp q)), Nat.max_eq_left (by omega)]
theorem mmin_nI {a b : Nat} (ha : a < 2 ^ 31) (hb : b < 2 ^ 31) : (if nI b < nI a then nI b else nI a) = nI (min a b) := by
  by_cases h : b < a
  · rw [if_pos ((nI_ltI hb ha).mpr h), Nat.min_eq_right (by omega)]
  · rw [if_neg (fun q => h ((nI_ltI hb ha).mp q)), Nat.min_eq_left (by omega)]
section L2
variable {p : Program} {l : Launch} {e : Env} {R : Room} {s : State} {m : MethodId} {args : Array Value} {below : List Frame} {meth : Method} {c : Code} {H : Heap} {locs : List Loc} {cells slots : Nat} {Q : State → Prop}
variable {cc : ByteArray} {pc : Nat} {ls : Array Slot} {rest : List Value} {A : Nat → Prop} {a : Nat} {H0 : Heap} {G : Cx}
theorem findIA (hK : va_K G.1 vwCl (tyL G.2.1) s) : s.vm.findClass "[I" = some (G.2.1 0) := (hK.2 0 _ rfl).2
theorem findOA (hK : va_K G.1 vwCl (tyL G.2.1) s) : s.vm.findClass "[Ljava/lang/Object;" = some (G.2.1 5) := by
  obtain ⟨-, -, -, -, -, h4⟩ := (hK.2 5 _ rfl).2
  exact h4
theorem ia0_inst (hK : va_K G.1 vwCl (tyL G.2.1) s) {y : Nat} {t : List Nat} (h : IA0 G y t H) : ∃ cellV : Cell, H[y]? = some cellV ∧ cellV.vm.isStatics = false ∧ s.vm.findClass "[I" = some cellV.cls := by
  obtain ⟨f, h1, -⟩ := h
  exact ⟨_, h1, rfl, findIA hK⟩
theorem asg_io (hC : cx G A s) {comp c0 : ClassId} (h1 : s.vm.findClass "java/lang/Object" = some comp) (h2 : s.vm.findClass "[I" = some c0) : s.vm.assignable c0 comp = true := by
  have hx : xWs s := hC.2.2.2.2.2.2.2.2.2.2.2.1
  obtain ⟨x, t1, f1, f2, f3⟩ := Cond.castable_spec (xWs.use (a := #[]) hx tx_io)
  cases h2.symm.trans f1
  cases h1.symm.trans f2
  exact f3
theorem h_aastO (hexec : p.tables.exec = Jvm.exec) (hb : c.code = cc) (hC : cx G A s) {n v : Nat} {f : Nat → Option Nat} {nv : Nat} {fv : Nat → Int32} (h : va_at G.1 vwCl (a, .inl (G.2.1 5, n, .inr (.inr (.inr (.inr f))))) H) (hv : va_at G.1 vwCl (v, .inl (G.2.1 0, nv, .inl fv)) H) (hS : va_S A H0 H locs) (ha : A a) {i : Int32} (hin : vp_in i n) (hdg : decode cc pc = .ok (.aastore, 1))
    (kk : ∀ (H1 : Heap) (locs1 : List Loc), va_at G.1 vwCl (a, .inl (G.2.1 5, n, .inr (.inr (.inr (.inr (va_up f i.toNatClampNeg (some v))))))) H1 → H1.size = H.size → (∀ q : Nat, q ≠ a → H1[q]? = H[q]?) → va_S A H0 H1 locs1 → W p l e R s m args below meth c H1 locs1 cells slots Q (F0 m (pc + 1) ls rest)) : W p l e R s m args below meth c H locs cells slots Q (F0 m pc ls (.ref v :: .int i :: .ref a :: rest)) := by
  have hK := hC.1
  have hlt : i.toNatClampNeg < n := Nat.not_le.mp fun q => hin (Or.inr q)
  have h0 : ¬ i < 0 := fun q => hin (Or.inl q)
  obtain ⟨kA, comp, k1, k2, k3, -⟩ := (hK.2 5 _ rfl).2
  obtain ⟨kI, cmI, k4, k5⟩ := kI0 hC
  obtain ⟨kO, hkO, -⟩ := Vm.findClass_spec k3
  refine W.aast hexec hb h (fun q h => by cases h) (fun h => by cases h) k1 k2 rfl hkO ⟨h0, by show _ < (arrV _ _ _).slots.size; rw [arrV_size]; exact hlt⟩ hv (fun q h => by cases h) (by exact k4) (by exact asg_io hC k3 (findIA hK)) rfl rfl hdg fun H1 e z oq => ?_
  refine kk H1 _ ?_ z oq (hS.put z oq ha)
  show H1[a]? = some (vp_cell _ _)
  rw [e]
  rw [vp_cell_q, vp_cell_q, arrV_store]
  congr 2
  funext q
  by_cases hq : q = i.toNatClampNeg
  · subst hq
    simp [updV, va_up, va_rf]
  · simp [updV, va_up, hq]
end L2
theorem dJx4a65c_grow_92f84_0 : decode cJx4a65c_grow_92f84 0 = .ok (.aload_n 0, 1) := by decide +kernel
theorem dJx4a65c_grow_92f84_1 : decode cJx4a65c_grow_92f84 1 = .ok (.getfield 9, 3) := by decide +kernel
theorem dJx4a65c_grow_92f84_4 : decode cJx4a65c_grow_92f84 4 = .ok (.arraylength, 1) := by decide +kernel
theorem dJx4a65c_grow_92f84_5 : decode cJx4a65c_grow_92f84 5 = .ok (.istore_n 2, 1) := by decide +kernel
theorem dJx4a65c_grow_92f84_6 : decode cJx4a65c_grow_92f84 6 = .ok (.iload_n 2, 1) := by decide +kernel
theorem dJx4a65c_grow_92f84_7 : decode cJx4a65c_grow_92f84 7 = .ok (.ifCond .gt 13, 3) := by decide +kernel
theorem dJx4a65c_grow_92f84_10 : decode cJx4a65c_grow_92f84 10 = .ok (.aload_n 0, 1) := by decide +kernel
theorem dJx4a65c_grow_92f84_11 : decode cJx4a65c_grow_92f84 11 = .ok (.getfield 9, 3) := by decide +kernel
theorem dJx4a65c_grow_92f84_14 : decode cJx4a65c_grow_92f84 14 = .ok (.getstatic 39, 3) := by decide +kernel
theorem dJx4a65c_grow_92f84_17 : decode cJx4a65c_grow_92f84 17 = .ok (.if_acmp .eq 28, 3) := by decide +kernel
theorem dJx4a65c_grow_92f84_20 : decode cJx4a65c_grow_92f84 20 = .ok (.iload_n 2, 1) := by decide +kernel
theorem dJx4a65c_grow_92f84_21 : decode cJx4a65c_grow_92f84 21 = .ok (.iload_n 1, 1) := by decide +kernel
theorem dJx4a65c_grow_92f84_22 : decode cJx4a65c_grow_92f84 22 = .ok (.iload_n 2, 1) := by decide +kernel
theorem dJx4a65c_grow_92f84_23 : decode cJx4a65c_grow_92f84 23 = .ok (.isub, 1) := by decide +kernel
theorem dJx4a65c_grow_92f84_24 : decode cJx4a65c_grow_92f84 24 = .ok (.iload_n 2, 1) := by decide +kernel
theorem dJx4a65c_grow_92f84_25 : decode cJx4a65c_grow_92f84 25 = .ok (.iconst 1, 1) := by decide +kernel
theorem dJx4a65c_grow_92f84_26 : decode cJx4a65c_grow_92f84 26 = .ok (.ishr, 1) := by decide +kernel
theorem dJx4a65c_grow_92f84_27 : decode cJx4a65c_grow_92f84 27 = .ok (.invokestatic 73, 3) := by decide +kernel
theorem dJx4a65c_grow_92f84_30 : decode cJx4a65c_grow_92f84 30 = .ok (.istore_n 3, 1) := by decide +kernel
theorem dJx4a65c_grow_92f84_31 : decode cJx4a65c_grow_92f84 31 = .ok (.aload_n 0, 1) := by decide +kernel
theorem dJx4a65c_grow_92f84_32 : decode cJx4a65c_grow_92f84 32 = .ok (.aload_n 0, 1) := by decide +kernel
theorem dJx4a65c_grow_92f84_33 : decode cJx4a65c_grow_92f84 33 = .ok (.getfield 9, 3) := by decide +kernel
theorem dJx4a65c_grow_92f84_36 : decode cJx4a65c_grow_92f84 36 = .ok (.iload_n 3, 1) := by decide +kernel
theorem dJx4a65c_grow_92f84_37 : decode cJx4a65c_grow_92f84 37 = .ok (.invokestatic 66, 3) := by decide +kernel
theorem dJx4a65c_grow_92f84_40 : decode cJx4a65c_grow_92f84 40 = .ok (.dup_x1, 1) := by decide +kernel
theorem dJx4a65c_grow_92f84_41 : decode cJx4a65c_grow_92f84 41 = .ok (.putfield 9, 3) := by decide +kernel
theorem dJx4a65c_grow_92f84_44 : decode cJx4a65c_grow_92f84 44 = .ok (.areturn, 1) := by decide +kernel
theorem dJx4a65c_grow_92f84_45 : decode cJx4a65c_grow_92f84 45 = .ok (.aload_n 0, 1) := by decide +kernel
theorem dJx4a65c_grow_92f84_46 : decode cJx4a65c_grow_92f84 46 = .ok (.bipush 10, 2) := by decide +kernel
theorem dJx4a65c_grow_92f84_48 : decode cJx4a65c_grow_92f84 48 = .ok (.iload_n 1, 1) := by decide +kernel
theorem dJx4a65c_grow_92f84_49 : decode cJx4a65c_grow_92f84 49 = .ok (.invokestatic 79, 3) := by decide +kernel
theorem dJx4a65c_grow_92f84_52 : decode cJx4a65c_grow_92f84 52 = .ok (.anewarray 7, 3) := by decide +kernel
theorem dJx4a65c_grow_92f84_55 : decode cJx4a65c_grow_92f84 55 = .ok (.dup_x1, 1) := by decide +kernel
theorem dJx4a65c_grow_92f84_56 : decode cJx4a65c_grow_92f84 56 = .ok (.putfield 9, 3) := by decide +kernel
theorem dJx4a65c_grow_92f84_59 : decode cJx4a65c_grow_92f84 59 = .ok (.areturn, 1) := by decide +kernel
theorem dJx4a65c_grow_d5877_0 : decode cJx4a65c_grow_d5877 0 = .ok (.aload_n 0, 1) := by decide +kernel
theorem dJx4a65c_grow_d5877_1 : decode cJx4a65c_grow_d5877 1 = .ok (.aload_n 0, 1) := by decide +kernel
theorem dJx4a65c_grow_d5877_2 : decode cJx4a65c_grow_d5877 2 = .ok (.getfield 48, 3) := by decide +kernel
theorem dJx4a65c_grow_d5877_5 : decode cJx4a65c_grow_d5877 5 = .ok (.iconst 1, 1) := by decide +kernel
theorem dJx4a65c_grow_d5877_6 : decode cJx4a65c_grow_d5877 6 = .ok (.iadd, 1) := by decide +kernel
theorem dJx4a65c_grow_d5877_7 : decode cJx4a65c_grow_d5877 7 = .ok (.invokevirtual 69, 3) := by decide +kernel
theorem dJx4a65c_grow_d5877_10 : decode cJx4a65c_grow_d5877 10 = .ok (.areturn, 1) := by decide +kernel
theorem dJx4a65c_add_72be8_0 : decode cJx4a65c_add_72be8 0 = .ok (.iload_n 3, 1) := by decide +kernel
theorem dJx4a65c_add_72be8_1 : decode cJx4a65c_add_72be8 1 = .ok (.aload_n 2, 1) := by decide +kernel
theorem dJx4a65c_add_72be8_2 : decode cJx4a65c_add_72be8 2 = .ok (.arraylength, 1) := by decide +kernel
theorem dJx4a65c_add_72be8_3 : decode cJx4a65c_add_72be8 3 = .ok (.if_icmp .ne 8, 3) := by decide +kernel
theorem dJx4a65c_add_72be8_6 : decode cJx4a65c_add_72be8 6 = .ok (.aload_n 0, 1) := by decide +kernel
theorem dJx4a65c_add_72be8_7 : decode cJx4a65c_add_72be8 7 = .ok (.invokevirtual 129, 3) := by decide +kernel
theorem dJx4a65c_add_72be8_10 : decode cJx4a65c_add_72be8 10 = .ok (.astore_n 2, 1) := by decide +kernel
theorem dJx4a65c_add_72be8_11 : decode cJx4a65c_add_72be8 11 = .ok (.aload_n 2, 1) := by decide +kernel
theorem dJx4a65c_add_72be8_12 : decode cJx4a65c_add_72be8 12 = .ok (.iload_n 3, 1) := by decide +kernel
theorem dJx4a65c_add_72be8_13 : decode cJx4a65c_add_72be8 13 = .ok (.aload_n 1, 1) := by decide +kernel
theorem dJx4a65c_add_72be8_14 : decode cJx4a65c_add_72be8 14 = .ok (.aastore, 1) := by decide +kernel
theorem dJx4a65c_add_72be8_15 : decode cJx4a65c_add_72be8 15 = .ok (.aload_n 0, 1) := by decide +kernel
theorem dJx4a65c_add_72be8_16 : decode cJx4a65c_add_72be8 16 = .ok (.iload_n 3, 1) := by decide +kernel
theorem dJx4a65c_add_72be8_17 : decode cJx4a65c_add_72be8 17 = .ok (.iconst 1, 1) := by decide +kernel
theorem dJx4a65c_add_72be8_18 : decode cJx4a65c_add_72be8 18 = .ok (.iadd, 1) := by decide +kernel
theorem dJx4a65c_add_72be8_19 : decode cJx4a65c_add_72be8 19 = .ok (.putfield 48, 3) := by decide +kernel
theorem dJx4a65c_add_72be8_22 : decode cJx4a65c_add_72be8 22 = .ok (.return_, 1) := by decide +kernel
theorem dJ7_copyOf_1904c_0 : decode cJ7_copyOf_1904c 0 = .ok (.aload_n 0, 1) := by decide +kernel
theorem dJ7_copyOf_1904c_1 : decode cJ7_copyOf_1904c 1 = .ok (.iload_n 1, 1) := by decide +kernel
theorem dJ7_copyOf_1904c_2 : decode cJ7_copyOf_1904c 2 = .ok (.aload_n 0, 1) := by decide +kernel
theorem dJ7_copyOf_1904c_3 : decode cJ7_copyOf_1904c 3 = .ok (.invokevirtual 86, 3) := by decide +kernel
theorem dJ7_copyOf_1904c_6 : decode cJ7_copyOf_1904c 6 = .ok (.invokestatic 300, 3) := by decide +kernel
theorem dJ7_copyOf_1904c_9 : decode cJ7_copyOf_1904c 9 = .ok (.areturn, 1) := by decide +kernel
theorem dJ7_copyOf_6403c_0 : decode cJ7_copyOf_6403c 0 = .ok (.aload_n 2, 1) := by decide +kernel
theorem dJ7_copyOf_6403c_1 : decode cJ7_copyOf_6403c 1 = .ok (.ldc 110, 2) := by decide +kernel
theorem dJ7_copyOf_6403c_3 : decode cJ7_copyOf_6403c 3 = .ok (.if_acmp .ne 10, 3) := by decide +kernel
theorem dJ7_copyOf_6403c_6 : decode cJ7_copyOf_6403c 6 = .ok (.iload_n 1, 1) := by decide +kernel
theorem dJ7_copyOf_6403c_7 : decode cJ7_copyOf_6403c 7 = .ok (.anewarray 2, 3) := by decide +kernel
theorem dJ7_copyOf_6403c_10 : decode cJ7_copyOf_6403c 10 = .ok (.goto 14, 3) := by decide +kernel
theorem dJ7_copyOf_6403c_13 : decode cJ7_copyOf_6403c 13 = .ok (.aload_n 2, 1) := by decide +kernel
theorem dJ7_copyOf_6403c_14 : decode cJ7_copyOf_6403c 14 = .ok (.invokevirtual 90, 3) := by decide +kernel
theorem dJ7_copyOf_6403c_17 : decode cJ7_copyOf_6403c 17 = .ok (.iload_n 1, 1) := by decide +kernel
theorem dJ7_copyOf_6403c_18 : decode cJ7_copyOf_6403c 18 = .ok (.invokestatic 95, 3) := by decide +kernel
theorem dJ7_copyOf_6403c_21 : decode cJ7_copyOf_6403c 21 = .ok (.checkcast 110, 3) := by decide +kernel
theorem dJ7_copyOf_6403c_24 : decode cJ7_copyOf_6403c 24 = .ok (.astore_n 3, 1) := by decide +kernel
theorem dJ7_copyOf_6403c_25 : decode cJ7_copyOf_6403c 25 = .ok (.aload_n 0, 1) := by decide +kernel
theorem dJ7_copyOf_6403c_26 : decode cJ7_copyOf_6403c 26 = .ok (.iconst 0, 1) := by decide +kernel
theorem dJ7_copyOf_6403c_27 : decode cJ7_copyOf_6403c 27 = .ok (.aload_n 3, 1) := by decide +kernel
theorem dJ7_copyOf_6403c_28 : decode cJ7_copyOf_6403c 28 = .ok (.iconst 0, 1) := by decide +kernel
theorem dJ7_copyOf_6403c_29 : decode cJ7_copyOf_6403c 29 = .ok (.aload_n 0, 1) := by decide +kernel
theorem dJ7_copyOf_6403c_30 : decode cJ7_copyOf_6403c 30 = .ok (.arraylength, 1) := by decide +kernel
theorem dJ7_copyOf_6403c_31 : decode cJ7_copyOf_6403c 31 = .ok (.iload_n 1, 1) := by decide +kernel
theorem dJ7_copyOf_6403c_32 : decode cJ7_copyOf_6403c 32 = .ok (.invokestatic 304, 3) := by decide +kernel
theorem dJ7_copyOf_6403c_35 : decode cJ7_copyOf_6403c 35 = .ok (.invokestatic 150, 3) := by decide +kernel
theorem dJ7_copyOf_6403c_38 : decode cJ7_copyOf_6403c 38 = .ok (.aload_n 3, 1) := by decide +kernel
theorem dJ7_copyOf_6403c_39 : decode cJ7_copyOf_6403c 39 = .ok (.areturn, 1) := by decide +kernel
theorem dJ8_newLength_cabcc_0 : decode cJ8_newLength_cabcc 0 = .ok (.iload_n 0, 1) := by decide +kernel
theorem dJ8_newLength_cabcc_1 : decode cJ8_newLength_cabcc 1 = .ok (.iload_n 1, 1) := by decide +kernel
theorem dJ8_newLength_cabcc_2 : decode cJ8_newLength_cabcc 2 = .ok (.iload_n 2, 1) := by decide +kernel
theorem dJ8_newLength_cabcc_3 : decode cJ8_newLength_cabcc 3 = .ok (.invokestatic 194, 3) := by decide +kernel
theorem dJ8_newLength_cabcc_6 : decode cJ8_newLength_cabcc 6 = .ok (.iadd, 1) := by decide +kernel
theorem dJ8_newLength_cabcc_7 : decode cJ8_newLength_cabcc 7 = .ok (.istore_n 3, 1) := by decide +kernel
theorem dJ8_newLength_cabcc_8 : decode cJ8_newLength_cabcc 8 = .ok (.iconst 0, 1) := by decide +kernel
theorem dJ8_newLength_cabcc_9 : decode cJ8_newLength_cabcc 9 = .ok (.iload_n 3, 1) := by decide +kernel
theorem dJ8_newLength_cabcc_10 : decode cJ8_newLength_cabcc 10 = .ok (.if_icmp .ge 11, 3) := by decide +kernel
theorem dJ8_newLength_cabcc_13 : decode cJ8_newLength_cabcc 13 = .ok (.iload_n 3, 1) := by decide +kernel
theorem dJ8_newLength_cabcc_14 : decode cJ8_newLength_cabcc 14 = .ok (.ldc 200, 2) := by decide +kernel
theorem dJ8_newLength_cabcc_16 : decode cJ8_newLength_cabcc 16 = .ok (.if_icmp .gt 5, 3) := by decide +kernel
theorem dJ8_newLength_cabcc_19 : decode cJ8_newLength_cabcc 19 = .ok (.iload_n 3, 1) := by decide +kernel
theorem dJ8_newLength_cabcc_20 : decode cJ8_newLength_cabcc 20 = .ok (.ireturn, 1) := by decide +kernel
theorem dJ8_newLength_cabcc_21 : decode cJ8_newLength_cabcc 21 = .ok (.iload_n 0, 1) := by decide +kernel
theorem dJ8_newLength_cabcc_22 : decode cJ8_newLength_cabcc 22 = .ok (.iload_n 1, 1) := by decide +kernel
theorem dJ8_newLength_cabcc_23 : decode cJ8_newLength_cabcc 23 = .ok (.invokestatic 201, 3) := by decide +kernel
theorem dJ8_newLength_cabcc_26 : decode cJ8_newLength_cabcc 26 = .ok (.ireturn, 1) := by decide +kernel
abbrev rmJ8_newLength_cabcc : Room := { frames := 1, cells := 0, slots := 0, locals := 20 }
theorem mJ8_newLength_cabcc {l : Launch} {G : Cx} {A : Nat → Prop} {o9 a9 b9 : Nat} (h0 : 0 < max a9 b9) (h30 : o9 + max a9 b9 < 2 ^ 30) : Met l yJ8_newLength_cabcc (.code yJ8_newLength_cabcc cJ8_newLength_cabcc 4 (some .int) :: GW) rmJ8_newLength_cabcc (PC G A [.int (nI o9), .int (nI a9), .int (nI b9)] (fun _ => True)) (vp_Si (fun r => r = nI (o9 + max a9 b9))) 0 0 (fun _ => False) := by
  refine mstart "jdk/internal/util/ArraysSupport" (by decide +kernel) rfl (Nat.le_of_ble_eq_true rfl) ?_
  intro p e s m below meth c ls hx hb hr hts hown hml hlocks hname hC hA hW hl
  have hl : lv_has ls 4 [(0, .int (nI o9)), (1, .int (nI a9)), (2, .int (nI b9))] := hl
  have hK := hC.1
  have hS : va_S A s.heap s.heap [] := va_S.rf
  have hm1 := Nat.le_max_left a9 b9
  have hm2 := Nat.le_max_right a9 b9
  refine lv_iload_n hx hb dJ8_newLength_cabcc_0 rfl (lv_at hl 0 rfl) ?_
  refine lv_iload_n hx hb dJ8_newLength_cabcc_1 rfl (lv_at hl 1 rfl) ?_
  refine lv_iload_n hx hb dJ8_newLength_cabcc_2 rfl (lv_at hl 2 rfl) ?_
  refine va_mmax hx hb (hml.trans hl.1.symm) hown (hts _ tw_5_104) (hts _ tw_5_105) (hts _ tw_1_19) (hts _ tw_5_106) (Nat.le_of_ble_eq_true rfl) (Nat.le_of_ble_eq_true rfl) (Nat.zero_le _) (Nat.zero_le _) dJ8_newLength_cabcc_3 ?_
  refine lv_cv (mmax_nI (a := a9) (b := b9) (by omega) (by omega)) ?_
  refine lv_iadd hx hb dJ8_newLength_cabcc_6 ?_
  refine lv_cv (nI_add o9 (max a9 b9)) ?_
  refine lv_istore_n (lv' := [(3, .int (nI (o9 + max a9 b9))), (0, .int (nI o9)), (1, .int (nI a9)), (2, .int (nI b9))]) hx hb dJ8_newLength_cabcc_7 rfl hl (by decide) rfl (fun ls hl => ?_)
  refine lv_iconst (v := nI 0) hx hb dJ8_newLength_cabcc_8 (by decide) ?_
  refine lv_iload_n hx hb dJ8_newLength_cabcc_9 rfl (lv_at hl 0 rfl) ?_
  refine b_ge (tgt := 21) hx hb dJ8_newLength_cabcc_10 (by decide) (by omega) (by omega) (fun c_1 => ?_) (fun c_1 => ?_)
  · exact absurd c_1 (by omega)
  · refine lv_iload_n hx hb dJ8_newLength_cabcc_13 rfl (lv_at hl 0 rfl) ?_
    refine lv_ldc (v := 2147483639) hx hb hown (hts _ tw_5_107) dJ8_newLength_cabcc_14 ?_
    refine lv_cv (show (2147483639 : Int32) = nI 2147483639 from rfl) ?_
    refine b_gt (tgt := 21) hx hb dJ8_newLength_cabcc_16 (by decide) (by omega) (by omega) (fun c_2 => ?_) (fun c_2 => ?_)
    · exact absurd c_2 (by omega)
    · refine lv_iload_n hx hb dJ8_newLength_cabcc_19 rfl (lv_at hl 0 rfl) ?_
      exact p_i hx hb hr hlocks dJ8_newLength_cabcc_20 rfl

abbrev rmJ7_copyOf_6403c : Room := { frames := 1, cells := 1, slots := 90, locals := 60 }
theorem mJ7_copyOf_6403c {l : Launch} {G : Cx} {A : Nat → Prop} {ed cap m9 sz : Nat} {f : Nat → Option Nat} (hAe : A ed) (hc : cap ≤ m9) (hm9 : m9 ≤ 90) : Met l yJ7_copyOf_6403c (.code yJ7_copyOf_6403c cJ7_copyOf_6403c 4 (some (.array (.object "java/lang/Object"))) :: GW) rmJ7_copyOf_6403c (PC G A [.ref ed, .int (nI m9), .ref (G.2.2 11)] (fun H => H.size = sz ∧ va_at G.1 vwCl (ed, .inl (G.2.1 5, cap, .inr (.inr (.inr (.inr f))))) H ∧ (∀ i : Nat, i < cap → ∃ (y : Nat) (t : List Nat), f i = some y ∧ IA0 G y t H))) (qR A (fun r H => sz ≤ r ∧ va_at G.1 vwCl (ed, .inl (G.2.1 5, cap, .inr (.inr (.inr (.inr f))))) H ∧ ∃ g : Nat → Option Nat, va_at G.1 vwCl (r, .inl (G.2.1 5, m9, .inr (.inr (.inr (.inr g))))) H ∧ ∀ i : Nat, i < cap → g i = f i)) 1 90 (A) := by
  refine mstart "java/util/Arrays" (by decide +kernel) rfl (Nat.le_of_ble_eq_true rfl) ?_
  intro p e s m below meth c ls hx hb hr hts hown hml hlocks hname hC hA hW hl
  have hl : lv_has ls 4 [(0, .ref ed), (1, .int (nI m9)), (2, .ref (G.2.2 11))] := hl
  have hK := hC.1
  have hS : va_S A s.heap s.heap [] := va_S.rf
  obtain ⟨hsz, hE, hrows⟩ := hW
  refine lv_aload_n hx hb dJ7_copyOf_6403c_0 rfl (lv_at hl 2 rfl) ?_
  refine va_ldcM hx hb hown (hts _ tw_5_133) hC.2.2.2.2.2.2.2.2.2.2.2.2.2.2.2.2.1 dJ7_copyOf_6403c_1 ?_
  refine lv_acmp_ne (rx := some (G.2.2 11)) (ry := some (G.2.2 11)) (tgt := 13) hx hb dJ7_copyOf_6403c_3 (by decide) (fun q => absurd rfl q) (fun _ => ?_)
  refine lv_iload_n hx hb dJ7_copyOf_6403c_6 rfl (lv_at hl 1 rfl) ?_
  refine h_newq (N' := m9) hx hb hown (hts _ tw_5_135) hC.2.2.2.2.2.2.2.2.2.1 hK 5 rfl hS (nI_pos (by omega)) (nI_clamp (by omega)) (by omega) (Nat.le_trans (show 0 + 1 ≤ 1 by omega) (Nat.le_of_ble_eq_true rfl)) (Nat.le_trans (show 0 + m9 ≤ 90 by omega) (Nat.le_of_ble_eq_true rfl)) dJ7_copyOf_6403c_7 (fun na H3 hna hFna z3 o3 hS => ?_)
  have n3hE : ed ≠ na := fun q => absurd hE.lt (by rw [q, hna]; exact Nat.lt_irrefl _)
  have hE := at_n hE o3
  have hZ3 := hS.1
  have hMna : A na := hA na (by omega)
  have hrows : (∀ i : Nat, i < cap → ∃ (y : Nat) (t : List Nat), f i = some y ∧ IA0 G y t H3) := fun i hi => by obtain ⟨y, t, h1, h2⟩ := hrows i hi; exact ⟨y, t, h1, h2.n o3⟩
  refine lv_goto (tgt := 24) hx hb dJ7_copyOf_6403c_10 (by decide) ?_
  refine lv_astore_n (lv' := [(3, .ref na), (0, .ref ed), (1, .int (nI m9)), (2, .ref (G.2.2 11))]) hx hb dJ7_copyOf_6403c_24 rfl hl (by decide) rfl (fun ls hl => ?_)
  refine lv_aload_n hx hb dJ7_copyOf_6403c_25 rfl (lv_at hl 1 rfl) ?_
  refine lv_iconst (v := nI 0) hx hb dJ7_copyOf_6403c_26 (by decide) ?_
  refine lv_aload_n hx hb dJ7_copyOf_6403c_27 rfl (lv_at hl 0 rfl) ?_
  refine lv_iconst (v := nI 0) hx hb dJ7_copyOf_6403c_28 (by decide) ?_
  refine lv_aload_n hx hb dJ7_copyOf_6403c_29 rfl (lv_at hl 1 rfl) ?_
  refine va_alen hx hb hK (at_P hE) 0 5 (v := nI cap) rfl rfl rfl dJ7_copyOf_6403c_30 ?_
  refine lv_iload_n hx hb dJ7_copyOf_6403c_31 rfl (lv_at hl 2 rfl) ?_
  refine va_mmin hx hb (hml.trans hl.1.symm) hown (hts _ tw_5_136) (hts _ tw_5_137) (hts _ tw_1_19) (hts _ tw_5_138) (Nat.le_of_ble_eq_true rfl) (Nat.le_of_ble_eq_true rfl) (Nat.le_trans (show (0 + 1) ≤ 1 by omega) (Nat.le_of_ble_eq_true rfl)) (Nat.le_trans (show (0 + m9) ≤ 90 by omega) (Nat.le_of_ble_eq_true rfl)) dJ7_copyOf_6403c_32 ?_
  refine lv_cv (mmin_nI (a := cap) (b := m9) (by omega) (by omega)) ?_
  refine lv_cv (show _ = nI cap from by rw [Nat.min_eq_left hc]) ?_
  refine va_copyq (D := G.1) (a := na) (a0 := ed) (f := f) (g := fun _ => none) (C := "[I") (ws := [(ed, .inl (G.2.1 5, cap, .inr (.inr (.inr (.inr f))))), (na, .inl (G.2.1 5, m9, .inr (.inr (.inr (.inr (fun _ => none))))))]) hx hb (hml.trans hl.1.symm) hown (hts _ tw_5_139) (hts _ tn_acopy) (hts _ tw_5_140) (hts _ tw_1_22) hK (at_P2 hE hFna) (at_D2 n3hE hAe hMna) hS 0 1 5 5 rfl rfl rfl rfl (nI_pos (by omega)) (nI_pos (by omega)) (nI_pos (by omega)) (by rw [nI_clamp (by omega), nI_clamp (by omega)]; omega) (by rw [nI_clamp (by omega), nI_clamp (by omega)]; omega) (fun i hi y hy => by rw [nI_clamp (by omega)] at hi hy; rw [Nat.zero_add] at hy; obtain ⟨y9, t9, h1, h2⟩ := hrows i hi; rw [h1] at hy; cases hy; exact ia0_inst hK h2) (fun c1 c2 q1 q2 => asg_io hC q1 q2) (Nat.le_of_ble_eq_true rfl) (Nat.le_of_ble_eq_true rfl) dJ7_copyOf_6403c_35 (fun H9 L9 hP9 hD9 hS => ?_)
  have hE : va_at G.1 vwCl (ed, .inl (G.2.1 5, cap, .inr (.inr (.inr (.inr f))))) H9 := hP9 0 _ rfl
  have hN9 := hP9 1 _ rfl
  have hZ9 := hS.1
  refine lv_aload_n hx hb dJ7_copyOf_6403c_38 rfl (lv_at hl 0 rfl) ?_
  exact q_a hx hb hr (Or.inr ⟨_, rfl⟩) hlocks dJ7_copyOf_6403c_39 hS (by omega) (by omega) ⟨by omega, hE, _, hN9, fun i hi => by unfold va_cpy; rw [nI_clamp (n := 0) (by omega), nI_clamp (n := cap) (by omega), if_pos ⟨Nat.zero_le _, by omega⟩]; congr 1; omega⟩

abbrev rmJ7_copyOf_1904c : Room := { frames := 2, cells := 1, slots := 90, locals := 83 }
theorem mJ7_copyOf_1904c {l : Launch} {G : Cx} {A : Nat → Prop} {ed cap m9 sz : Nat} {f : Nat → Option Nat} (hAe : A ed) (hc : cap ≤ m9) (hm9 : m9 ≤ 90) : Met l yJ7_copyOf_1904c (.code yJ7_copyOf_1904c cJ7_copyOf_1904c 2 (some (.array (.object "java/lang/Object"))) :: GW) rmJ7_copyOf_1904c (PC G A [.ref ed, .int (nI m9)] (fun H => H.size = sz ∧ va_at G.1 vwCl (ed, .inl (G.2.1 5, cap, .inr (.inr (.inr (.inr f))))) H ∧ (∀ i : Nat, i < cap → ∃ (y : Nat) (t : List Nat), f i = some y ∧ IA0 G y t H))) (qR A (fun r H => sz ≤ r ∧ va_at G.1 vwCl (ed, .inl (G.2.1 5, cap, .inr (.inr (.inr (.inr f))))) H ∧ ∃ g : Nat → Option Nat, va_at G.1 vwCl (r, .inl (G.2.1 5, m9, .inr (.inr (.inr (.inr g))))) H ∧ ∀ i : Nat, i < cap → g i = f i)) 1 90 (A) := by
  refine mstart "java/util/Arrays" (by decide +kernel) rfl (Nat.le_of_ble_eq_true rfl) ?_
  intro p e s m below meth c ls hx hb hr hts hown hml hlocks hname hC hA hW hl
  have hl : lv_has ls 2 [(0, .ref ed), (1, .int (nI m9))] := hl
  have hK := hC.1
  have hS : va_S A s.heap s.heap [] := va_S.rf
  obtain ⟨hsz, hE, hrows⟩ := hW
  refine lv_aload_n hx hb dJ7_copyOf_1904c_0 rfl (lv_at hl 0 rfl) ?_
  refine lv_iload_n hx hb dJ7_copyOf_1904c_1 rfl (lv_at hl 1 rfl) ?_
  refine lv_aload_n hx hb dJ7_copyOf_1904c_2 rfl (lv_at hl 0 rfl) ?_
  refine va_getC hx hb (hml.trans hl.1.symm) hown (hts _ tw_5_114) (xWs.use hC.2.2.2.2.2.2.2.2.2.2.2.1 tx_getC) (hts _ tw_7_105) (hts _ tw_5_115) (hts _ tn_getC) hC.2.2.2.2.2.2.2.2.2.2.2.2.2.2.2.2.1 ⟨_, hE, rfl, findOA hK⟩ (Nat.le_of_ble_eq_true rfl) (Nat.le_of_ble_eq_true rfl) dJ7_copyOf_1904c_3 ?_
  refine qR_S (A := A) (A1 := A)  (As := [.ref ed, .int (nI m9), .ref (G.2.2 11)]) (rest := []) ⟨hx, hb, hml, hown, hts⟩ (mJ7_copyOf_6403c (A := A) (sz := sz) (f := f) (cap := cap) hAe hc hm9) (va_cwS 3 hts (gS tw_5_130 tw_5_131 tw_1_21 tw_5_132) rfl rfl rfl (by decide +kernel) ⟨Nat.le_of_ble_eq_true rfl, Nat.le_of_ble_eq_true rfl⟩) hC hS (fun _ h => h) (fun q h => hA q (Nat.le_trans hS.1 h))  ⟨hsz, hE, hrows⟩ rfl rfl hl.1 (Nat.le_of_ble_eq_true rfl) ⟨Nat.le_trans (show 0 + 1 ≤ 1 by omega) (Nat.le_of_ble_eq_true rfl), Nat.le_trans (show 0 + 90 ≤ 90 by omega) (Nat.le_of_ble_eq_true rfl)⟩ dJ7_copyOf_1904c_6 (fun rv4 H4 L4 hP4 hk4 hS => ?_)
  have hZ4 := hS.1
  exact q_a hx hb hr (Or.inr ⟨_, rfl⟩) hlocks dJ7_copyOf_1904c_9 hS (by omega) (by omega) hP4

abbrev rmJx4a65c_grow_92f84 : Room := { frames := 3, cells := 1, slots := 90, locals := 104 }
theorem mJx4a65c_grow_92f84_0 {l : Launch} {G : Cx} {A : Nat → Prop} {pa : Nat} {md : Int32} (hAp : A pa) : Met l yJx4a65c_grow_92f84 (.code yJx4a65c_grow_92f84 cJx4a65c_grow_92f84 4 (some (.array (.object "java/lang/Object"))) :: GW) rmJx4a65c_grow_92f84 (PC G A [.ref pa, .int (nI 1)] (fun H => va_at G.1 vwCl (pa, .inr (3, [.int md, .ref (G.2.2 10), .int 0])) H)) (qR A (fun r H => va_at G.1 vwCl (pa, .inr (3, [.int md, .ref r, .int 0])) H ∧ va_at G.1 vwCl (r, .inl (G.2.1 5, 10, .inr (.inr (.inr (.inr (fun _ => none)))))) H ∧ A r)) 1 90 (A) := by
  refine mstart "java/util/ArrayList" (by decide +kernel) rfl (Nat.le_of_ble_eq_true rfl) ?_
  intro p e s m below meth c ls hx hb hr hts hown hml hlocks hname hC hA hW hl
  have hl : lv_has ls 4 [(0, .ref pa), (1, .int (nI 1))] := hl
  have hK := hC.1
  have hS : va_S A s.heap s.heap [] := va_S.rf
  obtain ⟨-, -, -, -, -, -, -, -, zc9, zc10, -⟩ := hC.2.2.1
  have hO := hW
  refine lv_aload_n hx hb dJx4a65c_grow_92f84_0 rfl (lv_at hl 0 rfl) ?_
  refine va_get (D := G.1) (ci := 3) (C := RJx4a65c) (T := TJx4a65c) (N := 3) hx hb hts inJx4a65c hown hK (at_P hO) 0 rfl rfl 1 (by decide) (hts _ tw_4_157) (fun _ h9 => h9) rfl dJx4a65c_grow_92f84_1 ?_
  refine va_tlen (v := nI 0) hx hb zc10 hS rfl dJx4a65c_grow_92f84_4 ?_
  refine lv_istore_n (lv' := [(2, .int (nI 0)), (0, .ref pa), (1, .int (nI 1))]) hx hb dJx4a65c_grow_92f84_5 rfl hl (by decide) rfl (fun ls hl => ?_)
  refine lv_iload_n hx hb dJx4a65c_grow_92f84_6 rfl (lv_at hl 0 rfl) ?_
  refine lv_if_gt (tgt := 20) hx hb dJx4a65c_grow_92f84_7 (by decide) (fun q => absurd q (by decide)) (fun _ => ?_)
  refine lv_aload_n hx hb dJx4a65c_grow_92f84_10 rfl (lv_at hl 1 rfl) ?_
  refine va_get (D := G.1) (ci := 3) (C := RJx4a65c) (T := TJx4a65c) (N := 3) hx hb hts inJx4a65c hown hK (at_P hO) 0 rfl rfl 1 (by decide) (hts _ tw_4_157) (fun _ h9 => h9) rfl dJx4a65c_grow_92f84_11 ?_
  refine va_gets (v := .ref (G.2.2 10)) hx hb zc9 hS hown (hts _ tw_4_155) (fun _ h9 => h9) dJx4a65c_grow_92f84_14 ?_
  refine lv_acmp_eq (rx := some (G.2.2 10)) (ry := some (G.2.2 10)) (tgt := 45) hx hb dJx4a65c_grow_92f84_17 (by decide) (fun _ => ?_) (fun q => absurd rfl q)
  refine lv_aload_n hx hb dJx4a65c_grow_92f84_45 rfl (lv_at hl 1 rfl) ?_
  refine lv_bipush (v := nI 10) hx hb dJx4a65c_grow_92f84_46 (by decide) ?_
  refine lv_iload_n hx hb dJx4a65c_grow_92f84_48 rfl (lv_at hl 2 rfl) ?_
  refine va_mmax hx hb (hml.trans hl.1.symm) hown (hts _ tw_5_142) (hts _ tw_5_105) (hts _ tw_1_19) (hts _ tw_5_106) (Nat.le_of_ble_eq_true rfl) (Nat.le_of_ble_eq_true rfl) (Nat.zero_le _) (Nat.zero_le _) dJx4a65c_grow_92f84_49 ?_
  refine lv_cv (mmax_nI (a := 10) (b := 1) (by omega) (by omega)) ?_
  refine lv_cv (show _ = nI 10 from rfl) ?_
  refine h_newq (N' := 10) hx hb hown (hts _ tw_5_143) hC.2.2.2.2.2.2.2.2.2.1 hK 5 rfl hS (nI_pos (by omega)) (nI_clamp (by omega)) (by omega) (Nat.le_trans (show 0 + 1 ≤ 1 by omega) (Nat.le_of_ble_eq_true rfl)) (Nat.le_trans (show 0 + 10 ≤ 90 by omega) (Nat.le_of_ble_eq_true rfl)) dJx4a65c_grow_92f84_52 (fun na H5 hna hFna z5 o5 hS => ?_)
  have n5hO : pa ≠ na := fun q => absurd hO.lt (by rw [q, hna]; exact Nat.lt_irrefl _)
  have hO := at_n hO o5
  have hZ5 := hS.1
  have hMna : A na := hA na (by omega)
  refine lv_dup_x1 hx hb dJx4a65c_grow_92f84_55 rfl rfl ?_
  refine h_put (D := G.1) (ci := 3) (C := RJx4a65c) (T := TJx4a65c) (N := 3) hx hb hts inJx4a65c tyJx4a65c tyJx4a65c_ok nmJx4a65c hown hK hO hS hAp rfl 1 (by decide) (hts _ tw_4_157) (fun _ h9 => h9) rfl (tyJx4a65c_ok 1 (by decide)) rfl rfl (Nat.le_of_ble_eq_true rfl) dJx4a65c_grow_92f84_56 (fun H6 L6 hO z6 o6 hS => ?_)
  have hO : va_at G.1 vwCl (pa, .inr (3, [.int md, .ref na, .int 0])) H6 := hO
  have hFna := at_o hFna o6 (Ne.symm n5hO)
  have hZ6 := hS.1
  exact q_a hx hb hr (Or.inr ⟨_, rfl⟩) hlocks dJx4a65c_grow_92f84_59 hS (by omega) (by omega) ⟨hO, hFna, hMna⟩

theorem mJx4a65c_grow_92f84_1 {l : Launch} {G : Cx} {A : Nat → Prop} {pa ed cap : Nat} {md : Int32} {f : Nat → Option Nat} (hAp : A pa) (hAe : A ed) (h1 : 1 ≤ cap) (h60 : cap ≤ 60) : Met l yJx4a65c_grow_92f84 (.code yJx4a65c_grow_92f84 cJx4a65c_grow_92f84 4 (some (.array (.object "java/lang/Object"))) :: GW) rmJx4a65c_grow_92f84 (PC G A [.ref pa, .int (nI (cap + 1))] (fun H => va_at G.1 vwCl (pa, .inr (3, [.int md, .ref ed, .int (nI cap)])) H ∧ va_at G.1 vwCl (ed, .inl (G.2.1 5, cap, .inr (.inr (.inr (.inr f))))) H ∧ (∀ i : Nat, i < cap → ∃ (y : Nat) (t : List Nat), f i = some y ∧ IA0 G y t H))) (qR A (fun r H => va_at G.1 vwCl (pa, .inr (3, [.int md, .ref r, .int (nI cap)])) H ∧ (∃ g : Nat → Option Nat, va_at G.1 vwCl (r, .inl (G.2.1 5, cap + max 1 (cap / 2), .inr (.inr (.inr (.inr g))))) H ∧ ∀ i : Nat, i < cap → g i = f i) ∧ A r)) 1 90 (A) := by
  refine mstart "java/util/ArrayList" (by decide +kernel) rfl (Nat.le_of_ble_eq_true rfl) ?_
  intro p e s m below meth c ls hx hb hr hts hown hml hlocks hname hC hA hW hl
  have hl : lv_has ls 4 [(0, .ref pa), (1, .int (nI (cap + 1)))] := hl
  have hK := hC.1
  have hS : va_S A s.heap s.heap [] := va_S.rf
  obtain ⟨hO, hE, hrows⟩ := hW
  have hm1 := Nat.le_max_left 1 (cap / 2)
  have hm2 : max 1 (cap / 2) ≤ 30 := Nat.max_le.mpr ⟨by omega, by omega⟩
  refine lv_aload_n hx hb dJx4a65c_grow_92f84_0 rfl (lv_at hl 0 rfl) ?_
  refine va_get (D := G.1) (ci := 3) (C := RJx4a65c) (T := TJx4a65c) (N := 3) hx hb hts inJx4a65c hown hK (at_P hO) 0 rfl rfl 1 (by decide) (hts _ tw_4_157) (fun _ h9 => h9) rfl dJx4a65c_grow_92f84_1 ?_
  refine va_alen hx hb hK (at_P hE) 0 5 (v := nI cap) rfl rfl rfl dJx4a65c_grow_92f84_4 ?_
  refine lv_istore_n (lv' := [(2, .int (nI cap)), (0, .ref pa), (1, .int (nI (cap + 1)))]) hx hb dJx4a65c_grow_92f84_5 rfl hl (by decide) rfl (fun ls hl => ?_)
  refine lv_iload_n hx hb dJx4a65c_grow_92f84_6 rfl (lv_at hl 0 rfl) ?_
  refine lv_if_gt (tgt := 20) hx hb dJx4a65c_grow_92f84_7 (by decide) (fun c9 => ?_) (fun q => absurd (show nI 0 < nI cap from (nI_ltI (by omega) (by omega)).mpr (by omega)) q)
  refine lv_iload_n hx hb dJx4a65c_grow_92f84_20 rfl (lv_at hl 0 rfl) ?_
  refine lv_iload_n hx hb dJx4a65c_grow_92f84_21 rfl (lv_at hl 2 rfl) ?_
  refine lv_iload_n hx hb dJx4a65c_grow_92f84_22 rfl (lv_at hl 0 rfl) ?_
  refine lv_isub hx hb dJx4a65c_grow_92f84_23 ?_
  refine lv_cv (pk_sub (a := cap + 1) (b := cap) (by omega)) ?_
  refine lv_cv (show nI (cap + 1 - cap) = nI 1 from by rw [Nat.add_sub_cancel_left]) ?_
  refine lv_iload_n hx hb dJx4a65c_grow_92f84_24 rfl (lv_at hl 0 rfl) ?_
  refine lv_iconst (v := nI 1) hx hb dJx4a65c_grow_92f84_25 (by decide) ?_
  refine lv_ishr hx hb dJx4a65c_grow_92f84_26 ?_
  refine lv_cv (show _ = nI (cap / 2) from pk_shrN (by omega) _ 1 (by decide)) ?_
  refine kS_i (A := A) (As := [.int (nI cap), .int (nI 1), .int (nI (cap / 2))]) (rest := []) ⟨hx, hb, hml, hown, hts⟩ (mJ8_newLength_cabcc (A := A) (o9 := cap) (a9 := 1) (b9 := cap / 2) (by omega) (by omega)) (va_cwS 3 hts (gS tw_5_101 tw_5_102 tw_1_20 tw_5_103) rfl rfl rfl (by decide +kernel) ⟨Nat.le_of_ble_eq_true rfl, Nat.le_of_ble_eq_true rfl⟩) hC hS hA  trivial rfl rfl hl.1 (Nat.le_of_ble_eq_true rfl) ⟨Nat.zero_le _, Nat.zero_le _⟩ dJx4a65c_grow_92f84_27 (fun r9 h9 => lv_cv h9 ?_)
  refine lv_istore_n (lv' := [(3, .int (nI (cap + max 1 (cap / 2)))), (2, .int (nI cap)), (0, .ref pa), (1, .int (nI (cap + 1)))]) hx hb dJx4a65c_grow_92f84_30 rfl hl (by decide) rfl (fun ls hl => ?_)
  refine lv_aload_n hx hb dJx4a65c_grow_92f84_31 rfl (lv_at hl 2 rfl) ?_
  refine lv_aload_n hx hb dJx4a65c_grow_92f84_32 rfl (lv_at hl 2 rfl) ?_
  refine va_get (D := G.1) (ci := 3) (C := RJx4a65c) (T := TJx4a65c) (N := 3) hx hb hts inJx4a65c hown hK (at_P hO) 0 rfl rfl 1 (by decide) (hts _ tw_4_157) (fun _ h9 => h9) rfl dJx4a65c_grow_92f84_33 ?_
  refine lv_iload_n hx hb dJx4a65c_grow_92f84_36 rfl (lv_at hl 0 rfl) ?_
  have hPe : pa ≠ ed := at_ne_oa hK hO (r := (RJx4a65c, TJx4a65c, 3)) rfl hE 5 rfl
  refine qR_S (A := A) (A1 := ow ed ed s.heap.size)  (As := [.ref ed, .int (nI (cap + max 1 (cap / 2)))]) (rest := .ref pa :: []) ⟨hx, hb, hml, hown, hts⟩ (mJ7_copyOf_1904c (A := ow ed ed s.heap.size) (sz := s.heap.size) (f := f) (cap := cap) (m9 := cap + max 1 (cap / 2)) (Or.inl rfl) (by omega) (by omega)) (va_cwS 2 hts (gS tw_5_111 tw_5_112 tw_1_21 tw_5_113) rfl rfl rfl (by decide +kernel) ⟨Nat.le_of_ble_eq_true rfl, Nat.le_of_ble_eq_true rfl⟩) hC hS (ow_in hAe hAe hA (Nat.le_refl _)) ow_n  ⟨rfl, hE, hrows⟩ rfl rfl hl.1 (Nat.le_of_ble_eq_true rfl) ⟨Nat.le_trans (show 0 + 1 ≤ 1 by omega) (Nat.le_of_ble_eq_true rfl), Nat.le_trans (show 0 + 90 ≤ 90 by omega) (Nat.le_of_ble_eq_true rfl)⟩ dJx4a65c_grow_92f84_37 (fun rv7 H7 L7 hP7 hk7 hS => ?_)
  have hZ7 := hS.1
  obtain ⟨hsr, hE9, g9, hG9, hg9⟩ := hP7
  have hpl := hO.lt
  have hO := at_kp hO hk7 (ow_no hPe hPe hO.lt)
  have hAr : A rv7 := hA _ hsr
  refine lv_dup_x1 hx hb dJx4a65c_grow_92f84_40 rfl rfl ?_
  refine h_put (D := G.1) (ci := 3) (C := RJx4a65c) (T := TJx4a65c) (N := 3) hx hb hts inJx4a65c tyJx4a65c tyJx4a65c_ok nmJx4a65c hown hK hO hS hAp rfl 1 (by decide) (hts _ tw_4_157) (fun _ h9 => h9) rfl (tyJx4a65c_ok 1 (by decide)) rfl rfl (Nat.le_of_ble_eq_true rfl) dJx4a65c_grow_92f84_41 (fun H8 L8 hO z8 o8 hS => ?_)
  have hO : va_at G.1 vwCl (pa, .inr (3, [.int md, .ref rv7, .int (nI cap)])) H8 := hO
  have hG9 := at_o hG9 o8 (by omega)
  have hZ8 := hS.1
  exact q_a hx hb hr (Or.inr ⟨_, rfl⟩) hlocks dJx4a65c_grow_92f84_44 hS (by omega) (by omega) ⟨hO, ⟨g9, hG9, hg9⟩, hAr⟩

abbrev rmJx4a65c_grow_d5877 : Room := { frames := 4, cells := 1, slots := 90, locals := 127 }
theorem mJx4a65c_grow_d5877_0 {l : Launch} {G : Cx} {A : Nat → Prop} {pa : Nat} {md : Int32} (hAp : A pa) : Met l yJx4a65c_grow_d5877 (.code yJx4a65c_grow_d5877 cJx4a65c_grow_d5877 1 (some (.array (.object "java/lang/Object"))) :: GW) rmJx4a65c_grow_d5877 (PC G A [.ref pa] (fun H => va_at G.1 vwCl (pa, .inr (3, [.int md, .ref (G.2.2 10), .int 0])) H)) (qR A (fun r H => va_at G.1 vwCl (pa, .inr (3, [.int md, .ref r, .int 0])) H ∧ va_at G.1 vwCl (r, .inl (G.2.1 5, 10, .inr (.inr (.inr (.inr (fun _ => none)))))) H ∧ A r)) 1 90 (A) := by
  refine mstart "java/util/ArrayList" (by decide +kernel) rfl (Nat.le_of_ble_eq_true rfl) ?_
  intro p e s m below meth c ls hx hb hr hts hown hml hlocks hname hC hA hW hl
  have hl : lv_has ls 1 [(0, .ref pa)] := hl
  have hK := hC.1
  have hS : va_S A s.heap s.heap [] := va_S.rf
  have hO := hW
  have hO : va_at G.1 vwCl (pa, .inr (3, [.int md, .ref (G.2.2 10), .int (nI 0)])) s.heap := hO
  refine lv_aload_n hx hb dJx4a65c_grow_d5877_0 rfl (lv_at hl 0 rfl) ?_
  refine lv_aload_n hx hb dJx4a65c_grow_d5877_1 rfl (lv_at hl 0 rfl) ?_
  refine va_get (D := G.1) (ci := 3) (C := RJx4a65c) (T := TJx4a65c) (N := 3) hx hb hts inJx4a65c hown hK (at_P hO) 0 rfl rfl 2 (by decide) (hts _ tw_4_160) (fun _ h9 => h9) rfl dJx4a65c_grow_d5877_2 ?_
  refine lv_iconst (v := nI 1) hx hb dJx4a65c_grow_d5877_5 (by decide) ?_
  refine lv_iadd hx hb dJx4a65c_grow_d5877_6 ?_
  refine lv_cv (nI_add 0 1) ?_
  refine lv_cv (show nI (0 + 1) = nI 1 from rfl) ?_
  refine qR_V (A := A) (A1 := A) (b := pa) (As := [.int (nI 1)]) (rest := []) ⟨hx, hb, hml, hown, hts⟩ (mJx4a65c_grow_92f84_0 (A := A) hAp) (cwV 1 hts (gV tw_5_97 tw_5_99 sel_Jx4a65c_grow_92f84 tw_1_11 tw_5_100) rfl rfl rfl (by decide +kernel) ⟨Nat.le_of_ble_eq_true rfl, Nat.le_of_ble_eq_true rfl⟩) hC hS (fun _ h => h) (fun q h => hA q (Nat.le_trans hS.1 h)) (at_recv hK hO (q := (RJx4a65c, TJx4a65c, 3)) rfl) hW rfl rfl hl.1 (Nat.le_of_ble_eq_true rfl) ⟨Nat.le_trans (show 0 + 1 ≤ 1 by omega) (Nat.le_of_ble_eq_true rfl), Nat.le_trans (show 0 + 90 ≤ 90 by omega) (Nat.le_of_ble_eq_true rfl)⟩ dJx4a65c_grow_d5877_7 (fun rv9 H9 L9 hP9 hk9 hS => ?_)
  have hZ9 := hS.1
  exact q_a hx hb hr (Or.inr ⟨_, rfl⟩) hlocks dJx4a65c_grow_d5877_10 hS (by omega) (by omega) hP9

theorem mJx4a65c_grow_d5877_1 {l : Launch} {G : Cx} {A : Nat → Prop} {pa ed cap : Nat} {md : Int32} {f : Nat → Option Nat} (hAp : A pa) (hAe : A ed) (h1 : 1 ≤ cap) (h60 : cap ≤ 60) : Met l yJx4a65c_grow_d5877 (.code yJx4a65c_grow_d5877 cJx4a65c_grow_d5877 1 (some (.array (.object "java/lang/Object"))) :: GW) rmJx4a65c_grow_d5877 (PC G A [.ref pa] (fun H => va_at G.1 vwCl (pa, .inr (3, [.int md, .ref ed, .int (nI cap)])) H ∧ va_at G.1 vwCl (ed, .inl (G.2.1 5, cap, .inr (.inr (.inr (.inr f))))) H ∧ (∀ i : Nat, i < cap → ∃ (y : Nat) (t : List Nat), f i = some y ∧ IA0 G y t H))) (qR A (fun r H => va_at G.1 vwCl (pa, .inr (3, [.int md, .ref r, .int (nI cap)])) H ∧ (∃ g : Nat → Option Nat, va_at G.1 vwCl (r, .inl (G.2.1 5, cap + max 1 (cap / 2), .inr (.inr (.inr (.inr g))))) H ∧ ∀ i : Nat, i < cap → g i = f i) ∧ A r)) 1 90 (A) := by
  refine mstart "java/util/ArrayList" (by decide +kernel) rfl (Nat.le_of_ble_eq_true rfl) ?_
  intro p e s m below meth c ls hx hb hr hts hown hml hlocks hname hC hA hW hl
  have hl : lv_has ls 1 [(0, .ref pa)] := hl
  have hK := hC.1
  have hS : va_S A s.heap s.heap [] := va_S.rf
  have hO := hW.1
  refine lv_aload_n hx hb dJx4a65c_grow_d5877_0 rfl (lv_at hl 0 rfl) ?_
  refine lv_aload_n hx hb dJx4a65c_grow_d5877_1 rfl (lv_at hl 0 rfl) ?_
  refine va_get (D := G.1) (ci := 3) (C := RJx4a65c) (T := TJx4a65c) (N := 3) hx hb hts inJx4a65c hown hK (at_P hO) 0 rfl rfl 2 (by decide) (hts _ tw_4_160) (fun _ h9 => h9) rfl dJx4a65c_grow_d5877_2 ?_
  refine lv_iconst (v := nI 1) hx hb dJx4a65c_grow_d5877_5 (by decide) ?_
  refine lv_iadd hx hb dJx4a65c_grow_d5877_6 ?_
  refine lv_cv (nI_add cap 1) ?_
  refine qR_V (A := A) (A1 := A) (b := pa) (As := [.int (nI (cap + 1))]) (rest := []) ⟨hx, hb, hml, hown, hts⟩ (mJx4a65c_grow_92f84_1 (A := A) (f := f) (cap := cap) hAp hAe h1 h60) (cwV 1 hts (gV tw_5_97 tw_5_99 sel_Jx4a65c_grow_92f84 tw_1_11 tw_5_100) rfl rfl rfl (by decide +kernel) ⟨Nat.le_of_ble_eq_true rfl, Nat.le_of_ble_eq_true rfl⟩) hC hS (fun _ h => h) (fun q h => hA q (Nat.le_trans hS.1 h)) (at_recv hK hO (q := (RJx4a65c, TJx4a65c, 3)) rfl) hW rfl rfl hl.1 (Nat.le_of_ble_eq_true rfl) ⟨Nat.le_trans (show 0 + 1 ≤ 1 by omega) (Nat.le_of_ble_eq_true rfl), Nat.le_trans (show 0 + 90 ≤ 90 by omega) (Nat.le_of_ble_eq_true rfl)⟩ dJx4a65c_grow_d5877_7 (fun rv10 H10 L10 hP10 hk10 hS => ?_)
  have hZ10 := hS.1
  exact q_a hx hb hr (Or.inr ⟨_, rfl⟩) hlocks dJx4a65c_grow_d5877_10 hS (by omega) (by omega) hP10

abbrev rmJx4a65c_add_72be8 : Room := { frames := 5, cells := 1, slots := 90, locals := 147 }
theorem mJx4a65c_add_72be8 {l : Launch} {G : Cx} {A : Nat → Prop} {pa r ed n : Nat} {md : Int32} {f : Nat → Option Nat} {cap : Nat} {t : List Nat} (hAp : A pa) (hAe : A ed) (hnc : n ≤ cap) (h60 : n ≤ 60) (h1 : 1 ≤ cap) (hc20 : cap < 2 ^ 20) (hfr : ∀ i : Nat, i < n → ∃ y, f i = some y) : Met l yJx4a65c_add_72be8 (.code yJx4a65c_add_72be8 cJx4a65c_add_72be8 4 (none : Option Jvm.ClassFile.FieldType) :: GW) rmJx4a65c_add_72be8 (PC G A [.ref pa, .ref r, .ref ed, .int (nI n)] (fun H => va_at G.1 vwCl (pa, .inr (3, [.int md, .ref ed, .int (nI n)])) H ∧ va_at G.1 vwCl (ed, .inl (G.2.1 5, cap, .inr (.inr (.inr (.inr f))))) H ∧ (∀ (i y : Nat), i < n → f i = some y → ∃ t, IA0 G y t H) ∧ IA0 G r t H)) (qV A (fun H => ∃ (ed2 cap2 : Nat) (g : Nat → Option Nat), va_at G.1 vwCl (pa, .inr (3, [.int md, .ref ed2, .int (nI (n + 1))])) H ∧ va_at G.1 vwCl (ed2, .inl (G.2.1 5, cap2, .inr (.inr (.inr (.inr g))))) H ∧ A ed2 ∧ n + 1 ≤ cap2 ∧ cap2 < 2 ^ 20 ∧ (∀ i : Nat, i < n → g i = f i) ∧ g n = some r)) 1 90 (A) := by
  refine mstart "java/util/ArrayList" (by decide +kernel) rfl (Nat.le_of_ble_eq_true rfl) ?_
  intro p e s m below meth c ls hx hb hr hts hown hml hlocks hname hC hA hW hl
  have hl : lv_has ls 4 [(0, .ref pa), (1, .ref r), (2, .ref ed), (3, .int (nI n))] := hl
  have hK := hC.1
  have hS : va_S A s.heap s.heap [] := va_S.rf
  obtain ⟨hO, hE, hrows, hR⟩ := hW
  have hPe : pa ≠ ed := at_ne_oa hK hO (r := (RJx4a65c, TJx4a65c, 3)) rfl hE 5 rfl
  refine lv_iload_n hx hb dJx4a65c_add_72be8_0 rfl (lv_at hl 3 rfl) ?_
  refine lv_aload_n hx hb dJx4a65c_add_72be8_1 rfl (lv_at hl 2 rfl) ?_
  refine va_alen hx hb hK (at_P hE) 0 5 (v := nI cap) rfl rfl rfl dJx4a65c_add_72be8_2 ?_
  refine b_ne (tgt := 11) hx hb dJx4a65c_add_72be8_3 (by decide) (by omega) (by omega) (fun c_11 => ?_) (fun c_11 => ?_)
  · refine lv_aload_n hx hb dJx4a65c_add_72be8_11 rfl (lv_at hl 2 rfl) ?_
    refine lv_iload_n hx hb dJx4a65c_add_72be8_12 rfl (lv_at hl 3 rfl) ?_
    refine lv_aload_n hx hb dJx4a65c_add_72be8_13 rfl (lv_at hl 1 rfl) ?_
    have hPe9 : pa ≠ ed := at_ne_oa hK hO (r := (RJx4a65c, TJx4a65c, 3)) rfl hE 5 rfl
    refine h_aastO hx hb hC hE hR.fst hS hAe (vp_in_nI (n := n) (N := cap) (by omega) (by omega)) dJx4a65c_add_72be8_14 (fun H12 L12 hE z12 o12 hS => ?_)
    rw [nI_clamp (n := n) (by omega)] at hE
    have hO := at_o hO o12 hPe9
    have hZ12 := hS.1
    refine lv_aload_n hx hb dJx4a65c_add_72be8_15 rfl (lv_at hl 0 rfl) ?_
    refine lv_iload_n hx hb dJx4a65c_add_72be8_16 rfl (lv_at hl 3 rfl) ?_
    refine lv_iconst (v := nI 1) hx hb dJx4a65c_add_72be8_17 (by decide) ?_
    refine lv_iadd hx hb dJx4a65c_add_72be8_18 ?_
    refine lv_cv (nI_add n 1) ?_
    refine h_put (D := G.1) (ci := 3) (C := RJx4a65c) (T := TJx4a65c) (N := 3) hx hb hts inJx4a65c tyJx4a65c tyJx4a65c_ok nmJx4a65c hown hK hO hS hAp rfl 2 (by decide) (hts _ tw_4_160) (fun _ h9 => h9) rfl (tyJx4a65c_ok 2 (by decide)) rfl rfl (Nat.le_of_ble_eq_true rfl) dJx4a65c_add_72be8_19 (fun H13 L13 hO z13 o13 hS => ?_)
    have hO : va_at G.1 vwCl (pa, .inr (3, [.int md, .ref ed, .int (nI (n + 1))])) H13 := hO
    have hE := at_o hE o13 (Ne.symm hPe9)
    have hZ13 := hS.1
    exact q_v hx hb hr hlocks dJx4a65c_add_72be8_22 hS (by omega) (by omega) ⟨ed, cap, _, hO, hE, hAe, by omega, hc20, fun i hi => va_up_ne _ _ (by omega), va_up_s⟩
  · have hnc2 : n = cap := c_11
    subst hnc2
    refine lv_aload_n hx hb dJx4a65c_add_72be8_6 rfl (lv_at hl 0 rfl) ?_
    refine qR_V (A := A) (A1 := (fun q9 => A q9 ∧ q9 ≠ r)) (b := pa) (As := []) (rest := []) ⟨hx, hb, hml, hown, hts⟩ (mJx4a65c_grow_d5877_1 (A := (fun q9 => A q9 ∧ q9 ≠ r)) (f := f) (cap := n) (ed := ed) (md := md) ⟨hAp, at_ne_oa hK hO (r := (RJx4a65c, TJx4a65c, 3)) rfl hR.fst 0 rfl⟩ ⟨hAe, at_ne_aa hK hE hR.fst 5 0 rfl rfl (by decide)⟩ h1 h60) (cwV 0 hts (gV tw_5_93 tw_5_95 sel_Jx4a65c_grow_d5877 tw_1_11 tw_5_96) rfl rfl rfl (by decide +kernel) ⟨Nat.le_of_ble_eq_true rfl, Nat.le_of_ble_eq_true rfl⟩) hC hS (fun _ h => h.1) (fun q h => ⟨hA q (Nat.le_trans hS.1 h), by have := hR.lt; omega⟩) (at_recv hK hO (q := (RJx4a65c, TJx4a65c, 3)) rfl) ⟨hO, hE, fun i hi => by obtain ⟨y, hy⟩ := hfr i hi; obtain ⟨t9, ht9⟩ := hrows i y hi hy; exact ⟨y, t9, hy, ht9⟩⟩ rfl rfl hl.1 (Nat.le_of_ble_eq_true rfl) ⟨Nat.le_trans (show 0 + 1 ≤ 1 by omega) (Nat.le_of_ble_eq_true rfl), Nat.le_trans (show 0 + 90 ≤ 90 by omega) (Nat.le_of_ble_eq_true rfl)⟩ dJx4a65c_add_72be8_7 (fun rv14 H14 L14 hP14 hk14 hS => ?_)
    have hZ14 := hS.1
    obtain ⟨hO, ⟨g9, hE, hg9⟩, hAr⟩ := hP14
    have hR := hR.kp hk14 (fun q => q.2 rfl)
    have hmx := Nat.le_max_left 1 (n / 2)
    have hmy : max 1 (n / 2) ≤ 60 := Nat.max_le.mpr ⟨by omega, by omega⟩
    refine lv_astore_n (lv' := [(2, .ref rv14), (0, .ref pa), (1, .ref r), (3, .int (nI n))]) hx hb dJx4a65c_add_72be8_10 rfl hl (by decide) rfl (fun ls hl => ?_)
    refine lv_aload_n hx hb dJx4a65c_add_72be8_11 rfl (lv_at hl 0 rfl) ?_
    refine lv_iload_n hx hb dJx4a65c_add_72be8_12 rfl (lv_at hl 3 rfl) ?_
    refine lv_aload_n hx hb dJx4a65c_add_72be8_13 rfl (lv_at hl 2 rfl) ?_
    have hPe9 : pa ≠ rv14 := at_ne_oa hK hO (r := (RJx4a65c, TJx4a65c, 3)) rfl hE 5 rfl
    refine h_aastO hx hb hC hE hR.fst hS hAr.1 (vp_in_nI (n := n) (N := n + max 1 (n / 2)) (by omega) (by omega)) dJx4a65c_add_72be8_14 (fun H15 L15 hE z15 o15 hS => ?_)
    rw [nI_clamp (n := n) (by omega)] at hE
    have hO := at_o hO o15 hPe9
    have hZ15 := hS.1
    refine lv_aload_n hx hb dJx4a65c_add_72be8_15 rfl (lv_at hl 1 rfl) ?_
    refine lv_iload_n hx hb dJx4a65c_add_72be8_16 rfl (lv_at hl 3 rfl) ?_
    refine lv_iconst (v := nI 1) hx hb dJx4a65c_add_72be8_17 (by decide) ?_
    refine lv_iadd hx hb dJx4a65c_add_72be8_18 ?_
    refine lv_cv (nI_add n 1) ?_
    refine h_put (D := G.1) (ci := 3) (C := RJx4a65c) (T := TJx4a65c) (N := 3) hx hb hts inJx4a65c tyJx4a65c tyJx4a65c_ok nmJx4a65c hown hK hO hS hAp rfl 2 (by decide) (hts _ tw_4_160) (fun _ h9 => h9) rfl (tyJx4a65c_ok 2 (by decide)) rfl rfl (Nat.le_of_ble_eq_true rfl) dJx4a65c_add_72be8_19 (fun H16 L16 hO z16 o16 hS => ?_)
    have hO : va_at G.1 vwCl (pa, .inr (3, [.int md, .ref rv14, .int (nI (n + 1))])) H16 := hO
    have hE := at_o hE o16 (Ne.symm hPe9)
    have hZ16 := hS.1
    exact q_v hx hb hr hlocks dJx4a65c_add_72be8_22 hS (by omega) (by omega) ⟨rv14, n + max 1 (n / 2), _, hO, hE, hAr.1, by omega, by omega, fun i hi => (va_up_ne _ _ (by omega)).trans (hg9 i hi), va_up_s⟩

theorem mJx4a65c_add_72be8_0 {l : Launch} {G : Cx} {A : Nat → Prop} {pa r : Nat} {md : Int32} {t : List Nat} (hAp : A pa) : Met l yJx4a65c_add_72be8 (.code yJx4a65c_add_72be8 cJx4a65c_add_72be8 4 (none : Option Jvm.ClassFile.FieldType) :: GW) rmJx4a65c_add_72be8 (PC G A [.ref pa, .ref r, .ref (G.2.2 10), .int (nI 0)] (fun H => va_at G.1 vwCl (pa, .inr (3, [.int md, .ref (G.2.2 10), .int (nI 0)])) H ∧ IA0 G r t H)) (qV A (fun H => ∃ (ed2 cap2 : Nat) (g : Nat → Option Nat), va_at G.1 vwCl (pa, .inr (3, [.int md, .ref ed2, .int (nI (0 + 1))])) H ∧ va_at G.1 vwCl (ed2, .inl (G.2.1 5, cap2, .inr (.inr (.inr (.inr g))))) H ∧ A ed2 ∧ 0 + 1 ≤ cap2 ∧ cap2 < 2 ^ 20 ∧ g 0 = some r)) 1 90 (A) := by
  refine mstart "java/util/ArrayList" (by decide +kernel) rfl (Nat.le_of_ble_eq_true rfl) ?_
  intro p e s m below meth c ls hx hb hr hts hown hml hlocks hname hC hA hW hl
  have hl : lv_has ls 4 [(0, .ref pa), (1, .ref r), (2, .ref (G.2.2 10)), (3, .int (nI 0))] := hl
  have hK := hC.1
  have hS : va_S A s.heap s.heap [] := va_S.rf
  obtain ⟨-, -, -, -, -, -, -, -, zc9, zc10, -⟩ := hC.2.2.1
  obtain ⟨hO, hR⟩ := hW
  refine lv_iload_n hx hb dJx4a65c_add_72be8_0 rfl (lv_at hl 3 rfl) ?_
  refine lv_aload_n hx hb dJx4a65c_add_72be8_1 rfl (lv_at hl 2 rfl) ?_
  refine va_tlen (v := nI 0) hx hb zc10 hS rfl dJx4a65c_add_72be8_2 ?_
  refine b_ne (tgt := 11) hx hb dJx4a65c_add_72be8_3 (by decide) (by omega) (by omega) (fun c_17 => ?_) (fun c_17 => ?_)
  · exact absurd c_17 (by omega)
  · refine lv_aload_n hx hb dJx4a65c_add_72be8_6 rfl (lv_at hl 0 rfl) ?_
    refine qR_V (A := A) (A1 := (fun q9 => A q9 ∧ q9 ≠ r)) (b := pa) (As := []) (rest := []) ⟨hx, hb, hml, hown, hts⟩ (mJx4a65c_grow_d5877_0 (A := (fun q9 => A q9 ∧ q9 ≠ r)) ⟨hAp, at_ne_oa hK hO (r := (RJx4a65c, TJx4a65c, 3)) rfl hR.fst 0 rfl⟩) (cwV 0 hts (gV tw_5_93 tw_5_95 sel_Jx4a65c_grow_d5877 tw_1_11 tw_5_96) rfl rfl rfl (by decide +kernel) ⟨Nat.le_of_ble_eq_true rfl, Nat.le_of_ble_eq_true rfl⟩) hC hS (fun _ h => h.1) (fun q h => ⟨hA q (Nat.le_trans hS.1 h), by have := hR.lt; omega⟩) (at_recv hK hO (q := (RJx4a65c, TJx4a65c, 3)) rfl) hO rfl rfl hl.1 (Nat.le_of_ble_eq_true rfl) ⟨Nat.le_trans (show 0 + 1 ≤ 1 by omega) (Nat.le_of_ble_eq_true rfl), Nat.le_trans (show 0 + 90 ≤ 90 by omega) (Nat.le_of_ble_eq_true rfl)⟩ dJx4a65c_add_72be8_7 (fun rv18 H18 L18 hP18 hk18 hS => ?_)
    have hZ18 := hS.1
    obtain ⟨hO, hE, hAr⟩ := hP18
    have hR := hR.kp hk18 (fun q => q.2 rfl)
    refine lv_astore_n (lv' := [(2, .ref rv18), (0, .ref pa), (1, .ref r), (3, .int (nI 0))]) hx hb dJx4a65c_add_72be8_10 rfl hl (by decide) rfl (fun ls hl => ?_)
    refine lv_aload_n hx hb dJx4a65c_add_72be8_11 rfl (lv_at hl 0 rfl) ?_
    refine lv_iload_n hx hb dJx4a65c_add_72be8_12 rfl (lv_at hl 3 rfl) ?_
    refine lv_aload_n hx hb dJx4a65c_add_72be8_13 rfl (lv_at hl 2 rfl) ?_
    have hPe9 : pa ≠ rv18 := at_ne_oa hK hO (r := (RJx4a65c, TJx4a65c, 3)) rfl hE 5 rfl
    refine h_aastO hx hb hC hE hR.fst hS hAr.1 (vp_in_nI (n := 0) (N := 10) (by omega) (by omega)) dJx4a65c_add_72be8_14 (fun H19 L19 hE z19 o19 hS => ?_)
    rw [nI_clamp (n := 0) (by omega)] at hE
    have hO := at_o hO o19 hPe9
    have hZ19 := hS.1
    refine lv_aload_n hx hb dJx4a65c_add_72be8_15 rfl (lv_at hl 1 rfl) ?_
    refine lv_iload_n hx hb dJx4a65c_add_72be8_16 rfl (lv_at hl 3 rfl) ?_
    refine lv_iconst (v := nI 1) hx hb dJx4a65c_add_72be8_17 (by decide) ?_
    refine lv_iadd hx hb dJx4a65c_add_72be8_18 ?_
    refine lv_cv (nI_add 0 1) ?_
    refine h_put (D := G.1) (ci := 3) (C := RJx4a65c) (T := TJx4a65c) (N := 3) hx hb hts inJx4a65c tyJx4a65c tyJx4a65c_ok nmJx4a65c hown hK hO hS hAp rfl 2 (by decide) (hts _ tw_4_160) (fun _ h9 => h9) rfl (tyJx4a65c_ok 2 (by decide)) rfl rfl (Nat.le_of_ble_eq_true rfl) dJx4a65c_add_72be8_19 (fun H20 L20 hO z20 o20 hS => ?_)
    have hO : va_at G.1 vwCl (pa, .inr (3, [.int md, .ref rv18, .int (nI (0 + 1))])) H20 := hO
    have hE := at_o hE o20 (Ne.symm hPe9)
    have hZ20 := hS.1
    exact q_v hx hb hr hlocks dJx4a65c_add_72be8_22 hS (by omega) (by omega) ⟨rv18, 10, _, hO, hE, hAr.1, by decide, by decide, va_up_s⟩
