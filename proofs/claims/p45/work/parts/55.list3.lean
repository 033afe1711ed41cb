/-! ArrayList, 3: add, remove, made -/
/-- a list of rows: pa holds the cells pe -/
def LQ (G : Cx) (A : Nat → Prop) (pa : Nat) (pe : List Nat) (H : Heap) : Prop := (pe = [] ∧ ∃ md : Int32, va_at G.1 vwCl (pa, .inr (3, [.int md, .ref (G.2.2 10), .int 0])) H) ∨
  ∃ (md : Int32) (ed cap : Nat) (f : Nat → Option Nat), va_at G.1 vwCl (pa, .inr (3, [.int md, .ref ed, .int (nI pe.length)])) H ∧ va_at G.1 vwCl (ed, .inl (G.2.1 5, cap, .inr (.inr (.inr (.inr f))))) H ∧ A ed ∧ pe.length ≤ cap ∧ 1 ≤ cap ∧ cap < 2 ^ 20 ∧ ∀ i : Nat, i < pe.length → f i = some (pe.getD i 0)
section L3
variable {p : Program} {l : Launch} {e : Env} {R : Room} {s : State} {m : MethodId} {args : Array Value} {below : List Frame} {meth : Method} {c : Code} {H : Heap} {locs : List Loc} {cells slots : Nat} {Q : State → Prop}
variable {cc : ByteArray} {pc : Nat} {ls : Array Slot} {rest : List Value} {A : Nat → Prop} {a : Nat} {H0 : Heap} {G : Cx}
theorem h_aastNull (hexec : p.tables.exec = Jvm.exec) (hb : c.code = cc) (hC : cx G A s) {n : Nat} {f : Nat → Option Nat} (h : va_at G.1 vwCl (a, .inl (G.2.1 5, n, .inr (.inr (.inr (.inr f))))) H) (hS : va_S A H0 H locs) (ha : A a) {i : Int32} (hin : vp_in i n) (hdg : decode cc pc = .ok (.aastore, 1))
    (kk : ∀ (H1 : Heap) (locs1 : List Loc), va_at G.1 vwCl (a, .inl (G.2.1 5, n, .inr (.inr (.inr (.inr (va_up f i.toNatClampNeg none)))))) H1 → H1.size = H.size → (∀ q : Nat, q ≠ a → H1[q]? = H[q]?) → va_S A H0 H1 locs1 → W p l e R s m args below meth c H1 locs1 cells slots Q (F0 m (pc + 1) ls rest)) : W p l e R s m args below meth c H locs cells slots Q (F0 m pc ls (.null :: .int i :: .ref a :: rest)) := by
  have hK := hC.1
  refine va_WaastN (C := "java/lang/Object") hexec hb h ((hK.2 5 _ rfl).1 n (fun j => va_rf (f j))) (fun h => by cases h) (by show ¬ (i < 0 ∨ (arrV _ _ _).slots.size ≤ _); rw [arrV_size]; exact hin) rfl rfl hdg fun H1 e z oq => ?_
  refine kk H1 _ ?_ z oq (hS.put z oq ha)
  show H1[a]? = some (vp_cell _ _)
  rw [e]
  rw [vp_cell_q, vp_cell_q, arrV_store]
  congr 2
  funext q
  by_cases hq : q = i.toNatClampNeg
  · subst hq
    simp [updV, va_up, va_rf]
  · simp [updV, va_up, hq]
end L3
theorem dJxa1e45_init_da8c8_0 : decode cJxa1e45_init_da8c8 0 = .ok (.aload_n 0, 1) := by decide +kernel
theorem dJxa1e45_init_da8c8_1 : decode cJxa1e45_init_da8c8 1 = .ok (.invokespecial 1, 3) := by decide +kernel
theorem dJxa1e45_init_da8c8_4 : decode cJxa1e45_init_da8c8 4 = .ok (.return_, 1) := by decide +kernel
theorem dJxc12de_init_da8c8_0 : decode cJxc12de_init_da8c8 0 = .ok (.aload_n 0, 1) := by decide +kernel
theorem dJxc12de_init_da8c8_1 : decode cJxc12de_init_da8c8 1 = .ok (.invokespecial 1, 3) := by decide +kernel
theorem dJxc12de_init_da8c8_4 : decode cJxc12de_init_da8c8 4 = .ok (.aload_n 0, 1) := by decide +kernel
theorem dJxc12de_init_da8c8_5 : decode cJxc12de_init_da8c8 5 = .ok (.iconst 0, 1) := by decide +kernel
theorem dJxc12de_init_da8c8_6 : decode cJxc12de_init_da8c8 6 = .ok (.putfield 7, 3) := by decide +kernel
theorem dJxc12de_init_da8c8_9 : decode cJxc12de_init_da8c8 9 = .ok (.return_, 1) := by decide +kernel
theorem dJx4a65c_init_da8c8_0 : decode cJx4a65c_init_da8c8 0 = .ok (.aload_n 0, 1) := by decide +kernel
theorem dJx4a65c_init_da8c8_1 : decode cJx4a65c_init_da8c8 1 = .ok (.invokespecial 1, 3) := by decide +kernel
theorem dJx4a65c_init_da8c8_4 : decode cJx4a65c_init_da8c8 4 = .ok (.aload_n 0, 1) := by decide +kernel
theorem dJx4a65c_init_da8c8_5 : decode cJx4a65c_init_da8c8 5 = .ok (.getstatic 39, 3) := by decide +kernel
theorem dJx4a65c_init_da8c8_8 : decode cJx4a65c_init_da8c8 8 = .ok (.putfield 9, 3) := by decide +kernel
theorem dJx4a65c_init_da8c8_11 : decode cJx4a65c_init_da8c8 11 = .ok (.return_, 1) := by decide +kernel
theorem dJx4a65c_add_9ea2d_0 : decode cJx4a65c_add_9ea2d 0 = .ok (.aload_n 0, 1) := by decide +kernel
theorem dJx4a65c_add_9ea2d_1 : decode cJx4a65c_add_9ea2d 1 = .ok (.dup, 1) := by decide +kernel
theorem dJx4a65c_add_9ea2d_2 : decode cJx4a65c_add_9ea2d 2 = .ok (.getfield 63, 3) := by decide +kernel
theorem dJx4a65c_add_9ea2d_5 : decode cJx4a65c_add_9ea2d 5 = .ok (.iconst 1, 1) := by decide +kernel
theorem dJx4a65c_add_9ea2d_6 : decode cJx4a65c_add_9ea2d 6 = .ok (.iadd, 1) := by decide +kernel
theorem dJx4a65c_add_9ea2d_7 : decode cJx4a65c_add_9ea2d 7 = .ok (.putfield 63, 3) := by decide +kernel
theorem dJx4a65c_add_9ea2d_10 : decode cJx4a65c_add_9ea2d 10 = .ok (.aload_n 0, 1) := by decide +kernel
theorem dJx4a65c_add_9ea2d_11 : decode cJx4a65c_add_9ea2d 11 = .ok (.aload_n 1, 1) := by decide +kernel
theorem dJx4a65c_add_9ea2d_12 : decode cJx4a65c_add_9ea2d 12 = .ok (.aload_n 0, 1) := by decide +kernel
theorem dJx4a65c_add_9ea2d_13 : decode cJx4a65c_add_9ea2d 13 = .ok (.getfield 9, 3) := by decide +kernel
theorem dJx4a65c_add_9ea2d_16 : decode cJx4a65c_add_9ea2d 16 = .ok (.aload_n 0, 1) := by decide +kernel
theorem dJx4a65c_add_9ea2d_17 : decode cJx4a65c_add_9ea2d 17 = .ok (.getfield 48, 3) := by decide +kernel
theorem dJx4a65c_add_9ea2d_20 : decode cJx4a65c_add_9ea2d 20 = .ok (.invokevirtual 131, 3) := by decide +kernel
theorem dJx4a65c_add_9ea2d_23 : decode cJx4a65c_add_9ea2d 23 = .ok (.iconst 1, 1) := by decide +kernel
theorem dJx4a65c_add_9ea2d_24 : decode cJx4a65c_add_9ea2d 24 = .ok (.ireturn, 1) := by decide +kernel
theorem dJx4a65c_remove_915e3_0 : decode cJx4a65c_remove_915e3 0 = .ok (.iload_n 1, 1) := by decide +kernel
theorem dJx4a65c_remove_915e3_1 : decode cJx4a65c_remove_915e3 1 = .ok (.aload_n 0, 1) := by decide +kernel
theorem dJx4a65c_remove_915e3_2 : decode cJx4a65c_remove_915e3 2 = .ok (.getfield 48, 3) := by decide +kernel
theorem dJx4a65c_remove_915e3_5 : decode cJx4a65c_remove_915e3 5 = .ok (.invokestatic 118, 3) := by decide +kernel
theorem dJx4a65c_remove_915e3_8 : decode cJx4a65c_remove_915e3 8 = .ok (.pop, 1) := by decide +kernel
theorem dJx4a65c_remove_915e3_9 : decode cJx4a65c_remove_915e3 9 = .ok (.aload_n 0, 1) := by decide +kernel
theorem dJx4a65c_remove_915e3_10 : decode cJx4a65c_remove_915e3 10 = .ok (.getfield 9, 3) := by decide +kernel
theorem dJx4a65c_remove_915e3_13 : decode cJx4a65c_remove_915e3 13 = .ok (.astore_n 2, 1) := by decide +kernel
theorem dJx4a65c_remove_915e3_14 : decode cJx4a65c_remove_915e3 14 = .ok (.aload_n 2, 1) := by decide +kernel
theorem dJx4a65c_remove_915e3_15 : decode cJx4a65c_remove_915e3 15 = .ok (.iload_n 1, 1) := by decide +kernel
theorem dJx4a65c_remove_915e3_16 : decode cJx4a65c_remove_915e3 16 = .ok (.aaload, 1) := by decide +kernel
theorem dJx4a65c_remove_915e3_17 : decode cJx4a65c_remove_915e3 17 = .ok (.astore_n 3, 1) := by decide +kernel
theorem dJx4a65c_remove_915e3_18 : decode cJx4a65c_remove_915e3 18 = .ok (.aload_n 0, 1) := by decide +kernel
theorem dJx4a65c_remove_915e3_19 : decode cJx4a65c_remove_915e3 19 = .ok (.aload_n 2, 1) := by decide +kernel
theorem dJx4a65c_remove_915e3_20 : decode cJx4a65c_remove_915e3 20 = .ok (.iload_n 1, 1) := by decide +kernel
theorem dJx4a65c_remove_915e3_21 : decode cJx4a65c_remove_915e3 21 = .ok (.invokevirtual 144, 3) := by decide +kernel
theorem dJx4a65c_remove_915e3_24 : decode cJx4a65c_remove_915e3 24 = .ok (.aload_n 3, 1) := by decide +kernel
theorem dJx4a65c_remove_915e3_25 : decode cJx4a65c_remove_915e3 25 = .ok (.areturn, 1) := by decide +kernel
theorem dJx4a65c_fastRemove_b59b0_0 : decode cJx4a65c_fastRemove_b59b0 0 = .ok (.aload_n 0, 1) := by decide +kernel
theorem dJx4a65c_fastRemove_b59b0_1 : decode cJx4a65c_fastRemove_b59b0 1 = .ok (.dup, 1) := by decide +kernel
theorem dJx4a65c_fastRemove_b59b0_2 : decode cJx4a65c_fastRemove_b59b0 2 = .ok (.getfield 63, 3) := by decide +kernel
theorem dJx4a65c_fastRemove_b59b0_5 : decode cJx4a65c_fastRemove_b59b0 5 = .ok (.iconst 1, 1) := by decide +kernel
theorem dJx4a65c_fastRemove_b59b0_6 : decode cJx4a65c_fastRemove_b59b0 6 = .ok (.iadd, 1) := by decide +kernel
theorem dJx4a65c_fastRemove_b59b0_7 : decode cJx4a65c_fastRemove_b59b0 7 = .ok (.putfield 63, 3) := by decide +kernel
theorem dJx4a65c_fastRemove_b59b0_10 : decode cJx4a65c_fastRemove_b59b0 10 = .ok (.aload_n 0, 1) := by decide +kernel
theorem dJx4a65c_fastRemove_b59b0_11 : decode cJx4a65c_fastRemove_b59b0 11 = .ok (.getfield 48, 3) := by decide +kernel
theorem dJx4a65c_fastRemove_b59b0_14 : decode cJx4a65c_fastRemove_b59b0 14 = .ok (.iconst 1, 1) := by decide +kernel
theorem dJx4a65c_fastRemove_b59b0_15 : decode cJx4a65c_fastRemove_b59b0 15 = .ok (.isub, 1) := by decide +kernel
theorem dJx4a65c_fastRemove_b59b0_16 : decode cJx4a65c_fastRemove_b59b0 16 = .ok (.dup, 1) := by decide +kernel
theorem dJx4a65c_fastRemove_b59b0_17 : decode cJx4a65c_fastRemove_b59b0 17 = .ok (.istore_n 3, 1) := by decide +kernel
theorem dJx4a65c_fastRemove_b59b0_18 : decode cJx4a65c_fastRemove_b59b0 18 = .ok (.iload_n 2, 1) := by decide +kernel
theorem dJx4a65c_fastRemove_b59b0_19 : decode cJx4a65c_fastRemove_b59b0 19 = .ok (.if_icmp .le 15, 3) := by decide +kernel
theorem dJx4a65c_fastRemove_b59b0_22 : decode cJx4a65c_fastRemove_b59b0 22 = .ok (.aload_n 1, 1) := by decide +kernel
theorem dJx4a65c_fastRemove_b59b0_23 : decode cJx4a65c_fastRemove_b59b0 23 = .ok (.iload_n 2, 1) := by decide +kernel
theorem dJx4a65c_fastRemove_b59b0_24 : decode cJx4a65c_fastRemove_b59b0 24 = .ok (.iconst 1, 1) := by decide +kernel
theorem dJx4a65c_fastRemove_b59b0_25 : decode cJx4a65c_fastRemove_b59b0 25 = .ok (.iadd, 1) := by decide +kernel
theorem dJx4a65c_fastRemove_b59b0_26 : decode cJx4a65c_fastRemove_b59b0 26 = .ok (.aload_n 1, 1) := by decide +kernel
theorem dJx4a65c_fastRemove_b59b0_27 : decode cJx4a65c_fastRemove_b59b0 27 = .ok (.iload_n 2, 1) := by decide +kernel
theorem dJx4a65c_fastRemove_b59b0_28 : decode cJx4a65c_fastRemove_b59b0 28 = .ok (.iload_n 3, 1) := by decide +kernel
theorem dJx4a65c_fastRemove_b59b0_29 : decode cJx4a65c_fastRemove_b59b0 29 = .ok (.iload_n 2, 1) := by decide +kernel
theorem dJx4a65c_fastRemove_b59b0_30 : decode cJx4a65c_fastRemove_b59b0 30 = .ok (.isub, 1) := by decide +kernel
theorem dJx4a65c_fastRemove_b59b0_31 : decode cJx4a65c_fastRemove_b59b0 31 = .ok (.invokestatic 112, 3) := by decide +kernel
theorem dJx4a65c_fastRemove_b59b0_34 : decode cJx4a65c_fastRemove_b59b0 34 = .ok (.aload_n 1, 1) := by decide +kernel
theorem dJx4a65c_fastRemove_b59b0_35 : decode cJx4a65c_fastRemove_b59b0 35 = .ok (.aload_n 0, 1) := by decide +kernel
theorem dJx4a65c_fastRemove_b59b0_36 : decode cJx4a65c_fastRemove_b59b0 36 = .ok (.iload_n 3, 1) := by decide +kernel
theorem dJx4a65c_fastRemove_b59b0_37 : decode cJx4a65c_fastRemove_b59b0 37 = .ok (.dup_x1, 1) := by decide +kernel
theorem dJx4a65c_fastRemove_b59b0_38 : decode cJx4a65c_fastRemove_b59b0 38 = .ok (.putfield 48, 3) := by decide +kernel
theorem dJx4a65c_fastRemove_b59b0_41 : decode cJx4a65c_fastRemove_b59b0 41 = .ok (.aconst_null, 1) := by decide +kernel
theorem dJx4a65c_fastRemove_b59b0_42 : decode cJx4a65c_fastRemove_b59b0 42 = .ok (.aastore, 1) := by decide +kernel
theorem dJx4a65c_fastRemove_b59b0_43 : decode cJx4a65c_fastRemove_b59b0 43 = .ok (.return_, 1) := by decide +kernel
abbrev rmJx4a65c_fastRemove_b59b0 : Room := { frames := 1, cells := 0, slots := 0, locals := 20 }
theorem mJx4a65c_fastRemove_b59b0 {l : Launch} {G : Cx} {A : Nat → Prop} {pa ed n cap : Nat} {md : Int32} {f : Nat → Option Nat} (hAp : A pa) (hAe : A ed) (hnc : n < cap) (hc20 : cap < 2 ^ 20) : Met l yJx4a65c_fastRemove_b59b0 (.code yJx4a65c_fastRemove_b59b0 cJx4a65c_fastRemove_b59b0 4 (none : Option Jvm.ClassFile.FieldType) :: GW) rmJx4a65c_fastRemove_b59b0 (PC G A [.ref pa, .ref ed, .int (nI n)] (fun H => va_at G.1 vwCl (pa, .inr (3, [.int md, .ref ed, .int (nI (n + 1))])) H ∧ va_at G.1 vwCl (ed, .inl (G.2.1 5, cap, .inr (.inr (.inr (.inr f))))) H)) (qV A (fun H => va_at G.1 vwCl (pa, .inr (3, [.int (md + nI 1), .ref ed, .int (nI n)])) H ∧ va_at G.1 vwCl (ed, .inl (G.2.1 5, cap, .inr (.inr (.inr (.inr (va_up f n none)))))) H)) 0 0 (A) := by
  refine mstart "java/util/ArrayList" (by decide +kernel) rfl (Nat.le_of_ble_eq_true rfl) ?_
  intro p e s m below meth c ls hx hb hr hts hown hml hlocks hname hC hA hW hl
  have hl : lv_has ls 4 [(0, .ref pa), (1, .ref ed), (2, .int (nI n))] := hl
  have hK := hC.1
  have hS : va_S A s.heap s.heap [] := va_S.rf
  obtain ⟨hO, hE⟩ := hW
  have hPe : pa ≠ ed := at_ne_oa hK hO (r := (RJx4a65c, TJx4a65c, 3)) rfl hE 5 rfl
  refine lv_aload_n hx hb dJx4a65c_fastRemove_b59b0_0 rfl (lv_at hl 0 rfl) ?_
  refine lv_dup hx hb dJx4a65c_fastRemove_b59b0_1 rfl ?_
  refine va_get (D := G.1) (ci := 3) (C := RJx4a65c) (T := TJx4a65c) (N := 3) hx hb hts inJx4a65c hown hK (at_P hO) 0 rfl rfl 0 (by decide) (hts _ tw_4_164) (fun x9 h9 => u_same (hts _ tw_4_163) x9 h9) rfl dJx4a65c_fastRemove_b59b0_2 ?_
  refine lv_iconst (v := nI 1) hx hb dJx4a65c_fastRemove_b59b0_5 (by decide) ?_
  refine lv_iadd hx hb dJx4a65c_fastRemove_b59b0_6 ?_
  refine h_put (D := G.1) (ci := 3) (C := RJx4a65c) (T := TJx4a65c) (N := 3) hx hb hts inJx4a65c tyJx4a65c tyJx4a65c_ok nmJx4a65c hown hK hO hS hAp rfl 0 (by decide) (hts _ tw_4_164) (fun x9 h9 => u_same (hts _ tw_4_163) x9 h9) rfl (tyJx4a65c_ok 0 (by decide)) rfl rfl (Nat.le_of_ble_eq_true rfl) dJx4a65c_fastRemove_b59b0_7 (fun H21 L21 hO z21 o21 hS => ?_)
  have hO : va_at G.1 vwCl (pa, .inr (3, [.int (md + nI 1), .ref ed, .int (nI (n + 1))])) H21 := hO
  have hE := at_o hE o21 (Ne.symm hPe)
  have hZ21 := hS.1
  refine lv_aload_n hx hb dJx4a65c_fastRemove_b59b0_10 rfl (lv_at hl 0 rfl) ?_
  refine va_get (D := G.1) (ci := 3) (C := RJx4a65c) (T := TJx4a65c) (N := 3) hx hb hts inJx4a65c hown hK (at_P hO) 0 rfl rfl 2 (by decide) (hts _ tw_4_160) (fun _ h9 => h9) rfl dJx4a65c_fastRemove_b59b0_11 ?_
  refine lv_iconst (v := nI 1) hx hb dJx4a65c_fastRemove_b59b0_14 (by decide) ?_
  refine lv_isub hx hb dJx4a65c_fastRemove_b59b0_15 ?_
  refine lv_cv (nI_pred n) ?_
  refine lv_dup hx hb dJx4a65c_fastRemove_b59b0_16 rfl ?_
  refine lv_istore_n (lv' := [(3, .int (nI n)), (0, .ref pa), (1, .ref ed), (2, .int (nI n))]) hx hb dJx4a65c_fastRemove_b59b0_17 rfl hl (by decide) rfl (fun ls hl => ?_)
  refine lv_iload_n hx hb dJx4a65c_fastRemove_b59b0_18 rfl (lv_at hl 3 rfl) ?_
  refine b_le (tgt := 34) hx hb dJx4a65c_fastRemove_b59b0_19 (by decide) (by omega) (by omega) (fun c_22 => ?_) (fun c_22 => ?_)
  · refine lv_aload_n hx hb dJx4a65c_fastRemove_b59b0_34 rfl (lv_at hl 2 rfl) ?_
    refine lv_aload_n hx hb dJx4a65c_fastRemove_b59b0_35 rfl (lv_at hl 1 rfl) ?_
    refine lv_iload_n hx hb dJx4a65c_fastRemove_b59b0_36 rfl (lv_at hl 0 rfl) ?_
    refine lv_dup_x1 hx hb dJx4a65c_fastRemove_b59b0_37 rfl rfl ?_
    refine h_put (D := G.1) (ci := 3) (C := RJx4a65c) (T := TJx4a65c) (N := 3) hx hb hts inJx4a65c tyJx4a65c tyJx4a65c_ok nmJx4a65c hown hK hO hS hAp rfl 2 (by decide) (hts _ tw_4_160) (fun _ h9 => h9) rfl (tyJx4a65c_ok 2 (by decide)) rfl rfl (Nat.le_of_ble_eq_true rfl) dJx4a65c_fastRemove_b59b0_38 (fun H23 L23 hO z23 o23 hS => ?_)
    have hO : va_at G.1 vwCl (pa, .inr (3, [.int (md + nI 1), .ref ed, .int (nI n)])) H23 := hO
    have hE := at_o hE o23 (Ne.symm hPe)
    have hZ23 := hS.1
    refine lv_null hx hb dJx4a65c_fastRemove_b59b0_41 ?_
    refine h_aastNull hx hb hC hE hS hAe (vp_in_nI (n := n) (N := cap) (by omega) (by omega)) dJx4a65c_fastRemove_b59b0_42 (fun H24 L24 hE z24 o24 hS => ?_)
    rw [nI_clamp (n := n) (by omega)] at hE
    have hO := at_o hO o24 hPe
    exact q_v hx hb hr hlocks dJx4a65c_fastRemove_b59b0_43 hS (Nat.le_refl _) (Nat.le_refl _) ⟨hO, hE⟩
  · exact absurd c_22 (by omega)

abbrev rmJx4a65c_remove_915e3 : Room := { frames := 2, cells := 0, slots := 0, locals := 43 }
theorem mJx4a65c_remove_915e3 {l : Launch} {G : Cx} {A : Nat → Prop} {pa x9 : Nat} {pe : List Nat} (hAp : A pa) : Met l yJx4a65c_remove_915e3 (.code yJx4a65c_remove_915e3 cJx4a65c_remove_915e3 4 (some (.object "java/lang/Object")) :: GW) rmJx4a65c_remove_915e3 (PC G A [.ref pa, .int (nI pe.length)] (LQ G A pa (pe ++ [x9]))) (qR A (fun _ H => LQ G A pa pe H)) 0 0 (A) := by
  refine mstart "java/util/ArrayList" (by decide +kernel) rfl (Nat.le_of_ble_eq_true rfl) ?_
  intro p e s m below meth c ls hx hb hr hts hown hml hlocks hname hC hA hW hl
  have hl : lv_has ls 4 [(0, .ref pa), (1, .int (nI pe.length))] := hl
  have hK := hC.1
  have hS : va_S A s.heap s.heap [] := va_S.rf
  have la : (pe ++ [x9]).length = pe.length + 1 := List.length_append
  obtain ⟨he, -⟩ | ⟨md, ed, cap, f, hO, hE, hAe, hnc, h1, hc20, hf⟩ := hW
  · exact absurd (congrArg List.length he) (by rw [la]; exact Nat.succ_ne_zero _)
  rw [la] at hO hnc hf
  refine lv_iload_n hx hb dJx4a65c_remove_915e3_0 rfl (lv_at hl 1 rfl) ?_
  refine lv_aload_n hx hb dJx4a65c_remove_915e3_1 rfl (lv_at hl 0 rfl) ?_
  refine va_get (D := G.1) (ci := 3) (C := RJx4a65c) (T := TJx4a65c) (N := 3) hx hb hts inJx4a65c hown hK (at_P hO) 0 rfl rfl 2 (by decide) (hts _ tw_4_160) (fun _ h9 => h9) rfl dJx4a65c_remove_915e3_2 ?_
  refine kS_i (A := A) (As := [.int (nI pe.length), .int (nI (pe.length + 1))]) (rest := []) ⟨hx, hb, hml, hown, hts⟩ (mJ15_checkIndex_7cf53 (A := A) (j := pe.length) (n := pe.length + 1) (by omega) (by omega)) (va_cwS 2 hts (gS tw_5_156 tw_5_157 tw_1_23 tw_5_158) rfl rfl rfl (by decide +kernel) ⟨Nat.le_of_ble_eq_true rfl, Nat.le_of_ble_eq_true rfl⟩) hC hS hA  trivial rfl rfl hl.1 (Nat.le_of_ble_eq_true rfl) ⟨Nat.zero_le _, Nat.zero_le _⟩ dJx4a65c_remove_915e3_5 (fun r9 h9 => lv_cv h9 ?_)
  refine lv_pop hx hb dJx4a65c_remove_915e3_8 rfl ?_
  refine lv_aload_n hx hb dJx4a65c_remove_915e3_9 rfl (lv_at hl 0 rfl) ?_
  refine va_get (D := G.1) (ci := 3) (C := RJx4a65c) (T := TJx4a65c) (N := 3) hx hb hts inJx4a65c hown hK (at_P hO) 0 rfl rfl 1 (by decide) (hts _ tw_4_157) (fun _ h9 => h9) rfl dJx4a65c_remove_915e3_10 ?_
  refine lv_astore_n (lv' := [(2, .ref ed), (0, .ref pa), (1, .int (nI pe.length))]) hx hb dJx4a65c_remove_915e3_13 rfl hl (by decide) rfl (fun ls hl => ?_)
  refine lv_aload_n hx hb dJx4a65c_remove_915e3_14 rfl (lv_at hl 0 rfl) ?_
  refine lv_iload_n hx hb dJx4a65c_remove_915e3_15 rfl (lv_at hl 2 rfl) ?_
  refine va_aldq (D := G.1) hx hb hK (at_P hE) 0 5 rfl rfl (vp_in_nI (n := pe.length) (N := cap) (by omega) (by omega)) dJx4a65c_remove_915e3_16 ?_
  refine v_cv (show va_rf _ = .ref x9 from by rw [nI_clamp (n := pe.length) (by omega), hf _ (by omega), getD_last]; rfl) ?_
  refine lv_astore_n (lv' := [(3, .ref x9), (2, .ref ed), (0, .ref pa), (1, .int (nI pe.length))]) hx hb dJx4a65c_remove_915e3_17 rfl hl (by decide) rfl (fun ls hl => ?_)
  refine lv_aload_n hx hb dJx4a65c_remove_915e3_18 rfl (lv_at hl 2 rfl) ?_
  refine lv_aload_n hx hb dJx4a65c_remove_915e3_19 rfl (lv_at hl 1 rfl) ?_
  refine lv_iload_n hx hb dJx4a65c_remove_915e3_20 rfl (lv_at hl 3 rfl) ?_
  refine qV_V (A := A) (A1 := A) (b := pa) (As := [.ref ed, .int (nI pe.length)]) (rest := []) ⟨hx, hb, hml, hown, hts⟩ (mJx4a65c_fastRemove_b59b0 (A := A) (n := pe.length) (md := md) (f := f) (cap := cap) hAp hAe (by omega) hc20) (cwV 2 hts (gV tw_5_169 tw_5_171 sel_Jx4a65c_fastRemove_b59b0 tw_1_11 tw_5_172) rfl rfl rfl (by decide +kernel) ⟨Nat.le_of_ble_eq_true rfl, Nat.le_of_ble_eq_true rfl⟩) hC hS (fun _ h => h) (fun q h => hA q (Nat.le_trans hS.1 h)) (at_recv hK hO (q := (RJx4a65c, TJx4a65c, 3)) rfl) ⟨hO, hE⟩ rfl rfl hl.1 (Nat.le_of_ble_eq_true rfl) ⟨Nat.zero_le _, Nat.zero_le _⟩ dJx4a65c_remove_915e3_21 (fun H25 L25 hP25 hk25 hS => ?_)
  have hZ25 := hS.1
  refine lv_aload_n hx hb dJx4a65c_remove_915e3_24 rfl (lv_at hl 0 rfl) ?_
  exact q_a hx hb hr (Or.inl ⟨_, rfl⟩) hlocks dJx4a65c_remove_915e3_25 hS (Nat.le_refl _) (Nat.le_refl _) (Or.inr ⟨_, ed, cap, _, hP25.1, hP25.2, hAe, by omega, h1, hc20, fun i hi => by rw [va_up_ne _ _ (by omega), hf i (by omega), getD_app1 hi]⟩)

abbrev rmJx4a65c_add_9ea2d : Room := { frames := 6, cells := 1, slots := 90, locals := 170 }
theorem mJx4a65c_add_9ea2d {l : Launch} {G : Cx} {A : Nat → Prop} {pa r : Nat} {pe : List Nat} {t : List Nat} (hAp : A pa) (h60 : pe.length ≤ 60) : Met l yJx4a65c_add_9ea2d (.code yJx4a65c_add_9ea2d cJx4a65c_add_9ea2d 2 (some .boolean) :: GW) rmJx4a65c_add_9ea2d (PC G A [.ref pa, .ref r] (fun H => LQ G A pa pe H ∧ (∀ i : Nat, i < pe.length → ∃ t, IA0 G (pe.getD i 0) t H) ∧ IA0 G r t H)) (qI A (fun v H => v = bI true ∧ LQ G A pa (pe ++ [r]) H)) 1 90 (A) := by
  refine mstart "java/util/ArrayList" (by decide +kernel) rfl (Nat.le_of_ble_eq_true rfl) ?_
  intro p e s m below meth c ls hx hb hr hts hown hml hlocks hname hC hA hW hl
  have hl : lv_has ls 2 [(0, .ref pa), (1, .ref r)] := hl
  have hK := hC.1
  have hS : va_S A s.heap s.heap [] := va_S.rf
  obtain ⟨hL, hrows, hR⟩ := hW
  rcases hL with ⟨he, md, hO⟩ | ⟨md, ed, cap, f, hO, hE, hAe, hnc, h1, hc20, hf⟩
  · have hRp := Ne.symm (at_ne_oa hK hO (r := (RJx4a65c, TJx4a65c, 3)) rfl hR.fst 0 rfl)
    subst he
    have hO : va_at G.1 vwCl (pa, .inr (3, [.int md, .ref (G.2.2 10), .int (nI 0)])) s.heap := hO
    refine lv_aload_n hx hb dJx4a65c_add_9ea2d_0 rfl (lv_at hl 0 rfl) ?_
    refine lv_dup hx hb dJx4a65c_add_9ea2d_1 rfl ?_
    refine va_get (D := G.1) (ci := 3) (C := RJx4a65c) (T := TJx4a65c) (N := 3) hx hb hts inJx4a65c hown hK (at_P hO) 0 rfl rfl 0 (by decide) (hts _ tw_4_164) (fun x9 h9 => u_same (hts _ tw_4_163) x9 h9) rfl dJx4a65c_add_9ea2d_2 ?_
    refine lv_iconst (v := nI 1) hx hb dJx4a65c_add_9ea2d_5 (by decide) ?_
    refine lv_iadd hx hb dJx4a65c_add_9ea2d_6 ?_
    refine h_put (D := G.1) (ci := 3) (C := RJx4a65c) (T := TJx4a65c) (N := 3) hx hb hts inJx4a65c tyJx4a65c tyJx4a65c_ok nmJx4a65c hown hK hO hS hAp rfl 0 (by decide) (hts _ tw_4_164) (fun x9 h9 => u_same (hts _ tw_4_163) x9 h9) rfl (tyJx4a65c_ok 0 (by decide)) rfl rfl (Nat.le_of_ble_eq_true rfl) dJx4a65c_add_9ea2d_7 (fun H26 L26 hO z26 o26 hS => ?_)
    have hO : va_at G.1 vwCl (pa, .inr (3, [.int (md + nI 1), .ref (G.2.2 10), .int (nI 0)])) H26 := hO
    have hZ26 := hS.1
    have hR := hR.o o26 hRp
    refine lv_aload_n hx hb dJx4a65c_add_9ea2d_10 rfl (lv_at hl 0 rfl) ?_
    refine lv_aload_n hx hb dJx4a65c_add_9ea2d_11 rfl (lv_at hl 1 rfl) ?_
    refine lv_aload_n hx hb dJx4a65c_add_9ea2d_12 rfl (lv_at hl 0 rfl) ?_
    refine va_get (D := G.1) (ci := 3) (C := RJx4a65c) (T := TJx4a65c) (N := 3) hx hb hts inJx4a65c hown hK (at_P hO) 0 rfl rfl 1 (by decide) (hts _ tw_4_157) (fun _ h9 => h9) rfl dJx4a65c_add_9ea2d_13 ?_
    refine lv_aload_n hx hb dJx4a65c_add_9ea2d_16 rfl (lv_at hl 0 rfl) ?_
    refine va_get (D := G.1) (ci := 3) (C := RJx4a65c) (T := TJx4a65c) (N := 3) hx hb hts inJx4a65c hown hK (at_P hO) 0 rfl rfl 2 (by decide) (hts _ tw_4_160) (fun _ h9 => h9) rfl dJx4a65c_add_9ea2d_17 ?_
    refine qV_V (A := A) (A1 := A) (b := pa) (As := [.ref r, .ref (G.2.2 10), .int (nI 0)]) (rest := []) ⟨hx, hb, hml, hown, hts⟩ (mJx4a65c_add_72be8_0 (A := A) (t := t) hAp) (cwV 3 hts (gV tw_5_89 tw_5_91 sel_Jx4a65c_add_72be8 tw_1_11 tw_5_92) rfl rfl rfl (by decide +kernel) ⟨Nat.le_of_ble_eq_true rfl, Nat.le_of_ble_eq_true rfl⟩) hC hS (fun _ h => h) (fun q h => hA q (Nat.le_trans hS.1 h)) (at_recv hK hO (q := (RJx4a65c, TJx4a65c, 3)) rfl) ⟨hO, hR⟩ rfl rfl hl.1 (Nat.le_of_ble_eq_true rfl) ⟨Nat.le_trans (show 0 + 1 ≤ 1 by omega) (Nat.le_of_ble_eq_true rfl), Nat.le_trans (show 0 + 90 ≤ 90 by omega) (Nat.le_of_ble_eq_true rfl)⟩ dJx4a65c_add_9ea2d_20 (fun H27 L27 hP27 hk27 hS => ?_)
    have hZ27 := hS.1
    refine lv_iconst (v := nI 1) hx hb dJx4a65c_add_9ea2d_23 (by decide) ?_
    obtain ⟨ed2, cap2, g, q1, q2, q3, q4, q5, q6⟩ := hP27
    exact q_z (b9 := true) hx hb hr hlocks dJx4a65c_add_9ea2d_24 hS (by omega) (by omega) ⟨rfl, Or.inr ⟨_, ed2, cap2, g, q1, q2, q3, q4, by omega, q5, fun i hi => by obtain rfl : i = 0 := Nat.lt_one_iff.mp hi; exact q6⟩⟩
  · have hRp := Ne.symm (at_ne_oa hK hO (r := (RJx4a65c, TJx4a65c, 3)) rfl hR.fst 0 rfl)
    have hPe : pa ≠ ed := at_ne_oa hK hO (r := (RJx4a65c, TJx4a65c, 3)) rfl hE 5 rfl
    have hO0 := hO
    refine lv_aload_n hx hb dJx4a65c_add_9ea2d_0 rfl (lv_at hl 0 rfl) ?_
    refine lv_dup hx hb dJx4a65c_add_9ea2d_1 rfl ?_
    refine va_get (D := G.1) (ci := 3) (C := RJx4a65c) (T := TJx4a65c) (N := 3) hx hb hts inJx4a65c hown hK (at_P hO) 0 rfl rfl 0 (by decide) (hts _ tw_4_164) (fun x9 h9 => u_same (hts _ tw_4_163) x9 h9) rfl dJx4a65c_add_9ea2d_2 ?_
    refine lv_iconst (v := nI 1) hx hb dJx4a65c_add_9ea2d_5 (by decide) ?_
    refine lv_iadd hx hb dJx4a65c_add_9ea2d_6 ?_
    refine h_put (D := G.1) (ci := 3) (C := RJx4a65c) (T := TJx4a65c) (N := 3) hx hb hts inJx4a65c tyJx4a65c tyJx4a65c_ok nmJx4a65c hown hK hO hS hAp rfl 0 (by decide) (hts _ tw_4_164) (fun x9 h9 => u_same (hts _ tw_4_163) x9 h9) rfl (tyJx4a65c_ok 0 (by decide)) rfl rfl (Nat.le_of_ble_eq_true rfl) dJx4a65c_add_9ea2d_7 (fun H28 L28 hO z28 o28 hS => ?_)
    have hO : va_at G.1 vwCl (pa, .inr (3, [.int (md + nI 1), .ref ed, .int (nI pe.length)])) H28 := hO
    have hE := at_o hE o28 (Ne.symm hPe)
    have hZ28 := hS.1
    have hR := hR.o o28 hRp
    have hrows : ∀ i : Nat, i < pe.length → ∃ t, IA0 G (pe.getD i 0) t H28 := fun i hi => by obtain ⟨t9, h9⟩ := hrows i hi; exact ⟨t9, h9.o o28 (Ne.symm (at_ne_oa hK hO (r := (RJx4a65c, TJx4a65c, 3)) rfl (h9.o o28 (fun q => by rw [q] at h9; exact at_ne_oa hK hO0 (r := (RJx4a65c, TJx4a65c, 3)) rfl h9.fst 0 rfl rfl)).fst 0 rfl))⟩
    refine lv_aload_n hx hb dJx4a65c_add_9ea2d_10 rfl (lv_at hl 0 rfl) ?_
    refine lv_aload_n hx hb dJx4a65c_add_9ea2d_11 rfl (lv_at hl 1 rfl) ?_
    refine lv_aload_n hx hb dJx4a65c_add_9ea2d_12 rfl (lv_at hl 0 rfl) ?_
    refine va_get (D := G.1) (ci := 3) (C := RJx4a65c) (T := TJx4a65c) (N := 3) hx hb hts inJx4a65c hown hK (at_P hO) 0 rfl rfl 1 (by decide) (hts _ tw_4_157) (fun _ h9 => h9) rfl dJx4a65c_add_9ea2d_13 ?_
    refine lv_aload_n hx hb dJx4a65c_add_9ea2d_16 rfl (lv_at hl 0 rfl) ?_
    refine va_get (D := G.1) (ci := 3) (C := RJx4a65c) (T := TJx4a65c) (N := 3) hx hb hts inJx4a65c hown hK (at_P hO) 0 rfl rfl 2 (by decide) (hts _ tw_4_160) (fun _ h9 => h9) rfl dJx4a65c_add_9ea2d_17 ?_
    refine qV_V (A := A) (A1 := A) (b := pa) (As := [.ref r, .ref ed, .int (nI pe.length)]) (rest := []) ⟨hx, hb, hml, hown, hts⟩ (mJx4a65c_add_72be8 (A := A) (f := f) (cap := cap) (n := pe.length) (t := t) hAp hAe hnc h60 h1 hc20 (fun i hi => ⟨_, hf i hi⟩)) (cwV 3 hts (gV tw_5_89 tw_5_91 sel_Jx4a65c_add_72be8 tw_1_11 tw_5_92) rfl rfl rfl (by decide +kernel) ⟨Nat.le_of_ble_eq_true rfl, Nat.le_of_ble_eq_true rfl⟩) hC hS (fun _ h => h) (fun q h => hA q (Nat.le_trans hS.1 h)) (at_recv hK hO (q := (RJx4a65c, TJx4a65c, 3)) rfl) ⟨hO, hE, fun i y hi hy => by rw [hf i hi] at hy; cases hy; exact hrows i hi, hR⟩ rfl rfl hl.1 (Nat.le_of_ble_eq_true rfl) ⟨Nat.le_trans (show 0 + 1 ≤ 1 by omega) (Nat.le_of_ble_eq_true rfl), Nat.le_trans (show 0 + 90 ≤ 90 by omega) (Nat.le_of_ble_eq_true rfl)⟩ dJx4a65c_add_9ea2d_20 (fun H29 L29 hP29 hk29 hS => ?_)
    have hZ29 := hS.1
    refine lv_iconst (v := nI 1) hx hb dJx4a65c_add_9ea2d_23 (by decide) ?_
    obtain ⟨ed2, cap2, g, q1, q2, q3, q4, q5, q6, q7⟩ := hP29
    have la : (pe ++ [r]).length = pe.length + 1 := List.length_append
    exact q_z (b9 := true) hx hb hr hlocks dJx4a65c_add_9ea2d_24 hS (by omega) (by omega) ⟨rfl, Or.inr ⟨_, ed2, cap2, g, by rw [la]; exact q1, q2, q3, by omega, by omega, q5, fun i hi => by rcases Nat.lt_or_ge i pe.length with q | q; rw [q6 i q, hf i q, getD_app1 q]; rw [show i = pe.length by omega, q7, getD_last]⟩⟩

abbrev rmJxa1e45_init_da8c8 : Room := { frames := 1, cells := 0, slots := 0, locals := 20 }
theorem mJxa1e45_init_da8c8 {l : Launch} {G : Cx} {A : Nat → Prop} {pa : Nat} : Met l yJxa1e45_init_da8c8 (.code yJxa1e45_init_da8c8 cJxa1e45_init_da8c8 1 (none : Option Jvm.ClassFile.FieldType) :: GW) rmJxa1e45_init_da8c8 (PC G A [.ref pa] (fun H => va_at G.1 vwCl (pa, .inr (3, [.int 0, .null, .int 0])) H)) (qV A (fun H => va_at G.1 vwCl (pa, .inr (3, [.int 0, .null, .int 0])) H)) 0 0 (A) := by
  refine mstart "java/util/AbstractCollection" (by decide +kernel) rfl (Nat.le_of_ble_eq_true rfl) ?_
  intro p e s m below meth c ls hx hb hr hts hown hml hlocks hname hC hA hW hl
  have hl : lv_has ls 1 [(0, .ref pa)] := hl
  have hK := hC.1
  have hS : va_S A s.heap s.heap [] := va_S.rf
  have hO := hW
  refine lv_aload_n hx hb dJxa1e45_init_da8c8_0 rfl (lv_at hl 0 rfl) ?_
  refine W.objInit hx hb hown (hts _ tw_4_154) (hts _ tw_1_35) (hts _ tw_1_36) rfl (by rw [hml]; exact hl.1) rfl dJxa1e45_init_da8c8_1 (Nat.le_of_ble_eq_true rfl) (Nat.le_of_ble_eq_true rfl) ?_
  refine W.eq (g2 := F0 m 4 ls []) rfl ?_
  exact q_v hx hb hr hlocks dJxa1e45_init_da8c8_4 hS (Nat.le_refl _) (Nat.le_refl _) hO

abbrev rmJxc12de_init_da8c8 : Room := { frames := 2, cells := 0, slots := 0, locals := 40 }
theorem mJxc12de_init_da8c8 {l : Launch} {G : Cx} {A : Nat → Prop} {pa : Nat} (hAp : A pa) : Met l yJxc12de_init_da8c8 (.code yJxc12de_init_da8c8 cJxc12de_init_da8c8 1 (none : Option Jvm.ClassFile.FieldType) :: GW) rmJxc12de_init_da8c8 (PC G A [.ref pa] (fun H => va_at G.1 vwCl (pa, .inr (3, [.int 0, .null, .int 0])) H)) (qV A (fun H => va_at G.1 vwCl (pa, .inr (3, [.int 0, .null, .int 0])) H)) 0 0 (A) := by
  refine mstart "java/util/AbstractList" (by decide +kernel) rfl (Nat.le_of_ble_eq_true rfl) ?_
  intro p e s m below meth c ls hx hb hr hts hown hml hlocks hname hC hA hW hl
  have hl : lv_has ls 1 [(0, .ref pa)] := hl
  have hK := hC.1
  have hS : va_S A s.heap s.heap [] := va_S.rf
  have hO := hW
  refine lv_aload_n hx hb dJxc12de_init_da8c8_0 rfl (lv_at hl 0 rfl) ?_
  refine qV_I (A := A) (A1 := A) (b := pa) (As := []) (rest := []) ⟨hx, hb, hml, hown, hts⟩ (mJxa1e45_init_da8c8 (A := A) ) (cwI 0 hts (gI tw_4_153) rfl rfl rfl (hts _ tw_1_9) (hts _ tw_4_151) (hts _ tw_4_152) rfl (by decide +kernel) ⟨Nat.le_of_ble_eq_true rfl, Nat.le_of_ble_eq_true rfl⟩) hC hS (fun _ h => h) (fun q h => hA q (Nat.le_trans hS.1 h))  hO rfl rfl hl.1 (Nat.le_of_ble_eq_true rfl) ⟨Nat.zero_le _, Nat.zero_le _⟩ dJxc12de_init_da8c8_1 (fun H30 L30 hP30 hk30 hS => ?_)
  have hZ30 := hS.1
  have hO := hP30
  refine lv_aload_n hx hb dJxc12de_init_da8c8_4 rfl (lv_at hl 0 rfl) ?_
  refine lv_iconst (v := nI 0) hx hb dJxc12de_init_da8c8_5 (by decide) ?_
  refine h_put (D := G.1) (ci := 3) (C := RJx4a65c) (T := TJx4a65c) (N := 3) hx hb hts inJx4a65c tyJx4a65c tyJx4a65c_ok nmJx4a65c hown hK hO hS hAp rfl 0 (by decide) (hts _ tw_4_161) (fun _ h9 => h9) rfl (tyJx4a65c_ok 0 (by decide)) rfl rfl (Nat.le_of_ble_eq_true rfl) dJxc12de_init_da8c8_6 (fun H31 L31 hO z31 o31 hS => ?_)
  have hO : va_at G.1 vwCl (pa, .inr (3, [.int (nI 0), .null, .int 0])) H31 := hO
  have hZ31 := hS.1
  exact q_v hx hb hr hlocks dJxc12de_init_da8c8_9 hS (Nat.le_refl _) (Nat.le_refl _) hO

abbrev rmJx4a65c_init_da8c8 : Room := { frames := 3, cells := 0, slots := 0, locals := 60 }
theorem mJx4a65c_init_da8c8 {l : Launch} {G : Cx} {A : Nat → Prop} {pa : Nat} (hAp : A pa) : Met l yJx4a65c_init_da8c8 (.code yJx4a65c_init_da8c8 cJx4a65c_init_da8c8 1 (none : Option Jvm.ClassFile.FieldType) :: GW) rmJx4a65c_init_da8c8 (PC G A [.ref pa] (fun H => va_at G.1 vwCl (pa, .inr (3, [.int 0, .null, .int 0])) H)) (qV A (LQ G A pa [])) 0 0 (A) := by
  refine mstart "java/util/ArrayList" (by decide +kernel) rfl (Nat.le_of_ble_eq_true rfl) ?_
  intro p e s m below meth c ls hx hb hr hts hown hml hlocks hname hC hA hW hl
  have hl : lv_has ls 1 [(0, .ref pa)] := hl
  have hK := hC.1
  have hS : va_S A s.heap s.heap [] := va_S.rf
  obtain ⟨-, -, -, -, -, -, -, -, zc9, zc10, -⟩ := hC.2.2.1
  have hO := hW
  refine lv_aload_n hx hb dJx4a65c_init_da8c8_0 rfl (lv_at hl 0 rfl) ?_
  refine qV_I (A := A) (A1 := A) (b := pa) (As := []) (rest := []) ⟨hx, hb, hml, hown, hts⟩ (mJxc12de_init_da8c8 (A := A) hAp) (cwI 0 hts (gI tw_4_150) rfl rfl rfl (hts _ tw_1_10) (hts _ tw_4_148) (hts _ tw_4_149) rfl (by decide +kernel) ⟨Nat.le_of_ble_eq_true rfl, Nat.le_of_ble_eq_true rfl⟩) hC hS (fun _ h => h) (fun q h => hA q (Nat.le_trans hS.1 h))  hO rfl rfl hl.1 (Nat.le_of_ble_eq_true rfl) ⟨Nat.zero_le _, Nat.zero_le _⟩ dJx4a65c_init_da8c8_1 (fun H32 L32 hP32 hk32 hS => ?_)
  have hZ32 := hS.1
  have hO := hP32
  refine lv_aload_n hx hb dJx4a65c_init_da8c8_4 rfl (lv_at hl 0 rfl) ?_
  refine va_gets (v := .ref (G.2.2 10)) hx hb zc9 hS hown (hts _ tw_4_155) (fun _ h9 => h9) dJx4a65c_init_da8c8_5 ?_
  refine h_put (D := G.1) (ci := 3) (C := RJx4a65c) (T := TJx4a65c) (N := 3) hx hb hts inJx4a65c tyJx4a65c tyJx4a65c_ok nmJx4a65c hown hK hO hS hAp rfl 1 (by decide) (hts _ tw_4_157) (fun _ h9 => h9) rfl (tyJx4a65c_ok 1 (by decide)) rfl rfl (Nat.le_of_ble_eq_true rfl) dJx4a65c_init_da8c8_8 (fun H33 L33 hO z33 o33 hS => ?_)
  have hO : va_at G.1 vwCl (pa, .inr (3, [.int 0, .ref (G.2.2 10), .int 0])) H33 := hO
  have hZ33 := hS.1
  exact q_v hx hb hr hlocks dJx4a65c_init_da8c8_11 hS (Nat.le_refl _) (Nat.le_refl _) (Or.inl ⟨rfl, _, hO⟩)
