/-! The model, 20: made -/
section NAA
variable {p : Program} {l : Launch} {e : Env} {R : Room} {s : State} {m : MethodId} {args : Array Value} {below : List Frame} {meth : Method} {c : Code} {H : Heap} {locs : List Loc} {cells slots : Nat} {Q : State → Prop}
variable {cc : ByteArray} {pc : Nat} {ls : Array Slot} {rest : List Value} {A : Nat → Prop} {H0 : Heap} {G : Cx}
theorem outer4 (cA : ClassId) (h : Nat) : Jvm.Free.Multi.outerC cA 4 h 4 = vp_cell cA (4, .inr (.inr (.inr (.inr (fun j => some (h + 1 + j)))))) := rfl
theorem inner0 (cI : ClassId) : Jvm.Free.Multi.innerC cI 0 (defaultValue .int) = vp_cell cI (0, .inl (fun _ => 0)) := rfl
theorem h_newaa {own : String} {index : Nat} (hexec : p.tables.exec = Jvm.exec) (hb : c.code = cc) (hown : s.vm.findClass own = some m.cls) (hclink : (Cond.classLink own index "[[I").before args s = true) (harr : (Cond.arrayClass .int).before args s = true) (hC : cx G A s) (hS : va_S A H0 H locs) (hA : ∀ q : Nat, H0.size ≤ q → A q) (hcells : cells + 5 ≤ R.cells) (hslots : slots + 4 ≤ R.slots) (hdg : decode cc pc = .ok (.multianewarray index 2, 4))
    (kk : ∀ (H1 : Heap) (L1 : List Loc), va_at G.1 vwCl (H.size, .inl (G.2.1 4, 4, .inr (.inr (.inr (.inr (fun j => some (H.size + 1 + j))))))) H1 → (∀ j : Nat, j < 4 → va_at G.1 vwCl (H.size + 1 + j, .inl (G.2.1 0, 0, .inl (fun _ => 0))) H1) → H1.size = H.size + 5 → (∀ q : Nat, q < H.size → H1[q]? = H[q]?) → va_S A H0 H1 L1 → W p l e R s m args below meth c H1 L1 (cells + 1 + 4) (slots + 4 + 4 * 0) Q (F0 m (pc + 4) ls (.ref H.size :: rest))) : W p l e R s m args below meth c H locs cells slots Q (F0 m pc ls (.int (nI 0) :: .int (nI 4) :: rest)) := by
  have hover : (Cond.arrayOver (.array .int)).before args s = true := by
    have h := hC.2.2.2.2.2.2.2.2.2.2.1
    simp only [Cond.before, Cond.holds, Cond.value] at h ⊢
    exact h
  have e4 : (nI 4).toNatClampNeg = 4 := nI_clamp (by decide)
  have e0 : (nI 0).toNatClampNeg = 0 := nI_clamp (by decide)
  intro T hT X
  obtain ⟨vm₁, cA, comp, hW, hfA, hfC, -, -, X1, step⟩ := X.multianewarray2K hexec (ty := .int) hown hclink hover harr (g := F0 m pc ls (.int (nI 0) :: .int (nI 4) :: rest)) rfl (by rw [hb]; exact hdg) (n := nI 4) (k := nI 0) rfl (nI_pos (by decide)) (nI_pos (by decide)) (by rw [e4]; decide) (by rw [e0]; decide) (by rw [e0]; decide) rfl rfl (by rw [e4]; omega) (by rw [e4, e0]; omega)
  rw [e4, e0] at X1 step
  have g4 : s.vm.findClass ("[" ++ (FieldType.array .int).toString) = some (G.2.1 4) := (hC.1.2 4 _ rfl).2
  have g0 : s.vm.findClass ("[" ++ (FieldType.int).toString) = some (G.2.1 0) := (hC.1.2 0 _ rfl).2
  have k4 : cA = G.2.1 4 := Option.some.inj (hfA.symm.trans g4)
  have k0 : comp = G.2.1 0 := Option.some.inj (hfC.symm.trans g0)
  subst k4 k0
  have hTs : (T.setVm vm₁).heap = H := hT
  obtain ⟨f1, f2, -, -⟩ := Jvm.Free.Multi.fill_facts (T.setVm vm₁) (G.2.1 4) (G.2.1 0) 4 0 (defaultValue .int) 4
  have f3 := Jvm.Free.Multi.fill_inner (T.setVm vm₁) (G.2.1 4) (G.2.1 0) 4 0 (defaultValue .int) 4
  have f4 : ∀ q : Nat, q < H.size → (Jvm.Free.Multi.fill (T.setVm vm₁) (G.2.1 4) (G.2.1 0) 4 0 (defaultValue .int) 4).heap[q]? = H[q]? := fun q hq => by
    have := Jvm.Free.Multi.fill_old (T.setVm vm₁) (G.2.1 4) (G.2.1 0) 4 0 (defaultValue .int) (a := q) (by rw [hTs]; exact hq) 4
    rw [this, hTs]
  rw [hTs] at f1 f2 f3
  rw [hT] at X1 step
  obtain ⟨t, a1, b1⟩ := kk _ _ (show _ = some (vp_cell _ _) from by rw [f2, outer4]) (fun j hj => show _ = some (vp_cell _ _) from by rw [f3 j hj, inner0]) (by rw [f1]) f4 ⟨by rw [f1]; have := hS.1; omega, fun q h1 h2 => (f4 q (Nat.lt_of_lt_of_le h1 hS.1)).trans (hS.2.1 q h1 h2), fun q hq => by
    rcases List.mem_append.mp hq with h | h
    · exact hS.2.2 q h
    · obtain ⟨z, -, hz⟩ := List.mem_map.mp h
      rw [← hz]; exact hA _ hS.1⟩ _ rfl X1
  exact ⟨t, step t a1, b1⟩
end NAA
theorem ML_of {G : Cx} {A : Nat → Prop} {am pa ra : Nat} {H H1 : Heap} {s : State} {vs : List Value} (hK : va_K G.1 vwCl (tyL G.2.1) s) (hO : va_at G.1 vwCl (am, .inr (8, vs)) H) (h : LQ G A pa [] H) (oq : ∀ q : Nat, q ≠ am → H1[q]? = H[q]?) (hn : pa ≠ am) : (([] : List (List Nat)) = [] ∧ ∃ md : Int32, va_at G.1 vwCl (pa, .inr (3, [.int md, .ref (G.2.2 10), .int 0])) H1) ∨
  ∃ (md : Int32) (ed cap : Nat) (f : Nat → Option Nat) (pe : Nat → Nat), va_at G.1 vwCl (pa, .inr (3, [.int md, .ref ed, .int (nI ([] : List (List Nat)).length)])) H1 ∧ va_at G.1 vwCl (ed, .inl (G.2.1 5, cap, .inr (.inr (.inr (.inr f))))) H1 ∧ A ed ∧ ([] : List (List Nat)).length ≤ cap ∧ cap < 2 ^ 20 ∧ ∀ i : Nat, i < ([] : List (List Nat)).length → f i = some (pe i) ∧ IA0 G (pe i) (([] : List (List Nat)).getD i []) H1 ∧ pe i ≠ ra := by
  rcases h with ⟨-, md, h⟩ | ⟨md, ed, cap, f, q1, q2, q3, q4, q5, q6, q7⟩
  · exact Or.inl ⟨rfl, md, at_o h oq hn⟩
  · exact Or.inr ⟨md, ed, cap, f, fun _ => 0, at_o q1 oq hn, at_o q2 oq (Ne.symm (at_ne_oa hK hO (r := (RX4, TX4, 5)) rfl q2 5 rfl)), q3, q4, q6, fun i hi => absurd hi (Nat.not_lt_zero i)⟩
theorem dX4_init_0 : decode cX4_init 0 = .ok (.aload_n 0, 1) := by decide +kernel
theorem dX4_init_1 : decode cX4_init 1 = .ok (.invokespecial 67, 3) := by decide +kernel
theorem dX4_init_4 : decode cX4_init 4 = .ok (.aload_n 0, 1) := by decide +kernel
theorem dX4_init_5 : decode cX4_init 5 = .ok (.iconst 4, 1) := by decide +kernel
theorem dX4_init_6 : decode cX4_init 6 = .ok (.iconst 0, 1) := by decide +kernel
theorem dX4_init_7 : decode cX4_init 7 = .ok (.multianewarray 70 2, 4) := by decide +kernel
theorem dX4_init_11 : decode cX4_init 11 = .ok (.putfield 72, 3) := by decide +kernel
theorem dX4_init_14 : decode cX4_init 14 = .ok (.aload_n 0, 1) := by decide +kernel
theorem dX4_init_15 : decode cX4_init 15 = .ok (.iconst 0, 1) := by decide +kernel
theorem dX4_init_16 : decode cX4_init 16 = .ok (.newarray .int, 2) := by decide +kernel
theorem dX4_init_18 : decode cX4_init 18 = .ok (.putfield 75, 3) := by decide +kernel
theorem dX4_init_21 : decode cX4_init 21 = .ok (.aload_n 0, 1) := by decide +kernel
theorem dX4_init_22 : decode cX4_init 22 = .ok (.new 43, 3) := by decide +kernel
theorem dX4_init_25 : decode cX4_init 25 = .ok (.dup, 1) := by decide +kernel
theorem dX4_init_26 : decode cX4_init 26 = .ok (.invokespecial 45, 3) := by decide +kernel
theorem dX4_init_29 : decode cX4_init 29 = .ok (.putfield 78, 3) := by decide +kernel
theorem dX4_init_32 : decode cX4_init 32 = .ok (.return_, 1) := by decide +kernel
abbrev rmX4_init : Room := { frames := 4, cells := 7, slots := 7, locals := 80 }
theorem mX4_init {l : Launch} {G : Cx} {A : Nat → Prop} {a n : Nat} (hAa : A a) : Met l yX4_init (.code yX4_init cX4_init 1 (none : Option Jvm.ClassFile.FieldType) :: GW) rmX4_init (PC G A [.ref a] (fun H => H.size = n ∧ va_at G.1 vwCl (a, .inr (8, [.int 0, .null, .null, .null, .int 0])) H)) (qV A (fun H => ∃ xa, MW G A a xa (fun _ => []) [] 0 0 H)) 7 7 (A) := by
  refine mstart "SigntextModel" (by decide +kernel) rfl (Nat.le_of_ble_eq_true rfl) ?_
  intro p e s m below meth c ls hx hb hr hts hown hml hlocks hname hC hA hW hl
  have hl : lv_has ls 1 [(0, .ref a)] := hl
  have hK := hC.1
  have hS : va_S A s.heap s.heap [] := va_S.rf
  obtain ⟨hsz, hO⟩ := hW
  refine lv_aload_n hx hb dX4_init_0 rfl (lv_at hl 0 rfl) ?_
  refine W.objInit hx hb hown (hts _ tw_4_140) (hts _ tw_1_35) (hts _ tw_1_36) rfl (by rw [hml]; exact hl.1) rfl dX4_init_1 (Nat.le_of_ble_eq_true rfl) (Nat.le_of_ble_eq_true rfl) ?_
  refine W.eq (g2 := F0 m 4 ls []) rfl ?_
  refine lv_aload_n hx hb dX4_init_4 rfl (lv_at hl 0 rfl) ?_
  refine lv_iconst (v := nI 4) hx hb dX4_init_5 (by decide) ?_
  refine lv_iconst (v := nI 0) hx hb dX4_init_6 (by decide) ?_
  refine h_newaa hx hb hown (hts _ tw_4_141) (hts _ tw_1_70) hC hS hA (Nat.le_trans (show 0 + 5 ≤ 7 by omega) (Nat.le_of_ble_eq_true rfl)) (Nat.le_trans (show 0 + 4 ≤ 7 by omega) (Nat.le_of_ble_eq_true rfl)) dX4_init_7 (fun H8 L8 hXa hTx hz8 ho8 hS => ?_)
  have halt := hO.lt
  have hO := at_n hO ho8
  have hZ8 := hS.1
  have hH8 : H8.size = n + 5 := by omega
  refine h_putF (D := G.1) (ci := 8) (C := RX4) (T := TX4) (N := 5) hx hb hts inX4 tyX4 tyX4_ok nmX4 hown hK hO hS hAa rfl 1 (by decide) (hts _ tw_4_173) (fun _ h9 => h9) rfl hname rfl (tyX4_ok 1 (by decide)) rfl rfl (Nat.le_of_ble_eq_true rfl) dX4_init_11 (fun H1 L1 hO z1 o1 hS => ?_)
  have hO : va_at G.1 vwCl (a, .inr (8, [.int 0, .ref s.heap.size, .null, .null, .int 0])) H1 := hO
  have hZ1 := hS.1
  rw [hsz] at hXa hTx hO
  have hXa := at_o hXa o1 (by omega)
  have hTx : ∀ j : Nat, j < 4 → IA0 G (n + 1 + j) [] H1 := fun j hj => IA0.o (IA0.mk (hTx j hj) rfl (fun q hq => absurd hq (Nat.not_lt_zero q))) o1 (by omega)
  refine lv_aload_n hx hb dX4_init_14 rfl (lv_at hl 0 rfl) ?_
  refine lv_iconst (v := nI 0) hx hb dX4_init_15 (by decide) ?_
  refine h_newa (D := G.1) (atype := .int) (N := 0) (z := (0, .inl (fun _ => 0))) hx hb (hts _ tw_1_70) rfl (fun h => h) hK 0 rfl hS rfl (nI_pos (by omega)) (nI_clamp (by omega)) (show 0 * _ ≤ _ from by show 0 * 4 ≤ 536870912; omega) (Nat.le_trans (show (0 + 1 + 4) + 1 ≤ 7 by omega) (Nat.le_of_ble_eq_true rfl)) (Nat.le_trans (show (0 + 4 + 4 * 0) + 0 ≤ 7 by omega) (Nat.le_of_ble_eq_true rfl)) dX4_init_16 (fun na H2 hna hFna z2 o2 hS => ?_)
  have n2hO : a ≠ na := fun q => absurd hO.lt (by rw [q, hna]; exact Nat.lt_irrefl _)
  have hO := at_n hO o2
  have hZ2 := hS.1
  have hMna : A na := hA na (by omega)
  have hXa := at_n hXa o2
  have hTx : ∀ j : Nat, j < 4 → IA0 G (n + 1 + j) [] H2 := fun j hj => (hTx j hj).n o2
  have hnaz : n + 5 ≤ na := by omega
  refine h_put (D := G.1) (ci := 8) (C := RX4) (T := TX4) (N := 5) hx hb hts inX4 tyX4 tyX4_ok nmX4 hown hK hO hS hAa rfl 2 (by decide) (hts _ tw_4_174) (fun _ h9 => h9) rfl (tyX4_ok 2 (by decide)) rfl rfl (Nat.le_of_ble_eq_true rfl) dX4_init_18 (fun H3 L3 hO z3 o3 hS => ?_)
  have hO : va_at G.1 vwCl (a, .inr (8, [.int 0, .ref n, .ref na, .null, .int 0])) H3 := hO
  have hFna := at_o hFna o3 (by omega)
  have hZ3 := hS.1
  have hXa := at_o hXa o3 (by omega)
  have hTx : ∀ j : Nat, j < 4 → IA0 G (n + 1 + j) [] H3 := fun j hj => (hTx j hj).o o3 (by omega)
  refine lv_aload_n hx hb dX4_init_21 rfl (lv_at hl 0 rfl) ?_
  refine h_new (D := G.1) (C := RJx4a65c) (T := TJx4a65c) (N := 3) (ci := 3) (fs := [.int 0, .null, .int 0]) hx hb hts inJx4a65c tyJx4a65c tyJx4a65c_ok hown (hts _ tw_4_143) (hts _ tw_4_144) (hts _ tw_1_11) hK hS rfl (fun j hj => match j, hj with | 0, _ => rfl | 1, _ => rfl | 2, _ => rfl) (Nat.le_trans (show ((0 + 1 + 4) + 1) + 1 ≤ 7 by omega) (Nat.le_of_ble_eq_true rfl)) (Nat.le_trans (show ((0 + 4 + 4 * 0) + 0) + 3 ≤ 7 by omega) (Nat.le_of_ble_eq_true rfl)) dX4_init_22 (fun pa H4 hpa hOpa z4 o4 hS => ?_)
  have n4hO : a ≠ pa := fun q => absurd hO.lt (by rw [q, hpa]; exact Nat.lt_irrefl _)
  have n4hFna : na ≠ pa := fun q => absurd hFna.lt (by rw [q, hpa]; exact Nat.lt_irrefl _)
  have hO := at_n hO o4
  have hFna := at_n hFna o4
  have hZ4 := hS.1
  have hMpa : A pa := hA pa (by omega)
  have hXa := at_n hXa o4
  have hTx : ∀ j : Nat, j < 4 → IA0 G (n + 1 + j) [] H4 := fun j hj => (hTx j hj).n o4
  have hpaz : na < pa := by omega
  refine lv_dup hx hb dX4_init_25 rfl ?_
  have hR0 : IA0 G na [] H4 := IA0.mk hFna rfl (fun q hq => absurd hq (Nat.not_lt_zero q))
  refine qV_I (A := A) (A1 := ow pa pa H4.size) (b := pa) (As := []) (rest := .ref pa :: .ref a :: []) ⟨hx, hb, hml, hown, hts⟩ (mJx4a65c_init_da8c8 (A := ow pa pa H4.size) (Or.inl rfl)) (cwI 0 hts (gI tw_4_147) rfl rfl rfl (hts _ tw_1_11) (hts _ tw_4_145) (hts _ tw_4_146) rfl (by decide +kernel) ⟨Nat.le_of_ble_eq_true rfl, Nat.le_of_ble_eq_true rfl⟩) hC hS (ow_in hMpa hMpa hA (by omega)) ow_n  hOpa rfl rfl hl.1 (Nat.le_of_ble_eq_true rfl) ⟨Nat.le_trans (show (((0 + 1 + 4) + 1) + 1) ≤ 7 by omega) (Nat.le_of_ble_eq_true rfl), Nat.le_trans (show (((0 + 4 + 4 * 0) + 0) + 3) ≤ 7 by omega) (Nat.le_of_ble_eq_true rfl)⟩ dX4_init_26 (fun H5 L5 hP5 hk5 hS => ?_)
  have hZ5 := hS.1
  have hO := at_kp hO hk5 (ow_no (by omega) (by omega) hO.lt)
  have hXa := at_kp hXa hk5 (ow_no (by omega) (by omega) hXa.lt)
  have hTx : ∀ j : Nat, j < 4 → IA0 G (n + 1 + j) [] H5 := fun j hj => (hTx j hj).kp hk5 (ow_no (by omega) (by omega) (hTx j hj).lt)
  have hR0 := hR0.kp hk5 (ow_no (by omega) (by omega) hR0.lt)
  have hL := LQ_mono (ow_in hMpa hMpa hA (by omega)) hP5
  have hpne : pa ≠ a := by omega
  have hO1 := hO
  refine h_put (D := G.1) (ci := 8) (C := RX4) (T := TX4) (N := 5) hx hb hts inX4 tyX4 tyX4_ok nmX4 hown hK hO hS hAa rfl 3 (by decide) (hts _ tw_4_175) (fun _ h9 => h9) rfl (tyX4_ok 3 (by decide)) rfl rfl (Nat.le_of_ble_eq_true rfl) dX4_init_29 (fun H6 L6 hO z6 o6 hS => ?_)
  have hO : va_at G.1 vwCl (a, .inr (8, [.int 0, .ref n, .ref na, .ref pa, .int 0])) H6 := hO
  have hZ6 := hS.1
  have hXa := at_o hXa o6 (by omega)
  have hTx : ∀ j : Nat, j < 4 → IA0 G (n + 1 + j) [] H6 := fun j hj => (hTx j hj).o o6 (by omega)
  have hR0 := hR0.o o6 (by omega)
  exact q_v hx hb hr hlocks dX4_init_32 hS (by omega) (by omega) ⟨n, na, pa, fun j => n + 1 + j, hAa, hA _ (by omega), fun i _ => ⟨okc_nil, Nat.zero_le _⟩, fun i => by rw [List.getD_eq_getElem?_getD]; exact ⟨okc_nil, Nat.zero_le _⟩, hMna, hMpa, hpne, hO, hXa, fun j hj => ⟨hTx j hj, by show n + 1 + j ≠ na; omega⟩, hR0, Nat.zero_le _, ML_of hK hO1 hL o6 hpne⟩
