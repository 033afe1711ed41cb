/-! Line, 4: writers -/
theorem LA.o {G : Cx} {a ca b : Nat} {t : List Nat} {H H1 : Heap} (h : LA G a ca t H) (oq : ∀ q : Nat, q ≠ b → H1[q]? = H[q]?) (n1 : a ≠ b) (n2 : ca ≠ b) : LA G a ca t H1 := by
  obtain ⟨q1, q2, q3, q4, f, q5, q6⟩ := h
  exact ⟨q1, q2, q3, at_o q4 oq n1, f, at_o q5 oq n2, q6⟩
theorem LA.n {G : Cx} {a ca : Nat} {t : List Nat} {H H1 : Heap} (h : LA G a ca t H) (oq : ∀ q : Nat, q < H.size → H1[q]? = H[q]?) : LA G a ca t H1 := by
  obtain ⟨q1, q2, q3, q4, f, q5, q6⟩ := h
  exact ⟨q1, q2, q3, at_n q4 oq, f, at_n q5 oq, q6⟩
theorem okc_set {t : List Nat} {i k0 : Nat} (h : okc t) (hk : k0 < 256) : okc (t.set i k0) := fun j => by
  rw [List.getD_eq_getElem?_getD, List.getElem?_set]
  split
  · split
    · exact hk
    · decide
  · rw [← List.getD_eq_getElem?_getD]; exact h j
theorem LA.put {G : Cx} {a ca i k0 : Nat} {t : List Nat} {f : Nat → Int32} {H : Heap} (t60 : t.length ≤ 60) (tok : okc t) (hi : i < t.length) (hk0 : k0 < 256) (tne : a ≠ ca) (hO : va_at G.1 vwCl (a, .inr (4, [.ref ca, .int (nI t.length)])) H) (hF : va_at G.1 vwCl (ca, .inl (G.2.1 1, 60, .inl (upd f i (vp_nar .char (nI k0))))) H) (hf : ∀ j : Nat, j < t.length → f j = nI (t.getD j 0)) : LA G a ca (t.set i k0) H := by
  refine ⟨by rw [List.length_set]; exact t60, okc_set tok hk0, tne, by rw [List.length_set]; exact hO, _, hF, fun j hj => ?_⟩
  rw [List.length_set] at hj
  by_cases h : j = i
  · subst h
    rw [pk_us, nar_char (by omega), List.getD_eq_getElem?_getD, List.getElem?_set_self hj]; rfl
  · rw [pk_un h, hf j hj, List.getD_eq_getElem?_getD, List.getD_eq_getElem?_getD, List.getElem?_set_ne (fun q => h q.symm)]
theorem LA.push {G : Cx} {a ca k0 : Nat} {t : List Nat} {f : Nat → Int32} {H : Heap} (t60 : t.length < 60) (tok : okc t) (hk0 : k0 < 256) (tne : a ≠ ca) (hO : va_at G.1 vwCl (a, .inr (4, [.ref ca, .int (nI (t.length + 1))])) H) (hF : va_at G.1 vwCl (ca, .inl (G.2.1 1, 60, .inl (upd f t.length (vp_nar .char (nI k0))))) H) (hf : ∀ j : Nat, j < t.length → f j = nI (t.getD j 0)) : LA G a ca (t ++ [k0]) H := by
  have hl : (t ++ [k0]).length = t.length + 1 := by rw [List.length_append]; rfl
  refine ⟨by rw [hl]; omega, okc_app tok (okc_one hk0), tne, by rw [hl]; exact hO, _, hF, fun j hj => ?_⟩
  rw [hl] at hj
  by_cases h : j = t.length
  · subst h
    rw [pk_us, nar_char (by omega), getD_last]
  · rw [pk_un h, hf j (by omega), getD_app1 (by omega)]
theorem take_full {t : List Nat} {k0 : Nat} (h : 60 ≤ t.length) (h2 : t.length ≤ 60 := by omega) : (t ++ [k0]).take 60 = t := by
  rw [List.take_append_of_le_length h, List.take_of_length_le h2]
theorem take_room {t : List Nat} {k0 : Nat} (h : t.length < 60) : (t ++ [k0]).take 60 = t ++ [k0] := List.take_of_length_le (by rw [List.length_append]; show t.length + 1 ≤ 60; omega)
theorem take_take60 (l r : List Nat) : (l.take 60 ++ r).take 60 = (l ++ r).take 60 := by
  rcases Nat.lt_or_ge l.length 60 with h | h
  · rw [List.take_of_length_le (Nat.le_of_lt h)]
  · rw [List.take_append_of_le_length (by rw [List.length_take]; omega), List.take_take, Nat.min_self, List.take_append_of_le_length h]
theorem dX0_init_0 : decode cX0_init 0 = .ok (.aload_n 0, 1) := by decide +kernel
theorem dX0_init_1 : decode cX0_init 1 = .ok (.invokespecial 3, 3) := by decide +kernel
theorem dX0_init_4 : decode cX0_init 4 = .ok (.aload_n 0, 1) := by decide +kernel
theorem dX0_init_5 : decode cX0_init 5 = .ok (.bipush 60, 2) := by decide +kernel
theorem dX0_init_7 : decode cX0_init 7 = .ok (.newarray .char, 2) := by decide +kernel
theorem dX0_init_9 : decode cX0_init 9 = .ok (.putfield 9, 3) := by decide +kernel
theorem dX0_init_12 : decode cX0_init 12 = .ok (.aload_n 0, 1) := by decide +kernel
theorem dX0_init_13 : decode cX0_init 13 = .ok (.iconst 0, 1) := by decide +kernel
theorem dX0_init_14 : decode cX0_init 14 = .ok (.putfield 15, 3) := by decide +kernel
theorem dX0_init_17 : decode cX0_init 17 = .ok (.return_, 1) := by decide +kernel
theorem dX0_empty_0 : decode cX0_empty 0 = .ok (.aload_n 0, 1) := by decide +kernel
theorem dX0_empty_1 : decode cX0_empty 1 = .ok (.iconst 0, 1) := by decide +kernel
theorem dX0_empty_2 : decode cX0_empty 2 = .ok (.putfield 15, 3) := by decide +kernel
theorem dX0_empty_5 : decode cX0_empty 5 = .ok (.return_, 1) := by decide +kernel
theorem dX0_change_0 : decode cX0_change 0 = .ok (.iload_n 1, 1) := by decide +kernel
theorem dX0_change_1 : decode cX0_change 1 = .ok (.ifCond .lt 19, 3) := by decide +kernel
theorem dX0_change_4 : decode cX0_change 4 = .ok (.iload_n 1, 1) := by decide +kernel
theorem dX0_change_5 : decode cX0_change 5 = .ok (.aload_n 0, 1) := by decide +kernel
theorem dX0_change_6 : decode cX0_change 6 = .ok (.getfield 15, 3) := by decide +kernel
theorem dX0_change_9 : decode cX0_change 9 = .ok (.if_icmp .ge 11, 3) := by decide +kernel
theorem dX0_change_12 : decode cX0_change 12 = .ok (.aload_n 0, 1) := by decide +kernel
theorem dX0_change_13 : decode cX0_change 13 = .ok (.getfield 9, 3) := by decide +kernel
theorem dX0_change_16 : decode cX0_change 16 = .ok (.iload_n 1, 1) := by decide +kernel
theorem dX0_change_17 : decode cX0_change 17 = .ok (.iload_n 2, 1) := by decide +kernel
theorem dX0_change_18 : decode cX0_change 18 = .ok (.i2c, 1) := by decide +kernel
theorem dX0_change_19 : decode cX0_change 19 = .ok (.castore, 1) := by decide +kernel
theorem dX0_change_20 : decode cX0_change 20 = .ok (.return_, 1) := by decide +kernel
theorem dX0_addCode_0 : decode cX0_addCode 0 = .ok (.aload_n 0, 1) := by decide +kernel
theorem dX0_addCode_1 : decode cX0_addCode 1 = .ok (.getfield 15, 3) := by decide +kernel
theorem dX0_addCode_4 : decode cX0_addCode 4 = .ok (.bipush 60, 2) := by decide +kernel
theorem dX0_addCode_6 : decode cX0_addCode 6 = .ok (.if_icmp .ge 24, 3) := by decide +kernel
theorem dX0_addCode_9 : decode cX0_addCode 9 = .ok (.aload_n 0, 1) := by decide +kernel
theorem dX0_addCode_10 : decode cX0_addCode 10 = .ok (.getfield 9, 3) := by decide +kernel
theorem dX0_addCode_13 : decode cX0_addCode 13 = .ok (.aload_n 0, 1) := by decide +kernel
theorem dX0_addCode_14 : decode cX0_addCode 14 = .ok (.getfield 15, 3) := by decide +kernel
theorem dX0_addCode_17 : decode cX0_addCode 17 = .ok (.iload_n 1, 1) := by decide +kernel
theorem dX0_addCode_18 : decode cX0_addCode 18 = .ok (.i2c, 1) := by decide +kernel
theorem dX0_addCode_19 : decode cX0_addCode 19 = .ok (.castore, 1) := by decide +kernel
theorem dX0_addCode_20 : decode cX0_addCode 20 = .ok (.aload_n 0, 1) := by decide +kernel
theorem dX0_addCode_21 : decode cX0_addCode 21 = .ok (.dup, 1) := by decide +kernel
theorem dX0_addCode_22 : decode cX0_addCode 22 = .ok (.getfield 15, 3) := by decide +kernel
theorem dX0_addCode_25 : decode cX0_addCode 25 = .ok (.iconst 1, 1) := by decide +kernel
theorem dX0_addCode_26 : decode cX0_addCode 26 = .ok (.iadd, 1) := by decide +kernel
theorem dX0_addCode_27 : decode cX0_addCode 27 = .ok (.putfield 15, 3) := by decide +kernel
theorem dX0_addCode_30 : decode cX0_addCode 30 = .ok (.return_, 1) := by decide +kernel
theorem dX0_addPart_0 : decode cX0_addPart 0 = .ok (.iload_n 2, 1) := by decide +kernel
theorem dX0_addPart_1 : decode cX0_addPart 1 = .ok (.istore 4, 2) := by decide +kernel
theorem dX0_addPart_3 : decode cX0_addPart 3 = .ok (.iload 4, 2) := by decide +kernel
theorem dX0_addPart_5 : decode cX0_addPart 5 = .ok (.iload_n 3, 1) := by decide +kernel
theorem dX0_addPart_6 : decode cX0_addPart 6 = .ok (.if_icmp .ge 19, 3) := by decide +kernel
theorem dX0_addPart_9 : decode cX0_addPart 9 = .ok (.aload_n 0, 1) := by decide +kernel
theorem dX0_addPart_10 : decode cX0_addPart 10 = .ok (.aload_n 1, 1) := by decide +kernel
theorem dX0_addPart_11 : decode cX0_addPart 11 = .ok (.iload 4, 2) := by decide +kernel
theorem dX0_addPart_13 : decode cX0_addPart 13 = .ok (.invokevirtual 19, 3) := by decide +kernel
theorem dX0_addPart_16 : decode cX0_addPart 16 = .ok (.invokevirtual 23, 3) := by decide +kernel
theorem dX0_addPart_19 : decode cX0_addPart 19 = .ok (.iinc 4 1, 3) := by decide +kernel
theorem dX0_addPart_22 : decode cX0_addPart 22 = .ok (.goto (-19), 3) := by decide +kernel
theorem dX0_addPart_25 : decode cX0_addPart 25 = .ok (.return_, 1) := by decide +kernel
theorem dX0_addAll_0 : decode cX0_addAll 0 = .ok (.aload_n 0, 1) := by decide +kernel
theorem dX0_addAll_1 : decode cX0_addAll 1 = .ok (.aload_n 1, 1) := by decide +kernel
theorem dX0_addAll_2 : decode cX0_addAll 2 = .ok (.iconst 0, 1) := by decide +kernel
theorem dX0_addAll_3 : decode cX0_addAll 3 = .ok (.aload_n 1, 1) := by decide +kernel
theorem dX0_addAll_4 : decode cX0_addAll 4 = .ok (.invokevirtual 27, 3) := by decide +kernel
theorem dX0_addAll_7 : decode cX0_addAll 7 = .ok (.invokevirtual 31, 3) := by decide +kernel
theorem dX0_addAll_10 : decode cX0_addAll 10 = .ok (.return_, 1) := by decide +kernel
theorem dX0_become_0 : decode cX0_become 0 = .ok (.aload_n 0, 1) := by decide +kernel
theorem dX0_become_1 : decode cX0_become 1 = .ok (.aload_n 1, 1) := by decide +kernel
theorem dX0_become_2 : decode cX0_become 2 = .ok (.getfield 15, 3) := by decide +kernel
theorem dX0_become_5 : decode cX0_become 5 = .ok (.putfield 15, 3) := by decide +kernel
theorem dX0_become_8 : decode cX0_become 8 = .ok (.iconst 0, 1) := by decide +kernel
theorem dX0_become_9 : decode cX0_become 9 = .ok (.istore_n 2, 1) := by decide +kernel
theorem dX0_become_10 : decode cX0_become 10 = .ok (.iload_n 2, 1) := by decide +kernel
theorem dX0_become_11 : decode cX0_become 11 = .ok (.aload_n 0, 1) := by decide +kernel
theorem dX0_become_12 : decode cX0_become 12 = .ok (.getfield 15, 3) := by decide +kernel
theorem dX0_become_15 : decode cX0_become 15 = .ok (.if_icmp .ge 21, 3) := by decide +kernel
theorem dX0_become_18 : decode cX0_become 18 = .ok (.aload_n 0, 1) := by decide +kernel
theorem dX0_become_19 : decode cX0_become 19 = .ok (.getfield 9, 3) := by decide +kernel
theorem dX0_become_22 : decode cX0_become 22 = .ok (.iload_n 2, 1) := by decide +kernel
theorem dX0_become_23 : decode cX0_become 23 = .ok (.aload_n 1, 1) := by decide +kernel
theorem dX0_become_24 : decode cX0_become 24 = .ok (.getfield 9, 3) := by decide +kernel
theorem dX0_become_27 : decode cX0_become 27 = .ok (.iload_n 2, 1) := by decide +kernel
theorem dX0_become_28 : decode cX0_become 28 = .ok (.caload, 1) := by decide +kernel
theorem dX0_become_29 : decode cX0_become 29 = .ok (.castore, 1) := by decide +kernel
theorem dX0_become_30 : decode cX0_become 30 = .ok (.iinc 2 1, 3) := by decide +kernel
theorem dX0_become_33 : decode cX0_become 33 = .ok (.goto (-23), 3) := by decide +kernel
theorem dX0_become_36 : decode cX0_become 36 = .ok (.return_, 1) := by decide +kernel
abbrev rmX0_empty : Room := { frames := 1, cells := 0, slots := 0, locals := 20 }
theorem mX0_empty {l : Launch} {G : Cx} {A : Nat → Prop} {a ca : Nat} {t : List Nat} (hAa : A a) : Met l yX0_empty (.code yX0_empty cX0_empty 1 (none : Option Jvm.ClassFile.FieldType) :: GW) rmX0_empty (PC G A [.ref a] (LA G a ca t)) (qV A (LA G a ca [])) 0 0 (A) := by
  refine mstart "Signtext$Line" (by decide +kernel) rfl (Nat.le_of_ble_eq_true rfl) ?_
  intro p e s m below meth c ls hx hb hr hts hown hml hlocks hname hC hA hW hl
  have hl : lv_has ls 1 [(0, .ref a)] := hl
  have hK := hC.1
  have hS : va_S A s.heap s.heap [] := va_S.rf
  have hq9 := hW
  obtain ⟨t60, tok, tne, hO, f, hF, hf⟩ := hq9
  refine lv_aload_n hx hb dX0_empty_0 rfl (lv_at hl 0 rfl) ?_
  refine lv_iconst (v := nI 0) hx hb dX0_empty_1 (by decide) ?_
  refine h_put (D := G.1) (ci := 4) (C := RX0) (T := TX0) (N := 2) hx hb hts inX0 tyX0 tyX0_ok nmX0 hown hK hO hS hAa rfl 1 (by decide) (hts _ tw_1_45) (fun _ h9 => h9) rfl (tyX0_ok 1 (by decide)) rfl rfl (Nat.le_of_ble_eq_true rfl) dX0_empty_2 (fun H1 L1 hO z1 o1 hS => ?_)
  have hO : va_at G.1 vwCl (a, .inr (4, [.ref ca, .int (nI 0)])) H1 := hO
  have hF := at_o hF o1 (Ne.symm tne)
  have hZ1 := hS.1
  exact q_v hx hb hr hlocks dX0_empty_5 hS (Nat.le_refl _) (Nat.le_refl _) ⟨Nat.zero_le _, okc_nil, tne, hO, f, hF, fun j hj => absurd hj (Nat.not_lt_zero j)⟩

abbrev rmX0_change : Room := { frames := 1, cells := 0, slots := 0, locals := 20 }
theorem mX0_change {l : Launch} {G : Cx} {A : Nat → Prop} {a ca : Nat} {t : List Nat} {i k0 : Nat} (hAca : A ca) (hi : i < t.length) (hk0 : k0 < 256) : Met l yX0_change (.code yX0_change cX0_change 3 (none : Option Jvm.ClassFile.FieldType) :: GW) rmX0_change (PC G A [.ref a, .int (nI i), .int (nI k0)] (LA G a ca t)) (qV A (LA G a ca (t.set i k0))) 0 0 (A) := by
  refine mstart "Signtext$Line" (by decide +kernel) rfl (Nat.le_of_ble_eq_true rfl) ?_
  intro p e s m below meth c ls hx hb hr hts hown hml hlocks hname hC hA hW hl
  have hl : lv_has ls 3 [(0, .ref a), (1, .int (nI i)), (2, .int (nI k0))] := hl
  have hK := hC.1
  have hS : va_S A s.heap s.heap [] := va_S.rf
  have hq9 := hW
  obtain ⟨t60, tok, tne, hO, f, hF, hf⟩ := hq9
  refine lv_iload_n hx hb dX0_change_0 rfl (lv_at hl 1 rfl) ?_
  refine z_lt (tgt := 20) hx hb dX0_change_1 (by decide) (by omega) ?_
  refine lv_iload_n hx hb dX0_change_4 rfl (lv_at hl 1 rfl) ?_
  refine lv_aload_n hx hb dX0_change_5 rfl (lv_at hl 0 rfl) ?_
  refine va_get (D := G.1) (ci := 4) (C := RX0) (T := TX0) (N := 2) hx hb hts inX0 hown hK (at_P hO) 0 rfl rfl 1 (by decide) (hts _ tw_1_45) (fun _ h9 => h9) rfl dX0_change_6 ?_
  refine b_ge (tgt := 20) hx hb dX0_change_9 (by decide) (by omega) (by omega) (fun c_3 => ?_) (fun c_3 => ?_)
  · exact absurd c_3 (by omega)
  · refine lv_aload_n hx hb dX0_change_12 rfl (lv_at hl 0 rfl) ?_
    refine va_get (D := G.1) (ci := 4) (C := RX0) (T := TX0) (N := 2) hx hb hts inX0 hown hK (at_P hO) 0 rfl rfl 0 (by decide) (hts _ tw_1_44) (fun _ h9 => h9) rfl dX0_change_13 ?_
    refine lv_iload_n hx hb dX0_change_16 rfl (lv_at hl 1 rfl) ?_
    refine lv_iload_n hx hb dX0_change_17 rfl (lv_at hl 2 rfl) ?_
    refine lv_i2c hx hb dX0_change_18 (show _ = nI k0 from (chr_id (n := k0) (by omega))) ?_
    refine h_cst (D := G.1) hx hb hK 1 hF rfl hS hAca (vp_in_nI (n := i) (N := 60) (by omega) (by omega)) dX0_change_19 (fun H4 L4 hF z4 o4 hS => ?_)
    rw [nI_clamp (n := i) (by omega)] at hF
    have hO := at_o hO o4 tne
    have hZ4 := hS.1
    exact q_v hx hb hr hlocks dX0_change_20 hS (Nat.le_refl _) (Nat.le_refl _) (LA.put t60 tok hi hk0 tne hO hF hf)

abbrev rmX0_addCode : Room := { frames := 1, cells := 0, slots := 0, locals := 20 }
theorem mX0_addCode {l : Launch} {G : Cx} {A : Nat → Prop} {a ca : Nat} {t : List Nat} {k0 : Nat} (hAa : A a) (hAca : A ca) (hk0 : k0 < 256) : Met l yX0_addCode (.code yX0_addCode cX0_addCode 2 (none : Option Jvm.ClassFile.FieldType) :: GW) rmX0_addCode (PC G A [.ref a, .int (nI k0)] (LA G a ca t)) (qV A (LA G a ca ((t ++ [k0]).take 60))) 0 0 (A) := by
  refine mstart "Signtext$Line" (by decide +kernel) rfl (Nat.le_of_ble_eq_true rfl) ?_
  intro p e s m below meth c ls hx hb hr hts hown hml hlocks hname hC hA hW hl
  have hl : lv_has ls 2 [(0, .ref a), (1, .int (nI k0))] := hl
  have hK := hC.1
  have hS : va_S A s.heap s.heap [] := va_S.rf
  have hW0 := hW
  have hq9 := hW
  obtain ⟨t60, tok, tne, hO, f, hF, hf⟩ := hq9
  refine lv_aload_n hx hb dX0_addCode_0 rfl (lv_at hl 0 rfl) ?_
  refine va_get (D := G.1) (ci := 4) (C := RX0) (T := TX0) (N := 2) hx hb hts inX0 hown hK (at_P hO) 0 rfl rfl 1 (by decide) (hts _ tw_1_45) (fun _ h9 => h9) rfl dX0_addCode_1 ?_
  refine lv_bipush (v := nI 60) hx hb dX0_addCode_4 (by decide) ?_
  refine b_ge (tgt := 30) hx hb dX0_addCode_6 (by decide) (by omega) (by omega) (fun c_5 => ?_) (fun c_5 => ?_)
  · exact q_v hx hb hr hlocks dX0_addCode_30 hS (Nat.le_refl _) (Nat.le_refl _) (by rw [take_full (by omega)]; exact hW0)
  · refine lv_aload_n hx hb dX0_addCode_9 rfl (lv_at hl 0 rfl) ?_
    refine va_get (D := G.1) (ci := 4) (C := RX0) (T := TX0) (N := 2) hx hb hts inX0 hown hK (at_P hO) 0 rfl rfl 0 (by decide) (hts _ tw_1_44) (fun _ h9 => h9) rfl dX0_addCode_10 ?_
    refine lv_aload_n hx hb dX0_addCode_13 rfl (lv_at hl 0 rfl) ?_
    refine va_get (D := G.1) (ci := 4) (C := RX0) (T := TX0) (N := 2) hx hb hts inX0 hown hK (at_P hO) 0 rfl rfl 1 (by decide) (hts _ tw_1_45) (fun _ h9 => h9) rfl dX0_addCode_14 ?_
    refine lv_iload_n hx hb dX0_addCode_17 rfl (lv_at hl 1 rfl) ?_
    refine lv_i2c hx hb dX0_addCode_18 (show _ = nI k0 from (chr_id (n := k0) (by omega))) ?_
    refine h_cst (D := G.1) hx hb hK 1 hF rfl hS hAca (vp_in_nI (n := t.length) (N := 60) (by omega) (by omega)) dX0_addCode_19 (fun H6 L6 hF z6 o6 hS => ?_)
    rw [nI_clamp (n := t.length) (by omega)] at hF
    have hO := at_o hO o6 tne
    have hZ6 := hS.1
    refine lv_aload_n hx hb dX0_addCode_20 rfl (lv_at hl 0 rfl) ?_
    refine lv_dup hx hb dX0_addCode_21 rfl ?_
    refine va_get (D := G.1) (ci := 4) (C := RX0) (T := TX0) (N := 2) hx hb hts inX0 hown hK (at_P hO) 0 rfl rfl 1 (by decide) (hts _ tw_1_45) (fun _ h9 => h9) rfl dX0_addCode_22 ?_
    refine lv_iconst (v := nI 1) hx hb dX0_addCode_25 (by decide) ?_
    refine lv_iadd hx hb dX0_addCode_26 ?_
    refine lv_cv (nI_add t.length 1) ?_
    refine h_put (D := G.1) (ci := 4) (C := RX0) (T := TX0) (N := 2) hx hb hts inX0 tyX0 tyX0_ok nmX0 hown hK hO hS hAa rfl 1 (by decide) (hts _ tw_1_45) (fun _ h9 => h9) rfl (tyX0_ok 1 (by decide)) rfl rfl (Nat.le_of_ble_eq_true rfl) dX0_addCode_27 (fun H7 L7 hO z7 o7 hS => ?_)
    have hO : va_at G.1 vwCl (a, .inr (4, [.ref ca, .int (nI (t.length + 1))])) H7 := hO
    have hF := at_o hF o7 (Ne.symm tne)
    have hZ7 := hS.1
    exact q_v hx hb hr hlocks dX0_addCode_30 hS (Nat.le_refl _) (Nat.le_refl _) (by rw [take_room c_5]; exact LA.push c_5 tok hk0 tne hO hF hf)

abbrev rmX0_become : Room := { frames := 1, cells := 0, slots := 0, locals := 20 }
theorem mX0_become {l : Launch} {G : Cx} {A : Nat → Prop} {a ca b cb : Nat} {t u : List Nat} (hAa : A a) (hAca : A ca) (hd : b ≠ a ∧ b ≠ ca ∧ cb ≠ a ∧ cb ≠ ca) : Met l yX0_become (.code yX0_become cX0_become 3 (none : Option Jvm.ClassFile.FieldType) :: GW) rmX0_become (PC G A [.ref a, .ref b] (fun H => LA G a ca t H ∧ LA G b cb u H)) (qV A (fun H => LA G a ca u H ∧ LA G b cb u H)) 0 0 (A) := by
  refine mstart "Signtext$Line" (by decide +kernel) rfl (Nat.le_of_ble_eq_true rfl) ?_
  intro p e s m below meth c ls hx hb hr hts hown hml hlocks hname hC hA hW hl
  have hl : lv_has ls 3 [(0, .ref a), (1, .ref b)] := hl
  have hK := hC.1
  have hS : va_S A s.heap s.heap [] := va_S.rf
  obtain ⟨hWa, hWb⟩ := hW
  obtain ⟨d1, d2, d3, d4⟩ := hd
  have hq9 := hWa
  obtain ⟨t60, tok, tne, hO, f, hF, hf⟩ := hq9
  have hq9 := hWb
  obtain ⟨t60u, toku, tneu, hOu, fu, hFu, hfu⟩ := hq9
  refine lv_aload_n hx hb dX0_become_0 rfl (lv_at hl 0 rfl) ?_
  refine lv_aload_n hx hb dX0_become_1 rfl (lv_at hl 1 rfl) ?_
  refine va_get (D := G.1) (ci := 4) (C := RX0) (T := TX0) (N := 2) hx hb hts inX0 hown hK (at_P hOu) 0 rfl rfl 1 (by decide) (hts _ tw_1_45) (fun _ h9 => h9) rfl dX0_become_2 ?_
  refine h_put (D := G.1) (ci := 4) (C := RX0) (T := TX0) (N := 2) hx hb hts inX0 tyX0 tyX0_ok nmX0 hown hK hO hS hAa rfl 1 (by decide) (hts _ tw_1_45) (fun _ h9 => h9) rfl (tyX0_ok 1 (by decide)) rfl rfl (Nat.le_of_ble_eq_true rfl) dX0_become_5 (fun H8 L8 hO z8 o8 hS => ?_)
  have hO : va_at G.1 vwCl (a, .inr (4, [.ref ca, .int (nI u.length)])) H8 := hO
  have hOu := at_o hOu o8 d1
  have hF := at_o hF o8 (Ne.symm tne)
  have hFu := at_o hFu o8 d3
  have hZ8 := hS.1
  refine lv_iconst (v := nI 0) hx hb dX0_become_8 (by decide) ?_
  refine lv_istore_n (lv' := [(2, .int (nI 0)), (0, .ref a), (1, .ref b)]) hx hb dX0_become_9 rfl hl (by decide) rfl (fun ls hl => ?_)
  refine nloop (P := fun j => ∀ (ls : Array Slot) (H : Heap) (L : List Loc) (f : Nat → Int32), lv_has ls 3 [(2, .int (nI j)), (0, .ref a), (1, .ref b)] → va_S A s.heap H L → va_at G.1 vwCl (a, .inr (4, [.ref ca, .int (nI u.length)])) H → va_at G.1 vwCl (ca, .inl (G.2.1 1, 60, .inl f)) H → (∀ k : Nat, k < j → f k = nI (u.getD k 0)) → va_at G.1 vwCl (b, .inr (4, [.ref cb, .int (nI u.length)])) H → va_at G.1 vwCl (cb, .inl (G.2.1 1, 60, .inl fu)) H → W p l e rmX0_become s m [.ref a, .ref b].toArray below meth c H L 0 0 (MQ below (qV A (fun H => LA G a ca u H ∧ LA G b cb u H)) [.ref a, .ref b].toArray s 0 0 (A)) (F0 m 10 ls [])) u.length ?_ 0 (Nat.zero_le _) ls H8 L8 f hl hS hO hF (fun k hk => absurd hk (Nat.not_lt_zero k)) hOu hFu
  clear hl
  intro j hj ih ls H L f hl
  clear hS hO hF hf hOu hFu
  intro hS hO hF hf hOu hFu
  refine lv_iload_n hx hb dX0_become_10 rfl (lv_at hl 0 rfl) ?_
  refine lv_aload_n hx hb dX0_become_11 rfl (lv_at hl 1 rfl) ?_
  refine va_get (D := G.1) (ci := 4) (C := RX0) (T := TX0) (N := 2) hx hb hts inX0 hown hK (at_P hO) 0 rfl rfl 1 (by decide) (hts _ tw_1_45) (fun _ h9 => h9) rfl dX0_become_12 ?_
  refine b_ge (tgt := 36) hx hb dX0_become_15 (by decide) (by omega) (by omega) (fun c_9 => ?_) (fun c_9 => ?_)
  · exact q_v hx hb hr hlocks dX0_become_36 hS (Nat.le_refl _) (Nat.le_refl _) ⟨⟨t60u, toku, tne, hO, f, hF, fun k hk => hf k (by omega)⟩, ⟨t60u, toku, tneu, hOu, fu, hFu, hfu⟩⟩
  · refine lv_aload_n hx hb dX0_become_18 rfl (lv_at hl 1 rfl) ?_
    refine va_get (D := G.1) (ci := 4) (C := RX0) (T := TX0) (N := 2) hx hb hts inX0 hown hK (at_P hO) 0 rfl rfl 0 (by decide) (hts _ tw_1_44) (fun _ h9 => h9) rfl dX0_become_19 ?_
    refine lv_iload_n hx hb dX0_become_22 rfl (lv_at hl 0 rfl) ?_
    refine lv_aload_n hx hb dX0_become_23 rfl (lv_at hl 2 rfl) ?_
    refine va_get (D := G.1) (ci := 4) (C := RX0) (T := TX0) (N := 2) hx hb hts inX0 hown hK (at_P hOu) 0 rfl rfl 0 (by decide) (hts _ tw_1_44) (fun _ h9 => h9) rfl dX0_become_24 ?_
    refine lv_iload_n hx hb dX0_become_27 rfl (lv_at hl 0 rfl) ?_
    refine va_cald hx hb hK (at_P hFu) 0 1 rfl rfl (vp_in_nI (n := j) (N := 60) (by omega) (by omega)) dX0_become_28 ?_
    refine lv_cv (show _ = nI (u.getD j 0) from by rw [nI_clamp (by omega)]; exact hfu _ (by omega)) ?_
    have tokj := toku j
    refine h_cst (D := G.1) hx hb hK 1 hF rfl hS hAca (vp_in_nI (n := j) (N := 60) (by omega) (by omega)) dX0_become_29 (fun H10 L10 hF z10 o10 hS => ?_)
    rw [nI_clamp (n := j) (by omega)] at hF
    have hO := at_o hO o10 tne
    have hOu := at_o hOu o10 d2
    have hFu := at_o hFu o10 d4
    have hZ10 := hS.1
    refine lv_iinc (v := nI (j + 1)) (lv' := [(2, .int (nI (j + 1))), (0, .ref a), (1, .ref b)]) hx hb dX0_become_30 hl (k := 0) rfl (nI_add j 1) (by decide) rfl (fun ls hl => ?_)
    refine lv_goto (tgt := 10) hx hb dX0_become_33 (by decide) ?_
    exact ih (j + 1) (by omega) (by omega) ls H10 L10 _ hl hS hO hF (fun k hk => by rcases Nat.lt_succ_iff_lt_or_eq.mp hk with q | q; rw [pk_un (by omega)]; exact hf k q; rw [q, pk_us, nar_char (by omega)]) hOu hFu

abbrev rmX0_addPart : Room := { frames := 2, cells := 0, slots := 0, locals := 41 }
theorem mX0_addPart {l : Launch} {G : Cx} {A : Nat → Prop} {a ca b cb : Nat} {t u : List Nat} {i i2 : Nat} (hAa : A a) (hAca : A ca) (hd : b ≠ a ∧ b ≠ ca ∧ cb ≠ a ∧ cb ≠ ca) (hi : i ≤ i2) (hi2 : i2 ≤ u.length) : Met l yX0_addPart (.code yX0_addPart cX0_addPart 5 (none : Option Jvm.ClassFile.FieldType) :: GW) rmX0_addPart (PC G A [.ref a, .ref b, .int (nI i), .int (nI i2)] (fun H => LA G a ca t H ∧ LA G b cb u H)) (qV A (fun H => LA G a ca ((t ++ cutL u i i2).take 60) H ∧ LA G b cb u H)) 0 0 (A) := by
  refine mstart "Signtext$Line" (by decide +kernel) rfl (Nat.le_of_ble_eq_true rfl) ?_
  intro p e s m below meth c ls hx hb hr hts hown hml hlocks hname hC hA hW hl
  have hl : lv_has ls 5 [(0, .ref a), (1, .ref b), (2, .int (nI i)), (3, .int (nI i2))] := hl
  have hK := hC.1
  have hS : va_S A s.heap s.heap [] := va_S.rf
  obtain ⟨hWa, hWb⟩ := hW
  have t60 := hWa.1
  have u60 := hWb.1
  have uok := hWb.2.1
  obtain ⟨d1, d2, d3, d4⟩ := hd
  refine lv_iload_n hx hb dX0_addPart_0 rfl (lv_at hl 2 rfl) ?_
  refine lv_istore (lv' := [(4, .int (nI i)), (0, .ref a), (1, .ref b), (2, .int (nI i)), (3, .int (nI i2))]) hx hb dX0_addPart_1 hl (by decide) rfl (fun ls hl => ?_)
  refine nloop (P := fun j => ∀ (ls : Array Slot) (H : Heap) (L : List Loc), lv_has ls 5 [(4, .int (nI j)), (0, .ref a), (1, .ref b), (2, .int (nI i)), (3, .int (nI i2))] → va_S A s.heap H L → LA G a ca ((t ++ cutL u i j).take 60) H → LA G b cb u H → i ≤ j → W p l e rmX0_addPart s m [.ref a, .ref b, .int (nI i), .int (nI i2)].toArray below meth c H L 0 0 (MQ below (qV A (fun H => LA G a ca ((t ++ cutL u i i2).take 60) H ∧ LA G b cb u H)) [.ref a, .ref b, .int (nI i), .int (nI i2)].toArray s 0 0 (A)) (F0 m 3 ls [])) i2 ?_ i hi ls s.heap [] hl hS (by rw [cutL_nil, List.append_nil, List.take_of_length_le t60]; exact hWa) hWb (Nat.le_refl _)
  clear hl
  intro j hj ih ls H L hl
  clear hS hWa hWb
  intro hS hWa hWb hij
  have hZ0 := hS.1
  refine lv_iload hx hb dX0_addPart_3 (lv_at hl 0 rfl) ?_
  refine lv_iload_n hx hb dX0_addPart_5 rfl (lv_at hl 4 rfl) ?_
  refine b_ge (tgt := 25) hx hb dX0_addPart_6 (by decide) (by omega) (by omega) (fun c_11 => ?_) (fun c_11 => ?_)
  · obtain rfl : j = i2 := by omega
    exact q_v hx hb hr hlocks dX0_addPart_25 hS (Nat.le_refl _) (Nat.le_refl _) ⟨hWa, hWb⟩
  · refine lv_aload_n hx hb dX0_addPart_9 rfl (lv_at hl 1 rfl) ?_
    refine lv_aload_n hx hb dX0_addPart_10 rfl (lv_at hl 2 rfl) ?_
    refine lv_iload hx hb dX0_addPart_11 (lv_at hl 0 rfl) ?_
    refine kV_i (A := A) (b := b) (As := [.int (nI j)]) (rest := .ref a :: []) ⟨hx, hb, hml, hown, hts⟩ (mX0_codeAt (A := A) (ca := cb) (i := j) (by omega)) (cwV 1 hts (gV tw_2_19 tw_2_20 tw_2_21 tw_1_2 tw_2_22) rfl rfl rfl (by decide +kernel) ⟨Nat.le_of_ble_eq_true rfl, Nat.le_of_ble_eq_true rfl⟩) hC hS hA (hWb.recv hK) hWb rfl rfl hl.1 (Nat.le_of_ble_eq_true rfl) ⟨Nat.zero_le _, Nat.zero_le _⟩ dX0_addPart_13 (fun r9 h9 => lv_cv h9 ?_)
    refine qV_V (A := A) (A1 := ow a ca H.size) (b := a) (As := [.int (nI (u.getD j 0))]) (rest := []) ⟨hx, hb, hml, hown, hts⟩ (mX0_addCode (A := ow a ca H.size) (ca := ca) (k0 := u.getD j 0) (Or.inl rfl) (Or.inr (Or.inl rfl)) (uok j)) (cwV 1 hts (gV tw_1_133 tw_1_134 tw_1_135 tw_1_2 tw_1_136) rfl rfl rfl (by decide +kernel) ⟨Nat.le_of_ble_eq_true rfl, Nat.le_of_ble_eq_true rfl⟩) hC hS (ow_in hAa hAca hA hZ0) ow_n (hWa.recv hK) hWa rfl rfl hl.1 (Nat.le_of_ble_eq_true rfl) ⟨Nat.zero_le _, Nat.zero_le _⟩ dX0_addPart_16 (fun H12 L12 hP12 hk12 hS => ?_)
    have hZ12 := hS.1
    have hWb := hWb.kp hk12 (ow_no d1 d2 hWb.lt.1) (ow_no d3 d4 hWb.lt.2)
    refine lv_iinc (v := nI (j + 1)) (lv' := [(4, .int (nI (j + 1))), (0, .ref a), (1, .ref b), (2, .int (nI i)), (3, .int (nI i2))]) hx hb dX0_addPart_19 hl (k := 0) rfl (nI_add j 1) (by decide) rfl (fun ls hl => ?_)
    refine lv_goto (tgt := 3) hx hb dX0_addPart_22 (by decide) ?_
    exact ih (j + 1) (by omega) (by omega) ls H12 L12 hl hS (by rw [cutL_succ hij (by omega), ← List.append_assoc, ← take_take60]; exact hP12) hWb (by omega)

abbrev rmX0_addAll : Room := { frames := 3, cells := 0, slots := 0, locals := 65 }
theorem mX0_addAll {l : Launch} {G : Cx} {A : Nat → Prop} {a ca b cb : Nat} {t u : List Nat} (hAa : A a) (hAca : A ca) (hd : b ≠ a ∧ b ≠ ca ∧ cb ≠ a ∧ cb ≠ ca) : Met l yX0_addAll (.code yX0_addAll cX0_addAll 2 (none : Option Jvm.ClassFile.FieldType) :: GW) rmX0_addAll (PC G A [.ref a, .ref b] (fun H => LA G a ca t H ∧ LA G b cb u H)) (qV A (fun H => LA G a ca ((t ++ u).take 60) H ∧ LA G b cb u H)) 0 0 (A) := by
  refine mstart "Signtext$Line" (by decide +kernel) rfl (Nat.le_of_ble_eq_true rfl) ?_
  intro p e s m below meth c ls hx hb hr hts hown hml hlocks hname hC hA hW hl
  have hl : lv_has ls 2 [(0, .ref a), (1, .ref b)] := hl
  have hK := hC.1
  have hS : va_S A s.heap s.heap [] := va_S.rf
  obtain ⟨hWa, hWb⟩ := hW
  refine lv_aload_n hx hb dX0_addAll_0 rfl (lv_at hl 0 rfl) ?_
  refine lv_aload_n hx hb dX0_addAll_1 rfl (lv_at hl 1 rfl) ?_
  refine lv_iconst (v := nI 0) hx hb dX0_addAll_2 (by decide) ?_
  refine lv_aload_n hx hb dX0_addAll_3 rfl (lv_at hl 1 rfl) ?_
  refine kV_i (A := A) (b := b) (As := []) (rest := .int (nI 0) :: .ref b :: .ref a :: []) ⟨hx, hb, hml, hown, hts⟩ (mX0_size (A := A) (ca := cb)) (cwV 0 hts (gV tw_2_11 tw_2_12 tw_2_13 tw_1_2 tw_2_14) rfl rfl rfl (by decide +kernel) ⟨Nat.le_of_ble_eq_true rfl, Nat.le_of_ble_eq_true rfl⟩) hC hS hA (hWb.recv hK) hWb rfl rfl hl.1 (Nat.le_of_ble_eq_true rfl) ⟨Nat.zero_le _, Nat.zero_le _⟩ dX0_addAll_4 (fun r9 h9 => lv_cv h9 ?_)
  refine qV_V (A := A) (A1 := ow a ca s.heap.size) (b := a) (As := [.ref b, .int (nI 0), .int (nI u.length)]) (rest := []) ⟨hx, hb, hml, hown, hts⟩ (mX0_addPart (A := ow a ca s.heap.size) (ca := ca) (cb := cb) (t := t) (u := u) (i := 0) (i2 := u.length) (Or.inl rfl) (Or.inr (Or.inl rfl)) hd (Nat.zero_le _) (Nat.le_refl _)) (cwV 3 hts (gV tw_3_58 tw_2_36 tw_2_37 tw_1_2 tw_2_38) rfl rfl rfl (by decide +kernel) ⟨Nat.le_of_ble_eq_true rfl, Nat.le_of_ble_eq_true rfl⟩) hC hS (ow_in hAa hAca hA (Nat.le_refl _)) ow_n (hWa.recv hK) ⟨hWa, hWb⟩ rfl rfl hl.1 (Nat.le_of_ble_eq_true rfl) ⟨Nat.zero_le _, Nat.zero_le _⟩ dX0_addAll_7 (fun H13 L13 hP13 hk13 hS => ?_)
  have hZ13 := hS.1
  rw [cutL_all] at hP13
  exact q_v hx hb hr hlocks dX0_addAll_10 hS (Nat.le_refl _) (Nat.le_refl _) hP13

abbrev rmX0_init : Room := { frames := 1, cells := 1, slots := 60, locals := 20 }
theorem mX0_init {l : Launch} {G : Cx} {A : Nat → Prop} {a sz : Nat} (hAa : A a) : Met l yX0_init (.code yX0_init cX0_init 1 (none : Option Jvm.ClassFile.FieldType) :: GW) rmX0_init (PC G A [.ref a] (fun H => H.size = sz ∧ va_at G.1 vwCl (a, .inr (4, [.null, .int 0])) H)) (qV A (fun H => ∃ ca, sz ≤ ca ∧ H.size = sz + 1 ∧ LA G a ca [] H)) 1 60 (A) := by
  refine mstart "Signtext$Line" (by decide +kernel) rfl (Nat.le_of_ble_eq_true rfl) ?_
  intro p e s m below meth c ls hx hb hr hts hown hml hlocks hname hC hA hW hl
  have hl : lv_has ls 1 [(0, .ref a)] := hl
  have hK := hC.1
  have hS : va_S A s.heap s.heap [] := va_S.rf
  obtain ⟨hsz, hO⟩ := hW
  refine lv_aload_n hx hb dX0_init_0 rfl (lv_at hl 0 rfl) ?_
  refine W.objInit hx hb hown (hts _ tw_1_43) (hts _ tw_1_35) (hts _ tw_1_36) rfl (by rw [hml]; exact hl.1) rfl dX0_init_1 (Nat.le_of_ble_eq_true rfl) (Nat.le_of_ble_eq_true rfl) ?_
  refine W.eq (g2 := F0 m 4 ls []) rfl ?_
  refine lv_aload_n hx hb dX0_init_4 rfl (lv_at hl 0 rfl) ?_
  refine lv_bipush (v := nI 60) hx hb dX0_init_5 (by decide) ?_
  refine h_newa (D := G.1) (atype := .char) (N := 60) (z := (60, .inl (fun _ => 0))) hx hb (hts _ tw_1_51) rfl (fun h => h) hK 1 rfl hS rfl (by decide) (by decide) (Nat.le_of_ble_eq_true rfl) (Nat.le_of_ble_eq_true rfl) (Nat.le_of_ble_eq_true rfl) dX0_init_7 (fun ca H1 hca hF z1 o1 hS => ?_)
  have nac : a ≠ ca := fun q => absurd hO.lt (by rw [q, hca]; exact Nat.lt_irrefl _)
  have hO := at_n hO o1
  refine h_putF (D := G.1) (ci := 4) (C := RX0) (T := TX0) (N := 2) hx hb hts inX0 tyX0 tyX0_ok nmX0 hown hK hO hS hAa rfl 0 (by decide) (hts _ tw_1_44) (fun _ h9 => h9) rfl hname rfl (tyX0_ok 0 (by decide)) rfl rfl (Nat.le_of_ble_eq_true rfl) dX0_init_9 (fun H14 L14 hO z14 o14 hS => ?_)
  have hO : va_at G.1 vwCl (a, .inr (4, [.ref ca, .int (nI 0)])) H14 := hO
  have hF := at_o hF o14 (Ne.symm nac)
  have hZ14 := hS.1
  refine lv_aload_n hx hb dX0_init_12 rfl (lv_at hl 0 rfl) ?_
  refine lv_iconst (v := nI 0) hx hb dX0_init_13 (by decide) ?_
  refine h_put (D := G.1) (ci := 4) (C := RX0) (T := TX0) (N := 2) hx hb hts inX0 tyX0 tyX0_ok nmX0 hown hK hO hS hAa rfl 1 (by decide) (hts _ tw_1_45) (fun _ h9 => h9) rfl (tyX0_ok 1 (by decide)) rfl rfl (Nat.le_of_ble_eq_true rfl) dX0_init_14 (fun H15 L15 hO z15 o15 hS => ?_)
  have hO : va_at G.1 vwCl (a, .inr (4, [.ref ca, .int (nI 0)])) H15 := hO
  have hF := at_o hF o15 (Ne.symm nac)
  have hZ15 := hS.1
  exact q_v hx hb hr hlocks dX0_init_17 hS (by omega) (by omega) ⟨ca, by rw [hca, hsz]; exact Nat.le_refl _, by rw [z15, z14, z1, hsz], Nat.zero_le _, okc_nil, nac, hO, _, hF, fun j hj => absurd hj (Nat.not_lt_zero j)⟩
