/-! Line, 1: the readers' leaves -/
def goesN (b : Bool) (c : Nat) : Bool := if b then c == 32 || c == 9 || c == 10 || c == 28 else decide (c ≤ 32)
def litN (c : Nat) : Nat := if c = 65 ∨ c = 66 ∨ c = 67 ∨ c = 88 ∨ c = 201 then c + 32 else c
def viewN (b : Bool) (c : Nat) : Nat := if b then litN c else c
theorem viewN_lt {b : Bool} {c : Nat} (h : c < 256) : viewN b c < 300 := by unfold viewN litN; split <;> try split
                                                                            all_goals omega
theorem sw_seen {c : Nat} (h1 : ¬ c = 65) (h2 : ¬ c = 66) (h3 : ¬ c = 67) (h4 : ¬ c = 88) (h5 : ¬ c = 201) : lookupswitch.offset (#[(65, 49), (66, 52), (67, 55), (88, 58), (201, 61)] : Array (Int × Int)).toList 65 (c : Int) = 65 := by
  simp [lookupswitch.offset, List.find?]
  simp [show ¬ (65 : Int) = (c : Int) by omega, show ¬ (66 : Int) = (c : Int) by omega, show ¬ (67 : Int) = (c : Int) by omega, show ¬ (88 : Int) = (c : Int) by omega, show ¬ (201 : Int) = (c : Int) by omega]
def hashL (t : List Nat) : Int32 := t.foldl (fun h c => nI 31 * h + nI c) 0
theorem hashL_succ {t : List Nat} {j : Nat} (h : j < t.length) : hashL (t.take (j + 1)) = nI 31 * hashL (t.take j) + nI (t.getD j 0) := by
  unfold hashL
  rw [List.take_add_one, List.getElem?_eq_getElem h, List.foldl_append, List.getD_eq_getElem?_getD, List.getElem?_eq_getElem h]
  rfl
/-- how many go at the begin -/
def tbL (b : Bool) : List Nat → Nat
  | [] => 0
  | c :: t => if goesN b c then tbL b t + 1 else 0
theorem tbL_le (b : Bool) (t : List Nat) : tbL b t ≤ t.length := by
  induction t with
  | nil => exact Nat.le_refl _
  | cons c t ih => unfold tbL; split <;> simp <;> omega
theorem tbL_eq {b : Bool} {t : List Nat} {j : Nat} (h : j ≤ t.length) (hg : ∀ k : Nat, k < j → goesN b (t.getD k 0) = true) (hn : j < t.length → goesN b (t.getD j 0) = false) : nI j = nI (tbL b t) := by
  suffices h9 : j = tbL b t by rw [h9]
  induction t generalizing j with
  | nil => exact Nat.le_zero.mp h
  | cons c t ih =>
    unfold tbL
    cases j with
    | zero =>
      have := hn (by simp)
      rw [if_neg]
      intro q
      rw [List.getD_cons_zero] at this
      rw [q] at this; cases this
    | succ j =>
      have h0 := hg 0 (Nat.succ_pos _)
      rw [List.getD_cons_zero] at h0
      rw [if_pos h0]
      congr 1
      refine ih (by simpa using h) (fun k hk => ?_) (fun hk => ?_)
      · have := hg (k + 1) (by omega)
        rwa [List.getD_cons_succ] at this
      · have := hn (by simpa using hk)
        rwa [List.getD_cons_succ] at this
theorem dX0_size_0 : decode cX0_size 0 = .ok (.aload_n 0, 1) := by decide +kernel
theorem dX0_size_1 : decode cX0_size 1 = .ok (.getfield 15, 3) := by decide +kernel
theorem dX0_size_4 : decode cX0_size 4 = .ok (.ireturn, 1) := by decide +kernel
theorem dX0_codeAt_0 : decode cX0_codeAt 0 = .ok (.iload_n 1, 1) := by decide +kernel
theorem dX0_codeAt_1 : decode cX0_codeAt 1 = .ok (.ifCond .lt 20, 3) := by decide +kernel
theorem dX0_codeAt_4 : decode cX0_codeAt 4 = .ok (.iload_n 1, 1) := by decide +kernel
theorem dX0_codeAt_5 : decode cX0_codeAt 5 = .ok (.aload_n 0, 1) := by decide +kernel
theorem dX0_codeAt_6 : decode cX0_codeAt 6 = .ok (.getfield 15, 3) := by decide +kernel
theorem dX0_codeAt_9 : decode cX0_codeAt 9 = .ok (.if_icmp .ge 12, 3) := by decide +kernel
theorem dX0_codeAt_12 : decode cX0_codeAt 12 = .ok (.aload_n 0, 1) := by decide +kernel
theorem dX0_codeAt_13 : decode cX0_codeAt 13 = .ok (.getfield 9, 3) := by decide +kernel
theorem dX0_codeAt_16 : decode cX0_codeAt 16 = .ok (.iload_n 1, 1) := by decide +kernel
theorem dX0_codeAt_17 : decode cX0_codeAt 17 = .ok (.caload, 1) := by decide +kernel
theorem dX0_codeAt_18 : decode cX0_codeAt 18 = .ok (.goto 4, 3) := by decide +kernel
theorem dX0_codeAt_21 : decode cX0_codeAt 21 = .ok (.iconst (-1), 1) := by decide +kernel
theorem dX0_codeAt_22 : decode cX0_codeAt 22 = .ok (.ireturn, 1) := by decide +kernel
theorem dX0_hashOfSigns_0 : decode cX0_hashOfSigns 0 = .ok (.iconst 0, 1) := by decide +kernel
theorem dX0_hashOfSigns_1 : decode cX0_hashOfSigns 1 = .ok (.istore_n 1, 1) := by decide +kernel
theorem dX0_hashOfSigns_2 : decode cX0_hashOfSigns 2 = .ok (.iconst 0, 1) := by decide +kernel
theorem dX0_hashOfSigns_3 : decode cX0_hashOfSigns 3 = .ok (.istore_n 2, 1) := by decide +kernel
theorem dX0_hashOfSigns_4 : decode cX0_hashOfSigns 4 = .ok (.iload_n 2, 1) := by decide +kernel
theorem dX0_hashOfSigns_5 : decode cX0_hashOfSigns 5 = .ok (.aload_n 0, 1) := by decide +kernel
theorem dX0_hashOfSigns_6 : decode cX0_hashOfSigns 6 = .ok (.getfield 15, 3) := by decide +kernel
theorem dX0_hashOfSigns_9 : decode cX0_hashOfSigns 9 = .ok (.if_icmp .ge 21, 3) := by decide +kernel
theorem dX0_hashOfSigns_12 : decode cX0_hashOfSigns 12 = .ok (.bipush 31, 2) := by decide +kernel
theorem dX0_hashOfSigns_14 : decode cX0_hashOfSigns 14 = .ok (.iload_n 1, 1) := by decide +kernel
theorem dX0_hashOfSigns_15 : decode cX0_hashOfSigns 15 = .ok (.imul, 1) := by decide +kernel
theorem dX0_hashOfSigns_16 : decode cX0_hashOfSigns 16 = .ok (.aload_n 0, 1) := by decide +kernel
theorem dX0_hashOfSigns_17 : decode cX0_hashOfSigns 17 = .ok (.getfield 9, 3) := by decide +kernel
theorem dX0_hashOfSigns_20 : decode cX0_hashOfSigns 20 = .ok (.iload_n 2, 1) := by decide +kernel
theorem dX0_hashOfSigns_21 : decode cX0_hashOfSigns 21 = .ok (.caload, 1) := by decide +kernel
theorem dX0_hashOfSigns_22 : decode cX0_hashOfSigns 22 = .ok (.iadd, 1) := by decide +kernel
theorem dX0_hashOfSigns_23 : decode cX0_hashOfSigns 23 = .ok (.istore_n 1, 1) := by decide +kernel
theorem dX0_hashOfSigns_24 : decode cX0_hashOfSigns 24 = .ok (.iinc 2 1, 3) := by decide +kernel
theorem dX0_hashOfSigns_27 : decode cX0_hashOfSigns 27 = .ok (.goto (-23), 3) := by decide +kernel
theorem dX0_hashOfSigns_30 : decode cX0_hashOfSigns 30 = .ok (.iload_n 1, 1) := by decide +kernel
theorem dX0_hashOfSigns_31 : decode cX0_hashOfSigns 31 = .ok (.ireturn, 1) := by decide +kernel
theorem dX0_trimmedBegin_0 : decode cX0_trimmedBegin 0 = .ok (.iconst 0, 1) := by decide +kernel
theorem dX0_trimmedBegin_1 : decode cX0_trimmedBegin 1 = .ok (.istore_n 2, 1) := by decide +kernel
theorem dX0_trimmedBegin_2 : decode cX0_trimmedBegin 2 = .ok (.iload_n 2, 1) := by decide +kernel
theorem dX0_trimmedBegin_3 : decode cX0_trimmedBegin 3 = .ok (.aload_n 0, 1) := by decide +kernel
theorem dX0_trimmedBegin_4 : decode cX0_trimmedBegin 4 = .ok (.getfield 15, 3) := by decide +kernel
theorem dX0_trimmedBegin_7 : decode cX0_trimmedBegin 7 = .ok (.if_icmp .ge 22, 3) := by decide +kernel
theorem dX0_trimmedBegin_10 : decode cX0_trimmedBegin 10 = .ok (.aload_n 0, 1) := by decide +kernel
theorem dX0_trimmedBegin_11 : decode cX0_trimmedBegin 11 = .ok (.getfield 9, 3) := by decide +kernel
theorem dX0_trimmedBegin_14 : decode cX0_trimmedBegin 14 = .ok (.iload_n 2, 1) := by decide +kernel
theorem dX0_trimmedBegin_15 : decode cX0_trimmedBegin 15 = .ok (.caload, 1) := by decide +kernel
theorem dX0_trimmedBegin_16 : decode cX0_trimmedBegin 16 = .ok (.iload_n 1, 1) := by decide +kernel
theorem dX0_trimmedBegin_17 : decode cX0_trimmedBegin 17 = .ok (.invokestatic 60, 3) := by decide +kernel
theorem dX0_trimmedBegin_20 : decode cX0_trimmedBegin 20 = .ok (.ifCond .eq 9, 3) := by decide +kernel
theorem dX0_trimmedBegin_23 : decode cX0_trimmedBegin 23 = .ok (.iinc 2 1, 3) := by decide +kernel
theorem dX0_trimmedBegin_26 : decode cX0_trimmedBegin 26 = .ok (.goto (-24), 3) := by decide +kernel
theorem dX0_trimmedBegin_29 : decode cX0_trimmedBegin 29 = .ok (.iload_n 2, 1) := by decide +kernel
theorem dX0_trimmedBegin_30 : decode cX0_trimmedBegin 30 = .ok (.ireturn, 1) := by decide +kernel
theorem dX0_goes_0 : decode cX0_goes 0 = .ok (.iload_n 1, 1) := by decide +kernel
theorem dX0_goes_1 : decode cX0_goes 1 = .ok (.ifCond .eq 33, 3) := by decide +kernel
theorem dX0_goes_4 : decode cX0_goes 4 = .ok (.iload_n 0, 1) := by decide +kernel
theorem dX0_goes_5 : decode cX0_goes 5 = .ok (.bipush 32, 2) := by decide +kernel
theorem dX0_goes_7 : decode cX0_goes 7 = .ok (.if_icmp .eq 21, 3) := by decide +kernel
theorem dX0_goes_10 : decode cX0_goes 10 = .ok (.iload_n 0, 1) := by decide +kernel
theorem dX0_goes_11 : decode cX0_goes 11 = .ok (.bipush 9, 2) := by decide +kernel
theorem dX0_goes_13 : decode cX0_goes 13 = .ok (.if_icmp .eq 15, 3) := by decide +kernel
theorem dX0_goes_16 : decode cX0_goes 16 = .ok (.iload_n 0, 1) := by decide +kernel
theorem dX0_goes_17 : decode cX0_goes 17 = .ok (.bipush 10, 2) := by decide +kernel
theorem dX0_goes_19 : decode cX0_goes 19 = .ok (.if_icmp .eq 9, 3) := by decide +kernel
theorem dX0_goes_22 : decode cX0_goes 22 = .ok (.iload_n 0, 1) := by decide +kernel
theorem dX0_goes_23 : decode cX0_goes 23 = .ok (.bipush 28, 2) := by decide +kernel
theorem dX0_goes_25 : decode cX0_goes 25 = .ok (.if_icmp .ne 7, 3) := by decide +kernel
theorem dX0_goes_28 : decode cX0_goes 28 = .ok (.iconst 1, 1) := by decide +kernel
theorem dX0_goes_29 : decode cX0_goes 29 = .ok (.goto 4, 3) := by decide +kernel
theorem dX0_goes_32 : decode cX0_goes 32 = .ok (.iconst 0, 1) := by decide +kernel
theorem dX0_goes_33 : decode cX0_goes 33 = .ok (.ireturn, 1) := by decide +kernel
theorem dX0_goes_34 : decode cX0_goes 34 = .ok (.iload_n 0, 1) := by decide +kernel
theorem dX0_goes_35 : decode cX0_goes 35 = .ok (.bipush 32, 2) := by decide +kernel
theorem dX0_goes_37 : decode cX0_goes 37 = .ok (.if_icmp .gt 7, 3) := by decide +kernel
theorem dX0_goes_40 : decode cX0_goes 40 = .ok (.iconst 1, 1) := by decide +kernel
theorem dX0_goes_41 : decode cX0_goes 41 = .ok (.goto 4, 3) := by decide +kernel
theorem dX0_goes_44 : decode cX0_goes 44 = .ok (.iconst 0, 1) := by decide +kernel
theorem dX0_goes_45 : decode cX0_goes 45 = .ok (.ireturn, 1) := by decide +kernel
theorem dX0_seen_0 : decode cX0_seen 0 = .ok (.iload_n 1, 1) := by decide +kernel
theorem dX0_seen_1 : decode cX0_seen 1 = .ok (.ifCond .ne 5, 3) := by decide +kernel
theorem dX0_seen_4 : decode cX0_seen 4 = .ok (.iload_n 0, 1) := by decide +kernel
theorem dX0_seen_5 : decode cX0_seen 5 = .ok (.ireturn, 1) := by decide +kernel
theorem dX0_seen_6 : decode cX0_seen 6 = .ok (.iload_n 0, 1) := by decide +kernel
theorem dX0_seen_7 : decode cX0_seen 7 = .ok (.lookupswitch 65 #[(65, 49), (66, 52), (67, 55), (88, 58), (201, 61)], 49) := by decide +kernel
theorem dX0_seen_56 : decode cX0_seen 56 = .ok (.bipush 97, 2) := by decide +kernel
theorem dX0_seen_58 : decode cX0_seen 58 = .ok (.ireturn, 1) := by decide +kernel
theorem dX0_seen_59 : decode cX0_seen 59 = .ok (.bipush 98, 2) := by decide +kernel
theorem dX0_seen_61 : decode cX0_seen 61 = .ok (.ireturn, 1) := by decide +kernel
theorem dX0_seen_62 : decode cX0_seen 62 = .ok (.bipush 99, 2) := by decide +kernel
theorem dX0_seen_64 : decode cX0_seen 64 = .ok (.ireturn, 1) := by decide +kernel
theorem dX0_seen_65 : decode cX0_seen 65 = .ok (.bipush 120, 2) := by decide +kernel
theorem dX0_seen_67 : decode cX0_seen 67 = .ok (.ireturn, 1) := by decide +kernel
theorem dX0_seen_68 : decode cX0_seen 68 = .ok (.sipush 233, 3) := by decide +kernel
theorem dX0_seen_71 : decode cX0_seen 71 = .ok (.ireturn, 1) := by decide +kernel
theorem dX0_seen_72 : decode cX0_seen 72 = .ok (.iload_n 0, 1) := by decide +kernel
theorem dX0_seen_73 : decode cX0_seen 73 = .ok (.ireturn, 1) := by decide +kernel
abbrev rmX0_size : Room := { frames := 1, cells := 0, slots := 0, locals := 20 }
theorem mX0_size {l : Launch} {G : Cx} {A : Nat → Prop} {a ca : Nat} {t : List Nat} : Met l yX0_size (.code yX0_size cX0_size 1 (some .int) :: GW) rmX0_size (PC G A [.ref a] (LA G a ca t)) (vp_Si (fun r => r = nI t.length)) 0 0 (fun _ => False) := by
  refine mstart "Signtext$Line" (by decide +kernel) rfl (Nat.le_of_ble_eq_true rfl) ?_
  intro p e s m below meth c ls hx hb hr hts hown hml hlocks hname hC hA hW hl
  have hl : lv_has ls 1 [(0, .ref a)] := hl
  have hK := hC.1
  have hS : va_S A s.heap s.heap [] := va_S.rf
  obtain ⟨t60, tok, tne, hO, f, hF, hf⟩ := hW
  refine lv_aload_n hx hb dX0_size_0 rfl (lv_at hl 0 rfl) ?_
  refine va_get (D := G.1) (ci := 4) (C := RX0) (T := TX0) (N := 2) hx hb hts inX0 hown hK (at_P hO) 0 rfl rfl 1 (by decide) (hts _ tw_1_45) (fun _ h9 => h9) rfl dX0_size_1 ?_
  exact p_i hx hb hr hlocks dX0_size_4 rfl

abbrev rmX0_codeAt : Room := { frames := 1, cells := 0, slots := 0, locals := 20 }
theorem mX0_codeAt {l : Launch} {G : Cx} {A : Nat → Prop} {a ca : Nat} {t : List Nat} {i : Nat} (hi : i < t.length) : Met l yX0_codeAt (.code yX0_codeAt cX0_codeAt 2 (some .int) :: GW) rmX0_codeAt (PC G A [.ref a, .int (nI i)] (LA G a ca t)) (vp_Si (fun r => r = nI (t.getD i 0))) 0 0 (fun _ => False) := by
  refine mstart "Signtext$Line" (by decide +kernel) rfl (Nat.le_of_ble_eq_true rfl) ?_
  intro p e s m below meth c ls hx hb hr hts hown hml hlocks hname hC hA hW hl
  have hl : lv_has ls 2 [(0, .ref a), (1, .int (nI i))] := hl
  have hK := hC.1
  have hS : va_S A s.heap s.heap [] := va_S.rf
  obtain ⟨t60, tok, tne, hO, f, hF, hf⟩ := hW
  refine lv_iload_n hx hb dX0_codeAt_0 rfl (lv_at hl 1 rfl) ?_
  refine z_lt (tgt := 21) hx hb dX0_codeAt_1 (by decide) (by omega) ?_
  refine lv_iload_n hx hb dX0_codeAt_4 rfl (lv_at hl 1 rfl) ?_
  refine lv_aload_n hx hb dX0_codeAt_5 rfl (lv_at hl 0 rfl) ?_
  refine va_get (D := G.1) (ci := 4) (C := RX0) (T := TX0) (N := 2) hx hb hts inX0 hown hK (at_P hO) 0 rfl rfl 1 (by decide) (hts _ tw_1_45) (fun _ h9 => h9) rfl dX0_codeAt_6 ?_
  refine b_ge (tgt := 21) hx hb dX0_codeAt_9 (by decide) (by omega) (by omega) (fun c_2 => ?_) (fun c_2 => ?_)
  · exact absurd c_2 (by omega)
  · refine lv_aload_n hx hb dX0_codeAt_12 rfl (lv_at hl 0 rfl) ?_
    refine va_get (D := G.1) (ci := 4) (C := RX0) (T := TX0) (N := 2) hx hb hts inX0 hown hK (at_P hO) 0 rfl rfl 0 (by decide) (hts _ tw_1_44) (fun _ h9 => h9) rfl dX0_codeAt_13 ?_
    refine lv_iload_n hx hb dX0_codeAt_16 rfl (lv_at hl 1 rfl) ?_
    refine va_cald hx hb hK (at_P hF) 0 1 rfl rfl (vp_in_nI (n := i) (N := 60) (by omega) (by omega)) dX0_codeAt_17 ?_
    refine lv_cv (show _ = nI (t.getD i 0) from by rw [nI_clamp (by omega)]; exact hf _ (by omega)) ?_
    refine lv_goto (tgt := 22) hx hb dX0_codeAt_18 (by decide) ?_
    exact p_i hx hb hr hlocks dX0_codeAt_22 rfl

abbrev rmX0_goes : Room := { frames := 0, cells := 0, slots := 0, locals := 0 }
theorem mX0_goes {l : Launch} {G : Cx} {A : Nat → Prop} {k0 : Nat} {b : Bool} (hk0 : k0 < 256) : Met l yX0_goes (.code yX0_goes cX0_goes 2 (some .boolean) :: GW) rmX0_goes (PC G A [.int (nI k0), .int (bI b)] (fun _ => True)) (vp_Si (fun r => r = bI (goesN b k0))) 0 0 (fun _ => False) := by
  refine mstart "Signtext$Line" (by decide +kernel) rfl (Nat.le_of_ble_eq_true rfl) ?_
  intro p e s m below meth c ls hx hb hr hts hown hml hlocks hname hC hA hW hl
  have hl : lv_has ls 2 [(0, .int (nI k0)), (1, .int (bI b))] := hl
  have hK := hC.1
  have hS : va_S A s.heap s.heap [] := va_S.rf
  refine lv_iload_n hx hb dX0_goes_0 rfl (lv_at hl 1 rfl) ?_
  refine f_eq (tgt := 34) hx hb dX0_goes_1 (by decide) (fun c_3 => ?_) (fun c_3 => ?_)
  · subst c_3
    refine lv_iload_n hx hb dX0_goes_34 rfl (lv_at hl 0 rfl) ?_
    refine lv_bipush (v := nI 32) hx hb dX0_goes_35 (by decide) ?_
    refine b_gt (tgt := 44) hx hb dX0_goes_37 (by decide) (by omega) (by omega) (fun c_4 => ?_) (fun c_4 => ?_)
    · refine lv_iconst (v := nI 0) hx hb dX0_goes_44 (by decide) ?_
      exact p_z (b := false) hx hb hr hlocks dX0_goes_45 (by have q : goesN false k0 = false := (by simp [goesN]; omega); rw [q])
    · refine lv_iconst (v := nI 1) hx hb dX0_goes_40 (by decide) ?_
      refine lv_goto (tgt := 45) hx hb dX0_goes_41 (by decide) ?_
      exact p_z (b := true) hx hb hr hlocks dX0_goes_45 (by have q : goesN false k0 = true := (by simp [goesN]; omega); rw [q])
  · subst c_3
    refine lv_iload_n hx hb dX0_goes_4 rfl (lv_at hl 0 rfl) ?_
    refine lv_bipush (v := nI 32) hx hb dX0_goes_5 (by decide) ?_
    refine b_eq (tgt := 28) hx hb dX0_goes_7 (by decide) (by omega) (by omega) (fun c_5 => ?_) (fun c_5 => ?_)
    · refine lv_iconst (v := nI 1) hx hb dX0_goes_28 (by decide) ?_
      refine lv_goto (tgt := 33) hx hb dX0_goes_29 (by decide) ?_
      exact p_z (b := true) hx hb hr hlocks dX0_goes_33 (by subst c_5; rfl)
    · refine lv_iload_n hx hb dX0_goes_10 rfl (lv_at hl 0 rfl) ?_
      refine lv_bipush (v := nI 9) hx hb dX0_goes_11 (by decide) ?_
      refine b_eq (tgt := 28) hx hb dX0_goes_13 (by decide) (by omega) (by omega) (fun c_6 => ?_) (fun c_6 => ?_)
      · refine lv_iconst (v := nI 1) hx hb dX0_goes_28 (by decide) ?_
        refine lv_goto (tgt := 33) hx hb dX0_goes_29 (by decide) ?_
        exact p_z (b := true) hx hb hr hlocks dX0_goes_33 (by subst c_6; rfl)
      · refine lv_iload_n hx hb dX0_goes_16 rfl (lv_at hl 0 rfl) ?_
        refine lv_bipush (v := nI 10) hx hb dX0_goes_17 (by decide) ?_
        refine b_eq (tgt := 28) hx hb dX0_goes_19 (by decide) (by omega) (by omega) (fun c_7 => ?_) (fun c_7 => ?_)
        · refine lv_iconst (v := nI 1) hx hb dX0_goes_28 (by decide) ?_
          refine lv_goto (tgt := 33) hx hb dX0_goes_29 (by decide) ?_
          exact p_z (b := true) hx hb hr hlocks dX0_goes_33 (by subst c_7; rfl)
        · refine lv_iload_n hx hb dX0_goes_22 rfl (lv_at hl 0 rfl) ?_
          refine lv_bipush (v := nI 28) hx hb dX0_goes_23 (by decide) ?_
          refine b_ne (tgt := 32) hx hb dX0_goes_25 (by decide) (by omega) (by omega) (fun c_8 => ?_) (fun c_8 => ?_)
          · refine lv_iconst (v := nI 0) hx hb dX0_goes_32 (by decide) ?_
            exact p_z (b := false) hx hb hr hlocks dX0_goes_33 (by have q : goesN true k0 = false := (by simp [goesN]; omega); rw [q])
          · refine lv_iconst (v := nI 1) hx hb dX0_goes_28 (by decide) ?_
            refine lv_goto (tgt := 33) hx hb dX0_goes_29 (by decide) ?_
            exact p_z (b := true) hx hb hr hlocks dX0_goes_33 (by subst c_8; rfl)

abbrev rmX0_seen : Room := { frames := 0, cells := 0, slots := 0, locals := 0 }
theorem mX0_seen {l : Launch} {G : Cx} {A : Nat → Prop} {k0 : Nat} {b : Bool} (hk0 : k0 < 256) : Met l yX0_seen (.code yX0_seen cX0_seen 2 (some .int) :: GW) rmX0_seen (PC G A [.int (nI k0), .int (bI b)] (fun _ => True)) (vp_Si (fun r => r = nI (viewN b k0))) 0 0 (fun _ => False) := by
  refine mstart "Signtext$Line" (by decide +kernel) rfl (Nat.le_of_ble_eq_true rfl) ?_
  intro p e s m below meth c ls hx hb hr hts hown hml hlocks hname hC hA hW hl
  have hl : lv_has ls 2 [(0, .int (nI k0)), (1, .int (bI b))] := hl
  have hK := hC.1
  have hS : va_S A s.heap s.heap [] := va_S.rf
  refine lv_iload_n hx hb dX0_seen_0 rfl (lv_at hl 1 rfl) ?_
  refine f_ne (tgt := 6) hx hb dX0_seen_1 (by decide) (fun c_9 => ?_) (fun c_9 => ?_)
  · subst c_9
    refine lv_iload_n hx hb dX0_seen_6 rfl (lv_at hl 0 rfl) ?_
    by_cases c65 : k0 = 65
    · subst c65
      refine lv_lookup (tgt := 56) hx hb dX0_seen_7 (by decide) (off := 49) (by decide) (by decide) ?_
      refine lv_bipush (v := nI 97) hx hb dX0_seen_56 (by decide) ?_
      exact p_i hx hb hr hlocks dX0_seen_58 rfl
    by_cases c66 : k0 = 66
    · subst c66
      refine lv_lookup (tgt := 59) hx hb dX0_seen_7 (by decide) (off := 52) (by decide) (by decide) ?_
      refine lv_bipush (v := nI 98) hx hb dX0_seen_59 (by decide) ?_
      exact p_i hx hb hr hlocks dX0_seen_61 rfl
    by_cases c67 : k0 = 67
    · subst c67
      refine lv_lookup (tgt := 62) hx hb dX0_seen_7 (by decide) (off := 55) (by decide) (by decide) ?_
      refine lv_bipush (v := nI 99) hx hb dX0_seen_62 (by decide) ?_
      exact p_i hx hb hr hlocks dX0_seen_64 rfl
    by_cases c88 : k0 = 88
    · subst c88
      refine lv_lookup (tgt := 65) hx hb dX0_seen_7 (by decide) (off := 58) (by decide) (by decide) ?_
      refine lv_bipush (v := nI 120) hx hb dX0_seen_65 (by decide) ?_
      exact p_i hx hb hr hlocks dX0_seen_67 rfl
    by_cases c201 : k0 = 201
    · subst c201
      refine lv_lookup (tgt := 68) hx hb dX0_seen_7 (by decide) (off := 61) (by decide) (by decide) ?_
      refine lv_sipush (v := nI 233) hx hb dX0_seen_68 (by decide) ?_
      exact p_i hx hb hr hlocks dX0_seen_71 rfl
    refine lv_lookup (tgt := 72) hx hb dX0_seen_7 (by decide) (off := 65) (by rw [nI_toInt (by omega)]; exact sw_seen c65 c66 c67 c88 c201) (by decide) ?_
    refine lv_iload_n hx hb dX0_seen_72 rfl (lv_at hl 0 rfl) ?_
    exact p_i hx hb hr hlocks dX0_seen_73 (by have q : viewN true k0 = k0 := (by simp [viewN, litN, c65, c66, c67, c88, c201]); rw [q])
  · subst c_9
    refine lv_iload_n hx hb dX0_seen_4 rfl (lv_at hl 0 rfl) ?_
    exact p_i hx hb hr hlocks dX0_seen_5 rfl

abbrev rmX0_hashOfSigns : Room := { frames := 1, cells := 0, slots := 0, locals := 20 }
theorem mX0_hashOfSigns {l : Launch} {G : Cx} {A : Nat → Prop} {a ca : Nat} {t : List Nat} : Met l yX0_hashOfSigns (.code yX0_hashOfSigns cX0_hashOfSigns 3 (some .int) :: GW) rmX0_hashOfSigns (PC G A [.ref a] (LA G a ca t)) (vp_Si (fun r => r = hashL t)) 0 0 (fun _ => False) := by
  refine mstart "Signtext$Line" (by decide +kernel) rfl (Nat.le_of_ble_eq_true rfl) ?_
  intro p e s m below meth c ls hx hb hr hts hown hml hlocks hname hC hA hW hl
  have hl : lv_has ls 3 [(0, .ref a)] := hl
  have hK := hC.1
  have hS : va_S A s.heap s.heap [] := va_S.rf
  obtain ⟨t60, tok, tne, hO, f, hF, hf⟩ := hW
  refine lv_iconst (v := nI 0) hx hb dX0_hashOfSigns_0 (by decide) ?_
  refine lv_istore_n (lv' := [(1, .int (nI 0)), (0, .ref a)]) hx hb dX0_hashOfSigns_1 rfl hl (by decide) rfl (fun ls hl => ?_)
  refine lv_iconst (v := nI 0) hx hb dX0_hashOfSigns_2 (by decide) ?_
  refine lv_istore_n (lv' := [(2, .int (nI 0)), (1, .int (nI 0)), (0, .ref a)]) hx hb dX0_hashOfSigns_3 rfl hl (by decide) rfl (fun ls hl => ?_)
  have hl : lv_has ls 3 [(2, .int (nI 0)), (1, .int (hashL (t.take 0))), (0, .ref a)] := hl
  refine nloop (P := fun j => ∀ (ls : Array Slot) , lv_has ls 3 [(2, .int (nI j)), (1, .int (hashL (t.take j))), (0, .ref a)] → W p l e rmX0_hashOfSigns s m [.ref a].toArray below meth c s.heap [] 0 0 (MQ below (vp_Si (fun r => r = hashL t)) [.ref a].toArray s 0 0 (fun _ => False)) (F0 m 4 ls [])) t.length ?_ 0 (Nat.zero_le _) ls  hl 
  clear hl
  intro j hj ih ls  hl
  refine lv_iload_n hx hb dX0_hashOfSigns_4 rfl (lv_at hl 0 rfl) ?_
  refine lv_aload_n hx hb dX0_hashOfSigns_5 rfl (lv_at hl 2 rfl) ?_
  refine va_get (D := G.1) (ci := 4) (C := RX0) (T := TX0) (N := 2) hx hb hts inX0 hown hK (at_P hO) 0 rfl rfl 1 (by decide) (hts _ tw_1_45) (fun _ h9 => h9) rfl dX0_hashOfSigns_6 ?_
  refine b_ge (tgt := 30) hx hb dX0_hashOfSigns_9 (by decide) (by omega) (by omega) (fun c_10 => ?_) (fun c_10 => ?_)
  · refine lv_iload_n hx hb dX0_hashOfSigns_30 rfl (lv_at hl 1 rfl) ?_
    exact p_i hx hb hr hlocks dX0_hashOfSigns_31 (by rw [show j = t.length by omega, List.take_length])
  · refine lv_bipush (v := nI 31) hx hb dX0_hashOfSigns_12 (by decide) ?_
    refine lv_iload_n hx hb dX0_hashOfSigns_14 rfl (lv_at hl 1 rfl) ?_
    refine lv_imul hx hb dX0_hashOfSigns_15 ?_
    refine lv_aload_n hx hb dX0_hashOfSigns_16 rfl (lv_at hl 2 rfl) ?_
    refine va_get (D := G.1) (ci := 4) (C := RX0) (T := TX0) (N := 2) hx hb hts inX0 hown hK (at_P hO) 0 rfl rfl 0 (by decide) (hts _ tw_1_44) (fun _ h9 => h9) rfl dX0_hashOfSigns_17 ?_
    refine lv_iload_n hx hb dX0_hashOfSigns_20 rfl (lv_at hl 0 rfl) ?_
    refine va_cald hx hb hK (at_P hF) 0 1 rfl rfl (vp_in_nI (n := j) (N := 60) (by omega) (by omega)) dX0_hashOfSigns_21 ?_
    refine lv_cv (show _ = nI (t.getD j 0) from by rw [nI_clamp (by omega)]; exact hf _ (by omega)) ?_
    refine lv_iadd hx hb dX0_hashOfSigns_22 ?_
    refine lv_cv (hashL_succ (by omega)).symm ?_
    refine lv_istore_n (lv' := [(1, .int (hashL (t.take (j + 1)))), (2, .int (nI j)), (0, .ref a)]) hx hb dX0_hashOfSigns_23 rfl hl (by decide) rfl (fun ls hl => ?_)
    refine lv_iinc (v := nI (j + 1)) (lv' := [(2, .int (nI (j + 1))), (1, .int (hashL (t.take (j + 1)))), (0, .ref a)]) hx hb dX0_hashOfSigns_24 hl (k := 1) rfl (nI_add j 1) (by decide) rfl (fun ls hl => ?_)
    refine lv_goto (tgt := 4) hx hb dX0_hashOfSigns_27 (by decide) ?_
    exact ih (j + 1) (by omega) (by omega) ls hl

abbrev rmX0_trimmedBegin : Room := { frames := 1, cells := 0, slots := 0, locals := 21 }
theorem mX0_trimmedBegin {l : Launch} {G : Cx} {A : Nat → Prop} {a ca : Nat} {t : List Nat} {b : Bool} : Met l yX0_trimmedBegin (.code yX0_trimmedBegin cX0_trimmedBegin 3 (some .int) :: GW) rmX0_trimmedBegin (PC G A [.ref a, .int (bI b)] (LA G a ca t)) (vp_Si (fun r => r = nI (tbL b t))) 0 0 (fun _ => False) := by
  refine mstart "Signtext$Line" (by decide +kernel) rfl (Nat.le_of_ble_eq_true rfl) ?_
  intro p e s m below meth c ls hx hb hr hts hown hml hlocks hname hC hA hW hl
  have hl : lv_has ls 3 [(0, .ref a), (1, .int (bI b))] := hl
  have hK := hC.1
  have hS : va_S A s.heap s.heap [] := va_S.rf
  obtain ⟨t60, tok, tne, hO, f, hF, hf⟩ := hW
  refine lv_iconst (v := nI 0) hx hb dX0_trimmedBegin_0 (by decide) ?_
  refine lv_istore_n (lv' := [(2, .int (nI 0)), (0, .ref a), (1, .int (bI b))]) hx hb dX0_trimmedBegin_1 rfl hl (by decide) rfl (fun ls hl => ?_)
  refine nloop (P := fun j => ∀ (ls : Array Slot) , lv_has ls 3 [(2, .int (nI j)), (0, .ref a), (1, .int (bI b))] → (∀ k : Nat, k < j → goesN b (t.getD k 0) = true) → W p l e rmX0_trimmedBegin s m [.ref a, .int (bI b)].toArray below meth c s.heap [] 0 0 (MQ below (vp_Si (fun r => r = nI (tbL b t))) [.ref a, .int (bI b)].toArray s 0 0 (fun _ => False)) (F0 m 2 ls [])) t.length ?_ 0 (Nat.zero_le _) ls  hl (fun k hk => absurd hk (Nat.not_lt_zero k))
  clear hl
  intro j hj ih ls  hl
  intro hg
  refine lv_iload_n hx hb dX0_trimmedBegin_2 rfl (lv_at hl 0 rfl) ?_
  refine lv_aload_n hx hb dX0_trimmedBegin_3 rfl (lv_at hl 1 rfl) ?_
  refine va_get (D := G.1) (ci := 4) (C := RX0) (T := TX0) (N := 2) hx hb hts inX0 hown hK (at_P hO) 0 rfl rfl 1 (by decide) (hts _ tw_1_45) (fun _ h9 => h9) rfl dX0_trimmedBegin_4 ?_
  refine b_ge (tgt := 29) hx hb dX0_trimmedBegin_7 (by decide) (by omega) (by omega) (fun c_11 => ?_) (fun c_11 => ?_)
  · refine lv_iload_n hx hb dX0_trimmedBegin_29 rfl (lv_at hl 0 rfl) ?_
    exact p_i hx hb hr hlocks dX0_trimmedBegin_30 (by rw [tbL_eq (j := j) (by omega) hg (fun q => absurd q (by omega))])
  · refine lv_aload_n hx hb dX0_trimmedBegin_10 rfl (lv_at hl 1 rfl) ?_
    refine va_get (D := G.1) (ci := 4) (C := RX0) (T := TX0) (N := 2) hx hb hts inX0 hown hK (at_P hO) 0 rfl rfl 0 (by decide) (hts _ tw_1_44) (fun _ h9 => h9) rfl dX0_trimmedBegin_11 ?_
    refine lv_iload_n hx hb dX0_trimmedBegin_14 rfl (lv_at hl 0 rfl) ?_
    refine va_cald hx hb hK (at_P hF) 0 1 rfl rfl (vp_in_nI (n := j) (N := 60) (by omega) (by omega)) dX0_trimmedBegin_15 ?_
    refine lv_cv (show _ = nI (t.getD j 0) from by rw [nI_clamp (by omega)]; exact hf _ (by omega)) ?_
    refine lv_iload_n hx hb dX0_trimmedBegin_16 rfl (lv_at hl 2 rfl) ?_
    refine kS_i (A := A) (As := [.int (nI (t.getD j 0)), .int (bI b)]) (rest := []) ⟨hx, hb, hml, hown, hts⟩ (mX0_goes (A := A) (tok j)) (va_cwS 2 hts (gS tw_2_47 tw_2_48 tw_1_2 tw_2_49) rfl rfl rfl (by decide +kernel) ⟨Nat.le_of_ble_eq_true rfl, Nat.le_of_ble_eq_true rfl⟩) hC hS hA  trivial rfl rfl hl.1 (Nat.le_of_ble_eq_true rfl) ⟨Nat.zero_le _, Nat.zero_le _⟩ dX0_trimmedBegin_17 (fun r9 h9 => lv_cv h9 ?_)
    refine f_eq (tgt := 29) hx hb dX0_trimmedBegin_20 (by decide) (fun c_12 => ?_) (fun c_12 => ?_)
    · refine lv_iload_n hx hb dX0_trimmedBegin_29 rfl (lv_at hl 0 rfl) ?_
      exact p_i hx hb hr hlocks dX0_trimmedBegin_30 (by rw [tbL_eq (j := j) (by omega) hg (fun _ => c_12)])
    · refine lv_iinc (v := nI (j + 1)) (lv' := [(2, .int (nI (j + 1))), (0, .ref a), (1, .int (bI b))]) hx hb dX0_trimmedBegin_23 hl (k := 0) rfl (nI_add j 1) (by decide) rfl (fun ls hl => ?_)
      refine lv_goto (tgt := 2) hx hb dX0_trimmedBegin_26 (by decide) ?_
      exact ih (j + 1) (by omega) (by omega) ls hl (fun k hk => by rcases Nat.lt_succ_iff_lt_or_eq.mp hk with q | q; exact hg k q; rw [q]; exact c_12)
