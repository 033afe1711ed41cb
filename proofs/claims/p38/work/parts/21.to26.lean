/-! 21.world -/
section
/-! THE CLASS'S WORLD: 39 cells SA: 0 the object, 1 its texts, 2 its known ones, 3 4 pieces and their ends, 5 6 the tried ones, 7 + 2 i and 8 + 2 i line i (0 to 3 texts, 4 to 10 known, 11 row, 12 made, 13 draft, 14 of pieces, 15 of tried) -/
def SJ (SA : Nat → Nat) : Prop := ∀ i j : Nat, i < 39 → j < 39 → SA i = SA j → i = j
def SW (G : Cx) (SA : Nat → Nat) (T : Nat → List Nat) (es es2 : List Nat) (k : Int32) (H : Heap) : Prop :=
  SJ SA ∧
  va_at G.1 vwCl (SA 0, .inr (6, [.ref (SA 1), .ref (SA 2), .ref (SA 29), .ref (SA 3), .int k, .ref (SA 31), .ref (SA 33), .ref (SA 5)])) H ∧
  va_at G.1 vwCl (SA 1, .inl (G.2.1 3, 4, .inr (.inr (.inr (.inr (fun j => some (SA (7 + 2 * j)))))))) H ∧
  va_at G.1 vwCl (SA 2, .inl (G.2.1 3, 7, .inr (.inr (.inr (.inr (fun j => some (SA (15 + 2 * j)))))))) H ∧
  (∀ i : Nat, i < 16 → LA G (SA (7 + 2 * i)) (SA (8 + 2 * i)) (T i) H) ∧
  PB G (SA 3) (SA 35) (SA 4) es H ∧ okE (T 14) es ∧
  PB G (SA 5) (SA 37) (SA 6) es2 H ∧ okE (T 15) es2 ∧
  (∀ i : Nat, i < 7 → T (4 + i) = knT i)
section WORLD
variable {G : Cx} {SA : Nat → Nat} {T : Nat → List Nat} {es es2 : List Nat} {k : Int32} {H H1 : Heap}
theorem SW.ne (h : SW G SA T es es2 k H) {i j : Nat} (hi : i < 39) (hj : j < 39) (hn : i ≠ j) : SA i ≠ SA j := fun q => hn (h.1 i j hi hj q)
theorem SW.line (h : SW G SA T es es2 k H) {i : Nat} (hi : i < 16) : LA G (SA (7 + 2 * i)) (SA (8 + 2 * i)) (T i) H := h.2.2.2.2.1 i hi
theorem SW.pcs (h : SW G SA T es es2 k H) : PA G (SA 3) (SA 35) (SA 36) (SA 4) (T 14) es H := ⟨h.2.2.2.2.2.1, h.line (i := 14) (by decide), h.2.2.2.2.2.2.1, h.ne (by decide) (by decide) (by decide), h.ne (by decide) (by decide) (by decide), h.ne (by decide) (by decide) (by decide), h.ne (by decide) (by decide) (by decide), h.ne (by decide) (by decide) (by decide)⟩
theorem SW.trd (h : SW G SA T es es2 k H) : PA G (SA 5) (SA 37) (SA 38) (SA 6) (T 15) es2 H := ⟨h.2.2.2.2.2.2.2.1, h.line (i := 15) (by decide), h.2.2.2.2.2.2.2.2.1, h.ne (by decide) (by decide) (by decide), h.ne (by decide) (by decide) (by decide), h.ne (by decide) (by decide) (by decide), h.ne (by decide) (by decide) (by decide), h.ne (by decide) (by decide) (by decide)⟩
theorem SW.lt (h : SW G SA T es es2 k H) : ∀ i : Nat, i < 39 → SA i < H.size := fun i hi => by
  rcases Nat.lt_or_ge i 7 with q | q
  · match i, q with
    | 0, _ => exact h.2.1.lt
    | 1, _ => exact h.2.2.1.lt
    | 2, _ => exact h.2.2.2.1.lt
    | 3, _ => exact h.pcs.1.lt.1
    | 4, _ => exact h.pcs.1.lt.2
    | 5, _ => exact h.trd.1.lt.1
    | 6, _ => exact h.trd.1.lt.2
  · have e : i = 7 + 2 * ((i - 7) / 2) ∨ i = 8 + 2 * ((i - 7) / 2) := by omega
    have hl := (h.line (i := (i - 7) / 2) (by omega)).lt
    rcases e with e | e
    · rw [e]; exact hl.1
    · rw [e]; exact hl.2
theorem SW.kp {X : Nat → Prop} (h : SW G SA T es es2 k H) (hk : kp X H H1) (hX : ∀ i : Nat, i < 39 → ¬ X (SA i)) : SW G SA T es es2 k H1 :=
  ⟨h.1, at_kp h.2.1 hk (hX 0 (by decide)), at_kp h.2.2.1 hk (hX 1 (by decide)), at_kp h.2.2.2.1 hk (hX 2 (by decide)), fun i hi => (h.line hi).kp hk (hX _ (by omega)) (hX _ (by omega)), h.pcs.1.kp hk (hX 3 (by decide)) (hX 4 (by decide)), h.pcs.2.2.1, h.trd.1.kp hk (hX 5 (by decide)) (hX 6 (by decide)), h.trd.2.2.1, h.2.2.2.2.2.2.2.2.2⟩
theorem SW.nw (h : SW G SA T es es2 k H) (hk : Pilot.CSigntextLaw_law_r2322_c049e8.kp (nw H.size) H H1) : SW G SA T es es2 k H1 := h.kp hk (fun i hi => Nat.not_le_of_lt (h.lt i hi))
theorem SW.recv {s : State} (h : SW G SA T es es2 k H) (hK : va_K G.1 vwCl (tyL G.2.1) s) : ∃ cell : Cell, H[SA 0]? = some cell ∧ cell.vm.isStatics = false ∧ s.vm.findClass "Signtext" = some cell.cls := at_recv hK h.2.1 (q := (RX2, TX2, 8)) rfl
/-- one text for another -/
def updT (T : Nat → List Nat) (q : Nat) (t : List Nat) : Nat → List Nat := fun i => if i = q then t else T i
theorem updT_s {T : Nat → List Nat} {q : Nat} {t : List Nat} : updT T q t q = t := if_pos rfl
theorem updT_n {T : Nat → List Nat} {q i : Nat} {t : List Nat} (h : i ≠ q) : updT T q t i = T i := if_neg h
theorem SW.put (h : SW G SA T es es2 k H) {q : Nat} {t : List Nat} (hq : q < 4 ∨ 11 ≤ q ∧ q < 14) (hk : Pilot.CSigntextLaw_law_r2322_c049e8.kp (ow (SA (7 + 2 * q)) (SA (8 + 2 * q)) H.size) H H1) (hL : LA G (SA (7 + 2 * q)) (SA (8 + 2 * q)) t H1) : SW G SA (updT T q t) es es2 k H1 := by
  have hX : ∀ i : Nat, i < 39 → i ≠ 7 + 2 * q → i ≠ 8 + 2 * q → ¬ ow (SA (7 + 2 * q)) (SA (8 + 2 * q)) H.size (SA i) := fun i hi h1 h2 => ow_no (h.ne hi (by omega) h1) (h.ne hi (by omega) h2) (h.lt i hi)
  have u14 : updT T q t 14 = T 14 := updT_n (by omega)
  have u15 : updT T q t 15 = T 15 := updT_n (by omega)
  refine ⟨h.1, at_kp h.2.1 hk (hX 0 (by decide) (by omega) (by omega)), at_kp h.2.2.1 hk (hX 1 (by decide) (by omega) (by omega)), at_kp h.2.2.2.1 hk (hX 2 (by decide) (by omega) (by omega)), fun i hi => ?_, h.pcs.1.kp hk (hX 3 (by decide) (by omega) (by omega)) (hX 4 (by decide) (by omega) (by omega)), by rw [u14]; exact h.pcs.2.2.1, h.trd.1.kp hk (hX 5 (by decide) (by omega) (by omega)) (hX 6 (by decide) (by omega) (by omega)), by rw [u15]; exact h.trd.2.2.1, fun i hi => ?_⟩
  · by_cases e : i = q
    · subst e; rw [updT_s]; exact hL
    · rw [updT_n e]; exact (h.line hi).kp hk (hX _ (by omega) (by omega) (by omega)) (hX _ (by omega) (by omega) (by omega))
  · rw [updT_n (by omega)]; exact h.2.2.2.2.2.2.2.2.2 i hi
/-- what a call sees: the four texts, the row, the text of the pieces and their ends, the knocks -/
def SS (G : Cx) (SA : Nat → Nat) (X : Nat → List Nat) (es : List Nat) (k : Int32) (H : Heap) : Prop := ∃ (T : Nat → List Nat) (es2 : List Nat), SW G SA T es es2 k H ∧ ∀ i : Nat, i < 4 ∨ i = 11 ∨ i = 14 → T i = X i
end WORLD
end
/-! 22.cls1 -/
section
/-! The class, 1: what the calls ask first -/
theorem v_cv {p : Program} {l : Launch} {e : Env} {R : Room} {s : State} {m : MethodId} {args : Array Value} {below : List Frame} {meth : Method} {c : Code} {H : Heap} {locs : List Loc} {cells slots pc : Nat} {ls : Array Slot} {rest : List Value} {Q : State → Prop} {x y : Value} (h : x = y) (k : W p l e R s m args below meth c H locs cells slots Q (F0 m pc ls (y :: rest))) : W p l e R s m args below meth c H locs cells slots Q (F0 m pc ls (x :: rest)) := h ▸ k
theorem dX2_textOf_0 : decode cX2_textOf 0 = .ok (.iload_n 1, 1) := by decide +kernel
theorem dX2_textOf_1 : decode cX2_textOf 1 = .ok (.ifCond .lt 8, 3) := by decide +kernel
theorem dX2_textOf_4 : decode cX2_textOf 4 = .ok (.iload_n 1, 1) := by decide +kernel
theorem dX2_textOf_5 : decode cX2_textOf 5 = .ok (.iconst 4, 1) := by decide +kernel
theorem dX2_textOf_6 : decode cX2_textOf 6 = .ok (.if_icmp .lt 11, 3) := by decide +kernel
theorem dX2_textOf_9 : decode cX2_textOf 9 = .ok (.new 74, 3) := by decide +kernel
theorem dX2_textOf_12 : decode cX2_textOf 12 = .ok (.dup, 1) := by decide +kernel
theorem dX2_textOf_13 : decode cX2_textOf 13 = .ok (.invokespecial 76, 3) := by decide +kernel
theorem dX2_textOf_16 : decode cX2_textOf 16 = .ok (.athrow, 1) := by decide +kernel
theorem dX2_textOf_17 : decode cX2_textOf 17 = .ok (.aload_n 0, 1) := by decide +kernel
theorem dX2_textOf_18 : decode cX2_textOf 18 = .ok (.getfield 11, 3) := by decide +kernel
theorem dX2_textOf_21 : decode cX2_textOf 21 = .ok (.iload_n 1, 1) := by decide +kernel
theorem dX2_textOf_22 : decode cX2_textOf 22 = .ok (.aaload, 1) := by decide +kernel
theorem dX2_textOf_23 : decode cX2_textOf 23 = .ok (.areturn, 1) := by decide +kernel
theorem dX2_knownOf_0 : decode cX2_knownOf 0 = .ok (.iload_n 1, 1) := by decide +kernel
theorem dX2_knownOf_1 : decode cX2_knownOf 1 = .ok (.ifCond .lt 9, 3) := by decide +kernel
theorem dX2_knownOf_4 : decode cX2_knownOf 4 = .ok (.iload_n 1, 1) := by decide +kernel
theorem dX2_knownOf_5 : decode cX2_knownOf 5 = .ok (.bipush 7, 2) := by decide +kernel
theorem dX2_knownOf_7 : decode cX2_knownOf 7 = .ok (.if_icmp .lt 11, 3) := by decide +kernel
theorem dX2_knownOf_10 : decode cX2_knownOf 10 = .ok (.new 81, 3) := by decide +kernel
theorem dX2_knownOf_13 : decode cX2_knownOf 13 = .ok (.dup, 1) := by decide +kernel
theorem dX2_knownOf_14 : decode cX2_knownOf 14 = .ok (.invokespecial 83, 3) := by decide +kernel
theorem dX2_knownOf_17 : decode cX2_knownOf 17 = .ok (.athrow, 1) := by decide +kernel
theorem dX2_knownOf_18 : decode cX2_knownOf 18 = .ok (.aload_n 0, 1) := by decide +kernel
theorem dX2_knownOf_19 : decode cX2_knownOf 19 = .ok (.getfield 15, 3) := by decide +kernel
theorem dX2_knownOf_22 : decode cX2_knownOf 22 = .ok (.iload_n 1, 1) := by decide +kernel
theorem dX2_knownOf_23 : decode cX2_knownOf 23 = .ok (.aaload, 1) := by decide +kernel
theorem dX2_knownOf_24 : decode cX2_knownOf 24 = .ok (.areturn, 1) := by decide +kernel
theorem dX2_codeOf_0 : decode cX2_codeOf 0 = .ok (.iload_n 0, 1) := by decide +kernel
theorem dX2_codeOf_1 : decode cX2_codeOf 1 = .ok (.ifCond .lt 11, 3) := by decide +kernel
theorem dX2_codeOf_4 : decode cX2_codeOf 4 = .ok (.iload_n 0, 1) := by decide +kernel
theorem dX2_codeOf_5 : decode cX2_codeOf 5 = .ok (.getstatic 228, 3) := by decide +kernel
theorem dX2_codeOf_8 : decode cX2_codeOf 8 = .ok (.arraylength, 1) := by decide +kernel
theorem dX2_codeOf_9 : decode cX2_codeOf 9 = .ok (.if_icmp .lt 11, 3) := by decide +kernel
theorem dX2_codeOf_12 : decode cX2_codeOf 12 = .ok (.new 81, 3) := by decide +kernel
theorem dX2_codeOf_15 : decode cX2_codeOf 15 = .ok (.dup, 1) := by decide +kernel
theorem dX2_codeOf_16 : decode cX2_codeOf 16 = .ok (.invokespecial 83, 3) := by decide +kernel
theorem dX2_codeOf_19 : decode cX2_codeOf 19 = .ok (.athrow, 1) := by decide +kernel
theorem dX2_codeOf_20 : decode cX2_codeOf 20 = .ok (.getstatic 228, 3) := by decide +kernel
theorem dX2_codeOf_23 : decode cX2_codeOf 23 = .ok (.iload_n 0, 1) := by decide +kernel
theorem dX2_codeOf_24 : decode cX2_codeOf 24 = .ok (.iaload, 1) := by decide +kernel
theorem dX2_codeOf_25 : decode cX2_codeOf 25 = .ok (.ireturn, 1) := by decide +kernel
theorem dX2_needPlace_0 : decode cX2_needPlace 0 = .ok (.iload_n 1, 1) := by decide +kernel
theorem dX2_needPlace_1 : decode cX2_needPlace 1 = .ok (.ifCond .lt 11, 3) := by decide +kernel
theorem dX2_needPlace_4 : decode cX2_needPlace 4 = .ok (.iload_n 1, 1) := by decide +kernel
theorem dX2_needPlace_5 : decode cX2_needPlace 5 = .ok (.aload_n 0, 1) := by decide +kernel
theorem dX2_needPlace_6 : decode cX2_needPlace 6 = .ok (.invokevirtual 66, 3) := by decide +kernel
theorem dX2_needPlace_9 : decode cX2_needPlace 9 = .ok (.if_icmp .lt 11, 3) := by decide +kernel
theorem dX2_needPlace_12 : decode cX2_needPlace 12 = .ok (.new 74, 3) := by decide +kernel
theorem dX2_needPlace_15 : decode cX2_needPlace 15 = .ok (.dup, 1) := by decide +kernel
theorem dX2_needPlace_16 : decode cX2_needPlace 16 = .ok (.invokespecial 76, 3) := by decide +kernel
theorem dX2_needPlace_19 : decode cX2_needPlace 19 = .ok (.athrow, 1) := by decide +kernel
theorem dX2_needPlace_20 : decode cX2_needPlace 20 = .ok (.return_, 1) := by decide +kernel
theorem dX2_needPlaceOrEnd_0 : decode cX2_needPlaceOrEnd 0 = .ok (.iload_n 1, 1) := by decide +kernel
theorem dX2_needPlaceOrEnd_1 : decode cX2_needPlaceOrEnd 1 = .ok (.ifCond .lt 11, 3) := by decide +kernel
theorem dX2_needPlaceOrEnd_4 : decode cX2_needPlaceOrEnd 4 = .ok (.iload_n 1, 1) := by decide +kernel
theorem dX2_needPlaceOrEnd_5 : decode cX2_needPlaceOrEnd 5 = .ok (.aload_n 0, 1) := by decide +kernel
theorem dX2_needPlaceOrEnd_6 : decode cX2_needPlaceOrEnd 6 = .ok (.invokevirtual 66, 3) := by decide +kernel
theorem dX2_needPlaceOrEnd_9 : decode cX2_needPlaceOrEnd 9 = .ok (.if_icmp .le 11, 3) := by decide +kernel
theorem dX2_needPlaceOrEnd_12 : decode cX2_needPlaceOrEnd 12 = .ok (.new 74, 3) := by decide +kernel
theorem dX2_needPlaceOrEnd_15 : decode cX2_needPlaceOrEnd 15 = .ok (.dup, 1) := by decide +kernel
theorem dX2_needPlaceOrEnd_16 : decode cX2_needPlaceOrEnd 16 = .ok (.invokespecial 76, 3) := by decide +kernel
theorem dX2_needPlaceOrEnd_19 : decode cX2_needPlaceOrEnd 19 = .ok (.athrow, 1) := by decide +kernel
theorem dX2_needPlaceOrEnd_20 : decode cX2_needPlaceOrEnd 20 = .ok (.return_, 1) := by decide +kernel
theorem dX2_needPiece_0 : decode cX2_needPiece 0 = .ok (.iload_n 1, 1) := by decide +kernel
theorem dX2_needPiece_1 : decode cX2_needPiece 1 = .ok (.ifCond .lt 14, 3) := by decide +kernel
theorem dX2_needPiece_4 : decode cX2_needPiece 4 = .ok (.iload_n 1, 1) := by decide +kernel
theorem dX2_needPiece_5 : decode cX2_needPiece 5 = .ok (.aload_n 0, 1) := by decide +kernel
theorem dX2_needPiece_6 : decode cX2_needPiece 6 = .ok (.getfield 26, 3) := by decide +kernel
theorem dX2_needPiece_9 : decode cX2_needPiece 9 = .ok (.invokevirtual 138, 3) := by decide +kernel
theorem dX2_needPiece_12 : decode cX2_needPiece 12 = .ok (.if_icmp .lt 11, 3) := by decide +kernel
theorem dX2_needPiece_15 : decode cX2_needPiece 15 = .ok (.new 74, 3) := by decide +kernel
theorem dX2_needPiece_18 : decode cX2_needPiece 18 = .ok (.dup, 1) := by decide +kernel
theorem dX2_needPiece_19 : decode cX2_needPiece 19 = .ok (.invokespecial 76, 3) := by decide +kernel
theorem dX2_needPiece_22 : decode cX2_needPiece 22 = .ok (.athrow, 1) := by decide +kernel
theorem dX2_needPiece_23 : decode cX2_needPiece 23 = .ok (.return_, 1) := by decide +kernel
theorem dX2_needRoom_0 : decode cX2_needRoom 0 = .ok (.iload_n 0, 1) := by decide +kernel
theorem dX2_needRoom_1 : decode cX2_needRoom 1 = .ok (.bipush 60, 2) := by decide +kernel
theorem dX2_needRoom_3 : decode cX2_needRoom 3 = .ok (.if_icmp .le 11, 3) := by decide +kernel
theorem dX2_needRoom_6 : decode cX2_needRoom 6 = .ok (.new 232, 3) := by decide +kernel
theorem dX2_needRoom_9 : decode cX2_needRoom 9 = .ok (.dup, 1) := by decide +kernel
theorem dX2_needRoom_10 : decode cX2_needRoom 10 = .ok (.invokespecial 234, 3) := by decide +kernel
theorem dX2_needRoom_13 : decode cX2_needRoom 13 = .ok (.athrow, 1) := by decide +kernel
theorem dX2_needRoom_14 : decode cX2_needRoom 14 = .ok (.return_, 1) := by decide +kernel
abbrev rmX2_textOf : Room := { frames := 6, cells := 1, slots := 6, locals := 89 }
theorem mX2_textOf {l : Launch} {G : Cx} {A : Nat → Prop} (hst : l.stackTraces = false) {SA : Nat → Nat} {T : Nat → List Nat} {es es2 : List Nat} {k : Int32} {x : Int32} : vx_Met l yX2_textOf (.code yX2_textOf cX2_textOf 2 (some (.object "Signtext$Line")) :: GW) rmX2_textOf (PC G A [.ref (SA 0), .int x] (SW G SA T es es2 k)) (qR A (fun r H => (∃ i : Nat, i < 4 ∧ x = nI i ∧ r = SA (7 + 2 * i)) ∧ SW G SA T es es2 k H)) (xE A (fun E H => E = "java/lang/IndexOutOfBoundsException" ∧ (¬ ∃ i : Nat, i < 4 ∧ x = nI i) ∧ SW G SA T es es2 k H)) 1 6 A := by
  refine mstartX "Signtext" (by decide +kernel) rfl (Nat.le_of_ble_eq_true rfl) ?_
  intro p e s m below meth c ls hx hb hr hts hown hml hlocks hnx hC hA hW hl
  have hl : lv_has ls 2 [(0, .ref (SA 0)), (1, .int x)] := hl
  have hK := hC.1
  have hS : va_S A s.heap s.heap [] := va_S.rf
  have hO := hW.2.1
  have hR1 := hW.2.2.1
  have hR2 := hW.2.2.2.1
  refine lv_iload_n hx hb dX2_textOf_0 rfl (lv_at hl 1 rfl) ?_
  refine lv_if_lt (tgt := 9) hx hb dX2_textOf_1 (by decide) (fun c_1 => ?_) (fun c_1 => ?_)
  · exact t_new (nL := 2) (cls := "java/lang/IndexOutOfBoundsException") (ik := 74) (ic := 76) hx hb hst hown hts hC hS hl.1 hml (by decide +kernel) tw_3_8 tw_1_16 tA76 tB76 tG76 hnx hlocks (Nat.le_of_ble_eq_true rfl) (Nat.le_of_ble_eq_true rfl) (Nat.le_trans (show 0 + 1 ≤ 1 by omega) (Nat.le_of_ble_eq_true rfl)) (Nat.le_trans (show 0 + 6 ≤ 6 by omega) (Nat.le_of_ble_eq_true rfl)) (by omega) (by omega) dX2_textOf_9 dX2_textOf_12 dX2_textOf_13 dX2_textOf_16 (fun H9 hk9 => ⟨rfl, (fun ⟨i, h1, h2⟩ => by rw [h2] at c_1; exact nI_pos (by omega) c_1), hW.nw hk9⟩)
  · obtain ⟨i, hi31, rfl⟩ := nI_of c_1
    refine lv_iload_n hx hb dX2_textOf_4 rfl (lv_at hl 1 rfl) ?_
    refine lv_iconst (v := nI 4) hx hb dX2_textOf_5 (by decide) ?_
    refine b_lt (tgt := 17) hx hb dX2_textOf_6 (by decide) (by omega) (by omega) (fun c_2 => ?_) (fun c_2 => ?_)
    · refine lv_aload_n hx hb dX2_textOf_17 rfl (lv_at hl 0 rfl) ?_
      refine va_get (D := G.1) (ci := 6) (C := RX2) (T := TX2) (N := 8) hx hb hts inX2 hown hK (at_P hO) 0 rfl rfl 0 (by decide) (hts _ tw_1_137) (fun _ h9 => h9) rfl dX2_textOf_18 ?_
      refine lv_iload_n hx hb dX2_textOf_21 rfl (lv_at hl 1 rfl) ?_
      refine va_aldq (D := G.1) hx hb hK (at_P hR1) 0 3 rfl rfl (vp_in_nI (n := i) (N := 4) (by omega) (by omega)) dX2_textOf_22 ?_
      refine v_cv (show va_rf _ = .ref (SA (7 + 2 * i)) from by rw [nI_clamp (n := i) (by omega)]; rfl) ?_
      exact vx_ret (q_a hx hb hr (Or.inl ⟨_, rfl⟩) hlocks dX2_textOf_23 hS (by omega) (by omega) ⟨⟨i, c_2, rfl, rfl⟩, hW⟩)
    · exact t_new (nL := 2) (cls := "java/lang/IndexOutOfBoundsException") (ik := 74) (ic := 76) hx hb hst hown hts hC hS hl.1 hml (by decide +kernel) tw_3_8 tw_1_16 tA76 tB76 tG76 hnx hlocks (Nat.le_of_ble_eq_true rfl) (Nat.le_of_ble_eq_true rfl) (Nat.le_trans (show 0 + 1 ≤ 1 by omega) (Nat.le_of_ble_eq_true rfl)) (Nat.le_trans (show 0 + 6 ≤ 6 by omega) (Nat.le_of_ble_eq_true rfl)) (by omega) (by omega) dX2_textOf_9 dX2_textOf_12 dX2_textOf_13 dX2_textOf_16 (fun H9 hk9 => ⟨rfl, (fun ⟨i9, h1, h2⟩ => by have := (nI_eq (by omega) (by omega)).mp h2; omega), hW.nw hk9⟩)

abbrev rmX2_knownOf : Room := { frames := 6, cells := 1, slots := 6, locals := 89 }
theorem mX2_knownOf {l : Launch} {G : Cx} {A : Nat → Prop} (hst : l.stackTraces = false) {SA : Nat → Nat} {T : Nat → List Nat} {es es2 : List Nat} {k : Int32} {x : Int32} : vx_Met l yX2_knownOf (.code yX2_knownOf cX2_knownOf 2 (some (.object "Signtext$Line")) :: GW) rmX2_knownOf (PC G A [.ref (SA 0), .int x] (SW G SA T es es2 k)) (qR A (fun r H => (∃ i : Nat, i < 7 ∧ x = nI i ∧ r = SA (15 + 2 * i)) ∧ SW G SA T es es2 k H)) (xE A (fun E H => E = "java/lang/IllegalArgumentException" ∧ (¬ ∃ i : Nat, i < 7 ∧ x = nI i) ∧ SW G SA T es es2 k H)) 1 6 A := by
  refine mstartX "Signtext" (by decide +kernel) rfl (Nat.le_of_ble_eq_true rfl) ?_
  intro p e s m below meth c ls hx hb hr hts hown hml hlocks hnx hC hA hW hl
  have hl : lv_has ls 2 [(0, .ref (SA 0)), (1, .int x)] := hl
  have hK := hC.1
  have hS : va_S A s.heap s.heap [] := va_S.rf
  have hO := hW.2.1
  have hR1 := hW.2.2.1
  have hR2 := hW.2.2.2.1
  refine lv_iload_n hx hb dX2_knownOf_0 rfl (lv_at hl 1 rfl) ?_
  refine lv_if_lt (tgt := 10) hx hb dX2_knownOf_1 (by decide) (fun c_3 => ?_) (fun c_3 => ?_)
  · exact t_new (nL := 2) (cls := "java/lang/IllegalArgumentException") (ik := 81) (ic := 83) hx hb hst hown hts hC hS hl.1 hml (by decide +kernel) tw_2_136 tw_1_17 tA83 tB83 tG83 hnx hlocks (Nat.le_of_ble_eq_true rfl) (Nat.le_of_ble_eq_true rfl) (Nat.le_trans (show 0 + 1 ≤ 1 by omega) (Nat.le_of_ble_eq_true rfl)) (Nat.le_trans (show 0 + 6 ≤ 6 by omega) (Nat.le_of_ble_eq_true rfl)) (by omega) (by omega) dX2_knownOf_10 dX2_knownOf_13 dX2_knownOf_14 dX2_knownOf_17 (fun H9 hk9 => ⟨rfl, (fun ⟨i, h1, h2⟩ => by rw [h2] at c_3; exact nI_pos (by omega) c_3), hW.nw hk9⟩)
  · obtain ⟨i, hi31, rfl⟩ := nI_of c_3
    refine lv_iload_n hx hb dX2_knownOf_4 rfl (lv_at hl 1 rfl) ?_
    refine lv_bipush (v := nI 7) hx hb dX2_knownOf_5 (by decide) ?_
    refine b_lt (tgt := 18) hx hb dX2_knownOf_7 (by decide) (by omega) (by omega) (fun c_4 => ?_) (fun c_4 => ?_)
    · refine lv_aload_n hx hb dX2_knownOf_18 rfl (lv_at hl 0 rfl) ?_
      refine va_get (D := G.1) (ci := 6) (C := RX2) (T := TX2) (N := 8) hx hb hts inX2 hown hK (at_P hO) 0 rfl rfl 1 (by decide) (hts _ tw_1_138) (fun _ h9 => h9) rfl dX2_knownOf_19 ?_
      refine lv_iload_n hx hb dX2_knownOf_22 rfl (lv_at hl 1 rfl) ?_
      refine va_aldq (D := G.1) hx hb hK (at_P hR2) 0 3 rfl rfl (vp_in_nI (n := i) (N := 7) (by omega) (by omega)) dX2_knownOf_23 ?_
      refine v_cv (show va_rf _ = .ref (SA (15 + 2 * i)) from by rw [nI_clamp (n := i) (by omega)]; rfl) ?_
      exact vx_ret (q_a hx hb hr (Or.inl ⟨_, rfl⟩) hlocks dX2_knownOf_24 hS (by omega) (by omega) ⟨⟨i, c_4, rfl, rfl⟩, hW⟩)
    · exact t_new (nL := 2) (cls := "java/lang/IllegalArgumentException") (ik := 81) (ic := 83) hx hb hst hown hts hC hS hl.1 hml (by decide +kernel) tw_2_136 tw_1_17 tA83 tB83 tG83 hnx hlocks (Nat.le_of_ble_eq_true rfl) (Nat.le_of_ble_eq_true rfl) (Nat.le_trans (show 0 + 1 ≤ 1 by omega) (Nat.le_of_ble_eq_true rfl)) (Nat.le_trans (show 0 + 6 ≤ 6 by omega) (Nat.le_of_ble_eq_true rfl)) (by omega) (by omega) dX2_knownOf_10 dX2_knownOf_13 dX2_knownOf_14 dX2_knownOf_17 (fun H9 hk9 => ⟨rfl, (fun ⟨i9, h1, h2⟩ => by have := (nI_eq (by omega) (by omega)).mp h2; omega), hW.nw hk9⟩)

abbrev rmX2_codeOf : Room := { frames := 6, cells := 1, slots := 6, locals := 89 }
theorem mX2_codeOf {l : Launch} {G : Cx} {A : Nat → Prop} (hst : l.stackTraces = false) {SA : Nat → Nat} {T : Nat → List Nat} {es es2 : List Nat} {k : Int32} {x : Int32} : vx_Met l yX2_codeOf (.code yX2_codeOf cX2_codeOf 1 (some .int) :: GW) rmX2_codeOf (PC G A [.int x] (SW G SA T es es2 k)) (qI A (fun r H => (∃ i : Nat, i < 24 ∧ x = nI i ∧ r = nI (codeT.getD i 0)) ∧ SW G SA T es es2 k H)) (xE A (fun E H => E = "java/lang/IllegalArgumentException" ∧ (¬ ∃ i : Nat, i < 24 ∧ x = nI i) ∧ SW G SA T es es2 k H)) 1 6 A := by
  refine mstartX "Signtext" (by decide +kernel) rfl (Nat.le_of_ble_eq_true rfl) ?_
  intro p e s m below meth c ls hx hb hr hts hown hml hlocks hnx hC hA hW hl
  have hl : lv_has ls 1 [(0, .int x)] := hl
  have hK := hC.1
  have hS : va_S A s.heap s.heap [] := va_S.rf
  obtain ⟨z1, z2, z3, z4, z5, z6, z7, z8, z9, z10, z11, z12, z13⟩ := hC.2.2.1
  refine lv_iload_n hx hb dX2_codeOf_0 rfl (lv_at hl 0 rfl) ?_
  refine lv_if_lt (tgt := 12) hx hb dX2_codeOf_1 (by decide) (fun c_5 => ?_) (fun c_5 => ?_)
  · exact t_new (nL := 1) (cls := "java/lang/IllegalArgumentException") (ik := 81) (ic := 83) hx hb hst hown hts hC hS hl.1 hml (by decide +kernel) tw_2_136 tw_1_17 tA83 tB83 tG83 hnx hlocks (Nat.le_of_ble_eq_true rfl) (Nat.le_of_ble_eq_true rfl) (Nat.le_trans (show 0 + 1 ≤ 1 by omega) (Nat.le_of_ble_eq_true rfl)) (Nat.le_trans (show 0 + 6 ≤ 6 by omega) (Nat.le_of_ble_eq_true rfl)) (by omega) (by omega) dX2_codeOf_12 dX2_codeOf_15 dX2_codeOf_16 dX2_codeOf_19 (fun H9 hk9 => ⟨rfl, (fun ⟨i, h1, h2⟩ => by rw [h2] at c_5; exact nI_pos (by omega) c_5), hW.nw hk9⟩)
  · obtain ⟨i, hi31, rfl⟩ := nI_of c_5
    refine lv_iload_n hx hb dX2_codeOf_4 rfl (lv_at hl 0 rfl) ?_
    refine va_gets (v := .ref (G.2.2 0)) hx hb z1 hS hown (hts _ tw_3_30) (fun _ h9 => h9) dX2_codeOf_5 ?_
    refine va_tlen (v := nI 24) hx hb z2 hS rfl dX2_codeOf_8 ?_
    refine b_lt (tgt := 20) hx hb dX2_codeOf_9 (by decide) (by omega) (by omega) (fun c_6 => ?_) (fun c_6 => ?_)
    · refine va_gets (v := .ref (G.2.2 0)) hx hb z1 hS hown (hts _ tw_3_30) (fun _ h9 => h9) dX2_codeOf_20 ?_
      refine lv_iload_n hx hb dX2_codeOf_23 rfl (lv_at hl 0 rfl) ?_
      refine va_ti (v := .int (nI (codeT.getD i 0))) hx hb z2 hS (vp_in_nI (n := i) (N := 24) (by omega) (by omega)) (by rw [nI_clamp (n := i) (by omega)]) dX2_codeOf_24 ?_
      exact vx_ret (q_i hx hb hr hlocks dX2_codeOf_25 hS (by omega) (by omega) ⟨⟨i, c_6, rfl, rfl⟩, hW⟩)
    · exact t_new (nL := 1) (cls := "java/lang/IllegalArgumentException") (ik := 81) (ic := 83) hx hb hst hown hts hC hS hl.1 hml (by decide +kernel) tw_2_136 tw_1_17 tA83 tB83 tG83 hnx hlocks (Nat.le_of_ble_eq_true rfl) (Nat.le_of_ble_eq_true rfl) (Nat.le_trans (show 0 + 1 ≤ 1 by omega) (Nat.le_of_ble_eq_true rfl)) (Nat.le_trans (show 0 + 6 ≤ 6 by omega) (Nat.le_of_ble_eq_true rfl)) (by omega) (by omega) dX2_codeOf_12 dX2_codeOf_15 dX2_codeOf_16 dX2_codeOf_19 (fun H9 hk9 => ⟨rfl, (fun ⟨i9, h1, h2⟩ => by have := (nI_eq (by omega) (by omega)).mp h2; omega), hW.nw hk9⟩)

abbrev rmX2_needPlace : Room := { frames := 6, cells := 1, slots := 6, locals := 89 }
theorem mX2_needPlace {l : Launch} {G : Cx} {A : Nat → Prop} (hst : l.stackTraces = false) {SA : Nat → Nat} {T : Nat → List Nat} {es es2 : List Nat} {k : Int32} {q : Nat} {x : Int32} (hq : q < 16) : vx_Met l yX2_needPlace (.code yX2_needPlace cX2_needPlace 2 (none : Option Jvm.ClassFile.FieldType) :: GW) rmX2_needPlace (PC G A [.ref (SA (7 + 2 * q)), .int x] (SW G SA T es es2 k)) (qV A (fun H => (∃ i : Nat, i < (T q).length ∧ x = nI i) ∧ SW G SA T es es2 k H)) (xE A (fun E H => E = "java/lang/IndexOutOfBoundsException" ∧ (¬ ∃ i : Nat, i < (T q).length ∧ x = nI i) ∧ SW G SA T es es2 k H)) 1 6 A := by
  refine mstartX "Signtext" (by decide +kernel) rfl (Nat.le_of_ble_eq_true rfl) ?_
  intro p e s m below meth c ls hx hb hr hts hown hml hlocks hnx hC hA hW hl
  have hl : lv_has ls 2 [(0, .ref (SA (7 + 2 * q))), (1, .int x)] := hl
  have hK := hC.1
  have hS : va_S A s.heap s.heap [] := va_S.rf
  have t60 := (hW.line hq).1
  refine lv_iload_n hx hb dX2_needPlace_0 rfl (lv_at hl 1 rfl) ?_
  refine lv_if_lt (tgt := 12) hx hb dX2_needPlace_1 (by decide) (fun c_7 => ?_) (fun c_7 => ?_)
  · exact t_new (nL := 2) (cls := "java/lang/IndexOutOfBoundsException") (ik := 74) (ic := 76) hx hb hst hown hts hC hS hl.1 hml (by decide +kernel) tw_3_8 tw_1_16 tA76 tB76 tG76 hnx hlocks (Nat.le_of_ble_eq_true rfl) (Nat.le_of_ble_eq_true rfl) (Nat.le_trans (show 0 + 1 ≤ 1 by omega) (Nat.le_of_ble_eq_true rfl)) (Nat.le_trans (show 0 + 6 ≤ 6 by omega) (Nat.le_of_ble_eq_true rfl)) (by omega) (by omega) dX2_needPlace_12 dX2_needPlace_15 dX2_needPlace_16 dX2_needPlace_19 (fun H9 hk9 => ⟨rfl, (fun ⟨i, h1, h2⟩ => by rw [h2] at c_7; exact nI_pos (by omega) c_7), hW.nw hk9⟩)
  · obtain ⟨i, hi31, rfl⟩ := nI_of c_7
    refine lv_iload_n hx hb dX2_needPlace_4 rfl (lv_at hl 1 rfl) ?_
    refine lv_aload_n hx hb dX2_needPlace_5 rfl (lv_at hl 0 rfl) ?_
    refine kV_i (A := A) (b := (SA (7 + 2 * q))) (As := []) (rest := .int (nI i) :: []) ⟨hx, hb, hml, hown, hts⟩ (mX0_size (A := A) (ca := SA (8 + 2 * q))) (cwV 0 hts (gV tw_2_30 tw_2_12 tw_2_13 tw_1_2 tw_2_14) rfl rfl rfl (by decide +kernel) ⟨Nat.le_of_ble_eq_true rfl, Nat.le_of_ble_eq_true rfl⟩) hC hS hA ((hW.line hq).recv hK) (hW.line hq) rfl rfl hl.1 (Nat.le_of_ble_eq_true rfl) ⟨Nat.zero_le _, Nat.zero_le _⟩ dX2_needPlace_6 (fun r9 h9 => lv_cv h9 ?_)
    refine b_lt (tgt := 20) hx hb dX2_needPlace_9 (by decide) (by omega) (by omega) (fun c_8 => ?_) (fun c_8 => ?_)
    · exact vx_ret (q_v hx hb hr hlocks dX2_needPlace_20 hS (by omega) (by omega) ⟨⟨i, c_8, rfl⟩, hW⟩)
    · exact t_new (nL := 2) (cls := "java/lang/IndexOutOfBoundsException") (ik := 74) (ic := 76) hx hb hst hown hts hC hS hl.1 hml (by decide +kernel) tw_3_8 tw_1_16 tA76 tB76 tG76 hnx hlocks (Nat.le_of_ble_eq_true rfl) (Nat.le_of_ble_eq_true rfl) (Nat.le_trans (show 0 + 1 ≤ 1 by omega) (Nat.le_of_ble_eq_true rfl)) (Nat.le_trans (show 0 + 6 ≤ 6 by omega) (Nat.le_of_ble_eq_true rfl)) (by omega) (by omega) dX2_needPlace_12 dX2_needPlace_15 dX2_needPlace_16 dX2_needPlace_19 (fun H9 hk9 => ⟨rfl, (fun ⟨i9, h1, h2⟩ => by have := (nI_eq (by omega) (by omega)).mp h2; omega), hW.nw hk9⟩)

abbrev rmX2_needPlaceOrEnd : Room := { frames := 6, cells := 1, slots := 6, locals := 89 }
theorem mX2_needPlaceOrEnd {l : Launch} {G : Cx} {A : Nat → Prop} (hst : l.stackTraces = false) {SA : Nat → Nat} {T : Nat → List Nat} {es es2 : List Nat} {k : Int32} {q : Nat} {x : Int32} (hq : q < 16) : vx_Met l yX2_needPlaceOrEnd (.code yX2_needPlaceOrEnd cX2_needPlaceOrEnd 2 (none : Option Jvm.ClassFile.FieldType) :: GW) rmX2_needPlaceOrEnd (PC G A [.ref (SA (7 + 2 * q)), .int x] (SW G SA T es es2 k)) (qV A (fun H => (∃ i : Nat, i ≤ (T q).length ∧ x = nI i) ∧ SW G SA T es es2 k H)) (xE A (fun E H => E = "java/lang/IndexOutOfBoundsException" ∧ (¬ ∃ i : Nat, i ≤ (T q).length ∧ x = nI i) ∧ SW G SA T es es2 k H)) 1 6 A := by
  refine mstartX "Signtext" (by decide +kernel) rfl (Nat.le_of_ble_eq_true rfl) ?_
  intro p e s m below meth c ls hx hb hr hts hown hml hlocks hnx hC hA hW hl
  have hl : lv_has ls 2 [(0, .ref (SA (7 + 2 * q))), (1, .int x)] := hl
  have hK := hC.1
  have hS : va_S A s.heap s.heap [] := va_S.rf
  have t60 := (hW.line hq).1
  refine lv_iload_n hx hb dX2_needPlaceOrEnd_0 rfl (lv_at hl 1 rfl) ?_
  refine lv_if_lt (tgt := 12) hx hb dX2_needPlaceOrEnd_1 (by decide) (fun c_9 => ?_) (fun c_9 => ?_)
  · exact t_new (nL := 2) (cls := "java/lang/IndexOutOfBoundsException") (ik := 74) (ic := 76) hx hb hst hown hts hC hS hl.1 hml (by decide +kernel) tw_3_8 tw_1_16 tA76 tB76 tG76 hnx hlocks (Nat.le_of_ble_eq_true rfl) (Nat.le_of_ble_eq_true rfl) (Nat.le_trans (show 0 + 1 ≤ 1 by omega) (Nat.le_of_ble_eq_true rfl)) (Nat.le_trans (show 0 + 6 ≤ 6 by omega) (Nat.le_of_ble_eq_true rfl)) (by omega) (by omega) dX2_needPlaceOrEnd_12 dX2_needPlaceOrEnd_15 dX2_needPlaceOrEnd_16 dX2_needPlaceOrEnd_19 (fun H9 hk9 => ⟨rfl, (fun ⟨i, h1, h2⟩ => by rw [h2] at c_9; exact nI_pos (by omega) c_9), hW.nw hk9⟩)
  · obtain ⟨i, hi31, rfl⟩ := nI_of c_9
    refine lv_iload_n hx hb dX2_needPlaceOrEnd_4 rfl (lv_at hl 1 rfl) ?_
    refine lv_aload_n hx hb dX2_needPlaceOrEnd_5 rfl (lv_at hl 0 rfl) ?_
    refine kV_i (A := A) (b := (SA (7 + 2 * q))) (As := []) (rest := .int (nI i) :: []) ⟨hx, hb, hml, hown, hts⟩ (mX0_size (A := A) (ca := SA (8 + 2 * q))) (cwV 0 hts (gV tw_2_30 tw_2_12 tw_2_13 tw_1_2 tw_2_14) rfl rfl rfl (by decide +kernel) ⟨Nat.le_of_ble_eq_true rfl, Nat.le_of_ble_eq_true rfl⟩) hC hS hA ((hW.line hq).recv hK) (hW.line hq) rfl rfl hl.1 (Nat.le_of_ble_eq_true rfl) ⟨Nat.zero_le _, Nat.zero_le _⟩ dX2_needPlaceOrEnd_6 (fun r9 h9 => lv_cv h9 ?_)
    refine b_le (tgt := 20) hx hb dX2_needPlaceOrEnd_9 (by decide) (by omega) (by omega) (fun c_10 => ?_) (fun c_10 => ?_)
    · exact vx_ret (q_v hx hb hr hlocks dX2_needPlaceOrEnd_20 hS (by omega) (by omega) ⟨⟨i, c_10, rfl⟩, hW⟩)
    · exact t_new (nL := 2) (cls := "java/lang/IndexOutOfBoundsException") (ik := 74) (ic := 76) hx hb hst hown hts hC hS hl.1 hml (by decide +kernel) tw_3_8 tw_1_16 tA76 tB76 tG76 hnx hlocks (Nat.le_of_ble_eq_true rfl) (Nat.le_of_ble_eq_true rfl) (Nat.le_trans (show 0 + 1 ≤ 1 by omega) (Nat.le_of_ble_eq_true rfl)) (Nat.le_trans (show 0 + 6 ≤ 6 by omega) (Nat.le_of_ble_eq_true rfl)) (by omega) (by omega) dX2_needPlaceOrEnd_12 dX2_needPlaceOrEnd_15 dX2_needPlaceOrEnd_16 dX2_needPlaceOrEnd_19 (fun H9 hk9 => ⟨rfl, (fun ⟨i9, h1, h2⟩ => by have := (nI_eq (by omega) (by omega)).mp h2; omega), hW.nw hk9⟩)

abbrev rmX2_needPiece : Room := { frames := 6, cells := 1, slots := 6, locals := 89 }
theorem mX2_needPiece {l : Launch} {G : Cx} {A : Nat → Prop} (hst : l.stackTraces = false) {SA : Nat → Nat} {T : Nat → List Nat} {es es2 : List Nat} {k : Int32} {x : Int32} : vx_Met l yX2_needPiece (.code yX2_needPiece cX2_needPiece 2 (none : Option Jvm.ClassFile.FieldType) :: GW) rmX2_needPiece (PC G A [.ref (SA 0), .int x] (SW G SA T es es2 k)) (qV A (fun H => (∃ i : Nat, i < es.length ∧ x = nI i) ∧ SW G SA T es es2 k H)) (xE A (fun E H => E = "java/lang/IndexOutOfBoundsException" ∧ (¬ ∃ i : Nat, i < es.length ∧ x = nI i) ∧ SW G SA T es es2 k H)) 1 6 A := by
  refine mstartX "Signtext" (by decide +kernel) rfl (Nat.le_of_ble_eq_true rfl) ?_
  intro p e s m below meth c ls hx hb hr hts hown hml hlocks hnx hC hA hW hl
  have hl : lv_has ls 2 [(0, .ref (SA 0)), (1, .int x)] := hl
  have hK := hC.1
  have hS : va_S A s.heap s.heap [] := va_S.rf
  have hPB := hW.pcs.1
  have e61 := hPB.1
  have hO := hW.2.1
  have hR1 := hW.2.2.1
  have hR2 := hW.2.2.2.1
  refine lv_iload_n hx hb dX2_needPiece_0 rfl (lv_at hl 1 rfl) ?_
  refine lv_if_lt (tgt := 15) hx hb dX2_needPiece_1 (by decide) (fun c_11 => ?_) (fun c_11 => ?_)
  · exact t_new (nL := 2) (cls := "java/lang/IndexOutOfBoundsException") (ik := 74) (ic := 76) hx hb hst hown hts hC hS hl.1 hml (by decide +kernel) tw_3_8 tw_1_16 tA76 tB76 tG76 hnx hlocks (Nat.le_of_ble_eq_true rfl) (Nat.le_of_ble_eq_true rfl) (Nat.le_trans (show 0 + 1 ≤ 1 by omega) (Nat.le_of_ble_eq_true rfl)) (Nat.le_trans (show 0 + 6 ≤ 6 by omega) (Nat.le_of_ble_eq_true rfl)) (by omega) (by omega) dX2_needPiece_15 dX2_needPiece_18 dX2_needPiece_19 dX2_needPiece_22 (fun H9 hk9 => ⟨rfl, (fun ⟨i, h1, h2⟩ => by rw [h2] at c_11; exact nI_pos (by omega) c_11), hW.nw hk9⟩)
  · obtain ⟨i, hi31, rfl⟩ := nI_of c_11
    refine lv_iload_n hx hb dX2_needPiece_4 rfl (lv_at hl 1 rfl) ?_
    refine lv_aload_n hx hb dX2_needPiece_5 rfl (lv_at hl 0 rfl) ?_
    refine va_get (D := G.1) (ci := 6) (C := RX2) (T := TX2) (N := 8) hx hb hts inX2 hown hK (at_P hO) 0 rfl rfl 3 (by decide) (hts _ tw_1_140) (fun _ h9 => h9) rfl dX2_needPiece_6 ?_
    refine kV_i (A := A) (b := (SA 3)) (As := []) (rest := .int (nI i) :: []) ⟨hx, hb, hml, hown, hts⟩ (mX1_size (A := A) (la := SA 35) (ea := SA 4)) (cwV 0 hts (gV tw_2_82 tw_2_83 tw_2_84 tw_1_3 tw_2_85) rfl rfl rfl (by decide +kernel) ⟨Nat.le_of_ble_eq_true rfl, Nat.le_of_ble_eq_true rfl⟩) hC hS hA (hPB.recv hK) hPB rfl rfl hl.1 (Nat.le_of_ble_eq_true rfl) ⟨Nat.zero_le _, Nat.zero_le _⟩ dX2_needPiece_9 (fun r9 h9 => lv_cv h9 ?_)
    refine b_lt (tgt := 23) hx hb dX2_needPiece_12 (by decide) (by omega) (by omega) (fun c_12 => ?_) (fun c_12 => ?_)
    · exact vx_ret (q_v hx hb hr hlocks dX2_needPiece_23 hS (by omega) (by omega) ⟨⟨i, c_12, rfl⟩, hW⟩)
    · exact t_new (nL := 2) (cls := "java/lang/IndexOutOfBoundsException") (ik := 74) (ic := 76) hx hb hst hown hts hC hS hl.1 hml (by decide +kernel) tw_3_8 tw_1_16 tA76 tB76 tG76 hnx hlocks (Nat.le_of_ble_eq_true rfl) (Nat.le_of_ble_eq_true rfl) (Nat.le_trans (show 0 + 1 ≤ 1 by omega) (Nat.le_of_ble_eq_true rfl)) (Nat.le_trans (show 0 + 6 ≤ 6 by omega) (Nat.le_of_ble_eq_true rfl)) (by omega) (by omega) dX2_needPiece_15 dX2_needPiece_18 dX2_needPiece_19 dX2_needPiece_22 (fun H9 hk9 => ⟨rfl, (fun ⟨i9, h1, h2⟩ => by have := (nI_eq (by omega) (by omega)).mp h2; omega), hW.nw hk9⟩)

abbrev rmX2_needRoom : Room := { frames := 6, cells := 1, slots := 6, locals := 89 }
theorem mX2_needRoom {l : Launch} {G : Cx} {A : Nat → Prop} (hst : l.stackTraces = false) {SA : Nat → Nat} {T : Nat → List Nat} {es es2 : List Nat} {k : Int32} {n : Nat} (hn : n < 2 ^ 31) : vx_Met l yX2_needRoom (.code yX2_needRoom cX2_needRoom 1 (none : Option Jvm.ClassFile.FieldType) :: GW) rmX2_needRoom (PC G A [.int (nI n)] (SW G SA T es es2 k)) (qV A (fun H => n ≤ 60 ∧ SW G SA T es es2 k H)) (xE A (fun E H => E = "java/lang/IllegalStateException" ∧ 60 < n ∧ SW G SA T es es2 k H)) 1 6 A := by
  refine mstartX "Signtext" (by decide +kernel) rfl (Nat.le_of_ble_eq_true rfl) ?_
  intro p e s m below meth c ls hx hb hr hts hown hml hlocks hnx hC hA hW hl
  have hl : lv_has ls 1 [(0, .int (nI n))] := hl
  have hK := hC.1
  have hS : va_S A s.heap s.heap [] := va_S.rf
  refine lv_iload_n hx hb dX2_needRoom_0 rfl (lv_at hl 0 rfl) ?_
  refine lv_bipush (v := nI 60) hx hb dX2_needRoom_1 (by decide) ?_
  refine b_le (tgt := 14) hx hb dX2_needRoom_3 (by decide) (by omega) (by omega) (fun c_13 => ?_) (fun c_13 => ?_)
  · exact vx_ret (q_v hx hb hr hlocks dX2_needRoom_14 hS (by omega) (by omega) ⟨c_13, hW⟩)
  · exact t_new (nL := 1) (cls := "java/lang/IllegalStateException") (ik := 232) (ic := 234) hx hb hst hown hts hC hS hl.1 hml (by decide +kernel) tw_3_39 tw_1_18 tA234 tB234 tG234 hnx hlocks (Nat.le_of_ble_eq_true rfl) (Nat.le_of_ble_eq_true rfl) (Nat.le_trans (show 0 + 1 ≤ 1 by omega) (Nat.le_of_ble_eq_true rfl)) (Nat.le_trans (show 0 + 6 ≤ 6 by omega) (Nat.le_of_ble_eq_true rfl)) (by omega) (by omega) dX2_needRoom_6 dX2_needRoom_9 dX2_needRoom_10 dX2_needRoom_13 (fun H9 hk9 => ⟨rfl, c_13, hW.nw hk9⟩)
end
/-! 23.cls2 -/
section
/-! The class, 2: how texts are made -/
def addS (t : List Nat) (x : Int32) (w : List Nat) : Prop := (x = -1 ∧ w = t) ∨ ∃ i : Nat, i < 24 ∧ x = nI i ∧ w = (t ++ [codeT.getD i 0]).take 60
theorem updT_id {T : Nat → List Nat} {q : Nat} : updT T q (T q) = T := by
  funext i; unfold updT; split
  · next h => rw [h]
  · rfl
theorem updT_2 {T : Nat → List Nat} {q : Nat} {a b : List Nat} : updT (updT T q a) q b = updT T q b := by
  funext i; unfold updT; split <;> rfl
theorem codeT_lt (i : Nat) : codeT.getD i 0 < 256 := by
  have k : ∀ j : Fin 24, codeT.getD j.1 0 < 256 := by decide +kernel
  rcases Nat.lt_or_ge i 24 with q | q
  · exact k ⟨i, q⟩
  · rw [List.getD_eq_getElem?_getD, List.getElem?_eq_none (by exact q)]; decide
def wkN : Nat → Nat
  | 0 => 6
  | i + 1 => i
theorem dX2_addSignOrNone_0 : decode cX2_addSignOrNone 0 = .ok (.iload_n 1, 1) := by decide +kernel
theorem dX2_addSignOrNone_1 : decode cX2_addSignOrNone 1 = .ok (.iconst (-1), 1) := by decide +kernel
theorem dX2_addSignOrNone_2 : decode cX2_addSignOrNone 2 = .ok (.if_icmp .eq 14, 3) := by decide +kernel
theorem dX2_addSignOrNone_5 : decode cX2_addSignOrNone 5 = .ok (.aload_n 0, 1) := by decide +kernel
theorem dX2_addSignOrNone_6 : decode cX2_addSignOrNone 6 = .ok (.getfield 34, 3) := by decide +kernel
theorem dX2_addSignOrNone_9 : decode cX2_addSignOrNone 9 = .ok (.iload_n 1, 1) := by decide +kernel
theorem dX2_addSignOrNone_10 : decode cX2_addSignOrNone 10 = .ok (.invokestatic 115, 3) := by decide +kernel
theorem dX2_addSignOrNone_13 : decode cX2_addSignOrNone 13 = .ok (.invokevirtual 119, 3) := by decide +kernel
theorem dX2_addSignOrNone_16 : decode cX2_addSignOrNone 16 = .ok (.return_, 1) := by decide +kernel
theorem dX2_addMade_0 : decode cX2_addMade 0 = .ok (.iload_n 2, 1) := by decide +kernel
theorem dX2_addMade_1 : decode cX2_addMade 1 = .ok (.ifCond .eq 16, 3) := by decide +kernel
theorem dX2_addMade_4 : decode cX2_addMade 4 = .ok (.aload_n 0, 1) := by decide +kernel
theorem dX2_addMade_5 : decode cX2_addMade 5 = .ok (.aload_n 0, 1) := by decide +kernel
theorem dX2_addMade_6 : decode cX2_addMade 6 = .ok (.getfield 34, 3) := by decide +kernel
theorem dX2_addMade_9 : decode cX2_addMade 9 = .ok (.aload_n 1, 1) := by decide +kernel
theorem dX2_addMade_10 : decode cX2_addMade 10 = .ok (.aload_n 1, 1) := by decide +kernel
theorem dX2_addMade_11 : decode cX2_addMade 11 = .ok (.invokevirtual 62, 3) := by decide +kernel
theorem dX2_addMade_14 : decode cX2_addMade 14 = .ok (.goto 13, 3) := by decide +kernel
theorem dX2_addMade_17 : decode cX2_addMade 17 = .ok (.aload_n 0, 1) := by decide +kernel
theorem dX2_addMade_18 : decode cX2_addMade 18 = .ok (.aload_n 1, 1) := by decide +kernel
theorem dX2_addMade_19 : decode cX2_addMade 19 = .ok (.aload_n 0, 1) := by decide +kernel
theorem dX2_addMade_20 : decode cX2_addMade 20 = .ok (.getfield 34, 3) := by decide +kernel
theorem dX2_addMade_23 : decode cX2_addMade 23 = .ok (.aload_n 1, 1) := by decide +kernel
theorem dX2_addMade_24 : decode cX2_addMade 24 = .ok (.invokevirtual 62, 3) := by decide +kernel
theorem dX2_addMade_27 : decode cX2_addMade 27 = .ok (.ireturn, 1) := by decide +kernel
theorem dX2_joinInto_0 : decode cX2_joinInto 0 = .ok (.aload_n 1, 1) := by decide +kernel
theorem dX2_joinInto_1 : decode cX2_joinInto 1 = .ok (.invokevirtual 66, 3) := by decide +kernel
theorem dX2_joinInto_4 : decode cX2_joinInto 4 = .ok (.aload_n 2, 1) := by decide +kernel
theorem dX2_joinInto_5 : decode cX2_joinInto 5 = .ok (.invokevirtual 66, 3) := by decide +kernel
theorem dX2_joinInto_8 : decode cX2_joinInto 8 = .ok (.iadd, 1) := by decide +kernel
theorem dX2_joinInto_9 : decode cX2_joinInto 9 = .ok (.invokestatic 84, 3) := by decide +kernel
theorem dX2_joinInto_12 : decode cX2_joinInto 12 = .ok (.aload_n 0, 1) := by decide +kernel
theorem dX2_joinInto_13 : decode cX2_joinInto 13 = .ok (.getfield 37, 3) := by decide +kernel
theorem dX2_joinInto_16 : decode cX2_joinInto 16 = .ok (.invokevirtual 55, 3) := by decide +kernel
theorem dX2_joinInto_19 : decode cX2_joinInto 19 = .ok (.aload_n 0, 1) := by decide +kernel
theorem dX2_joinInto_20 : decode cX2_joinInto 20 = .ok (.getfield 37, 3) := by decide +kernel
theorem dX2_joinInto_23 : decode cX2_joinInto 23 = .ok (.aload_n 1, 1) := by decide +kernel
theorem dX2_joinInto_24 : decode cX2_joinInto 24 = .ok (.invokevirtual 87, 3) := by decide +kernel
theorem dX2_joinInto_27 : decode cX2_joinInto 27 = .ok (.aload_n 0, 1) := by decide +kernel
theorem dX2_joinInto_28 : decode cX2_joinInto 28 = .ok (.getfield 37, 3) := by decide +kernel
theorem dX2_joinInto_31 : decode cX2_joinInto 31 = .ok (.aload_n 2, 1) := by decide +kernel
theorem dX2_joinInto_32 : decode cX2_joinInto 32 = .ok (.invokevirtual 87, 3) := by decide +kernel
theorem dX2_joinInto_35 : decode cX2_joinInto 35 = .ok (.aload_n 3, 1) := by decide +kernel
theorem dX2_joinInto_36 : decode cX2_joinInto 36 = .ok (.aload_n 0, 1) := by decide +kernel
theorem dX2_joinInto_37 : decode cX2_joinInto 37 = .ok (.getfield 37, 3) := by decide +kernel
theorem dX2_joinInto_40 : decode cX2_joinInto 40 = .ok (.invokevirtual 91, 3) := by decide +kernel
theorem dX2_joinInto_43 : decode cX2_joinInto 43 = .ok (.aload_n 3, 1) := by decide +kernel
theorem dX2_joinInto_44 : decode cX2_joinInto 44 = .ok (.invokevirtual 66, 3) := by decide +kernel
theorem dX2_joinInto_47 : decode cX2_joinInto 47 = .ok (.ireturn, 1) := by decide +kernel
theorem dX2_partInto_0 : decode cX2_partInto 0 = .ok (.aload_n 0, 1) := by decide +kernel
theorem dX2_partInto_1 : decode cX2_partInto 1 = .ok (.getfield 37, 3) := by decide +kernel
theorem dX2_partInto_4 : decode cX2_partInto 4 = .ok (.invokevirtual 55, 3) := by decide +kernel
theorem dX2_partInto_7 : decode cX2_partInto 7 = .ok (.aload_n 0, 1) := by decide +kernel
theorem dX2_partInto_8 : decode cX2_partInto 8 = .ok (.getfield 37, 3) := by decide +kernel
theorem dX2_partInto_11 : decode cX2_partInto 11 = .ok (.aload_n 1, 1) := by decide +kernel
theorem dX2_partInto_12 : decode cX2_partInto 12 = .ok (.iload_n 2, 1) := by decide +kernel
theorem dX2_partInto_13 : decode cX2_partInto 13 = .ok (.iload_n 3, 1) := by decide +kernel
theorem dX2_partInto_14 : decode cX2_partInto 14 = .ok (.invokevirtual 235, 3) := by decide +kernel
theorem dX2_partInto_17 : decode cX2_partInto 17 = .ok (.aload 4, 2) := by decide +kernel
theorem dX2_partInto_19 : decode cX2_partInto 19 = .ok (.aload_n 0, 1) := by decide +kernel
theorem dX2_partInto_20 : decode cX2_partInto 20 = .ok (.getfield 37, 3) := by decide +kernel
theorem dX2_partInto_23 : decode cX2_partInto 23 = .ok (.invokevirtual 91, 3) := by decide +kernel
theorem dX2_partInto_26 : decode cX2_partInto 26 = .ok (.aload 4, 2) := by decide +kernel
theorem dX2_partInto_28 : decode cX2_partInto 28 = .ok (.invokevirtual 66, 3) := by decide +kernel
theorem dX2_partInto_31 : decode cX2_partInto 31 = .ok (.ireturn, 1) := by decide +kernel
theorem dX2_pieceInto_0 : decode cX2_pieceInto 0 = .ok (.aload_n 0, 1) := by decide +kernel
theorem dX2_pieceInto_1 : decode cX2_pieceInto 1 = .ok (.aload_n 0, 1) := by decide +kernel
theorem dX2_pieceInto_2 : decode cX2_pieceInto 2 = .ok (.getfield 26, 3) := by decide +kernel
theorem dX2_pieceInto_5 : decode cX2_pieceInto 5 = .ok (.invokevirtual 239, 3) := by decide +kernel
theorem dX2_pieceInto_8 : decode cX2_pieceInto 8 = .ok (.aload_n 0, 1) := by decide +kernel
theorem dX2_pieceInto_9 : decode cX2_pieceInto 9 = .ok (.getfield 26, 3) := by decide +kernel
theorem dX2_pieceInto_12 : decode cX2_pieceInto 12 = .ok (.iload_n 1, 1) := by decide +kernel
theorem dX2_pieceInto_13 : decode cX2_pieceInto 13 = .ok (.invokevirtual 222, 3) := by decide +kernel
theorem dX2_pieceInto_16 : decode cX2_pieceInto 16 = .ok (.aload_n 0, 1) := by decide +kernel
theorem dX2_pieceInto_17 : decode cX2_pieceInto 17 = .ok (.getfield 26, 3) := by decide +kernel
theorem dX2_pieceInto_20 : decode cX2_pieceInto 20 = .ok (.iload_n 1, 1) := by decide +kernel
theorem dX2_pieceInto_21 : decode cX2_pieceInto 21 = .ok (.invokevirtual 219, 3) := by decide +kernel
theorem dX2_pieceInto_24 : decode cX2_pieceInto 24 = .ok (.aload_n 2, 1) := by decide +kernel
theorem dX2_pieceInto_25 : decode cX2_pieceInto 25 = .ok (.invokevirtual 70, 3) := by decide +kernel
theorem dX2_pieceInto_28 : decode cX2_pieceInto 28 = .ok (.ireturn, 1) := by decide +kernel
theorem dX2_wordOfKnown_0 : decode cX2_wordOfKnown 0 = .ok (.iload_n 0, 1) := by decide +kernel
theorem dX2_wordOfKnown_1 : decode cX2_wordOfKnown 1 = .ok (.tableswitch 57 1 6 #[39, 42, 45, 48, 51, 54], 39) := by decide +kernel
theorem dX2_wordOfKnown_40 : decode cX2_wordOfKnown 40 = .ok (.ldc 243, 2) := by decide +kernel
theorem dX2_wordOfKnown_42 : decode cX2_wordOfKnown 42 = .ok (.areturn, 1) := by decide +kernel
theorem dX2_wordOfKnown_43 : decode cX2_wordOfKnown 43 = .ok (.ldc 245, 2) := by decide +kernel
theorem dX2_wordOfKnown_45 : decode cX2_wordOfKnown 45 = .ok (.areturn, 1) := by decide +kernel
theorem dX2_wordOfKnown_46 : decode cX2_wordOfKnown 46 = .ok (.ldc 247, 2) := by decide +kernel
theorem dX2_wordOfKnown_48 : decode cX2_wordOfKnown 48 = .ok (.areturn, 1) := by decide +kernel
theorem dX2_wordOfKnown_49 : decode cX2_wordOfKnown 49 = .ok (.ldc 249, 2) := by decide +kernel
theorem dX2_wordOfKnown_51 : decode cX2_wordOfKnown 51 = .ok (.areturn, 1) := by decide +kernel
theorem dX2_wordOfKnown_52 : decode cX2_wordOfKnown 52 = .ok (.ldc 251, 2) := by decide +kernel
theorem dX2_wordOfKnown_54 : decode cX2_wordOfKnown 54 = .ok (.areturn, 1) := by decide +kernel
theorem dX2_wordOfKnown_55 : decode cX2_wordOfKnown 55 = .ok (.ldc 253, 2) := by decide +kernel
theorem dX2_wordOfKnown_57 : decode cX2_wordOfKnown 57 = .ok (.areturn, 1) := by decide +kernel
theorem dX2_wordOfKnown_58 : decode cX2_wordOfKnown 58 = .ok (.ldc 255, 2) := by decide +kernel
theorem dX2_wordOfKnown_60 : decode cX2_wordOfKnown 60 = .ok (.areturn, 1) := by decide +kernel
abbrev rmX2_addSignOrNone : Room := { frames := 7, cells := 1, slots := 6, locals := 109 }
theorem mX2_addSignOrNone {l : Launch} {G : Cx} {A : Nat → Prop} (hst : l.stackTraces = false) {SA : Nat → Nat} {T : Nat → List Nat} {es es2 : List Nat} {k : Int32} {x : Int32} (hAS : ∀ i : Nat, i < 39 → A (SA i)) : vx_Met l yX2_addSignOrNone (.code yX2_addSignOrNone cX2_addSignOrNone 2 (none : Option Jvm.ClassFile.FieldType) :: GW) rmX2_addSignOrNone (PC G A [.ref (SA 0), .int x] (SW G SA T es es2 k)) (qV A (fun H => ∃ w, addS (T 12) x w ∧ SW G SA (updT T 12 w) es es2 k H)) (xE A (fun E H => E = "java/lang/IllegalArgumentException" ∧ x ≠ -1 ∧ (¬ ∃ i : Nat, i < 24 ∧ x = nI i) ∧ SW G SA T es es2 k H)) 1 6 A := by
  refine mstartX "Signtext" (by decide +kernel) rfl (Nat.le_of_ble_eq_true rfl) ?_
  intro p e s m below meth c ls hx hb hr hts hown hml hlocks hnx hC hA hW hl
  have hl : lv_has ls 2 [(0, .ref (SA 0)), (1, .int x)] := hl
  have hK := hC.1
  have hS : va_S A s.heap s.heap [] := va_S.rf
  have hO := hW.2.1
  have hR1 := hW.2.2.1
  have hR2 := hW.2.2.2.1
  refine lv_iload_n hx hb dX2_addSignOrNone_0 rfl (lv_at hl 1 rfl) ?_
  refine lv_iconst (v := (-1)) hx hb dX2_addSignOrNone_1 (by decide) ?_
  refine lv_icmp_eq (tgt := 16) hx hb dX2_addSignOrNone_2 (by decide) (fun c_1 => ?_) (fun c_1 => ?_)
  · exact vx_ret (q_v hx hb hr hlocks dX2_addSignOrNone_16 hS (by omega) (by omega) ⟨T 12, Or.inl ⟨c_1, rfl⟩, by rw [updT_id]; exact hW⟩)
  · refine lv_aload_n hx hb dX2_addSignOrNone_5 rfl (lv_at hl 0 rfl) ?_
    refine va_get (D := G.1) (ci := 6) (C := RX2) (T := TX2) (N := 8) hx hb hts inX2 hown hK (at_P hO) 0 rfl rfl 5 (by decide) (hts _ tw_1_142) (fun _ h9 => h9) rfl dX2_addSignOrNone_6 ?_
    refine lv_iload_n hx hb dX2_addSignOrNone_9 rfl (lv_at hl 1 rfl) ?_
    refine xI_S (A := A) (A1 := A)  (As := [.int x]) (rest := .ref (SA 31) :: []) ⟨hx, hb, hml, hown, hts⟩ (mX2_codeOf (A := A) hst ) (va_cwS 1 hts (gS tw_3_27 tw_3_28 tw_1_1 tw_3_29) rfl rfl rfl (by decide +kernel) ⟨Nat.le_of_ble_eq_true rfl, Nat.le_of_ble_eq_true rfl⟩) hC hS (fun _ h => h) (fun q h => hA q (Nat.le_trans hS.1 h))  hW rfl rfl hl.1 (Nat.le_of_ble_eq_true rfl) ⟨Nat.le_trans (show 0 + 1 ≤ 1 by omega) (Nat.le_of_ble_eq_true rfl), Nat.le_trans (show 0 + 6 ≤ 6 by omega) (Nat.le_of_ble_eq_true rfl)⟩ dX2_addSignOrNone_10 hnx hlocks (by omega) (by omega) (fun E H9 q _ => ⟨q.1, c_1, q.2.1, q.2.2⟩) (fun rv2 H2 L2 hP2 hk2 hS => ?_)
    have hZ2 := hS.1
    obtain ⟨⟨i, hi, hxi, hrv⟩, hW⟩ := hP2
    subst hrv
    refine qV_V (A := A) (A1 := ow (SA (7 + 2 * 12)) (SA (8 + 2 * 12)) H2.size) (b := (SA 31)) (As := [.int (nI (codeT.getD i 0))]) (rest := []) ⟨hx, hb, hml, hown, hts⟩ (mX0_addCode (A := ow (SA (7 + 2 * 12)) (SA (8 + 2 * 12)) H2.size) (ca := SA (8 + 2 * 12)) (k0 := codeT.getD i 0) (Or.inl rfl) (Or.inr (Or.inl rfl)) (codeT_lt i)) (cwV 1 hts (gV tw_2_86 tw_1_134 tw_1_135 tw_1_2 tw_1_136) rfl rfl rfl (by decide +kernel) ⟨Nat.le_of_ble_eq_true rfl, Nat.le_of_ble_eq_true rfl⟩) hC hS (ow_in (hAS _ (by omega)) (hAS _ (by omega)) hA hS.1) ow_n ((hW.line (i := 12) (by omega)).recv hK) (hW.line (i := 12) (by omega)) rfl rfl hl.1 (Nat.le_of_ble_eq_true rfl) ⟨Nat.le_trans (show (0 + 1) ≤ 1 by omega) (Nat.le_of_ble_eq_true rfl), Nat.le_trans (show (0 + 6) ≤ 6 by omega) (Nat.le_of_ble_eq_true rfl)⟩ dX2_addSignOrNone_13 (fun H3 L3 hP3 hk3 hS => ?_)
    have hZ3 := hS.1
    have hW := hW.put (q := 12) (t := (T 12 ++ [codeT.getD i 0]).take 60) (by omega) hk3 hP3
    exact vx_ret (q_v hx hb hr hlocks dX2_addSignOrNone_16 hS (by omega) (by omega) ⟨_, Or.inr ⟨i, hi, hxi, rfl⟩, hW⟩)

abbrev rmX2_joinInto : Room := { frames := 7, cells := 1, slots := 6, locals := 109 }
theorem mX2_joinInto {l : Launch} {G : Cx} {A : Nat → Prop} (hst : l.stackTraces = false) {SA : Nat → Nat} {T : Nat → List Nat} {es es2 : List Nat} {k : Int32} {i j q : Nat} (hAS : ∀ i : Nat, i < 39 → A (SA i)) (hi : i < 16) (hj : j < 16) (hi13 : i ≠ 13) (hj13 : j ≠ 13) (hq : q < 4 ∨ 11 ≤ q ∧ q < 13) : vx_Met l yX2_joinInto (.code yX2_joinInto cX2_joinInto 4 (some .int) :: GW) rmX2_joinInto (PC G A [.ref (SA 0), .ref (SA (7 + 2 * i)), .ref (SA (7 + 2 * j)), .ref (SA (7 + 2 * q))] (SW G SA T es es2 k)) (qI A (fun r H => r = nI (T i ++ T j).length ∧ (T i ++ T j).length ≤ 60 ∧ SW G SA (updT (updT T 13 (T i ++ T j)) q (T i ++ T j)) es es2 k H)) (xE A (fun E H => E = "java/lang/IllegalStateException" ∧ 60 < (T i ++ T j).length ∧ SW G SA T es es2 k H)) 1 6 A := by
  refine mstartX "Signtext" (by decide +kernel) rfl (Nat.le_of_ble_eq_true rfl) ?_
  intro p e s m below meth c ls hx hb hr hts hown hml hlocks hnx hC hA hW hl
  have hl : lv_has ls 4 [(0, .ref (SA 0)), (1, .ref (SA (7 + 2 * i))), (2, .ref (SA (7 + 2 * j))), (3, .ref (SA (7 + 2 * q)))] := hl
  have hK := hC.1
  have hS : va_S A s.heap s.heap [] := va_S.rf
  have i60 := (hW.line hi).1
  have j60 := (hW.line hj).1
  have hlen : (T i ++ T j).length = (T i).length + (T j).length := List.length_append
  have hO := hW.2.1
  have hR1 := hW.2.2.1
  have hR2 := hW.2.2.2.1
  refine lv_aload_n hx hb dX2_joinInto_0 rfl (lv_at hl 1 rfl) ?_
  refine kV_i (A := A) (b := (SA (7 + 2 * i))) (As := []) (rest := []) ⟨hx, hb, hml, hown, hts⟩ (mX0_size (A := A) (ca := SA (8 + 2 * i))) (cwV 0 hts (gV tw_2_30 tw_2_12 tw_2_13 tw_1_2 tw_2_14) rfl rfl rfl (by decide +kernel) ⟨Nat.le_of_ble_eq_true rfl, Nat.le_of_ble_eq_true rfl⟩) hC hS hA ((hW.line hi).recv hK) (hW.line hi) rfl rfl hl.1 (Nat.le_of_ble_eq_true rfl) ⟨Nat.zero_le _, Nat.zero_le _⟩ dX2_joinInto_1 (fun r9 h9 => lv_cv h9 ?_)
  refine lv_aload_n hx hb dX2_joinInto_4 rfl (lv_at hl 2 rfl) ?_
  refine kV_i (A := A) (b := (SA (7 + 2 * j))) (As := []) (rest := .int (nI ((T i).length)) :: []) ⟨hx, hb, hml, hown, hts⟩ (mX0_size (A := A) (ca := SA (8 + 2 * j))) (cwV 0 hts (gV tw_2_30 tw_2_12 tw_2_13 tw_1_2 tw_2_14) rfl rfl rfl (by decide +kernel) ⟨Nat.le_of_ble_eq_true rfl, Nat.le_of_ble_eq_true rfl⟩) hC hS hA ((hW.line hj).recv hK) (hW.line hj) rfl rfl hl.1 (Nat.le_of_ble_eq_true rfl) ⟨Nat.zero_le _, Nat.zero_le _⟩ dX2_joinInto_5 (fun r9 h9 => lv_cv h9 ?_)
  refine lv_iadd hx hb dX2_joinInto_8 ?_
  refine lv_cv (nI_add ((T i).length) ((T j).length)) ?_
  rw [← hlen]
  refine xV_S (A := A) (A1 := A)  (As := [.int (nI ((T i ++ T j).length))]) (rest := []) ⟨hx, hb, hml, hown, hts⟩ (mX2_needRoom (A := A) hst (SA := SA) (T := T) (es := es) (es2 := es2) (k := k) (n := (T i ++ T j).length) (by omega)) (va_cwS 1 hts (gS tw_3_36 tw_3_37 tw_1_1 tw_3_38) rfl rfl rfl (by decide +kernel) ⟨Nat.le_of_ble_eq_true rfl, Nat.le_of_ble_eq_true rfl⟩) hC hS (fun _ h => h) (fun q h => hA q (Nat.le_trans hS.1 h))  hW rfl rfl hl.1 (Nat.le_of_ble_eq_true rfl) ⟨Nat.le_trans (show 0 + 1 ≤ 1 by omega) (Nat.le_of_ble_eq_true rfl), Nat.le_trans (show 0 + 6 ≤ 6 by omega) (Nat.le_of_ble_eq_true rfl)⟩ dX2_joinInto_9 hnx hlocks (by omega) (by omega) (fun E H9 q _ => q) (fun H4 L4 hP4 hk4 hS => ?_)
  have hZ4 := hS.1
  obtain ⟨h60, hW⟩ := hP4
  have hO := hW.2.1
  have hR1 := hW.2.2.1
  have hR2 := hW.2.2.2.1
  refine lv_aload_n hx hb dX2_joinInto_12 rfl (lv_at hl 0 rfl) ?_
  refine va_get (D := G.1) (ci := 6) (C := RX2) (T := TX2) (N := 8) hx hb hts inX2 hown hK (at_P hO) 0 rfl rfl 6 (by decide) (hts _ tw_1_143) (fun _ h9 => h9) rfl dX2_joinInto_13 ?_
  refine qV_V (A := A) (A1 := ow (SA (7 + 2 * 13)) (SA (8 + 2 * 13)) H4.size) (b := (SA 33)) (As := []) (rest := []) ⟨hx, hb, hml, hown, hts⟩ (mX0_empty (A := ow (SA (7 + 2 * 13)) (SA (8 + 2 * 13)) H4.size) (ca := SA (8 + 2 * 13)) (Or.inl rfl)) (cwV 0 hts (gV tw_2_31 tw_2_32 tw_2_33 tw_1_2 tw_2_34) rfl rfl rfl (by decide +kernel) ⟨Nat.le_of_ble_eq_true rfl, Nat.le_of_ble_eq_true rfl⟩) hC hS (ow_in (hAS _ (by omega)) (hAS _ (by omega)) hA hS.1) ow_n ((hW.line (i := 13) (by omega)).recv hK) (hW.line (i := 13) (by omega)) rfl rfl hl.1 (Nat.le_of_ble_eq_true rfl) ⟨Nat.le_trans (show (0 + 1) ≤ 1 by omega) (Nat.le_of_ble_eq_true rfl), Nat.le_trans (show (0 + 6) ≤ 6 by omega) (Nat.le_of_ble_eq_true rfl)⟩ dX2_joinInto_16 (fun H5 L5 hP5 hk5 hS => ?_)
  have hZ5 := hS.1
  have hW := hW.put (q := 13) (t := []) (by omega) hk5 hP5
  have hO := hW.2.1
  have hR1 := hW.2.2.1
  have hR2 := hW.2.2.2.1
  refine lv_aload_n hx hb dX2_joinInto_19 rfl (lv_at hl 0 rfl) ?_
  refine va_get (D := G.1) (ci := 6) (C := RX2) (T := TX2) (N := 8) hx hb hts inX2 hown hK (at_P hO) 0 rfl rfl 6 (by decide) (hts _ tw_1_143) (fun _ h9 => h9) rfl dX2_joinInto_20 ?_
  refine lv_aload_n hx hb dX2_joinInto_23 rfl (lv_at hl 1 rfl) ?_
  have e1 : updT T 13 [] i = T i := updT_n hi13
  have e2 : updT T 13 [] j = T j := updT_n hj13
  refine qV_V (A := A) (A1 := ow (SA (7 + 2 * 13)) (SA (8 + 2 * 13)) H5.size) (b := (SA 33)) (As := [.ref (SA (7 + 2 * i))]) (rest := []) ⟨hx, hb, hml, hown, hts⟩ (mX0_addAll (A := ow (SA (7 + 2 * 13)) (SA (8 + 2 * 13)) H5.size) (ca := SA (8 + 2 * 13)) (cb := SA (8 + 2 * i)) (t := []) (u := T i) (Or.inl rfl) (Or.inr (Or.inl rfl)) ⟨hW.ne (i := 7 + 2 * i) (j := 7 + 2 * 13) (by omega) (by omega) (by omega), hW.ne (i := 7 + 2 * i) (j := 8 + 2 * 13) (by omega) (by omega) (by omega), hW.ne (i := 8 + 2 * i) (j := 7 + 2 * 13) (by omega) (by omega) (by omega), hW.ne (i := 8 + 2 * i) (j := 8 + 2 * 13) (by omega) (by omega) (by omega)⟩) (cwV 1 hts (gV tw_3_54 tw_3_55 tw_3_56 tw_1_2 tw_3_57) rfl rfl rfl (by decide +kernel) ⟨Nat.le_of_ble_eq_true rfl, Nat.le_of_ble_eq_true rfl⟩) hC hS (ow_in (hAS _ (by omega)) (hAS _ (by omega)) hA hS.1) ow_n ((hW.line (i := 13) (by omega)).recv hK) ⟨by have h := hW.line (i := 13) (by omega); rw [updT_s] at h; exact h, by rw [← e1]; exact hW.line hi⟩ rfl rfl hl.1 (Nat.le_of_ble_eq_true rfl) ⟨Nat.le_trans (show (0 + 1) ≤ 1 by omega) (Nat.le_of_ble_eq_true rfl), Nat.le_trans (show (0 + 6) ≤ 6 by omega) (Nat.le_of_ble_eq_true rfl)⟩ dX2_joinInto_24 (fun H6 L6 hP6 hk6 hS => ?_)
  have hZ6 := hS.1
  have hW := hW.put (q := 13) (t := T i) (by omega) hk6 (by have h := hP6.1; rw [List.nil_append, List.take_of_length_le i60] at h; exact h)
  rw [updT_2] at hW
  have hO := hW.2.1
  have hR1 := hW.2.2.1
  have hR2 := hW.2.2.2.1
  refine lv_aload_n hx hb dX2_joinInto_27 rfl (lv_at hl 0 rfl) ?_
  refine va_get (D := G.1) (ci := 6) (C := RX2) (T := TX2) (N := 8) hx hb hts inX2 hown hK (at_P hO) 0 rfl rfl 6 (by decide) (hts _ tw_1_143) (fun _ h9 => h9) rfl dX2_joinInto_28 ?_
  refine lv_aload_n hx hb dX2_joinInto_31 rfl (lv_at hl 2 rfl) ?_
  have e2 : updT T 13 (T i) j = T j := updT_n hj13
  refine qV_V (A := A) (A1 := ow (SA (7 + 2 * 13)) (SA (8 + 2 * 13)) H6.size) (b := (SA 33)) (As := [.ref (SA (7 + 2 * j))]) (rest := []) ⟨hx, hb, hml, hown, hts⟩ (mX0_addAll (A := ow (SA (7 + 2 * 13)) (SA (8 + 2 * 13)) H6.size) (ca := SA (8 + 2 * 13)) (cb := SA (8 + 2 * j)) (t := T i) (u := T j) (Or.inl rfl) (Or.inr (Or.inl rfl)) ⟨hW.ne (i := 7 + 2 * j) (j := 7 + 2 * 13) (by omega) (by omega) (by omega), hW.ne (i := 7 + 2 * j) (j := 8 + 2 * 13) (by omega) (by omega) (by omega), hW.ne (i := 8 + 2 * j) (j := 7 + 2 * 13) (by omega) (by omega) (by omega), hW.ne (i := 8 + 2 * j) (j := 8 + 2 * 13) (by omega) (by omega) (by omega)⟩) (cwV 1 hts (gV tw_3_54 tw_3_55 tw_3_56 tw_1_2 tw_3_57) rfl rfl rfl (by decide +kernel) ⟨Nat.le_of_ble_eq_true rfl, Nat.le_of_ble_eq_true rfl⟩) hC hS (ow_in (hAS _ (by omega)) (hAS _ (by omega)) hA hS.1) ow_n ((hW.line (i := 13) (by omega)).recv hK) ⟨by have h := hW.line (i := 13) (by omega); rw [updT_s] at h; exact h, by rw [← e2]; exact hW.line hj⟩ rfl rfl hl.1 (Nat.le_of_ble_eq_true rfl) ⟨Nat.le_trans (show (0 + 1) ≤ 1 by omega) (Nat.le_of_ble_eq_true rfl), Nat.le_trans (show (0 + 6) ≤ 6 by omega) (Nat.le_of_ble_eq_true rfl)⟩ dX2_joinInto_32 (fun H7 L7 hP7 hk7 hS => ?_)
  have hZ7 := hS.1
  have hW := hW.put (q := 13) (t := T i ++ T j) (by omega) hk7 (by have h := hP7.1; rw [List.take_of_length_le h60] at h; exact h)
  rw [updT_2] at hW
  have hO := hW.2.1
  have hR1 := hW.2.2.1
  have hR2 := hW.2.2.2.1
  refine lv_aload_n hx hb dX2_joinInto_35 rfl (lv_at hl 3 rfl) ?_
  refine lv_aload_n hx hb dX2_joinInto_36 rfl (lv_at hl 0 rfl) ?_
  refine va_get (D := G.1) (ci := 6) (C := RX2) (T := TX2) (N := 8) hx hb hts inX2 hown hK (at_P hO) 0 rfl rfl 6 (by decide) (hts _ tw_1_143) (fun _ h9 => h9) rfl dX2_joinInto_37 ?_
  have e3 : updT T 13 (T i ++ T j) q = T q := updT_n (by omega)
  refine qV_V (A := A) (A1 := ow (SA (7 + 2 * q)) (SA (8 + 2 * q)) H7.size) (b := (SA (7 + 2 * q))) (As := [.ref (SA 33)]) (rest := []) ⟨hx, hb, hml, hown, hts⟩ (mX0_become (A := ow (SA (7 + 2 * q)) (SA (8 + 2 * q)) H7.size) (ca := SA (8 + 2 * q)) (cb := SA (8 + 2 * 13)) (t := T q) (u := T i ++ T j) (Or.inl rfl) (Or.inr (Or.inl rfl)) ⟨hW.ne (i := 7 + 2 * 13) (j := 7 + 2 * q) (by omega) (by omega) (by omega), hW.ne (i := 7 + 2 * 13) (j := 8 + 2 * q) (by omega) (by omega) (by omega), hW.ne (i := 8 + 2 * 13) (j := 7 + 2 * q) (by omega) (by omega) (by omega), hW.ne (i := 8 + 2 * 13) (j := 8 + 2 * q) (by omega) (by omega) (by omega)⟩) (cwV 1 hts (gV tw_2_3 tw_2_4 tw_2_5 tw_1_2 tw_2_6) rfl rfl rfl (by decide +kernel) ⟨Nat.le_of_ble_eq_true rfl, Nat.le_of_ble_eq_true rfl⟩) hC hS (ow_in (hAS _ (by omega)) (hAS _ (by omega)) hA hS.1) ow_n ((hW.line (i := q) (by omega)).recv hK) ⟨by rw [← e3]; exact hW.line (i := q) (by omega), by have h := hW.line (i := 13) (by omega); rw [updT_s] at h; exact h⟩ rfl rfl hl.1 (Nat.le_of_ble_eq_true rfl) ⟨Nat.le_trans (show (0 + 1) ≤ 1 by omega) (Nat.le_of_ble_eq_true rfl), Nat.le_trans (show (0 + 6) ≤ 6 by omega) (Nat.le_of_ble_eq_true rfl)⟩ dX2_joinInto_40 (fun H8 L8 hP8 hk8 hS => ?_)
  have hZ8 := hS.1
  have hW := hW.put (q := q) (t := T i ++ T j) (by omega) hk8 hP8.1
  refine lv_aload_n hx hb dX2_joinInto_43 rfl (lv_at hl 3 rfl) ?_
  have hLq := hW.line (i := q) (by omega)
  rw [updT_s] at hLq
  refine kV_i (A := A) (b := (SA (7 + 2 * q))) (As := []) (rest := []) ⟨hx, hb, hml, hown, hts⟩ (mX0_size (A := A) (ca := SA (8 + 2 * q))) (cwV 0 hts (gV tw_2_30 tw_2_12 tw_2_13 tw_1_2 tw_2_14) rfl rfl rfl (by decide +kernel) ⟨Nat.le_of_ble_eq_true rfl, Nat.le_of_ble_eq_true rfl⟩) hC hS hA (hLq.recv hK) hLq rfl rfl hl.1 (Nat.le_of_ble_eq_true rfl) ⟨Nat.le_trans (show (0 + 1) ≤ 1 by omega) (Nat.le_of_ble_eq_true rfl), Nat.le_trans (show (0 + 6) ≤ 6 by omega) (Nat.le_of_ble_eq_true rfl)⟩ dX2_joinInto_44 (fun r9 h9 => lv_cv h9 ?_)
  exact vx_ret (q_i hx hb hr hlocks dX2_joinInto_47 hS (by omega) (by omega) ⟨rfl, h60, hW⟩)

abbrev rmX2_partInto : Room := { frames := 3, cells := 0, slots := 0, locals := 65 }
theorem mX2_partInto {l : Launch} {G : Cx} {A : Nat → Prop} {SA : Nat → Nat} {T : Nat → List Nat} {es es2 : List Nat} {k : Int32} {i q a9 b9 : Nat} (hAS : ∀ i : Nat, i < 39 → A (SA i)) (hi : i < 16) (hi13 : i ≠ 13) (hq : q < 4 ∨ 11 ≤ q ∧ q < 13) (hab : a9 ≤ b9) (hb9 : b9 ≤ (T i).length) : Met l yX2_partInto (.code yX2_partInto cX2_partInto 5 (some .int) :: GW) rmX2_partInto (PC G A [.ref (SA 0), .ref (SA (7 + 2 * i)), .int (nI a9), .int (nI b9), .ref (SA (7 + 2 * q))] (SW G SA T es es2 k)) (qI A (fun r H => r = nI (cutL (T i) a9 b9).length ∧ SW G SA (updT (updT T 13 (cutL (T i) a9 b9)) q (cutL (T i) a9 b9)) es es2 k H)) 0 0 (A) := by
  refine mstart "Signtext" (by decide +kernel) rfl (Nat.le_of_ble_eq_true rfl) ?_
  intro p e s m below meth c ls hx hb hr hts hown hml hlocks hname hC hA hW hl
  have hl : lv_has ls 5 [(0, .ref (SA 0)), (1, .ref (SA (7 + 2 * i))), (2, .int (nI a9)), (3, .int (nI b9)), (4, .ref (SA (7 + 2 * q)))] := hl
  have hK := hC.1
  have hS : va_S A s.heap s.heap [] := va_S.rf
  have i60 := (hW.line hi).1
  have h60 : (cutL (T i) a9 b9).length ≤ 60 := Nat.le_trans (cutL_le _ _ _) i60
  have hO := hW.2.1
  have hR1 := hW.2.2.1
  have hR2 := hW.2.2.2.1
  refine lv_aload_n hx hb dX2_partInto_0 rfl (lv_at hl 0 rfl) ?_
  refine va_get (D := G.1) (ci := 6) (C := RX2) (T := TX2) (N := 8) hx hb hts inX2 hown hK (at_P hO) 0 rfl rfl 6 (by decide) (hts _ tw_1_143) (fun _ h9 => h9) rfl dX2_partInto_1 ?_
  refine qV_V (A := A) (A1 := ow (SA (7 + 2 * 13)) (SA (8 + 2 * 13)) s.heap.size) (b := (SA 33)) (As := []) (rest := []) ⟨hx, hb, hml, hown, hts⟩ (mX0_empty (A := ow (SA (7 + 2 * 13)) (SA (8 + 2 * 13)) s.heap.size) (ca := SA (8 + 2 * 13)) (Or.inl rfl)) (cwV 0 hts (gV tw_2_31 tw_2_32 tw_2_33 tw_1_2 tw_2_34) rfl rfl rfl (by decide +kernel) ⟨Nat.le_of_ble_eq_true rfl, Nat.le_of_ble_eq_true rfl⟩) hC hS (ow_in (hAS _ (by omega)) (hAS _ (by omega)) hA (Nat.le_refl _)) ow_n ((hW.line (i := 13) (by omega)).recv hK) (hW.line (i := 13) (by omega)) rfl rfl hl.1 (Nat.le_of_ble_eq_true rfl) ⟨Nat.zero_le _, Nat.zero_le _⟩ dX2_partInto_4 (fun H9 L9 hP9 hk9 hS => ?_)
  have hZ9 := hS.1
  have hW := hW.put (q := 13) (t := []) (by omega) hk9 hP9
  have hO := hW.2.1
  have hR1 := hW.2.2.1
  have hR2 := hW.2.2.2.1
  refine lv_aload_n hx hb dX2_partInto_7 rfl (lv_at hl 0 rfl) ?_
  refine va_get (D := G.1) (ci := 6) (C := RX2) (T := TX2) (N := 8) hx hb hts inX2 hown hK (at_P hO) 0 rfl rfl 6 (by decide) (hts _ tw_1_143) (fun _ h9 => h9) rfl dX2_partInto_8 ?_
  refine lv_aload_n hx hb dX2_partInto_11 rfl (lv_at hl 1 rfl) ?_
  refine lv_iload_n hx hb dX2_partInto_12 rfl (lv_at hl 2 rfl) ?_
  refine lv_iload_n hx hb dX2_partInto_13 rfl (lv_at hl 3 rfl) ?_
  have e1 : updT T 13 [] i = T i := updT_n hi13
  refine qV_V (A := A) (A1 := ow (SA (7 + 2 * 13)) (SA (8 + 2 * 13)) H9.size) (b := (SA 33)) (As := [.ref (SA (7 + 2 * i)), .int (nI a9), .int (nI b9)]) (rest := []) ⟨hx, hb, hml, hown, hts⟩ (mX0_addPart (A := ow (SA (7 + 2 * 13)) (SA (8 + 2 * 13)) H9.size) (ca := SA (8 + 2 * 13)) (cb := SA (8 + 2 * i)) (t := []) (u := T i) (i := a9) (i2 := b9) (Or.inl rfl) (Or.inr (Or.inl rfl)) ⟨hW.ne (i := 7 + 2 * i) (j := 7 + 2 * 13) (by omega) (by omega) (by omega), hW.ne (i := 7 + 2 * i) (j := 8 + 2 * 13) (by omega) (by omega) (by omega), hW.ne (i := 8 + 2 * i) (j := 7 + 2 * 13) (by omega) (by omega) (by omega), hW.ne (i := 8 + 2 * i) (j := 8 + 2 * 13) (by omega) (by omega) (by omega)⟩ hab hb9) (cwV 3 hts (gV tw_2_35 tw_2_36 tw_2_37 tw_1_2 tw_2_38) rfl rfl rfl (by decide +kernel) ⟨Nat.le_of_ble_eq_true rfl, Nat.le_of_ble_eq_true rfl⟩) hC hS (ow_in (hAS _ (by omega)) (hAS _ (by omega)) hA hS.1) ow_n ((hW.line (i := 13) (by omega)).recv hK) ⟨by have h := hW.line (i := 13) (by omega); rw [updT_s] at h; exact h, by rw [← e1]; exact hW.line hi⟩ rfl rfl hl.1 (Nat.le_of_ble_eq_true rfl) ⟨Nat.zero_le _, Nat.zero_le _⟩ dX2_partInto_14 (fun H10 L10 hP10 hk10 hS => ?_)
  have hZ10 := hS.1
  have hW := hW.put (q := 13) (t := cutL (T i) a9 b9) (by omega) hk10 (by have h := hP10.1; rw [List.nil_append, List.take_of_length_le h60] at h; exact h)
  rw [updT_2] at hW
  have hO := hW.2.1
  have hR1 := hW.2.2.1
  have hR2 := hW.2.2.2.1
  refine lv_aload hx hb dX2_partInto_17 (lv_at hl 4 rfl) ?_
  refine lv_aload_n hx hb dX2_partInto_19 rfl (lv_at hl 0 rfl) ?_
  refine va_get (D := G.1) (ci := 6) (C := RX2) (T := TX2) (N := 8) hx hb hts inX2 hown hK (at_P hO) 0 rfl rfl 6 (by decide) (hts _ tw_1_143) (fun _ h9 => h9) rfl dX2_partInto_20 ?_
  have e3 : updT T 13 (cutL (T i) a9 b9) q = T q := updT_n (by omega)
  refine qV_V (A := A) (A1 := ow (SA (7 + 2 * q)) (SA (8 + 2 * q)) H10.size) (b := (SA (7 + 2 * q))) (As := [.ref (SA 33)]) (rest := []) ⟨hx, hb, hml, hown, hts⟩ (mX0_become (A := ow (SA (7 + 2 * q)) (SA (8 + 2 * q)) H10.size) (ca := SA (8 + 2 * q)) (cb := SA (8 + 2 * 13)) (t := T q) (u := cutL (T i) a9 b9) (Or.inl rfl) (Or.inr (Or.inl rfl)) ⟨hW.ne (i := 7 + 2 * 13) (j := 7 + 2 * q) (by omega) (by omega) (by omega), hW.ne (i := 7 + 2 * 13) (j := 8 + 2 * q) (by omega) (by omega) (by omega), hW.ne (i := 8 + 2 * 13) (j := 7 + 2 * q) (by omega) (by omega) (by omega), hW.ne (i := 8 + 2 * 13) (j := 8 + 2 * q) (by omega) (by omega) (by omega)⟩) (cwV 1 hts (gV tw_2_3 tw_2_4 tw_2_5 tw_1_2 tw_2_6) rfl rfl rfl (by decide +kernel) ⟨Nat.le_of_ble_eq_true rfl, Nat.le_of_ble_eq_true rfl⟩) hC hS (ow_in (hAS _ (by omega)) (hAS _ (by omega)) hA hS.1) ow_n ((hW.line (i := q) (by omega)).recv hK) ⟨by rw [← e3]; exact hW.line (i := q) (by omega), by have h := hW.line (i := 13) (by omega); rw [updT_s] at h; exact h⟩ rfl rfl hl.1 (Nat.le_of_ble_eq_true rfl) ⟨Nat.zero_le _, Nat.zero_le _⟩ dX2_partInto_23 (fun H11 L11 hP11 hk11 hS => ?_)
  have hZ11 := hS.1
  have hW := hW.put (q := q) (t := cutL (T i) a9 b9) (by omega) hk11 hP11.1
  refine lv_aload hx hb dX2_partInto_26 (lv_at hl 4 rfl) ?_
  have hLq := hW.line (i := q) (by omega)
  rw [updT_s] at hLq
  refine kV_i (A := A) (b := (SA (7 + 2 * q))) (As := []) (rest := []) ⟨hx, hb, hml, hown, hts⟩ (mX0_size (A := A) (ca := SA (8 + 2 * q))) (cwV 0 hts (gV tw_2_30 tw_2_12 tw_2_13 tw_1_2 tw_2_14) rfl rfl rfl (by decide +kernel) ⟨Nat.le_of_ble_eq_true rfl, Nat.le_of_ble_eq_true rfl⟩) hC hS hA (hLq.recv hK) hLq rfl rfl hl.1 (Nat.le_of_ble_eq_true rfl) ⟨Nat.zero_le _, Nat.zero_le _⟩ dX2_partInto_28 (fun r9 h9 => lv_cv h9 ?_)
  exact q_i hx hb hr hlocks dX2_partInto_31 hS (Nat.le_refl _) (Nat.le_refl _) ⟨rfl, hW⟩

abbrev rmX2_pieceInto : Room := { frames := 4, cells := 0, slots := 0, locals := 89 }
theorem mX2_pieceInto {l : Launch} {G : Cx} {A : Nat → Prop} {SA : Nat → Nat} {T : Nat → List Nat} {es es2 : List Nat} {k : Int32} {q j : Nat} (hAS : ∀ i : Nat, i < 39 → A (SA i)) (hq : q < 4 ∨ 11 ≤ q ∧ q < 13) (hj : j < es.length) : Met l yX2_pieceInto (.code yX2_pieceInto cX2_pieceInto 3 (some .int) :: GW) rmX2_pieceInto (PC G A [.ref (SA 0), .int (nI j), .ref (SA (7 + 2 * q))] (SW G SA T es es2 k)) (qI A (fun r H => r = nI (cutL (T 14) (bgE es j) (es.getD j 0)).length ∧ SW G SA (updT (updT T 13 (cutL (T 14) (bgE es j) (es.getD j 0))) q (cutL (T 14) (bgE es j) (es.getD j 0))) es es2 k H)) 0 0 (A) := by
  refine mstart "Signtext" (by decide +kernel) rfl (Nat.le_of_ble_eq_true rfl) ?_
  intro p e s m below meth c ls hx hb hr hts hown hml hlocks hname hC hA hW hl
  have hl : lv_has ls 3 [(0, .ref (SA 0)), (1, .int (nI j)), (2, .ref (SA (7 + 2 * q)))] := hl
  have hK := hC.1
  have hS : va_S A s.heap s.heap [] := va_S.rf
  have hPB := hW.pcs.1
  have e61 := hPB.1
  have hok := hW.pcs.2.2.1 j hj
  have hO := hW.2.1
  have hR1 := hW.2.2.1
  have hR2 := hW.2.2.2.1
  refine lv_aload_n hx hb dX2_pieceInto_0 rfl (lv_at hl 0 rfl) ?_
  refine lv_aload_n hx hb dX2_pieceInto_1 rfl (lv_at hl 0 rfl) ?_
  refine va_get (D := G.1) (ci := 6) (C := RX2) (T := TX2) (N := 8) hx hb hts inX2 hown hK (at_P hO) 0 rfl rfl 3 (by decide) (hts _ tw_1_140) (fun _ h9 => h9) rfl dX2_pieceInto_2 ?_
  refine kV_a (A := A) (b := (SA 3)) (As := []) (rest := .ref (SA 0) :: []) ⟨hx, hb, hml, hown, hts⟩ (mX1_line (A := A) (la := SA 35) (ea := SA 4)) (cwV 0 hts (gV tw_2_87 tw_2_88 tw_2_89 tw_1_3 tw_2_90) rfl rfl rfl (by decide +kernel) ⟨Nat.le_of_ble_eq_true rfl, Nat.le_of_ble_eq_true rfl⟩) hC hS hA (hPB.recv hK) hPB rfl rfl hl.1 (Nat.le_of_ble_eq_true rfl) ⟨Nat.zero_le _, Nat.zero_le _⟩ dX2_pieceInto_5 (fun a_12 ha_12 => ?_)
  obtain rfl : a_12 = SA 35 := ha_12
  refine lv_aload_n hx hb dX2_pieceInto_8 rfl (lv_at hl 0 rfl) ?_
  refine va_get (D := G.1) (ci := 6) (C := RX2) (T := TX2) (N := 8) hx hb hts inX2 hown hK (at_P hO) 0 rfl rfl 3 (by decide) (hts _ tw_1_140) (fun _ h9 => h9) rfl dX2_pieceInto_9 ?_
  refine lv_iload_n hx hb dX2_pieceInto_12 rfl (lv_at hl 1 rfl) ?_
  refine kV_i (A := A) (b := (SA 3)) (As := [.int (nI j)]) (rest := .ref (SA 35) :: .ref (SA 0) :: []) ⟨hx, hb, hml, hown, hts⟩ (mX1_beginOf (A := A) (la := SA 35) (ea := SA 4) (es := es) (k := j) (by omega)) (cwV 1 hts (gV tw_2_91 tw_2_75 tw_2_76 tw_1_3 tw_2_77) rfl rfl rfl (by decide +kernel) ⟨Nat.le_of_ble_eq_true rfl, Nat.le_of_ble_eq_true rfl⟩) hC hS hA (hPB.recv hK) hPB rfl rfl hl.1 (Nat.le_of_ble_eq_true rfl) ⟨Nat.zero_le _, Nat.zero_le _⟩ dX2_pieceInto_13 (fun r9 h9 => lv_cv h9 ?_)
  refine lv_aload_n hx hb dX2_pieceInto_16 rfl (lv_at hl 0 rfl) ?_
  refine va_get (D := G.1) (ci := 6) (C := RX2) (T := TX2) (N := 8) hx hb hts inX2 hown hK (at_P hO) 0 rfl rfl 3 (by decide) (hts _ tw_1_140) (fun _ h9 => h9) rfl dX2_pieceInto_17 ?_
  refine lv_iload_n hx hb dX2_pieceInto_20 rfl (lv_at hl 1 rfl) ?_
  refine kV_i (A := A) (b := (SA 3)) (As := [.int (nI j)]) (rest := .int (nI (bgE es j)) :: .ref (SA 35) :: .ref (SA 0) :: []) ⟨hx, hb, hml, hown, hts⟩ (mX1_endOf (A := A) (la := SA 35) (ea := SA 4) (es := es) (k := j) hj) (cwV 1 hts (gV tw_2_92 tw_2_79 tw_2_80 tw_1_3 tw_2_81) rfl rfl rfl (by decide +kernel) ⟨Nat.le_of_ble_eq_true rfl, Nat.le_of_ble_eq_true rfl⟩) hC hS hA (hPB.recv hK) hPB rfl rfl hl.1 (Nat.le_of_ble_eq_true rfl) ⟨Nat.zero_le _, Nat.zero_le _⟩ dX2_pieceInto_21 (fun r9 h9 => lv_cv h9 ?_)
  refine lv_aload_n hx hb dX2_pieceInto_24 rfl (lv_at hl 2 rfl) ?_
  refine qI_V (A := A) (A1 := A) (b := (SA 0)) (As := [.ref (SA 35), .int (nI (bgE es j)), .int (nI (es.getD j 0)), .ref (SA (7 + 2 * q))]) (rest := []) ⟨hx, hb, hml, hown, hts⟩ (mX2_partInto (A := A) (SA := SA) (T := T) (es := es) (es2 := es2) (k := k) (i := 14) (q := q) (a9 := bgE es j) (b9 := es.getD j 0) hAS (by decide) (by decide) hq hok.1 hok.2) (cwV 4 hts (gV tw_2_55 tw_2_57 sel_X2_partInto tw_1_1 tw_2_58) rfl rfl rfl (by decide +kernel) ⟨Nat.le_of_ble_eq_true rfl, Nat.le_of_ble_eq_true rfl⟩) hC hS (fun _ h => h) (fun q h => hA q (Nat.le_trans hS.1 h)) (hW.recv hK) hW rfl rfl hl.1 (Nat.le_of_ble_eq_true rfl) ⟨Nat.zero_le _, Nat.zero_le _⟩ dX2_pieceInto_25 (fun rv13 H13 L13 hP13 hk13 hS => ?_)
  have hZ13 := hS.1
  exact q_i hx hb hr hlocks dX2_pieceInto_28 hS (Nat.le_refl _) (Nat.le_refl _) hP13

abbrev rmX2_addMade : Room := { frames := 8, cells := 1, slots := 6, locals := 132 }
theorem mX2_addMade {l : Launch} {G : Cx} {A : Nat → Prop} (hst : l.stackTraces = false) {SA : Nat → Nat} {T : Nat → List Nat} {es es2 : List Nat} {k : Int32} {i : Nat} {b : Bool} (hAS : ∀ i : Nat, i < 39 → A (SA i)) (hi : i < 4) : vx_Met l yX2_addMade (.code yX2_addMade cX2_addMade 3 (some .int) :: GW) rmX2_addMade (PC G A [.ref (SA 0), .ref (SA (7 + 2 * i)), .int (bI b)] (SW G SA T es es2 k)) (qI A (fun r H => r = nI ((if b then T 12 ++ T i else T i ++ T 12)).length ∧ ((if b then T 12 ++ T i else T i ++ T 12)).length ≤ 60 ∧ SW G SA (updT (updT T 13 (if b then T 12 ++ T i else T i ++ T 12)) i (if b then T 12 ++ T i else T i ++ T 12)) es es2 k H)) (xE A (fun E H => E = "java/lang/IllegalStateException" ∧ 60 < ((if b then T 12 ++ T i else T i ++ T 12)).length ∧ SW G SA T es es2 k H)) 1 6 A := by
  refine mstartX "Signtext" (by decide +kernel) rfl (Nat.le_of_ble_eq_true rfl) ?_
  intro p e s m below meth c ls hx hb hr hts hown hml hlocks hnx hC hA hW hl
  have hl : lv_has ls 3 [(0, .ref (SA 0)), (1, .ref (SA (7 + 2 * i))), (2, .int (bI b))] := hl
  have hK := hC.1
  have hS : va_S A s.heap s.heap [] := va_S.rf
  have hO := hW.2.1
  have hR1 := hW.2.2.1
  have hR2 := hW.2.2.2.1
  refine lv_iload_n hx hb dX2_addMade_0 rfl (lv_at hl 2 rfl) ?_
  refine f_eq (tgt := 17) hx hb dX2_addMade_1 (by decide) (fun c_14 => ?_) (fun c_14 => ?_)
  · subst c_14
    refine lv_aload_n hx hb dX2_addMade_17 rfl (lv_at hl 0 rfl) ?_
    refine lv_aload_n hx hb dX2_addMade_18 rfl (lv_at hl 1 rfl) ?_
    refine lv_aload_n hx hb dX2_addMade_19 rfl (lv_at hl 0 rfl) ?_
    refine va_get (D := G.1) (ci := 6) (C := RX2) (T := TX2) (N := 8) hx hb hts inX2 hown hK (at_P hO) 0 rfl rfl 5 (by decide) (hts _ tw_1_142) (fun _ h9 => h9) rfl dX2_addMade_20 ?_
    refine lv_aload_n hx hb dX2_addMade_23 rfl (lv_at hl 1 rfl) ?_
    refine xI_V (A := A) (A1 := A) (b := (SA 0)) (As := [.ref (SA (7 + 2 * i)), .ref (SA 31), .ref (SA (7 + 2 * i))]) (rest := []) ⟨hx, hb, hml, hown, hts⟩ (mX2_joinInto (A := A) hst (SA := SA) (T := T) (es := es) (es2 := es2) (k := k) (i := i) (j := 12) (q := i) hAS (by omega) (by omega) (by omega) (by omega) (by omega)) (cwV 3 hts (gV tw_3_32 tw_3_34 sel_X2_joinInto tw_1_1 tw_3_35) rfl rfl rfl (by decide +kernel) ⟨Nat.le_of_ble_eq_true rfl, Nat.le_of_ble_eq_true rfl⟩) hC hS (fun _ h => h) (fun q h => hA q (Nat.le_trans hS.1 h)) (hW.recv hK) hW rfl rfl hl.1 (Nat.le_of_ble_eq_true rfl) ⟨Nat.le_trans (show 0 + 1 ≤ 1 by omega) (Nat.le_of_ble_eq_true rfl), Nat.le_trans (show 0 + 6 ≤ 6 by omega) (Nat.le_of_ble_eq_true rfl)⟩ dX2_addMade_24 hnx hlocks (by omega) (by omega) (fun E H9 q _ => q) (fun rv15 H15 L15 hP15 hk15 hS => ?_)
    have hZ15 := hS.1
    exact vx_ret (q_i hx hb hr hlocks dX2_addMade_27 hS (by omega) (by omega) hP15)
  · subst c_14
    refine lv_aload_n hx hb dX2_addMade_4 rfl (lv_at hl 0 rfl) ?_
    refine lv_aload_n hx hb dX2_addMade_5 rfl (lv_at hl 0 rfl) ?_
    refine va_get (D := G.1) (ci := 6) (C := RX2) (T := TX2) (N := 8) hx hb hts inX2 hown hK (at_P hO) 0 rfl rfl 5 (by decide) (hts _ tw_1_142) (fun _ h9 => h9) rfl dX2_addMade_6 ?_
    refine lv_aload_n hx hb dX2_addMade_9 rfl (lv_at hl 1 rfl) ?_
    refine lv_aload_n hx hb dX2_addMade_10 rfl (lv_at hl 1 rfl) ?_
    refine xI_V (A := A) (A1 := A) (b := (SA 0)) (As := [.ref (SA 31), .ref (SA (7 + 2 * i)), .ref (SA (7 + 2 * i))]) (rest := []) ⟨hx, hb, hml, hown, hts⟩ (mX2_joinInto (A := A) hst (SA := SA) (T := T) (es := es) (es2 := es2) (k := k) (i := 12) (j := i) (q := i) hAS (by omega) (by omega) (by omega) (by omega) (by omega)) (cwV 3 hts (gV tw_3_32 tw_3_34 sel_X2_joinInto tw_1_1 tw_3_35) rfl rfl rfl (by decide +kernel) ⟨Nat.le_of_ble_eq_true rfl, Nat.le_of_ble_eq_true rfl⟩) hC hS (fun _ h => h) (fun q h => hA q (Nat.le_trans hS.1 h)) (hW.recv hK) hW rfl rfl hl.1 (Nat.le_of_ble_eq_true rfl) ⟨Nat.le_trans (show 0 + 1 ≤ 1 by omega) (Nat.le_of_ble_eq_true rfl), Nat.le_trans (show 0 + 6 ≤ 6 by omega) (Nat.le_of_ble_eq_true rfl)⟩ dX2_addMade_11 hnx hlocks (by omega) (by omega) (fun E H9 q _ => q) (fun rv16 H16 L16 hP16 hk16 hS => ?_)
    have hZ16 := hS.1
    refine lv_goto (tgt := 27) hx hb dX2_addMade_14 (by decide) ?_
    exact vx_ret (q_i hx hb hr hlocks dX2_addMade_27 hS (by omega) (by omega) hP16)

abbrev rmX2_wordOfKnown : Room := { frames := 0, cells := 0, slots := 0, locals := 0 }
theorem mX2_wordOfKnown {l : Launch} {G : Cx} {A : Nat → Prop} {i : Nat} (hi : i < 7) : Met l yX2_wordOfKnown (.code yX2_wordOfKnown cX2_wordOfKnown 1 (some (.object "java/lang/String")) :: GW) rmX2_wordOfKnown (PC G A [.int (nI i)] (fun _ => True)) (pR (fun r => r = G.2.2 (20 + wkN i))) 0 0 (fun _ => False) := by
  refine mstart "Signtext" (by decide +kernel) rfl (Nat.le_of_ble_eq_true rfl) ?_
  intro p e s m below meth c ls hx hb hr hts hown hml hlocks hname hC hA hW hl
  have hl : lv_has ls 1 [(0, .int (nI i))] := hl
  have hK := hC.1
  have hS : va_S A s.heap s.heap [] := va_S.rf
  match i, hi with
  | 0, _ =>
    have hl : lv_has ls 1 [(0, .int (nI 0))] := hl
    refine lv_iload_n hx hb dX2_wordOfKnown_0 rfl (lv_at hl 0 rfl) ?_
    refine lv_tableOut (tgt := 58) hx hb dX2_wordOfKnown_1 (Or.inl (by decide)) (by decide) ?_
    refine va_ldcS hx hb hown (hC.2.2.2.2.1 ("Signtext", 255, "", 6) (by unfold sRl; simp)) dX2_wordOfKnown_58 ?_
    exact p_a hx hb hr (Or.inl ⟨_, rfl⟩) hlocks dX2_wordOfKnown_60 rfl
  | 1, _ =>
    have hl : lv_has ls 1 [(0, .int (nI 1))] := hl
    refine lv_iload_n hx hb dX2_wordOfKnown_0 rfl (lv_at hl 0 rfl) ?_
    refine lv_tableIn (tgt := 40) (off := 39) hx hb dX2_wordOfKnown_1 (by decide) (by decide) (by decide) (by decide) ?_
    refine va_ldcS hx hb hown (hC.2.2.2.2.1 ("Signtext", 243, "a", 0) (by unfold sRl; simp)) dX2_wordOfKnown_40 ?_
    exact p_a hx hb hr (Or.inl ⟨_, rfl⟩) hlocks dX2_wordOfKnown_42 rfl
  | 2, _ =>
    have hl : lv_has ls 1 [(0, .int (nI 2))] := hl
    refine lv_iload_n hx hb dX2_wordOfKnown_0 rfl (lv_at hl 0 rfl) ?_
    refine lv_tableIn (tgt := 43) (off := 42) hx hb dX2_wordOfKnown_1 (by decide) (by decide) (by decide) (by decide) ?_
    refine va_ldcS hx hb hown (hC.2.2.2.2.1 ("Signtext", 245, "ab", 1) (by unfold sRl; simp)) dX2_wordOfKnown_43 ?_
    exact p_a hx hb hr (Or.inl ⟨_, rfl⟩) hlocks dX2_wordOfKnown_45 rfl
  | 3, _ =>
    have hl : lv_has ls 1 [(0, .int (nI 3))] := hl
    refine lv_iload_n hx hb dX2_wordOfKnown_0 rfl (lv_at hl 0 rfl) ?_
    refine lv_tableIn (tgt := 46) (off := 45) hx hb dX2_wordOfKnown_1 (by decide) (by decide) (by decide) (by decide) ?_
    refine va_ldcS hx hb hown (hC.2.2.2.2.1 ("Signtext", 247, "A", 2) (by unfold sRl; simp)) dX2_wordOfKnown_46 ?_
    exact p_a hx hb hr (Or.inl ⟨_, rfl⟩) hlocks dX2_wordOfKnown_48 rfl
  | 4, _ =>
    have hl : lv_has ls 1 [(0, .int (nI 4))] := hl
    refine lv_iload_n hx hb dX2_wordOfKnown_0 rfl (lv_at hl 0 rfl) ?_
    refine lv_tableIn (tgt := 49) (off := 48) hx hb dX2_wordOfKnown_1 (by decide) (by decide) (by decide) (by decide) ?_
    refine va_ldcS hx hb hown (hC.2.2.2.2.1 ("Signtext", 249, ",", 3) (by unfold sRl; simp)) dX2_wordOfKnown_49 ?_
    exact p_a hx hb hr (Or.inl ⟨_, rfl⟩) hlocks dX2_wordOfKnown_51 rfl
  | 5, _ =>
    have hl : lv_has ls 1 [(0, .int (nI 5))] := hl
    refine lv_iload_n hx hb dX2_wordOfKnown_0 rfl (lv_at hl 0 rfl) ?_
    refine lv_tableIn (tgt := 52) (off := 51) hx hb dX2_wordOfKnown_1 (by decide) (by decide) (by decide) (by decide) ?_
    refine va_ldcS hx hb hown (hC.2.2.2.2.1 ("Signtext", 251, "x.x", 4) (by unfold sRl; simp)) dX2_wordOfKnown_52 ?_
    exact p_a hx hb hr (Or.inl ⟨_, rfl⟩) hlocks dX2_wordOfKnown_54 rfl
  | 6, _ =>
    have hl : lv_has ls 1 [(0, .int (nI 6))] := hl
    refine lv_iload_n hx hb dX2_wordOfKnown_0 rfl (lv_at hl 0 rfl) ?_
    refine lv_tableIn (tgt := 55) (off := 54) hx hb dX2_wordOfKnown_1 (by decide) (by decide) (by decide) (by decide) ?_
    refine va_ldcS hx hb hown (hC.2.2.2.2.1 ("Signtext", 253, "aB-1", 5) (by unfold sRl; simp)) dX2_wordOfKnown_55 ?_
    exact p_a hx hb hr (Or.inl ⟨_, rfl⟩) hlocks dX2_wordOfKnown_57 rfl
end
/-! 24.cls3 -/
section
/-! The class, 3: calls that change -/
abbrev NT (x : Int32) : Prop := ¬ ∃ i : Nat, i < 4 ∧ x = nI i
abbrev NS (x : Int32) : Prop := ¬ ∃ i : Nat, i < 24 ∧ x = nI i
abbrev NK (x : Int32) : Prop := ¬ ∃ i : Nat, i < 7 ∧ x = nI i
theorem FR.s13 {T X : Nat → List Nat} {w : List Nat} (h : ∀ i : Nat, i < 4 ∨ i = 11 ∨ i = 14 → T i = X i) : ∀ i : Nat, i < 4 ∨ i = 11 ∨ i = 14 → updT T 13 w i = X i := fun i hi => (updT_n (by omega)).trans (h i hi)
theorem FR.s12 {T X : Nat → List Nat} {w : List Nat} (h : ∀ i : Nat, i < 4 ∨ i = 11 ∨ i = 14 → T i = X i) : ∀ i : Nat, i < 4 ∨ i = 11 ∨ i = 14 → updT T 12 w i = X i := fun i hi => (updT_n (by omega)).trans (h i hi)
theorem FR.up {T X : Nat → List Nat} {q : Nat} {w : List Nat} (h : ∀ i : Nat, i < 4 ∨ i = 11 ∨ i = 14 → T i = X i) : ∀ i : Nat, i < 4 ∨ i = 11 ∨ i = 14 → updT T q w i = updT X q w i := fun i hi => by
  unfold updT; split
  · rfl
  · exact h i hi
theorem SW.knock {G : Cx} {SA : Nat → Nat} {T : Nat → List Nat} {es es2 : List Nat} {k k2 : Int32} {H H1 : Heap} (h : SW G SA T es es2 k H) (hO : va_at G.1 vwCl (SA 0, .inr (6, [.ref (SA 1), .ref (SA 2), .ref (SA 29), .ref (SA 3), .int k2, .ref (SA 31), .ref (SA 33), .ref (SA 5)])) H1) (oq : ∀ q : Nat, q ≠ SA 0 → H1[q]? = H[q]?) (z : H1.size = H.size) : SW G SA T es es2 k2 H1 := by
  have hk : Pilot.CSigntextLaw_law_r2322_c049e8.kp (fun q => q = SA 0) H H1 := kp.one z oq
  have hX : ∀ i : Nat, i < 39 → i ≠ 0 → ¬ SA i = SA 0 := fun i hi h0 => h.ne hi (by decide) h0
  exact ⟨h.1, hO, at_kp h.2.2.1 hk (hX 1 (by decide) (by decide)), at_kp h.2.2.2.1 hk (hX 2 (by decide) (by decide)), fun i hi => (h.line hi).kp hk (hX _ (by omega) (by omega)) (hX _ (by omega) (by omega)), h.pcs.1.kp hk (hX 3 (by decide) (by decide)) (hX 4 (by decide) (by decide)), h.pcs.2.2.1, h.trd.1.kp hk (hX 5 (by decide) (by decide)) (hX 6 (by decide) (by decide)), h.trd.2.2.1, h.2.2.2.2.2.2.2.2.2⟩
theorem dX2_clear_0 : decode cX2_clear 0 = .ok (.aload_n 0, 1) := by decide +kernel
theorem dX2_clear_1 : decode cX2_clear 1 = .ok (.iload_n 1, 1) := by decide +kernel
theorem dX2_clear_2 : decode cX2_clear 2 = .ok (.invokevirtual 51, 3) := by decide +kernel
theorem dX2_clear_5 : decode cX2_clear 5 = .ok (.astore_n 2, 1) := by decide +kernel
theorem dX2_clear_6 : decode cX2_clear 6 = .ok (.aload_n 2, 1) := by decide +kernel
theorem dX2_clear_7 : decode cX2_clear 7 = .ok (.invokevirtual 66, 3) := by decide +kernel
theorem dX2_clear_10 : decode cX2_clear 10 = .ok (.istore_n 3, 1) := by decide +kernel
theorem dX2_clear_11 : decode cX2_clear 11 = .ok (.aload_n 2, 1) := by decide +kernel
theorem dX2_clear_12 : decode cX2_clear 12 = .ok (.invokevirtual 55, 3) := by decide +kernel
theorem dX2_clear_15 : decode cX2_clear 15 = .ok (.iload_n 3, 1) := by decide +kernel
theorem dX2_clear_16 : decode cX2_clear 16 = .ok (.ireturn, 1) := by decide +kernel
theorem dX2_copy_0 : decode cX2_copy 0 = .ok (.aload_n 0, 1) := by decide +kernel
theorem dX2_copy_1 : decode cX2_copy 1 = .ok (.iload_n 1, 1) := by decide +kernel
theorem dX2_copy_2 : decode cX2_copy 2 = .ok (.invokevirtual 51, 3) := by decide +kernel
theorem dX2_copy_5 : decode cX2_copy 5 = .ok (.astore_n 3, 1) := by decide +kernel
theorem dX2_copy_6 : decode cX2_copy 6 = .ok (.aload_n 0, 1) := by decide +kernel
theorem dX2_copy_7 : decode cX2_copy 7 = .ok (.aload_n 3, 1) := by decide +kernel
theorem dX2_copy_8 : decode cX2_copy 8 = .ok (.iconst 0, 1) := by decide +kernel
theorem dX2_copy_9 : decode cX2_copy 9 = .ok (.aload_n 3, 1) := by decide +kernel
theorem dX2_copy_10 : decode cX2_copy 10 = .ok (.invokevirtual 66, 3) := by decide +kernel
theorem dX2_copy_13 : decode cX2_copy 13 = .ok (.aload_n 0, 1) := by decide +kernel
theorem dX2_copy_14 : decode cX2_copy 14 = .ok (.iload_n 2, 1) := by decide +kernel
theorem dX2_copy_15 : decode cX2_copy 15 = .ok (.invokevirtual 51, 3) := by decide +kernel
theorem dX2_copy_18 : decode cX2_copy 18 = .ok (.invokevirtual 70, 3) := by decide +kernel
theorem dX2_copy_21 : decode cX2_copy 21 = .ok (.ireturn, 1) := by decide +kernel
theorem dX2_part_0 : decode cX2_part 0 = .ok (.aload_n 0, 1) := by decide +kernel
theorem dX2_part_1 : decode cX2_part 1 = .ok (.iload_n 1, 1) := by decide +kernel
theorem dX2_part_2 : decode cX2_part 2 = .ok (.invokevirtual 51, 3) := by decide +kernel
theorem dX2_part_5 : decode cX2_part 5 = .ok (.astore 5, 2) := by decide +kernel
theorem dX2_part_7 : decode cX2_part 7 = .ok (.aload_n 0, 1) := by decide +kernel
theorem dX2_part_8 : decode cX2_part 8 = .ok (.iload 4, 2) := by decide +kernel
theorem dX2_part_10 : decode cX2_part 10 = .ok (.invokevirtual 51, 3) := by decide +kernel
theorem dX2_part_13 : decode cX2_part 13 = .ok (.astore 6, 2) := by decide +kernel
theorem dX2_part_15 : decode cX2_part 15 = .ok (.iload_n 2, 1) := by decide +kernel
theorem dX2_part_16 : decode cX2_part 16 = .ok (.ifCond .lt 17, 3) := by decide +kernel
theorem dX2_part_19 : decode cX2_part 19 = .ok (.iload_n 3, 1) := by decide +kernel
theorem dX2_part_20 : decode cX2_part 20 = .ok (.iload_n 2, 1) := by decide +kernel
theorem dX2_part_21 : decode cX2_part 21 = .ok (.if_icmp .lt 12, 3) := by decide +kernel
theorem dX2_part_24 : decode cX2_part 24 = .ok (.iload_n 3, 1) := by decide +kernel
theorem dX2_part_25 : decode cX2_part 25 = .ok (.aload 5, 2) := by decide +kernel
theorem dX2_part_27 : decode cX2_part 27 = .ok (.invokevirtual 66, 3) := by decide +kernel
theorem dX2_part_30 : decode cX2_part 30 = .ok (.if_icmp .le 11, 3) := by decide +kernel
theorem dX2_part_33 : decode cX2_part 33 = .ok (.new 74, 3) := by decide +kernel
theorem dX2_part_36 : decode cX2_part 36 = .ok (.dup, 1) := by decide +kernel
theorem dX2_part_37 : decode cX2_part 37 = .ok (.invokespecial 76, 3) := by decide +kernel
theorem dX2_part_40 : decode cX2_part 40 = .ok (.athrow, 1) := by decide +kernel
theorem dX2_part_41 : decode cX2_part 41 = .ok (.aload_n 0, 1) := by decide +kernel
theorem dX2_part_42 : decode cX2_part 42 = .ok (.aload 5, 2) := by decide +kernel
theorem dX2_part_44 : decode cX2_part 44 = .ok (.iload_n 2, 1) := by decide +kernel
theorem dX2_part_45 : decode cX2_part 45 = .ok (.iload_n 3, 1) := by decide +kernel
theorem dX2_part_46 : decode cX2_part 46 = .ok (.aload 6, 2) := by decide +kernel
theorem dX2_part_48 : decode cX2_part 48 = .ok (.invokevirtual 70, 3) := by decide +kernel
theorem dX2_part_51 : decode cX2_part 51 = .ok (.ireturn, 1) := by decide +kernel
theorem dX2_tail_0 : decode cX2_tail 0 = .ok (.aload_n 0, 1) := by decide +kernel
theorem dX2_tail_1 : decode cX2_tail 1 = .ok (.iload_n 1, 1) := by decide +kernel
theorem dX2_tail_2 : decode cX2_tail 2 = .ok (.invokevirtual 51, 3) := by decide +kernel
theorem dX2_tail_5 : decode cX2_tail 5 = .ok (.astore 4, 2) := by decide +kernel
theorem dX2_tail_7 : decode cX2_tail 7 = .ok (.aload_n 0, 1) := by decide +kernel
theorem dX2_tail_8 : decode cX2_tail 8 = .ok (.iload_n 3, 1) := by decide +kernel
theorem dX2_tail_9 : decode cX2_tail 9 = .ok (.invokevirtual 51, 3) := by decide +kernel
theorem dX2_tail_12 : decode cX2_tail 12 = .ok (.astore 5, 2) := by decide +kernel
theorem dX2_tail_14 : decode cX2_tail 14 = .ok (.aload 4, 2) := by decide +kernel
theorem dX2_tail_16 : decode cX2_tail 16 = .ok (.iload_n 2, 1) := by decide +kernel
theorem dX2_tail_17 : decode cX2_tail 17 = .ok (.invokestatic 77, 3) := by decide +kernel
theorem dX2_tail_20 : decode cX2_tail 20 = .ok (.aload_n 0, 1) := by decide +kernel
theorem dX2_tail_21 : decode cX2_tail 21 = .ok (.aload 4, 2) := by decide +kernel
theorem dX2_tail_23 : decode cX2_tail 23 = .ok (.iload_n 2, 1) := by decide +kernel
theorem dX2_tail_24 : decode cX2_tail 24 = .ok (.aload 4, 2) := by decide +kernel
theorem dX2_tail_26 : decode cX2_tail 26 = .ok (.invokevirtual 66, 3) := by decide +kernel
theorem dX2_tail_29 : decode cX2_tail 29 = .ok (.aload 5, 2) := by decide +kernel
theorem dX2_tail_31 : decode cX2_tail 31 = .ok (.invokevirtual 70, 3) := by decide +kernel
theorem dX2_tail_34 : decode cX2_tail 34 = .ok (.ireturn, 1) := by decide +kernel
theorem dX2_join_0 : decode cX2_join 0 = .ok (.aload_n 0, 1) := by decide +kernel
theorem dX2_join_1 : decode cX2_join 1 = .ok (.aload_n 0, 1) := by decide +kernel
theorem dX2_join_2 : decode cX2_join 2 = .ok (.iload_n 1, 1) := by decide +kernel
theorem dX2_join_3 : decode cX2_join 3 = .ok (.invokevirtual 51, 3) := by decide +kernel
theorem dX2_join_6 : decode cX2_join 6 = .ok (.aload_n 0, 1) := by decide +kernel
theorem dX2_join_7 : decode cX2_join 7 = .ok (.iload_n 2, 1) := by decide +kernel
theorem dX2_join_8 : decode cX2_join 8 = .ok (.invokevirtual 51, 3) := by decide +kernel
theorem dX2_join_11 : decode cX2_join 11 = .ok (.aload_n 0, 1) := by decide +kernel
theorem dX2_join_12 : decode cX2_join 12 = .ok (.iload_n 3, 1) := by decide +kernel
theorem dX2_join_13 : decode cX2_join 13 = .ok (.invokevirtual 51, 3) := by decide +kernel
theorem dX2_join_16 : decode cX2_join 16 = .ok (.invokevirtual 62, 3) := by decide +kernel
theorem dX2_join_19 : decode cX2_join 19 = .ok (.ireturn, 1) := by decide +kernel
theorem dX2_trim_0 : decode cX2_trim 0 = .ok (.aload_n 0, 1) := by decide +kernel
theorem dX2_trim_1 : decode cX2_trim 1 = .ok (.iload_n 1, 1) := by decide +kernel
theorem dX2_trim_2 : decode cX2_trim 2 = .ok (.invokevirtual 51, 3) := by decide +kernel
theorem dX2_trim_5 : decode cX2_trim 5 = .ok (.astore 4, 2) := by decide +kernel
theorem dX2_trim_7 : decode cX2_trim 7 = .ok (.aload_n 0, 1) := by decide +kernel
theorem dX2_trim_8 : decode cX2_trim 8 = .ok (.aload 4, 2) := by decide +kernel
theorem dX2_trim_10 : decode cX2_trim 10 = .ok (.aload 4, 2) := by decide +kernel
theorem dX2_trim_12 : decode cX2_trim 12 = .ok (.iload_n 2, 1) := by decide +kernel
theorem dX2_trim_13 : decode cX2_trim 13 = .ok (.invokevirtual 94, 3) := by decide +kernel
theorem dX2_trim_16 : decode cX2_trim 16 = .ok (.aload 4, 2) := by decide +kernel
theorem dX2_trim_18 : decode cX2_trim 18 = .ok (.iload_n 2, 1) := by decide +kernel
theorem dX2_trim_19 : decode cX2_trim 19 = .ok (.invokevirtual 98, 3) := by decide +kernel
theorem dX2_trim_22 : decode cX2_trim 22 = .ok (.aload_n 0, 1) := by decide +kernel
theorem dX2_trim_23 : decode cX2_trim 23 = .ok (.iload_n 3, 1) := by decide +kernel
theorem dX2_trim_24 : decode cX2_trim 24 = .ok (.invokevirtual 51, 3) := by decide +kernel
theorem dX2_trim_27 : decode cX2_trim 27 = .ok (.invokevirtual 70, 3) := by decide +kernel
theorem dX2_trim_30 : decode cX2_trim 30 = .ok (.ireturn, 1) := by decide +kernel
theorem dX2_known_0 : decode cX2_known 0 = .ok (.aload_n 0, 1) := by decide +kernel
theorem dX2_known_1 : decode cX2_known 1 = .ok (.iload_n 1, 1) := by decide +kernel
theorem dX2_known_2 : decode cX2_known 2 = .ok (.invokevirtual 51, 3) := by decide +kernel
theorem dX2_known_5 : decode cX2_known 5 = .ok (.astore_n 3, 1) := by decide +kernel
theorem dX2_known_6 : decode cX2_known 6 = .ok (.aload_n 0, 1) := by decide +kernel
theorem dX2_known_7 : decode cX2_known 7 = .ok (.aload_n 3, 1) := by decide +kernel
theorem dX2_known_8 : decode cX2_known 8 = .ok (.aload_n 0, 1) := by decide +kernel
theorem dX2_known_9 : decode cX2_known 9 = .ok (.iload_n 2, 1) := by decide +kernel
theorem dX2_known_10 : decode cX2_known 10 = .ok (.invokevirtual 122, 3) := by decide +kernel
theorem dX2_known_13 : decode cX2_known 13 = .ok (.aload_n 3, 1) := by decide +kernel
theorem dX2_known_14 : decode cX2_known 14 = .ok (.invokevirtual 62, 3) := by decide +kernel
theorem dX2_known_17 : decode cX2_known 17 = .ok (.ireturn, 1) := by decide +kernel
theorem dX2_lay_0 : decode cX2_lay 0 = .ok (.aload_n 0, 1) := by decide +kernel
theorem dX2_lay_1 : decode cX2_lay 1 = .ok (.getfield 19, 3) := by decide +kernel
theorem dX2_lay_4 : decode cX2_lay 4 = .ok (.aload_n 0, 1) := by decide +kernel
theorem dX2_lay_5 : decode cX2_lay 5 = .ok (.iload_n 1, 1) := by decide +kernel
theorem dX2_lay_6 : decode cX2_lay 6 = .ok (.invokevirtual 51, 3) := by decide +kernel
theorem dX2_lay_9 : decode cX2_lay 9 = .ok (.invokevirtual 91, 3) := by decide +kernel
theorem dX2_lay_12 : decode cX2_lay 12 = .ok (.aload_n 0, 1) := by decide +kernel
theorem dX2_lay_13 : decode cX2_lay 13 = .ok (.getfield 19, 3) := by decide +kernel
theorem dX2_lay_16 : decode cX2_lay 16 = .ok (.invokevirtual 66, 3) := by decide +kernel
theorem dX2_lay_19 : decode cX2_lay 19 = .ok (.ireturn, 1) := by decide +kernel
theorem dX2_set_0 : decode cX2_set 0 = .ok (.aload_n 0, 1) := by decide +kernel
theorem dX2_set_1 : decode cX2_set 1 = .ok (.getfield 19, 3) := by decide +kernel
theorem dX2_set_4 : decode cX2_set 4 = .ok (.iload_n 1, 1) := by decide +kernel
theorem dX2_set_5 : decode cX2_set 5 = .ok (.invokestatic 125, 3) := by decide +kernel
theorem dX2_set_8 : decode cX2_set 8 = .ok (.iload_n 2, 1) := by decide +kernel
theorem dX2_set_9 : decode cX2_set 9 = .ok (.invokestatic 115, 3) := by decide +kernel
theorem dX2_set_12 : decode cX2_set 12 = .ok (.istore_n 3, 1) := by decide +kernel
theorem dX2_set_13 : decode cX2_set 13 = .ok (.aload_n 0, 1) := by decide +kernel
theorem dX2_set_14 : decode cX2_set 14 = .ok (.getfield 19, 3) := by decide +kernel
theorem dX2_set_17 : decode cX2_set 17 = .ok (.iload_n 1, 1) := by decide +kernel
theorem dX2_set_18 : decode cX2_set 18 = .ok (.invokevirtual 128, 3) := by decide +kernel
theorem dX2_set_21 : decode cX2_set 21 = .ok (.istore 4, 2) := by decide +kernel
theorem dX2_set_23 : decode cX2_set 23 = .ok (.aload_n 0, 1) := by decide +kernel
theorem dX2_set_24 : decode cX2_set 24 = .ok (.getfield 19, 3) := by decide +kernel
theorem dX2_set_27 : decode cX2_set 27 = .ok (.iload_n 1, 1) := by decide +kernel
theorem dX2_set_28 : decode cX2_set 28 = .ok (.iload_n 3, 1) := by decide +kernel
theorem dX2_set_29 : decode cX2_set 29 = .ok (.invokevirtual 131, 3) := by decide +kernel
theorem dX2_set_32 : decode cX2_set 32 = .ok (.iload 4, 2) := by decide +kernel
theorem dX2_set_34 : decode cX2_set 34 = .ok (.ireturn, 1) := by decide +kernel
theorem dX2_take_0 : decode cX2_take 0 = .ok (.aload_n 0, 1) := by decide +kernel
theorem dX2_take_1 : decode cX2_take 1 = .ok (.aload_n 0, 1) := by decide +kernel
theorem dX2_take_2 : decode cX2_take 2 = .ok (.getfield 19, 3) := by decide +kernel
theorem dX2_take_5 : decode cX2_take 5 = .ok (.iconst 0, 1) := by decide +kernel
theorem dX2_take_6 : decode cX2_take 6 = .ok (.aload_n 0, 1) := by decide +kernel
theorem dX2_take_7 : decode cX2_take 7 = .ok (.getfield 19, 3) := by decide +kernel
theorem dX2_take_10 : decode cX2_take 10 = .ok (.invokevirtual 66, 3) := by decide +kernel
theorem dX2_take_13 : decode cX2_take 13 = .ok (.aload_n 0, 1) := by decide +kernel
theorem dX2_take_14 : decode cX2_take 14 = .ok (.iload_n 1, 1) := by decide +kernel
theorem dX2_take_15 : decode cX2_take 15 = .ok (.invokevirtual 51, 3) := by decide +kernel
theorem dX2_take_18 : decode cX2_take 18 = .ok (.invokevirtual 70, 3) := by decide +kernel
theorem dX2_take_21 : decode cX2_take 21 = .ok (.ireturn, 1) := by decide +kernel
theorem dX2_takePiece_0 : decode cX2_takePiece 0 = .ok (.aload_n 0, 1) := by decide +kernel
theorem dX2_takePiece_1 : decode cX2_takePiece 1 = .ok (.iload_n 1, 1) := by decide +kernel
theorem dX2_takePiece_2 : decode cX2_takePiece 2 = .ok (.invokevirtual 139, 3) := by decide +kernel
theorem dX2_takePiece_5 : decode cX2_takePiece 5 = .ok (.aload_n 0, 1) := by decide +kernel
theorem dX2_takePiece_6 : decode cX2_takePiece 6 = .ok (.iload_n 1, 1) := by decide +kernel
theorem dX2_takePiece_7 : decode cX2_takePiece 7 = .ok (.aload_n 0, 1) := by decide +kernel
theorem dX2_takePiece_8 : decode cX2_takePiece 8 = .ok (.iload_n 2, 1) := by decide +kernel
theorem dX2_takePiece_9 : decode cX2_takePiece 9 = .ok (.invokevirtual 51, 3) := by decide +kernel
theorem dX2_takePiece_12 : decode cX2_takePiece 12 = .ok (.invokevirtual 142, 3) := by decide +kernel
theorem dX2_takePiece_15 : decode cX2_takePiece 15 = .ok (.ireturn, 1) := by decide +kernel
theorem dX2_knock_0 : decode cX2_knock 0 = .ok (.aload_n 0, 1) := by decide +kernel
theorem dX2_knock_1 : decode cX2_knock 1 = .ok (.dup, 1) := by decide +kernel
theorem dX2_knock_2 : decode cX2_knock 2 = .ok (.getfield 30, 3) := by decide +kernel
theorem dX2_knock_5 : decode cX2_knock 5 = .ok (.iconst 1, 1) := by decide +kernel
theorem dX2_knock_6 : decode cX2_knock 6 = .ok (.iadd, 1) := by decide +kernel
theorem dX2_knock_7 : decode cX2_knock 7 = .ok (.putfield 30, 3) := by decide +kernel
theorem dX2_knock_10 : decode cX2_knock 10 = .ok (.aload_n 0, 1) := by decide +kernel
theorem dX2_knock_11 : decode cX2_knock 11 = .ok (.getfield 30, 3) := by decide +kernel
theorem dX2_knock_14 : decode cX2_knock 14 = .ok (.ireturn, 1) := by decide +kernel
abbrev rmX2_knock : Room := { frames := 1, cells := 0, slots := 0, locals := 20 }
theorem mX2_knock {l : Launch} {G : Cx} {A : Nat → Prop} {SA : Nat → Nat} {X : Nat → List Nat} {es : List Nat} {k : Int32} (hAS : ∀ i : Nat, i < 39 → A (SA i)) : Met l yX2_knock (.code yX2_knock cX2_knock 1 (some .int) :: GW) rmX2_knock (PC G A [.ref (SA 0)] (SS G SA X es k)) (qI A (fun r H => r = k + 1 ∧ SS G SA X es (k + 1) H)) 0 0 (A) := by
  refine mstart "Signtext" (by decide +kernel) rfl (Nat.le_of_ble_eq_true rfl) ?_
  intro p e s m below meth c ls hx hb hr hts hown hml hlocks hname hC hA hW hl
  have hl : lv_has ls 1 [(0, .ref (SA 0))] := hl
  have hK := hC.1
  have hS : va_S A s.heap s.heap [] := va_S.rf
  obtain ⟨T, es2, hW, hF⟩ := hW
  have hO := hW.2.1
  have hR1 := hW.2.2.1
  have hR2 := hW.2.2.2.1
  refine lv_aload_n hx hb dX2_knock_0 rfl (lv_at hl 0 rfl) ?_
  refine lv_dup hx hb dX2_knock_1 rfl ?_
  refine va_get (D := G.1) (ci := 6) (C := RX2) (T := TX2) (N := 8) hx hb hts inX2 hown hK (at_P hO) 0 rfl rfl 4 (by decide) (hts _ tw_1_141) (fun _ h9 => h9) rfl dX2_knock_2 ?_
  refine lv_iconst (v := nI 1) hx hb dX2_knock_5 (by decide) ?_
  refine lv_iadd hx hb dX2_knock_6 ?_
  refine h_put (D := G.1) (ci := 6) (C := RX2) (T := TX2) (N := 8) hx hb hts inX2 tyX2 tyX2_ok nmX2 hown hK hO hS (hAS 0 (by decide)) rfl 4 (by decide) (hts _ tw_1_141) (fun _ h9 => h9) rfl (tyX2_ok 4 (by decide)) rfl rfl (Nat.le_of_ble_eq_true rfl) dX2_knock_7 (fun H1 L1 hO z1 o1 hS => ?_)
  have hO : va_at G.1 vwCl (SA 0, .inr (6, [.ref (SA 1), .ref (SA 2), .ref (SA 29), .ref (SA 3), .int (k + 1), .ref (SA 31), .ref (SA 33), .ref (SA 5)])) H1 := hO
  have hZ1 := hS.1
  refine lv_aload_n hx hb dX2_knock_10 rfl (lv_at hl 0 rfl) ?_
  refine va_get (D := G.1) (ci := 6) (C := RX2) (T := TX2) (N := 8) hx hb hts inX2 hown hK (at_P hO) 0 rfl rfl 4 (by decide) (hts _ tw_1_141) (fun _ h9 => h9) rfl dX2_knock_11 ?_
  exact q_i hx hb hr hlocks dX2_knock_14 hS (Nat.le_refl _) (Nat.le_refl _) ⟨rfl, _, _, hW.knock hO o1 z1, hF⟩

abbrev rmX2_clear : Room := { frames := 7, cells := 1, slots := 6, locals := 110 }
theorem mX2_clear {l : Launch} {G : Cx} {A : Nat → Prop} (hst : l.stackTraces = false) {SA : Nat → Nat} {X : Nat → List Nat} {es : List Nat} {k : Int32} {x : Int32} (hAS : ∀ i : Nat, i < 39 → A (SA i)) : vx_Met l yX2_clear (.code yX2_clear cX2_clear 4 (some .int) :: GW) rmX2_clear (PC G A [.ref (SA 0), .int x] (SS G SA X es k)) (qI A (fun r H => ∃ i : Nat, i < 4 ∧ x = nI i ∧ r = nI (X i).length ∧ SS G SA (updT X i []) es k H)) (xE A (fun E H => (E = "java/lang/IndexOutOfBoundsException" ∧ NT x) ∧ SS G SA X es k H)) 1 6 A := by
  refine mstartX "Signtext" (by decide +kernel) rfl (Nat.le_of_ble_eq_true rfl) ?_
  intro p e s m below meth c ls hx hb hr hts hown hml hlocks hnx hC hA hW hl
  have hl : lv_has ls 4 [(0, .ref (SA 0)), (1, .int x)] := hl
  have hK := hC.1
  have hS : va_S A s.heap s.heap [] := va_S.rf
  obtain ⟨T, es2, hW, hF⟩ := hW
  have hO := hW.2.1
  have hR1 := hW.2.2.1
  have hR2 := hW.2.2.2.1
  refine lv_aload_n hx hb dX2_clear_0 rfl (lv_at hl 0 rfl) ?_
  refine lv_iload_n hx hb dX2_clear_1 rfl (lv_at hl 1 rfl) ?_
  refine xR_V (A := A) (A1 := A) (b := (SA 0)) (As := [.int x]) (rest := []) ⟨hx, hb, hml, hown, hts⟩ (mX2_textOf (A := A) hst ) (cwV 1 hts (gV tw_3_4 tw_3_6 sel_X2_textOf tw_1_1 tw_3_7) rfl rfl rfl (by decide +kernel) ⟨Nat.le_of_ble_eq_true rfl, Nat.le_of_ble_eq_true rfl⟩) hC hS (fun _ h => h) (fun q h => hA q (Nat.le_trans hS.1 h)) (hW.recv hK) hW rfl rfl hl.1 (Nat.le_of_ble_eq_true rfl) ⟨Nat.le_trans (show 0 + 1 ≤ 1 by omega) (Nat.le_of_ble_eq_true rfl), Nat.le_trans (show 0 + 6 ≤ 6 by omega) (Nat.le_of_ble_eq_true rfl)⟩ dX2_clear_2 hnx hlocks (by omega) (by omega) (fun E H9 q _ => ⟨⟨q.1, q.2.1⟩, _, _, q.2.2, hF⟩) (fun rv2 H2 L2 hP2 hk2 hS => ?_)
  have hZ2 := hS.1
  obtain ⟨⟨i, hi, hxi, hrv⟩, hW⟩ := hP2
  subst hrv
  have hO := hW.2.1
  have hR1 := hW.2.2.1
  have hR2 := hW.2.2.2.1
  have ei := hF i (Or.inl hi)
  refine lv_astore_n (lv' := [(2, .ref (SA (7 + 2 * i))), (0, .ref (SA 0)), (1, .int x)]) hx hb dX2_clear_5 rfl hl (by decide) rfl (fun ls hl => ?_)
  refine lv_aload_n hx hb dX2_clear_6 rfl (lv_at hl 0 rfl) ?_
  refine kV_i (A := A) (b := (SA (7 + 2 * i))) (As := []) (rest := []) ⟨hx, hb, hml, hown, hts⟩ (mX0_size (A := A) (ca := SA (8 + 2 * i))) (cwV 0 hts (gV tw_2_30 tw_2_12 tw_2_13 tw_1_2 tw_2_14) rfl rfl rfl (by decide +kernel) ⟨Nat.le_of_ble_eq_true rfl, Nat.le_of_ble_eq_true rfl⟩) hC hS hA ((hW.line (i := i) (by omega)).recv hK) (hW.line (i := i) (by omega)) rfl rfl hl.1 (Nat.le_of_ble_eq_true rfl) ⟨Nat.le_trans (show (0 + 1) ≤ 1 by omega) (Nat.le_of_ble_eq_true rfl), Nat.le_trans (show (0 + 6) ≤ 6 by omega) (Nat.le_of_ble_eq_true rfl)⟩ dX2_clear_7 (fun r9 h9 => lv_cv h9 ?_)
  refine lv_istore_n (lv' := [(3, .int (nI ((T i).length))), (2, .ref (SA (7 + 2 * i))), (0, .ref (SA 0)), (1, .int x)]) hx hb dX2_clear_10 rfl hl (by decide) rfl (fun ls hl => ?_)
  refine lv_aload_n hx hb dX2_clear_11 rfl (lv_at hl 1 rfl) ?_
  refine qV_V (A := A) (A1 := ow (SA (7 + 2 * i)) (SA (8 + 2 * i)) H2.size) (b := (SA (7 + 2 * i))) (As := []) (rest := []) ⟨hx, hb, hml, hown, hts⟩ (mX0_empty (A := ow (SA (7 + 2 * i)) (SA (8 + 2 * i)) H2.size) (ca := SA (8 + 2 * i)) (hAa := Or.inl rfl)) (cwV 0 hts (gV tw_2_31 tw_2_32 tw_2_33 tw_1_2 tw_2_34) rfl rfl rfl (by decide +kernel) ⟨Nat.le_of_ble_eq_true rfl, Nat.le_of_ble_eq_true rfl⟩) hC hS (ow_in (hAS _ (by omega)) (hAS _ (by omega)) hA hS.1) ow_n ((hW.line (i := i) (by omega)).recv hK) (hW.line (i := i) (by omega)) rfl rfl hl.1 (Nat.le_of_ble_eq_true rfl) ⟨Nat.le_trans (show (0 + 1) ≤ 1 by omega) (Nat.le_of_ble_eq_true rfl), Nat.le_trans (show (0 + 6) ≤ 6 by omega) (Nat.le_of_ble_eq_true rfl)⟩ dX2_clear_12 (fun H3 L3 hP3 hk3 hS => ?_)
  have hZ3 := hS.1
  have hW := hW.put (q := i) (t := []) (by omega) hk3 hP3
  refine lv_iload_n hx hb dX2_clear_15 rfl (lv_at hl 0 rfl) ?_
  exact vx_ret (q_i hx hb hr hlocks dX2_clear_16 hS (by omega) (by omega) ⟨i, hi, hxi, by rw [ei], _, _, hW, (FR.up hF)⟩)

abbrev rmX2_copy : Room := { frames := 7, cells := 2, slots := 12, locals := 110 }
theorem mX2_copy {l : Launch} {G : Cx} {A : Nat → Prop} (hst : l.stackTraces = false) {SA : Nat → Nat} {X : Nat → List Nat} {es : List Nat} {k : Int32} {x y : Int32} (hAS : ∀ i : Nat, i < 39 → A (SA i)) : vx_Met l yX2_copy (.code yX2_copy cX2_copy 4 (some .int) :: GW) rmX2_copy (PC G A [.ref (SA 0), .int x, .int y] (SS G SA X es k)) (qI A (fun r H => ∃ i j : Nat, i < 4 ∧ x = nI i ∧ j < 4 ∧ y = nI j ∧ r = nI (X i).length ∧ SS G SA (updT X j (X i)) es k H)) (xE A (fun E H => (E = "java/lang/IndexOutOfBoundsException" ∧ (NT x ∨ NT y)) ∧ SS G SA X es k H)) 2 12 A := by
  refine mstartX "Signtext" (by decide +kernel) rfl (Nat.le_of_ble_eq_true rfl) ?_
  intro p e s m below meth c ls hx hb hr hts hown hml hlocks hnx hC hA hW hl
  have hl : lv_has ls 4 [(0, .ref (SA 0)), (1, .int x), (2, .int y)] := hl
  have hK := hC.1
  have hS : va_S A s.heap s.heap [] := va_S.rf
  obtain ⟨T, es2, hW, hF⟩ := hW
  have hO := hW.2.1
  have hR1 := hW.2.2.1
  have hR2 := hW.2.2.2.1
  refine lv_aload_n hx hb dX2_copy_0 rfl (lv_at hl 0 rfl) ?_
  refine lv_iload_n hx hb dX2_copy_1 rfl (lv_at hl 1 rfl) ?_
  refine xR_V (A := A) (A1 := A) (b := (SA 0)) (As := [.int x]) (rest := []) ⟨hx, hb, hml, hown, hts⟩ (mX2_textOf (A := A) hst ) (cwV 1 hts (gV tw_3_4 tw_3_6 sel_X2_textOf tw_1_1 tw_3_7) rfl rfl rfl (by decide +kernel) ⟨Nat.le_of_ble_eq_true rfl, Nat.le_of_ble_eq_true rfl⟩) hC hS (fun _ h => h) (fun q h => hA q (Nat.le_trans hS.1 h)) (hW.recv hK) hW rfl rfl hl.1 (Nat.le_of_ble_eq_true rfl) ⟨Nat.le_trans (show 0 + 1 ≤ 2 by omega) (Nat.le_of_ble_eq_true rfl), Nat.le_trans (show 0 + 6 ≤ 12 by omega) (Nat.le_of_ble_eq_true rfl)⟩ dX2_copy_2 hnx hlocks (by omega) (by omega) (fun E H9 q _ => ⟨⟨q.1, Or.inl q.2.1⟩, _, _, q.2.2, hF⟩) (fun rv4 H4 L4 hP4 hk4 hS => ?_)
  have hZ4 := hS.1
  obtain ⟨⟨i, hi, hxi, hrv⟩, hW⟩ := hP4
  subst hrv
  have hO := hW.2.1
  have hR1 := hW.2.2.1
  have hR2 := hW.2.2.2.1
  have ei := hF i (Or.inl hi)
  refine lv_astore_n (lv' := [(3, .ref (SA (7 + 2 * i))), (0, .ref (SA 0)), (1, .int x), (2, .int y)]) hx hb dX2_copy_5 rfl hl (by decide) rfl (fun ls hl => ?_)
  refine lv_aload_n hx hb dX2_copy_6 rfl (lv_at hl 1 rfl) ?_
  refine lv_aload_n hx hb dX2_copy_7 rfl (lv_at hl 0 rfl) ?_
  refine lv_iconst (v := nI 0) hx hb dX2_copy_8 (by decide) ?_
  refine lv_aload_n hx hb dX2_copy_9 rfl (lv_at hl 0 rfl) ?_
  refine kV_i (A := A) (b := (SA (7 + 2 * i))) (As := []) (rest := .int (nI 0) :: .ref (SA (7 + 2 * i)) :: .ref (SA 0) :: []) ⟨hx, hb, hml, hown, hts⟩ (mX0_size (A := A) (ca := SA (8 + 2 * i))) (cwV 0 hts (gV tw_2_30 tw_2_12 tw_2_13 tw_1_2 tw_2_14) rfl rfl rfl (by decide +kernel) ⟨Nat.le_of_ble_eq_true rfl, Nat.le_of_ble_eq_true rfl⟩) hC hS hA ((hW.line (i := i) (by omega)).recv hK) (hW.line (i := i) (by omega)) rfl rfl hl.1 (Nat.le_of_ble_eq_true rfl) ⟨Nat.le_trans (show (0 + 1) ≤ 2 by omega) (Nat.le_of_ble_eq_true rfl), Nat.le_trans (show (0 + 6) ≤ 12 by omega) (Nat.le_of_ble_eq_true rfl)⟩ dX2_copy_10 (fun r9 h9 => lv_cv h9 ?_)
  refine lv_aload_n hx hb dX2_copy_13 rfl (lv_at hl 1 rfl) ?_
  refine lv_iload_n hx hb dX2_copy_14 rfl (lv_at hl 3 rfl) ?_
  refine xR_V (A := A) (A1 := A) (b := (SA 0)) (As := [.int y]) (rest := .int (nI ((T i).length)) :: .int (nI 0) :: .ref (SA (7 + 2 * i)) :: .ref (SA 0) :: []) ⟨hx, hb, hml, hown, hts⟩ (mX2_textOf (A := A) hst ) (cwV 1 hts (gV tw_3_4 tw_3_6 sel_X2_textOf tw_1_1 tw_3_7) rfl rfl rfl (by decide +kernel) ⟨Nat.le_of_ble_eq_true rfl, Nat.le_of_ble_eq_true rfl⟩) hC hS (fun _ h => h) (fun q h => hA q (Nat.le_trans hS.1 h)) (hW.recv hK) hW rfl rfl hl.1 (Nat.le_of_ble_eq_true rfl) ⟨Nat.le_trans (show (0 + 1) + 1 ≤ 2 by omega) (Nat.le_of_ble_eq_true rfl), Nat.le_trans (show (0 + 6) + 6 ≤ 12 by omega) (Nat.le_of_ble_eq_true rfl)⟩ dX2_copy_15 hnx hlocks (by omega) (by omega) (fun E H9 q _ => ⟨⟨q.1, Or.inr q.2.1⟩, _, _, q.2.2, hF⟩) (fun rv5 H5 L5 hP5 hk5 hS => ?_)
  have hZ5 := hS.1
  obtain ⟨⟨j, hj, hxj, hrv⟩, hW⟩ := hP5
  subst hrv
  have hO := hW.2.1
  have hR1 := hW.2.2.1
  have hR2 := hW.2.2.2.1
  have ej := hF j (Or.inl hj)
  refine qI_V (A := A) (A1 := A) (b := (SA 0)) (As := [.ref (SA (7 + 2 * i)), .int (nI 0), .int (nI ((T i).length)), .ref (SA (7 + 2 * j))]) (rest := []) ⟨hx, hb, hml, hown, hts⟩ (mX2_partInto (A := A) (i := i) (q := j) (a9 := 0) (b9 := (T i).length) hAS (by omega) (by omega) (by omega) (Nat.zero_le _) (Nat.le_refl _)) (cwV 4 hts (gV tw_2_55 tw_2_57 sel_X2_partInto tw_1_1 tw_2_58) rfl rfl rfl (by decide +kernel) ⟨Nat.le_of_ble_eq_true rfl, Nat.le_of_ble_eq_true rfl⟩) hC hS (fun _ h => h) (fun q h => hA q (Nat.le_trans hS.1 h)) (hW.recv hK) hW rfl rfl hl.1 (Nat.le_of_ble_eq_true rfl) ⟨Nat.le_trans (show ((0 + 1) + 1) ≤ 2 by omega) (Nat.le_of_ble_eq_true rfl), Nat.le_trans (show ((0 + 6) + 6) ≤ 12 by omega) (Nat.le_of_ble_eq_true rfl)⟩ dX2_copy_18 (fun rv6 H6 L6 hP6 hk6 hS => ?_)
  have hZ6 := hS.1
  rw [cutL_all, ei] at hP6
  exact vx_ret (q_i hx hb hr hlocks dX2_copy_21 hS (by omega) (by omega) ⟨i, j, hi, hxi, hj, hxj, hP6.1, _, _, hP6.2, (FR.up (FR.s13 hF))⟩)

abbrev rmX2_part : Room := { frames := 7, cells := 3, slots := 18, locals := 110 }
theorem mX2_part {l : Launch} {G : Cx} {A : Nat → Prop} (hst : l.stackTraces = false) {SA : Nat → Nat} {X : Nat → List Nat} {es : List Nat} {k : Int32} {x f9 t9 y : Int32} (hAS : ∀ i : Nat, i < 39 → A (SA i)) : vx_Met l yX2_part (.code yX2_part cX2_part 7 (some .int) :: GW) rmX2_part (PC G A [.ref (SA 0), .int x, .int f9, .int t9, .int y] (SS G SA X es k)) (qI A (fun r H => ∃ i j a9 b9 : Nat, i < 4 ∧ x = nI i ∧ j < 4 ∧ y = nI j ∧ f9 = nI a9 ∧ t9 = nI b9 ∧ a9 ≤ b9 ∧ b9 ≤ (X i).length ∧ r = nI (cutL (X i) a9 b9).length ∧ SS G SA (updT X j (cutL (X i) a9 b9)) es k H)) (xE A (fun E H => (E = "java/lang/IndexOutOfBoundsException" ∧ (NT x ∨ NT y ∨ ¬ (∃ i a9 b9 : Nat, i < 4 ∧ x = nI i ∧ f9 = nI a9 ∧ t9 = nI b9 ∧ a9 ≤ b9 ∧ b9 ≤ (X i).length))) ∧ SS G SA X es k H)) 3 18 A := by
  refine mstartX "Signtext" (by decide +kernel) rfl (Nat.le_of_ble_eq_true rfl) ?_
  intro p e s m below meth c ls hx hb hr hts hown hml hlocks hnx hC hA hW hl
  have hl : lv_has ls 7 [(0, .ref (SA 0)), (1, .int x), (2, .int f9), (3, .int t9), (4, .int y)] := hl
  have hK := hC.1
  have hS : va_S A s.heap s.heap [] := va_S.rf
  obtain ⟨T, es2, hW, hF⟩ := hW
  have hO := hW.2.1
  have hR1 := hW.2.2.1
  have hR2 := hW.2.2.2.1
  refine lv_aload_n hx hb dX2_part_0 rfl (lv_at hl 0 rfl) ?_
  refine lv_iload_n hx hb dX2_part_1 rfl (lv_at hl 1 rfl) ?_
  refine xR_V (A := A) (A1 := A) (b := (SA 0)) (As := [.int x]) (rest := []) ⟨hx, hb, hml, hown, hts⟩ (mX2_textOf (A := A) hst ) (cwV 1 hts (gV tw_3_4 tw_3_6 sel_X2_textOf tw_1_1 tw_3_7) rfl rfl rfl (by decide +kernel) ⟨Nat.le_of_ble_eq_true rfl, Nat.le_of_ble_eq_true rfl⟩) hC hS (fun _ h => h) (fun q h => hA q (Nat.le_trans hS.1 h)) (hW.recv hK) hW rfl rfl hl.1 (Nat.le_of_ble_eq_true rfl) ⟨Nat.le_trans (show 0 + 1 ≤ 3 by omega) (Nat.le_of_ble_eq_true rfl), Nat.le_trans (show 0 + 6 ≤ 18 by omega) (Nat.le_of_ble_eq_true rfl)⟩ dX2_part_2 hnx hlocks (by omega) (by omega) (fun E H9 q _ => ⟨⟨q.1, Or.inl q.2.1⟩, _, _, q.2.2, hF⟩) (fun rv7 H7 L7 hP7 hk7 hS => ?_)
  have hZ7 := hS.1
  obtain ⟨⟨i, hi, hxi, hrv⟩, hW⟩ := hP7
  subst hrv
  have hO := hW.2.1
  have hR1 := hW.2.2.1
  have hR2 := hW.2.2.2.1
  have ei := hF i (Or.inl hi)
  refine lv_astore (lv' := [(5, .ref (SA (7 + 2 * i))), (0, .ref (SA 0)), (1, .int x), (2, .int f9), (3, .int t9), (4, .int y)]) hx hb dX2_part_5 hl (by decide) rfl (fun ls hl => ?_)
  refine lv_aload_n hx hb dX2_part_7 rfl (lv_at hl 1 rfl) ?_
  refine lv_iload hx hb dX2_part_8 (lv_at hl 5 rfl) ?_
  refine xR_V (A := A) (A1 := A) (b := (SA 0)) (As := [.int y]) (rest := []) ⟨hx, hb, hml, hown, hts⟩ (mX2_textOf (A := A) hst ) (cwV 1 hts (gV tw_3_4 tw_3_6 sel_X2_textOf tw_1_1 tw_3_7) rfl rfl rfl (by decide +kernel) ⟨Nat.le_of_ble_eq_true rfl, Nat.le_of_ble_eq_true rfl⟩) hC hS (fun _ h => h) (fun q h => hA q (Nat.le_trans hS.1 h)) (hW.recv hK) hW rfl rfl hl.1 (Nat.le_of_ble_eq_true rfl) ⟨Nat.le_trans (show (0 + 1) + 1 ≤ 3 by omega) (Nat.le_of_ble_eq_true rfl), Nat.le_trans (show (0 + 6) + 6 ≤ 18 by omega) (Nat.le_of_ble_eq_true rfl)⟩ dX2_part_10 hnx hlocks (by omega) (by omega) (fun E H9 q _ => ⟨⟨q.1, Or.inr (Or.inl q.2.1)⟩, _, _, q.2.2, hF⟩) (fun rv8 H8 L8 hP8 hk8 hS => ?_)
  have hZ8 := hS.1
  obtain ⟨⟨j, hj, hxj, hrv⟩, hW⟩ := hP8
  subst hrv
  have hO := hW.2.1
  have hR1 := hW.2.2.1
  have hR2 := hW.2.2.2.1
  have ej := hF j (Or.inl hj)
  have i60 := (hW.line (i := i) (by omega)).1
  refine lv_astore (lv' := [(6, .ref (SA (7 + 2 * j))), (5, .ref (SA (7 + 2 * i))), (0, .ref (SA 0)), (1, .int x), (2, .int f9), (3, .int t9), (4, .int y)]) hx hb dX2_part_13 hl (by decide) rfl (fun ls hl => ?_)
  refine lv_iload_n hx hb dX2_part_15 rfl (lv_at hl 4 rfl) ?_
  refine lv_if_lt (tgt := 33) hx hb dX2_part_16 (by decide) (fun c_9 => ?_) (fun c_9 => ?_)
  · exact t_new (nL := 7) (cls := "java/lang/IndexOutOfBoundsException") (ik := 74) (ic := 76) hx hb hst hown hts hC hS hl.1 hml (by decide +kernel) tw_3_8 tw_1_16 tA76 tB76 tG76 hnx hlocks (Nat.le_of_ble_eq_true rfl) (Nat.le_of_ble_eq_true rfl) (Nat.le_trans (show ((0 + 1) + 1) + 1 ≤ 3 by omega) (Nat.le_of_ble_eq_true rfl)) (Nat.le_trans (show ((0 + 6) + 6) + 6 ≤ 18 by omega) (Nat.le_of_ble_eq_true rfl)) (by omega) (by omega) dX2_part_33 dX2_part_36 dX2_part_37 dX2_part_40 (fun H9 hk9 => ⟨⟨rfl, Or.inr (Or.inr (fun ⟨i9, a0, b0, w1, w2, w3, w4, w5, w6⟩ => by rw [w3] at c_9; exact nI_pos (by have w7 : i9 = i := (nI_eq (by omega) (by omega)).mp (w2.symm.trans hxi); rw [w7, ← ei] at w6; omega) c_9))⟩, _, _, hW.nw hk9, hF⟩)
  · obtain ⟨a9, ha31, rfl⟩ := nI_of c_9
    refine lv_iload_n hx hb dX2_part_19 rfl (lv_at hl 5 rfl) ?_
    refine lv_iload_n hx hb dX2_part_20 rfl (lv_at hl 4 rfl) ?_
    refine lv_icmp_lt (tgt := 33) hx hb dX2_part_21 (by decide) (fun c_10 => ?_) (fun c_10 => ?_)
    · exact t_new (nL := 7) (cls := "java/lang/IndexOutOfBoundsException") (ik := 74) (ic := 76) hx hb hst hown hts hC hS hl.1 hml (by decide +kernel) tw_3_8 tw_1_16 tA76 tB76 tG76 hnx hlocks (Nat.le_of_ble_eq_true rfl) (Nat.le_of_ble_eq_true rfl) (Nat.le_trans (show ((0 + 1) + 1) + 1 ≤ 3 by omega) (Nat.le_of_ble_eq_true rfl)) (Nat.le_trans (show ((0 + 6) + 6) + 6 ≤ 18 by omega) (Nat.le_of_ble_eq_true rfl)) (by omega) (by omega) dX2_part_33 dX2_part_36 dX2_part_37 dX2_part_40 (fun H9 hk9 => ⟨⟨rfl, Or.inr (Or.inr (fun ⟨i9, a0, b0, w1, w2, w3, w4, w5, w6⟩ => by rw [w3, w4] at c_10; exact nI_nlt w5 (by have w7 : i9 = i := (nI_eq (by omega) (by omega)).mp (w2.symm.trans hxi); rw [w7, ← ei] at w6; omega) c_10))⟩, _, _, hW.nw hk9, hF⟩)
    · obtain ⟨b9, hb31, rfl⟩ := nI_of (x := t9) (fun q => c_10 (Int32.lt_of_lt_of_le q (nI_pos' (by omega))))
      have hab : a9 ≤ b9 := Nat.le_of_not_lt (fun q => c_10 (nI_lt q (by omega)))
      refine lv_iload_n hx hb dX2_part_24 rfl (lv_at hl 5 rfl) ?_
      refine lv_aload hx hb dX2_part_25 (lv_at hl 1 rfl) ?_
      refine kV_i (A := A) (b := (SA (7 + 2 * i))) (As := []) (rest := .int (nI b9) :: []) ⟨hx, hb, hml, hown, hts⟩ (mX0_size (A := A) (ca := SA (8 + 2 * i))) (cwV 0 hts (gV tw_2_30 tw_2_12 tw_2_13 tw_1_2 tw_2_14) rfl rfl rfl (by decide +kernel) ⟨Nat.le_of_ble_eq_true rfl, Nat.le_of_ble_eq_true rfl⟩) hC hS hA ((hW.line (i := i) (by omega)).recv hK) (hW.line (i := i) (by omega)) rfl rfl hl.1 (Nat.le_of_ble_eq_true rfl) ⟨Nat.le_trans (show ((0 + 1) + 1) ≤ 3 by omega) (Nat.le_of_ble_eq_true rfl), Nat.le_trans (show ((0 + 6) + 6) ≤ 18 by omega) (Nat.le_of_ble_eq_true rfl)⟩ dX2_part_27 (fun r9 h9 => lv_cv h9 ?_)
      refine b_le (tgt := 41) hx hb dX2_part_30 (by decide) (by omega) (by omega) (fun c_11 => ?_) (fun c_11 => ?_)
      · refine lv_aload_n hx hb dX2_part_41 rfl (lv_at hl 2 rfl) ?_
        refine lv_aload hx hb dX2_part_42 (lv_at hl 1 rfl) ?_
        refine lv_iload_n hx hb dX2_part_44 rfl (lv_at hl 4 rfl) ?_
        refine lv_iload_n hx hb dX2_part_45 rfl (lv_at hl 5 rfl) ?_
        refine lv_aload hx hb dX2_part_46 (lv_at hl 0 rfl) ?_
        refine qI_V (A := A) (A1 := A) (b := (SA 0)) (As := [.ref (SA (7 + 2 * i)), .int (nI a9), .int (nI b9), .ref (SA (7 + 2 * j))]) (rest := []) ⟨hx, hb, hml, hown, hts⟩ (mX2_partInto (A := A) (i := i) (q := j) (a9 := a9) (b9 := b9) hAS (by omega) (by omega) (by omega) hab c_11) (cwV 4 hts (gV tw_2_55 tw_2_57 sel_X2_partInto tw_1_1 tw_2_58) rfl rfl rfl (by decide +kernel) ⟨Nat.le_of_ble_eq_true rfl, Nat.le_of_ble_eq_true rfl⟩) hC hS (fun _ h => h) (fun q h => hA q (Nat.le_trans hS.1 h)) (hW.recv hK) hW rfl rfl hl.1 (Nat.le_of_ble_eq_true rfl) ⟨Nat.le_trans (show ((0 + 1) + 1) ≤ 3 by omega) (Nat.le_of_ble_eq_true rfl), Nat.le_trans (show ((0 + 6) + 6) ≤ 18 by omega) (Nat.le_of_ble_eq_true rfl)⟩ dX2_part_48 (fun rv12 H12 L12 hP12 hk12 hS => ?_)
        have hZ12 := hS.1
        rw [ei] at hP12 c_11
        exact vx_ret (q_i hx hb hr hlocks dX2_part_51 hS (by omega) (by omega) ⟨i, j, a9, b9, hi, hxi, hj, hxj, rfl, rfl, hab, c_11, hP12.1, _, _, hP12.2, (FR.up (FR.s13 hF))⟩)
      · exact t_new (nL := 7) (cls := "java/lang/IndexOutOfBoundsException") (ik := 74) (ic := 76) hx hb hst hown hts hC hS hl.1 hml (by decide +kernel) tw_3_8 tw_1_16 tA76 tB76 tG76 hnx hlocks (Nat.le_of_ble_eq_true rfl) (Nat.le_of_ble_eq_true rfl) (Nat.le_trans (show ((0 + 1) + 1) + 1 ≤ 3 by omega) (Nat.le_of_ble_eq_true rfl)) (Nat.le_trans (show ((0 + 6) + 6) + 6 ≤ 18 by omega) (Nat.le_of_ble_eq_true rfl)) (by omega) (by omega) dX2_part_33 dX2_part_36 dX2_part_37 dX2_part_40 (fun H9 hk9 => ⟨⟨rfl, Or.inr (Or.inr (fun ⟨i9, a0, b0, w1, w2, w3, w4, w5, w6⟩ => by have w7 : i9 = i := (nI_eq (by omega) (by omega)).mp (w2.symm.trans hxi); have w8 : b0 = b9 := (nI_eq (by rw [w7, ← ei] at w6; omega) (by omega)).mp w4.symm; rw [w7, w8, ← ei] at w6; omega))⟩, _, _, hW.nw hk9, hF⟩)

abbrev rmX2_tail : Room := { frames := 7, cells := 3, slots := 18, locals := 110 }
theorem mX2_tail {l : Launch} {G : Cx} {A : Nat → Prop} (hst : l.stackTraces = false) {SA : Nat → Nat} {X : Nat → List Nat} {es : List Nat} {k : Int32} {x f9 y : Int32} (hAS : ∀ i : Nat, i < 39 → A (SA i)) : vx_Met l yX2_tail (.code yX2_tail cX2_tail 6 (some .int) :: GW) rmX2_tail (PC G A [.ref (SA 0), .int x, .int f9, .int y] (SS G SA X es k)) (qI A (fun r H => ∃ i j a9 : Nat, i < 4 ∧ x = nI i ∧ j < 4 ∧ y = nI j ∧ f9 = nI a9 ∧ a9 ≤ (X i).length ∧ r = nI (cutL (X i) a9 (X i).length).length ∧ SS G SA (updT X j (cutL (X i) a9 (X i).length)) es k H)) (xE A (fun E H => (E = "java/lang/IndexOutOfBoundsException" ∧ (NT x ∨ NT y ∨ ¬ ∃ i a9 : Nat, i < 4 ∧ x = nI i ∧ f9 = nI a9 ∧ a9 ≤ (X i).length)) ∧ SS G SA X es k H)) 3 18 A := by
  refine mstartX "Signtext" (by decide +kernel) rfl (Nat.le_of_ble_eq_true rfl) ?_
  intro p e s m below meth c ls hx hb hr hts hown hml hlocks hnx hC hA hW hl
  have hl : lv_has ls 6 [(0, .ref (SA 0)), (1, .int x), (2, .int f9), (3, .int y)] := hl
  have hK := hC.1
  have hS : va_S A s.heap s.heap [] := va_S.rf
  obtain ⟨T, es2, hW, hF⟩ := hW
  have hO := hW.2.1
  have hR1 := hW.2.2.1
  have hR2 := hW.2.2.2.1
  refine lv_aload_n hx hb dX2_tail_0 rfl (lv_at hl 0 rfl) ?_
  refine lv_iload_n hx hb dX2_tail_1 rfl (lv_at hl 1 rfl) ?_
  refine xR_V (A := A) (A1 := A) (b := (SA 0)) (As := [.int x]) (rest := []) ⟨hx, hb, hml, hown, hts⟩ (mX2_textOf (A := A) hst ) (cwV 1 hts (gV tw_3_4 tw_3_6 sel_X2_textOf tw_1_1 tw_3_7) rfl rfl rfl (by decide +kernel) ⟨Nat.le_of_ble_eq_true rfl, Nat.le_of_ble_eq_true rfl⟩) hC hS (fun _ h => h) (fun q h => hA q (Nat.le_trans hS.1 h)) (hW.recv hK) hW rfl rfl hl.1 (Nat.le_of_ble_eq_true rfl) ⟨Nat.le_trans (show 0 + 1 ≤ 3 by omega) (Nat.le_of_ble_eq_true rfl), Nat.le_trans (show 0 + 6 ≤ 18 by omega) (Nat.le_of_ble_eq_true rfl)⟩ dX2_tail_2 hnx hlocks (by omega) (by omega) (fun E H9 q _ => ⟨⟨q.1, Or.inl q.2.1⟩, _, _, q.2.2, hF⟩) (fun rv13 H13 L13 hP13 hk13 hS => ?_)
  have hZ13 := hS.1
  obtain ⟨⟨i, hi, hxi, hrv⟩, hW⟩ := hP13
  subst hrv
  have hO := hW.2.1
  have hR1 := hW.2.2.1
  have hR2 := hW.2.2.2.1
  have ei := hF i (Or.inl hi)
  refine lv_astore (lv' := [(4, .ref (SA (7 + 2 * i))), (0, .ref (SA 0)), (1, .int x), (2, .int f9), (3, .int y)]) hx hb dX2_tail_5 hl (by decide) rfl (fun ls hl => ?_)
  refine lv_aload_n hx hb dX2_tail_7 rfl (lv_at hl 1 rfl) ?_
  refine lv_iload_n hx hb dX2_tail_8 rfl (lv_at hl 4 rfl) ?_
  refine xR_V (A := A) (A1 := A) (b := (SA 0)) (As := [.int y]) (rest := []) ⟨hx, hb, hml, hown, hts⟩ (mX2_textOf (A := A) hst ) (cwV 1 hts (gV tw_3_4 tw_3_6 sel_X2_textOf tw_1_1 tw_3_7) rfl rfl rfl (by decide +kernel) ⟨Nat.le_of_ble_eq_true rfl, Nat.le_of_ble_eq_true rfl⟩) hC hS (fun _ h => h) (fun q h => hA q (Nat.le_trans hS.1 h)) (hW.recv hK) hW rfl rfl hl.1 (Nat.le_of_ble_eq_true rfl) ⟨Nat.le_trans (show (0 + 1) + 1 ≤ 3 by omega) (Nat.le_of_ble_eq_true rfl), Nat.le_trans (show (0 + 6) + 6 ≤ 18 by omega) (Nat.le_of_ble_eq_true rfl)⟩ dX2_tail_9 hnx hlocks (by omega) (by omega) (fun E H9 q _ => ⟨⟨q.1, Or.inr (Or.inl q.2.1)⟩, _, _, q.2.2, hF⟩) (fun rv14 H14 L14 hP14 hk14 hS => ?_)
  have hZ14 := hS.1
  obtain ⟨⟨j, hj, hxj, hrv⟩, hW⟩ := hP14
  subst hrv
  have hO := hW.2.1
  have hR1 := hW.2.2.1
  have hR2 := hW.2.2.2.1
  have ej := hF j (Or.inl hj)
  refine lv_astore (lv' := [(5, .ref (SA (7 + 2 * j))), (4, .ref (SA (7 + 2 * i))), (0, .ref (SA 0)), (1, .int x), (2, .int f9), (3, .int y)]) hx hb dX2_tail_12 hl (by decide) rfl (fun ls hl => ?_)
  refine lv_aload hx hb dX2_tail_14 (lv_at hl 1 rfl) ?_
  refine lv_iload_n hx hb dX2_tail_16 rfl (lv_at hl 4 rfl) ?_
  refine xV_S (A := A) (A1 := A)  (As := [.ref (SA (7 + 2 * i)), .int f9]) (rest := []) ⟨hx, hb, hml, hown, hts⟩ (mX2_needPlaceOrEnd (A := A) hst (q := i) (by omega)) (va_cwS 2 hts (gS tw_3_87 tw_3_88 tw_1_1 tw_3_89) rfl rfl rfl (by decide +kernel) ⟨Nat.le_of_ble_eq_true rfl, Nat.le_of_ble_eq_true rfl⟩) hC hS (fun _ h => h) (fun q h => hA q (Nat.le_trans hS.1 h))  hW rfl rfl hl.1 (Nat.le_of_ble_eq_true rfl) ⟨Nat.le_trans (show ((0 + 1) + 1) + 1 ≤ 3 by omega) (Nat.le_of_ble_eq_true rfl), Nat.le_trans (show ((0 + 6) + 6) + 6 ≤ 18 by omega) (Nat.le_of_ble_eq_true rfl)⟩ dX2_tail_17 hnx hlocks (by omega) (by omega) (fun E H9 q _ => ⟨⟨q.1, Or.inr (Or.inr (fun ⟨i9, a0, w1, w2, w3, w4⟩ => q.2.1 ⟨a0, by have w7 : i9 = i := (nI_eq (by omega) (by omega)).mp (w2.symm.trans hxi); rw [w7, ← ei] at w4; exact w4, w3⟩))⟩, _, _, q.2.2, hF⟩) (fun H15 L15 hP15 hk15 hS => ?_)
  have hZ15 := hS.1
  obtain ⟨⟨a9, ha9, rfl⟩, hW⟩ := hP15
  refine lv_aload_n hx hb dX2_tail_20 rfl (lv_at hl 2 rfl) ?_
  refine lv_aload hx hb dX2_tail_21 (lv_at hl 1 rfl) ?_
  refine lv_iload_n hx hb dX2_tail_23 rfl (lv_at hl 4 rfl) ?_
  refine lv_aload hx hb dX2_tail_24 (lv_at hl 1 rfl) ?_
  refine kV_i (A := A) (b := (SA (7 + 2 * i))) (As := []) (rest := .int (nI a9) :: .ref (SA (7 + 2 * i)) :: .ref (SA 0) :: []) ⟨hx, hb, hml, hown, hts⟩ (mX0_size (A := A) (ca := SA (8 + 2 * i))) (cwV 0 hts (gV tw_2_30 tw_2_12 tw_2_13 tw_1_2 tw_2_14) rfl rfl rfl (by decide +kernel) ⟨Nat.le_of_ble_eq_true rfl, Nat.le_of_ble_eq_true rfl⟩) hC hS hA ((hW.line (i := i) (by omega)).recv hK) (hW.line (i := i) (by omega)) rfl rfl hl.1 (Nat.le_of_ble_eq_true rfl) ⟨Nat.le_trans (show (((0 + 1) + 1) + 1) ≤ 3 by omega) (Nat.le_of_ble_eq_true rfl), Nat.le_trans (show (((0 + 6) + 6) + 6) ≤ 18 by omega) (Nat.le_of_ble_eq_true rfl)⟩ dX2_tail_26 (fun r9 h9 => lv_cv h9 ?_)
  refine lv_aload hx hb dX2_tail_29 (lv_at hl 0 rfl) ?_
  refine qI_V (A := A) (A1 := A) (b := (SA 0)) (As := [.ref (SA (7 + 2 * i)), .int (nI a9), .int (nI ((T i).length)), .ref (SA (7 + 2 * j))]) (rest := []) ⟨hx, hb, hml, hown, hts⟩ (mX2_partInto (A := A) (i := i) (q := j) (a9 := a9) (b9 := (T i).length) hAS (by omega) (by omega) (by omega) ha9 (Nat.le_refl _)) (cwV 4 hts (gV tw_2_55 tw_2_57 sel_X2_partInto tw_1_1 tw_2_58) rfl rfl rfl (by decide +kernel) ⟨Nat.le_of_ble_eq_true rfl, Nat.le_of_ble_eq_true rfl⟩) hC hS (fun _ h => h) (fun q h => hA q (Nat.le_trans hS.1 h)) (hW.recv hK) hW rfl rfl hl.1 (Nat.le_of_ble_eq_true rfl) ⟨Nat.le_trans (show (((0 + 1) + 1) + 1) ≤ 3 by omega) (Nat.le_of_ble_eq_true rfl), Nat.le_trans (show (((0 + 6) + 6) + 6) ≤ 18 by omega) (Nat.le_of_ble_eq_true rfl)⟩ dX2_tail_31 (fun rv16 H16 L16 hP16 hk16 hS => ?_)
  have hZ16 := hS.1
  rw [ei] at hP16 ha9
  exact vx_ret (q_i hx hb hr hlocks dX2_tail_34 hS (by omega) (by omega) ⟨i, j, a9, hi, hxi, hj, hxj, rfl, ha9, hP16.1, _, _, hP16.2, (FR.up (FR.s13 hF))⟩)

abbrev rmX2_join : Room := { frames := 8, cells := 4, slots := 24, locals := 132 }
theorem mX2_join {l : Launch} {G : Cx} {A : Nat → Prop} (hst : l.stackTraces = false) {SA : Nat → Nat} {X : Nat → List Nat} {es : List Nat} {k : Int32} {x y z : Int32} (hAS : ∀ i : Nat, i < 39 → A (SA i)) : vx_Met l yX2_join (.code yX2_join cX2_join 4 (some .int) :: GW) rmX2_join (PC G A [.ref (SA 0), .int x, .int y, .int z] (SS G SA X es k)) (qI A (fun r H => ∃ i j q : Nat, i < 4 ∧ x = nI i ∧ j < 4 ∧ y = nI j ∧ q < 4 ∧ z = nI q ∧ (X i ++ X j).length ≤ 60 ∧ r = nI (X i ++ X j).length ∧ SS G SA (updT X q (X i ++ X j)) es k H)) (xE A (fun E H => ((E = "java/lang/IndexOutOfBoundsException" ∧ (NT x ∨ NT y ∨ NT z)) ∨ (E = "java/lang/IllegalStateException" ∧ ∃ i j q : Nat, i < 4 ∧ x = nI i ∧ j < 4 ∧ y = nI j ∧ q < 4 ∧ z = nI q ∧ 60 < (X i ++ X j).length)) ∧ SS G SA X es k H)) 4 24 A := by
  refine mstartX "Signtext" (by decide +kernel) rfl (Nat.le_of_ble_eq_true rfl) ?_
  intro p e s m below meth c ls hx hb hr hts hown hml hlocks hnx hC hA hW hl
  have hl : lv_has ls 4 [(0, .ref (SA 0)), (1, .int x), (2, .int y), (3, .int z)] := hl
  have hK := hC.1
  have hS : va_S A s.heap s.heap [] := va_S.rf
  obtain ⟨T, es2, hW, hF⟩ := hW
  have hO := hW.2.1
  have hR1 := hW.2.2.1
  have hR2 := hW.2.2.2.1
  refine lv_aload_n hx hb dX2_join_0 rfl (lv_at hl 0 rfl) ?_
  refine lv_aload_n hx hb dX2_join_1 rfl (lv_at hl 0 rfl) ?_
  refine lv_iload_n hx hb dX2_join_2 rfl (lv_at hl 1 rfl) ?_
  refine xR_V (A := A) (A1 := A) (b := (SA 0)) (As := [.int x]) (rest := .ref (SA 0) :: []) ⟨hx, hb, hml, hown, hts⟩ (mX2_textOf (A := A) hst ) (cwV 1 hts (gV tw_3_4 tw_3_6 sel_X2_textOf tw_1_1 tw_3_7) rfl rfl rfl (by decide +kernel) ⟨Nat.le_of_ble_eq_true rfl, Nat.le_of_ble_eq_true rfl⟩) hC hS (fun _ h => h) (fun q h => hA q (Nat.le_trans hS.1 h)) (hW.recv hK) hW rfl rfl hl.1 (Nat.le_of_ble_eq_true rfl) ⟨Nat.le_trans (show 0 + 1 ≤ 4 by omega) (Nat.le_of_ble_eq_true rfl), Nat.le_trans (show 0 + 6 ≤ 24 by omega) (Nat.le_of_ble_eq_true rfl)⟩ dX2_join_3 hnx hlocks (by omega) (by omega) (fun E H9 q _ => ⟨Or.inl ⟨q.1, Or.inl q.2.1⟩, _, _, q.2.2, hF⟩) (fun rv17 H17 L17 hP17 hk17 hS => ?_)
  have hZ17 := hS.1
  obtain ⟨⟨i, hi, hxi, hrv⟩, hW⟩ := hP17
  subst hrv
  have hO := hW.2.1
  have hR1 := hW.2.2.1
  have hR2 := hW.2.2.2.1
  have ei := hF i (Or.inl hi)
  refine lv_aload_n hx hb dX2_join_6 rfl (lv_at hl 0 rfl) ?_
  refine lv_iload_n hx hb dX2_join_7 rfl (lv_at hl 2 rfl) ?_
  refine xR_V (A := A) (A1 := A) (b := (SA 0)) (As := [.int y]) (rest := .ref (SA (7 + 2 * i)) :: .ref (SA 0) :: []) ⟨hx, hb, hml, hown, hts⟩ (mX2_textOf (A := A) hst ) (cwV 1 hts (gV tw_3_4 tw_3_6 sel_X2_textOf tw_1_1 tw_3_7) rfl rfl rfl (by decide +kernel) ⟨Nat.le_of_ble_eq_true rfl, Nat.le_of_ble_eq_true rfl⟩) hC hS (fun _ h => h) (fun q h => hA q (Nat.le_trans hS.1 h)) (hW.recv hK) hW rfl rfl hl.1 (Nat.le_of_ble_eq_true rfl) ⟨Nat.le_trans (show (0 + 1) + 1 ≤ 4 by omega) (Nat.le_of_ble_eq_true rfl), Nat.le_trans (show (0 + 6) + 6 ≤ 24 by omega) (Nat.le_of_ble_eq_true rfl)⟩ dX2_join_8 hnx hlocks (by omega) (by omega) (fun E H9 q _ => ⟨Or.inl ⟨q.1, Or.inr (Or.inl q.2.1)⟩, _, _, q.2.2, hF⟩) (fun rv18 H18 L18 hP18 hk18 hS => ?_)
  have hZ18 := hS.1
  obtain ⟨⟨j, hj, hxj, hrv⟩, hW⟩ := hP18
  subst hrv
  have hO := hW.2.1
  have hR1 := hW.2.2.1
  have hR2 := hW.2.2.2.1
  have ej := hF j (Or.inl hj)
  refine lv_aload_n hx hb dX2_join_11 rfl (lv_at hl 0 rfl) ?_
  refine lv_iload_n hx hb dX2_join_12 rfl (lv_at hl 3 rfl) ?_
  refine xR_V (A := A) (A1 := A) (b := (SA 0)) (As := [.int z]) (rest := .ref (SA (7 + 2 * j)) :: .ref (SA (7 + 2 * i)) :: .ref (SA 0) :: []) ⟨hx, hb, hml, hown, hts⟩ (mX2_textOf (A := A) hst ) (cwV 1 hts (gV tw_3_4 tw_3_6 sel_X2_textOf tw_1_1 tw_3_7) rfl rfl rfl (by decide +kernel) ⟨Nat.le_of_ble_eq_true rfl, Nat.le_of_ble_eq_true rfl⟩) hC hS (fun _ h => h) (fun q h => hA q (Nat.le_trans hS.1 h)) (hW.recv hK) hW rfl rfl hl.1 (Nat.le_of_ble_eq_true rfl) ⟨Nat.le_trans (show ((0 + 1) + 1) + 1 ≤ 4 by omega) (Nat.le_of_ble_eq_true rfl), Nat.le_trans (show ((0 + 6) + 6) + 6 ≤ 24 by omega) (Nat.le_of_ble_eq_true rfl)⟩ dX2_join_13 hnx hlocks (by omega) (by omega) (fun E H9 q _ => ⟨Or.inl ⟨q.1, Or.inr (Or.inr q.2.1)⟩, _, _, q.2.2, hF⟩) (fun rv19 H19 L19 hP19 hk19 hS => ?_)
  have hZ19 := hS.1
  obtain ⟨⟨q, hq, hxq, hrv⟩, hW⟩ := hP19
  subst hrv
  have hO := hW.2.1
  have hR1 := hW.2.2.1
  have hR2 := hW.2.2.2.1
  have eq := hF q (Or.inl hq)
  refine xI_V (A := A) (A1 := A) (b := (SA 0)) (As := [.ref (SA (7 + 2 * i)), .ref (SA (7 + 2 * j)), .ref (SA (7 + 2 * q))]) (rest := []) ⟨hx, hb, hml, hown, hts⟩ (mX2_joinInto (A := A) hst (i := i) (j := j) (q := q) hAS (by omega) (by omega) (by omega) (by omega) (by omega)) (cwV 3 hts (gV tw_3_32 tw_3_34 sel_X2_joinInto tw_1_1 tw_3_35) rfl rfl rfl (by decide +kernel) ⟨Nat.le_of_ble_eq_true rfl, Nat.le_of_ble_eq_true rfl⟩) hC hS (fun _ h => h) (fun q h => hA q (Nat.le_trans hS.1 h)) (hW.recv hK) hW rfl rfl hl.1 (Nat.le_of_ble_eq_true rfl) ⟨Nat.le_trans (show (((0 + 1) + 1) + 1) + 1 ≤ 4 by omega) (Nat.le_of_ble_eq_true rfl), Nat.le_trans (show (((0 + 6) + 6) + 6) + 6 ≤ 24 by omega) (Nat.le_of_ble_eq_true rfl)⟩ dX2_join_16 hnx hlocks (by omega) (by omega) (fun E H9 w _ => ⟨Or.inr ⟨w.1, i, j, q, hi, hxi, hj, hxj, hq, hxq, by rw [← ei, ← ej]; exact w.2.1⟩, _, _, w.2.2, hF⟩) (fun rv20 H20 L20 hP20 hk20 hS => ?_)
  have hZ20 := hS.1
  rw [ei, ej] at hP20
  exact vx_ret (q_i hx hb hr hlocks dX2_join_19 hS (by omega) (by omega) ⟨i, j, q, hi, hxi, hj, hxj, hq, hxq, hP20.2.1, hP20.1, _, _, hP20.2.2, (FR.up (FR.s13 hF))⟩)

abbrev rmX2_trim : Room := { frames := 7, cells := 2, slots := 12, locals := 110 }
theorem mX2_trim {l : Launch} {G : Cx} {A : Nat → Prop} (hst : l.stackTraces = false) {SA : Nat → Nat} {X : Nat → List Nat} {es : List Nat} {k : Int32} {x y : Int32} {b : Bool} (hAS : ∀ i : Nat, i < 39 → A (SA i)) : vx_Met l yX2_trim (.code yX2_trim cX2_trim 5 (some .int) :: GW) rmX2_trim (PC G A [.ref (SA 0), .int x, .int (bI b), .int y] (SS G SA X es k)) (qI A (fun r H => ∃ i j e9 : Nat, i < 4 ∧ x = nI i ∧ j < 4 ∧ y = nI j ∧ isTe b (X i) e9 ∧ r = nI (cutL (X i) (tbL b (X i)) e9).length ∧ SS G SA (updT X j (cutL (X i) (tbL b (X i)) e9)) es k H)) (xE A (fun E H => (E = "java/lang/IndexOutOfBoundsException" ∧ (NT x ∨ NT y)) ∧ SS G SA X es k H)) 2 12 A := by
  refine mstartX "Signtext" (by decide +kernel) rfl (Nat.le_of_ble_eq_true rfl) ?_
  intro p e s m below meth c ls hx hb hr hts hown hml hlocks hnx hC hA hW hl
  have hl : lv_has ls 5 [(0, .ref (SA 0)), (1, .int x), (2, .int (bI b)), (3, .int y)] := hl
  have hK := hC.1
  have hS : va_S A s.heap s.heap [] := va_S.rf
  obtain ⟨T, es2, hW, hF⟩ := hW
  have hO := hW.2.1
  have hR1 := hW.2.2.1
  have hR2 := hW.2.2.2.1
  refine lv_aload_n hx hb dX2_trim_0 rfl (lv_at hl 0 rfl) ?_
  refine lv_iload_n hx hb dX2_trim_1 rfl (lv_at hl 1 rfl) ?_
  refine xR_V (A := A) (A1 := A) (b := (SA 0)) (As := [.int x]) (rest := []) ⟨hx, hb, hml, hown, hts⟩ (mX2_textOf (A := A) hst ) (cwV 1 hts (gV tw_3_4 tw_3_6 sel_X2_textOf tw_1_1 tw_3_7) rfl rfl rfl (by decide +kernel) ⟨Nat.le_of_ble_eq_true rfl, Nat.le_of_ble_eq_true rfl⟩) hC hS (fun _ h => h) (fun q h => hA q (Nat.le_trans hS.1 h)) (hW.recv hK) hW rfl rfl hl.1 (Nat.le_of_ble_eq_true rfl) ⟨Nat.le_trans (show 0 + 1 ≤ 2 by omega) (Nat.le_of_ble_eq_true rfl), Nat.le_trans (show 0 + 6 ≤ 12 by omega) (Nat.le_of_ble_eq_true rfl)⟩ dX2_trim_2 hnx hlocks (by omega) (by omega) (fun E H9 q _ => ⟨⟨q.1, Or.inl q.2.1⟩, _, _, q.2.2, hF⟩) (fun rv21 H21 L21 hP21 hk21 hS => ?_)
  have hZ21 := hS.1
  obtain ⟨⟨i, hi, hxi, hrv⟩, hW⟩ := hP21
  subst hrv
  have hO := hW.2.1
  have hR1 := hW.2.2.1
  have hR2 := hW.2.2.2.1
  have ei := hF i (Or.inl hi)
  refine lv_astore (lv' := [(4, .ref (SA (7 + 2 * i))), (0, .ref (SA 0)), (1, .int x), (2, .int (bI b)), (3, .int y)]) hx hb dX2_trim_5 hl (by decide) rfl (fun ls hl => ?_)
  refine lv_aload_n hx hb dX2_trim_7 rfl (lv_at hl 1 rfl) ?_
  refine lv_aload hx hb dX2_trim_8 (lv_at hl 0 rfl) ?_
  refine lv_aload hx hb dX2_trim_10 (lv_at hl 0 rfl) ?_
  refine lv_iload_n hx hb dX2_trim_12 rfl (lv_at hl 3 rfl) ?_
  have i60 := (hW.line (i := i) (by omega)).1
  have tb9 := tbL_le b (T i)
  refine kV_i (A := A) (b := (SA (7 + 2 * i))) (As := [.int (bI b)]) (rest := .ref (SA (7 + 2 * i)) :: .ref (SA 0) :: []) ⟨hx, hb, hml, hown, hts⟩ (mX0_trimmedBegin (A := A) (ca := SA (8 + 2 * i)) (b := b)) (cwV 1 hts (gV tw_2_43 tw_2_44 tw_2_45 tw_1_2 tw_2_46) rfl rfl rfl (by decide +kernel) ⟨Nat.le_of_ble_eq_true rfl, Nat.le_of_ble_eq_true rfl⟩) hC hS hA ((hW.line (i := i) (by omega)).recv hK) (hW.line (i := i) (by omega)) rfl rfl hl.1 (Nat.le_of_ble_eq_true rfl) ⟨Nat.le_trans (show (0 + 1) ≤ 2 by omega) (Nat.le_of_ble_eq_true rfl), Nat.le_trans (show (0 + 6) ≤ 12 by omega) (Nat.le_of_ble_eq_true rfl)⟩ dX2_trim_13 (fun r9 h9 => lv_cv h9 ?_)
  refine lv_aload hx hb dX2_trim_16 (lv_at hl 0 rfl) ?_
  refine lv_iload_n hx hb dX2_trim_18 rfl (lv_at hl 3 rfl) ?_
  refine kV_i (A := A) (b := (SA (7 + 2 * i))) (As := [.int (bI b)]) (rest := .int (nI (tbL b (T i))) :: .ref (SA (7 + 2 * i)) :: .ref (SA 0) :: []) ⟨hx, hb, hml, hown, hts⟩ (mX0_trimmedEnd (A := A) (ca := SA (8 + 2 * i)) (b := b)) (cwV 1 hts (gV tw_2_50 tw_2_51 tw_2_52 tw_1_2 tw_2_53) rfl rfl rfl (by decide +kernel) ⟨Nat.le_of_ble_eq_true rfl, Nat.le_of_ble_eq_true rfl⟩) hC hS hA ((hW.line (i := i) (by omega)).recv hK) (hW.line (i := i) (by omega)) rfl rfl hl.1 (Nat.le_of_ble_eq_true rfl) ⟨Nat.le_trans (show (0 + 1) ≤ 2 by omega) (Nat.le_of_ble_eq_true rfl), Nat.le_trans (show (0 + 6) ≤ 12 by omega) (Nat.le_of_ble_eq_true rfl)⟩ dX2_trim_19 (fun r_22 hr_22 => ?_)
  obtain ⟨e9, he9, rfl⟩ := hr_22
  refine lv_aload_n hx hb dX2_trim_22 rfl (lv_at hl 1 rfl) ?_
  refine lv_iload_n hx hb dX2_trim_23 rfl (lv_at hl 4 rfl) ?_
  refine xR_V (A := A) (A1 := A) (b := (SA 0)) (As := [.int y]) (rest := .int (nI e9) :: .int (nI (tbL b (T i))) :: .ref (SA (7 + 2 * i)) :: .ref (SA 0) :: []) ⟨hx, hb, hml, hown, hts⟩ (mX2_textOf (A := A) hst ) (cwV 1 hts (gV tw_3_4 tw_3_6 sel_X2_textOf tw_1_1 tw_3_7) rfl rfl rfl (by decide +kernel) ⟨Nat.le_of_ble_eq_true rfl, Nat.le_of_ble_eq_true rfl⟩) hC hS (fun _ h => h) (fun q h => hA q (Nat.le_trans hS.1 h)) (hW.recv hK) hW rfl rfl hl.1 (Nat.le_of_ble_eq_true rfl) ⟨Nat.le_trans (show (0 + 1) + 1 ≤ 2 by omega) (Nat.le_of_ble_eq_true rfl), Nat.le_trans (show (0 + 6) + 6 ≤ 12 by omega) (Nat.le_of_ble_eq_true rfl)⟩ dX2_trim_24 hnx hlocks (by omega) (by omega) (fun E H9 q _ => ⟨⟨q.1, Or.inr q.2.1⟩, _, _, q.2.2, hF⟩) (fun rv23 H23 L23 hP23 hk23 hS => ?_)
  have hZ23 := hS.1
  obtain ⟨⟨j, hj, hxj, hrv⟩, hW⟩ := hP23
  subst hrv
  have hO := hW.2.1
  have hR1 := hW.2.2.1
  have hR2 := hW.2.2.2.1
  have ej := hF j (Or.inl hj)
  refine qI_V (A := A) (A1 := A) (b := (SA 0)) (As := [.ref (SA (7 + 2 * i)), .int (nI (tbL b (T i))), .int (nI e9), .ref (SA (7 + 2 * j))]) (rest := []) ⟨hx, hb, hml, hown, hts⟩ (mX2_partInto (A := A) (i := i) (q := j) (a9 := tbL b (T i)) (b9 := e9) hAS (by omega) (by omega) (by omega) he9.1 he9.2.1) (cwV 4 hts (gV tw_2_55 tw_2_57 sel_X2_partInto tw_1_1 tw_2_58) rfl rfl rfl (by decide +kernel) ⟨Nat.le_of_ble_eq_true rfl, Nat.le_of_ble_eq_true rfl⟩) hC hS (fun _ h => h) (fun q h => hA q (Nat.le_trans hS.1 h)) (hW.recv hK) hW rfl rfl hl.1 (Nat.le_of_ble_eq_true rfl) ⟨Nat.le_trans (show ((0 + 1) + 1) ≤ 2 by omega) (Nat.le_of_ble_eq_true rfl), Nat.le_trans (show ((0 + 6) + 6) ≤ 12 by omega) (Nat.le_of_ble_eq_true rfl)⟩ dX2_trim_27 (fun rv24 H24 L24 hP24 hk24 hS => ?_)
  have hZ24 := hS.1
  rw [ei] at hP24 he9
  exact vx_ret (q_i hx hb hr hlocks dX2_trim_30 hS (by omega) (by omega) ⟨i, j, e9, hi, hxi, hj, hxj, he9, hP24.1, _, _, hP24.2, (FR.up (FR.s13 hF))⟩)

abbrev rmX2_lay : Room := { frames := 7, cells := 1, slots := 6, locals := 110 }
theorem mX2_lay {l : Launch} {G : Cx} {A : Nat → Prop} (hst : l.stackTraces = false) {SA : Nat → Nat} {X : Nat → List Nat} {es : List Nat} {k : Int32} {x : Int32} (hAS : ∀ i : Nat, i < 39 → A (SA i)) : vx_Met l yX2_lay (.code yX2_lay cX2_lay 2 (some .int) :: GW) rmX2_lay (PC G A [.ref (SA 0), .int x] (SS G SA X es k)) (qI A (fun r H => ∃ i : Nat, i < 4 ∧ x = nI i ∧ r = nI (X i).length ∧ SS G SA (updT X 11 (X i)) es k H)) (xE A (fun E H => (E = "java/lang/IndexOutOfBoundsException" ∧ NT x) ∧ SS G SA X es k H)) 1 6 A := by
  refine mstartX "Signtext" (by decide +kernel) rfl (Nat.le_of_ble_eq_true rfl) ?_
  intro p e s m below meth c ls hx hb hr hts hown hml hlocks hnx hC hA hW hl
  have hl : lv_has ls 2 [(0, .ref (SA 0)), (1, .int x)] := hl
  have hK := hC.1
  have hS : va_S A s.heap s.heap [] := va_S.rf
  obtain ⟨T, es2, hW, hF⟩ := hW
  have hO := hW.2.1
  have hR1 := hW.2.2.1
  have hR2 := hW.2.2.2.1
  refine lv_aload_n hx hb dX2_lay_0 rfl (lv_at hl 0 rfl) ?_
  refine va_get (D := G.1) (ci := 6) (C := RX2) (T := TX2) (N := 8) hx hb hts inX2 hown hK (at_P hO) 0 rfl rfl 2 (by decide) (hts _ tw_1_139) (fun _ h9 => h9) rfl dX2_lay_1 ?_
  refine lv_aload_n hx hb dX2_lay_4 rfl (lv_at hl 0 rfl) ?_
  refine lv_iload_n hx hb dX2_lay_5 rfl (lv_at hl 1 rfl) ?_
  refine xR_V (A := A) (A1 := A) (b := (SA 0)) (As := [.int x]) (rest := .ref (SA 29) :: []) ⟨hx, hb, hml, hown, hts⟩ (mX2_textOf (A := A) hst ) (cwV 1 hts (gV tw_3_4 tw_3_6 sel_X2_textOf tw_1_1 tw_3_7) rfl rfl rfl (by decide +kernel) ⟨Nat.le_of_ble_eq_true rfl, Nat.le_of_ble_eq_true rfl⟩) hC hS (fun _ h => h) (fun q h => hA q (Nat.le_trans hS.1 h)) (hW.recv hK) hW rfl rfl hl.1 (Nat.le_of_ble_eq_true rfl) ⟨Nat.le_trans (show 0 + 1 ≤ 1 by omega) (Nat.le_of_ble_eq_true rfl), Nat.le_trans (show 0 + 6 ≤ 6 by omega) (Nat.le_of_ble_eq_true rfl)⟩ dX2_lay_6 hnx hlocks (by omega) (by omega) (fun E H9 q _ => ⟨⟨q.1, q.2.1⟩, _, _, q.2.2, hF⟩) (fun rv25 H25 L25 hP25 hk25 hS => ?_)
  have hZ25 := hS.1
  obtain ⟨⟨i, hi, hxi, hrv⟩, hW⟩ := hP25
  subst hrv
  have hO := hW.2.1
  have hR1 := hW.2.2.1
  have hR2 := hW.2.2.2.1
  have ei := hF i (Or.inl hi)
  refine qV_V (A := A) (A1 := ow (SA (7 + 2 * 11)) (SA (8 + 2 * 11)) H25.size) (b := (SA 29)) (As := [.ref (SA (7 + 2 * i))]) (rest := []) ⟨hx, hb, hml, hown, hts⟩ (mX0_become (A := ow (SA (7 + 2 * 11)) (SA (8 + 2 * 11)) H25.size) (ca := SA (8 + 2 * 11)) (cb := SA (8 + 2 * i)) (t := T 11) (u := T i) (Or.inl rfl) (Or.inr (Or.inl rfl)) ⟨hW.ne (i := 7 + 2 * i) (j := 7 + 2 * 11) (by omega) (by omega) (by omega), hW.ne (i := 7 + 2 * i) (j := 8 + 2 * 11) (by omega) (by omega) (by omega), hW.ne (i := 8 + 2 * i) (j := 7 + 2 * 11) (by omega) (by omega) (by omega), hW.ne (i := 8 + 2 * i) (j := 8 + 2 * 11) (by omega) (by omega) (by omega)⟩) (cwV 1 hts (gV tw_2_3 tw_2_4 tw_2_5 tw_1_2 tw_2_6) rfl rfl rfl (by decide +kernel) ⟨Nat.le_of_ble_eq_true rfl, Nat.le_of_ble_eq_true rfl⟩) hC hS (ow_in (hAS _ (by omega)) (hAS _ (by omega)) hA hS.1) ow_n ((hW.line (i := 11) (by omega)).recv hK) ⟨hW.line (i := 11) (by omega), hW.line (i := i) (by omega)⟩ rfl rfl hl.1 (Nat.le_of_ble_eq_true rfl) ⟨Nat.le_trans (show (0 + 1) ≤ 1 by omega) (Nat.le_of_ble_eq_true rfl), Nat.le_trans (show (0 + 6) ≤ 6 by omega) (Nat.le_of_ble_eq_true rfl)⟩ dX2_lay_9 (fun H26 L26 hP26 hk26 hS => ?_)
  have hZ26 := hS.1
  have hW := hW.put (q := 11) (t := T i) (by omega) hk26 hP26.1
  have hO := hW.2.1
  have hR1 := hW.2.2.1
  have hR2 := hW.2.2.2.1
  refine lv_aload_n hx hb dX2_lay_12 rfl (lv_at hl 0 rfl) ?_
  refine va_get (D := G.1) (ci := 6) (C := RX2) (T := TX2) (N := 8) hx hb hts inX2 hown hK (at_P hO) 0 rfl rfl 2 (by decide) (hts _ tw_1_139) (fun _ h9 => h9) rfl dX2_lay_13 ?_
  have hLq := hW.line (i := 11) (by omega)
  rw [updT_s] at hLq
  refine kV_i (A := A) (b := (SA 29)) (As := []) (rest := []) ⟨hx, hb, hml, hown, hts⟩ (mX0_size (A := A) (ca := SA (8 + 2 * 11))) (cwV 0 hts (gV tw_2_30 tw_2_12 tw_2_13 tw_1_2 tw_2_14) rfl rfl rfl (by decide +kernel) ⟨Nat.le_of_ble_eq_true rfl, Nat.le_of_ble_eq_true rfl⟩) hC hS hA (hLq.recv hK) hLq rfl rfl hl.1 (Nat.le_of_ble_eq_true rfl) ⟨Nat.le_trans (show (0 + 1) ≤ 1 by omega) (Nat.le_of_ble_eq_true rfl), Nat.le_trans (show (0 + 6) ≤ 6 by omega) (Nat.le_of_ble_eq_true rfl)⟩ dX2_lay_16 (fun r9 h9 => lv_cv h9 ?_)
  rw [ei] at hW ⊢
  exact vx_ret (q_i hx hb hr hlocks dX2_lay_19 hS (by omega) (by omega) ⟨i, hi, hxi, rfl, _, _, hW, (FR.up hF)⟩)

abbrev rmX2_take : Room := { frames := 7, cells := 1, slots := 6, locals := 110 }
theorem mX2_take {l : Launch} {G : Cx} {A : Nat → Prop} (hst : l.stackTraces = false) {SA : Nat → Nat} {X : Nat → List Nat} {es : List Nat} {k : Int32} {x : Int32} (hAS : ∀ i : Nat, i < 39 → A (SA i)) : vx_Met l yX2_take (.code yX2_take cX2_take 2 (some .int) :: GW) rmX2_take (PC G A [.ref (SA 0), .int x] (SS G SA X es k)) (qI A (fun r H => ∃ i : Nat, i < 4 ∧ x = nI i ∧ r = nI (X 11).length ∧ SS G SA (updT X i (X 11)) es k H)) (xE A (fun E H => (E = "java/lang/IndexOutOfBoundsException" ∧ NT x) ∧ SS G SA X es k H)) 1 6 A := by
  refine mstartX "Signtext" (by decide +kernel) rfl (Nat.le_of_ble_eq_true rfl) ?_
  intro p e s m below meth c ls hx hb hr hts hown hml hlocks hnx hC hA hW hl
  have hl : lv_has ls 2 [(0, .ref (SA 0)), (1, .int x)] := hl
  have hK := hC.1
  have hS : va_S A s.heap s.heap [] := va_S.rf
  obtain ⟨T, es2, hW, hF⟩ := hW
  have hO := hW.2.1
  have hR1 := hW.2.2.1
  have hR2 := hW.2.2.2.1
  have e11 := hF 11 (Or.inr (Or.inl rfl))
  refine lv_aload_n hx hb dX2_take_0 rfl (lv_at hl 0 rfl) ?_
  refine lv_aload_n hx hb dX2_take_1 rfl (lv_at hl 0 rfl) ?_
  refine va_get (D := G.1) (ci := 6) (C := RX2) (T := TX2) (N := 8) hx hb hts inX2 hown hK (at_P hO) 0 rfl rfl 2 (by decide) (hts _ tw_1_139) (fun _ h9 => h9) rfl dX2_take_2 ?_
  refine lv_iconst (v := nI 0) hx hb dX2_take_5 (by decide) ?_
  refine lv_aload_n hx hb dX2_take_6 rfl (lv_at hl 0 rfl) ?_
  refine va_get (D := G.1) (ci := 6) (C := RX2) (T := TX2) (N := 8) hx hb hts inX2 hown hK (at_P hO) 0 rfl rfl 2 (by decide) (hts _ tw_1_139) (fun _ h9 => h9) rfl dX2_take_7 ?_
  refine kV_i (A := A) (b := (SA 29)) (As := []) (rest := .int (nI 0) :: .ref (SA 29) :: .ref (SA 0) :: []) ⟨hx, hb, hml, hown, hts⟩ (mX0_size (A := A) (ca := SA (8 + 2 * 11))) (cwV 0 hts (gV tw_2_30 tw_2_12 tw_2_13 tw_1_2 tw_2_14) rfl rfl rfl (by decide +kernel) ⟨Nat.le_of_ble_eq_true rfl, Nat.le_of_ble_eq_true rfl⟩) hC hS hA ((hW.line (i := 11) (by omega)).recv hK) (hW.line (i := 11) (by omega)) rfl rfl hl.1 (Nat.le_of_ble_eq_true rfl) ⟨Nat.zero_le _, Nat.zero_le _⟩ dX2_take_10 (fun r9 h9 => lv_cv h9 ?_)
  refine lv_aload_n hx hb dX2_take_13 rfl (lv_at hl 0 rfl) ?_
  refine lv_iload_n hx hb dX2_take_14 rfl (lv_at hl 1 rfl) ?_
  refine xR_V (A := A) (A1 := A) (b := (SA 0)) (As := [.int x]) (rest := .int (nI ((T 11).length)) :: .int (nI 0) :: .ref (SA 29) :: .ref (SA 0) :: []) ⟨hx, hb, hml, hown, hts⟩ (mX2_textOf (A := A) hst ) (cwV 1 hts (gV tw_3_4 tw_3_6 sel_X2_textOf tw_1_1 tw_3_7) rfl rfl rfl (by decide +kernel) ⟨Nat.le_of_ble_eq_true rfl, Nat.le_of_ble_eq_true rfl⟩) hC hS (fun _ h => h) (fun q h => hA q (Nat.le_trans hS.1 h)) (hW.recv hK) hW rfl rfl hl.1 (Nat.le_of_ble_eq_true rfl) ⟨Nat.le_trans (show 0 + 1 ≤ 1 by omega) (Nat.le_of_ble_eq_true rfl), Nat.le_trans (show 0 + 6 ≤ 6 by omega) (Nat.le_of_ble_eq_true rfl)⟩ dX2_take_15 hnx hlocks (by omega) (by omega) (fun E H9 q _ => ⟨⟨q.1, q.2.1⟩, _, _, q.2.2, hF⟩) (fun rv27 H27 L27 hP27 hk27 hS => ?_)
  have hZ27 := hS.1
  obtain ⟨⟨i, hi, hxi, hrv⟩, hW⟩ := hP27
  subst hrv
  have hO := hW.2.1
  have hR1 := hW.2.2.1
  have hR2 := hW.2.2.2.1
  have ei := hF i (Or.inl hi)
  refine qI_V (A := A) (A1 := A) (b := (SA 0)) (As := [.ref (SA 29), .int (nI 0), .int (nI ((T 11).length)), .ref (SA (7 + 2 * i))]) (rest := []) ⟨hx, hb, hml, hown, hts⟩ (mX2_partInto (A := A) (i := 11) (q := i) (a9 := 0) (b9 := (T 11).length) hAS (by omega) (by omega) (by omega) (Nat.zero_le _) (Nat.le_refl _)) (cwV 4 hts (gV tw_2_55 tw_2_57 sel_X2_partInto tw_1_1 tw_2_58) rfl rfl rfl (by decide +kernel) ⟨Nat.le_of_ble_eq_true rfl, Nat.le_of_ble_eq_true rfl⟩) hC hS (fun _ h => h) (fun q h => hA q (Nat.le_trans hS.1 h)) (hW.recv hK) hW rfl rfl hl.1 (Nat.le_of_ble_eq_true rfl) ⟨Nat.le_trans (show (0 + 1) ≤ 1 by omega) (Nat.le_of_ble_eq_true rfl), Nat.le_trans (show (0 + 6) ≤ 6 by omega) (Nat.le_of_ble_eq_true rfl)⟩ dX2_take_18 (fun rv28 H28 L28 hP28 hk28 hS => ?_)
  have hZ28 := hS.1
  rw [cutL_all, e11] at hP28
  exact vx_ret (q_i hx hb hr hlocks dX2_take_21 hS (by omega) (by omega) ⟨i, hi, hxi, hP28.1, _, _, hP28.2, (FR.up (FR.s13 hF))⟩)

abbrev rmX2_set : Room := { frames := 7, cells := 2, slots := 12, locals := 110 }
theorem mX2_set {l : Launch} {G : Cx} {A : Nat → Prop} (hst : l.stackTraces = false) {SA : Nat → Nat} {X : Nat → List Nat} {es : List Nat} {k : Int32} {x y : Int32} (hAS : ∀ i : Nat, i < 39 → A (SA i)) : vx_Met l yX2_set (.code yX2_set cX2_set 5 (some .int) :: GW) rmX2_set (PC G A [.ref (SA 0), .int x, .int y] (SS G SA X es k)) (qI A (fun r H => ∃ a9 j : Nat, a9 < (X 11).length ∧ x = nI a9 ∧ j < 24 ∧ y = nI j ∧ r = nI ((X 11).getD a9 0) ∧ SS G SA (updT X 11 ((X 11).set a9 (codeT.getD j 0))) es k H)) (xE A (fun E H => ((E = "java/lang/IndexOutOfBoundsException" ∧ ¬ ∃ a9 : Nat, a9 < (X 11).length ∧ x = nI a9) ∨ (E = "java/lang/IllegalArgumentException" ∧ (∃ a9 : Nat, a9 < (X 11).length ∧ x = nI a9) ∧ NS y)) ∧ SS G SA X es k H)) 2 12 A := by
  refine mstartX "Signtext" (by decide +kernel) rfl (Nat.le_of_ble_eq_true rfl) ?_
  intro p e s m below meth c ls hx hb hr hts hown hml hlocks hnx hC hA hW hl
  have hl : lv_has ls 5 [(0, .ref (SA 0)), (1, .int x), (2, .int y)] := hl
  have hK := hC.1
  have hS : va_S A s.heap s.heap [] := va_S.rf
  obtain ⟨T, es2, hW, hF⟩ := hW
  have hO := hW.2.1
  have hR1 := hW.2.2.1
  have hR2 := hW.2.2.2.1
  have e11 := hF 11 (Or.inr (Or.inl rfl))
  refine lv_aload_n hx hb dX2_set_0 rfl (lv_at hl 0 rfl) ?_
  refine va_get (D := G.1) (ci := 6) (C := RX2) (T := TX2) (N := 8) hx hb hts inX2 hown hK (at_P hO) 0 rfl rfl 2 (by decide) (hts _ tw_1_139) (fun _ h9 => h9) rfl dX2_set_1 ?_
  refine lv_iload_n hx hb dX2_set_4 rfl (lv_at hl 1 rfl) ?_
  refine xV_S (A := A) (A1 := A)  (As := [.ref (SA 29), .int x]) (rest := []) ⟨hx, hb, hml, hown, hts⟩ (mX2_needPlace (A := A) hst (q := 11) (by decide)) (va_cwS 2 hts (gS tw_3_180 tw_3_181 tw_1_1 tw_3_182) rfl rfl rfl (by decide +kernel) ⟨Nat.le_of_ble_eq_true rfl, Nat.le_of_ble_eq_true rfl⟩) hC hS (fun _ h => h) (fun q h => hA q (Nat.le_trans hS.1 h))  hW rfl rfl hl.1 (Nat.le_of_ble_eq_true rfl) ⟨Nat.le_trans (show 0 + 1 ≤ 2 by omega) (Nat.le_of_ble_eq_true rfl), Nat.le_trans (show 0 + 6 ≤ 12 by omega) (Nat.le_of_ble_eq_true rfl)⟩ dX2_set_5 hnx hlocks (by omega) (by omega) (fun E H9 q _ => ⟨Or.inl ⟨q.1, by rw [← e11]; exact q.2.1⟩, _, _, q.2.2, hF⟩) (fun H29 L29 hP29 hk29 hS => ?_)
  have hZ29 := hS.1
  obtain ⟨⟨a9, ha9, rfl⟩, hW⟩ := hP29
  have hO := hW.2.1
  have hR1 := hW.2.2.1
  have hR2 := hW.2.2.2.1
  refine lv_iload_n hx hb dX2_set_8 rfl (lv_at hl 2 rfl) ?_
  refine xI_S (A := A) (A1 := A)  (As := [.int y]) (rest := []) ⟨hx, hb, hml, hown, hts⟩ (mX2_codeOf (A := A) hst ) (va_cwS 1 hts (gS tw_3_27 tw_3_28 tw_1_1 tw_3_29) rfl rfl rfl (by decide +kernel) ⟨Nat.le_of_ble_eq_true rfl, Nat.le_of_ble_eq_true rfl⟩) hC hS (fun _ h => h) (fun q h => hA q (Nat.le_trans hS.1 h))  hW rfl rfl hl.1 (Nat.le_of_ble_eq_true rfl) ⟨Nat.le_trans (show (0 + 1) + 1 ≤ 2 by omega) (Nat.le_of_ble_eq_true rfl), Nat.le_trans (show (0 + 6) + 6 ≤ 12 by omega) (Nat.le_of_ble_eq_true rfl)⟩ dX2_set_9 hnx hlocks (by omega) (by omega) (fun E H9 q _ => ⟨Or.inr ⟨q.1, ⟨a9, by rw [← e11]; exact ha9, rfl⟩, q.2.1⟩, _, _, q.2.2, hF⟩) (fun rv30 H30 L30 hP30 hk30 hS => ?_)
  have hZ30 := hS.1
  obtain ⟨⟨j, hj, hyj, hrv⟩, hW⟩ := hP30
  subst hrv
  have hO := hW.2.1
  have hR1 := hW.2.2.1
  have hR2 := hW.2.2.2.1
  refine lv_istore_n (lv' := [(3, .int (nI (codeT.getD j 0))), (0, .ref (SA 0)), (1, .int (nI a9)), (2, .int y)]) hx hb dX2_set_12 rfl hl (by decide) rfl (fun ls hl => ?_)
  refine lv_aload_n hx hb dX2_set_13 rfl (lv_at hl 1 rfl) ?_
  refine va_get (D := G.1) (ci := 6) (C := RX2) (T := TX2) (N := 8) hx hb hts inX2 hown hK (at_P hO) 0 rfl rfl 2 (by decide) (hts _ tw_1_139) (fun _ h9 => h9) rfl dX2_set_14 ?_
  refine lv_iload_n hx hb dX2_set_17 rfl (lv_at hl 2 rfl) ?_
  have i60 := (hW.line (i := 11) (by omega)).1
  refine kV_i (A := A) (b := (SA 29)) (As := [.int (nI a9)]) (rest := []) ⟨hx, hb, hml, hown, hts⟩ (mX0_codeAt (A := A) (ca := SA (8 + 2 * 11)) (i := a9) ha9) (cwV 1 hts (gV tw_2_93 tw_2_20 tw_2_21 tw_1_2 tw_2_22) rfl rfl rfl (by decide +kernel) ⟨Nat.le_of_ble_eq_true rfl, Nat.le_of_ble_eq_true rfl⟩) hC hS hA ((hW.line (i := 11) (by omega)).recv hK) (hW.line (i := 11) (by omega)) rfl rfl hl.1 (Nat.le_of_ble_eq_true rfl) ⟨Nat.le_trans (show ((0 + 1) + 1) ≤ 2 by omega) (Nat.le_of_ble_eq_true rfl), Nat.le_trans (show ((0 + 6) + 6) ≤ 12 by omega) (Nat.le_of_ble_eq_true rfl)⟩ dX2_set_18 (fun r9 h9 => lv_cv h9 ?_)
  refine lv_istore (lv' := [(4, .int (nI ((T 11).getD a9 0))), (3, .int (nI (codeT.getD j 0))), (0, .ref (SA 0)), (1, .int (nI a9)), (2, .int y)]) hx hb dX2_set_21 hl (by decide) rfl (fun ls hl => ?_)
  refine lv_aload_n hx hb dX2_set_23 rfl (lv_at hl 2 rfl) ?_
  refine va_get (D := G.1) (ci := 6) (C := RX2) (T := TX2) (N := 8) hx hb hts inX2 hown hK (at_P hO) 0 rfl rfl 2 (by decide) (hts _ tw_1_139) (fun _ h9 => h9) rfl dX2_set_24 ?_
  refine lv_iload_n hx hb dX2_set_27 rfl (lv_at hl 3 rfl) ?_
  refine lv_iload_n hx hb dX2_set_28 rfl (lv_at hl 1 rfl) ?_
  refine qV_V (A := A) (A1 := ow (SA (7 + 2 * 11)) (SA (8 + 2 * 11)) H30.size) (b := (SA 29)) (As := [.int (nI a9), .int (nI (codeT.getD j 0))]) (rest := []) ⟨hx, hb, hml, hown, hts⟩ (mX0_change (A := ow (SA (7 + 2 * 11)) (SA (8 + 2 * 11)) H30.size) (ca := SA (8 + 2 * 11)) (i := a9) (k0 := codeT.getD j 0) (Or.inr (Or.inl rfl)) ha9 (codeT_lt j)) (cwV 2 hts (gV tw_3_183 tw_3_184 tw_3_185 tw_1_2 tw_3_186) rfl rfl rfl (by decide +kernel) ⟨Nat.le_of_ble_eq_true rfl, Nat.le_of_ble_eq_true rfl⟩) hC hS (ow_in (hAS _ (by omega)) (hAS _ (by omega)) hA hS.1) ow_n ((hW.line (i := 11) (by omega)).recv hK) (hW.line (i := 11) (by omega)) rfl rfl hl.1 (Nat.le_of_ble_eq_true rfl) ⟨Nat.le_trans (show ((0 + 1) + 1) ≤ 2 by omega) (Nat.le_of_ble_eq_true rfl), Nat.le_trans (show ((0 + 6) + 6) ≤ 12 by omega) (Nat.le_of_ble_eq_true rfl)⟩ dX2_set_29 (fun H31 L31 hP31 hk31 hS => ?_)
  have hZ31 := hS.1
  have hW := hW.put (q := 11) (t := (T 11).set a9 (codeT.getD j 0)) (by omega) hk31 hP31
  rw [e11] at hW ha9
  refine lv_iload hx hb dX2_set_32 (lv_at hl 0 rfl) ?_
  exact vx_ret (q_i hx hb hr hlocks dX2_set_34 hS (by omega) (by omega) ⟨a9, j, ha9, rfl, hj, hyj, by rw [e11], _, _, hW, (FR.up hF)⟩)

abbrev rmX2_known : Room := { frames := 8, cells := 3, slots := 18, locals := 132 }
theorem mX2_known {l : Launch} {G : Cx} {A : Nat → Prop} (hst : l.stackTraces = false) {SA : Nat → Nat} {X : Nat → List Nat} {es : List Nat} {k : Int32} {x y : Int32} (hAS : ∀ i : Nat, i < 39 → A (SA i)) : vx_Met l yX2_known (.code yX2_known cX2_known 4 (some .int) :: GW) rmX2_known (PC G A [.ref (SA 0), .int x, .int y] (SS G SA X es k)) (qI A (fun r H => ∃ i j : Nat, i < 4 ∧ x = nI i ∧ j < 7 ∧ y = nI j ∧ (X i ++ knT j).length ≤ 60 ∧ r = nI (X i ++ knT j).length ∧ SS G SA (updT X i (X i ++ knT j)) es k H)) (xE A (fun E H => ((E = "java/lang/IndexOutOfBoundsException" ∧ NT x) ∨ (E = "java/lang/IllegalArgumentException" ∧ (∃ i : Nat, i < 4 ∧ x = nI i) ∧ NK y) ∨ (E = "java/lang/IllegalStateException" ∧ ∃ i j : Nat, i < 4 ∧ x = nI i ∧ j < 7 ∧ y = nI j ∧ 60 < (X i ++ knT j).length)) ∧ SS G SA X es k H)) 3 18 A := by
  refine mstartX "Signtext" (by decide +kernel) rfl (Nat.le_of_ble_eq_true rfl) ?_
  intro p e s m below meth c ls hx hb hr hts hown hml hlocks hnx hC hA hW hl
  have hl : lv_has ls 4 [(0, .ref (SA 0)), (1, .int x), (2, .int y)] := hl
  have hK := hC.1
  have hS : va_S A s.heap s.heap [] := va_S.rf
  obtain ⟨T, es2, hW, hF⟩ := hW
  have hO := hW.2.1
  have hR1 := hW.2.2.1
  have hR2 := hW.2.2.2.1
  refine lv_aload_n hx hb dX2_known_0 rfl (lv_at hl 0 rfl) ?_
  refine lv_iload_n hx hb dX2_known_1 rfl (lv_at hl 1 rfl) ?_
  refine xR_V (A := A) (A1 := A) (b := (SA 0)) (As := [.int x]) (rest := []) ⟨hx, hb, hml, hown, hts⟩ (mX2_textOf (A := A) hst ) (cwV 1 hts (gV tw_3_4 tw_3_6 sel_X2_textOf tw_1_1 tw_3_7) rfl rfl rfl (by decide +kernel) ⟨Nat.le_of_ble_eq_true rfl, Nat.le_of_ble_eq_true rfl⟩) hC hS (fun _ h => h) (fun q h => hA q (Nat.le_trans hS.1 h)) (hW.recv hK) hW rfl rfl hl.1 (Nat.le_of_ble_eq_true rfl) ⟨Nat.le_trans (show 0 + 1 ≤ 3 by omega) (Nat.le_of_ble_eq_true rfl), Nat.le_trans (show 0 + 6 ≤ 18 by omega) (Nat.le_of_ble_eq_true rfl)⟩ dX2_known_2 hnx hlocks (by omega) (by omega) (fun E H9 q _ => ⟨Or.inl ⟨q.1, q.2.1⟩, _, _, q.2.2, hF⟩) (fun rv32 H32 L32 hP32 hk32 hS => ?_)
  have hZ32 := hS.1
  obtain ⟨⟨i, hi, hxi, hrv⟩, hW⟩ := hP32
  subst hrv
  have hO := hW.2.1
  have hR1 := hW.2.2.1
  have hR2 := hW.2.2.2.1
  have ei := hF i (Or.inl hi)
  refine lv_astore_n (lv' := [(3, .ref (SA (7 + 2 * i))), (0, .ref (SA 0)), (1, .int x), (2, .int y)]) hx hb dX2_known_5 rfl hl (by decide) rfl (fun ls hl => ?_)
  refine lv_aload_n hx hb dX2_known_6 rfl (lv_at hl 1 rfl) ?_
  refine lv_aload_n hx hb dX2_known_7 rfl (lv_at hl 0 rfl) ?_
  refine lv_aload_n hx hb dX2_known_8 rfl (lv_at hl 1 rfl) ?_
  refine lv_iload_n hx hb dX2_known_9 rfl (lv_at hl 3 rfl) ?_
  refine xR_V (A := A) (A1 := A) (b := (SA 0)) (As := [.int y]) (rest := .ref (SA (7 + 2 * i)) :: .ref (SA 0) :: []) ⟨hx, hb, hml, hown, hts⟩ (mX2_knownOf (A := A) hst ) (cwV 1 hts (gV tw_3_162 tw_3_164 sel_X2_knownOf tw_1_1 tw_3_165) rfl rfl rfl (by decide +kernel) ⟨Nat.le_of_ble_eq_true rfl, Nat.le_of_ble_eq_true rfl⟩) hC hS (fun _ h => h) (fun q h => hA q (Nat.le_trans hS.1 h)) (hW.recv hK) hW rfl rfl hl.1 (Nat.le_of_ble_eq_true rfl) ⟨Nat.le_trans (show (0 + 1) + 1 ≤ 3 by omega) (Nat.le_of_ble_eq_true rfl), Nat.le_trans (show (0 + 6) + 6 ≤ 18 by omega) (Nat.le_of_ble_eq_true rfl)⟩ dX2_known_10 hnx hlocks (by omega) (by omega) (fun E H9 q _ => ⟨Or.inr (Or.inl ⟨q.1, ⟨i, hi, hxi⟩, q.2.1⟩), _, _, q.2.2, hF⟩) (fun rv33 H33 L33 hP33 hk33 hS => ?_)
  have hZ33 := hS.1
  obtain ⟨⟨j, hj, hyj, hrv⟩, hW⟩ := hP33
  rw [show 15 + 2 * j = 7 + 2 * (4 + j) by omega] at hrv
  subst hrv
  have ek := hW.2.2.2.2.2.2.2.2.2 j hj
  refine lv_aload_n hx hb dX2_known_13 rfl (lv_at hl 0 rfl) ?_
  refine xI_V (A := A) (A1 := A) (b := (SA 0)) (As := [.ref (SA (7 + 2 * i)), .ref (SA (7 + 2 * (4 + j))), .ref (SA (7 + 2 * i))]) (rest := []) ⟨hx, hb, hml, hown, hts⟩ (mX2_joinInto (A := A) hst (i := i) (j := 4 + j) (q := i) hAS (by omega) (by omega) (by omega) (by omega) (by omega)) (cwV 3 hts (gV tw_3_32 tw_3_34 sel_X2_joinInto tw_1_1 tw_3_35) rfl rfl rfl (by decide +kernel) ⟨Nat.le_of_ble_eq_true rfl, Nat.le_of_ble_eq_true rfl⟩) hC hS (fun _ h => h) (fun q h => hA q (Nat.le_trans hS.1 h)) (hW.recv hK) hW rfl rfl hl.1 (Nat.le_of_ble_eq_true rfl) ⟨Nat.le_trans (show ((0 + 1) + 1) + 1 ≤ 3 by omega) (Nat.le_of_ble_eq_true rfl), Nat.le_trans (show ((0 + 6) + 6) + 6 ≤ 18 by omega) (Nat.le_of_ble_eq_true rfl)⟩ dX2_known_14 hnx hlocks (by omega) (by omega) (fun E H9 w _ => ⟨Or.inr (Or.inr ⟨w.1, i, j, hi, hxi, hj, hyj, by rw [← ei, ← ek]; exact w.2.1⟩), _, _, w.2.2, hF⟩) (fun rv34 H34 L34 hP34 hk34 hS => ?_)
  have hZ34 := hS.1
  rw [ei, ek] at hP34
  exact vx_ret (q_i hx hb hr hlocks dX2_known_17 hS (by omega) (by omega) ⟨i, j, hi, hxi, hj, hyj, hP34.2.1, hP34.1, _, _, hP34.2.2, (FR.up (FR.s13 hF))⟩)

abbrev rmX2_takePiece : Room := { frames := 7, cells := 2, slots := 12, locals := 111 }
theorem mX2_takePiece {l : Launch} {G : Cx} {A : Nat → Prop} (hst : l.stackTraces = false) {SA : Nat → Nat} {X : Nat → List Nat} {es : List Nat} {k : Int32} {x y : Int32} (hAS : ∀ i : Nat, i < 39 → A (SA i)) : vx_Met l yX2_takePiece (.code yX2_takePiece cX2_takePiece 3 (some .int) :: GW) rmX2_takePiece (PC G A [.ref (SA 0), .int x, .int y] (SS G SA X es k)) (qI A (fun r H => ∃ j i : Nat, j < es.length ∧ x = nI j ∧ i < 4 ∧ y = nI i ∧ r = nI (cutL (X 14) (bgE es j) (es.getD j 0)).length ∧ SS G SA (updT X i (cutL (X 14) (bgE es j) (es.getD j 0))) es k H)) (xE A (fun E H => (E = "java/lang/IndexOutOfBoundsException" ∧ ((¬ ∃ j : Nat, j < es.length ∧ x = nI j) ∨ NT y)) ∧ SS G SA X es k H)) 2 12 A := by
  refine mstartX "Signtext" (by decide +kernel) rfl (Nat.le_of_ble_eq_true rfl) ?_
  intro p e s m below meth c ls hx hb hr hts hown hml hlocks hnx hC hA hW hl
  have hl : lv_has ls 3 [(0, .ref (SA 0)), (1, .int x), (2, .int y)] := hl
  have hK := hC.1
  have hS : va_S A s.heap s.heap [] := va_S.rf
  obtain ⟨T, es2, hW, hF⟩ := hW
  have hO := hW.2.1
  have hR1 := hW.2.2.1
  have hR2 := hW.2.2.2.1
  have e14 := hF 14 (Or.inr (Or.inr rfl))
  refine lv_aload_n hx hb dX2_takePiece_0 rfl (lv_at hl 0 rfl) ?_
  refine lv_iload_n hx hb dX2_takePiece_1 rfl (lv_at hl 1 rfl) ?_
  refine xV_V (A := A) (A1 := A) (b := (SA 0)) (As := [.int x]) (rest := []) ⟨hx, hb, hml, hown, hts⟩ (mX2_needPiece (A := A) hst ) (cwV 1 hts (gV tw_3_215 tw_3_217 sel_X2_needPiece tw_1_1 tw_3_218) rfl rfl rfl (by decide +kernel) ⟨Nat.le_of_ble_eq_true rfl, Nat.le_of_ble_eq_true rfl⟩) hC hS (fun _ h => h) (fun q h => hA q (Nat.le_trans hS.1 h)) (hW.recv hK) hW rfl rfl hl.1 (Nat.le_of_ble_eq_true rfl) ⟨Nat.le_trans (show 0 + 1 ≤ 2 by omega) (Nat.le_of_ble_eq_true rfl), Nat.le_trans (show 0 + 6 ≤ 12 by omega) (Nat.le_of_ble_eq_true rfl)⟩ dX2_takePiece_2 hnx hlocks (by omega) (by omega) (fun E H9 q _ => ⟨⟨q.1, Or.inl q.2.1⟩, _, _, q.2.2, hF⟩) (fun H35 L35 hP35 hk35 hS => ?_)
  have hZ35 := hS.1
  obtain ⟨⟨j, hj, rfl⟩, hW⟩ := hP35
  have hO := hW.2.1
  have hR1 := hW.2.2.1
  have hR2 := hW.2.2.2.1
  refine lv_aload_n hx hb dX2_takePiece_5 rfl (lv_at hl 0 rfl) ?_
  refine lv_iload_n hx hb dX2_takePiece_6 rfl (lv_at hl 1 rfl) ?_
  refine lv_aload_n hx hb dX2_takePiece_7 rfl (lv_at hl 0 rfl) ?_
  refine lv_iload_n hx hb dX2_takePiece_8 rfl (lv_at hl 2 rfl) ?_
  refine xR_V (A := A) (A1 := A) (b := (SA 0)) (As := [.int y]) (rest := .int (nI j) :: .ref (SA 0) :: []) ⟨hx, hb, hml, hown, hts⟩ (mX2_textOf (A := A) hst ) (cwV 1 hts (gV tw_3_4 tw_3_6 sel_X2_textOf tw_1_1 tw_3_7) rfl rfl rfl (by decide +kernel) ⟨Nat.le_of_ble_eq_true rfl, Nat.le_of_ble_eq_true rfl⟩) hC hS (fun _ h => h) (fun q h => hA q (Nat.le_trans hS.1 h)) (hW.recv hK) hW rfl rfl hl.1 (Nat.le_of_ble_eq_true rfl) ⟨Nat.le_trans (show (0 + 1) + 1 ≤ 2 by omega) (Nat.le_of_ble_eq_true rfl), Nat.le_trans (show (0 + 6) + 6 ≤ 12 by omega) (Nat.le_of_ble_eq_true rfl)⟩ dX2_takePiece_9 hnx hlocks (by omega) (by omega) (fun E H9 q _ => ⟨⟨q.1, Or.inr q.2.1⟩, _, _, q.2.2, hF⟩) (fun rv36 H36 L36 hP36 hk36 hS => ?_)
  have hZ36 := hS.1
  obtain ⟨⟨i, hi, hxi, hrv⟩, hW⟩ := hP36
  subst hrv
  have hO := hW.2.1
  have hR1 := hW.2.2.1
  have hR2 := hW.2.2.2.1
  have ei := hF i (Or.inl hi)
  refine qI_V (A := A) (A1 := A) (b := (SA 0)) (As := [.int (nI j), .ref (SA (7 + 2 * i))]) (rest := []) ⟨hx, hb, hml, hown, hts⟩ (mX2_pieceInto (A := A) (q := i) (j := j) hAS (by omega) hj) (cwV 2 hts (gV tw_3_219 tw_3_221 sel_X2_pieceInto tw_1_1 tw_3_222) rfl rfl rfl (by decide +kernel) ⟨Nat.le_of_ble_eq_true rfl, Nat.le_of_ble_eq_true rfl⟩) hC hS (fun _ h => h) (fun q h => hA q (Nat.le_trans hS.1 h)) (hW.recv hK) hW rfl rfl hl.1 (Nat.le_of_ble_eq_true rfl) ⟨Nat.le_trans (show ((0 + 1) + 1) ≤ 2 by omega) (Nat.le_of_ble_eq_true rfl), Nat.le_trans (show ((0 + 6) + 6) ≤ 12 by omega) (Nat.le_of_ble_eq_true rfl)⟩ dX2_takePiece_12 (fun rv37 H37 L37 hP37 hk37 hS => ?_)
  have hZ37 := hS.1
  rw [e14] at hP37
  exact vx_ret (q_i hx hb hr hlocks dX2_takePiece_15 hS (by omega) (by omega) ⟨j, i, hj, rfl, hi, hxi, hP37.1, _, _, hP37.2, (FR.up (FR.s13 hF))⟩)
end
/-! 25.cls4 -/
section
/-! The class, 4: more calls that change -/
def repL (t : List Nat) : Nat → List Nat
  | 0 => []
  | m + 1 => repL t m ++ t
theorem repL_len (t : List Nat) (m : Nat) : (repL t m).length = t.length * m := by
  induction m with
  | zero => rfl
  | succ m ih => show (repL t m ++ t).length = _; rw [List.length_append, ih, Nat.mul_succ]
def badS (x : Int32) : Prop := x ≠ -1 ∧ NS x
def comeS (a b c d e : Int32) (w : List Nat) : Prop := ∃ w1 w2 w3 w4, addS [] a w1 ∧ addS w1 b w2 ∧ addS w2 c w3 ∧ addS w3 d w4 ∧ addS w4 e w
def oP (SA : Nat → Nat) (a b c d n : Nat) : Nat → Prop := fun q => q = SA a ∨ q = SA b ∨ q = SA c ∨ q = SA d ∨ n ≤ q
theorem oP_n {SA : Nat → Nat} {a b c d n : Nat} : ∀ q : Nat, n ≤ q → oP SA a b c d n q := fun _ h => Or.inr (Or.inr (Or.inr (Or.inr h)))
theorem oP_in {A : Nat → Prop} {SA : Nat → Nat} {a b c d n n0 : Nat} (ha : A (SA a)) (hb : A (SA b)) (hc : A (SA c)) (hd : A (SA d)) (hA : ∀ q : Nat, n0 ≤ q → A q) (hn : n0 ≤ n) : ∀ q, oP SA a b c d n q → A q := fun q h => by
  rcases h with rfl | rfl | rfl | rfl | h
  · exact ha
  · exact hb
  · exact hc
  · exact hd
  · exact hA q (Nat.le_trans hn h)
theorem SW.oPn {G : Cx} {SA : Nat → Nat} {T : Nat → List Nat} {es es2 : List Nat} {k : Int32} {H : Heap} (h : SW G SA T es es2 k H) {a b c d i : Nat} (hi : i < 39) (ha : a < 39) (hb : b < 39) (hc : c < 39) (hd : d < 39) (h1 : i ≠ a) (h2 : i ≠ b) (h3 : i ≠ c) (h4 : i ≠ d) : ¬ oP SA a b c d H.size (SA i) := fun q => by
  rcases q with q | q | q | q | q
  · exact h.ne hi ha h1 q
  · exact h.ne hi hb h2 q
  · exact h.ne hi hc h3 q
  · exact h.ne hi hd h4 q
  · exact absurd (h.lt i hi) (Nat.not_lt_of_le q)
theorem SW.putP {G : Cx} {SA : Nat → Nat} {T : Nat → List Nat} {es es1 es2 : List Nat} {k : Int32} {H H1 : Heap} {u : List Nat} (h : SW G SA T es es2 k H) (hk : Pilot.CSigntextLaw_law_r2322_c049e8.kp (oP SA 3 35 36 4 H.size) H H1) (hP : PA G (SA 3) (SA 35) (SA 36) (SA 4) u es1 H1) : SW G SA (updT T 14 u) es1 es2 k H1 := by
  have hX : ∀ i : Nat, i < 39 → i ≠ 3 → i ≠ 35 → i ≠ 36 → i ≠ 4 → ¬ oP SA 3 35 36 4 H.size (SA i) := fun i hi h1 h2 h3 h4 => h.oPn hi (by decide) (by decide) (by decide) (by decide) h1 h2 h3 h4
  refine ⟨h.1, at_kp h.2.1 hk (hX 0 (by decide) (by decide) (by decide) (by decide) (by decide)), at_kp h.2.2.1 hk (hX 1 (by decide) (by decide) (by decide) (by decide) (by decide)), at_kp h.2.2.2.1 hk (hX 2 (by decide) (by decide) (by decide) (by decide) (by decide)), fun i hi => ?_, hP.1, by rw [updT_s]; exact hP.2.2.1, h.trd.1.kp hk (hX 5 (by decide) (by decide) (by decide) (by decide) (by decide)) (hX 6 (by decide) (by decide) (by decide) (by decide) (by decide)), by rw [updT_n (by decide)]; exact h.trd.2.2.1, fun i hi => by rw [updT_n (by omega)]; exact h.2.2.2.2.2.2.2.2.2 i hi⟩
  by_cases e : i = 14
  · subst e; rw [updT_s]; exact hP.2.1
  · rw [updT_n e]; exact (h.line hi).kp hk (hX _ (by omega) (by omega) (by omega) (by omega) (by omega)) (hX _ (by omega) (by omega) (by omega) (by omega) (by omega))
theorem SW.putTr {G : Cx} {SA : Nat → Nat} {T : Nat → List Nat} {es es1 es2 : List Nat} {k : Int32} {H H1 : Heap} {u : List Nat} (h : SW G SA T es es2 k H) (hk : Pilot.CSigntextLaw_law_r2322_c049e8.kp (oP SA 5 37 38 6 H.size) H H1) (hP : PA G (SA 5) (SA 37) (SA 38) (SA 6) u es1 H1) : SW G SA (updT T 15 u) es es1 k H1 := by
  have hX : ∀ i : Nat, i < 39 → i ≠ 5 → i ≠ 37 → i ≠ 38 → i ≠ 6 → ¬ oP SA 5 37 38 6 H.size (SA i) := fun i hi h1 h2 h3 h4 => h.oPn hi (by decide) (by decide) (by decide) (by decide) h1 h2 h3 h4
  refine ⟨h.1, at_kp h.2.1 hk (hX 0 (by decide) (by decide) (by decide) (by decide) (by decide)), at_kp h.2.2.1 hk (hX 1 (by decide) (by decide) (by decide) (by decide) (by decide)), at_kp h.2.2.2.1 hk (hX 2 (by decide) (by decide) (by decide) (by decide) (by decide)), fun i hi => ?_, h.pcs.1.kp hk (hX 3 (by decide) (by decide) (by decide) (by decide) (by decide)) (hX 4 (by decide) (by decide) (by decide) (by decide) (by decide)), by rw [updT_n (by decide)]; exact h.pcs.2.2.1, hP.1, by rw [updT_s]; exact hP.2.2.1, fun i hi => by rw [updT_n (by omega)]; exact h.2.2.2.2.2.2.2.2.2 i hi⟩
  by_cases e : i = 15
  · subst e; rw [updT_s]; exact hP.2.1
  · rw [updT_n e]; exact (h.line hi).kp hk (hX _ (by omega) (by omega) (by omega) (by omega) (by omega)) (hX _ (by omega) (by omega) (by omega) (by omega) (by omega))
theorem dX2_put_0 : decode cX2_put 0 = .ok (.aload_n 0, 1) := by decide +kernel
theorem dX2_put_1 : decode cX2_put 1 = .ok (.iload_n 1, 1) := by decide +kernel
theorem dX2_put_2 : decode cX2_put 2 = .ok (.invokevirtual 51, 3) := by decide +kernel
theorem dX2_put_5 : decode cX2_put 5 = .ok (.astore 7, 2) := by decide +kernel
theorem dX2_put_7 : decode cX2_put 7 = .ok (.aload_n 0, 1) := by decide +kernel
theorem dX2_put_8 : decode cX2_put 8 = .ok (.getfield 34, 3) := by decide +kernel
theorem dX2_put_11 : decode cX2_put 11 = .ok (.invokevirtual 55, 3) := by decide +kernel
theorem dX2_put_14 : decode cX2_put 14 = .ok (.aload_n 0, 1) := by decide +kernel
theorem dX2_put_15 : decode cX2_put 15 = .ok (.iload_n 2, 1) := by decide +kernel
theorem dX2_put_16 : decode cX2_put 16 = .ok (.invokevirtual 58, 3) := by decide +kernel
theorem dX2_put_19 : decode cX2_put 19 = .ok (.aload_n 0, 1) := by decide +kernel
theorem dX2_put_20 : decode cX2_put 20 = .ok (.iload_n 3, 1) := by decide +kernel
theorem dX2_put_21 : decode cX2_put 21 = .ok (.invokevirtual 58, 3) := by decide +kernel
theorem dX2_put_24 : decode cX2_put 24 = .ok (.aload_n 0, 1) := by decide +kernel
theorem dX2_put_25 : decode cX2_put 25 = .ok (.iload 4, 2) := by decide +kernel
theorem dX2_put_27 : decode cX2_put 27 = .ok (.invokevirtual 58, 3) := by decide +kernel
theorem dX2_put_30 : decode cX2_put 30 = .ok (.aload_n 0, 1) := by decide +kernel
theorem dX2_put_31 : decode cX2_put 31 = .ok (.iload 5, 2) := by decide +kernel
theorem dX2_put_33 : decode cX2_put 33 = .ok (.invokevirtual 58, 3) := by decide +kernel
theorem dX2_put_36 : decode cX2_put 36 = .ok (.aload_n 0, 1) := by decide +kernel
theorem dX2_put_37 : decode cX2_put 37 = .ok (.iload 6, 2) := by decide +kernel
theorem dX2_put_39 : decode cX2_put 39 = .ok (.invokevirtual 58, 3) := by decide +kernel
theorem dX2_put_42 : decode cX2_put 42 = .ok (.aload_n 0, 1) := by decide +kernel
theorem dX2_put_43 : decode cX2_put 43 = .ok (.aload 7, 2) := by decide +kernel
theorem dX2_put_45 : decode cX2_put 45 = .ok (.aload_n 0, 1) := by decide +kernel
theorem dX2_put_46 : decode cX2_put 46 = .ok (.getfield 34, 3) := by decide +kernel
theorem dX2_put_49 : decode cX2_put 49 = .ok (.aload 7, 2) := by decide +kernel
theorem dX2_put_51 : decode cX2_put 51 = .ok (.invokevirtual 62, 3) := by decide +kernel
theorem dX2_put_54 : decode cX2_put 54 = .ok (.ireturn, 1) := by decide +kernel
theorem dX2_times_0 : decode cX2_times 0 = .ok (.aload_n 0, 1) := by decide +kernel
theorem dX2_times_1 : decode cX2_times 1 = .ok (.iload_n 1, 1) := by decide +kernel
theorem dX2_times_2 : decode cX2_times 2 = .ok (.invokevirtual 51, 3) := by decide +kernel
theorem dX2_times_5 : decode cX2_times 5 = .ok (.astore 4, 2) := by decide +kernel
theorem dX2_times_7 : decode cX2_times 7 = .ok (.aload_n 0, 1) := by decide +kernel
theorem dX2_times_8 : decode cX2_times 8 = .ok (.iload_n 3, 1) := by decide +kernel
theorem dX2_times_9 : decode cX2_times 9 = .ok (.invokevirtual 51, 3) := by decide +kernel
theorem dX2_times_12 : decode cX2_times 12 = .ok (.astore 5, 2) := by decide +kernel
theorem dX2_times_14 : decode cX2_times 14 = .ok (.iload_n 2, 1) := by decide +kernel
theorem dX2_times_15 : decode cX2_times 15 = .ok (.ifCond .lt 9, 3) := by decide +kernel
theorem dX2_times_18 : decode cX2_times 18 = .ok (.iload_n 2, 1) := by decide +kernel
theorem dX2_times_19 : decode cX2_times 19 = .ok (.bipush 60, 2) := by decide +kernel
theorem dX2_times_21 : decode cX2_times 21 = .ok (.if_icmp .le 11, 3) := by decide +kernel
theorem dX2_times_24 : decode cX2_times 24 = .ok (.new 81, 3) := by decide +kernel
theorem dX2_times_27 : decode cX2_times 27 = .ok (.dup, 1) := by decide +kernel
theorem dX2_times_28 : decode cX2_times 28 = .ok (.invokespecial 83, 3) := by decide +kernel
theorem dX2_times_31 : decode cX2_times 31 = .ok (.athrow, 1) := by decide +kernel
theorem dX2_times_32 : decode cX2_times 32 = .ok (.aload 4, 2) := by decide +kernel
theorem dX2_times_34 : decode cX2_times 34 = .ok (.invokevirtual 66, 3) := by decide +kernel
theorem dX2_times_37 : decode cX2_times 37 = .ok (.iload_n 2, 1) := by decide +kernel
theorem dX2_times_38 : decode cX2_times 38 = .ok (.imul, 1) := by decide +kernel
theorem dX2_times_39 : decode cX2_times 39 = .ok (.invokestatic 84, 3) := by decide +kernel
theorem dX2_times_42 : decode cX2_times 42 = .ok (.aload_n 0, 1) := by decide +kernel
theorem dX2_times_43 : decode cX2_times 43 = .ok (.getfield 37, 3) := by decide +kernel
theorem dX2_times_46 : decode cX2_times 46 = .ok (.invokevirtual 55, 3) := by decide +kernel
theorem dX2_times_49 : decode cX2_times 49 = .ok (.iconst 0, 1) := by decide +kernel
theorem dX2_times_50 : decode cX2_times 50 = .ok (.istore 6, 2) := by decide +kernel
theorem dX2_times_52 : decode cX2_times 52 = .ok (.iload 6, 2) := by decide +kernel
theorem dX2_times_54 : decode cX2_times 54 = .ok (.iload_n 2, 1) := by decide +kernel
theorem dX2_times_55 : decode cX2_times 55 = .ok (.if_icmp .ge 18, 3) := by decide +kernel
theorem dX2_times_58 : decode cX2_times 58 = .ok (.aload_n 0, 1) := by decide +kernel
theorem dX2_times_59 : decode cX2_times 59 = .ok (.getfield 37, 3) := by decide +kernel
theorem dX2_times_62 : decode cX2_times 62 = .ok (.aload 4, 2) := by decide +kernel
theorem dX2_times_64 : decode cX2_times 64 = .ok (.invokevirtual 87, 3) := by decide +kernel
theorem dX2_times_67 : decode cX2_times 67 = .ok (.iinc 6 1, 3) := by decide +kernel
theorem dX2_times_70 : decode cX2_times 70 = .ok (.goto (-18), 3) := by decide +kernel
theorem dX2_times_73 : decode cX2_times 73 = .ok (.aload 5, 2) := by decide +kernel
theorem dX2_times_75 : decode cX2_times 75 = .ok (.aload_n 0, 1) := by decide +kernel
theorem dX2_times_76 : decode cX2_times 76 = .ok (.getfield 37, 3) := by decide +kernel
theorem dX2_times_79 : decode cX2_times 79 = .ok (.invokevirtual 91, 3) := by decide +kernel
theorem dX2_times_82 : decode cX2_times 82 = .ok (.aload 5, 2) := by decide +kernel
theorem dX2_times_84 : decode cX2_times 84 = .ok (.invokevirtual 66, 3) := by decide +kernel
theorem dX2_times_87 : decode cX2_times 87 = .ok (.ireturn, 1) := by decide +kernel
theorem dX2_number_0 : decode cX2_number 0 = .ok (.aload_n 0, 1) := by decide +kernel
theorem dX2_number_1 : decode cX2_number 1 = .ok (.iload_n 1, 1) := by decide +kernel
theorem dX2_number_2 : decode cX2_number 2 = .ok (.invokevirtual 51, 3) := by decide +kernel
theorem dX2_number_5 : decode cX2_number 5 = .ok (.astore 4, 2) := by decide +kernel
theorem dX2_number_7 : decode cX2_number 7 = .ok (.aload_n 0, 1) := by decide +kernel
theorem dX2_number_8 : decode cX2_number 8 = .ok (.getfield 34, 3) := by decide +kernel
theorem dX2_number_11 : decode cX2_number 11 = .ok (.invokevirtual 55, 3) := by decide +kernel
theorem dX2_number_14 : decode cX2_number 14 = .ok (.aload_n 0, 1) := by decide +kernel
theorem dX2_number_15 : decode cX2_number 15 = .ok (.getfield 34, 3) := by decide +kernel
theorem dX2_number_18 : decode cX2_number 18 = .ok (.iload_n 2, 1) := by decide +kernel
theorem dX2_number_19 : decode cX2_number 19 = .ok (.i2l, 1) := by decide +kernel
theorem dX2_number_20 : decode cX2_number 20 = .ok (.invokevirtual 101, 3) := by decide +kernel
theorem dX2_number_23 : decode cX2_number 23 = .ok (.aload_n 0, 1) := by decide +kernel
theorem dX2_number_24 : decode cX2_number 24 = .ok (.aload 4, 2) := by decide +kernel
theorem dX2_number_26 : decode cX2_number 26 = .ok (.iload_n 3, 1) := by decide +kernel
theorem dX2_number_27 : decode cX2_number 27 = .ok (.invokevirtual 105, 3) := by decide +kernel
theorem dX2_number_30 : decode cX2_number 30 = .ok (.ireturn, 1) := by decide +kernel
theorem dX2_great_0 : decode cX2_great 0 = .ok (.aload_n 0, 1) := by decide +kernel
theorem dX2_great_1 : decode cX2_great 1 = .ok (.iload_n 1, 1) := by decide +kernel
theorem dX2_great_2 : decode cX2_great 2 = .ok (.invokevirtual 51, 3) := by decide +kernel
theorem dX2_great_5 : decode cX2_great 5 = .ok (.astore 4, 2) := by decide +kernel
theorem dX2_great_7 : decode cX2_great 7 = .ok (.aload_n 0, 1) := by decide +kernel
theorem dX2_great_8 : decode cX2_great 8 = .ok (.getfield 34, 3) := by decide +kernel
theorem dX2_great_11 : decode cX2_great 11 = .ok (.invokevirtual 55, 3) := by decide +kernel
theorem dX2_great_14 : decode cX2_great 14 = .ok (.aload_n 0, 1) := by decide +kernel
theorem dX2_great_15 : decode cX2_great 15 = .ok (.getfield 34, 3) := by decide +kernel
theorem dX2_great_18 : decode cX2_great 18 = .ok (.iload_n 2, 1) := by decide +kernel
theorem dX2_great_19 : decode cX2_great 19 = .ok (.i2l, 1) := by decide +kernel
theorem dX2_great_20 : decode cX2_great 20 = .ok (.bipush 32, 2) := by decide +kernel
theorem dX2_great_22 : decode cX2_great 22 = .ok (.lshl, 1) := by decide +kernel
theorem dX2_great_23 : decode cX2_great 23 = .ok (.iload_n 3, 1) := by decide +kernel
theorem dX2_great_24 : decode cX2_great 24 = .ok (.i2l, 1) := by decide +kernel
theorem dX2_great_25 : decode cX2_great 25 = .ok (.ldc2_w 109, 3) := by decide +kernel
theorem dX2_great_28 : decode cX2_great 28 = .ok (.land, 1) := by decide +kernel
theorem dX2_great_29 : decode cX2_great 29 = .ok (.lor, 1) := by decide +kernel
theorem dX2_great_30 : decode cX2_great 30 = .ok (.invokevirtual 101, 3) := by decide +kernel
theorem dX2_great_33 : decode cX2_great 33 = .ok (.aload_n 0, 1) := by decide +kernel
theorem dX2_great_34 : decode cX2_great 34 = .ok (.aload 4, 2) := by decide +kernel
theorem dX2_great_36 : decode cX2_great 36 = .ok (.iconst 0, 1) := by decide +kernel
theorem dX2_great_37 : decode cX2_great 37 = .ok (.invokevirtual 105, 3) := by decide +kernel
theorem dX2_great_40 : decode cX2_great 40 = .ok (.ireturn, 1) := by decide +kernel
theorem dX2_truth_0 : decode cX2_truth 0 = .ok (.aload_n 0, 1) := by decide +kernel
theorem dX2_truth_1 : decode cX2_truth 1 = .ok (.iload_n 1, 1) := by decide +kernel
theorem dX2_truth_2 : decode cX2_truth 2 = .ok (.invokevirtual 51, 3) := by decide +kernel
theorem dX2_truth_5 : decode cX2_truth 5 = .ok (.astore 4, 2) := by decide +kernel
theorem dX2_truth_7 : decode cX2_truth 7 = .ok (.aload_n 0, 1) := by decide +kernel
theorem dX2_truth_8 : decode cX2_truth 8 = .ok (.getfield 34, 3) := by decide +kernel
theorem dX2_truth_11 : decode cX2_truth 11 = .ok (.invokevirtual 55, 3) := by decide +kernel
theorem dX2_truth_14 : decode cX2_truth 14 = .ok (.aload_n 0, 1) := by decide +kernel
theorem dX2_truth_15 : decode cX2_truth 15 = .ok (.getfield 34, 3) := by decide +kernel
theorem dX2_truth_18 : decode cX2_truth 18 = .ok (.iload_n 2, 1) := by decide +kernel
theorem dX2_truth_19 : decode cX2_truth 19 = .ok (.ifCond .eq 8, 3) := by decide +kernel
theorem dX2_truth_22 : decode cX2_truth 22 = .ok (.ldc 111, 2) := by decide +kernel
theorem dX2_truth_24 : decode cX2_truth 24 = .ok (.goto 5, 3) := by decide +kernel
theorem dX2_truth_27 : decode cX2_truth 27 = .ok (.ldc 113, 2) := by decide +kernel
theorem dX2_truth_29 : decode cX2_truth 29 = .ok (.invokevirtual 47, 3) := by decide +kernel
theorem dX2_truth_32 : decode cX2_truth 32 = .ok (.aload_n 0, 1) := by decide +kernel
theorem dX2_truth_33 : decode cX2_truth 33 = .ok (.aload 4, 2) := by decide +kernel
theorem dX2_truth_35 : decode cX2_truth 35 = .ok (.iload_n 3, 1) := by decide +kernel
theorem dX2_truth_36 : decode cX2_truth 36 = .ok (.invokevirtual 105, 3) := by decide +kernel
theorem dX2_truth_39 : decode cX2_truth 39 = .ok (.ireturn, 1) := by decide +kernel
theorem dX2_ahead_0 : decode cX2_ahead 0 = .ok (.aload_n 0, 1) := by decide +kernel
theorem dX2_ahead_1 : decode cX2_ahead 1 = .ok (.iload_n 1, 1) := by decide +kernel
theorem dX2_ahead_2 : decode cX2_ahead 2 = .ok (.invokevirtual 51, 3) := by decide +kernel
theorem dX2_ahead_5 : decode cX2_ahead 5 = .ok (.astore_n 3, 1) := by decide +kernel
theorem dX2_ahead_6 : decode cX2_ahead 6 = .ok (.aload_n 0, 1) := by decide +kernel
theorem dX2_ahead_7 : decode cX2_ahead 7 = .ok (.getfield 34, 3) := by decide +kernel
theorem dX2_ahead_10 : decode cX2_ahead 10 = .ok (.invokevirtual 55, 3) := by decide +kernel
theorem dX2_ahead_13 : decode cX2_ahead 13 = .ok (.aload_n 0, 1) := by decide +kernel
theorem dX2_ahead_14 : decode cX2_ahead 14 = .ok (.getfield 34, 3) := by decide +kernel
theorem dX2_ahead_17 : decode cX2_ahead 17 = .ok (.iload_n 2, 1) := by decide +kernel
theorem dX2_ahead_18 : decode cX2_ahead 18 = .ok (.invokestatic 115, 3) := by decide +kernel
theorem dX2_ahead_21 : decode cX2_ahead 21 = .ok (.invokevirtual 119, 3) := by decide +kernel
theorem dX2_ahead_24 : decode cX2_ahead 24 = .ok (.aload_n 0, 1) := by decide +kernel
theorem dX2_ahead_25 : decode cX2_ahead 25 = .ok (.aload_n 3, 1) := by decide +kernel
theorem dX2_ahead_26 : decode cX2_ahead 26 = .ok (.iconst 1, 1) := by decide +kernel
theorem dX2_ahead_27 : decode cX2_ahead 27 = .ok (.invokevirtual 105, 3) := by decide +kernel
theorem dX2_ahead_30 : decode cX2_ahead 30 = .ok (.ireturn, 1) := by decide +kernel
theorem dX2_takePart_0 : decode cX2_takePart 0 = .ok (.aload_n 0, 1) := by decide +kernel
theorem dX2_takePart_1 : decode cX2_takePart 1 = .ok (.iload_n 1, 1) := by decide +kernel
theorem dX2_takePart_2 : decode cX2_takePart 2 = .ok (.invokevirtual 51, 3) := by decide +kernel
theorem dX2_takePart_5 : decode cX2_takePart 5 = .ok (.astore 4, 2) := by decide +kernel
theorem dX2_takePart_7 : decode cX2_takePart 7 = .ok (.aload_n 0, 1) := by decide +kernel
theorem dX2_takePart_8 : decode cX2_takePart 8 = .ok (.getfield 19, 3) := by decide +kernel
theorem dX2_takePart_11 : decode cX2_takePart 11 = .ok (.iload_n 2, 1) := by decide +kernel
theorem dX2_takePart_12 : decode cX2_takePart 12 = .ok (.invokestatic 77, 3) := by decide +kernel
theorem dX2_takePart_15 : decode cX2_takePart 15 = .ok (.iload_n 3, 1) := by decide +kernel
theorem dX2_takePart_16 : decode cX2_takePart 16 = .ok (.ifCond .lt 16, 3) := by decide +kernel
theorem dX2_takePart_19 : decode cX2_takePart 19 = .ok (.iload_n 3, 1) := by decide +kernel
theorem dX2_takePart_20 : decode cX2_takePart 20 = .ok (.aload_n 0, 1) := by decide +kernel
theorem dX2_takePart_21 : decode cX2_takePart 21 = .ok (.getfield 19, 3) := by decide +kernel
theorem dX2_takePart_24 : decode cX2_takePart 24 = .ok (.invokevirtual 66, 3) := by decide +kernel
theorem dX2_takePart_27 : decode cX2_takePart 27 = .ok (.iload_n 2, 1) := by decide +kernel
theorem dX2_takePart_28 : decode cX2_takePart 28 = .ok (.isub, 1) := by decide +kernel
theorem dX2_takePart_29 : decode cX2_takePart 29 = .ok (.if_icmp .le 11, 3) := by decide +kernel
theorem dX2_takePart_32 : decode cX2_takePart 32 = .ok (.new 74, 3) := by decide +kernel
theorem dX2_takePart_35 : decode cX2_takePart 35 = .ok (.dup, 1) := by decide +kernel
theorem dX2_takePart_36 : decode cX2_takePart 36 = .ok (.invokespecial 76, 3) := by decide +kernel
theorem dX2_takePart_39 : decode cX2_takePart 39 = .ok (.athrow, 1) := by decide +kernel
theorem dX2_takePart_40 : decode cX2_takePart 40 = .ok (.aload_n 0, 1) := by decide +kernel
theorem dX2_takePart_41 : decode cX2_takePart 41 = .ok (.aload_n 0, 1) := by decide +kernel
theorem dX2_takePart_42 : decode cX2_takePart 42 = .ok (.getfield 19, 3) := by decide +kernel
theorem dX2_takePart_45 : decode cX2_takePart 45 = .ok (.iload_n 2, 1) := by decide +kernel
theorem dX2_takePart_46 : decode cX2_takePart 46 = .ok (.iload_n 2, 1) := by decide +kernel
theorem dX2_takePart_47 : decode cX2_takePart 47 = .ok (.iload_n 3, 1) := by decide +kernel
theorem dX2_takePart_48 : decode cX2_takePart 48 = .ok (.iadd, 1) := by decide +kernel
theorem dX2_takePart_49 : decode cX2_takePart 49 = .ok (.aload 4, 2) := by decide +kernel
theorem dX2_takePart_51 : decode cX2_takePart 51 = .ok (.invokevirtual 70, 3) := by decide +kernel
theorem dX2_takePart_54 : decode cX2_takePart 54 = .ok (.ireturn, 1) := by decide +kernel
theorem dX2_cut_0 : decode cX2_cut 0 = .ok (.aload_n 0, 1) := by decide +kernel
theorem dX2_cut_1 : decode cX2_cut 1 = .ok (.getfield 26, 3) := by decide +kernel
theorem dX2_cut_4 : decode cX2_cut 4 = .ok (.aload_n 0, 1) := by decide +kernel
theorem dX2_cut_5 : decode cX2_cut 5 = .ok (.iload_n 1, 1) := by decide +kernel
theorem dX2_cut_6 : decode cX2_cut 6 = .ok (.invokevirtual 51, 3) := by decide +kernel
theorem dX2_cut_9 : decode cX2_cut 9 = .ok (.invokevirtual 135, 3) := by decide +kernel
theorem dX2_cut_12 : decode cX2_cut 12 = .ok (.aload_n 0, 1) := by decide +kernel
theorem dX2_cut_13 : decode cX2_cut 13 = .ok (.getfield 26, 3) := by decide +kernel
theorem dX2_cut_16 : decode cX2_cut 16 = .ok (.invokevirtual 138, 3) := by decide +kernel
theorem dX2_cut_19 : decode cX2_cut 19 = .ok (.ireturn, 1) := by decide +kernel
abbrev rmX2_takePart : Room := { frames := 7, cells := 3, slots := 18, locals := 110 }
theorem mX2_takePart {l : Launch} {G : Cx} {A : Nat → Prop} (hst : l.stackTraces = false) {SA : Nat → Nat} {X : Nat → List Nat} {es : List Nat} {k : Int32} {x f9 m9 : Int32} (hAS : ∀ i : Nat, i < 39 → A (SA i)) : vx_Met l yX2_takePart (.code yX2_takePart cX2_takePart 5 (some .int) :: GW) rmX2_takePart (PC G A [.ref (SA 0), .int x, .int f9, .int m9] (SS G SA X es k)) (qI A (fun r H => ∃ i a9 b9 : Nat, i < 4 ∧ x = nI i ∧ f9 = nI a9 ∧ m9 = nI b9 ∧ a9 + b9 ≤ (X 11).length ∧ r = nI (cutL (X 11) a9 (a9 + b9)).length ∧ SS G SA (updT X i (cutL (X 11) a9 (a9 + b9))) es k H)) (xE A (fun E H => (E = "java/lang/IndexOutOfBoundsException" ∧ (NT x ∨ ¬ ∃ a9 b9 : Nat, f9 = nI a9 ∧ m9 = nI b9 ∧ a9 + b9 ≤ (X 11).length)) ∧ SS G SA X es k H)) 3 18 A := by
  refine mstartX "Signtext" (by decide +kernel) rfl (Nat.le_of_ble_eq_true rfl) ?_
  intro p e s m below meth c ls hx hb hr hts hown hml hlocks hnx hC hA hW hl
  have hl : lv_has ls 5 [(0, .ref (SA 0)), (1, .int x), (2, .int f9), (3, .int m9)] := hl
  have hK := hC.1
  have hS : va_S A s.heap s.heap [] := va_S.rf
  obtain ⟨T, es2, hW, hF⟩ := hW
  have hO := hW.2.1
  have hR1 := hW.2.2.1
  have hR2 := hW.2.2.2.1
  have e11 := hF 11 (Or.inr (Or.inl rfl))
  have r60 := (hW.line (i := 11) (by omega)).1
  refine lv_aload_n hx hb dX2_takePart_0 rfl (lv_at hl 0 rfl) ?_
  refine lv_iload_n hx hb dX2_takePart_1 rfl (lv_at hl 1 rfl) ?_
  refine xR_V (A := A) (A1 := A) (b := (SA 0)) (As := [.int x]) (rest := []) ⟨hx, hb, hml, hown, hts⟩ (mX2_textOf (A := A) hst ) (cwV 1 hts (gV tw_3_4 tw_3_6 sel_X2_textOf tw_1_1 tw_3_7) rfl rfl rfl (by decide +kernel) ⟨Nat.le_of_ble_eq_true rfl, Nat.le_of_ble_eq_true rfl⟩) hC hS (fun _ h => h) (fun q h => hA q (Nat.le_trans hS.1 h)) (hW.recv hK) hW rfl rfl hl.1 (Nat.le_of_ble_eq_true rfl) ⟨Nat.le_trans (show 0 + 1 ≤ 3 by omega) (Nat.le_of_ble_eq_true rfl), Nat.le_trans (show 0 + 6 ≤ 18 by omega) (Nat.le_of_ble_eq_true rfl)⟩ dX2_takePart_2 hnx hlocks (by omega) (by omega) (fun E H9 q _ => ⟨⟨q.1, Or.inl q.2.1⟩, _, _, q.2.2, hF⟩) (fun rv1 H1 L1 hP1 hk1 hS => ?_)
  have hZ1 := hS.1
  obtain ⟨⟨i, hi, hxi, hrv⟩, hW⟩ := hP1
  subst hrv
  have hO := hW.2.1
  have hR1 := hW.2.2.1
  have hR2 := hW.2.2.2.1
  have ei := hF i (Or.inl hi)
  refine lv_astore (lv' := [(4, .ref (SA (7 + 2 * i))), (0, .ref (SA 0)), (1, .int x), (2, .int f9), (3, .int m9)]) hx hb dX2_takePart_5 hl (by decide) rfl (fun ls hl => ?_)
  refine lv_aload_n hx hb dX2_takePart_7 rfl (lv_at hl 1 rfl) ?_
  refine va_get (D := G.1) (ci := 6) (C := RX2) (T := TX2) (N := 8) hx hb hts inX2 hown hK (at_P hO) 0 rfl rfl 2 (by decide) (hts _ tw_1_139) (fun _ h9 => h9) rfl dX2_takePart_8 ?_
  refine lv_iload_n hx hb dX2_takePart_11 rfl (lv_at hl 3 rfl) ?_
  refine xV_S (A := A) (A1 := A)  (As := [.ref (SA 29), .int f9]) (rest := []) ⟨hx, hb, hml, hown, hts⟩ (mX2_needPlaceOrEnd (A := A) hst (q := 11) (by omega)) (va_cwS 2 hts (gS tw_3_87 tw_3_88 tw_1_1 tw_3_89) rfl rfl rfl (by decide +kernel) ⟨Nat.le_of_ble_eq_true rfl, Nat.le_of_ble_eq_true rfl⟩) hC hS (fun _ h => h) (fun q h => hA q (Nat.le_trans hS.1 h))  hW rfl rfl hl.1 (Nat.le_of_ble_eq_true rfl) ⟨Nat.le_trans (show (0 + 1) + 1 ≤ 3 by omega) (Nat.le_of_ble_eq_true rfl), Nat.le_trans (show (0 + 6) + 6 ≤ 18 by omega) (Nat.le_of_ble_eq_true rfl)⟩ dX2_takePart_12 hnx hlocks (by omega) (by omega) (fun E H9 q _ => ⟨⟨q.1, Or.inr (fun ⟨a0, b0, w1, w2, w3⟩ => q.2.1 ⟨a0, by rw [e11]; omega, w1⟩)⟩, _, _, q.2.2, hF⟩) (fun H2 L2 hP2 hk2 hS => ?_)
  have hZ2 := hS.1
  obtain ⟨⟨a9, ha9, rfl⟩, hW⟩ := hP2
  have hO := hW.2.1
  have hR1 := hW.2.2.1
  have hR2 := hW.2.2.2.1
  refine lv_iload_n hx hb dX2_takePart_15 rfl (lv_at hl 4 rfl) ?_
  refine lv_if_lt (tgt := 32) hx hb dX2_takePart_16 (by decide) (fun c_3 => ?_) (fun c_3 => ?_)
  · exact t_new (nL := 5) (cls := "java/lang/IndexOutOfBoundsException") (ik := 74) (ic := 76) hx hb hst hown hts hC hS hl.1 hml (by decide +kernel) tw_3_8 tw_1_16 tA76 tB76 tG76 hnx hlocks (Nat.le_of_ble_eq_true rfl) (Nat.le_of_ble_eq_true rfl) (Nat.le_trans (show ((0 + 1) + 1) + 1 ≤ 3 by omega) (Nat.le_of_ble_eq_true rfl)) (Nat.le_trans (show ((0 + 6) + 6) + 6 ≤ 18 by omega) (Nat.le_of_ble_eq_true rfl)) (by omega) (by omega) dX2_takePart_32 dX2_takePart_35 dX2_takePart_36 dX2_takePart_39 (fun H9 hk9 => ⟨⟨rfl, Or.inr (fun ⟨a0, b0, w1, w2, w3⟩ => by rw [w2] at c_3; rw [← e11] at w3; exact nI_pos (by omega) c_3)⟩, _, _, hW.nw hk9, hF⟩)
  · obtain ⟨b9, hb31, rfl⟩ := nI_of c_3
    refine lv_iload_n hx hb dX2_takePart_19 rfl (lv_at hl 4 rfl) ?_
    refine lv_aload_n hx hb dX2_takePart_20 rfl (lv_at hl 1 rfl) ?_
    refine va_get (D := G.1) (ci := 6) (C := RX2) (T := TX2) (N := 8) hx hb hts inX2 hown hK (at_P hO) 0 rfl rfl 2 (by decide) (hts _ tw_1_139) (fun _ h9 => h9) rfl dX2_takePart_21 ?_
    refine kV_i (A := A) (b := (SA 29)) (As := []) (rest := .int (nI b9) :: []) ⟨hx, hb, hml, hown, hts⟩ (mX0_size (A := A) (ca := SA (8 + 2 * 11))) (cwV 0 hts (gV tw_2_30 tw_2_12 tw_2_13 tw_1_2 tw_2_14) rfl rfl rfl (by decide +kernel) ⟨Nat.le_of_ble_eq_true rfl, Nat.le_of_ble_eq_true rfl⟩) hC hS hA ((hW.line (i := 11) (by omega)).recv hK) (hW.line (i := 11) (by omega)) rfl rfl hl.1 (Nat.le_of_ble_eq_true rfl) ⟨Nat.le_trans (show ((0 + 1) + 1) ≤ 3 by omega) (Nat.le_of_ble_eq_true rfl), Nat.le_trans (show ((0 + 6) + 6) ≤ 18 by omega) (Nat.le_of_ble_eq_true rfl)⟩ dX2_takePart_24 (fun r9 h9 => lv_cv h9 ?_)
    refine lv_iload_n hx hb dX2_takePart_27 rfl (lv_at hl 3 rfl) ?_
    refine lv_isub hx hb dX2_takePart_28 ?_
    refine lv_cv (pk_sub (a := (T 11).length) (b := a9) (by omega)) ?_
    refine b_le (tgt := 40) hx hb dX2_takePart_29 (by decide) (by omega) (by omega) (fun c_4 => ?_) (fun c_4 => ?_)
    · refine lv_aload_n hx hb dX2_takePart_40 rfl (lv_at hl 1 rfl) ?_
      refine lv_aload_n hx hb dX2_takePart_41 rfl (lv_at hl 1 rfl) ?_
      refine va_get (D := G.1) (ci := 6) (C := RX2) (T := TX2) (N := 8) hx hb hts inX2 hown hK (at_P hO) 0 rfl rfl 2 (by decide) (hts _ tw_1_139) (fun _ h9 => h9) rfl dX2_takePart_42 ?_
      refine lv_iload_n hx hb dX2_takePart_45 rfl (lv_at hl 3 rfl) ?_
      refine lv_iload_n hx hb dX2_takePart_46 rfl (lv_at hl 3 rfl) ?_
      refine lv_iload_n hx hb dX2_takePart_47 rfl (lv_at hl 4 rfl) ?_
      refine lv_iadd hx hb dX2_takePart_48 ?_
      refine lv_cv (nI_add a9 b9) ?_
      refine lv_aload hx hb dX2_takePart_49 (lv_at hl 0 rfl) ?_
      refine qI_V (A := A) (A1 := A) (b := (SA 0)) (As := [.ref (SA 29), .int (nI a9), .int (nI (a9 + b9)), .ref (SA (7 + 2 * i))]) (rest := []) ⟨hx, hb, hml, hown, hts⟩ (mX2_partInto (A := A) (i := 11) (q := i) (a9 := a9) (b9 := (a9 + b9)) hAS (by omega) (by omega) (by omega) (by omega) (by omega)) (cwV 4 hts (gV tw_2_55 tw_2_57 sel_X2_partInto tw_1_1 tw_2_58) rfl rfl rfl (by decide +kernel) ⟨Nat.le_of_ble_eq_true rfl, Nat.le_of_ble_eq_true rfl⟩) hC hS (fun _ h => h) (fun q h => hA q (Nat.le_trans hS.1 h)) (hW.recv hK) hW rfl rfl hl.1 (Nat.le_of_ble_eq_true rfl) ⟨Nat.le_trans (show ((0 + 1) + 1) ≤ 3 by omega) (Nat.le_of_ble_eq_true rfl), Nat.le_trans (show ((0 + 6) + 6) ≤ 18 by omega) (Nat.le_of_ble_eq_true rfl)⟩ dX2_takePart_51 (fun rv5 H5 L5 hP5 hk5 hS => ?_)
      have hZ5 := hS.1
      rw [e11] at hP5 c_4 ha9
      exact vx_ret (q_i hx hb hr hlocks dX2_takePart_54 hS (by omega) (by omega) ⟨i, a9, b9, hi, hxi, rfl, rfl, by omega, hP5.1, _, _, hP5.2, (FR.up (FR.s13 hF))⟩)
    · exact t_new (nL := 5) (cls := "java/lang/IndexOutOfBoundsException") (ik := 74) (ic := 76) hx hb hst hown hts hC hS hl.1 hml (by decide +kernel) tw_3_8 tw_1_16 tA76 tB76 tG76 hnx hlocks (Nat.le_of_ble_eq_true rfl) (Nat.le_of_ble_eq_true rfl) (Nat.le_trans (show ((0 + 1) + 1) + 1 ≤ 3 by omega) (Nat.le_of_ble_eq_true rfl)) (Nat.le_trans (show ((0 + 6) + 6) + 6 ≤ 18 by omega) (Nat.le_of_ble_eq_true rfl)) (by omega) (by omega) dX2_takePart_32 dX2_takePart_35 dX2_takePart_36 dX2_takePart_39 (fun H9 hk9 => ⟨⟨rfl, Or.inr (fun ⟨a0, b0, w1, w2, w3⟩ => by have w4 := (nI_eq (by omega) (by rw [← e11] at w3; omega)).mp w1; have w5 := (nI_eq (by omega) (by rw [← e11] at w3; omega)).mp w2; rw [← e11] at w3; omega)⟩, _, _, hW.nw hk9, hF⟩)

abbrev rmX2_cut : Room := { frames := 7, cells := 1, slots := 6, locals := 110 }
theorem mX2_cut {l : Launch} {G : Cx} {A : Nat → Prop} (hst : l.stackTraces = false) {SA : Nat → Nat} {X : Nat → List Nat} {es : List Nat} {k : Int32} {x : Int32} (hAS : ∀ i : Nat, i < 39 → A (SA i)) : vx_Met l yX2_cut (.code yX2_cut cX2_cut 2 (some .int) :: GW) rmX2_cut (PC G A [.ref (SA 0), .int x] (SS G SA X es k)) (qI A (fun r H => ∃ (i : Nat) (es1 : List Nat), i < 4 ∧ x = nI i ∧ isCut (X i) es1 ∧ r = nI es1.length ∧ SS G SA (updT X 14 (X i)) es1 k H)) (xE A (fun E H => (E = "java/lang/IndexOutOfBoundsException" ∧ NT x) ∧ SS G SA X es k H)) 1 6 A := by
  refine mstartX "Signtext" (by decide +kernel) rfl (Nat.le_of_ble_eq_true rfl) ?_
  intro p e s m below meth c ls hx hb hr hts hown hml hlocks hnx hC hA hW hl
  have hl : lv_has ls 2 [(0, .ref (SA 0)), (1, .int x)] := hl
  have hK := hC.1
  have hS : va_S A s.heap s.heap [] := va_S.rf
  obtain ⟨T, es2, hW, hF⟩ := hW
  have hO := hW.2.1
  have hR1 := hW.2.2.1
  have hR2 := hW.2.2.2.1
  refine lv_aload_n hx hb dX2_cut_0 rfl (lv_at hl 0 rfl) ?_
  refine va_get (D := G.1) (ci := 6) (C := RX2) (T := TX2) (N := 8) hx hb hts inX2 hown hK (at_P hO) 0 rfl rfl 3 (by decide) (hts _ tw_1_140) (fun _ h9 => h9) rfl dX2_cut_1 ?_
  refine lv_aload_n hx hb dX2_cut_4 rfl (lv_at hl 0 rfl) ?_
  refine lv_iload_n hx hb dX2_cut_5 rfl (lv_at hl 1 rfl) ?_
  refine xR_V (A := A) (A1 := A) (b := (SA 0)) (As := [.int x]) (rest := .ref (SA 3) :: []) ⟨hx, hb, hml, hown, hts⟩ (mX2_textOf (A := A) hst ) (cwV 1 hts (gV tw_3_4 tw_3_6 sel_X2_textOf tw_1_1 tw_3_7) rfl rfl rfl (by decide +kernel) ⟨Nat.le_of_ble_eq_true rfl, Nat.le_of_ble_eq_true rfl⟩) hC hS (fun _ h => h) (fun q h => hA q (Nat.le_trans hS.1 h)) (hW.recv hK) hW rfl rfl hl.1 (Nat.le_of_ble_eq_true rfl) ⟨Nat.le_trans (show 0 + 1 ≤ 1 by omega) (Nat.le_of_ble_eq_true rfl), Nat.le_trans (show 0 + 6 ≤ 6 by omega) (Nat.le_of_ble_eq_true rfl)⟩ dX2_cut_6 hnx hlocks (by omega) (by omega) (fun E H9 q _ => ⟨⟨q.1, q.2.1⟩, _, _, q.2.2, hF⟩) (fun rv6 H6 L6 hP6 hk6 hS => ?_)
  have hZ6 := hS.1
  obtain ⟨⟨i, hi, hxi, hrv⟩, hW⟩ := hP6
  subst hrv
  have hO := hW.2.1
  have hR1 := hW.2.2.1
  have hR2 := hW.2.2.2.1
  have ei := hF i (Or.inl hi)
  refine qV_V (A := A) (A1 := oP SA 3 35 36 4 H6.size) (b := (SA 3)) (As := [.ref (SA (7 + 2 * i))]) (rest := []) ⟨hx, hb, hml, hown, hts⟩ (mX1_cutOf (A := oP SA 3 35 36 4 H6.size) (la := SA 35) (lca := SA 36) (ea := SA 4) (cb := SA (8 + 2 * i)) (t := T 14) (u := T i) (es := es) (Or.inl rfl) (Or.inr (Or.inl rfl)) (Or.inr (Or.inr (Or.inl rfl))) (Or.inr (Or.inr (Or.inr (Or.inl rfl)))) ⟨hW.ne (i := 7 + 2 * i) (j := 3) (by omega) (by omega) (by omega), hW.ne (i := 7 + 2 * i) (j := 35) (by omega) (by omega) (by omega), hW.ne (i := 7 + 2 * i) (j := 36) (by omega) (by omega) (by omega), hW.ne (i := 7 + 2 * i) (j := 4) (by omega) (by omega) (by omega)⟩ ⟨hW.ne (i := 8 + 2 * i) (j := 3) (by omega) (by omega) (by omega), hW.ne (i := 8 + 2 * i) (j := 35) (by omega) (by omega) (by omega), hW.ne (i := 8 + 2 * i) (j := 36) (by omega) (by omega) (by omega), hW.ne (i := 8 + 2 * i) (j := 4) (by omega) (by omega) (by omega)⟩) (cwV 1 hts (gV tw_2_63 tw_2_64 tw_2_65 tw_1_3 tw_2_66) rfl rfl rfl (by decide +kernel) ⟨Nat.le_of_ble_eq_true rfl, Nat.le_of_ble_eq_true rfl⟩) hC hS (oP_in (hAS 3 (by decide)) (hAS 35 (by decide)) (hAS 36 (by decide)) (hAS 4 (by decide)) hA hS.1) oP_n (hW.pcs.1.recv hK) ⟨hW.pcs, hW.line (i := i) (by omega)⟩ rfl rfl hl.1 (Nat.le_of_ble_eq_true rfl) ⟨Nat.le_trans (show (0 + 1) ≤ 1 by omega) (Nat.le_of_ble_eq_true rfl), Nat.le_trans (show (0 + 6) ≤ 6 by omega) (Nat.le_of_ble_eq_true rfl)⟩ dX2_cut_9 (fun H7 L7 hP7 hk7 hS => ?_)
  have hZ7 := hS.1
  obtain ⟨⟨es1, hcut, hPA⟩, -⟩ := hP7
  have hW := hW.putP hk7 hPA
  rw [ei] at hcut hW
  have hO := hW.2.1
  have hR1 := hW.2.2.1
  have hR2 := hW.2.2.2.1
  refine lv_aload_n hx hb dX2_cut_12 rfl (lv_at hl 0 rfl) ?_
  refine va_get (D := G.1) (ci := 6) (C := RX2) (T := TX2) (N := 8) hx hb hts inX2 hown hK (at_P hO) 0 rfl rfl 3 (by decide) (hts _ tw_1_140) (fun _ h9 => h9) rfl dX2_cut_13 ?_
  refine kV_i (A := A) (b := (SA 3)) (As := []) (rest := []) ⟨hx, hb, hml, hown, hts⟩ (mX1_size (A := A) (la := SA 35) (ea := SA 4) (es := es1)) (cwV 0 hts (gV tw_2_82 tw_2_83 tw_2_84 tw_1_3 tw_2_85) rfl rfl rfl (by decide +kernel) ⟨Nat.le_of_ble_eq_true rfl, Nat.le_of_ble_eq_true rfl⟩) hC hS hA (hW.pcs.1.recv hK) hW.pcs.1 rfl rfl hl.1 (Nat.le_of_ble_eq_true rfl) ⟨Nat.le_trans (show (0 + 1) ≤ 1 by omega) (Nat.le_of_ble_eq_true rfl), Nat.le_trans (show (0 + 6) ≤ 6 by omega) (Nat.le_of_ble_eq_true rfl)⟩ dX2_cut_16 (fun r9 h9 => lv_cv h9 ?_)
  exact vx_ret (q_i hx hb hr hlocks dX2_cut_19 hS (by omega) (by omega) ⟨i, es1, hi, hxi, hcut, rfl, _, _, hW, (FR.up hF)⟩)

abbrev rmX2_ahead : Room := { frames := 9, cells := 3, slots := 18, locals := 154 }
theorem mX2_ahead {l : Launch} {G : Cx} {A : Nat → Prop} (hst : l.stackTraces = false) {SA : Nat → Nat} {X : Nat → List Nat} {es : List Nat} {k : Int32} {x y : Int32} (hAS : ∀ i : Nat, i < 39 → A (SA i)) : vx_Met l yX2_ahead (.code yX2_ahead cX2_ahead 4 (some .int) :: GW) rmX2_ahead (PC G A [.ref (SA 0), .int x, .int y] (SS G SA X es k)) (qI A (fun r H => ∃ i j : Nat, i < 4 ∧ x = nI i ∧ j < 24 ∧ y = nI j ∧ ([codeT.getD j 0] ++ X i).length ≤ 60 ∧ r = nI ([codeT.getD j 0] ++ X i).length ∧ SS G SA (updT X i ([codeT.getD j 0] ++ X i)) es k H)) (xE A (fun E H => ((E = "java/lang/IndexOutOfBoundsException" ∧ NT x) ∨ (E = "java/lang/IllegalArgumentException" ∧ (∃ i : Nat, i < 4 ∧ x = nI i) ∧ NS y) ∨ (E = "java/lang/IllegalStateException" ∧ ∃ i j : Nat, i < 4 ∧ x = nI i ∧ j < 24 ∧ y = nI j ∧ 60 < ([codeT.getD j 0] ++ X i).length)) ∧ SS G SA X es k H)) 3 18 A := by
  refine mstartX "Signtext" (by decide +kernel) rfl (Nat.le_of_ble_eq_true rfl) ?_
  intro p e s m below meth c ls hx hb hr hts hown hml hlocks hnx hC hA hW hl
  have hl : lv_has ls 4 [(0, .ref (SA 0)), (1, .int x), (2, .int y)] := hl
  have hK := hC.1
  have hS : va_S A s.heap s.heap [] := va_S.rf
  obtain ⟨T, es2, hW, hF⟩ := hW
  have hO := hW.2.1
  have hR1 := hW.2.2.1
  have hR2 := hW.2.2.2.1
  refine lv_aload_n hx hb dX2_ahead_0 rfl (lv_at hl 0 rfl) ?_
  refine lv_iload_n hx hb dX2_ahead_1 rfl (lv_at hl 1 rfl) ?_
  refine xR_V (A := A) (A1 := A) (b := (SA 0)) (As := [.int x]) (rest := []) ⟨hx, hb, hml, hown, hts⟩ (mX2_textOf (A := A) hst ) (cwV 1 hts (gV tw_3_4 tw_3_6 sel_X2_textOf tw_1_1 tw_3_7) rfl rfl rfl (by decide +kernel) ⟨Nat.le_of_ble_eq_true rfl, Nat.le_of_ble_eq_true rfl⟩) hC hS (fun _ h => h) (fun q h => hA q (Nat.le_trans hS.1 h)) (hW.recv hK) hW rfl rfl hl.1 (Nat.le_of_ble_eq_true rfl) ⟨Nat.le_trans (show 0 + 1 ≤ 3 by omega) (Nat.le_of_ble_eq_true rfl), Nat.le_trans (show 0 + 6 ≤ 18 by omega) (Nat.le_of_ble_eq_true rfl)⟩ dX2_ahead_2 hnx hlocks (by omega) (by omega) (fun E H9 q _ => ⟨Or.inl ⟨q.1, q.2.1⟩, _, _, q.2.2, hF⟩) (fun rv8 H8 L8 hP8 hk8 hS => ?_)
  have hZ8 := hS.1
  obtain ⟨⟨i, hi, hxi, hrv⟩, hW⟩ := hP8
  subst hrv
  have hO := hW.2.1
  have hR1 := hW.2.2.1
  have hR2 := hW.2.2.2.1
  have ei := hF i (Or.inl hi)
  refine lv_astore_n (lv' := [(3, .ref (SA (7 + 2 * i))), (0, .ref (SA 0)), (1, .int x), (2, .int y)]) hx hb dX2_ahead_5 rfl hl (by decide) rfl (fun ls hl => ?_)
  refine lv_aload_n hx hb dX2_ahead_6 rfl (lv_at hl 1 rfl) ?_
  refine va_get (D := G.1) (ci := 6) (C := RX2) (T := TX2) (N := 8) hx hb hts inX2 hown hK (at_P hO) 0 rfl rfl 5 (by decide) (hts _ tw_1_142) (fun _ h9 => h9) rfl dX2_ahead_7 ?_
  refine qV_V (A := A) (A1 := ow (SA (7 + 2 * 12)) (SA (8 + 2 * 12)) H8.size) (b := (SA 31)) (As := []) (rest := []) ⟨hx, hb, hml, hown, hts⟩ (mX0_empty (A := ow (SA (7 + 2 * 12)) (SA (8 + 2 * 12)) H8.size) (ca := SA (8 + 2 * 12)) (hAa := Or.inl rfl)) (cwV 0 hts (gV tw_2_31 tw_2_32 tw_2_33 tw_1_2 tw_2_34) rfl rfl rfl (by decide +kernel) ⟨Nat.le_of_ble_eq_true rfl, Nat.le_of_ble_eq_true rfl⟩) hC hS (ow_in (hAS _ (by omega)) (hAS _ (by omega)) hA hS.1) ow_n ((hW.line (i := 12) (by omega)).recv hK) (hW.line (i := 12) (by omega)) rfl rfl hl.1 (Nat.le_of_ble_eq_true rfl) ⟨Nat.le_trans (show (0 + 1) ≤ 3 by omega) (Nat.le_of_ble_eq_true rfl), Nat.le_trans (show (0 + 6) ≤ 18 by omega) (Nat.le_of_ble_eq_true rfl)⟩ dX2_ahead_10 (fun H9 L9 hP9 hk9 hS => ?_)
  have hZ9 := hS.1
  have hW := hW.put (q := 12) (t := []) (by omega) hk9 hP9
  have hO := hW.2.1
  have hR1 := hW.2.2.1
  have hR2 := hW.2.2.2.1
  refine lv_aload_n hx hb dX2_ahead_13 rfl (lv_at hl 1 rfl) ?_
  refine va_get (D := G.1) (ci := 6) (C := RX2) (T := TX2) (N := 8) hx hb hts inX2 hown hK (at_P hO) 0 rfl rfl 5 (by decide) (hts _ tw_1_142) (fun _ h9 => h9) rfl dX2_ahead_14 ?_
  refine lv_iload_n hx hb dX2_ahead_17 rfl (lv_at hl 3 rfl) ?_
  refine xI_S (A := A) (A1 := A)  (As := [.int y]) (rest := .ref (SA 31) :: []) ⟨hx, hb, hml, hown, hts⟩ (mX2_codeOf (A := A) hst ) (va_cwS 1 hts (gS tw_3_27 tw_3_28 tw_1_1 tw_3_29) rfl rfl rfl (by decide +kernel) ⟨Nat.le_of_ble_eq_true rfl, Nat.le_of_ble_eq_true rfl⟩) hC hS (fun _ h => h) (fun q h => hA q (Nat.le_trans hS.1 h))  hW rfl rfl hl.1 (Nat.le_of_ble_eq_true rfl) ⟨Nat.le_trans (show (0 + 1) + 1 ≤ 3 by omega) (Nat.le_of_ble_eq_true rfl), Nat.le_trans (show (0 + 6) + 6 ≤ 18 by omega) (Nat.le_of_ble_eq_true rfl)⟩ dX2_ahead_18 hnx hlocks (by omega) (by omega) (fun E H9 q _ => ⟨Or.inr (Or.inl ⟨q.1, ⟨i, hi, hxi⟩, q.2.1⟩), _, _, q.2.2, (FR.s12 hF)⟩) (fun rv10 H10 L10 hP10 hk10 hS => ?_)
  have hZ10 := hS.1
  obtain ⟨⟨j, hj, hyj, hrv⟩, hW⟩ := hP10
  subst hrv
  have hO := hW.2.1
  have hR1 := hW.2.2.1
  have hR2 := hW.2.2.2.1
  refine qV_V (A := A) (A1 := ow (SA (7 + 2 * 12)) (SA (8 + 2 * 12)) H10.size) (b := (SA 31)) (As := [.int (nI (codeT.getD j 0))]) (rest := []) ⟨hx, hb, hml, hown, hts⟩ (mX0_addCode (A := ow (SA (7 + 2 * 12)) (SA (8 + 2 * 12)) H10.size) (ca := SA (8 + 2 * 12)) (k0 := codeT.getD j 0) (t := []) (Or.inl rfl) (Or.inr (Or.inl rfl)) (codeT_lt j)) (cwV 1 hts (gV tw_2_86 tw_1_134 tw_1_135 tw_1_2 tw_1_136) rfl rfl rfl (by decide +kernel) ⟨Nat.le_of_ble_eq_true rfl, Nat.le_of_ble_eq_true rfl⟩) hC hS (ow_in (hAS _ (by omega)) (hAS _ (by omega)) hA hS.1) ow_n ((hW.line (i := 12) (by omega)).recv hK) (by have h := hW.line (i := 12) (by omega); rw [updT_s] at h; exact h) rfl rfl hl.1 (Nat.le_of_ble_eq_true rfl) ⟨Nat.le_trans (show ((0 + 1) + 1) ≤ 3 by omega) (Nat.le_of_ble_eq_true rfl), Nat.le_trans (show ((0 + 6) + 6) ≤ 18 by omega) (Nat.le_of_ble_eq_true rfl)⟩ dX2_ahead_21 (fun H11 L11 hP11 hk11 hS => ?_)
  have hZ11 := hS.1
  have hW := hW.put (q := 12) (t := [codeT.getD j 0]) (by omega) hk11 hP11
  rw [updT_2] at hW
  have hO := hW.2.1
  have hR1 := hW.2.2.1
  have hR2 := hW.2.2.2.1
  refine lv_aload_n hx hb dX2_ahead_24 rfl (lv_at hl 1 rfl) ?_
  refine lv_aload_n hx hb dX2_ahead_25 rfl (lv_at hl 0 rfl) ?_
  refine lv_iconst (v := nI 1) hx hb dX2_ahead_26 (by decide) ?_
  refine xI_V (A := A) (A1 := A) (b := (SA 0)) (As := [.ref (SA (7 + 2 * i)), .int (bI true)]) (rest := []) ⟨hx, hb, hml, hown, hts⟩ (mX2_addMade (A := A) hst (i := i) (b := true) hAS hi) (cwV 2 hts (gV tw_3_127 tw_3_129 sel_X2_addMade tw_1_1 tw_3_130) rfl rfl rfl (by decide +kernel) ⟨Nat.le_of_ble_eq_true rfl, Nat.le_of_ble_eq_true rfl⟩) hC hS (fun _ h => h) (fun q h => hA q (Nat.le_trans hS.1 h)) (hW.recv hK) hW rfl rfl hl.1 (Nat.le_of_ble_eq_true rfl) ⟨Nat.le_trans (show ((0 + 1) + 1) + 1 ≤ 3 by omega) (Nat.le_of_ble_eq_true rfl), Nat.le_trans (show ((0 + 6) + 6) + 6 ≤ 18 by omega) (Nat.le_of_ble_eq_true rfl)⟩ dX2_ahead_27 hnx hlocks (by omega) (by omega) (fun E H9 q _ => ⟨Or.inr (Or.inr ⟨q.1, i, j, hi, hxi, hj, hyj, by have h := q.2.1; rw [updT_s, updT_n (show i ≠ 12 by omega), ei] at h; exact h⟩), _, _, q.2.2, (FR.s12 hF)⟩) (fun rv12 H12 L12 hP12 hk12 hS => ?_)
  have hZ12 := hS.1
  rw [updT_s, updT_n (show i ≠ 12 by omega), ei] at hP12
  exact vx_ret (q_i hx hb hr hlocks dX2_ahead_30 hS (by omega) (by omega) ⟨i, j, hi, hxi, hj, hyj, hP12.2.1, hP12.1, _, _, hP12.2.2, (FR.up (FR.s13 (FR.s12 hF)))⟩)

abbrev rmX2_number : Room := { frames := 9, cells := 2, slots := 12, locals := 154 }
theorem mX2_number {l : Launch} {G : Cx} {A : Nat → Prop} (hst : l.stackTraces = false) {SA : Nat → Nat} {X : Nat → List Nat} {es : List Nat} {k : Int32} {x n9 : Int32} {b : Bool} (hAS : ∀ i : Nat, i < 39 → A (SA i)) : vx_Met l yX2_number (.code yX2_number cX2_number 5 (some .int) :: GW) rmX2_number (PC G A [.ref (SA 0), .int x, .int n9, .int (bI b)] (SS G SA X es k)) (qI A (fun r H => ∃ i : Nat, i < 4 ∧ x = nI i ∧ (if b then (numL (n9.toInt64)).take 60 ++ X i else X i ++ (numL (n9.toInt64)).take 60).length ≤ 60 ∧ r = nI (if b then (numL (n9.toInt64)).take 60 ++ X i else X i ++ (numL (n9.toInt64)).take 60).length ∧ SS G SA (updT X i (if b then (numL (n9.toInt64)).take 60 ++ X i else X i ++ (numL (n9.toInt64)).take 60)) es k H)) (xE A (fun E H => ((E = "java/lang/IndexOutOfBoundsException" ∧ NT x) ∨ (E = "java/lang/IllegalStateException" ∧ ∃ i : Nat, i < 4 ∧ x = nI i ∧ 60 < (if b then (numL (n9.toInt64)).take 60 ++ X i else X i ++ (numL (n9.toInt64)).take 60).length)) ∧ SS G SA X es k H)) 2 12 A := by
  refine mstartX "Signtext" (by decide +kernel) rfl (Nat.le_of_ble_eq_true rfl) ?_
  intro p e s m below meth c ls hx hb hr hts hown hml hlocks hnx hC hA hW hl
  have hl : lv_has ls 5 [(0, .ref (SA 0)), (1, .int x), (2, .int n9), (3, .int (bI b))] := hl
  have hK := hC.1
  have hS : va_S A s.heap s.heap [] := va_S.rf
  obtain ⟨T, es2, hW, hF⟩ := hW
  have hO := hW.2.1
  have hR1 := hW.2.2.1
  have hR2 := hW.2.2.2.1
  refine lv_aload_n hx hb dX2_number_0 rfl (lv_at hl 0 rfl) ?_
  refine lv_iload_n hx hb dX2_number_1 rfl (lv_at hl 1 rfl) ?_
  refine xR_V (A := A) (A1 := A) (b := (SA 0)) (As := [.int x]) (rest := []) ⟨hx, hb, hml, hown, hts⟩ (mX2_textOf (A := A) hst ) (cwV 1 hts (gV tw_3_4 tw_3_6 sel_X2_textOf tw_1_1 tw_3_7) rfl rfl rfl (by decide +kernel) ⟨Nat.le_of_ble_eq_true rfl, Nat.le_of_ble_eq_true rfl⟩) hC hS (fun _ h => h) (fun q h => hA q (Nat.le_trans hS.1 h)) (hW.recv hK) hW rfl rfl hl.1 (Nat.le_of_ble_eq_true rfl) ⟨Nat.le_trans (show 0 + 1 ≤ 2 by omega) (Nat.le_of_ble_eq_true rfl), Nat.le_trans (show 0 + 6 ≤ 12 by omega) (Nat.le_of_ble_eq_true rfl)⟩ dX2_number_2 hnx hlocks (by omega) (by omega) (fun E H9 q _ => ⟨Or.inl ⟨q.1, q.2.1⟩, _, _, q.2.2, hF⟩) (fun rv13 H13 L13 hP13 hk13 hS => ?_)
  have hZ13 := hS.1
  obtain ⟨⟨i, hi, hxi, hrv⟩, hW⟩ := hP13
  subst hrv
  have hO := hW.2.1
  have hR1 := hW.2.2.1
  have hR2 := hW.2.2.2.1
  have ei := hF i (Or.inl hi)
  refine lv_astore (lv' := [(4, .ref (SA (7 + 2 * i))), (0, .ref (SA 0)), (1, .int x), (2, .int n9), (3, .int (bI b))]) hx hb dX2_number_5 hl (by decide) rfl (fun ls hl => ?_)
  refine lv_aload_n hx hb dX2_number_7 rfl (lv_at hl 1 rfl) ?_
  refine va_get (D := G.1) (ci := 6) (C := RX2) (T := TX2) (N := 8) hx hb hts inX2 hown hK (at_P hO) 0 rfl rfl 5 (by decide) (hts _ tw_1_142) (fun _ h9 => h9) rfl dX2_number_8 ?_
  refine qV_V (A := A) (A1 := ow (SA (7 + 2 * 12)) (SA (8 + 2 * 12)) H13.size) (b := (SA 31)) (As := []) (rest := []) ⟨hx, hb, hml, hown, hts⟩ (mX0_empty (A := ow (SA (7 + 2 * 12)) (SA (8 + 2 * 12)) H13.size) (ca := SA (8 + 2 * 12)) (hAa := Or.inl rfl)) (cwV 0 hts (gV tw_2_31 tw_2_32 tw_2_33 tw_1_2 tw_2_34) rfl rfl rfl (by decide +kernel) ⟨Nat.le_of_ble_eq_true rfl, Nat.le_of_ble_eq_true rfl⟩) hC hS (ow_in (hAS _ (by omega)) (hAS _ (by omega)) hA hS.1) ow_n ((hW.line (i := 12) (by omega)).recv hK) (hW.line (i := 12) (by omega)) rfl rfl hl.1 (Nat.le_of_ble_eq_true rfl) ⟨Nat.le_trans (show (0 + 1) ≤ 2 by omega) (Nat.le_of_ble_eq_true rfl), Nat.le_trans (show (0 + 6) ≤ 12 by omega) (Nat.le_of_ble_eq_true rfl)⟩ dX2_number_11 (fun H14 L14 hP14 hk14 hS => ?_)
  have hZ14 := hS.1
  have hW := hW.put (q := 12) (t := []) (by omega) hk14 hP14
  have hO := hW.2.1
  have hR1 := hW.2.2.1
  have hR2 := hW.2.2.2.1
  refine lv_aload_n hx hb dX2_number_14 rfl (lv_at hl 1 rfl) ?_
  refine va_get (D := G.1) (ci := 6) (C := RX2) (T := TX2) (N := 8) hx hb hts inX2 hown hK (at_P hO) 0 rfl rfl 5 (by decide) (hts _ tw_1_142) (fun _ h9 => h9) rfl dX2_number_15 ?_
  refine lv_iload_n hx hb dX2_number_18 rfl (lv_at hl 3 rfl) ?_
  refine lv_i2l hx hb dX2_number_19 rfl ?_
  refine qV_V (A := A) (A1 := ow (SA (7 + 2 * 12)) (SA (8 + 2 * 12)) H14.size) (b := (SA 31)) (As := [.long n9.toInt64]) (rest := []) ⟨hx, hb, hml, hown, hts⟩ (mX0_addNumber (A := ow (SA (7 + 2 * 12)) (SA (8 + 2 * 12)) H14.size) (ca := SA (8 + 2 * 12)) (t := []) (x := n9.toInt64) (Or.inl rfl) (Or.inr (Or.inl rfl))) (cwV 1 hts (gV tw_3_118 tw_3_119 tw_3_120 tw_1_2 tw_3_121) rfl rfl rfl (by decide +kernel) ⟨Nat.le_of_ble_eq_true rfl, Nat.le_of_ble_eq_true rfl⟩) hC hS (ow_in (hAS _ (by omega)) (hAS _ (by omega)) hA hS.1) ow_n ((hW.line (i := 12) (by omega)).recv hK) (by have h := hW.line (i := 12) (by omega); rw [updT_s] at h; exact h) rfl rfl hl.1 (Nat.le_of_ble_eq_true rfl) ⟨Nat.le_trans (show (0 + 1) ≤ 2 by omega) (Nat.le_of_ble_eq_true rfl), Nat.le_trans (show (0 + 6) ≤ 12 by omega) (Nat.le_of_ble_eq_true rfl)⟩ dX2_number_20 (fun H15 L15 hP15 hk15 hS => ?_)
  have hZ15 := hS.1
  have hW := hW.put (q := 12) (t := (numL n9.toInt64).take 60) (by omega) hk15 hP15
  rw [updT_2] at hW
  have hO := hW.2.1
  have hR1 := hW.2.2.1
  have hR2 := hW.2.2.2.1
  refine lv_aload_n hx hb dX2_number_23 rfl (lv_at hl 1 rfl) ?_
  refine lv_aload hx hb dX2_number_24 (lv_at hl 0 rfl) ?_
  refine lv_iload_n hx hb dX2_number_26 rfl (lv_at hl 4 rfl) ?_
  refine xI_V (A := A) (A1 := A) (b := (SA 0)) (As := [.ref (SA (7 + 2 * i)), .int (bI b)]) (rest := []) ⟨hx, hb, hml, hown, hts⟩ (mX2_addMade (A := A) hst (i := i) (b := b) hAS hi) (cwV 2 hts (gV tw_3_127 tw_3_129 sel_X2_addMade tw_1_1 tw_3_130) rfl rfl rfl (by decide +kernel) ⟨Nat.le_of_ble_eq_true rfl, Nat.le_of_ble_eq_true rfl⟩) hC hS (fun _ h => h) (fun q h => hA q (Nat.le_trans hS.1 h)) (hW.recv hK) hW rfl rfl hl.1 (Nat.le_of_ble_eq_true rfl) ⟨Nat.le_trans (show (0 + 1) + 1 ≤ 2 by omega) (Nat.le_of_ble_eq_true rfl), Nat.le_trans (show (0 + 6) + 6 ≤ 12 by omega) (Nat.le_of_ble_eq_true rfl)⟩ dX2_number_27 hnx hlocks (by omega) (by omega) (fun E H9 q _ => ⟨Or.inr ⟨q.1, i, hi, hxi, by have h := q.2.1; rw [updT_s, updT_n (show i ≠ 12 by omega), ei] at h; exact h⟩, _, _, q.2.2, (FR.s12 hF)⟩) (fun rv16 H16 L16 hP16 hk16 hS => ?_)
  have hZ16 := hS.1
  rw [updT_s, updT_n (show i ≠ 12 by omega), ei] at hP16
  exact vx_ret (q_i hx hb hr hlocks dX2_number_30 hS (by omega) (by omega) ⟨i, hi, hxi, hP16.2.1, hP16.1, _, _, hP16.2.2, (FR.up (FR.s13 (FR.s12 hF)))⟩)

abbrev rmX2_great : Room := { frames := 9, cells := 2, slots := 12, locals := 154 }
theorem mX2_great {l : Launch} {G : Cx} {A : Nat → Prop} (hst : l.stackTraces = false) {SA : Nat → Nat} {X : Nat → List Nat} {es : List Nat} {k : Int32} {x h9 l9 : Int32} (hAS : ∀ i : Nat, i < 39 → A (SA i)) : vx_Met l yX2_great (.code yX2_great cX2_great 5 (some .int) :: GW) rmX2_great (PC G A [.ref (SA 0), .int x, .int h9, .int l9] (SS G SA X es k)) (qI A (fun r H => ∃ i : Nat, i < 4 ∧ x = nI i ∧ (if false then (numL ((h9.toInt64 <<< ((nI 32).toInt64 &&& 63)) ||| (l9.toInt64 &&& 4294967295))).take 60 ++ X i else X i ++ (numL ((h9.toInt64 <<< ((nI 32).toInt64 &&& 63)) ||| (l9.toInt64 &&& 4294967295))).take 60).length ≤ 60 ∧ r = nI (if false then (numL ((h9.toInt64 <<< ((nI 32).toInt64 &&& 63)) ||| (l9.toInt64 &&& 4294967295))).take 60 ++ X i else X i ++ (numL ((h9.toInt64 <<< ((nI 32).toInt64 &&& 63)) ||| (l9.toInt64 &&& 4294967295))).take 60).length ∧ SS G SA (updT X i (if false then (numL ((h9.toInt64 <<< ((nI 32).toInt64 &&& 63)) ||| (l9.toInt64 &&& 4294967295))).take 60 ++ X i else X i ++ (numL ((h9.toInt64 <<< ((nI 32).toInt64 &&& 63)) ||| (l9.toInt64 &&& 4294967295))).take 60)) es k H)) (xE A (fun E H => ((E = "java/lang/IndexOutOfBoundsException" ∧ NT x) ∨ (E = "java/lang/IllegalStateException" ∧ ∃ i : Nat, i < 4 ∧ x = nI i ∧ 60 < (if false then (numL ((h9.toInt64 <<< ((nI 32).toInt64 &&& 63)) ||| (l9.toInt64 &&& 4294967295))).take 60 ++ X i else X i ++ (numL ((h9.toInt64 <<< ((nI 32).toInt64 &&& 63)) ||| (l9.toInt64 &&& 4294967295))).take 60).length)) ∧ SS G SA X es k H)) 2 12 A := by
  refine mstartX "Signtext" (by decide +kernel) rfl (Nat.le_of_ble_eq_true rfl) ?_
  intro p e s m below meth c ls hx hb hr hts hown hml hlocks hnx hC hA hW hl
  have hl : lv_has ls 5 [(0, .ref (SA 0)), (1, .int x), (2, .int h9), (3, .int l9)] := hl
  have hK := hC.1
  have hS : va_S A s.heap s.heap [] := va_S.rf
  obtain ⟨T, es2, hW, hF⟩ := hW
  have hO := hW.2.1
  have hR1 := hW.2.2.1
  have hR2 := hW.2.2.2.1
  refine lv_aload_n hx hb dX2_great_0 rfl (lv_at hl 0 rfl) ?_
  refine lv_iload_n hx hb dX2_great_1 rfl (lv_at hl 1 rfl) ?_
  refine xR_V (A := A) (A1 := A) (b := (SA 0)) (As := [.int x]) (rest := []) ⟨hx, hb, hml, hown, hts⟩ (mX2_textOf (A := A) hst ) (cwV 1 hts (gV tw_3_4 tw_3_6 sel_X2_textOf tw_1_1 tw_3_7) rfl rfl rfl (by decide +kernel) ⟨Nat.le_of_ble_eq_true rfl, Nat.le_of_ble_eq_true rfl⟩) hC hS (fun _ h => h) (fun q h => hA q (Nat.le_trans hS.1 h)) (hW.recv hK) hW rfl rfl hl.1 (Nat.le_of_ble_eq_true rfl) ⟨Nat.le_trans (show 0 + 1 ≤ 2 by omega) (Nat.le_of_ble_eq_true rfl), Nat.le_trans (show 0 + 6 ≤ 12 by omega) (Nat.le_of_ble_eq_true rfl)⟩ dX2_great_2 hnx hlocks (by omega) (by omega) (fun E H9 q _ => ⟨Or.inl ⟨q.1, q.2.1⟩, _, _, q.2.2, hF⟩) (fun rv17 H17 L17 hP17 hk17 hS => ?_)
  have hZ17 := hS.1
  obtain ⟨⟨i, hi, hxi, hrv⟩, hW⟩ := hP17
  subst hrv
  have hO := hW.2.1
  have hR1 := hW.2.2.1
  have hR2 := hW.2.2.2.1
  have ei := hF i (Or.inl hi)
  refine lv_astore (lv' := [(4, .ref (SA (7 + 2 * i))), (0, .ref (SA 0)), (1, .int x), (2, .int h9), (3, .int l9)]) hx hb dX2_great_5 hl (by decide) rfl (fun ls hl => ?_)
  refine lv_aload_n hx hb dX2_great_7 rfl (lv_at hl 1 rfl) ?_
  refine va_get (D := G.1) (ci := 6) (C := RX2) (T := TX2) (N := 8) hx hb hts inX2 hown hK (at_P hO) 0 rfl rfl 5 (by decide) (hts _ tw_1_142) (fun _ h9 => h9) rfl dX2_great_8 ?_
  refine qV_V (A := A) (A1 := ow (SA (7 + 2 * 12)) (SA (8 + 2 * 12)) H17.size) (b := (SA 31)) (As := []) (rest := []) ⟨hx, hb, hml, hown, hts⟩ (mX0_empty (A := ow (SA (7 + 2 * 12)) (SA (8 + 2 * 12)) H17.size) (ca := SA (8 + 2 * 12)) (hAa := Or.inl rfl)) (cwV 0 hts (gV tw_2_31 tw_2_32 tw_2_33 tw_1_2 tw_2_34) rfl rfl rfl (by decide +kernel) ⟨Nat.le_of_ble_eq_true rfl, Nat.le_of_ble_eq_true rfl⟩) hC hS (ow_in (hAS _ (by omega)) (hAS _ (by omega)) hA hS.1) ow_n ((hW.line (i := 12) (by omega)).recv hK) (hW.line (i := 12) (by omega)) rfl rfl hl.1 (Nat.le_of_ble_eq_true rfl) ⟨Nat.le_trans (show (0 + 1) ≤ 2 by omega) (Nat.le_of_ble_eq_true rfl), Nat.le_trans (show (0 + 6) ≤ 12 by omega) (Nat.le_of_ble_eq_true rfl)⟩ dX2_great_11 (fun H18 L18 hP18 hk18 hS => ?_)
  have hZ18 := hS.1
  have hW := hW.put (q := 12) (t := []) (by omega) hk18 hP18
  have hO := hW.2.1
  have hR1 := hW.2.2.1
  have hR2 := hW.2.2.2.1
  refine lv_aload_n hx hb dX2_great_14 rfl (lv_at hl 1 rfl) ?_
  refine va_get (D := G.1) (ci := 6) (C := RX2) (T := TX2) (N := 8) hx hb hts inX2 hown hK (at_P hO) 0 rfl rfl 5 (by decide) (hts _ tw_1_142) (fun _ h9 => h9) rfl dX2_great_15 ?_
  refine lv_iload_n hx hb dX2_great_18 rfl (lv_at hl 3 rfl) ?_
  refine lv_i2l hx hb dX2_great_19 rfl ?_
  refine lv_bipush (v := nI 32) hx hb dX2_great_20 (by decide) ?_
  refine lv_lshl hx hb dX2_great_22 rfl ?_
  refine lv_iload_n hx hb dX2_great_23 rfl (lv_at hl 4 rfl) ?_
  refine lv_i2l hx hb dX2_great_24 rfl ?_
  refine lv_ldc2 (v := 4294967295) hx hb hown (hts _ tw_3_138) dX2_great_25 ?_
  refine lv_land hx hb dX2_great_28 ?_
  refine lv_lor hx hb dX2_great_29 ?_
  refine qV_V (A := A) (A1 := ow (SA (7 + 2 * 12)) (SA (8 + 2 * 12)) H18.size) (b := (SA 31)) (As := [.long ((h9.toInt64 <<< ((nI 32).toInt64 &&& 63)) ||| (l9.toInt64 &&& 4294967295))]) (rest := []) ⟨hx, hb, hml, hown, hts⟩ (mX0_addNumber (A := ow (SA (7 + 2 * 12)) (SA (8 + 2 * 12)) H18.size) (ca := SA (8 + 2 * 12)) (t := []) (x := (h9.toInt64 <<< ((nI 32).toInt64 &&& 63)) ||| (l9.toInt64 &&& 4294967295)) (Or.inl rfl) (Or.inr (Or.inl rfl))) (cwV 1 hts (gV tw_3_118 tw_3_119 tw_3_120 tw_1_2 tw_3_121) rfl rfl rfl (by decide +kernel) ⟨Nat.le_of_ble_eq_true rfl, Nat.le_of_ble_eq_true rfl⟩) hC hS (ow_in (hAS _ (by omega)) (hAS _ (by omega)) hA hS.1) ow_n ((hW.line (i := 12) (by omega)).recv hK) (by have h := hW.line (i := 12) (by omega); rw [updT_s] at h; exact h) rfl rfl hl.1 (Nat.le_of_ble_eq_true rfl) ⟨Nat.le_trans (show (0 + 1) ≤ 2 by omega) (Nat.le_of_ble_eq_true rfl), Nat.le_trans (show (0 + 6) ≤ 12 by omega) (Nat.le_of_ble_eq_true rfl)⟩ dX2_great_30 (fun H19 L19 hP19 hk19 hS => ?_)
  have hZ19 := hS.1
  have hW := hW.put (q := 12) (t := (numL ((h9.toInt64 <<< ((nI 32).toInt64 &&& 63)) ||| (l9.toInt64 &&& 4294967295))).take 60) (by omega) hk19 hP19
  rw [updT_2] at hW
  have hO := hW.2.1
  have hR1 := hW.2.2.1
  have hR2 := hW.2.2.2.1
  refine lv_aload_n hx hb dX2_great_33 rfl (lv_at hl 1 rfl) ?_
  refine lv_aload hx hb dX2_great_34 (lv_at hl 0 rfl) ?_
  refine lv_iconst (v := nI 0) hx hb dX2_great_36 (by decide) ?_
  refine xI_V (A := A) (A1 := A) (b := (SA 0)) (As := [.ref (SA (7 + 2 * i)), .int (bI false)]) (rest := []) ⟨hx, hb, hml, hown, hts⟩ (mX2_addMade (A := A) hst (i := i) (b := false) hAS hi) (cwV 2 hts (gV tw_3_127 tw_3_129 sel_X2_addMade tw_1_1 tw_3_130) rfl rfl rfl (by decide +kernel) ⟨Nat.le_of_ble_eq_true rfl, Nat.le_of_ble_eq_true rfl⟩) hC hS (fun _ h => h) (fun q h => hA q (Nat.le_trans hS.1 h)) (hW.recv hK) hW rfl rfl hl.1 (Nat.le_of_ble_eq_true rfl) ⟨Nat.le_trans (show (0 + 1) + 1 ≤ 2 by omega) (Nat.le_of_ble_eq_true rfl), Nat.le_trans (show (0 + 6) + 6 ≤ 12 by omega) (Nat.le_of_ble_eq_true rfl)⟩ dX2_great_37 hnx hlocks (by omega) (by omega) (fun E H9 q _ => ⟨Or.inr ⟨q.1, i, hi, hxi, by have h := q.2.1; rw [updT_s, updT_n (show i ≠ 12 by omega), ei] at h; exact h⟩, _, _, q.2.2, (FR.s12 hF)⟩) (fun rv20 H20 L20 hP20 hk20 hS => ?_)
  have hZ20 := hS.1
  rw [updT_s, updT_n (show i ≠ 12 by omega), ei] at hP20
  exact vx_ret (q_i hx hb hr hlocks dX2_great_40 hS (by omega) (by omega) ⟨i, hi, hxi, hP20.2.1, hP20.1, _, _, hP20.2.2, (FR.up (FR.s13 (FR.s12 hF)))⟩)

abbrev rmX2_truth : Room := { frames := 9, cells := 2, slots := 12, locals := 154 }
theorem mX2_truth {l : Launch} {G : Cx} {A : Nat → Prop} (hst : l.stackTraces = false) {SA : Nat → Nat} {X : Nat → List Nat} {es : List Nat} {k : Int32} {x : Int32} {b b2 : Bool} (hAS : ∀ i : Nat, i < 39 → A (SA i)) : vx_Met l yX2_truth (.code yX2_truth cX2_truth 5 (some .int) :: GW) rmX2_truth (PC G A [.ref (SA 0), .int x, .int (bI b), .int (bI b2)] (SS G SA X es k)) (qI A (fun r H => ∃ i : Nat, i < 4 ∧ x = nI i ∧ (if b2 then stx (if b then 7 else 8) ++ X i else X i ++ stx (if b then 7 else 8)).length ≤ 60 ∧ r = nI (if b2 then stx (if b then 7 else 8) ++ X i else X i ++ stx (if b then 7 else 8)).length ∧ SS G SA (updT X i (if b2 then stx (if b then 7 else 8) ++ X i else X i ++ stx (if b then 7 else 8))) es k H)) (xE A (fun E H => ((E = "java/lang/IndexOutOfBoundsException" ∧ NT x) ∨ (E = "java/lang/IllegalStateException" ∧ ∃ i : Nat, i < 4 ∧ x = nI i ∧ 60 < (if b2 then stx (if b then 7 else 8) ++ X i else X i ++ stx (if b then 7 else 8)).length)) ∧ SS G SA X es k H)) 2 12 A := by
  refine mstartX "Signtext" (by decide +kernel) rfl (Nat.le_of_ble_eq_true rfl) ?_
  intro p e s m below meth c ls hx hb hr hts hown hml hlocks hnx hC hA hW hl
  have hl : lv_has ls 5 [(0, .ref (SA 0)), (1, .int x), (2, .int (bI b)), (3, .int (bI b2))] := hl
  have hK := hC.1
  have hS : va_S A s.heap s.heap [] := va_S.rf
  obtain ⟨T, es2, hW, hF⟩ := hW
  have hO := hW.2.1
  have hR1 := hW.2.2.1
  have hR2 := hW.2.2.2.1
  refine lv_aload_n hx hb dX2_truth_0 rfl (lv_at hl 0 rfl) ?_
  refine lv_iload_n hx hb dX2_truth_1 rfl (lv_at hl 1 rfl) ?_
  refine xR_V (A := A) (A1 := A) (b := (SA 0)) (As := [.int x]) (rest := []) ⟨hx, hb, hml, hown, hts⟩ (mX2_textOf (A := A) hst ) (cwV 1 hts (gV tw_3_4 tw_3_6 sel_X2_textOf tw_1_1 tw_3_7) rfl rfl rfl (by decide +kernel) ⟨Nat.le_of_ble_eq_true rfl, Nat.le_of_ble_eq_true rfl⟩) hC hS (fun _ h => h) (fun q h => hA q (Nat.le_trans hS.1 h)) (hW.recv hK) hW rfl rfl hl.1 (Nat.le_of_ble_eq_true rfl) ⟨Nat.le_trans (show 0 + 1 ≤ 2 by omega) (Nat.le_of_ble_eq_true rfl), Nat.le_trans (show 0 + 6 ≤ 12 by omega) (Nat.le_of_ble_eq_true rfl)⟩ dX2_truth_2 hnx hlocks (by omega) (by omega) (fun E H9 q _ => ⟨Or.inl ⟨q.1, q.2.1⟩, _, _, q.2.2, hF⟩) (fun rv21 H21 L21 hP21 hk21 hS => ?_)
  have hZ21 := hS.1
  obtain ⟨⟨i, hi, hxi, hrv⟩, hW⟩ := hP21
  subst hrv
  have hO := hW.2.1
  have hR1 := hW.2.2.1
  have hR2 := hW.2.2.2.1
  have ei := hF i (Or.inl hi)
  refine lv_astore (lv' := [(4, .ref (SA (7 + 2 * i))), (0, .ref (SA 0)), (1, .int x), (2, .int (bI b)), (3, .int (bI b2))]) hx hb dX2_truth_5 hl (by decide) rfl (fun ls hl => ?_)
  refine lv_aload_n hx hb dX2_truth_7 rfl (lv_at hl 1 rfl) ?_
  refine va_get (D := G.1) (ci := 6) (C := RX2) (T := TX2) (N := 8) hx hb hts inX2 hown hK (at_P hO) 0 rfl rfl 5 (by decide) (hts _ tw_1_142) (fun _ h9 => h9) rfl dX2_truth_8 ?_
  refine qV_V (A := A) (A1 := ow (SA (7 + 2 * 12)) (SA (8 + 2 * 12)) H21.size) (b := (SA 31)) (As := []) (rest := []) ⟨hx, hb, hml, hown, hts⟩ (mX0_empty (A := ow (SA (7 + 2 * 12)) (SA (8 + 2 * 12)) H21.size) (ca := SA (8 + 2 * 12)) (hAa := Or.inl rfl)) (cwV 0 hts (gV tw_2_31 tw_2_32 tw_2_33 tw_1_2 tw_2_34) rfl rfl rfl (by decide +kernel) ⟨Nat.le_of_ble_eq_true rfl, Nat.le_of_ble_eq_true rfl⟩) hC hS (ow_in (hAS _ (by omega)) (hAS _ (by omega)) hA hS.1) ow_n ((hW.line (i := 12) (by omega)).recv hK) (hW.line (i := 12) (by omega)) rfl rfl hl.1 (Nat.le_of_ble_eq_true rfl) ⟨Nat.le_trans (show (0 + 1) ≤ 2 by omega) (Nat.le_of_ble_eq_true rfl), Nat.le_trans (show (0 + 6) ≤ 12 by omega) (Nat.le_of_ble_eq_true rfl)⟩ dX2_truth_11 (fun H22 L22 hP22 hk22 hS => ?_)
  have hZ22 := hS.1
  have hW := hW.put (q := 12) (t := []) (by omega) hk22 hP22
  have hO := hW.2.1
  have hR1 := hW.2.2.1
  have hR2 := hW.2.2.2.1
  refine lv_aload_n hx hb dX2_truth_14 rfl (lv_at hl 1 rfl) ?_
  refine va_get (D := G.1) (ci := 6) (C := RX2) (T := TX2) (N := 8) hx hb hts inX2 hown hK (at_P hO) 0 rfl rfl 5 (by decide) (hts _ tw_1_142) (fun _ h9 => h9) rfl dX2_truth_15 ?_
  refine lv_iload_n hx hb dX2_truth_18 rfl (lv_at hl 3 rfl) ?_
  refine f_eq (tgt := 27) hx hb dX2_truth_19 (by decide) (fun c_23 => ?_) (fun c_23 => ?_)
  · subst c_23
    refine va_ldcS hx hb hown (hC.2.2.2.2.1 ("Signtext", 113, "false", 8) (by unfold sRl; simp)) dX2_truth_27 ?_
    refine qV_V (A := A) (A1 := ow (SA (7 + 2 * 12)) (SA (8 + 2 * 12)) H22.size) (b := (SA 31)) (As := [.ref (G.2.2 (20 + 8))]) (rest := []) ⟨hx, hb, hml, hown, hts⟩ (mX0_addWord (A := ow (SA (7 + 2 * 12)) (SA (8 + 2 * 12)) H22.size) (ca := SA (8 + 2 * 12)) (t := []) (i := 8) (by decide) (Or.inl rfl) (Or.inr (Or.inl rfl))) (cwV 1 hts (gV tw_1_81 tw_1_82 tw_1_83 tw_1_2 tw_1_84) rfl rfl rfl (by decide +kernel) ⟨Nat.le_of_ble_eq_true rfl, Nat.le_of_ble_eq_true rfl⟩) hC hS (ow_in (hAS _ (by omega)) (hAS _ (by omega)) hA hS.1) ow_n ((hW.line (i := 12) (by omega)).recv hK) (by have h := hW.line (i := 12) (by omega); rw [updT_s] at h; exact h) rfl rfl hl.1 (Nat.le_of_ble_eq_true rfl) ⟨Nat.le_trans (show (0 + 1) ≤ 2 by omega) (Nat.le_of_ble_eq_true rfl), Nat.le_trans (show (0 + 6) ≤ 12 by omega) (Nat.le_of_ble_eq_true rfl)⟩ dX2_truth_29 (fun H24 L24 hP24 hk24 hS => ?_)
    have hZ24 := hS.1
    have hW := hW.put (q := 12) (t := stx 8) (by omega) hk24 hP24
    rw [updT_2] at hW
    have hO := hW.2.1
    have hR1 := hW.2.2.1
    have hR2 := hW.2.2.2.1
    refine lv_aload_n hx hb dX2_truth_32 rfl (lv_at hl 1 rfl) ?_
    refine lv_aload hx hb dX2_truth_33 (lv_at hl 0 rfl) ?_
    refine lv_iload_n hx hb dX2_truth_35 rfl (lv_at hl 4 rfl) ?_
    refine xI_V (A := A) (A1 := A) (b := (SA 0)) (As := [.ref (SA (7 + 2 * i)), .int (bI b2)]) (rest := []) ⟨hx, hb, hml, hown, hts⟩ (mX2_addMade (A := A) hst (i := i) (b := b2) hAS hi) (cwV 2 hts (gV tw_3_127 tw_3_129 sel_X2_addMade tw_1_1 tw_3_130) rfl rfl rfl (by decide +kernel) ⟨Nat.le_of_ble_eq_true rfl, Nat.le_of_ble_eq_true rfl⟩) hC hS (fun _ h => h) (fun q h => hA q (Nat.le_trans hS.1 h)) (hW.recv hK) hW rfl rfl hl.1 (Nat.le_of_ble_eq_true rfl) ⟨Nat.le_trans (show (0 + 1) + 1 ≤ 2 by omega) (Nat.le_of_ble_eq_true rfl), Nat.le_trans (show (0 + 6) + 6 ≤ 12 by omega) (Nat.le_of_ble_eq_true rfl)⟩ dX2_truth_36 hnx hlocks (by omega) (by omega) (fun E H9 q _ => ⟨Or.inr ⟨q.1, i, hi, hxi, by have h := q.2.1; rw [updT_s, updT_n (show i ≠ 12 by omega), ei] at h; exact h⟩, _, _, q.2.2, (FR.s12 hF)⟩) (fun rv25 H25 L25 hP25 hk25 hS => ?_)
    have hZ25 := hS.1
    rw [updT_s, updT_n (show i ≠ 12 by omega), ei] at hP25
    exact vx_ret (q_i hx hb hr hlocks dX2_truth_39 hS (by omega) (by omega) ⟨i, hi, hxi, hP25.2.1, hP25.1, _, _, hP25.2.2, (FR.up (FR.s13 (FR.s12 hF)))⟩)
  · subst c_23
    refine va_ldcS hx hb hown (hC.2.2.2.2.1 ("Signtext", 111, "true", 7) (by unfold sRl; simp)) dX2_truth_22 ?_
    refine lv_goto (tgt := 29) hx hb dX2_truth_24 (by decide) ?_
    refine qV_V (A := A) (A1 := ow (SA (7 + 2 * 12)) (SA (8 + 2 * 12)) H22.size) (b := (SA 31)) (As := [.ref (G.2.2 (20 + 7))]) (rest := []) ⟨hx, hb, hml, hown, hts⟩ (mX0_addWord (A := ow (SA (7 + 2 * 12)) (SA (8 + 2 * 12)) H22.size) (ca := SA (8 + 2 * 12)) (t := []) (i := 7) (by decide) (Or.inl rfl) (Or.inr (Or.inl rfl))) (cwV 1 hts (gV tw_1_81 tw_1_82 tw_1_83 tw_1_2 tw_1_84) rfl rfl rfl (by decide +kernel) ⟨Nat.le_of_ble_eq_true rfl, Nat.le_of_ble_eq_true rfl⟩) hC hS (ow_in (hAS _ (by omega)) (hAS _ (by omega)) hA hS.1) ow_n ((hW.line (i := 12) (by omega)).recv hK) (by have h := hW.line (i := 12) (by omega); rw [updT_s] at h; exact h) rfl rfl hl.1 (Nat.le_of_ble_eq_true rfl) ⟨Nat.le_trans (show (0 + 1) ≤ 2 by omega) (Nat.le_of_ble_eq_true rfl), Nat.le_trans (show (0 + 6) ≤ 12 by omega) (Nat.le_of_ble_eq_true rfl)⟩ dX2_truth_29 (fun H26 L26 hP26 hk26 hS => ?_)
    have hZ26 := hS.1
    have hW := hW.put (q := 12) (t := stx 7) (by omega) hk26 hP26
    rw [updT_2] at hW
    have hO := hW.2.1
    have hR1 := hW.2.2.1
    have hR2 := hW.2.2.2.1
    refine lv_aload_n hx hb dX2_truth_32 rfl (lv_at hl 1 rfl) ?_
    refine lv_aload hx hb dX2_truth_33 (lv_at hl 0 rfl) ?_
    refine lv_iload_n hx hb dX2_truth_35 rfl (lv_at hl 4 rfl) ?_
    refine xI_V (A := A) (A1 := A) (b := (SA 0)) (As := [.ref (SA (7 + 2 * i)), .int (bI b2)]) (rest := []) ⟨hx, hb, hml, hown, hts⟩ (mX2_addMade (A := A) hst (i := i) (b := b2) hAS hi) (cwV 2 hts (gV tw_3_127 tw_3_129 sel_X2_addMade tw_1_1 tw_3_130) rfl rfl rfl (by decide +kernel) ⟨Nat.le_of_ble_eq_true rfl, Nat.le_of_ble_eq_true rfl⟩) hC hS (fun _ h => h) (fun q h => hA q (Nat.le_trans hS.1 h)) (hW.recv hK) hW rfl rfl hl.1 (Nat.le_of_ble_eq_true rfl) ⟨Nat.le_trans (show (0 + 1) + 1 ≤ 2 by omega) (Nat.le_of_ble_eq_true rfl), Nat.le_trans (show (0 + 6) + 6 ≤ 12 by omega) (Nat.le_of_ble_eq_true rfl)⟩ dX2_truth_36 hnx hlocks (by omega) (by omega) (fun E H9 q _ => ⟨Or.inr ⟨q.1, i, hi, hxi, by have h := q.2.1; rw [updT_s, updT_n (show i ≠ 12 by omega), ei] at h; exact h⟩, _, _, q.2.2, (FR.s12 hF)⟩) (fun rv27 H27 L27 hP27 hk27 hS => ?_)
    have hZ27 := hS.1
    rw [updT_s, updT_n (show i ≠ 12 by omega), ei] at hP27
    exact vx_ret (q_i hx hb hr hlocks dX2_truth_39 hS (by omega) (by omega) ⟨i, hi, hxi, hP27.2.1, hP27.1, _, _, hP27.2.2, (FR.up (FR.s13 (FR.s12 hF)))⟩)

abbrev rmX2_put : Room := { frames := 8, cells := 7, slots := 42, locals := 132 }
theorem mX2_put {l : Launch} {G : Cx} {A : Nat → Prop} (hst : l.stackTraces = false) {SA : Nat → Nat} {X : Nat → List Nat} {es : List Nat} {k : Int32} {x a9 b9 c9 d9 e9 : Int32} (hAS : ∀ i : Nat, i < 39 → A (SA i)) : vx_Met l yX2_put (.code yX2_put cX2_put 8 (some .int) :: GW) rmX2_put (PC G A [.ref (SA 0), .int x, .int a9, .int b9, .int c9, .int d9, .int e9] (SS G SA X es k)) (qI A (fun r H => ∃ (i : Nat) (w : List Nat), i < 4 ∧ x = nI i ∧ comeS a9 b9 c9 d9 e9 w ∧ (X i ++ w).length ≤ 60 ∧ r = nI (X i ++ w).length ∧ SS G SA (updT X i (X i ++ w)) es k H)) (xE A (fun E H => ((E = "java/lang/IndexOutOfBoundsException" ∧ NT x) ∨ (E = "java/lang/IllegalArgumentException" ∧ (∃ i : Nat, i < 4 ∧ x = nI i) ∧ (badS a9 ∨ badS b9 ∨ badS c9 ∨ badS d9 ∨ badS e9)) ∨ (E = "java/lang/IllegalStateException" ∧ ∃ (i : Nat) (w : List Nat), i < 4 ∧ x = nI i ∧ comeS a9 b9 c9 d9 e9 w ∧ 60 < (X i ++ w).length)) ∧ SS G SA X es k H)) 7 42 A := by
  refine mstartX "Signtext" (by decide +kernel) rfl (Nat.le_of_ble_eq_true rfl) ?_
  intro p e s m below meth c ls hx hb hr hts hown hml hlocks hnx hC hA hW hl
  have hl : lv_has ls 8 [(0, .ref (SA 0)), (1, .int x), (2, .int a9), (3, .int b9), (4, .int c9), (5, .int d9), (6, .int e9)] := hl
  have hK := hC.1
  have hS : va_S A s.heap s.heap [] := va_S.rf
  obtain ⟨T, es2, hW, hF⟩ := hW
  have hO := hW.2.1
  have hR1 := hW.2.2.1
  have hR2 := hW.2.2.2.1
  refine lv_aload_n hx hb dX2_put_0 rfl (lv_at hl 0 rfl) ?_
  refine lv_iload_n hx hb dX2_put_1 rfl (lv_at hl 1 rfl) ?_
  refine xR_V (A := A) (A1 := A) (b := (SA 0)) (As := [.int x]) (rest := []) ⟨hx, hb, hml, hown, hts⟩ (mX2_textOf (A := A) hst ) (cwV 1 hts (gV tw_3_4 tw_3_6 sel_X2_textOf tw_1_1 tw_3_7) rfl rfl rfl (by decide +kernel) ⟨Nat.le_of_ble_eq_true rfl, Nat.le_of_ble_eq_true rfl⟩) hC hS (fun _ h => h) (fun q h => hA q (Nat.le_trans hS.1 h)) (hW.recv hK) hW rfl rfl hl.1 (Nat.le_of_ble_eq_true rfl) ⟨Nat.le_trans (show 0 + 1 ≤ 7 by omega) (Nat.le_of_ble_eq_true rfl), Nat.le_trans (show 0 + 6 ≤ 42 by omega) (Nat.le_of_ble_eq_true rfl)⟩ dX2_put_2 hnx hlocks (by omega) (by omega) (fun E H9 q _ => ⟨Or.inl ⟨q.1, q.2.1⟩, _, _, q.2.2, hF⟩) (fun rv28 H28 L28 hP28 hk28 hS => ?_)
  have hZ28 := hS.1
  obtain ⟨⟨i, hi, hxi, hrv⟩, hW⟩ := hP28
  subst hrv
  have hO := hW.2.1
  have hR1 := hW.2.2.1
  have hR2 := hW.2.2.2.1
  have ei := hF i (Or.inl hi)
  refine lv_astore (lv' := [(7, .ref (SA (7 + 2 * i))), (0, .ref (SA 0)), (1, .int x), (2, .int a9), (3, .int b9), (4, .int c9), (5, .int d9), (6, .int e9)]) hx hb dX2_put_5 hl (by decide) rfl (fun ls hl => ?_)
  refine lv_aload_n hx hb dX2_put_7 rfl (lv_at hl 1 rfl) ?_
  refine va_get (D := G.1) (ci := 6) (C := RX2) (T := TX2) (N := 8) hx hb hts inX2 hown hK (at_P hO) 0 rfl rfl 5 (by decide) (hts _ tw_1_142) (fun _ h9 => h9) rfl dX2_put_8 ?_
  refine qV_V (A := A) (A1 := ow (SA (7 + 2 * 12)) (SA (8 + 2 * 12)) H28.size) (b := (SA 31)) (As := []) (rest := []) ⟨hx, hb, hml, hown, hts⟩ (mX0_empty (A := ow (SA (7 + 2 * 12)) (SA (8 + 2 * 12)) H28.size) (ca := SA (8 + 2 * 12)) (hAa := Or.inl rfl)) (cwV 0 hts (gV tw_2_31 tw_2_32 tw_2_33 tw_1_2 tw_2_34) rfl rfl rfl (by decide +kernel) ⟨Nat.le_of_ble_eq_true rfl, Nat.le_of_ble_eq_true rfl⟩) hC hS (ow_in (hAS _ (by omega)) (hAS _ (by omega)) hA hS.1) ow_n ((hW.line (i := 12) (by omega)).recv hK) (hW.line (i := 12) (by omega)) rfl rfl hl.1 (Nat.le_of_ble_eq_true rfl) ⟨Nat.le_trans (show (0 + 1) ≤ 7 by omega) (Nat.le_of_ble_eq_true rfl), Nat.le_trans (show (0 + 6) ≤ 42 by omega) (Nat.le_of_ble_eq_true rfl)⟩ dX2_put_11 (fun H29 L29 hP29 hk29 hS => ?_)
  have hZ29 := hS.1
  have hW := hW.put (q := 12) (t := []) (by omega) hk29 hP29
  have hO := hW.2.1
  have hR1 := hW.2.2.1
  have hR2 := hW.2.2.2.1
  refine lv_aload_n hx hb dX2_put_14 rfl (lv_at hl 1 rfl) ?_
  refine lv_iload_n hx hb dX2_put_15 rfl (lv_at hl 3 rfl) ?_
  refine xV_V (A := A) (A1 := A) (b := (SA 0)) (As := [.int a9]) (rest := []) ⟨hx, hb, hml, hown, hts⟩ (mX2_addSignOrNone (A := A) hst hAS) (cwV 1 hts (gV tw_3_23 tw_3_25 sel_X2_addSignOrNone tw_1_1 tw_3_26) rfl rfl rfl (by decide +kernel) ⟨Nat.le_of_ble_eq_true rfl, Nat.le_of_ble_eq_true rfl⟩) hC hS (fun _ h => h) (fun q h => hA q (Nat.le_trans hS.1 h)) (hW.recv hK) hW rfl rfl hl.1 (Nat.le_of_ble_eq_true rfl) ⟨Nat.le_trans (show (0 + 1) + 1 ≤ 7 by omega) (Nat.le_of_ble_eq_true rfl), Nat.le_trans (show (0 + 6) + 6 ≤ 42 by omega) (Nat.le_of_ble_eq_true rfl)⟩ dX2_put_16 hnx hlocks (by omega) (by omega) (fun E H9 q _ => ⟨Or.inr (Or.inl ⟨q.1, ⟨i, hi, hxi⟩, Or.inl ⟨q.2.1, q.2.2.1⟩⟩), _, _, q.2.2.2, (FR.s12 hF)⟩) (fun H30 L30 hP30 hk30 hS => ?_)
  have hZ30 := hS.1
  obtain ⟨w1, q1, hW⟩ := hP30
  rw [updT_s] at q1
  rw [updT_2] at hW
  have hO := hW.2.1
  have hR1 := hW.2.2.1
  have hR2 := hW.2.2.2.1
  refine lv_aload_n hx hb dX2_put_19 rfl (lv_at hl 1 rfl) ?_
  refine lv_iload_n hx hb dX2_put_20 rfl (lv_at hl 4 rfl) ?_
  refine xV_V (A := A) (A1 := A) (b := (SA 0)) (As := [.int b9]) (rest := []) ⟨hx, hb, hml, hown, hts⟩ (mX2_addSignOrNone (A := A) hst hAS) (cwV 1 hts (gV tw_3_23 tw_3_25 sel_X2_addSignOrNone tw_1_1 tw_3_26) rfl rfl rfl (by decide +kernel) ⟨Nat.le_of_ble_eq_true rfl, Nat.le_of_ble_eq_true rfl⟩) hC hS (fun _ h => h) (fun q h => hA q (Nat.le_trans hS.1 h)) (hW.recv hK) hW rfl rfl hl.1 (Nat.le_of_ble_eq_true rfl) ⟨Nat.le_trans (show ((0 + 1) + 1) + 1 ≤ 7 by omega) (Nat.le_of_ble_eq_true rfl), Nat.le_trans (show ((0 + 6) + 6) + 6 ≤ 42 by omega) (Nat.le_of_ble_eq_true rfl)⟩ dX2_put_21 hnx hlocks (by omega) (by omega) (fun E H9 q _ => ⟨Or.inr (Or.inl ⟨q.1, ⟨i, hi, hxi⟩, Or.inr (Or.inl ⟨q.2.1, q.2.2.1⟩)⟩), _, _, q.2.2.2, (FR.s12 hF)⟩) (fun H31 L31 hP31 hk31 hS => ?_)
  have hZ31 := hS.1
  obtain ⟨w2, q2, hW⟩ := hP31
  rw [updT_s] at q2
  rw [updT_2] at hW
  have hO := hW.2.1
  have hR1 := hW.2.2.1
  have hR2 := hW.2.2.2.1
  refine lv_aload_n hx hb dX2_put_24 rfl (lv_at hl 1 rfl) ?_
  refine lv_iload hx hb dX2_put_25 (lv_at hl 5 rfl) ?_
  refine xV_V (A := A) (A1 := A) (b := (SA 0)) (As := [.int c9]) (rest := []) ⟨hx, hb, hml, hown, hts⟩ (mX2_addSignOrNone (A := A) hst hAS) (cwV 1 hts (gV tw_3_23 tw_3_25 sel_X2_addSignOrNone tw_1_1 tw_3_26) rfl rfl rfl (by decide +kernel) ⟨Nat.le_of_ble_eq_true rfl, Nat.le_of_ble_eq_true rfl⟩) hC hS (fun _ h => h) (fun q h => hA q (Nat.le_trans hS.1 h)) (hW.recv hK) hW rfl rfl hl.1 (Nat.le_of_ble_eq_true rfl) ⟨Nat.le_trans (show (((0 + 1) + 1) + 1) + 1 ≤ 7 by omega) (Nat.le_of_ble_eq_true rfl), Nat.le_trans (show (((0 + 6) + 6) + 6) + 6 ≤ 42 by omega) (Nat.le_of_ble_eq_true rfl)⟩ dX2_put_27 hnx hlocks (by omega) (by omega) (fun E H9 q _ => ⟨Or.inr (Or.inl ⟨q.1, ⟨i, hi, hxi⟩, Or.inr (Or.inr (Or.inl ⟨q.2.1, q.2.2.1⟩))⟩), _, _, q.2.2.2, (FR.s12 hF)⟩) (fun H32 L32 hP32 hk32 hS => ?_)
  have hZ32 := hS.1
  obtain ⟨w3, q3, hW⟩ := hP32
  rw [updT_s] at q3
  rw [updT_2] at hW
  have hO := hW.2.1
  have hR1 := hW.2.2.1
  have hR2 := hW.2.2.2.1
  refine lv_aload_n hx hb dX2_put_30 rfl (lv_at hl 1 rfl) ?_
  refine lv_iload hx hb dX2_put_31 (lv_at hl 6 rfl) ?_
  refine xV_V (A := A) (A1 := A) (b := (SA 0)) (As := [.int d9]) (rest := []) ⟨hx, hb, hml, hown, hts⟩ (mX2_addSignOrNone (A := A) hst hAS) (cwV 1 hts (gV tw_3_23 tw_3_25 sel_X2_addSignOrNone tw_1_1 tw_3_26) rfl rfl rfl (by decide +kernel) ⟨Nat.le_of_ble_eq_true rfl, Nat.le_of_ble_eq_true rfl⟩) hC hS (fun _ h => h) (fun q h => hA q (Nat.le_trans hS.1 h)) (hW.recv hK) hW rfl rfl hl.1 (Nat.le_of_ble_eq_true rfl) ⟨Nat.le_trans (show ((((0 + 1) + 1) + 1) + 1) + 1 ≤ 7 by omega) (Nat.le_of_ble_eq_true rfl), Nat.le_trans (show ((((0 + 6) + 6) + 6) + 6) + 6 ≤ 42 by omega) (Nat.le_of_ble_eq_true rfl)⟩ dX2_put_33 hnx hlocks (by omega) (by omega) (fun E H9 q _ => ⟨Or.inr (Or.inl ⟨q.1, ⟨i, hi, hxi⟩, Or.inr (Or.inr (Or.inr (Or.inl ⟨q.2.1, q.2.2.1⟩)))⟩), _, _, q.2.2.2, (FR.s12 hF)⟩) (fun H33 L33 hP33 hk33 hS => ?_)
  have hZ33 := hS.1
  obtain ⟨w4, q4, hW⟩ := hP33
  rw [updT_s] at q4
  rw [updT_2] at hW
  have hO := hW.2.1
  have hR1 := hW.2.2.1
  have hR2 := hW.2.2.2.1
  refine lv_aload_n hx hb dX2_put_36 rfl (lv_at hl 1 rfl) ?_
  refine lv_iload hx hb dX2_put_37 (lv_at hl 7 rfl) ?_
  refine xV_V (A := A) (A1 := A) (b := (SA 0)) (As := [.int e9]) (rest := []) ⟨hx, hb, hml, hown, hts⟩ (mX2_addSignOrNone (A := A) hst hAS) (cwV 1 hts (gV tw_3_23 tw_3_25 sel_X2_addSignOrNone tw_1_1 tw_3_26) rfl rfl rfl (by decide +kernel) ⟨Nat.le_of_ble_eq_true rfl, Nat.le_of_ble_eq_true rfl⟩) hC hS (fun _ h => h) (fun q h => hA q (Nat.le_trans hS.1 h)) (hW.recv hK) hW rfl rfl hl.1 (Nat.le_of_ble_eq_true rfl) ⟨Nat.le_trans (show (((((0 + 1) + 1) + 1) + 1) + 1) + 1 ≤ 7 by omega) (Nat.le_of_ble_eq_true rfl), Nat.le_trans (show (((((0 + 6) + 6) + 6) + 6) + 6) + 6 ≤ 42 by omega) (Nat.le_of_ble_eq_true rfl)⟩ dX2_put_39 hnx hlocks (by omega) (by omega) (fun E H9 q _ => ⟨Or.inr (Or.inl ⟨q.1, ⟨i, hi, hxi⟩, Or.inr (Or.inr (Or.inr (Or.inr (⟨q.2.1, q.2.2.1⟩))))⟩), _, _, q.2.2.2, (FR.s12 hF)⟩) (fun H34 L34 hP34 hk34 hS => ?_)
  have hZ34 := hS.1
  obtain ⟨w5, q5, hW⟩ := hP34
  rw [updT_s] at q5
  rw [updT_2] at hW
  have hO := hW.2.1
  have hR1 := hW.2.2.1
  have hR2 := hW.2.2.2.1
  refine lv_aload_n hx hb dX2_put_42 rfl (lv_at hl 1 rfl) ?_
  refine lv_aload hx hb dX2_put_43 (lv_at hl 0 rfl) ?_
  refine lv_aload_n hx hb dX2_put_45 rfl (lv_at hl 1 rfl) ?_
  refine va_get (D := G.1) (ci := 6) (C := RX2) (T := TX2) (N := 8) hx hb hts inX2 hown hK (at_P hO) 0 rfl rfl 5 (by decide) (hts _ tw_1_142) (fun _ h9 => h9) rfl dX2_put_46 ?_
  refine lv_aload hx hb dX2_put_49 (lv_at hl 0 rfl) ?_
  refine xI_V (A := A) (A1 := A) (b := (SA 0)) (As := [.ref (SA (7 + 2 * i)), .ref (SA 31), .ref (SA (7 + 2 * i))]) (rest := []) ⟨hx, hb, hml, hown, hts⟩ (mX2_joinInto (A := A) hst (i := i) (j := 12) (q := i) hAS (by omega) (by omega) (by omega) (by omega) (by omega)) (cwV 3 hts (gV tw_3_32 tw_3_34 sel_X2_joinInto tw_1_1 tw_3_35) rfl rfl rfl (by decide +kernel) ⟨Nat.le_of_ble_eq_true rfl, Nat.le_of_ble_eq_true rfl⟩) hC hS (fun _ h => h) (fun q h => hA q (Nat.le_trans hS.1 h)) (hW.recv hK) hW rfl rfl hl.1 (Nat.le_of_ble_eq_true rfl) ⟨Nat.le_trans (show ((((((0 + 1) + 1) + 1) + 1) + 1) + 1) + 1 ≤ 7 by omega) (Nat.le_of_ble_eq_true rfl), Nat.le_trans (show ((((((0 + 6) + 6) + 6) + 6) + 6) + 6) + 6 ≤ 42 by omega) (Nat.le_of_ble_eq_true rfl)⟩ dX2_put_51 hnx hlocks (by omega) (by omega) (fun E H9 q _ => ⟨Or.inr (Or.inr ⟨q.1, i, w5, hi, hxi, ⟨w1, w2, w3, w4, q1, q2, q3, q4, q5⟩, by have h := q.2.1; rw [updT_s, updT_n (show i ≠ 12 by omega), ei] at h; exact h⟩), _, _, q.2.2, (FR.s12 hF)⟩) (fun rv35 H35 L35 hP35 hk35 hS => ?_)
  have hZ35 := hS.1
  rw [updT_s, updT_n (show i ≠ 12 by omega), ei] at hP35
  exact vx_ret (q_i hx hb hr hlocks dX2_put_54 hS (by omega) (by omega) ⟨i, w5, hi, hxi, ⟨w1, w2, w3, w4, q1, q2, q3, q4, q5⟩, hP35.2.1, hP35.1, _, _, hP35.2.2, (FR.up (FR.s13 (FR.s12 hF)))⟩)

abbrev rmX2_times : Room := { frames := 7, cells := 4, slots := 24, locals := 110 }
theorem mX2_times {l : Launch} {G : Cx} {A : Nat → Prop} (hst : l.stackTraces = false) {SA : Nat → Nat} {X : Nat → List Nat} {es : List Nat} {k : Int32} {x m9 y : Int32} (hAS : ∀ i : Nat, i < 39 → A (SA i)) : vx_Met l yX2_times (.code yX2_times cX2_times 7 (some .int) :: GW) rmX2_times (PC G A [.ref (SA 0), .int x, .int m9, .int y] (SS G SA X es k)) (qI A (fun r H => ∃ i j b8 : Nat, i < 4 ∧ x = nI i ∧ j < 4 ∧ y = nI j ∧ b8 ≤ 60 ∧ m9 = nI b8 ∧ (repL (X i) b8).length ≤ 60 ∧ r = nI (repL (X i) b8).length ∧ SS G SA (updT X j (repL (X i) b8)) es k H)) (xE A (fun E H => ((E = "java/lang/IndexOutOfBoundsException" ∧ (NT x ∨ NT y)) ∨ (E = "java/lang/IllegalArgumentException" ∧ (∃ i : Nat, i < 4 ∧ x = nI i) ∧ (∃ j : Nat, j < 4 ∧ y = nI j) ∧ ¬ ∃ b8 : Nat, b8 ≤ 60 ∧ m9 = nI b8) ∨ (E = "java/lang/IllegalStateException" ∧ ∃ i j b8 : Nat, i < 4 ∧ x = nI i ∧ j < 4 ∧ y = nI j ∧ b8 ≤ 60 ∧ m9 = nI b8 ∧ 60 < (repL (X i) b8).length)) ∧ SS G SA X es k H)) 4 24 A := by
  refine mstartX "Signtext" (by decide +kernel) rfl (Nat.le_of_ble_eq_true rfl) ?_
  intro p e s m below meth c ls hx hb hr hts hown hml hlocks hnx hC hA hW hl
  have hl : lv_has ls 7 [(0, .ref (SA 0)), (1, .int x), (2, .int m9), (3, .int y)] := hl
  have hK := hC.1
  have hS : va_S A s.heap s.heap [] := va_S.rf
  obtain ⟨T, es2, hW, hF⟩ := hW
  have hO := hW.2.1
  have hR1 := hW.2.2.1
  have hR2 := hW.2.2.2.1
  refine lv_aload_n hx hb dX2_times_0 rfl (lv_at hl 0 rfl) ?_
  refine lv_iload_n hx hb dX2_times_1 rfl (lv_at hl 1 rfl) ?_
  refine xR_V (A := A) (A1 := A) (b := (SA 0)) (As := [.int x]) (rest := []) ⟨hx, hb, hml, hown, hts⟩ (mX2_textOf (A := A) hst ) (cwV 1 hts (gV tw_3_4 tw_3_6 sel_X2_textOf tw_1_1 tw_3_7) rfl rfl rfl (by decide +kernel) ⟨Nat.le_of_ble_eq_true rfl, Nat.le_of_ble_eq_true rfl⟩) hC hS (fun _ h => h) (fun q h => hA q (Nat.le_trans hS.1 h)) (hW.recv hK) hW rfl rfl hl.1 (Nat.le_of_ble_eq_true rfl) ⟨Nat.le_trans (show 0 + 1 ≤ 4 by omega) (Nat.le_of_ble_eq_true rfl), Nat.le_trans (show 0 + 6 ≤ 24 by omega) (Nat.le_of_ble_eq_true rfl)⟩ dX2_times_2 hnx hlocks (by omega) (by omega) (fun E H9 q _ => ⟨Or.inl ⟨q.1, Or.inl q.2.1⟩, _, _, q.2.2, hF⟩) (fun rv36 H36 L36 hP36 hk36 hS => ?_)
  have hZ36 := hS.1
  obtain ⟨⟨i, hi, hxi, hrv⟩, hW⟩ := hP36
  subst hrv
  have hO := hW.2.1
  have hR1 := hW.2.2.1
  have hR2 := hW.2.2.2.1
  have ei := hF i (Or.inl hi)
  refine lv_astore (lv' := [(4, .ref (SA (7 + 2 * i))), (0, .ref (SA 0)), (1, .int x), (2, .int m9), (3, .int y)]) hx hb dX2_times_5 hl (by decide) rfl (fun ls hl => ?_)
  refine lv_aload_n hx hb dX2_times_7 rfl (lv_at hl 1 rfl) ?_
  refine lv_iload_n hx hb dX2_times_8 rfl (lv_at hl 4 rfl) ?_
  refine xR_V (A := A) (A1 := A) (b := (SA 0)) (As := [.int y]) (rest := []) ⟨hx, hb, hml, hown, hts⟩ (mX2_textOf (A := A) hst ) (cwV 1 hts (gV tw_3_4 tw_3_6 sel_X2_textOf tw_1_1 tw_3_7) rfl rfl rfl (by decide +kernel) ⟨Nat.le_of_ble_eq_true rfl, Nat.le_of_ble_eq_true rfl⟩) hC hS (fun _ h => h) (fun q h => hA q (Nat.le_trans hS.1 h)) (hW.recv hK) hW rfl rfl hl.1 (Nat.le_of_ble_eq_true rfl) ⟨Nat.le_trans (show (0 + 1) + 1 ≤ 4 by omega) (Nat.le_of_ble_eq_true rfl), Nat.le_trans (show (0 + 6) + 6 ≤ 24 by omega) (Nat.le_of_ble_eq_true rfl)⟩ dX2_times_9 hnx hlocks (by omega) (by omega) (fun E H9 q _ => ⟨Or.inl ⟨q.1, Or.inr q.2.1⟩, _, _, q.2.2, hF⟩) (fun rv37 H37 L37 hP37 hk37 hS => ?_)
  have hZ37 := hS.1
  obtain ⟨⟨j, hj, hxj, hrv⟩, hW⟩ := hP37
  subst hrv
  have hO := hW.2.1
  have hR1 := hW.2.2.1
  have hR2 := hW.2.2.2.1
  have ej := hF j (Or.inl hj)
  refine lv_astore (lv' := [(5, .ref (SA (7 + 2 * j))), (4, .ref (SA (7 + 2 * i))), (0, .ref (SA 0)), (1, .int x), (2, .int m9), (3, .int y)]) hx hb dX2_times_12 hl (by decide) rfl (fun ls hl => ?_)
  refine lv_iload_n hx hb dX2_times_14 rfl (lv_at hl 4 rfl) ?_
  have i60 := (hW.line (i := i) (by omega)).1
  refine lv_if_lt (tgt := 24) hx hb dX2_times_15 (by decide) (fun c_38 => ?_) (fun c_38 => ?_)
  · exact t_new (nL := 7) (cls := "java/lang/IllegalArgumentException") (ik := 81) (ic := 83) hx hb hst hown hts hC hS hl.1 hml (by decide +kernel) tw_2_136 tw_1_17 tA83 tB83 tG83 hnx hlocks (Nat.le_of_ble_eq_true rfl) (Nat.le_of_ble_eq_true rfl) (Nat.le_trans (show ((0 + 1) + 1) + 1 ≤ 4 by omega) (Nat.le_of_ble_eq_true rfl)) (Nat.le_trans (show ((0 + 6) + 6) + 6 ≤ 24 by omega) (Nat.le_of_ble_eq_true rfl)) (by omega) (by omega) dX2_times_24 dX2_times_27 dX2_times_28 dX2_times_31 (fun H9 hk9 => ⟨Or.inr (Or.inl ⟨rfl, ⟨i, hi, hxi⟩, ⟨j, hj, hxj⟩, (fun ⟨b0, w1, w2⟩ => by rw [w2] at c_38; exact nI_pos (by omega) c_38)⟩), _, _, hW.nw hk9, hF⟩)
  · obtain ⟨b9, hb31, rfl⟩ := nI_of c_38
    refine lv_iload_n hx hb dX2_times_18 rfl (lv_at hl 4 rfl) ?_
    refine lv_bipush (v := nI 60) hx hb dX2_times_19 (by decide) ?_
    refine b_le (tgt := 32) hx hb dX2_times_21 (by decide) (by omega) (by omega) (fun c_39 => ?_) (fun c_39 => ?_)
    · refine lv_aload hx hb dX2_times_32 (lv_at hl 1 rfl) ?_
      refine kV_i (A := A) (b := (SA (7 + 2 * i))) (As := []) (rest := []) ⟨hx, hb, hml, hown, hts⟩ (mX0_size (A := A) (ca := SA (8 + 2 * i))) (cwV 0 hts (gV tw_2_30 tw_2_12 tw_2_13 tw_1_2 tw_2_14) rfl rfl rfl (by decide +kernel) ⟨Nat.le_of_ble_eq_true rfl, Nat.le_of_ble_eq_true rfl⟩) hC hS hA ((hW.line (i := i) (by omega)).recv hK) (hW.line (i := i) (by omega)) rfl rfl hl.1 (Nat.le_of_ble_eq_true rfl) ⟨Nat.le_trans (show ((0 + 1) + 1) ≤ 4 by omega) (Nat.le_of_ble_eq_true rfl), Nat.le_trans (show ((0 + 6) + 6) ≤ 24 by omega) (Nat.le_of_ble_eq_true rfl)⟩ dX2_times_34 (fun r9 h9 => lv_cv h9 ?_)
      refine lv_iload_n hx hb dX2_times_37 rfl (lv_at hl 4 rfl) ?_
      refine lv_imul hx hb dX2_times_38 ?_
      refine lv_cv (pk_mul ((T i).length) b9) ?_
      have hbd : (T i).length * b9 ≤ 60 * 60 := Nat.mul_le_mul i60 (by omega)
      have hrl0 := repL_len (T i) b9
      refine lv_cv (show _ = nI (repL (T i) b9).length by rw [repL_len]) ?_
      refine xV_S (A := A) (A1 := A)  (As := [.int (nI ((repL (T i) b9).length))]) (rest := []) ⟨hx, hb, hml, hown, hts⟩ (mX2_needRoom (A := A) hst (n := (repL (T i) b9).length) (by omega)) (va_cwS 1 hts (gS tw_3_36 tw_3_37 tw_1_1 tw_3_38) rfl rfl rfl (by decide +kernel) ⟨Nat.le_of_ble_eq_true rfl, Nat.le_of_ble_eq_true rfl⟩) hC hS (fun _ h => h) (fun q h => hA q (Nat.le_trans hS.1 h))  hW rfl rfl hl.1 (Nat.le_of_ble_eq_true rfl) ⟨Nat.le_trans (show ((0 + 1) + 1) + 1 ≤ 4 by omega) (Nat.le_of_ble_eq_true rfl), Nat.le_trans (show ((0 + 6) + 6) + 6 ≤ 24 by omega) (Nat.le_of_ble_eq_true rfl)⟩ dX2_times_39 hnx hlocks (by omega) (by omega) (fun E H9 q _ => ⟨Or.inr (Or.inr ⟨q.1, i, j, b9, hi, hxi, hj, hxj, by omega, rfl, by rw [← ei]; exact q.2.1⟩), _, _, q.2.2, hF⟩) (fun H40 L40 hP40 hk40 hS => ?_)
      have hZ40 := hS.1
      obtain ⟨h60, hW⟩ := hP40
      have hO := hW.2.1
      have hR1 := hW.2.2.1
      have hR2 := hW.2.2.2.1
      refine lv_aload_n hx hb dX2_times_42 rfl (lv_at hl 2 rfl) ?_
      refine va_get (D := G.1) (ci := 6) (C := RX2) (T := TX2) (N := 8) hx hb hts inX2 hown hK (at_P hO) 0 rfl rfl 6 (by decide) (hts _ tw_1_143) (fun _ h9 => h9) rfl dX2_times_43 ?_
      refine qV_V (A := A) (A1 := ow (SA (7 + 2 * 13)) (SA (8 + 2 * 13)) H40.size) (b := (SA 33)) (As := []) (rest := []) ⟨hx, hb, hml, hown, hts⟩ (mX0_empty (A := ow (SA (7 + 2 * 13)) (SA (8 + 2 * 13)) H40.size) (ca := SA (8 + 2 * 13)) (hAa := Or.inl rfl)) (cwV 0 hts (gV tw_2_31 tw_2_32 tw_2_33 tw_1_2 tw_2_34) rfl rfl rfl (by decide +kernel) ⟨Nat.le_of_ble_eq_true rfl, Nat.le_of_ble_eq_true rfl⟩) hC hS (ow_in (hAS _ (by omega)) (hAS _ (by omega)) hA hS.1) ow_n ((hW.line (i := 13) (by omega)).recv hK) (hW.line (i := 13) (by omega)) rfl rfl hl.1 (Nat.le_of_ble_eq_true rfl) ⟨Nat.le_trans (show (((0 + 1) + 1) + 1) ≤ 4 by omega) (Nat.le_of_ble_eq_true rfl), Nat.le_trans (show (((0 + 6) + 6) + 6) ≤ 24 by omega) (Nat.le_of_ble_eq_true rfl)⟩ dX2_times_46 (fun H41 L41 hP41 hk41 hS => ?_)
      have hZ41 := hS.1
      have hW := hW.put (q := 13) (t := []) (by omega) hk41 hP41
      have hO := hW.2.1
      have hR1 := hW.2.2.1
      have hR2 := hW.2.2.2.1
      refine lv_iconst (v := nI 0) hx hb dX2_times_49 (by decide) ?_
      refine lv_istore (lv' := [(6, .int (nI 0)), (5, .ref (SA (7 + 2 * j))), (4, .ref (SA (7 + 2 * i))), (0, .ref (SA 0)), (1, .int x), (2, .int (nI b9)), (3, .int y)]) hx hb dX2_times_50 hl (by decide) rfl (fun ls hl => ?_)
      refine nloop (P := fun j9 => ∀ (ls : Array Slot) (H : Heap) (L : List Loc), lv_has ls 7 [(6, .int (nI j9)), (5, .ref (SA (7 + 2 * j))), (4, .ref (SA (7 + 2 * i))), (0, .ref (SA 0)), (1, .int x), (2, .int (nI b9)), (3, .int y)] → va_S A s.heap H L → SW G SA (updT T 13 (repL (T i) j9)) es es2 k H → W p l e rmX2_times s m [.ref (SA 0), .int x, .int (nI b9), .int y].toArray below meth c H L (((0 + 1) + 1) + 1) (((0 + 6) + 6) + 6) (vx_MQ below (qI A (fun r H => ∃ i j b8 : Nat, i < 4 ∧ x = nI i ∧ j < 4 ∧ y = nI j ∧ b8 ≤ 60 ∧ (nI b9) = nI b8 ∧ (repL (X i) b8).length ≤ 60 ∧ r = nI (repL (X i) b8).length ∧ SS G SA (updT X j (repL (X i) b8)) es k H)) (xE A (fun E H => ((E = "java/lang/IndexOutOfBoundsException" ∧ (NT x ∨ NT y)) ∨ (E = "java/lang/IllegalArgumentException" ∧ (∃ i : Nat, i < 4 ∧ x = nI i) ∧ (∃ j : Nat, j < 4 ∧ y = nI j) ∧ ¬ ∃ b8 : Nat, b8 ≤ 60 ∧ (nI b9) = nI b8) ∨ (E = "java/lang/IllegalStateException" ∧ ∃ i j b8 : Nat, i < 4 ∧ x = nI i ∧ j < 4 ∧ y = nI j ∧ b8 ≤ 60 ∧ (nI b9) = nI b8 ∧ 60 < (repL (X i) b8).length)) ∧ SS G SA X es k H)) [.ref (SA 0), .int x, .int (nI b9), .int y].toArray s 4 24 A) (F0 m 52 ls [])) b9 ?_ 0 (Nat.zero_le _) ls H41 L41 hl hS hW
      clear hl
      intro j9 hj9 ih ls H L hl
      clear hS hW hO hR1 hR2
      intro hS hW
      have hO := hW.2.1
      have hR1 := hW.2.2.1
      have hR2 := hW.2.2.2.1
      refine lv_iload hx hb dX2_times_52 (lv_at hl 0 rfl) ?_
      refine lv_iload_n hx hb dX2_times_54 rfl (lv_at hl 5 rfl) ?_
      have e9 : updT T 13 (repL (T i) j9) i = T i := updT_n (by omega)
      refine b_ge (tgt := 73) hx hb dX2_times_55 (by decide) (by omega) (by omega) (fun c_42 => ?_) (fun c_42 => ?_)
      · obtain rfl : j9 = b9 := by omega
        refine lv_aload hx hb dX2_times_73 (lv_at hl 1 rfl) ?_
        refine lv_aload_n hx hb dX2_times_75 rfl (lv_at hl 3 rfl) ?_
        refine va_get (D := G.1) (ci := 6) (C := RX2) (T := TX2) (N := 8) hx hb hts inX2 hown hK (at_P hO) 0 rfl rfl 6 (by decide) (hts _ tw_1_143) (fun _ h9 => h9) rfl dX2_times_76 ?_
        have e3 : updT T 13 (repL (T i) j9) j = T j := updT_n (by omega)
        refine qV_V (A := A) (A1 := ow (SA (7 + 2 * j)) (SA (8 + 2 * j)) H.size) (b := (SA (7 + 2 * j))) (As := [.ref (SA 33)]) (rest := []) ⟨hx, hb, hml, hown, hts⟩ (mX0_become (A := ow (SA (7 + 2 * j)) (SA (8 + 2 * j)) H.size) (ca := SA (8 + 2 * j)) (cb := SA (8 + 2 * 13)) (t := T j) (u := repL (T i) j9) (Or.inl rfl) (Or.inr (Or.inl rfl)) ⟨hW.ne (i := 7 + 2 * 13) (j := 7 + 2 * j) (by omega) (by omega) (by omega), hW.ne (i := 7 + 2 * 13) (j := 8 + 2 * j) (by omega) (by omega) (by omega), hW.ne (i := 8 + 2 * 13) (j := 7 + 2 * j) (by omega) (by omega) (by omega), hW.ne (i := 8 + 2 * 13) (j := 8 + 2 * j) (by omega) (by omega) (by omega)⟩) (cwV 1 hts (gV tw_2_3 tw_2_4 tw_2_5 tw_1_2 tw_2_6) rfl rfl rfl (by decide +kernel) ⟨Nat.le_of_ble_eq_true rfl, Nat.le_of_ble_eq_true rfl⟩) hC hS (ow_in (hAS _ (by omega)) (hAS _ (by omega)) hA hS.1) ow_n ((hW.line (i := j) (by omega)).recv hK) ⟨by rw [← e3]; exact hW.line (i := j) (by omega), by have h := hW.line (i := 13) (by omega); rw [updT_s] at h; exact h⟩ rfl rfl hl.1 (Nat.le_of_ble_eq_true rfl) ⟨Nat.le_trans (show (((0 + 1) + 1) + 1) ≤ 4 by omega) (Nat.le_of_ble_eq_true rfl), Nat.le_trans (show (((0 + 6) + 6) + 6) ≤ 24 by omega) (Nat.le_of_ble_eq_true rfl)⟩ dX2_times_79 (fun H43 L43 hP43 hk43 hS => ?_)
        have hZ43 := hS.1
        have hW := hW.put (q := j) (t := repL (T i) j9) (by omega) hk43 hP43.1
        refine lv_aload hx hb dX2_times_82 (lv_at hl 1 rfl) ?_
        have hLq := hW.line (i := j) (by omega)
        rw [updT_s] at hLq
        refine kV_i (A := A) (b := (SA (7 + 2 * j))) (As := []) (rest := []) ⟨hx, hb, hml, hown, hts⟩ (mX0_size (A := A) (ca := SA (8 + 2 * j))) (cwV 0 hts (gV tw_2_30 tw_2_12 tw_2_13 tw_1_2 tw_2_14) rfl rfl rfl (by decide +kernel) ⟨Nat.le_of_ble_eq_true rfl, Nat.le_of_ble_eq_true rfl⟩) hC hS hA (hLq.recv hK) hLq rfl rfl hl.1 (Nat.le_of_ble_eq_true rfl) ⟨Nat.le_trans (show (((0 + 1) + 1) + 1) ≤ 4 by omega) (Nat.le_of_ble_eq_true rfl), Nat.le_trans (show (((0 + 6) + 6) + 6) ≤ 24 by omega) (Nat.le_of_ble_eq_true rfl)⟩ dX2_times_84 (fun r9 h9 => lv_cv h9 ?_)
        rw [ei] at hW h60 ⊢
        exact vx_ret (q_i hx hb hr hlocks dX2_times_87 hS (by omega) (by omega) ⟨i, j, j9, hi, hxi, hj, hxj, by omega, rfl, h60, rfl, _, _, hW, (FR.up (FR.s13 hF))⟩)
      · refine lv_aload_n hx hb dX2_times_58 rfl (lv_at hl 3 rfl) ?_
        refine va_get (D := G.1) (ci := 6) (C := RX2) (T := TX2) (N := 8) hx hb hts inX2 hown hK (at_P hO) 0 rfl rfl 6 (by decide) (hts _ tw_1_143) (fun _ h9 => h9) rfl dX2_times_59 ?_
        refine lv_aload hx hb dX2_times_62 (lv_at hl 2 rfl) ?_
        have hrl : (repL (T i) (j9 + 1)).length ≤ 60 := by rw [repL_len]; rw [repL_len] at h60; exact Nat.le_trans (Nat.mul_le_mul (Nat.le_refl _) (by omega)) h60
        refine qV_V (A := A) (A1 := ow (SA (7 + 2 * 13)) (SA (8 + 2 * 13)) H.size) (b := (SA 33)) (As := [.ref (SA (7 + 2 * i))]) (rest := []) ⟨hx, hb, hml, hown, hts⟩ (mX0_addAll (A := ow (SA (7 + 2 * 13)) (SA (8 + 2 * 13)) H.size) (ca := SA (8 + 2 * 13)) (cb := SA (8 + 2 * i)) (t := repL (T i) j9) (u := T i) (Or.inl rfl) (Or.inr (Or.inl rfl)) ⟨hW.ne (i := 7 + 2 * i) (j := 7 + 2 * 13) (by omega) (by omega) (by omega), hW.ne (i := 7 + 2 * i) (j := 8 + 2 * 13) (by omega) (by omega) (by omega), hW.ne (i := 8 + 2 * i) (j := 7 + 2 * 13) (by omega) (by omega) (by omega), hW.ne (i := 8 + 2 * i) (j := 8 + 2 * 13) (by omega) (by omega) (by omega)⟩) (cwV 1 hts (gV tw_3_54 tw_3_55 tw_3_56 tw_1_2 tw_3_57) rfl rfl rfl (by decide +kernel) ⟨Nat.le_of_ble_eq_true rfl, Nat.le_of_ble_eq_true rfl⟩) hC hS (ow_in (hAS _ (by omega)) (hAS _ (by omega)) hA hS.1) ow_n ((hW.line (i := 13) (by omega)).recv hK) ⟨by have h := hW.line (i := 13) (by omega); rw [updT_s] at h; exact h, by rw [← e9]; exact hW.line (i := i) (by omega)⟩ rfl rfl hl.1 (Nat.le_of_ble_eq_true rfl) ⟨Nat.le_trans (show (((0 + 1) + 1) + 1) ≤ 4 by omega) (Nat.le_of_ble_eq_true rfl), Nat.le_trans (show (((0 + 6) + 6) + 6) ≤ 24 by omega) (Nat.le_of_ble_eq_true rfl)⟩ dX2_times_64 (fun H44 L44 hP44 hk44 hS => ?_)
        have hZ44 := hS.1
        have hW := hW.put (q := 13) (t := repL (T i) (j9 + 1)) (by omega) hk44 (by have h := hP44.1; rw [List.take_of_length_le (show (repL (T i) j9 ++ T i).length ≤ 60 from hrl)] at h; exact h)
        rw [updT_2] at hW
        refine lv_iinc (v := nI (j9 + 1)) (lv' := [(6, .int (nI (j9 + 1))), (5, .ref (SA (7 + 2 * j))), (4, .ref (SA (7 + 2 * i))), (0, .ref (SA 0)), (1, .int x), (2, .int (nI b9)), (3, .int y)]) hx hb dX2_times_67 hl (k := 0) rfl (nI_add j9 1) (by decide) rfl (fun ls hl => ?_)
        refine lv_goto (tgt := 52) hx hb dX2_times_70 (by decide) ?_
        exact ih (j9 + 1) (by omega) (by omega) ls H44 L44 (lv_sub hl [0, 1, 2, 3, 4, 5, 6] rfl) hS hW
    · exact t_new (nL := 7) (cls := "java/lang/IllegalArgumentException") (ik := 81) (ic := 83) hx hb hst hown hts hC hS hl.1 hml (by decide +kernel) tw_2_136 tw_1_17 tA83 tB83 tG83 hnx hlocks (Nat.le_of_ble_eq_true rfl) (Nat.le_of_ble_eq_true rfl) (Nat.le_trans (show ((0 + 1) + 1) + 1 ≤ 4 by omega) (Nat.le_of_ble_eq_true rfl)) (Nat.le_trans (show ((0 + 6) + 6) + 6 ≤ 24 by omega) (Nat.le_of_ble_eq_true rfl)) (by omega) (by omega) dX2_times_24 dX2_times_27 dX2_times_28 dX2_times_31 (fun H9 hk9 => ⟨Or.inr (Or.inl ⟨rfl, ⟨i, hi, hxi⟩, ⟨j, hj, hxj⟩, (fun ⟨b0, w1, w2⟩ => by have := (nI_eq (by omega) (by omega)).mp w2; omega)⟩), _, _, hW.nw hk9, hF⟩)
end
/-! 26.cls5 -/
section
/-! The class, 5: calls that ask -/
def sgI (x : Int32) : Int32 := if x < 0 then -1 else if x = 0 then 0 else 1
theorem dX2_length_0 : decode cX2_length 0 = .ok (.aload_n 0, 1) := by decide +kernel
theorem dX2_length_1 : decode cX2_length 1 = .ok (.iload_n 1, 1) := by decide +kernel
theorem dX2_length_2 : decode cX2_length 2 = .ok (.invokevirtual 51, 3) := by decide +kernel
theorem dX2_length_5 : decode cX2_length 5 = .ok (.invokevirtual 66, 3) := by decide +kernel
theorem dX2_length_8 : decode cX2_length 8 = .ok (.ireturn, 1) := by decide +kernel
theorem dX2_at_0 : decode cX2_at 0 = .ok (.aload_n 0, 1) := by decide +kernel
theorem dX2_at_1 : decode cX2_at 1 = .ok (.iload_n 1, 1) := by decide +kernel
theorem dX2_at_2 : decode cX2_at 2 = .ok (.invokevirtual 51, 3) := by decide +kernel
theorem dX2_at_5 : decode cX2_at 5 = .ok (.astore_n 3, 1) := by decide +kernel
theorem dX2_at_6 : decode cX2_at 6 = .ok (.aload_n 3, 1) := by decide +kernel
theorem dX2_at_7 : decode cX2_at 7 = .ok (.iload_n 2, 1) := by decide +kernel
theorem dX2_at_8 : decode cX2_at 8 = .ok (.invokestatic 125, 3) := by decide +kernel
theorem dX2_at_11 : decode cX2_at 11 = .ok (.aload_n 3, 1) := by decide +kernel
theorem dX2_at_12 : decode cX2_at 12 = .ok (.iload_n 2, 1) := by decide +kernel
theorem dX2_at_13 : decode cX2_at 13 = .ok (.invokevirtual 128, 3) := by decide +kernel
theorem dX2_at_16 : decode cX2_at 16 = .ok (.ireturn, 1) := by decide +kernel
theorem dX2_isEmpty_0 : decode cX2_isEmpty 0 = .ok (.aload_n 0, 1) := by decide +kernel
theorem dX2_isEmpty_1 : decode cX2_isEmpty 1 = .ok (.iload_n 1, 1) := by decide +kernel
theorem dX2_isEmpty_2 : decode cX2_isEmpty 2 = .ok (.invokevirtual 51, 3) := by decide +kernel
theorem dX2_isEmpty_5 : decode cX2_isEmpty 5 = .ok (.invokevirtual 66, 3) := by decide +kernel
theorem dX2_isEmpty_8 : decode cX2_isEmpty 8 = .ok (.ifCond .ne 7, 3) := by decide +kernel
theorem dX2_isEmpty_11 : decode cX2_isEmpty 11 = .ok (.iconst 1, 1) := by decide +kernel
theorem dX2_isEmpty_12 : decode cX2_isEmpty 12 = .ok (.goto 4, 3) := by decide +kernel
theorem dX2_isEmpty_15 : decode cX2_isEmpty 15 = .ok (.iconst 0, 1) := by decide +kernel
theorem dX2_isEmpty_16 : decode cX2_isEmpty 16 = .ok (.ireturn, 1) := by decide +kernel
theorem dX2_isBlank_0 : decode cX2_isBlank 0 = .ok (.aload_n 0, 1) := by decide +kernel
theorem dX2_isBlank_1 : decode cX2_isBlank 1 = .ok (.iload_n 1, 1) := by decide +kernel
theorem dX2_isBlank_2 : decode cX2_isBlank 2 = .ok (.invokevirtual 51, 3) := by decide +kernel
theorem dX2_isBlank_5 : decode cX2_isBlank 5 = .ok (.invokevirtual 150, 3) := by decide +kernel
theorem dX2_isBlank_8 : decode cX2_isBlank 8 = .ok (.ireturn, 1) := by decide +kernel
theorem dX2_hash_0 : decode cX2_hash 0 = .ok (.aload_n 0, 1) := by decide +kernel
theorem dX2_hash_1 : decode cX2_hash 1 = .ok (.iload_n 1, 1) := by decide +kernel
theorem dX2_hash_2 : decode cX2_hash 2 = .ok (.invokevirtual 51, 3) := by decide +kernel
theorem dX2_hash_5 : decode cX2_hash 5 = .ok (.invokevirtual 154, 3) := by decide +kernel
theorem dX2_hash_8 : decode cX2_hash 8 = .ok (.ireturn, 1) := by decide +kernel
theorem dX2_first_0 : decode cX2_first 0 = .ok (.aload_n 0, 1) := by decide +kernel
theorem dX2_first_1 : decode cX2_first 1 = .ok (.iload_n 1, 1) := by decide +kernel
theorem dX2_first_2 : decode cX2_first 2 = .ok (.invokevirtual 51, 3) := by decide +kernel
theorem dX2_first_5 : decode cX2_first 5 = .ok (.astore_n 3, 1) := by decide +kernel
theorem dX2_first_6 : decode cX2_first 6 = .ok (.aload_n 3, 1) := by decide +kernel
theorem dX2_first_7 : decode cX2_first 7 = .ok (.iload_n 2, 1) := by decide +kernel
theorem dX2_first_8 : decode cX2_first 8 = .ok (.invokestatic 115, 3) := by decide +kernel
theorem dX2_first_11 : decode cX2_first 11 = .ok (.iconst 0, 1) := by decide +kernel
theorem dX2_first_12 : decode cX2_first 12 = .ok (.invokevirtual 157, 3) := by decide +kernel
theorem dX2_first_15 : decode cX2_first 15 = .ok (.ireturn, 1) := by decide +kernel
theorem dX2_last_0 : decode cX2_last 0 = .ok (.aload_n 0, 1) := by decide +kernel
theorem dX2_last_1 : decode cX2_last 1 = .ok (.iload_n 1, 1) := by decide +kernel
theorem dX2_last_2 : decode cX2_last 2 = .ok (.invokevirtual 51, 3) := by decide +kernel
theorem dX2_last_5 : decode cX2_last 5 = .ok (.astore_n 3, 1) := by decide +kernel
theorem dX2_last_6 : decode cX2_last 6 = .ok (.aload_n 3, 1) := by decide +kernel
theorem dX2_last_7 : decode cX2_last 7 = .ok (.iload_n 2, 1) := by decide +kernel
theorem dX2_last_8 : decode cX2_last 8 = .ok (.invokestatic 115, 3) := by decide +kernel
theorem dX2_last_11 : decode cX2_last 11 = .ok (.invokevirtual 161, 3) := by decide +kernel
theorem dX2_last_14 : decode cX2_last 14 = .ok (.ireturn, 1) := by decide +kernel
theorem dX2_next_0 : decode cX2_next 0 = .ok (.aload_n 0, 1) := by decide +kernel
theorem dX2_next_1 : decode cX2_next 1 = .ok (.iload_n 1, 1) := by decide +kernel
theorem dX2_next_2 : decode cX2_next 2 = .ok (.invokevirtual 51, 3) := by decide +kernel
theorem dX2_next_5 : decode cX2_next 5 = .ok (.astore 4, 2) := by decide +kernel
theorem dX2_next_7 : decode cX2_next 7 = .ok (.aload 4, 2) := by decide +kernel
theorem dX2_next_9 : decode cX2_next 9 = .ok (.iload_n 2, 1) := by decide +kernel
theorem dX2_next_10 : decode cX2_next 10 = .ok (.invokestatic 77, 3) := by decide +kernel
theorem dX2_next_13 : decode cX2_next 13 = .ok (.aload 4, 2) := by decide +kernel
theorem dX2_next_15 : decode cX2_next 15 = .ok (.iload_n 3, 1) := by decide +kernel
theorem dX2_next_16 : decode cX2_next 16 = .ok (.invokestatic 115, 3) := by decide +kernel
theorem dX2_next_19 : decode cX2_next 19 = .ok (.iload_n 2, 1) := by decide +kernel
theorem dX2_next_20 : decode cX2_next 20 = .ok (.invokevirtual 157, 3) := by decide +kernel
theorem dX2_next_23 : decode cX2_next 23 = .ok (.ireturn, 1) := by decide +kernel
theorem dX2_begins_0 : decode cX2_begins 0 = .ok (.aload_n 0, 1) := by decide +kernel
theorem dX2_begins_1 : decode cX2_begins 1 = .ok (.iload_n 1, 1) := by decide +kernel
theorem dX2_begins_2 : decode cX2_begins 2 = .ok (.invokevirtual 51, 3) := by decide +kernel
theorem dX2_begins_5 : decode cX2_begins 5 = .ok (.astore 4, 2) := by decide +kernel
theorem dX2_begins_7 : decode cX2_begins 7 = .ok (.aload_n 0, 1) := by decide +kernel
theorem dX2_begins_8 : decode cX2_begins 8 = .ok (.iload_n 2, 1) := by decide +kernel
theorem dX2_begins_9 : decode cX2_begins 9 = .ok (.invokevirtual 122, 3) := by decide +kernel
theorem dX2_begins_12 : decode cX2_begins 12 = .ok (.astore 5, 2) := by decide +kernel
theorem dX2_begins_14 : decode cX2_begins 14 = .ok (.aload 4, 2) := by decide +kernel
theorem dX2_begins_16 : decode cX2_begins 16 = .ok (.aload 5, 2) := by decide +kernel
theorem dX2_begins_18 : decode cX2_begins 18 = .ok (.iload_n 3, 1) := by decide +kernel
theorem dX2_begins_19 : decode cX2_begins 19 = .ok (.ifCond .eq 17, 3) := by decide +kernel
theorem dX2_begins_22 : decode cX2_begins 22 = .ok (.aload 4, 2) := by decide +kernel
theorem dX2_begins_24 : decode cX2_begins 24 = .ok (.invokevirtual 66, 3) := by decide +kernel
theorem dX2_begins_27 : decode cX2_begins 27 = .ok (.aload 5, 2) := by decide +kernel
theorem dX2_begins_29 : decode cX2_begins 29 = .ok (.invokevirtual 66, 3) := by decide +kernel
theorem dX2_begins_32 : decode cX2_begins 32 = .ok (.isub, 1) := by decide +kernel
theorem dX2_begins_33 : decode cX2_begins 33 = .ok (.goto 4, 3) := by decide +kernel
theorem dX2_begins_36 : decode cX2_begins 36 = .ok (.iconst 0, 1) := by decide +kernel
theorem dX2_begins_37 : decode cX2_begins 37 = .ok (.iconst 0, 1) := by decide +kernel
theorem dX2_begins_38 : decode cX2_begins 38 = .ok (.invokevirtual 164, 3) := by decide +kernel
theorem dX2_begins_41 : decode cX2_begins 41 = .ok (.ireturn, 1) := by decide +kernel
theorem dX2_stands_0 : decode cX2_stands 0 = .ok (.aload_n 0, 1) := by decide +kernel
theorem dX2_stands_1 : decode cX2_stands 1 = .ok (.iload_n 1, 1) := by decide +kernel
theorem dX2_stands_2 : decode cX2_stands 2 = .ok (.invokevirtual 51, 3) := by decide +kernel
theorem dX2_stands_5 : decode cX2_stands 5 = .ok (.astore 5, 2) := by decide +kernel
theorem dX2_stands_7 : decode cX2_stands 7 = .ok (.aload 5, 2) := by decide +kernel
theorem dX2_stands_9 : decode cX2_stands 9 = .ok (.aload_n 0, 1) := by decide +kernel
theorem dX2_stands_10 : decode cX2_stands 10 = .ok (.iload_n 3, 1) := by decide +kernel
theorem dX2_stands_11 : decode cX2_stands 11 = .ok (.invokevirtual 122, 3) := by decide +kernel
theorem dX2_stands_14 : decode cX2_stands 14 = .ok (.iload_n 2, 1) := by decide +kernel
theorem dX2_stands_15 : decode cX2_stands 15 = .ok (.iload 4, 2) := by decide +kernel
theorem dX2_stands_17 : decode cX2_stands 17 = .ok (.invokevirtual 164, 3) := by decide +kernel
theorem dX2_stands_20 : decode cX2_stands 20 = .ok (.ireturn, 1) := by decide +kernel
theorem dX2_firstOf_0 : decode cX2_firstOf 0 = .ok (.aload_n 0, 1) := by decide +kernel
theorem dX2_firstOf_1 : decode cX2_firstOf 1 = .ok (.iload_n 1, 1) := by decide +kernel
theorem dX2_firstOf_2 : decode cX2_firstOf 2 = .ok (.invokevirtual 51, 3) := by decide +kernel
theorem dX2_firstOf_5 : decode cX2_firstOf 5 = .ok (.aload_n 0, 1) := by decide +kernel
theorem dX2_firstOf_6 : decode cX2_firstOf 6 = .ok (.iload_n 2, 1) := by decide +kernel
theorem dX2_firstOf_7 : decode cX2_firstOf 7 = .ok (.invokevirtual 51, 3) := by decide +kernel
theorem dX2_firstOf_10 : decode cX2_firstOf 10 = .ok (.invokevirtual 168, 3) := by decide +kernel
theorem dX2_firstOf_13 : decode cX2_firstOf 13 = .ok (.ireturn, 1) := by decide +kernel
theorem dX2_lastOf_0 : decode cX2_lastOf 0 = .ok (.aload_n 0, 1) := by decide +kernel
theorem dX2_lastOf_1 : decode cX2_lastOf 1 = .ok (.iload_n 1, 1) := by decide +kernel
theorem dX2_lastOf_2 : decode cX2_lastOf 2 = .ok (.invokevirtual 51, 3) := by decide +kernel
theorem dX2_lastOf_5 : decode cX2_lastOf 5 = .ok (.aload_n 0, 1) := by decide +kernel
theorem dX2_lastOf_6 : decode cX2_lastOf 6 = .ok (.iload_n 2, 1) := by decide +kernel
theorem dX2_lastOf_7 : decode cX2_lastOf 7 = .ok (.invokevirtual 51, 3) := by decide +kernel
theorem dX2_lastOf_10 : decode cX2_lastOf 10 = .ok (.invokevirtual 172, 3) := by decide +kernel
theorem dX2_lastOf_13 : decode cX2_lastOf 13 = .ok (.ireturn, 1) := by decide +kernel
theorem dX2_isIn_0 : decode cX2_isIn 0 = .ok (.aload_n 0, 1) := by decide +kernel
theorem dX2_isIn_1 : decode cX2_isIn 1 = .ok (.iload_n 1, 1) := by decide +kernel
theorem dX2_isIn_2 : decode cX2_isIn 2 = .ok (.invokevirtual 51, 3) := by decide +kernel
theorem dX2_isIn_5 : decode cX2_isIn 5 = .ok (.aload_n 0, 1) := by decide +kernel
theorem dX2_isIn_6 : decode cX2_isIn 6 = .ok (.iload_n 2, 1) := by decide +kernel
theorem dX2_isIn_7 : decode cX2_isIn 7 = .ok (.invokevirtual 51, 3) := by decide +kernel
theorem dX2_isIn_10 : decode cX2_isIn 10 = .ok (.invokevirtual 175, 3) := by decide +kernel
theorem dX2_isIn_13 : decode cX2_isIn 13 = .ok (.ireturn, 1) := by decide +kernel
theorem dX2_isSame_0 : decode cX2_isSame 0 = .ok (.aload_n 0, 1) := by decide +kernel
theorem dX2_isSame_1 : decode cX2_isSame 1 = .ok (.iload_n 1, 1) := by decide +kernel
theorem dX2_isSame_2 : decode cX2_isSame 2 = .ok (.invokevirtual 51, 3) := by decide +kernel
theorem dX2_isSame_5 : decode cX2_isSame 5 = .ok (.aload_n 0, 1) := by decide +kernel
theorem dX2_isSame_6 : decode cX2_isSame 6 = .ok (.iload_n 2, 1) := by decide +kernel
theorem dX2_isSame_7 : decode cX2_isSame 7 = .ok (.invokevirtual 51, 3) := by decide +kernel
theorem dX2_isSame_10 : decode cX2_isSame 10 = .ok (.iload_n 3, 1) := by decide +kernel
theorem dX2_isSame_11 : decode cX2_isSame 11 = .ok (.invokevirtual 179, 3) := by decide +kernel
theorem dX2_isSame_14 : decode cX2_isSame 14 = .ok (.ireturn, 1) := by decide +kernel
theorem dX2_order_0 : decode cX2_order 0 = .ok (.aload_n 0, 1) := by decide +kernel
theorem dX2_order_1 : decode cX2_order 1 = .ok (.iload_n 1, 1) := by decide +kernel
theorem dX2_order_2 : decode cX2_order 2 = .ok (.invokevirtual 51, 3) := by decide +kernel
theorem dX2_order_5 : decode cX2_order 5 = .ok (.aload_n 0, 1) := by decide +kernel
theorem dX2_order_6 : decode cX2_order 6 = .ok (.iload_n 2, 1) := by decide +kernel
theorem dX2_order_7 : decode cX2_order 7 = .ok (.invokevirtual 51, 3) := by decide +kernel
theorem dX2_order_10 : decode cX2_order 10 = .ok (.iconst 0, 1) := by decide +kernel
theorem dX2_order_11 : decode cX2_order 11 = .ok (.invokevirtual 183, 3) := by decide +kernel
theorem dX2_order_14 : decode cX2_order 14 = .ok (.ireturn, 1) := by decide +kernel
theorem dX2_orderLike_0 : decode cX2_orderLike 0 = .ok (.aload_n 0, 1) := by decide +kernel
theorem dX2_orderLike_1 : decode cX2_orderLike 1 = .ok (.iload_n 1, 1) := by decide +kernel
theorem dX2_orderLike_2 : decode cX2_orderLike 2 = .ok (.invokevirtual 51, 3) := by decide +kernel
theorem dX2_orderLike_5 : decode cX2_orderLike 5 = .ok (.aload_n 0, 1) := by decide +kernel
theorem dX2_orderLike_6 : decode cX2_orderLike 6 = .ok (.iload_n 2, 1) := by decide +kernel
theorem dX2_orderLike_7 : decode cX2_orderLike 7 = .ok (.invokevirtual 51, 3) := by decide +kernel
theorem dX2_orderLike_10 : decode cX2_orderLike 10 = .ok (.iconst 1, 1) := by decide +kernel
theorem dX2_orderLike_11 : decode cX2_orderLike 11 = .ok (.invokevirtual 183, 3) := by decide +kernel
theorem dX2_orderLike_14 : decode cX2_orderLike 14 = .ok (.invokestatic 186, 3) := by decide +kernel
theorem dX2_orderLike_17 : decode cX2_orderLike 17 = .ok (.ireturn, 1) := by decide +kernel
theorem dX2_rowAt_0 : decode cX2_rowAt 0 = .ok (.aload_n 0, 1) := by decide +kernel
theorem dX2_rowAt_1 : decode cX2_rowAt 1 = .ok (.getfield 19, 3) := by decide +kernel
theorem dX2_rowAt_4 : decode cX2_rowAt 4 = .ok (.iload_n 1, 1) := by decide +kernel
theorem dX2_rowAt_5 : decode cX2_rowAt 5 = .ok (.invokestatic 125, 3) := by decide +kernel
theorem dX2_rowAt_8 : decode cX2_rowAt 8 = .ok (.aload_n 0, 1) := by decide +kernel
theorem dX2_rowAt_9 : decode cX2_rowAt 9 = .ok (.getfield 19, 3) := by decide +kernel
theorem dX2_rowAt_12 : decode cX2_rowAt 12 = .ok (.iload_n 1, 1) := by decide +kernel
theorem dX2_rowAt_13 : decode cX2_rowAt 13 = .ok (.invokevirtual 128, 3) := by decide +kernel
theorem dX2_rowAt_16 : decode cX2_rowAt 16 = .ok (.ireturn, 1) := by decide +kernel
theorem dX2_directionOf_0 : decode cX2_directionOf 0 = .ok (.iload_n 0, 1) := by decide +kernel
theorem dX2_directionOf_1 : decode cX2_directionOf 1 = .ok (.iconst 0, 1) := by decide +kernel
theorem dX2_directionOf_2 : decode cX2_directionOf 2 = .ok (.invokestatic 259, 3) := by decide +kernel
theorem dX2_directionOf_5 : decode cX2_directionOf 5 = .ok (.ireturn, 1) := by decide +kernel
theorem dJ6_compare_7cf53_0 : decode cJ6_compare_7cf53 0 = .ok (.iload_n 0, 1) := by decide +kernel
theorem dJ6_compare_7cf53_1 : decode cJ6_compare_7cf53 1 = .ok (.iload_n 1, 1) := by decide +kernel
theorem dJ6_compare_7cf53_2 : decode cJ6_compare_7cf53 2 = .ok (.if_icmp .ge 7, 3) := by decide +kernel
theorem dJ6_compare_7cf53_5 : decode cJ6_compare_7cf53 5 = .ok (.iconst (-1), 1) := by decide +kernel
theorem dJ6_compare_7cf53_6 : decode cJ6_compare_7cf53 6 = .ok (.goto 13, 3) := by decide +kernel
theorem dJ6_compare_7cf53_9 : decode cJ6_compare_7cf53 9 = .ok (.iload_n 0, 1) := by decide +kernel
theorem dJ6_compare_7cf53_10 : decode cJ6_compare_7cf53 10 = .ok (.iload_n 1, 1) := by decide +kernel
theorem dJ6_compare_7cf53_11 : decode cJ6_compare_7cf53 11 = .ok (.if_icmp .ne 7, 3) := by decide +kernel
theorem dJ6_compare_7cf53_14 : decode cJ6_compare_7cf53 14 = .ok (.iconst 0, 1) := by decide +kernel
theorem dJ6_compare_7cf53_15 : decode cJ6_compare_7cf53 15 = .ok (.goto 4, 3) := by decide +kernel
theorem dJ6_compare_7cf53_18 : decode cJ6_compare_7cf53 18 = .ok (.iconst 1, 1) := by decide +kernel
theorem dJ6_compare_7cf53_19 : decode cJ6_compare_7cf53 19 = .ok (.ireturn, 1) := by decide +kernel
abbrev rmX2_length : Room := { frames := 7, cells := 1, slots := 6, locals := 110 }
theorem mX2_length {l : Launch} {G : Cx} {A : Nat → Prop} (hst : l.stackTraces = false) {SA : Nat → Nat} {X : Nat → List Nat} {es : List Nat} {k : Int32} {x : Int32} (hAS : ∀ i : Nat, i < 39 → A (SA i)) : vx_Met l yX2_length (.code yX2_length cX2_length 2 (some .int) :: GW) rmX2_length (PC G A [.ref (SA 0), .int x] (SS G SA X es k)) (qI A (fun r H => ∃ i : Nat, i < 4 ∧ x = nI i ∧ r = nI (X i).length ∧ SS G SA X es k H)) (xE A (fun E H => (E = "java/lang/IndexOutOfBoundsException" ∧ NT x) ∧ SS G SA X es k H)) 1 6 A := by
  refine mstartX "Signtext" (by decide +kernel) rfl (Nat.le_of_ble_eq_true rfl) ?_
  intro p e s m below meth c ls hx hb hr hts hown hml hlocks hnx hC hA hW hl
  have hl : lv_has ls 2 [(0, .ref (SA 0)), (1, .int x)] := hl
  have hK := hC.1
  have hS : va_S A s.heap s.heap [] := va_S.rf
  obtain ⟨T, es2, hW, hF⟩ := hW
  have hO := hW.2.1
  have hR1 := hW.2.2.1
  have hR2 := hW.2.2.2.1
  refine lv_aload_n hx hb dX2_length_0 rfl (lv_at hl 0 rfl) ?_
  refine lv_iload_n hx hb dX2_length_1 rfl (lv_at hl 1 rfl) ?_
  refine xR_V (A := A) (A1 := A) (b := (SA 0)) (As := [.int x]) (rest := []) ⟨hx, hb, hml, hown, hts⟩ (mX2_textOf (A := A) hst ) (cwV 1 hts (gV tw_3_4 tw_3_6 sel_X2_textOf tw_1_1 tw_3_7) rfl rfl rfl (by decide +kernel) ⟨Nat.le_of_ble_eq_true rfl, Nat.le_of_ble_eq_true rfl⟩) hC hS (fun _ h => h) (fun q h => hA q (Nat.le_trans hS.1 h)) (hW.recv hK) hW rfl rfl hl.1 (Nat.le_of_ble_eq_true rfl) ⟨Nat.le_trans (show 0 + 1 ≤ 1 by omega) (Nat.le_of_ble_eq_true rfl), Nat.le_trans (show 0 + 6 ≤ 6 by omega) (Nat.le_of_ble_eq_true rfl)⟩ dX2_length_2 hnx hlocks (by omega) (by omega) (fun E H9 q _ => ⟨⟨q.1, q.2.1⟩, _, _, q.2.2, hF⟩) (fun rv1 H1 L1 hP1 hk1 hS => ?_)
  have hZ1 := hS.1
  obtain ⟨⟨i, hi, hxi, hrv⟩, hW⟩ := hP1
  subst hrv
  have hO := hW.2.1
  have hR1 := hW.2.2.1
  have hR2 := hW.2.2.2.1
  have ei := hF i (Or.inl hi)
  refine kV_i (A := A) (b := (SA (7 + 2 * i))) (As := []) (rest := []) ⟨hx, hb, hml, hown, hts⟩ (mX0_size (A := A) (ca := SA (8 + 2 * i))) (cwV 0 hts (gV tw_2_30 tw_2_12 tw_2_13 tw_1_2 tw_2_14) rfl rfl rfl (by decide +kernel) ⟨Nat.le_of_ble_eq_true rfl, Nat.le_of_ble_eq_true rfl⟩) hC hS hA ((hW.line (i := i) (by omega)).recv hK) (hW.line (i := i) (by omega)) rfl rfl hl.1 (Nat.le_of_ble_eq_true rfl) ⟨Nat.le_trans (show (0 + 1) ≤ 1 by omega) (Nat.le_of_ble_eq_true rfl), Nat.le_trans (show (0 + 6) ≤ 6 by omega) (Nat.le_of_ble_eq_true rfl)⟩ dX2_length_5 (fun r9 h9 => lv_cv h9 ?_)
  exact vx_ret (q_i hx hb hr hlocks dX2_length_8 hS (by omega) (by omega) ⟨i, hi, hxi, by rw [ei], _, _, hW, hF⟩)

abbrev rmX2_at : Room := { frames := 7, cells := 2, slots := 12, locals := 110 }
theorem mX2_at {l : Launch} {G : Cx} {A : Nat → Prop} (hst : l.stackTraces = false) {SA : Nat → Nat} {X : Nat → List Nat} {es : List Nat} {k : Int32} {x y : Int32} (hAS : ∀ i : Nat, i < 39 → A (SA i)) : vx_Met l yX2_at (.code yX2_at cX2_at 4 (some .int) :: GW) rmX2_at (PC G A [.ref (SA 0), .int x, .int y] (SS G SA X es k)) (qI A (fun r H => ∃ i a9 : Nat, i < 4 ∧ x = nI i ∧ a9 < (X i).length ∧ y = nI a9 ∧ r = nI ((X i).getD a9 0) ∧ SS G SA X es k H)) (xE A (fun E H => (E = "java/lang/IndexOutOfBoundsException" ∧ (NT x ∨ ¬ ∃ i a9 : Nat, i < 4 ∧ x = nI i ∧ a9 < (X i).length ∧ y = nI a9)) ∧ SS G SA X es k H)) 2 12 A := by
  refine mstartX "Signtext" (by decide +kernel) rfl (Nat.le_of_ble_eq_true rfl) ?_
  intro p e s m below meth c ls hx hb hr hts hown hml hlocks hnx hC hA hW hl
  have hl : lv_has ls 4 [(0, .ref (SA 0)), (1, .int x), (2, .int y)] := hl
  have hK := hC.1
  have hS : va_S A s.heap s.heap [] := va_S.rf
  obtain ⟨T, es2, hW, hF⟩ := hW
  have hO := hW.2.1
  have hR1 := hW.2.2.1
  have hR2 := hW.2.2.2.1
  refine lv_aload_n hx hb dX2_at_0 rfl (lv_at hl 0 rfl) ?_
  refine lv_iload_n hx hb dX2_at_1 rfl (lv_at hl 1 rfl) ?_
  refine xR_V (A := A) (A1 := A) (b := (SA 0)) (As := [.int x]) (rest := []) ⟨hx, hb, hml, hown, hts⟩ (mX2_textOf (A := A) hst ) (cwV 1 hts (gV tw_3_4 tw_3_6 sel_X2_textOf tw_1_1 tw_3_7) rfl rfl rfl (by decide +kernel) ⟨Nat.le_of_ble_eq_true rfl, Nat.le_of_ble_eq_true rfl⟩) hC hS (fun _ h => h) (fun q h => hA q (Nat.le_trans hS.1 h)) (hW.recv hK) hW rfl rfl hl.1 (Nat.le_of_ble_eq_true rfl) ⟨Nat.le_trans (show 0 + 1 ≤ 2 by omega) (Nat.le_of_ble_eq_true rfl), Nat.le_trans (show 0 + 6 ≤ 12 by omega) (Nat.le_of_ble_eq_true rfl)⟩ dX2_at_2 hnx hlocks (by omega) (by omega) (fun E H9 q _ => ⟨⟨q.1, Or.inl q.2.1⟩, _, _, q.2.2, hF⟩) (fun rv2 H2 L2 hP2 hk2 hS => ?_)
  have hZ2 := hS.1
  obtain ⟨⟨i, hi, hxi, hrv⟩, hW⟩ := hP2
  subst hrv
  have hO := hW.2.1
  have hR1 := hW.2.2.1
  have hR2 := hW.2.2.2.1
  have ei := hF i (Or.inl hi)
  refine lv_astore_n (lv' := [(3, .ref (SA (7 + 2 * i))), (0, .ref (SA 0)), (1, .int x), (2, .int y)]) hx hb dX2_at_5 rfl hl (by decide) rfl (fun ls hl => ?_)
  refine lv_aload_n hx hb dX2_at_6 rfl (lv_at hl 0 rfl) ?_
  refine lv_iload_n hx hb dX2_at_7 rfl (lv_at hl 3 rfl) ?_
  refine xV_S (A := A) (A1 := A)  (As := [.ref (SA (7 + 2 * i)), .int y]) (rest := []) ⟨hx, hb, hml, hown, hts⟩ (mX2_needPlace (A := A) hst (q := i) (by omega)) (va_cwS 2 hts (gS tw_3_180 tw_3_181 tw_1_1 tw_3_182) rfl rfl rfl (by decide +kernel) ⟨Nat.le_of_ble_eq_true rfl, Nat.le_of_ble_eq_true rfl⟩) hC hS (fun _ h => h) (fun q h => hA q (Nat.le_trans hS.1 h))  hW rfl rfl hl.1 (Nat.le_of_ble_eq_true rfl) ⟨Nat.le_trans (show (0 + 1) + 1 ≤ 2 by omega) (Nat.le_of_ble_eq_true rfl), Nat.le_trans (show (0 + 6) + 6 ≤ 12 by omega) (Nat.le_of_ble_eq_true rfl)⟩ dX2_at_8 hnx hlocks (by omega) (by omega) (fun E H9 q _ => ⟨⟨q.1, Or.inr (fun ⟨i9, a0, w1, w2, w3, w4⟩ => q.2.1 ⟨a0, by have w7 : i9 = i := (nI_eq (by omega) (by omega)).mp (w2.symm.trans hxi); rw [w7, ← ei] at w3; exact w3, w4⟩)⟩, _, _, q.2.2, hF⟩) (fun H3 L3 hP3 hk3 hS => ?_)
  have hZ3 := hS.1
  obtain ⟨⟨a9, ha9, rfl⟩, hW⟩ := hP3
  refine lv_aload_n hx hb dX2_at_11 rfl (lv_at hl 0 rfl) ?_
  refine lv_iload_n hx hb dX2_at_12 rfl (lv_at hl 3 rfl) ?_
  refine kV_i (A := A) (b := (SA (7 + 2 * i))) (As := [.int (nI a9)]) (rest := []) ⟨hx, hb, hml, hown, hts⟩ (mX0_codeAt (A := A) (ca := SA (8 + 2 * i)) (i := a9) ha9) (cwV 1 hts (gV tw_2_93 tw_2_20 tw_2_21 tw_1_2 tw_2_22) rfl rfl rfl (by decide +kernel) ⟨Nat.le_of_ble_eq_true rfl, Nat.le_of_ble_eq_true rfl⟩) hC hS hA ((hW.line (i := i) (by omega)).recv hK) (hW.line (i := i) (by omega)) rfl rfl hl.1 (Nat.le_of_ble_eq_true rfl) ⟨Nat.le_trans (show ((0 + 1) + 1) ≤ 2 by omega) (Nat.le_of_ble_eq_true rfl), Nat.le_trans (show ((0 + 6) + 6) ≤ 12 by omega) (Nat.le_of_ble_eq_true rfl)⟩ dX2_at_13 (fun r9 h9 => lv_cv h9 ?_)
  exact vx_ret (q_i hx hb hr hlocks dX2_at_16 hS (by omega) (by omega) ⟨i, a9, hi, hxi, by rw [← ei]; exact ha9, rfl, by rw [ei], _, _, hW, hF⟩)

abbrev rmX2_isEmpty : Room := { frames := 7, cells := 1, slots := 6, locals := 110 }
theorem mX2_isEmpty {l : Launch} {G : Cx} {A : Nat → Prop} (hst : l.stackTraces = false) {SA : Nat → Nat} {X : Nat → List Nat} {es : List Nat} {k : Int32} {x : Int32} (hAS : ∀ i : Nat, i < 39 → A (SA i)) : vx_Met l yX2_isEmpty (.code yX2_isEmpty cX2_isEmpty 2 (some .boolean) :: GW) rmX2_isEmpty (PC G A [.ref (SA 0), .int x] (SS G SA X es k)) (qI A (fun r H => ∃ i : Nat, i < 4 ∧ x = nI i ∧ r = bI (decide ((X i).length = 0)) ∧ SS G SA X es k H)) (xE A (fun E H => (E = "java/lang/IndexOutOfBoundsException" ∧ NT x) ∧ SS G SA X es k H)) 1 6 A := by
  refine mstartX "Signtext" (by decide +kernel) rfl (Nat.le_of_ble_eq_true rfl) ?_
  intro p e s m below meth c ls hx hb hr hts hown hml hlocks hnx hC hA hW hl
  have hl : lv_has ls 2 [(0, .ref (SA 0)), (1, .int x)] := hl
  have hK := hC.1
  have hS : va_S A s.heap s.heap [] := va_S.rf
  obtain ⟨T, es2, hW, hF⟩ := hW
  have hO := hW.2.1
  have hR1 := hW.2.2.1
  have hR2 := hW.2.2.2.1
  refine lv_aload_n hx hb dX2_isEmpty_0 rfl (lv_at hl 0 rfl) ?_
  refine lv_iload_n hx hb dX2_isEmpty_1 rfl (lv_at hl 1 rfl) ?_
  refine xR_V (A := A) (A1 := A) (b := (SA 0)) (As := [.int x]) (rest := []) ⟨hx, hb, hml, hown, hts⟩ (mX2_textOf (A := A) hst ) (cwV 1 hts (gV tw_3_4 tw_3_6 sel_X2_textOf tw_1_1 tw_3_7) rfl rfl rfl (by decide +kernel) ⟨Nat.le_of_ble_eq_true rfl, Nat.le_of_ble_eq_true rfl⟩) hC hS (fun _ h => h) (fun q h => hA q (Nat.le_trans hS.1 h)) (hW.recv hK) hW rfl rfl hl.1 (Nat.le_of_ble_eq_true rfl) ⟨Nat.le_trans (show 0 + 1 ≤ 1 by omega) (Nat.le_of_ble_eq_true rfl), Nat.le_trans (show 0 + 6 ≤ 6 by omega) (Nat.le_of_ble_eq_true rfl)⟩ dX2_isEmpty_2 hnx hlocks (by omega) (by omega) (fun E H9 q _ => ⟨⟨q.1, q.2.1⟩, _, _, q.2.2, hF⟩) (fun rv4 H4 L4 hP4 hk4 hS => ?_)
  have hZ4 := hS.1
  obtain ⟨⟨i, hi, hxi, hrv⟩, hW⟩ := hP4
  subst hrv
  have hO := hW.2.1
  have hR1 := hW.2.2.1
  have hR2 := hW.2.2.2.1
  have ei := hF i (Or.inl hi)
  have i60 := (hW.line (i := i) (by omega)).1
  refine kV_i (A := A) (b := (SA (7 + 2 * i))) (As := []) (rest := []) ⟨hx, hb, hml, hown, hts⟩ (mX0_size (A := A) (ca := SA (8 + 2 * i))) (cwV 0 hts (gV tw_2_30 tw_2_12 tw_2_13 tw_1_2 tw_2_14) rfl rfl rfl (by decide +kernel) ⟨Nat.le_of_ble_eq_true rfl, Nat.le_of_ble_eq_true rfl⟩) hC hS hA ((hW.line (i := i) (by omega)).recv hK) (hW.line (i := i) (by omega)) rfl rfl hl.1 (Nat.le_of_ble_eq_true rfl) ⟨Nat.le_trans (show (0 + 1) ≤ 1 by omega) (Nat.le_of_ble_eq_true rfl), Nat.le_trans (show (0 + 6) ≤ 6 by omega) (Nat.le_of_ble_eq_true rfl)⟩ dX2_isEmpty_5 (fun r9 h9 => lv_cv h9 ?_)
  refine z_ne (tgt := 15) hx hb dX2_isEmpty_8 (by decide) (by omega) (fun c_5 => ?_) (fun c_5 => ?_)
  · refine lv_iconst (v := nI 0) hx hb dX2_isEmpty_15 (by decide) ?_
    exact vx_ret (q_z (b9 := false) hx hb hr hlocks dX2_isEmpty_16 hS (by omega) (by omega) ⟨i, hi, hxi, by rw [← ei, decide_eq_false c_5], _, _, hW, hF⟩)
  · refine lv_iconst (v := nI 1) hx hb dX2_isEmpty_11 (by decide) ?_
    refine lv_goto (tgt := 16) hx hb dX2_isEmpty_12 (by decide) ?_
    exact vx_ret (q_z (b9 := true) hx hb hr hlocks dX2_isEmpty_16 hS (by omega) (by omega) ⟨i, hi, hxi, by rw [← ei, decide_eq_true c_5], _, _, hW, hF⟩)

abbrev rmX2_isBlank : Room := { frames := 7, cells := 1, slots := 6, locals := 110 }
theorem mX2_isBlank {l : Launch} {G : Cx} {A : Nat → Prop} (hst : l.stackTraces = false) {SA : Nat → Nat} {X : Nat → List Nat} {es : List Nat} {k : Int32} {x : Int32} (hAS : ∀ i : Nat, i < 39 → A (SA i)) : vx_Met l yX2_isBlank (.code yX2_isBlank cX2_isBlank 2 (some .boolean) :: GW) rmX2_isBlank (PC G A [.ref (SA 0), .int x] (SS G SA X es k)) (qI A (fun r H => ∃ i : Nat, i < 4 ∧ x = nI i ∧ r = bI (decide (tbL true (X i) = (X i).length)) ∧ SS G SA X es k H)) (xE A (fun E H => (E = "java/lang/IndexOutOfBoundsException" ∧ NT x) ∧ SS G SA X es k H)) 1 6 A := by
  refine mstartX "Signtext" (by decide +kernel) rfl (Nat.le_of_ble_eq_true rfl) ?_
  intro p e s m below meth c ls hx hb hr hts hown hml hlocks hnx hC hA hW hl
  have hl : lv_has ls 2 [(0, .ref (SA 0)), (1, .int x)] := hl
  have hK := hC.1
  have hS : va_S A s.heap s.heap [] := va_S.rf
  obtain ⟨T, es2, hW, hF⟩ := hW
  have hO := hW.2.1
  have hR1 := hW.2.2.1
  have hR2 := hW.2.2.2.1
  refine lv_aload_n hx hb dX2_isBlank_0 rfl (lv_at hl 0 rfl) ?_
  refine lv_iload_n hx hb dX2_isBlank_1 rfl (lv_at hl 1 rfl) ?_
  refine xR_V (A := A) (A1 := A) (b := (SA 0)) (As := [.int x]) (rest := []) ⟨hx, hb, hml, hown, hts⟩ (mX2_textOf (A := A) hst ) (cwV 1 hts (gV tw_3_4 tw_3_6 sel_X2_textOf tw_1_1 tw_3_7) rfl rfl rfl (by decide +kernel) ⟨Nat.le_of_ble_eq_true rfl, Nat.le_of_ble_eq_true rfl⟩) hC hS (fun _ h => h) (fun q h => hA q (Nat.le_trans hS.1 h)) (hW.recv hK) hW rfl rfl hl.1 (Nat.le_of_ble_eq_true rfl) ⟨Nat.le_trans (show 0 + 1 ≤ 1 by omega) (Nat.le_of_ble_eq_true rfl), Nat.le_trans (show 0 + 6 ≤ 6 by omega) (Nat.le_of_ble_eq_true rfl)⟩ dX2_isBlank_2 hnx hlocks (by omega) (by omega) (fun E H9 q _ => ⟨⟨q.1, q.2.1⟩, _, _, q.2.2, hF⟩) (fun rv6 H6 L6 hP6 hk6 hS => ?_)
  have hZ6 := hS.1
  obtain ⟨⟨i, hi, hxi, hrv⟩, hW⟩ := hP6
  subst hrv
  have hO := hW.2.1
  have hR1 := hW.2.2.1
  have hR2 := hW.2.2.2.1
  have ei := hF i (Or.inl hi)
  refine kV_i (A := A) (b := (SA (7 + 2 * i))) (As := []) (rest := []) ⟨hx, hb, hml, hown, hts⟩ (mX0_isAllWhite (A := A) (ca := SA (8 + 2 * i))) (cwV 0 hts (gV tw_2_207 tw_2_208 tw_2_209 tw_1_2 tw_2_210) rfl rfl rfl (by decide +kernel) ⟨Nat.le_of_ble_eq_true rfl, Nat.le_of_ble_eq_true rfl⟩) hC hS hA ((hW.line (i := i) (by omega)).recv hK) (hW.line (i := i) (by omega)) rfl rfl hl.1 (Nat.le_of_ble_eq_true rfl) ⟨Nat.le_trans (show (0 + 1) ≤ 1 by omega) (Nat.le_of_ble_eq_true rfl), Nat.le_trans (show (0 + 6) ≤ 6 by omega) (Nat.le_of_ble_eq_true rfl)⟩ dX2_isBlank_5 (fun r9 h9 => lv_cv h9 ?_)
  exact vx_ret (q_z (b9 := decide (tbL true (T i) = (T i).length)) hx hb hr hlocks dX2_isBlank_8 hS (by omega) (by omega) ⟨i, hi, hxi, by rw [ei], _, _, hW, hF⟩)

abbrev rmX2_hash : Room := { frames := 7, cells := 1, slots := 6, locals := 110 }
theorem mX2_hash {l : Launch} {G : Cx} {A : Nat → Prop} (hst : l.stackTraces = false) {SA : Nat → Nat} {X : Nat → List Nat} {es : List Nat} {k : Int32} {x : Int32} (hAS : ∀ i : Nat, i < 39 → A (SA i)) : vx_Met l yX2_hash (.code yX2_hash cX2_hash 2 (some .int) :: GW) rmX2_hash (PC G A [.ref (SA 0), .int x] (SS G SA X es k)) (qI A (fun r H => ∃ i : Nat, i < 4 ∧ x = nI i ∧ r = hashL (X i) ∧ SS G SA X es k H)) (xE A (fun E H => (E = "java/lang/IndexOutOfBoundsException" ∧ NT x) ∧ SS G SA X es k H)) 1 6 A := by
  refine mstartX "Signtext" (by decide +kernel) rfl (Nat.le_of_ble_eq_true rfl) ?_
  intro p e s m below meth c ls hx hb hr hts hown hml hlocks hnx hC hA hW hl
  have hl : lv_has ls 2 [(0, .ref (SA 0)), (1, .int x)] := hl
  have hK := hC.1
  have hS : va_S A s.heap s.heap [] := va_S.rf
  obtain ⟨T, es2, hW, hF⟩ := hW
  have hO := hW.2.1
  have hR1 := hW.2.2.1
  have hR2 := hW.2.2.2.1
  refine lv_aload_n hx hb dX2_hash_0 rfl (lv_at hl 0 rfl) ?_
  refine lv_iload_n hx hb dX2_hash_1 rfl (lv_at hl 1 rfl) ?_
  refine xR_V (A := A) (A1 := A) (b := (SA 0)) (As := [.int x]) (rest := []) ⟨hx, hb, hml, hown, hts⟩ (mX2_textOf (A := A) hst ) (cwV 1 hts (gV tw_3_4 tw_3_6 sel_X2_textOf tw_1_1 tw_3_7) rfl rfl rfl (by decide +kernel) ⟨Nat.le_of_ble_eq_true rfl, Nat.le_of_ble_eq_true rfl⟩) hC hS (fun _ h => h) (fun q h => hA q (Nat.le_trans hS.1 h)) (hW.recv hK) hW rfl rfl hl.1 (Nat.le_of_ble_eq_true rfl) ⟨Nat.le_trans (show 0 + 1 ≤ 1 by omega) (Nat.le_of_ble_eq_true rfl), Nat.le_trans (show 0 + 6 ≤ 6 by omega) (Nat.le_of_ble_eq_true rfl)⟩ dX2_hash_2 hnx hlocks (by omega) (by omega) (fun E H9 q _ => ⟨⟨q.1, q.2.1⟩, _, _, q.2.2, hF⟩) (fun rv7 H7 L7 hP7 hk7 hS => ?_)
  have hZ7 := hS.1
  obtain ⟨⟨i, hi, hxi, hrv⟩, hW⟩ := hP7
  subst hrv
  have hO := hW.2.1
  have hR1 := hW.2.2.1
  have hR2 := hW.2.2.2.1
  have ei := hF i (Or.inl hi)
  refine kV_i (A := A) (b := (SA (7 + 2 * i))) (As := []) (rest := []) ⟨hx, hb, hml, hown, hts⟩ (mX0_hashOfSigns (A := A) (ca := SA (8 + 2 * i))) (cwV 0 hts (gV tw_2_110 tw_2_111 tw_2_112 tw_1_2 tw_2_113) rfl rfl rfl (by decide +kernel) ⟨Nat.le_of_ble_eq_true rfl, Nat.le_of_ble_eq_true rfl⟩) hC hS hA ((hW.line (i := i) (by omega)).recv hK) (hW.line (i := i) (by omega)) rfl rfl hl.1 (Nat.le_of_ble_eq_true rfl) ⟨Nat.le_trans (show (0 + 1) ≤ 1 by omega) (Nat.le_of_ble_eq_true rfl), Nat.le_trans (show (0 + 6) ≤ 6 by omega) (Nat.le_of_ble_eq_true rfl)⟩ dX2_hash_5 (fun r9 h9 => lv_cv h9 ?_)
  exact vx_ret (q_i hx hb hr hlocks dX2_hash_8 hS (by omega) (by omega) ⟨i, hi, hxi, by rw [ei], _, _, hW, hF⟩)

abbrev rmX2_first : Room := { frames := 7, cells := 2, slots := 12, locals := 110 }
theorem mX2_first {l : Launch} {G : Cx} {A : Nat → Prop} (hst : l.stackTraces = false) {SA : Nat → Nat} {X : Nat → List Nat} {es : List Nat} {k : Int32} {x y : Int32} (hAS : ∀ i : Nat, i < 39 → A (SA i)) : vx_Met l yX2_first (.code yX2_first cX2_first 4 (some .int) :: GW) rmX2_first (PC G A [.ref (SA 0), .int x, .int y] (SS G SA X es k)) (qI A (fun r H => ∃ i j : Nat, i < 4 ∧ x = nI i ∧ j < 24 ∧ y = nI j ∧ fstR (fun k9 => 0 ≤ k9 ∧ k9 < (X i).length ∧ (X i).getD k9 0 = codeT.getD j 0) r ∧ SS G SA X es k H)) (xE A (fun E H => ((E = "java/lang/IndexOutOfBoundsException" ∧ NT x) ∨ (E = "java/lang/IllegalArgumentException" ∧ (∃ i : Nat, i < 4 ∧ x = nI i) ∧ NS y)) ∧ SS G SA X es k H)) 2 12 A := by
  refine mstartX "Signtext" (by decide +kernel) rfl (Nat.le_of_ble_eq_true rfl) ?_
  intro p e s m below meth c ls hx hb hr hts hown hml hlocks hnx hC hA hW hl
  have hl : lv_has ls 4 [(0, .ref (SA 0)), (1, .int x), (2, .int y)] := hl
  have hK := hC.1
  have hS : va_S A s.heap s.heap [] := va_S.rf
  obtain ⟨T, es2, hW, hF⟩ := hW
  have hO := hW.2.1
  have hR1 := hW.2.2.1
  have hR2 := hW.2.2.2.1
  refine lv_aload_n hx hb dX2_first_0 rfl (lv_at hl 0 rfl) ?_
  refine lv_iload_n hx hb dX2_first_1 rfl (lv_at hl 1 rfl) ?_
  refine xR_V (A := A) (A1 := A) (b := (SA 0)) (As := [.int x]) (rest := []) ⟨hx, hb, hml, hown, hts⟩ (mX2_textOf (A := A) hst ) (cwV 1 hts (gV tw_3_4 tw_3_6 sel_X2_textOf tw_1_1 tw_3_7) rfl rfl rfl (by decide +kernel) ⟨Nat.le_of_ble_eq_true rfl, Nat.le_of_ble_eq_true rfl⟩) hC hS (fun _ h => h) (fun q h => hA q (Nat.le_trans hS.1 h)) (hW.recv hK) hW rfl rfl hl.1 (Nat.le_of_ble_eq_true rfl) ⟨Nat.le_trans (show 0 + 1 ≤ 2 by omega) (Nat.le_of_ble_eq_true rfl), Nat.le_trans (show 0 + 6 ≤ 12 by omega) (Nat.le_of_ble_eq_true rfl)⟩ dX2_first_2 hnx hlocks (by omega) (by omega) (fun E H9 q _ => ⟨Or.inl ⟨q.1, q.2.1⟩, _, _, q.2.2, hF⟩) (fun rv8 H8 L8 hP8 hk8 hS => ?_)
  have hZ8 := hS.1
  obtain ⟨⟨i, hi, hxi, hrv⟩, hW⟩ := hP8
  subst hrv
  have hO := hW.2.1
  have hR1 := hW.2.2.1
  have hR2 := hW.2.2.2.1
  have ei := hF i (Or.inl hi)
  refine lv_astore_n (lv' := [(3, .ref (SA (7 + 2 * i))), (0, .ref (SA 0)), (1, .int x), (2, .int y)]) hx hb dX2_first_5 rfl hl (by decide) rfl (fun ls hl => ?_)
  refine lv_aload_n hx hb dX2_first_6 rfl (lv_at hl 0 rfl) ?_
  refine lv_iload_n hx hb dX2_first_7 rfl (lv_at hl 3 rfl) ?_
  refine xI_S (A := A) (A1 := A)  (As := [.int y]) (rest := .ref (SA (7 + 2 * i)) :: []) ⟨hx, hb, hml, hown, hts⟩ (mX2_codeOf (A := A) hst ) (va_cwS 1 hts (gS tw_3_27 tw_3_28 tw_1_1 tw_3_29) rfl rfl rfl (by decide +kernel) ⟨Nat.le_of_ble_eq_true rfl, Nat.le_of_ble_eq_true rfl⟩) hC hS (fun _ h => h) (fun q h => hA q (Nat.le_trans hS.1 h))  hW rfl rfl hl.1 (Nat.le_of_ble_eq_true rfl) ⟨Nat.le_trans (show (0 + 1) + 1 ≤ 2 by omega) (Nat.le_of_ble_eq_true rfl), Nat.le_trans (show (0 + 6) + 6 ≤ 12 by omega) (Nat.le_of_ble_eq_true rfl)⟩ dX2_first_8 hnx hlocks (by omega) (by omega) (fun E H9 q _ => ⟨Or.inr ⟨q.1, ⟨i, hi, hxi⟩, q.2.1⟩, _, _, q.2.2, hF⟩) (fun rv9 H9 L9 hP9 hk9 hS => ?_)
  have hZ9 := hS.1
  obtain ⟨⟨j, hj, hyj, hrv⟩, hW⟩ := hP9
  subst hrv
  refine lv_iconst (v := nI 0) hx hb dX2_first_11 (by decide) ?_
  refine kV_i (A := A) (b := (SA (7 + 2 * i))) (As := [.int (nI (codeT.getD j 0)), .int (nI 0)]) (rest := []) ⟨hx, hb, hml, hown, hts⟩ (mX0_firstPlaceOfCode (A := A) (ca := SA (8 + 2 * i)) (i := 0) (codeT_lt j) (Nat.zero_le _)) (cwV 2 hts (gV tw_4_32 tw_4_33 tw_4_34 tw_1_2 tw_4_35) rfl rfl rfl (by decide +kernel) ⟨Nat.le_of_ble_eq_true rfl, Nat.le_of_ble_eq_true rfl⟩) hC hS hA ((hW.line (i := i) (by omega)).recv hK) (hW.line (i := i) (by omega)) rfl rfl hl.1 (Nat.le_of_ble_eq_true rfl) ⟨Nat.le_trans (show ((0 + 1) + 1) ≤ 2 by omega) (Nat.le_of_ble_eq_true rfl), Nat.le_trans (show ((0 + 6) + 6) ≤ 12 by omega) (Nat.le_of_ble_eq_true rfl)⟩ dX2_first_12 (fun r_10 hr_10 => ?_)
  have h7 : fstR (fun k9 => 0 ≤ k9 ∧ k9 < (T i).length ∧ (T i).getD k9 0 = codeT.getD j 0) r_10 := hr_10
  rw [ei] at h7
  exact vx_ret (q_i hx hb hr hlocks dX2_first_15 hS (by omega) (by omega) ⟨i, j, hi, hxi, hj, hyj, h7, _, _, hW, hF⟩)

abbrev rmX2_last : Room := { frames := 7, cells := 2, slots := 12, locals := 110 }
theorem mX2_last {l : Launch} {G : Cx} {A : Nat → Prop} (hst : l.stackTraces = false) {SA : Nat → Nat} {X : Nat → List Nat} {es : List Nat} {k : Int32} {x y : Int32} (hAS : ∀ i : Nat, i < 39 → A (SA i)) : vx_Met l yX2_last (.code yX2_last cX2_last 4 (some .int) :: GW) rmX2_last (PC G A [.ref (SA 0), .int x, .int y] (SS G SA X es k)) (qI A (fun r H => ∃ i j : Nat, i < 4 ∧ x = nI i ∧ j < 24 ∧ y = nI j ∧ lstR (fun k9 => k9 < (X i).length ∧ (X i).getD k9 0 = codeT.getD j 0) r ∧ SS G SA X es k H)) (xE A (fun E H => ((E = "java/lang/IndexOutOfBoundsException" ∧ NT x) ∨ (E = "java/lang/IllegalArgumentException" ∧ (∃ i : Nat, i < 4 ∧ x = nI i) ∧ NS y)) ∧ SS G SA X es k H)) 2 12 A := by
  refine mstartX "Signtext" (by decide +kernel) rfl (Nat.le_of_ble_eq_true rfl) ?_
  intro p e s m below meth c ls hx hb hr hts hown hml hlocks hnx hC hA hW hl
  have hl : lv_has ls 4 [(0, .ref (SA 0)), (1, .int x), (2, .int y)] := hl
  have hK := hC.1
  have hS : va_S A s.heap s.heap [] := va_S.rf
  obtain ⟨T, es2, hW, hF⟩ := hW
  have hO := hW.2.1
  have hR1 := hW.2.2.1
  have hR2 := hW.2.2.2.1
  refine lv_aload_n hx hb dX2_last_0 rfl (lv_at hl 0 rfl) ?_
  refine lv_iload_n hx hb dX2_last_1 rfl (lv_at hl 1 rfl) ?_
  refine xR_V (A := A) (A1 := A) (b := (SA 0)) (As := [.int x]) (rest := []) ⟨hx, hb, hml, hown, hts⟩ (mX2_textOf (A := A) hst ) (cwV 1 hts (gV tw_3_4 tw_3_6 sel_X2_textOf tw_1_1 tw_3_7) rfl rfl rfl (by decide +kernel) ⟨Nat.le_of_ble_eq_true rfl, Nat.le_of_ble_eq_true rfl⟩) hC hS (fun _ h => h) (fun q h => hA q (Nat.le_trans hS.1 h)) (hW.recv hK) hW rfl rfl hl.1 (Nat.le_of_ble_eq_true rfl) ⟨Nat.le_trans (show 0 + 1 ≤ 2 by omega) (Nat.le_of_ble_eq_true rfl), Nat.le_trans (show 0 + 6 ≤ 12 by omega) (Nat.le_of_ble_eq_true rfl)⟩ dX2_last_2 hnx hlocks (by omega) (by omega) (fun E H9 q _ => ⟨Or.inl ⟨q.1, q.2.1⟩, _, _, q.2.2, hF⟩) (fun rv11 H11 L11 hP11 hk11 hS => ?_)
  have hZ11 := hS.1
  obtain ⟨⟨i, hi, hxi, hrv⟩, hW⟩ := hP11
  subst hrv
  have hO := hW.2.1
  have hR1 := hW.2.2.1
  have hR2 := hW.2.2.2.1
  have ei := hF i (Or.inl hi)
  refine lv_astore_n (lv' := [(3, .ref (SA (7 + 2 * i))), (0, .ref (SA 0)), (1, .int x), (2, .int y)]) hx hb dX2_last_5 rfl hl (by decide) rfl (fun ls hl => ?_)
  refine lv_aload_n hx hb dX2_last_6 rfl (lv_at hl 0 rfl) ?_
  refine lv_iload_n hx hb dX2_last_7 rfl (lv_at hl 3 rfl) ?_
  refine xI_S (A := A) (A1 := A)  (As := [.int y]) (rest := .ref (SA (7 + 2 * i)) :: []) ⟨hx, hb, hml, hown, hts⟩ (mX2_codeOf (A := A) hst ) (va_cwS 1 hts (gS tw_3_27 tw_3_28 tw_1_1 tw_3_29) rfl rfl rfl (by decide +kernel) ⟨Nat.le_of_ble_eq_true rfl, Nat.le_of_ble_eq_true rfl⟩) hC hS (fun _ h => h) (fun q h => hA q (Nat.le_trans hS.1 h))  hW rfl rfl hl.1 (Nat.le_of_ble_eq_true rfl) ⟨Nat.le_trans (show (0 + 1) + 1 ≤ 2 by omega) (Nat.le_of_ble_eq_true rfl), Nat.le_trans (show (0 + 6) + 6 ≤ 12 by omega) (Nat.le_of_ble_eq_true rfl)⟩ dX2_last_8 hnx hlocks (by omega) (by omega) (fun E H9 q _ => ⟨Or.inr ⟨q.1, ⟨i, hi, hxi⟩, q.2.1⟩, _, _, q.2.2, hF⟩) (fun rv12 H12 L12 hP12 hk12 hS => ?_)
  have hZ12 := hS.1
  obtain ⟨⟨j, hj, hyj, hrv⟩, hW⟩ := hP12
  subst hrv
  refine kV_i (A := A) (b := (SA (7 + 2 * i))) (As := [.int (nI (codeT.getD j 0))]) (rest := []) ⟨hx, hb, hml, hown, hts⟩ (mX0_lastPlaceOfCode (A := A) (ca := SA (8 + 2 * i)) (codeT_lt j)) (cwV 1 hts (gV tw_4_43 tw_4_44 tw_4_45 tw_1_2 tw_4_46) rfl rfl rfl (by decide +kernel) ⟨Nat.le_of_ble_eq_true rfl, Nat.le_of_ble_eq_true rfl⟩) hC hS hA ((hW.line (i := i) (by omega)).recv hK) (hW.line (i := i) (by omega)) rfl rfl hl.1 (Nat.le_of_ble_eq_true rfl) ⟨Nat.le_trans (show ((0 + 1) + 1) ≤ 2 by omega) (Nat.le_of_ble_eq_true rfl), Nat.le_trans (show ((0 + 6) + 6) ≤ 12 by omega) (Nat.le_of_ble_eq_true rfl)⟩ dX2_last_11 (fun r_13 hr_13 => ?_)
  have h7 : lstR (fun k9 => k9 < (T i).length ∧ (T i).getD k9 0 = codeT.getD j 0) r_13 := hr_13
  rw [ei] at h7
  exact vx_ret (q_i hx hb hr hlocks dX2_last_14 hS (by omega) (by omega) ⟨i, j, hi, hxi, hj, hyj, h7, _, _, hW, hF⟩)

abbrev rmX2_next : Room := { frames := 7, cells := 3, slots := 18, locals := 110 }
theorem mX2_next {l : Launch} {G : Cx} {A : Nat → Prop} (hst : l.stackTraces = false) {SA : Nat → Nat} {X : Nat → List Nat} {es : List Nat} {k : Int32} {x f9 y : Int32} (hAS : ∀ i : Nat, i < 39 → A (SA i)) : vx_Met l yX2_next (.code yX2_next cX2_next 5 (some .int) :: GW) rmX2_next (PC G A [.ref (SA 0), .int x, .int f9, .int y] (SS G SA X es k)) (qI A (fun r H => ∃ i a9 j : Nat, i < 4 ∧ x = nI i ∧ a9 ≤ (X i).length ∧ f9 = nI a9 ∧ j < 24 ∧ y = nI j ∧ fstR (fun k9 => a9 ≤ k9 ∧ k9 < (X i).length ∧ (X i).getD k9 0 = codeT.getD j 0) r ∧ SS G SA X es k H)) (xE A (fun E H => ((E = "java/lang/IndexOutOfBoundsException" ∧ (NT x ∨ ¬ ∃ i a9 : Nat, i < 4 ∧ x = nI i ∧ f9 = nI a9 ∧ a9 ≤ (X i).length)) ∨ (E = "java/lang/IllegalArgumentException" ∧ (∃ i a9 : Nat, i < 4 ∧ x = nI i ∧ f9 = nI a9 ∧ a9 ≤ (X i).length) ∧ NS y)) ∧ SS G SA X es k H)) 3 18 A := by
  refine mstartX "Signtext" (by decide +kernel) rfl (Nat.le_of_ble_eq_true rfl) ?_
  intro p e s m below meth c ls hx hb hr hts hown hml hlocks hnx hC hA hW hl
  have hl : lv_has ls 5 [(0, .ref (SA 0)), (1, .int x), (2, .int f9), (3, .int y)] := hl
  have hK := hC.1
  have hS : va_S A s.heap s.heap [] := va_S.rf
  obtain ⟨T, es2, hW, hF⟩ := hW
  have hO := hW.2.1
  have hR1 := hW.2.2.1
  have hR2 := hW.2.2.2.1
  refine lv_aload_n hx hb dX2_next_0 rfl (lv_at hl 0 rfl) ?_
  refine lv_iload_n hx hb dX2_next_1 rfl (lv_at hl 1 rfl) ?_
  refine xR_V (A := A) (A1 := A) (b := (SA 0)) (As := [.int x]) (rest := []) ⟨hx, hb, hml, hown, hts⟩ (mX2_textOf (A := A) hst ) (cwV 1 hts (gV tw_3_4 tw_3_6 sel_X2_textOf tw_1_1 tw_3_7) rfl rfl rfl (by decide +kernel) ⟨Nat.le_of_ble_eq_true rfl, Nat.le_of_ble_eq_true rfl⟩) hC hS (fun _ h => h) (fun q h => hA q (Nat.le_trans hS.1 h)) (hW.recv hK) hW rfl rfl hl.1 (Nat.le_of_ble_eq_true rfl) ⟨Nat.le_trans (show 0 + 1 ≤ 3 by omega) (Nat.le_of_ble_eq_true rfl), Nat.le_trans (show 0 + 6 ≤ 18 by omega) (Nat.le_of_ble_eq_true rfl)⟩ dX2_next_2 hnx hlocks (by omega) (by omega) (fun E H9 q _ => ⟨Or.inl ⟨q.1, Or.inl q.2.1⟩, _, _, q.2.2, hF⟩) (fun rv14 H14 L14 hP14 hk14 hS => ?_)
  have hZ14 := hS.1
  obtain ⟨⟨i, hi, hxi, hrv⟩, hW⟩ := hP14
  subst hrv
  have hO := hW.2.1
  have hR1 := hW.2.2.1
  have hR2 := hW.2.2.2.1
  have ei := hF i (Or.inl hi)
  refine lv_astore (lv' := [(4, .ref (SA (7 + 2 * i))), (0, .ref (SA 0)), (1, .int x), (2, .int f9), (3, .int y)]) hx hb dX2_next_5 hl (by decide) rfl (fun ls hl => ?_)
  refine lv_aload hx hb dX2_next_7 (lv_at hl 0 rfl) ?_
  refine lv_iload_n hx hb dX2_next_9 rfl (lv_at hl 3 rfl) ?_
  refine xV_S (A := A) (A1 := A)  (As := [.ref (SA (7 + 2 * i)), .int f9]) (rest := []) ⟨hx, hb, hml, hown, hts⟩ (mX2_needPlaceOrEnd (A := A) hst (q := i) (by omega)) (va_cwS 2 hts (gS tw_3_87 tw_3_88 tw_1_1 tw_3_89) rfl rfl rfl (by decide +kernel) ⟨Nat.le_of_ble_eq_true rfl, Nat.le_of_ble_eq_true rfl⟩) hC hS (fun _ h => h) (fun q h => hA q (Nat.le_trans hS.1 h))  hW rfl rfl hl.1 (Nat.le_of_ble_eq_true rfl) ⟨Nat.le_trans (show (0 + 1) + 1 ≤ 3 by omega) (Nat.le_of_ble_eq_true rfl), Nat.le_trans (show (0 + 6) + 6 ≤ 18 by omega) (Nat.le_of_ble_eq_true rfl)⟩ dX2_next_10 hnx hlocks (by omega) (by omega) (fun E H9 q _ => ⟨Or.inl ⟨q.1, Or.inr (fun ⟨i9, a0, w1, w2, w3, w4⟩ => q.2.1 ⟨a0, by have w7 : i9 = i := (nI_eq (by omega) (by omega)).mp (w2.symm.trans hxi); rw [w7, ← ei] at w4; exact w4, w3⟩)⟩, _, _, q.2.2, hF⟩) (fun H15 L15 hP15 hk15 hS => ?_)
  have hZ15 := hS.1
  obtain ⟨⟨a9, ha9, rfl⟩, hW⟩ := hP15
  refine lv_aload hx hb dX2_next_13 (lv_at hl 0 rfl) ?_
  refine lv_iload_n hx hb dX2_next_15 rfl (lv_at hl 4 rfl) ?_
  refine xI_S (A := A) (A1 := A)  (As := [.int y]) (rest := .ref (SA (7 + 2 * i)) :: []) ⟨hx, hb, hml, hown, hts⟩ (mX2_codeOf (A := A) hst ) (va_cwS 1 hts (gS tw_3_27 tw_3_28 tw_1_1 tw_3_29) rfl rfl rfl (by decide +kernel) ⟨Nat.le_of_ble_eq_true rfl, Nat.le_of_ble_eq_true rfl⟩) hC hS (fun _ h => h) (fun q h => hA q (Nat.le_trans hS.1 h))  hW rfl rfl hl.1 (Nat.le_of_ble_eq_true rfl) ⟨Nat.le_trans (show ((0 + 1) + 1) + 1 ≤ 3 by omega) (Nat.le_of_ble_eq_true rfl), Nat.le_trans (show ((0 + 6) + 6) + 6 ≤ 18 by omega) (Nat.le_of_ble_eq_true rfl)⟩ dX2_next_16 hnx hlocks (by omega) (by omega) (fun E H9 q _ => ⟨Or.inr ⟨q.1, ⟨i, a9, hi, hxi, rfl, by rw [← ei]; exact ha9⟩, q.2.1⟩, _, _, q.2.2, hF⟩) (fun rv16 H16 L16 hP16 hk16 hS => ?_)
  have hZ16 := hS.1
  obtain ⟨⟨j, hj, hyj, hrv⟩, hW⟩ := hP16
  subst hrv
  refine lv_iload_n hx hb dX2_next_19 rfl (lv_at hl 3 rfl) ?_
  refine kV_i (A := A) (b := (SA (7 + 2 * i))) (As := [.int (nI (codeT.getD j 0)), .int (nI a9)]) (rest := []) ⟨hx, hb, hml, hown, hts⟩ (mX0_firstPlaceOfCode (A := A) (ca := SA (8 + 2 * i)) (i := a9) (codeT_lt j) ha9) (cwV 2 hts (gV tw_4_32 tw_4_33 tw_4_34 tw_1_2 tw_4_35) rfl rfl rfl (by decide +kernel) ⟨Nat.le_of_ble_eq_true rfl, Nat.le_of_ble_eq_true rfl⟩) hC hS hA ((hW.line (i := i) (by omega)).recv hK) (hW.line (i := i) (by omega)) rfl rfl hl.1 (Nat.le_of_ble_eq_true rfl) ⟨Nat.le_trans (show (((0 + 1) + 1) + 1) ≤ 3 by omega) (Nat.le_of_ble_eq_true rfl), Nat.le_trans (show (((0 + 6) + 6) + 6) ≤ 18 by omega) (Nat.le_of_ble_eq_true rfl)⟩ dX2_next_20 (fun r_17 hr_17 => ?_)
  have h7 : fstR (fun k9 => a9 ≤ k9 ∧ k9 < (T i).length ∧ (T i).getD k9 0 = codeT.getD j 0) r_17 := hr_17
  rw [ei] at h7
  exact vx_ret (q_i hx hb hr hlocks dX2_next_23 hS (by omega) (by omega) ⟨i, a9, j, hi, hxi, by rw [← ei]; exact ha9, rfl, hj, hyj, h7, _, _, hW, hF⟩)

abbrev rmX2_begins : Room := { frames := 7, cells := 2, slots := 12, locals := 110 }
theorem mX2_begins {l : Launch} {G : Cx} {A : Nat → Prop} (hst : l.stackTraces = false) {SA : Nat → Nat} {X : Nat → List Nat} {es : List Nat} {k : Int32} {x y : Int32} {b : Bool} (hAS : ∀ i : Nat, i < 39 → A (SA i)) : vx_Met l yX2_begins (.code yX2_begins cX2_begins 6 (some .boolean) :: GW) rmX2_begins (PC G A [.ref (SA 0), .int x, .int y, .int (bI b)] (SS G SA X es k)) (qI A (fun r H => ∃ (i j : Nat) (v : Bool), i < 4 ∧ x = nI i ∧ j < 7 ∧ y = nI j ∧ (v = true ↔ if b then (knT j).length ≤ (X i).length ∧ stL false (X i) (knT j) ((X i).length - (knT j).length) else stL false (X i) (knT j) 0) ∧ r = bI v ∧ SS G SA X es k H)) (xE A (fun E H => ((E = "java/lang/IndexOutOfBoundsException" ∧ NT x) ∨ (E = "java/lang/IllegalArgumentException" ∧ (∃ i : Nat, i < 4 ∧ x = nI i) ∧ NK y)) ∧ SS G SA X es k H)) 2 12 A := by
  refine mstartX "Signtext" (by decide +kernel) rfl (Nat.le_of_ble_eq_true rfl) ?_
  intro p e s m below meth c ls hx hb hr hts hown hml hlocks hnx hC hA hW hl
  have hl : lv_has ls 6 [(0, .ref (SA 0)), (1, .int x), (2, .int y), (3, .int (bI b))] := hl
  have hK := hC.1
  have hS : va_S A s.heap s.heap [] := va_S.rf
  obtain ⟨T, es2, hW, hF⟩ := hW
  have hO := hW.2.1
  have hR1 := hW.2.2.1
  have hR2 := hW.2.2.2.1
  refine lv_aload_n hx hb dX2_begins_0 rfl (lv_at hl 0 rfl) ?_
  refine lv_iload_n hx hb dX2_begins_1 rfl (lv_at hl 1 rfl) ?_
  refine xR_V (A := A) (A1 := A) (b := (SA 0)) (As := [.int x]) (rest := []) ⟨hx, hb, hml, hown, hts⟩ (mX2_textOf (A := A) hst ) (cwV 1 hts (gV tw_3_4 tw_3_6 sel_X2_textOf tw_1_1 tw_3_7) rfl rfl rfl (by decide +kernel) ⟨Nat.le_of_ble_eq_true rfl, Nat.le_of_ble_eq_true rfl⟩) hC hS (fun _ h => h) (fun q h => hA q (Nat.le_trans hS.1 h)) (hW.recv hK) hW rfl rfl hl.1 (Nat.le_of_ble_eq_true rfl) ⟨Nat.le_trans (show 0 + 1 ≤ 2 by omega) (Nat.le_of_ble_eq_true rfl), Nat.le_trans (show 0 + 6 ≤ 12 by omega) (Nat.le_of_ble_eq_true rfl)⟩ dX2_begins_2 hnx hlocks (by omega) (by omega) (fun E H9 q _ => ⟨Or.inl ⟨q.1, q.2.1⟩, _, _, q.2.2, hF⟩) (fun rv18 H18 L18 hP18 hk18 hS => ?_)
  have hZ18 := hS.1
  obtain ⟨⟨i, hi, hxi, hrv⟩, hW⟩ := hP18
  subst hrv
  have hO := hW.2.1
  have hR1 := hW.2.2.1
  have hR2 := hW.2.2.2.1
  have ei := hF i (Or.inl hi)
  refine lv_astore (lv' := [(4, .ref (SA (7 + 2 * i))), (0, .ref (SA 0)), (1, .int x), (2, .int y), (3, .int (bI b))]) hx hb dX2_begins_5 hl (by decide) rfl (fun ls hl => ?_)
  refine lv_aload_n hx hb dX2_begins_7 rfl (lv_at hl 1 rfl) ?_
  refine lv_iload_n hx hb dX2_begins_8 rfl (lv_at hl 3 rfl) ?_
  refine xR_V (A := A) (A1 := A) (b := (SA 0)) (As := [.int y]) (rest := []) ⟨hx, hb, hml, hown, hts⟩ (mX2_knownOf (A := A) hst ) (cwV 1 hts (gV tw_3_162 tw_3_164 sel_X2_knownOf tw_1_1 tw_3_165) rfl rfl rfl (by decide +kernel) ⟨Nat.le_of_ble_eq_true rfl, Nat.le_of_ble_eq_true rfl⟩) hC hS (fun _ h => h) (fun q h => hA q (Nat.le_trans hS.1 h)) (hW.recv hK) hW rfl rfl hl.1 (Nat.le_of_ble_eq_true rfl) ⟨Nat.le_trans (show (0 + 1) + 1 ≤ 2 by omega) (Nat.le_of_ble_eq_true rfl), Nat.le_trans (show (0 + 6) + 6 ≤ 12 by omega) (Nat.le_of_ble_eq_true rfl)⟩ dX2_begins_9 hnx hlocks (by omega) (by omega) (fun E H9 q _ => ⟨Or.inr ⟨q.1, ⟨i, hi, hxi⟩, q.2.1⟩, _, _, q.2.2, hF⟩) (fun rv19 H19 L19 hP19 hk19 hS => ?_)
  have hZ19 := hS.1
  obtain ⟨⟨j, hj, hyj, hrv⟩, hW⟩ := hP19
  rw [show 15 + 2 * j = 7 + 2 * (4 + j) by omega] at hrv
  subst hrv
  have ek := hW.2.2.2.2.2.2.2.2.2 j hj
  refine lv_astore (lv' := [(5, .ref (SA (7 + 2 * (4 + j)))), (4, .ref (SA (7 + 2 * i))), (0, .ref (SA 0)), (1, .int x), (2, .int y), (3, .int (bI b))]) hx hb dX2_begins_12 hl (by decide) rfl (fun ls hl => ?_)
  refine lv_aload hx hb dX2_begins_14 (lv_at hl 1 rfl) ?_
  refine lv_aload hx hb dX2_begins_16 (lv_at hl 0 rfl) ?_
  refine lv_iload_n hx hb dX2_begins_18 rfl (lv_at hl 5 rfl) ?_
  have i60 := (hW.line (i := i) (by omega)).1
  have k60 := (hW.line (i := 4 + j) (by omega)).1
  refine f_eq (tgt := 36) hx hb dX2_begins_19 (by decide) (fun c_20 => ?_) (fun c_20 => ?_)
  · subst c_20
    refine lv_iconst (v := nI 0) hx hb dX2_begins_36 (by decide) ?_
    refine lv_iconst (v := nI 0) hx hb dX2_begins_37 (by decide) ?_
    refine kV_i (A := A) (b := (SA (7 + 2 * i))) (As := [.ref (SA (7 + 2 * (4 + j))), .int (nI 0), .int (bI false)]) (rest := []) ⟨hx, hb, hml, hown, hts⟩ (mX0_standsAt (A := A) (ca := SA (8 + 2 * i)) (cb := SA (8 + 2 * (4 + j))) (i := 0) (b0 := false) (by omega)) (cwV 3 hts (gV tw_2_94 tw_2_16 tw_2_17 tw_1_2 tw_2_18) rfl rfl rfl (by decide +kernel) ⟨Nat.le_of_ble_eq_true rfl, Nat.le_of_ble_eq_true rfl⟩) hC hS hA ((hW.line (i := i) (by omega)).recv hK) ⟨hW.line (i := i) (by omega), hW.line (i := (4 + j)) (by omega)⟩ rfl rfl hl.1 (Nat.le_of_ble_eq_true rfl) ⟨Nat.le_trans (show ((0 + 1) + 1) ≤ 2 by omega) (Nat.le_of_ble_eq_true rfl), Nat.le_trans (show ((0 + 6) + 6) ≤ 12 by omega) (Nat.le_of_ble_eq_true rfl)⟩ dX2_begins_38 (fun r_21 hr_21 => ?_)
    obtain ⟨v, hv, rfl⟩ := hr_21
    rw [ei, ek] at hv
    exact vx_ret (q_z (b9 := v) hx hb hr hlocks dX2_begins_41 hS (by omega) (by omega) ⟨i, j, v, hi, hxi, hj, hyj, hv, rfl, _, _, hW, hF⟩)
  · subst c_20
    refine lv_aload hx hb dX2_begins_22 (lv_at hl 1 rfl) ?_
    refine kV_i (A := A) (b := (SA (7 + 2 * i))) (As := []) (rest := .ref (SA (7 + 2 * (4 + j))) :: .ref (SA (7 + 2 * i)) :: []) ⟨hx, hb, hml, hown, hts⟩ (mX0_size (A := A) (ca := SA (8 + 2 * i))) (cwV 0 hts (gV tw_2_30 tw_2_12 tw_2_13 tw_1_2 tw_2_14) rfl rfl rfl (by decide +kernel) ⟨Nat.le_of_ble_eq_true rfl, Nat.le_of_ble_eq_true rfl⟩) hC hS hA ((hW.line (i := i) (by omega)).recv hK) (hW.line (i := i) (by omega)) rfl rfl hl.1 (Nat.le_of_ble_eq_true rfl) ⟨Nat.le_trans (show ((0 + 1) + 1) ≤ 2 by omega) (Nat.le_of_ble_eq_true rfl), Nat.le_trans (show ((0 + 6) + 6) ≤ 12 by omega) (Nat.le_of_ble_eq_true rfl)⟩ dX2_begins_24 (fun r9 h9 => lv_cv h9 ?_)
    refine lv_aload hx hb dX2_begins_27 (lv_at hl 0 rfl) ?_
    refine kV_i (A := A) (b := (SA (7 + 2 * (4 + j)))) (As := []) (rest := .int (nI ((T i).length)) :: .ref (SA (7 + 2 * (4 + j))) :: .ref (SA (7 + 2 * i)) :: []) ⟨hx, hb, hml, hown, hts⟩ (mX0_size (A := A) (ca := SA (8 + 2 * (4 + j)))) (cwV 0 hts (gV tw_2_30 tw_2_12 tw_2_13 tw_1_2 tw_2_14) rfl rfl rfl (by decide +kernel) ⟨Nat.le_of_ble_eq_true rfl, Nat.le_of_ble_eq_true rfl⟩) hC hS hA ((hW.line (i := (4 + j)) (by omega)).recv hK) (hW.line (i := (4 + j)) (by omega)) rfl rfl hl.1 (Nat.le_of_ble_eq_true rfl) ⟨Nat.le_trans (show ((0 + 1) + 1) ≤ 2 by omega) (Nat.le_of_ble_eq_true rfl), Nat.le_trans (show ((0 + 6) + 6) ≤ 12 by omega) (Nat.le_of_ble_eq_true rfl)⟩ dX2_begins_29 (fun r9 h9 => lv_cv h9 ?_)
    refine lv_isub hx hb dX2_begins_32 ?_
    refine lv_goto (tgt := 37) hx hb dX2_begins_33 (by decide) ?_
    refine lv_iconst (v := nI 0) hx hb dX2_begins_37 (by decide) ?_
    rcases Nat.lt_or_ge (T i).length (T (4 + j)).length with hlt | hge
    · have hneg := subI_neg (by omega) (by omega) hlt
      refine kV_i (A := A) (b := (SA (7 + 2 * i))) (As := [.ref (SA (7 + 2 * (4 + j))), .int (nI ((T i).length) - nI ((T (4 + j)).length)), .int (bI false)]) (rest := []) ⟨hx, hb, hml, hown, hts⟩ (mX0_standsAt_n (A := A) (ca := SA (8 + 2 * i)) (cb := SA (8 + 2 * (4 + j))) (b0 := false) hneg) (cwV 3 hts (gV tw_2_94 tw_2_16 tw_2_17 tw_1_2 tw_2_18) rfl rfl rfl (by decide +kernel) ⟨Nat.le_of_ble_eq_true rfl, Nat.le_of_ble_eq_true rfl⟩) hC hS hA ((hW.line (i := i) (by omega)).recv hK) ⟨hW.line (i := i) (by omega), hW.line (i := (4 + j)) (by omega)⟩ rfl rfl hl.1 (Nat.le_of_ble_eq_true rfl) ⟨Nat.le_trans (show ((0 + 1) + 1) ≤ 2 by omega) (Nat.le_of_ble_eq_true rfl), Nat.le_trans (show ((0 + 6) + 6) ≤ 12 by omega) (Nat.le_of_ble_eq_true rfl)⟩ dX2_begins_38 (fun r9 h9 => lv_cv h9 ?_)
      exact vx_ret (q_z (b9 := false) hx hb hr hlocks dX2_begins_41 hS (by omega) (by omega) ⟨i, j, false, hi, hxi, hj, hyj, ⟨fun q => Bool.noConfusion q, fun q => by rw [if_pos rfl, ← ei, ← ek] at q; exact absurd q.1 (by omega)⟩, rfl, _, _, hW, hF⟩)
    · rw [pk_sub hge]
      refine kV_i (A := A) (b := (SA (7 + 2 * i))) (As := [.ref (SA (7 + 2 * (4 + j))), .int (nI ((T i).length - (T (4 + j)).length)), .int (bI false)]) (rest := []) ⟨hx, hb, hml, hown, hts⟩ (mX0_standsAt (A := A) (ca := SA (8 + 2 * i)) (cb := SA (8 + 2 * (4 + j))) (i := (T i).length - (T (4 + j)).length) (b0 := false) (by omega)) (cwV 3 hts (gV tw_2_94 tw_2_16 tw_2_17 tw_1_2 tw_2_18) rfl rfl rfl (by decide +kernel) ⟨Nat.le_of_ble_eq_true rfl, Nat.le_of_ble_eq_true rfl⟩) hC hS hA ((hW.line (i := i) (by omega)).recv hK) ⟨hW.line (i := i) (by omega), hW.line (i := (4 + j)) (by omega)⟩ rfl rfl hl.1 (Nat.le_of_ble_eq_true rfl) ⟨Nat.le_trans (show ((0 + 1) + 1) ≤ 2 by omega) (Nat.le_of_ble_eq_true rfl), Nat.le_trans (show ((0 + 6) + 6) ≤ 12 by omega) (Nat.le_of_ble_eq_true rfl)⟩ dX2_begins_38 (fun r_22 hr_22 => ?_)
      obtain ⟨v, hv, rfl⟩ := hr_22
      rw [ei, ek] at hv
      exact vx_ret (q_z (b9 := v) hx hb hr hlocks dX2_begins_41 hS (by omega) (by omega) ⟨i, j, v, hi, hxi, hj, hyj, by rw [if_pos rfl]; exact ⟨fun q => ⟨by rw [← ei, ← ek]; exact hge, hv.mp q⟩, fun q => hv.mpr q.2⟩, rfl, _, _, hW, hF⟩)

abbrev rmX2_stands : Room := { frames := 7, cells := 2, slots := 12, locals := 110 }
theorem mX2_stands {l : Launch} {G : Cx} {A : Nat → Prop} (hst : l.stackTraces = false) {SA : Nat → Nat} {X : Nat → List Nat} {es : List Nat} {k : Int32} {x p9 y : Int32} {b : Bool} (hAS : ∀ i : Nat, i < 39 → A (SA i)) : vx_Met l yX2_stands (.code yX2_stands cX2_stands 6 (some .boolean) :: GW) rmX2_stands (PC G A [.ref (SA 0), .int x, .int p9, .int y, .int (bI b)] (SS G SA X es k)) (qI A (fun r H => ∃ (i j : Nat) (v : Bool), i < 4 ∧ x = nI i ∧ j < 7 ∧ y = nI j ∧ (v = true ↔ ∃ a9 : Nat, a9 < 2 ^ 31 ∧ p9 = nI a9 ∧ stL b (X i) (knT j) a9) ∧ r = bI v ∧ SS G SA X es k H)) (xE A (fun E H => ((E = "java/lang/IndexOutOfBoundsException" ∧ NT x) ∨ (E = "java/lang/IllegalArgumentException" ∧ (∃ i : Nat, i < 4 ∧ x = nI i) ∧ NK y)) ∧ SS G SA X es k H)) 2 12 A := by
  refine mstartX "Signtext" (by decide +kernel) rfl (Nat.le_of_ble_eq_true rfl) ?_
  intro p e s m below meth c ls hx hb hr hts hown hml hlocks hnx hC hA hW hl
  have hl : lv_has ls 6 [(0, .ref (SA 0)), (1, .int x), (2, .int p9), (3, .int y), (4, .int (bI b))] := hl
  have hK := hC.1
  have hS : va_S A s.heap s.heap [] := va_S.rf
  obtain ⟨T, es2, hW, hF⟩ := hW
  have hO := hW.2.1
  have hR1 := hW.2.2.1
  have hR2 := hW.2.2.2.1
  refine lv_aload_n hx hb dX2_stands_0 rfl (lv_at hl 0 rfl) ?_
  refine lv_iload_n hx hb dX2_stands_1 rfl (lv_at hl 1 rfl) ?_
  refine xR_V (A := A) (A1 := A) (b := (SA 0)) (As := [.int x]) (rest := []) ⟨hx, hb, hml, hown, hts⟩ (mX2_textOf (A := A) hst ) (cwV 1 hts (gV tw_3_4 tw_3_6 sel_X2_textOf tw_1_1 tw_3_7) rfl rfl rfl (by decide +kernel) ⟨Nat.le_of_ble_eq_true rfl, Nat.le_of_ble_eq_true rfl⟩) hC hS (fun _ h => h) (fun q h => hA q (Nat.le_trans hS.1 h)) (hW.recv hK) hW rfl rfl hl.1 (Nat.le_of_ble_eq_true rfl) ⟨Nat.le_trans (show 0 + 1 ≤ 2 by omega) (Nat.le_of_ble_eq_true rfl), Nat.le_trans (show 0 + 6 ≤ 12 by omega) (Nat.le_of_ble_eq_true rfl)⟩ dX2_stands_2 hnx hlocks (by omega) (by omega) (fun E H9 q _ => ⟨Or.inl ⟨q.1, q.2.1⟩, _, _, q.2.2, hF⟩) (fun rv23 H23 L23 hP23 hk23 hS => ?_)
  have hZ23 := hS.1
  obtain ⟨⟨i, hi, hxi, hrv⟩, hW⟩ := hP23
  subst hrv
  have hO := hW.2.1
  have hR1 := hW.2.2.1
  have hR2 := hW.2.2.2.1
  have ei := hF i (Or.inl hi)
  refine lv_astore (lv' := [(5, .ref (SA (7 + 2 * i))), (0, .ref (SA 0)), (1, .int x), (2, .int p9), (3, .int y), (4, .int (bI b))]) hx hb dX2_stands_5 hl (by decide) rfl (fun ls hl => ?_)
  refine lv_aload hx hb dX2_stands_7 (lv_at hl 0 rfl) ?_
  refine lv_aload_n hx hb dX2_stands_9 rfl (lv_at hl 1 rfl) ?_
  refine lv_iload_n hx hb dX2_stands_10 rfl (lv_at hl 4 rfl) ?_
  refine xR_V (A := A) (A1 := A) (b := (SA 0)) (As := [.int y]) (rest := .ref (SA (7 + 2 * i)) :: []) ⟨hx, hb, hml, hown, hts⟩ (mX2_knownOf (A := A) hst ) (cwV 1 hts (gV tw_3_162 tw_3_164 sel_X2_knownOf tw_1_1 tw_3_165) rfl rfl rfl (by decide +kernel) ⟨Nat.le_of_ble_eq_true rfl, Nat.le_of_ble_eq_true rfl⟩) hC hS (fun _ h => h) (fun q h => hA q (Nat.le_trans hS.1 h)) (hW.recv hK) hW rfl rfl hl.1 (Nat.le_of_ble_eq_true rfl) ⟨Nat.le_trans (show (0 + 1) + 1 ≤ 2 by omega) (Nat.le_of_ble_eq_true rfl), Nat.le_trans (show (0 + 6) + 6 ≤ 12 by omega) (Nat.le_of_ble_eq_true rfl)⟩ dX2_stands_11 hnx hlocks (by omega) (by omega) (fun E H9 q _ => ⟨Or.inr ⟨q.1, ⟨i, hi, hxi⟩, q.2.1⟩, _, _, q.2.2, hF⟩) (fun rv24 H24 L24 hP24 hk24 hS => ?_)
  have hZ24 := hS.1
  obtain ⟨⟨j, hj, hyj, hrv⟩, hW⟩ := hP24
  rw [show 15 + 2 * j = 7 + 2 * (4 + j) by omega] at hrv
  subst hrv
  have ek := hW.2.2.2.2.2.2.2.2.2 j hj
  refine lv_iload_n hx hb dX2_stands_14 rfl (lv_at hl 3 rfl) ?_
  refine lv_iload hx hb dX2_stands_15 (lv_at hl 5 rfl) ?_
  by_cases hneg : p9 < 0
  · refine kV_i (A := A) (b := (SA (7 + 2 * i))) (As := [.ref (SA (7 + 2 * (4 + j))), .int p9, .int (bI b)]) (rest := []) ⟨hx, hb, hml, hown, hts⟩ (mX0_standsAt_n (A := A) (ca := SA (8 + 2 * i)) (cb := SA (8 + 2 * (4 + j))) (b0 := b) hneg) (cwV 3 hts (gV tw_2_94 tw_2_16 tw_2_17 tw_1_2 tw_2_18) rfl rfl rfl (by decide +kernel) ⟨Nat.le_of_ble_eq_true rfl, Nat.le_of_ble_eq_true rfl⟩) hC hS hA ((hW.line (i := i) (by omega)).recv hK) ⟨hW.line (i := i) (by omega), hW.line (i := (4 + j)) (by omega)⟩ rfl rfl hl.1 (Nat.le_of_ble_eq_true rfl) ⟨Nat.le_trans (show ((0 + 1) + 1) ≤ 2 by omega) (Nat.le_of_ble_eq_true rfl), Nat.le_trans (show ((0 + 6) + 6) ≤ 12 by omega) (Nat.le_of_ble_eq_true rfl)⟩ dX2_stands_17 (fun r9 h9 => lv_cv h9 ?_)
    exact vx_ret (q_z (b9 := false) hx hb hr hlocks dX2_stands_20 hS (by omega) (by omega) ⟨i, j, false, hi, hxi, hj, hyj, ⟨fun q => Bool.noConfusion q, fun ⟨a9, w1, w2, w3⟩ => by rw [w2] at hneg; exact absurd hneg (nI_pos w1)⟩, rfl, _, _, hW, hF⟩)
  · obtain ⟨a9, ha31, rfl⟩ := nI_of hneg
    refine kV_i (A := A) (b := (SA (7 + 2 * i))) (As := [.ref (SA (7 + 2 * (4 + j))), .int (nI a9), .int (bI b)]) (rest := []) ⟨hx, hb, hml, hown, hts⟩ (mX0_standsAt (A := A) (ca := SA (8 + 2 * i)) (cb := SA (8 + 2 * (4 + j))) (i := a9) (b0 := b) (by omega)) (cwV 3 hts (gV tw_2_94 tw_2_16 tw_2_17 tw_1_2 tw_2_18) rfl rfl rfl (by decide +kernel) ⟨Nat.le_of_ble_eq_true rfl, Nat.le_of_ble_eq_true rfl⟩) hC hS hA ((hW.line (i := i) (by omega)).recv hK) ⟨hW.line (i := i) (by omega), hW.line (i := (4 + j)) (by omega)⟩ rfl rfl hl.1 (Nat.le_of_ble_eq_true rfl) ⟨Nat.le_trans (show ((0 + 1) + 1) ≤ 2 by omega) (Nat.le_of_ble_eq_true rfl), Nat.le_trans (show ((0 + 6) + 6) ≤ 12 by omega) (Nat.le_of_ble_eq_true rfl)⟩ dX2_stands_17 (fun r_25 hr_25 => ?_)
    obtain ⟨v, hv, rfl⟩ := hr_25
    rw [ei, ek] at hv
    exact vx_ret (q_z (b9 := v) hx hb hr hlocks dX2_stands_20 hS (by omega) (by omega) ⟨i, j, v, hi, hxi, hj, hyj, ⟨fun q => ⟨a9, ha31, rfl, hv.mp q⟩, fun ⟨a0, w1, w2, w3⟩ => hv.mpr (by rw [(nI_eq ha31 w1).mp w2]; exact w3)⟩, rfl, _, _, hW, hF⟩)

abbrev rmX2_firstOf : Room := { frames := 7, cells := 2, slots := 12, locals := 110 }
theorem mX2_firstOf {l : Launch} {G : Cx} {A : Nat → Prop} (hst : l.stackTraces = false) {SA : Nat → Nat} {X : Nat → List Nat} {es : List Nat} {k : Int32} {x y : Int32} (hAS : ∀ i : Nat, i < 39 → A (SA i)) : vx_Met l yX2_firstOf (.code yX2_firstOf cX2_firstOf 3 (some .int) :: GW) rmX2_firstOf (PC G A [.ref (SA 0), .int x, .int y] (SS G SA X es k)) (qI A (fun r H => ∃ i j : Nat, i < 4 ∧ x = nI i ∧ j < 4 ∧ y = nI j ∧ fstR (fun k9 => stL false (X i) (X j) k9) r ∧ SS G SA X es k H)) (xE A (fun E H => (E = "java/lang/IndexOutOfBoundsException" ∧ (NT x ∨ NT y)) ∧ SS G SA X es k H)) 2 12 A := by
  refine mstartX "Signtext" (by decide +kernel) rfl (Nat.le_of_ble_eq_true rfl) ?_
  intro p e s m below meth c ls hx hb hr hts hown hml hlocks hnx hC hA hW hl
  have hl : lv_has ls 3 [(0, .ref (SA 0)), (1, .int x), (2, .int y)] := hl
  have hK := hC.1
  have hS : va_S A s.heap s.heap [] := va_S.rf
  obtain ⟨T, es2, hW, hF⟩ := hW
  have hO := hW.2.1
  have hR1 := hW.2.2.1
  have hR2 := hW.2.2.2.1
  refine lv_aload_n hx hb dX2_firstOf_0 rfl (lv_at hl 0 rfl) ?_
  refine lv_iload_n hx hb dX2_firstOf_1 rfl (lv_at hl 1 rfl) ?_
  refine xR_V (A := A) (A1 := A) (b := (SA 0)) (As := [.int x]) (rest := []) ⟨hx, hb, hml, hown, hts⟩ (mX2_textOf (A := A) hst ) (cwV 1 hts (gV tw_3_4 tw_3_6 sel_X2_textOf tw_1_1 tw_3_7) rfl rfl rfl (by decide +kernel) ⟨Nat.le_of_ble_eq_true rfl, Nat.le_of_ble_eq_true rfl⟩) hC hS (fun _ h => h) (fun q h => hA q (Nat.le_trans hS.1 h)) (hW.recv hK) hW rfl rfl hl.1 (Nat.le_of_ble_eq_true rfl) ⟨Nat.le_trans (show 0 + 1 ≤ 2 by omega) (Nat.le_of_ble_eq_true rfl), Nat.le_trans (show 0 + 6 ≤ 12 by omega) (Nat.le_of_ble_eq_true rfl)⟩ dX2_firstOf_2 hnx hlocks (by omega) (by omega) (fun E H9 q _ => ⟨⟨q.1, Or.inl q.2.1⟩, _, _, q.2.2, hF⟩) (fun rv26 H26 L26 hP26 hk26 hS => ?_)
  have hZ26 := hS.1
  obtain ⟨⟨i, hi, hxi, hrv⟩, hW⟩ := hP26
  subst hrv
  have hO := hW.2.1
  have hR1 := hW.2.2.1
  have hR2 := hW.2.2.2.1
  have ei := hF i (Or.inl hi)
  refine lv_aload_n hx hb dX2_firstOf_5 rfl (lv_at hl 0 rfl) ?_
  refine lv_iload_n hx hb dX2_firstOf_6 rfl (lv_at hl 2 rfl) ?_
  refine xR_V (A := A) (A1 := A) (b := (SA 0)) (As := [.int y]) (rest := .ref (SA (7 + 2 * i)) :: []) ⟨hx, hb, hml, hown, hts⟩ (mX2_textOf (A := A) hst ) (cwV 1 hts (gV tw_3_4 tw_3_6 sel_X2_textOf tw_1_1 tw_3_7) rfl rfl rfl (by decide +kernel) ⟨Nat.le_of_ble_eq_true rfl, Nat.le_of_ble_eq_true rfl⟩) hC hS (fun _ h => h) (fun q h => hA q (Nat.le_trans hS.1 h)) (hW.recv hK) hW rfl rfl hl.1 (Nat.le_of_ble_eq_true rfl) ⟨Nat.le_trans (show (0 + 1) + 1 ≤ 2 by omega) (Nat.le_of_ble_eq_true rfl), Nat.le_trans (show (0 + 6) + 6 ≤ 12 by omega) (Nat.le_of_ble_eq_true rfl)⟩ dX2_firstOf_7 hnx hlocks (by omega) (by omega) (fun E H9 q _ => ⟨⟨q.1, Or.inr q.2.1⟩, _, _, q.2.2, hF⟩) (fun rv27 H27 L27 hP27 hk27 hS => ?_)
  have hZ27 := hS.1
  obtain ⟨⟨j, hj, hxj, hrv⟩, hW⟩ := hP27
  subst hrv
  have hO := hW.2.1
  have hR1 := hW.2.2.1
  have hR2 := hW.2.2.2.1
  have ej := hF j (Or.inl hj)
  refine kV_i (A := A) (b := (SA (7 + 2 * i))) (As := [.ref (SA (7 + 2 * j))]) (rest := []) ⟨hx, hb, hml, hown, hts⟩ (mX0_firstPlaceOf (A := A) (ca := SA (8 + 2 * i)) (cb := SA (8 + 2 * j)) ) (cwV 1 hts (gV tw_2_102 tw_2_103 tw_2_104 tw_1_2 tw_2_105) rfl rfl rfl (by decide +kernel) ⟨Nat.le_of_ble_eq_true rfl, Nat.le_of_ble_eq_true rfl⟩) hC hS hA ((hW.line (i := i) (by omega)).recv hK) ⟨hW.line (i := i) (by omega), hW.line (i := j) (by omega)⟩ rfl rfl hl.1 (Nat.le_of_ble_eq_true rfl) ⟨Nat.le_trans (show ((0 + 1) + 1) ≤ 2 by omega) (Nat.le_of_ble_eq_true rfl), Nat.le_trans (show ((0 + 6) + 6) ≤ 12 by omega) (Nat.le_of_ble_eq_true rfl)⟩ dX2_firstOf_10 (fun r_28 hr_28 => ?_)
  have h7 : fstR (fun k9 => stL false (T i) (T j) k9) r_28 := hr_28
  rw [ei, ej] at h7
  exact vx_ret (q_i hx hb hr hlocks dX2_firstOf_13 hS (by omega) (by omega) ⟨i, j, hi, hxi, hj, hxj, h7, _, _, hW, hF⟩)

abbrev rmX2_lastOf : Room := { frames := 7, cells := 2, slots := 12, locals := 110 }
theorem mX2_lastOf {l : Launch} {G : Cx} {A : Nat → Prop} (hst : l.stackTraces = false) {SA : Nat → Nat} {X : Nat → List Nat} {es : List Nat} {k : Int32} {x y : Int32} (hAS : ∀ i : Nat, i < 39 → A (SA i)) : vx_Met l yX2_lastOf (.code yX2_lastOf cX2_lastOf 3 (some .int) :: GW) rmX2_lastOf (PC G A [.ref (SA 0), .int x, .int y] (SS G SA X es k)) (qI A (fun r H => ∃ i j : Nat, i < 4 ∧ x = nI i ∧ j < 4 ∧ y = nI j ∧ lstR (fun k9 => stL false (X i) (X j) k9) r ∧ SS G SA X es k H)) (xE A (fun E H => (E = "java/lang/IndexOutOfBoundsException" ∧ (NT x ∨ NT y)) ∧ SS G SA X es k H)) 2 12 A := by
  refine mstartX "Signtext" (by decide +kernel) rfl (Nat.le_of_ble_eq_true rfl) ?_
  intro p e s m below meth c ls hx hb hr hts hown hml hlocks hnx hC hA hW hl
  have hl : lv_has ls 3 [(0, .ref (SA 0)), (1, .int x), (2, .int y)] := hl
  have hK := hC.1
  have hS : va_S A s.heap s.heap [] := va_S.rf
  obtain ⟨T, es2, hW, hF⟩ := hW
  have hO := hW.2.1
  have hR1 := hW.2.2.1
  have hR2 := hW.2.2.2.1
  refine lv_aload_n hx hb dX2_lastOf_0 rfl (lv_at hl 0 rfl) ?_
  refine lv_iload_n hx hb dX2_lastOf_1 rfl (lv_at hl 1 rfl) ?_
  refine xR_V (A := A) (A1 := A) (b := (SA 0)) (As := [.int x]) (rest := []) ⟨hx, hb, hml, hown, hts⟩ (mX2_textOf (A := A) hst ) (cwV 1 hts (gV tw_3_4 tw_3_6 sel_X2_textOf tw_1_1 tw_3_7) rfl rfl rfl (by decide +kernel) ⟨Nat.le_of_ble_eq_true rfl, Nat.le_of_ble_eq_true rfl⟩) hC hS (fun _ h => h) (fun q h => hA q (Nat.le_trans hS.1 h)) (hW.recv hK) hW rfl rfl hl.1 (Nat.le_of_ble_eq_true rfl) ⟨Nat.le_trans (show 0 + 1 ≤ 2 by omega) (Nat.le_of_ble_eq_true rfl), Nat.le_trans (show 0 + 6 ≤ 12 by omega) (Nat.le_of_ble_eq_true rfl)⟩ dX2_lastOf_2 hnx hlocks (by omega) (by omega) (fun E H9 q _ => ⟨⟨q.1, Or.inl q.2.1⟩, _, _, q.2.2, hF⟩) (fun rv29 H29 L29 hP29 hk29 hS => ?_)
  have hZ29 := hS.1
  obtain ⟨⟨i, hi, hxi, hrv⟩, hW⟩ := hP29
  subst hrv
  have hO := hW.2.1
  have hR1 := hW.2.2.1
  have hR2 := hW.2.2.2.1
  have ei := hF i (Or.inl hi)
  refine lv_aload_n hx hb dX2_lastOf_5 rfl (lv_at hl 0 rfl) ?_
  refine lv_iload_n hx hb dX2_lastOf_6 rfl (lv_at hl 2 rfl) ?_
  refine xR_V (A := A) (A1 := A) (b := (SA 0)) (As := [.int y]) (rest := .ref (SA (7 + 2 * i)) :: []) ⟨hx, hb, hml, hown, hts⟩ (mX2_textOf (A := A) hst ) (cwV 1 hts (gV tw_3_4 tw_3_6 sel_X2_textOf tw_1_1 tw_3_7) rfl rfl rfl (by decide +kernel) ⟨Nat.le_of_ble_eq_true rfl, Nat.le_of_ble_eq_true rfl⟩) hC hS (fun _ h => h) (fun q h => hA q (Nat.le_trans hS.1 h)) (hW.recv hK) hW rfl rfl hl.1 (Nat.le_of_ble_eq_true rfl) ⟨Nat.le_trans (show (0 + 1) + 1 ≤ 2 by omega) (Nat.le_of_ble_eq_true rfl), Nat.le_trans (show (0 + 6) + 6 ≤ 12 by omega) (Nat.le_of_ble_eq_true rfl)⟩ dX2_lastOf_7 hnx hlocks (by omega) (by omega) (fun E H9 q _ => ⟨⟨q.1, Or.inr q.2.1⟩, _, _, q.2.2, hF⟩) (fun rv30 H30 L30 hP30 hk30 hS => ?_)
  have hZ30 := hS.1
  obtain ⟨⟨j, hj, hxj, hrv⟩, hW⟩ := hP30
  subst hrv
  have hO := hW.2.1
  have hR1 := hW.2.2.1
  have hR2 := hW.2.2.2.1
  have ej := hF j (Or.inl hj)
  refine kV_i (A := A) (b := (SA (7 + 2 * i))) (As := [.ref (SA (7 + 2 * j))]) (rest := []) ⟨hx, hb, hml, hown, hts⟩ (mX0_lastPlaceOf (A := A) (ca := SA (8 + 2 * i)) (cb := SA (8 + 2 * j)) ) (cwV 1 hts (gV tw_2_106 tw_2_107 tw_2_108 tw_1_2 tw_2_109) rfl rfl rfl (by decide +kernel) ⟨Nat.le_of_ble_eq_true rfl, Nat.le_of_ble_eq_true rfl⟩) hC hS hA ((hW.line (i := i) (by omega)).recv hK) ⟨hW.line (i := i) (by omega), hW.line (i := j) (by omega)⟩ rfl rfl hl.1 (Nat.le_of_ble_eq_true rfl) ⟨Nat.le_trans (show ((0 + 1) + 1) ≤ 2 by omega) (Nat.le_of_ble_eq_true rfl), Nat.le_trans (show ((0 + 6) + 6) ≤ 12 by omega) (Nat.le_of_ble_eq_true rfl)⟩ dX2_lastOf_10 (fun r_31 hr_31 => ?_)
  have h7 : lstR (fun k9 => stL false (T i) (T j) k9) r_31 := hr_31
  rw [ei, ej] at h7
  exact vx_ret (q_i hx hb hr hlocks dX2_lastOf_13 hS (by omega) (by omega) ⟨i, j, hi, hxi, hj, hxj, h7, _, _, hW, hF⟩)

abbrev rmX2_isIn : Room := { frames := 7, cells := 2, slots := 12, locals := 110 }
theorem mX2_isIn {l : Launch} {G : Cx} {A : Nat → Prop} (hst : l.stackTraces = false) {SA : Nat → Nat} {X : Nat → List Nat} {es : List Nat} {k : Int32} {x y : Int32} (hAS : ∀ i : Nat, i < 39 → A (SA i)) : vx_Met l yX2_isIn (.code yX2_isIn cX2_isIn 3 (some .boolean) :: GW) rmX2_isIn (PC G A [.ref (SA 0), .int x, .int y] (SS G SA X es k)) (qI A (fun r H => ∃ i j : Nat, i < 4 ∧ x = nI i ∧ j < 4 ∧ y = nI j ∧ (∃ v : Bool, (v = true ↔ ∃ k9, stL false (X i) (X j) k9) ∧ r = bI v) ∧ SS G SA X es k H)) (xE A (fun E H => (E = "java/lang/IndexOutOfBoundsException" ∧ (NT x ∨ NT y)) ∧ SS G SA X es k H)) 2 12 A := by
  refine mstartX "Signtext" (by decide +kernel) rfl (Nat.le_of_ble_eq_true rfl) ?_
  intro p e s m below meth c ls hx hb hr hts hown hml hlocks hnx hC hA hW hl
  have hl : lv_has ls 3 [(0, .ref (SA 0)), (1, .int x), (2, .int y)] := hl
  have hK := hC.1
  have hS : va_S A s.heap s.heap [] := va_S.rf
  obtain ⟨T, es2, hW, hF⟩ := hW
  have hO := hW.2.1
  have hR1 := hW.2.2.1
  have hR2 := hW.2.2.2.1
  refine lv_aload_n hx hb dX2_isIn_0 rfl (lv_at hl 0 rfl) ?_
  refine lv_iload_n hx hb dX2_isIn_1 rfl (lv_at hl 1 rfl) ?_
  refine xR_V (A := A) (A1 := A) (b := (SA 0)) (As := [.int x]) (rest := []) ⟨hx, hb, hml, hown, hts⟩ (mX2_textOf (A := A) hst ) (cwV 1 hts (gV tw_3_4 tw_3_6 sel_X2_textOf tw_1_1 tw_3_7) rfl rfl rfl (by decide +kernel) ⟨Nat.le_of_ble_eq_true rfl, Nat.le_of_ble_eq_true rfl⟩) hC hS (fun _ h => h) (fun q h => hA q (Nat.le_trans hS.1 h)) (hW.recv hK) hW rfl rfl hl.1 (Nat.le_of_ble_eq_true rfl) ⟨Nat.le_trans (show 0 + 1 ≤ 2 by omega) (Nat.le_of_ble_eq_true rfl), Nat.le_trans (show 0 + 6 ≤ 12 by omega) (Nat.le_of_ble_eq_true rfl)⟩ dX2_isIn_2 hnx hlocks (by omega) (by omega) (fun E H9 q _ => ⟨⟨q.1, Or.inl q.2.1⟩, _, _, q.2.2, hF⟩) (fun rv32 H32 L32 hP32 hk32 hS => ?_)
  have hZ32 := hS.1
  obtain ⟨⟨i, hi, hxi, hrv⟩, hW⟩ := hP32
  subst hrv
  have hO := hW.2.1
  have hR1 := hW.2.2.1
  have hR2 := hW.2.2.2.1
  have ei := hF i (Or.inl hi)
  refine lv_aload_n hx hb dX2_isIn_5 rfl (lv_at hl 0 rfl) ?_
  refine lv_iload_n hx hb dX2_isIn_6 rfl (lv_at hl 2 rfl) ?_
  refine xR_V (A := A) (A1 := A) (b := (SA 0)) (As := [.int y]) (rest := .ref (SA (7 + 2 * i)) :: []) ⟨hx, hb, hml, hown, hts⟩ (mX2_textOf (A := A) hst ) (cwV 1 hts (gV tw_3_4 tw_3_6 sel_X2_textOf tw_1_1 tw_3_7) rfl rfl rfl (by decide +kernel) ⟨Nat.le_of_ble_eq_true rfl, Nat.le_of_ble_eq_true rfl⟩) hC hS (fun _ h => h) (fun q h => hA q (Nat.le_trans hS.1 h)) (hW.recv hK) hW rfl rfl hl.1 (Nat.le_of_ble_eq_true rfl) ⟨Nat.le_trans (show (0 + 1) + 1 ≤ 2 by omega) (Nat.le_of_ble_eq_true rfl), Nat.le_trans (show (0 + 6) + 6 ≤ 12 by omega) (Nat.le_of_ble_eq_true rfl)⟩ dX2_isIn_7 hnx hlocks (by omega) (by omega) (fun E H9 q _ => ⟨⟨q.1, Or.inr q.2.1⟩, _, _, q.2.2, hF⟩) (fun rv33 H33 L33 hP33 hk33 hS => ?_)
  have hZ33 := hS.1
  obtain ⟨⟨j, hj, hxj, hrv⟩, hW⟩ := hP33
  subst hrv
  have hO := hW.2.1
  have hR1 := hW.2.2.1
  have hR2 := hW.2.2.2.1
  have ej := hF j (Or.inl hj)
  refine kV_i (A := A) (b := (SA (7 + 2 * i))) (As := [.ref (SA (7 + 2 * j))]) (rest := []) ⟨hx, hb, hml, hown, hts⟩ (mX0_holds (A := A) (ca := SA (8 + 2 * i)) (cb := SA (8 + 2 * j)) ) (cwV 1 hts (gV tw_2_114 tw_2_115 tw_2_116 tw_1_2 tw_2_117) rfl rfl rfl (by decide +kernel) ⟨Nat.le_of_ble_eq_true rfl, Nat.le_of_ble_eq_true rfl⟩) hC hS hA ((hW.line (i := i) (by omega)).recv hK) ⟨hW.line (i := i) (by omega), hW.line (i := j) (by omega)⟩ rfl rfl hl.1 (Nat.le_of_ble_eq_true rfl) ⟨Nat.le_trans (show ((0 + 1) + 1) ≤ 2 by omega) (Nat.le_of_ble_eq_true rfl), Nat.le_trans (show ((0 + 6) + 6) ≤ 12 by omega) (Nat.le_of_ble_eq_true rfl)⟩ dX2_isIn_10 (fun r_34 hr_34 => ?_)
  obtain ⟨v, hv, rfl⟩ := hr_34
  rw [ei, ej] at hv
  exact vx_ret (q_z (b9 := v) hx hb hr hlocks dX2_isIn_13 hS (by omega) (by omega) ⟨i, j, hi, hxi, hj, hxj, ⟨v, hv, rfl⟩, _, _, hW, hF⟩)

abbrev rmX2_isSame : Room := { frames := 7, cells := 2, slots := 12, locals := 110 }
theorem mX2_isSame {l : Launch} {G : Cx} {A : Nat → Prop} (hst : l.stackTraces = false) {SA : Nat → Nat} {X : Nat → List Nat} {es : List Nat} {k : Int32} {x y : Int32} {b : Bool} (hAS : ∀ i : Nat, i < 39 → A (SA i)) : vx_Met l yX2_isSame (.code yX2_isSame cX2_isSame 4 (some .boolean) :: GW) rmX2_isSame (PC G A [.ref (SA 0), .int x, .int y, .int (bI b)] (SS G SA X es k)) (qI A (fun r H => ∃ i j : Nat, i < 4 ∧ x = nI i ∧ j < 4 ∧ y = nI j ∧ (∃ v : Bool, (v = true ↔ (X i).length = (X j).length ∧ stL b (X i) (X j) 0) ∧ r = bI v) ∧ SS G SA X es k H)) (xE A (fun E H => (E = "java/lang/IndexOutOfBoundsException" ∧ (NT x ∨ NT y)) ∧ SS G SA X es k H)) 2 12 A := by
  refine mstartX "Signtext" (by decide +kernel) rfl (Nat.le_of_ble_eq_true rfl) ?_
  intro p e s m below meth c ls hx hb hr hts hown hml hlocks hnx hC hA hW hl
  have hl : lv_has ls 4 [(0, .ref (SA 0)), (1, .int x), (2, .int y), (3, .int (bI b))] := hl
  have hK := hC.1
  have hS : va_S A s.heap s.heap [] := va_S.rf
  obtain ⟨T, es2, hW, hF⟩ := hW
  have hO := hW.2.1
  have hR1 := hW.2.2.1
  have hR2 := hW.2.2.2.1
  refine lv_aload_n hx hb dX2_isSame_0 rfl (lv_at hl 0 rfl) ?_
  refine lv_iload_n hx hb dX2_isSame_1 rfl (lv_at hl 1 rfl) ?_
  refine xR_V (A := A) (A1 := A) (b := (SA 0)) (As := [.int x]) (rest := []) ⟨hx, hb, hml, hown, hts⟩ (mX2_textOf (A := A) hst ) (cwV 1 hts (gV tw_3_4 tw_3_6 sel_X2_textOf tw_1_1 tw_3_7) rfl rfl rfl (by decide +kernel) ⟨Nat.le_of_ble_eq_true rfl, Nat.le_of_ble_eq_true rfl⟩) hC hS (fun _ h => h) (fun q h => hA q (Nat.le_trans hS.1 h)) (hW.recv hK) hW rfl rfl hl.1 (Nat.le_of_ble_eq_true rfl) ⟨Nat.le_trans (show 0 + 1 ≤ 2 by omega) (Nat.le_of_ble_eq_true rfl), Nat.le_trans (show 0 + 6 ≤ 12 by omega) (Nat.le_of_ble_eq_true rfl)⟩ dX2_isSame_2 hnx hlocks (by omega) (by omega) (fun E H9 q _ => ⟨⟨q.1, Or.inl q.2.1⟩, _, _, q.2.2, hF⟩) (fun rv35 H35 L35 hP35 hk35 hS => ?_)
  have hZ35 := hS.1
  obtain ⟨⟨i, hi, hxi, hrv⟩, hW⟩ := hP35
  subst hrv
  have hO := hW.2.1
  have hR1 := hW.2.2.1
  have hR2 := hW.2.2.2.1
  have ei := hF i (Or.inl hi)
  refine lv_aload_n hx hb dX2_isSame_5 rfl (lv_at hl 0 rfl) ?_
  refine lv_iload_n hx hb dX2_isSame_6 rfl (lv_at hl 2 rfl) ?_
  refine xR_V (A := A) (A1 := A) (b := (SA 0)) (As := [.int y]) (rest := .ref (SA (7 + 2 * i)) :: []) ⟨hx, hb, hml, hown, hts⟩ (mX2_textOf (A := A) hst ) (cwV 1 hts (gV tw_3_4 tw_3_6 sel_X2_textOf tw_1_1 tw_3_7) rfl rfl rfl (by decide +kernel) ⟨Nat.le_of_ble_eq_true rfl, Nat.le_of_ble_eq_true rfl⟩) hC hS (fun _ h => h) (fun q h => hA q (Nat.le_trans hS.1 h)) (hW.recv hK) hW rfl rfl hl.1 (Nat.le_of_ble_eq_true rfl) ⟨Nat.le_trans (show (0 + 1) + 1 ≤ 2 by omega) (Nat.le_of_ble_eq_true rfl), Nat.le_trans (show (0 + 6) + 6 ≤ 12 by omega) (Nat.le_of_ble_eq_true rfl)⟩ dX2_isSame_7 hnx hlocks (by omega) (by omega) (fun E H9 q _ => ⟨⟨q.1, Or.inr q.2.1⟩, _, _, q.2.2, hF⟩) (fun rv36 H36 L36 hP36 hk36 hS => ?_)
  have hZ36 := hS.1
  obtain ⟨⟨j, hj, hxj, hrv⟩, hW⟩ := hP36
  subst hrv
  have hO := hW.2.1
  have hR1 := hW.2.2.1
  have hR2 := hW.2.2.2.1
  have ej := hF j (Or.inl hj)
  refine lv_iload_n hx hb dX2_isSame_10 rfl (lv_at hl 3 rfl) ?_
  refine kV_i (A := A) (b := (SA (7 + 2 * i))) (As := [.ref (SA (7 + 2 * j)), .int (bI b)]) (rest := []) ⟨hx, hb, hml, hown, hts⟩ (mX0_isSameAs (A := A) (ca := SA (8 + 2 * i)) (cb := SA (8 + 2 * j)) (b0 := b)) (cwV 2 hts (gV tw_2_7 tw_2_8 tw_2_9 tw_1_2 tw_2_10) rfl rfl rfl (by decide +kernel) ⟨Nat.le_of_ble_eq_true rfl, Nat.le_of_ble_eq_true rfl⟩) hC hS hA ((hW.line (i := i) (by omega)).recv hK) ⟨hW.line (i := i) (by omega), hW.line (i := j) (by omega)⟩ rfl rfl hl.1 (Nat.le_of_ble_eq_true rfl) ⟨Nat.le_trans (show ((0 + 1) + 1) ≤ 2 by omega) (Nat.le_of_ble_eq_true rfl), Nat.le_trans (show ((0 + 6) + 6) ≤ 12 by omega) (Nat.le_of_ble_eq_true rfl)⟩ dX2_isSame_11 (fun r_37 hr_37 => ?_)
  obtain ⟨v, hv, rfl⟩ := hr_37
  rw [ei, ej] at hv
  exact vx_ret (q_z (b9 := v) hx hb hr hlocks dX2_isSame_14 hS (by omega) (by omega) ⟨i, j, hi, hxi, hj, hxj, ⟨v, hv, rfl⟩, _, _, hW, hF⟩)

abbrev rmX2_order : Room := { frames := 7, cells := 2, slots := 12, locals := 110 }
theorem mX2_order {l : Launch} {G : Cx} {A : Nat → Prop} (hst : l.stackTraces = false) {SA : Nat → Nat} {X : Nat → List Nat} {es : List Nat} {k : Int32} {x y : Int32} (hAS : ∀ i : Nat, i < 39 → A (SA i)) : vx_Met l yX2_order (.code yX2_order cX2_order 3 (some .int) :: GW) rmX2_order (PC G A [.ref (SA 0), .int x, .int y] (SS G SA X es k)) (qI A (fun r H => ∃ i j : Nat, i < 4 ∧ x = nI i ∧ j < 4 ∧ y = nI j ∧ ordR false (X i) (X j) r ∧ SS G SA X es k H)) (xE A (fun E H => (E = "java/lang/IndexOutOfBoundsException" ∧ (NT x ∨ NT y)) ∧ SS G SA X es k H)) 2 12 A := by
  refine mstartX "Signtext" (by decide +kernel) rfl (Nat.le_of_ble_eq_true rfl) ?_
  intro p e s m below meth c ls hx hb hr hts hown hml hlocks hnx hC hA hW hl
  have hl : lv_has ls 3 [(0, .ref (SA 0)), (1, .int x), (2, .int y)] := hl
  have hK := hC.1
  have hS : va_S A s.heap s.heap [] := va_S.rf
  obtain ⟨T, es2, hW, hF⟩ := hW
  have hO := hW.2.1
  have hR1 := hW.2.2.1
  have hR2 := hW.2.2.2.1
  refine lv_aload_n hx hb dX2_order_0 rfl (lv_at hl 0 rfl) ?_
  refine lv_iload_n hx hb dX2_order_1 rfl (lv_at hl 1 rfl) ?_
  refine xR_V (A := A) (A1 := A) (b := (SA 0)) (As := [.int x]) (rest := []) ⟨hx, hb, hml, hown, hts⟩ (mX2_textOf (A := A) hst ) (cwV 1 hts (gV tw_3_4 tw_3_6 sel_X2_textOf tw_1_1 tw_3_7) rfl rfl rfl (by decide +kernel) ⟨Nat.le_of_ble_eq_true rfl, Nat.le_of_ble_eq_true rfl⟩) hC hS (fun _ h => h) (fun q h => hA q (Nat.le_trans hS.1 h)) (hW.recv hK) hW rfl rfl hl.1 (Nat.le_of_ble_eq_true rfl) ⟨Nat.le_trans (show 0 + 1 ≤ 2 by omega) (Nat.le_of_ble_eq_true rfl), Nat.le_trans (show 0 + 6 ≤ 12 by omega) (Nat.le_of_ble_eq_true rfl)⟩ dX2_order_2 hnx hlocks (by omega) (by omega) (fun E H9 q _ => ⟨⟨q.1, Or.inl q.2.1⟩, _, _, q.2.2, hF⟩) (fun rv38 H38 L38 hP38 hk38 hS => ?_)
  have hZ38 := hS.1
  obtain ⟨⟨i, hi, hxi, hrv⟩, hW⟩ := hP38
  subst hrv
  have hO := hW.2.1
  have hR1 := hW.2.2.1
  have hR2 := hW.2.2.2.1
  have ei := hF i (Or.inl hi)
  refine lv_aload_n hx hb dX2_order_5 rfl (lv_at hl 0 rfl) ?_
  refine lv_iload_n hx hb dX2_order_6 rfl (lv_at hl 2 rfl) ?_
  refine xR_V (A := A) (A1 := A) (b := (SA 0)) (As := [.int y]) (rest := .ref (SA (7 + 2 * i)) :: []) ⟨hx, hb, hml, hown, hts⟩ (mX2_textOf (A := A) hst ) (cwV 1 hts (gV tw_3_4 tw_3_6 sel_X2_textOf tw_1_1 tw_3_7) rfl rfl rfl (by decide +kernel) ⟨Nat.le_of_ble_eq_true rfl, Nat.le_of_ble_eq_true rfl⟩) hC hS (fun _ h => h) (fun q h => hA q (Nat.le_trans hS.1 h)) (hW.recv hK) hW rfl rfl hl.1 (Nat.le_of_ble_eq_true rfl) ⟨Nat.le_trans (show (0 + 1) + 1 ≤ 2 by omega) (Nat.le_of_ble_eq_true rfl), Nat.le_trans (show (0 + 6) + 6 ≤ 12 by omega) (Nat.le_of_ble_eq_true rfl)⟩ dX2_order_7 hnx hlocks (by omega) (by omega) (fun E H9 q _ => ⟨⟨q.1, Or.inr q.2.1⟩, _, _, q.2.2, hF⟩) (fun rv39 H39 L39 hP39 hk39 hS => ?_)
  have hZ39 := hS.1
  obtain ⟨⟨j, hj, hxj, hrv⟩, hW⟩ := hP39
  subst hrv
  have hO := hW.2.1
  have hR1 := hW.2.2.1
  have hR2 := hW.2.2.2.1
  have ej := hF j (Or.inl hj)
  refine lv_iconst (v := nI 0) hx hb dX2_order_10 (by decide) ?_
  refine kV_i (A := A) (b := (SA (7 + 2 * i))) (As := [.ref (SA (7 + 2 * j)), .int (bI false)]) (rest := []) ⟨hx, hb, hml, hown, hts⟩ (mX0_orderTo (A := A) (ca := SA (8 + 2 * i)) (cb := SA (8 + 2 * j)) (b0 := false)) (cwV 2 hts (gV tw_2_98 tw_2_99 tw_2_100 tw_1_2 tw_2_101) rfl rfl rfl (by decide +kernel) ⟨Nat.le_of_ble_eq_true rfl, Nat.le_of_ble_eq_true rfl⟩) hC hS hA ((hW.line (i := i) (by omega)).recv hK) ⟨hW.line (i := i) (by omega), hW.line (i := j) (by omega)⟩ rfl rfl hl.1 (Nat.le_of_ble_eq_true rfl) ⟨Nat.le_trans (show ((0 + 1) + 1) ≤ 2 by omega) (Nat.le_of_ble_eq_true rfl), Nat.le_trans (show ((0 + 6) + 6) ≤ 12 by omega) (Nat.le_of_ble_eq_true rfl)⟩ dX2_order_11 (fun r_40 hr_40 => ?_)
  have h7 : ordR false (T i) (T j) r_40 := hr_40
  rw [ei, ej] at h7
  exact vx_ret (q_i hx hb hr hlocks dX2_order_14 hS (by omega) (by omega) ⟨i, j, hi, hxi, hj, hxj, h7, _, _, hW, hF⟩)

abbrev rmJ6_compare_7cf53 : Room := { frames := 0, cells := 0, slots := 0, locals := 0 }
theorem mJ6_compare_7cf53 {l : Launch} {G : Cx} {A : Nat → Prop} {x : Int32} : Met l yJ6_compare_7cf53 (.code yJ6_compare_7cf53 cJ6_compare_7cf53 2 (some .int) :: GW) rmJ6_compare_7cf53 (PC G A [.int x, .int (nI 0)] (fun _ => True)) (vp_Si (fun r => r = sgI x)) 0 0 (fun _ => False) := by
  refine mstart "java/lang/Integer" (by decide +kernel) rfl (Nat.le_of_ble_eq_true rfl) ?_
  intro p e s m below meth c ls hx hb hr hts hown hml hlocks hname hC hA hW hl
  have hl : lv_has ls 2 [(0, .int x), (1, .int (nI 0))] := hl
  have hK := hC.1
  have hS : va_S A s.heap s.heap [] := va_S.rf
  refine lv_iload_n hx hb dJ6_compare_7cf53_0 rfl (lv_at hl 0 rfl) ?_
  refine lv_iload_n hx hb dJ6_compare_7cf53_1 rfl (lv_at hl 1 rfl) ?_
  refine lv_icmp_ge (tgt := 9) hx hb dJ6_compare_7cf53_2 (by decide) (fun c_41 => ?_) (fun c_41 => ?_)
  · refine lv_iload_n hx hb dJ6_compare_7cf53_9 rfl (lv_at hl 0 rfl) ?_
    refine lv_iload_n hx hb dJ6_compare_7cf53_10 rfl (lv_at hl 1 rfl) ?_
    refine lv_icmp_ne (tgt := 18) hx hb dJ6_compare_7cf53_11 (by decide) (fun c_42 => ?_) (fun c_42 => ?_)
    · refine lv_iconst (v := nI 1) hx hb dJ6_compare_7cf53_18 (by decide) ?_
      exact p_i hx hb hr hlocks dJ6_compare_7cf53_19 (by unfold sgI; rw [if_neg (show ¬ x < 0 from (fun q => absurd c_41 (Int32.not_le.mpr q))), if_neg (show ¬ x = 0 from c_42)]; rfl)
    · refine lv_iconst (v := nI 0) hx hb dJ6_compare_7cf53_14 (by decide) ?_
      refine lv_goto (tgt := 19) hx hb dJ6_compare_7cf53_15 (by decide) ?_
      exact p_i hx hb hr hlocks dJ6_compare_7cf53_19 (by unfold sgI; rw [if_neg (show ¬ x < 0 from (fun q => absurd c_41 (Int32.not_le.mpr q))), if_pos (show x = 0 from c_42)]; rfl)
  · refine lv_iconst (v := (-1)) hx hb dJ6_compare_7cf53_5 (by decide) ?_
    refine lv_goto (tgt := 19) hx hb dJ6_compare_7cf53_6 (by decide) ?_
    exact p_i hx hb hr hlocks dJ6_compare_7cf53_19 (by unfold sgI; rw [if_pos (show x < 0 from (Int32.not_le.mp c_41))])

abbrev rmX2_directionOf : Room := { frames := 1, cells := 0, slots := 0, locals := 21 }
theorem mX2_directionOf {l : Launch} {G : Cx} {A : Nat → Prop} {x : Int32} : Met l yX2_directionOf (.code yX2_directionOf cX2_directionOf 1 (some .int) :: GW) rmX2_directionOf (PC G A [.int x] (fun _ => True)) (vp_Si (fun r => r = sgI x)) 0 0 (fun _ => False) := by
  refine mstart "Signtext" (by decide +kernel) rfl (Nat.le_of_ble_eq_true rfl) ?_
  intro p e s m below meth c ls hx hb hr hts hown hml hlocks hname hC hA hW hl
  have hl : lv_has ls 1 [(0, .int x)] := hl
  have hK := hC.1
  have hS : va_S A s.heap s.heap [] := va_S.rf
  refine lv_iload_n hx hb dX2_directionOf_0 rfl (lv_at hl 0 rfl) ?_
  refine lv_iconst (v := nI 0) hx hb dX2_directionOf_1 (by decide) ?_
  refine kS_i (A := A) (As := [.int x, .int (nI 0)]) (rest := []) ⟨hx, hb, hml, hown, hts⟩ (mJ6_compare_7cf53 (A := A) ) (va_cwS 2 hts (gS tw_2_217 tw_2_218 tw_1_27 tw_2_219) rfl rfl rfl (by decide +kernel) ⟨Nat.le_of_ble_eq_true rfl, Nat.le_of_ble_eq_true rfl⟩) hC hS hA  trivial rfl rfl hl.1 (Nat.le_of_ble_eq_true rfl) ⟨Nat.zero_le _, Nat.zero_le _⟩ dX2_directionOf_2 (fun r9 h9 => lv_cv h9 ?_)
  exact p_i hx hb hr hlocks dX2_directionOf_5 rfl

abbrev rmX2_orderLike : Room := { frames := 7, cells := 2, slots := 12, locals := 110 }
theorem mX2_orderLike {l : Launch} {G : Cx} {A : Nat → Prop} (hst : l.stackTraces = false) {SA : Nat → Nat} {X : Nat → List Nat} {es : List Nat} {k : Int32} {x y : Int32} (hAS : ∀ i : Nat, i < 39 → A (SA i)) : vx_Met l yX2_orderLike (.code yX2_orderLike cX2_orderLike 3 (some .int) :: GW) rmX2_orderLike (PC G A [.ref (SA 0), .int x, .int y] (SS G SA X es k)) (qI A (fun r H => ∃ i j : Nat, i < 4 ∧ x = nI i ∧ j < 4 ∧ y = nI j ∧ (∃ o9, ordR true (X i) (X j) o9 ∧ r = sgI o9) ∧ SS G SA X es k H)) (xE A (fun E H => (E = "java/lang/IndexOutOfBoundsException" ∧ (NT x ∨ NT y)) ∧ SS G SA X es k H)) 2 12 A := by
  refine mstartX "Signtext" (by decide +kernel) rfl (Nat.le_of_ble_eq_true rfl) ?_
  intro p e s m below meth c ls hx hb hr hts hown hml hlocks hnx hC hA hW hl
  have hl : lv_has ls 3 [(0, .ref (SA 0)), (1, .int x), (2, .int y)] := hl
  have hK := hC.1
  have hS : va_S A s.heap s.heap [] := va_S.rf
  obtain ⟨T, es2, hW, hF⟩ := hW
  have hO := hW.2.1
  have hR1 := hW.2.2.1
  have hR2 := hW.2.2.2.1
  refine lv_aload_n hx hb dX2_orderLike_0 rfl (lv_at hl 0 rfl) ?_
  refine lv_iload_n hx hb dX2_orderLike_1 rfl (lv_at hl 1 rfl) ?_
  refine xR_V (A := A) (A1 := A) (b := (SA 0)) (As := [.int x]) (rest := []) ⟨hx, hb, hml, hown, hts⟩ (mX2_textOf (A := A) hst ) (cwV 1 hts (gV tw_3_4 tw_3_6 sel_X2_textOf tw_1_1 tw_3_7) rfl rfl rfl (by decide +kernel) ⟨Nat.le_of_ble_eq_true rfl, Nat.le_of_ble_eq_true rfl⟩) hC hS (fun _ h => h) (fun q h => hA q (Nat.le_trans hS.1 h)) (hW.recv hK) hW rfl rfl hl.1 (Nat.le_of_ble_eq_true rfl) ⟨Nat.le_trans (show 0 + 1 ≤ 2 by omega) (Nat.le_of_ble_eq_true rfl), Nat.le_trans (show 0 + 6 ≤ 12 by omega) (Nat.le_of_ble_eq_true rfl)⟩ dX2_orderLike_2 hnx hlocks (by omega) (by omega) (fun E H9 q _ => ⟨⟨q.1, Or.inl q.2.1⟩, _, _, q.2.2, hF⟩) (fun rv43 H43 L43 hP43 hk43 hS => ?_)
  have hZ43 := hS.1
  obtain ⟨⟨i, hi, hxi, hrv⟩, hW⟩ := hP43
  subst hrv
  have hO := hW.2.1
  have hR1 := hW.2.2.1
  have hR2 := hW.2.2.2.1
  have ei := hF i (Or.inl hi)
  refine lv_aload_n hx hb dX2_orderLike_5 rfl (lv_at hl 0 rfl) ?_
  refine lv_iload_n hx hb dX2_orderLike_6 rfl (lv_at hl 2 rfl) ?_
  refine xR_V (A := A) (A1 := A) (b := (SA 0)) (As := [.int y]) (rest := .ref (SA (7 + 2 * i)) :: []) ⟨hx, hb, hml, hown, hts⟩ (mX2_textOf (A := A) hst ) (cwV 1 hts (gV tw_3_4 tw_3_6 sel_X2_textOf tw_1_1 tw_3_7) rfl rfl rfl (by decide +kernel) ⟨Nat.le_of_ble_eq_true rfl, Nat.le_of_ble_eq_true rfl⟩) hC hS (fun _ h => h) (fun q h => hA q (Nat.le_trans hS.1 h)) (hW.recv hK) hW rfl rfl hl.1 (Nat.le_of_ble_eq_true rfl) ⟨Nat.le_trans (show (0 + 1) + 1 ≤ 2 by omega) (Nat.le_of_ble_eq_true rfl), Nat.le_trans (show (0 + 6) + 6 ≤ 12 by omega) (Nat.le_of_ble_eq_true rfl)⟩ dX2_orderLike_7 hnx hlocks (by omega) (by omega) (fun E H9 q _ => ⟨⟨q.1, Or.inr q.2.1⟩, _, _, q.2.2, hF⟩) (fun rv44 H44 L44 hP44 hk44 hS => ?_)
  have hZ44 := hS.1
  obtain ⟨⟨j, hj, hxj, hrv⟩, hW⟩ := hP44
  subst hrv
  have hO := hW.2.1
  have hR1 := hW.2.2.1
  have hR2 := hW.2.2.2.1
  have ej := hF j (Or.inl hj)
  refine lv_iconst (v := nI 1) hx hb dX2_orderLike_10 (by decide) ?_
  refine kV_i (A := A) (b := (SA (7 + 2 * i))) (As := [.ref (SA (7 + 2 * j)), .int (bI true)]) (rest := []) ⟨hx, hb, hml, hown, hts⟩ (mX0_orderTo (A := A) (ca := SA (8 + 2 * i)) (cb := SA (8 + 2 * j)) (b0 := true)) (cwV 2 hts (gV tw_2_98 tw_2_99 tw_2_100 tw_1_2 tw_2_101) rfl rfl rfl (by decide +kernel) ⟨Nat.le_of_ble_eq_true rfl, Nat.le_of_ble_eq_true rfl⟩) hC hS hA ((hW.line (i := i) (by omega)).recv hK) ⟨hW.line (i := i) (by omega), hW.line (i := j) (by omega)⟩ rfl rfl hl.1 (Nat.le_of_ble_eq_true rfl) ⟨Nat.le_trans (show ((0 + 1) + 1) ≤ 2 by omega) (Nat.le_of_ble_eq_true rfl), Nat.le_trans (show ((0 + 6) + 6) ≤ 12 by omega) (Nat.le_of_ble_eq_true rfl)⟩ dX2_orderLike_11 (fun r_45 hr_45 => ?_)
  have h7 : ordR true (T i) (T j) r_45 := hr_45
  rw [ei, ej] at h7
  refine kS_i (A := A) (As := [.int r_45]) (rest := []) ⟨hx, hb, hml, hown, hts⟩ (mX2_directionOf (A := A) ) (va_cwS 1 hts (gS tw_2_214 tw_2_215 tw_1_1 tw_2_216) rfl rfl rfl (by decide +kernel) ⟨Nat.le_of_ble_eq_true rfl, Nat.le_of_ble_eq_true rfl⟩) hC hS hA  trivial rfl rfl hl.1 (Nat.le_of_ble_eq_true rfl) ⟨Nat.le_trans (show ((0 + 1) + 1) ≤ 2 by omega) (Nat.le_of_ble_eq_true rfl), Nat.le_trans (show ((0 + 6) + 6) ≤ 12 by omega) (Nat.le_of_ble_eq_true rfl)⟩ dX2_orderLike_14 (fun r9 h9 => lv_cv h9 ?_)
  exact vx_ret (q_i hx hb hr hlocks dX2_orderLike_17 hS (by omega) (by omega) ⟨i, j, hi, hxi, hj, hxj, ⟨_, h7, rfl⟩, _, _, hW, hF⟩)

abbrev rmX2_rowAt : Room := { frames := 7, cells := 1, slots := 6, locals := 110 }
theorem mX2_rowAt {l : Launch} {G : Cx} {A : Nat → Prop} (hst : l.stackTraces = false) {SA : Nat → Nat} {X : Nat → List Nat} {es : List Nat} {k : Int32} {x : Int32} (hAS : ∀ i : Nat, i < 39 → A (SA i)) : vx_Met l yX2_rowAt (.code yX2_rowAt cX2_rowAt 2 (some .int) :: GW) rmX2_rowAt (PC G A [.ref (SA 0), .int x] (SS G SA X es k)) (qI A (fun r H => ∃ a9 : Nat, a9 < (X 11).length ∧ x = nI a9 ∧ r = nI ((X 11).getD a9 0) ∧ SS G SA X es k H)) (xE A (fun E H => (E = "java/lang/IndexOutOfBoundsException" ∧ ¬ ∃ a9 : Nat, a9 < (X 11).length ∧ x = nI a9) ∧ SS G SA X es k H)) 1 6 A := by
  refine mstartX "Signtext" (by decide +kernel) rfl (Nat.le_of_ble_eq_true rfl) ?_
  intro p e s m below meth c ls hx hb hr hts hown hml hlocks hnx hC hA hW hl
  have hl : lv_has ls 2 [(0, .ref (SA 0)), (1, .int x)] := hl
  have hK := hC.1
  have hS : va_S A s.heap s.heap [] := va_S.rf
  obtain ⟨T, es2, hW, hF⟩ := hW
  have hO := hW.2.1
  have hR1 := hW.2.2.1
  have hR2 := hW.2.2.2.1
  have e11 := hF 11 (Or.inr (Or.inl rfl))
  refine lv_aload_n hx hb dX2_rowAt_0 rfl (lv_at hl 0 rfl) ?_
  refine va_get (D := G.1) (ci := 6) (C := RX2) (T := TX2) (N := 8) hx hb hts inX2 hown hK (at_P hO) 0 rfl rfl 2 (by decide) (hts _ tw_1_139) (fun _ h9 => h9) rfl dX2_rowAt_1 ?_
  refine lv_iload_n hx hb dX2_rowAt_4 rfl (lv_at hl 1 rfl) ?_
  refine xV_S (A := A) (A1 := A)  (As := [.ref (SA 29), .int x]) (rest := []) ⟨hx, hb, hml, hown, hts⟩ (mX2_needPlace (A := A) hst (q := 11) (by decide)) (va_cwS 2 hts (gS tw_3_180 tw_3_181 tw_1_1 tw_3_182) rfl rfl rfl (by decide +kernel) ⟨Nat.le_of_ble_eq_true rfl, Nat.le_of_ble_eq_true rfl⟩) hC hS (fun _ h => h) (fun q h => hA q (Nat.le_trans hS.1 h))  hW rfl rfl hl.1 (Nat.le_of_ble_eq_true rfl) ⟨Nat.le_trans (show 0 + 1 ≤ 1 by omega) (Nat.le_of_ble_eq_true rfl), Nat.le_trans (show 0 + 6 ≤ 6 by omega) (Nat.le_of_ble_eq_true rfl)⟩ dX2_rowAt_5 hnx hlocks (by omega) (by omega) (fun E H9 q _ => ⟨⟨q.1, by rw [← e11]; exact q.2.1⟩, _, _, q.2.2, hF⟩) (fun H46 L46 hP46 hk46 hS => ?_)
  have hZ46 := hS.1
  obtain ⟨⟨a9, ha9, rfl⟩, hW⟩ := hP46
  have hO := hW.2.1
  have hR1 := hW.2.2.1
  have hR2 := hW.2.2.2.1
  refine lv_aload_n hx hb dX2_rowAt_8 rfl (lv_at hl 0 rfl) ?_
  refine va_get (D := G.1) (ci := 6) (C := RX2) (T := TX2) (N := 8) hx hb hts inX2 hown hK (at_P hO) 0 rfl rfl 2 (by decide) (hts _ tw_1_139) (fun _ h9 => h9) rfl dX2_rowAt_9 ?_
  refine lv_iload_n hx hb dX2_rowAt_12 rfl (lv_at hl 1 rfl) ?_
  refine kV_i (A := A) (b := (SA 29)) (As := [.int (nI a9)]) (rest := []) ⟨hx, hb, hml, hown, hts⟩ (mX0_codeAt (A := A) (ca := SA (8 + 2 * 11)) (i := a9) ha9) (cwV 1 hts (gV tw_2_93 tw_2_20 tw_2_21 tw_1_2 tw_2_22) rfl rfl rfl (by decide +kernel) ⟨Nat.le_of_ble_eq_true rfl, Nat.le_of_ble_eq_true rfl⟩) hC hS hA ((hW.line (i := 11) (by omega)).recv hK) (hW.line (i := 11) (by omega)) rfl rfl hl.1 (Nat.le_of_ble_eq_true rfl) ⟨Nat.le_trans (show (0 + 1) ≤ 1 by omega) (Nat.le_of_ble_eq_true rfl), Nat.le_trans (show (0 + 6) ≤ 6 by omega) (Nat.le_of_ble_eq_true rfl)⟩ dX2_rowAt_13 (fun r9 h9 => lv_cv h9 ?_)
  exact vx_ret (q_i hx hb hr hlocks dX2_rowAt_16 hS (by omega) (by omega) ⟨a9, by rw [← e11]; exact ha9, rfl, by rw [e11], _, _, hW, hF⟩)
end
