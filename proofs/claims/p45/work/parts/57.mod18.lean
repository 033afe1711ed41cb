/-! The model, 18: pieces kept and asked for -/
/-- the pieces that the ends es cut out of t -/
def pcL (t es : List Nat) : List (List Nat) := (List.range es.length).map (fun i => cutL t (bgE es i) (es.getD i 0))
theorem pcL_len {t es : List Nat} : (pcL t es).length = es.length := by unfold pcL; rw [List.length_map, List.length_range]
theorem pcL_get {t es : List Nat} {i : Nat} (h : i < es.length) : (pcL t es).getD i [] = cutL t (bgE es i) (es.getD i 0) := by
  unfold pcL
  rw [List.getD_eq_getElem?_getD, List.getElem?_map, List.getElem?_range h]
  rfl
theorem pcL_ok {t es : List Nat} (ht : okc t) (h60 : t.length ≤ 60) (i : Nat) : okc ((pcL t es).getD i []) ∧ ((pcL t es).getD i []).length ≤ 60 := by
  rcases Nat.lt_or_ge i es.length with q | q
  · rw [pcL_get q]; exact ⟨okc_cut ht _ _, Nat.le_trans (cutL_le _ _ _) h60⟩
  · rw [List.getD_eq_getElem?_getD, List.getElem?_eq_none (by rw [pcL_len]; exact q)]; exact ⟨okc_nil, Nat.zero_le _⟩
theorem isCut_le {t es : List Nat} (h : isCut t es) (h60 : t.length ≤ 60) : es.length ≤ 61 := by
  obtain ⟨n, -, rfl, -⟩ := h
  have := comE_len t 0
  rw [List.length_take]; omega
section MWS5
variable {G : Cx} {A : Nat → Prop} {am xa : Nat} {X : Nat → List Nat} {P : List (List Nat)} {k th : Int32} {H H1 : Heap} {s : State}
theorem MWx_pc {ra pa : Nat} {tx : Nat → Nat} (h : MWx G A am xa ra pa tx X P k th H) {j : Nat} (hj : j < P.length) : ∃ (md : Int32) (ed cap : Nat) (f : Nat → Option Nat) (q : Nat), va_at G.1 vwCl (pa, .inr (3, [.int md, .ref ed, .int (nI P.length)])) H ∧ va_at G.1 vwCl (ed, .inl (G.2.1 5, cap, .inr (.inr (.inr (.inr f))))) H ∧ P.length ≤ cap ∧ cap < 2 ^ 20 ∧ f j = some q ∧ IA0 G q (P.getD j []) H := by
  obtain ⟨h0, ⟨e, md, h9⟩ | ⟨md, ed, cap, f, pe, h1, h2, h3, h4, h5, h6⟩⟩ := h.2.2.2.2.2.2.2.2.2.2.2
  · subst e; exact absurd hj (Nat.not_lt_zero j)
  · exact ⟨md, ed, cap, f, pe j, h1, h2, h4, h5, (h6 j hj).1, (h6 j hj).2.1⟩
/-- a fresh list becomes the pieces -/
theorem MWx_cut {ra pa : Nat} {tx : Nat → Nat} (hK : va_K G.1 vwCl (tyL G.2.1) s) (h : MWx G A am xa ra pa tx X P k th H) {H2 : Heap} {p2 : Nat} {pe : List Nat} {P2 : List (List Nat)} (hk : kp (nw H.size) H H2) (hpn : H.size ≤ p2) (hAp : A p2) (hL : LQ G A p2 pe H2) (hpl : pe.length = P2.length) (h61 : P2.length ≤ 61) (hrw : ∀ j : Nat, j < P2.length → IA0 G (pe.getD j 0) (P2.getD j []) H2 ∧ H.size ≤ pe.getD j 0) (hO : va_at G.1 vwCl (am, .inr (8, [.int th, .ref xa, .ref ra, .ref p2, .int k])) H1) (oq : ∀ q : Nat, q ≠ am → H1[q]? = H2[q]?) (hok : ∀ j : Nat, okc (P2.getD j []) ∧ (P2.getD j []).length ≤ 60) : MWx G A am xa ra p2 tx X P2 k th H1 := by
  have hO0 := h.obj
  obtain ⟨a1, a2, a3, a4, b1, b2, b3, b4, b5, b6, b7, b8⟩ := h
  have hne : ∀ (q : Nat) (fs : ClassId × vp_A) (t0 : Nat) (ty : FieldType), va_at G.1 vwCl (q, .inl fs) H → (tyL G.2.1)[t0]? = some (fs.1, ty) → q ≠ am := fun q fs t0 ty hq ht => Ne.symm (at_ne_oa hK hO0 (r := (RX4, TX4, 5)) rfl hq t0 ht)
  have hq : ∀ q : Nat, q < H.size → q ≠ am → H1[q]? = H[q]? := fun q h1 h2 => (oq q h2).trans (hk.2 q h1 (Nat.not_le_of_lt h1))
  have hI : ∀ {q : Nat} {t : List Nat}, IA0 G q t H → IA0 G q t H1 := fun {q t} hz => by
    obtain ⟨f, q1, q2⟩ := hz
    exact ⟨f, q1.kept (hq _ q1.lt (hne q _ 0 _ q1 rfl)), q2⟩
  have ham := b4.lt
  have hO2 : va_at G.1 vwCl (am, .inr (8, [.int th, .ref xa, .ref ra, .ref pa, .int k])) H2 := at_kp hO0 hk (Nat.not_le_of_lt ham)
  have hra := b7.lt
  refine ⟨a1, a2, a3, hok, b1, hAp, by omega, hO, b5.kept (hq _ b5.lt (hne xa _ 4 _ b5 rfl)), fun j hj => ⟨hI (b6 j hj).1, (b6 j hj).2⟩, hI b7, h61, ?_⟩
  rcases hL with ⟨he, md, h⟩ | ⟨md, ed, cap, f, q1, q2, q3, q4, q5, q6, q7⟩
  · subst he
    have hz : P2 = [] := List.length_eq_zero_iff.mp hpl.symm
    exact Or.inl ⟨hz, md, at_o h oq (by omega)⟩
  · rw [hpl] at q1 q4 q7
    exact Or.inr ⟨md, ed, cap, f, fun j => pe.getD j 0, at_o q1 oq (by omega), at_o q2 oq (Ne.symm (at_ne_oa hK hO2 (r := (RX4, TX4, 5)) rfl q2 5 rfl)), q3, q4, q6, fun j hj => ⟨q7 j hj, (hrw j hj).1.o oq (by have := (hrw j hj).2; show pe.getD j 0 ≠ am; omega), by have := (hrw j hj).2; show pe.getD j 0 ≠ ra; omega⟩⟩
end MWS5
theorem dX4_cut__0 : decode cX4_cut_ 0 = .ok (.aload_n 0, 1) := by decide +kernel
theorem dX4_cut__1 : decode cX4_cut_ 1 = .ok (.iload_n 1, 1) := by decide +kernel
theorem dX4_cut__2 : decode cX4_cut_ 2 = .ok (.invokestatic 107, 3) := by decide +kernel
theorem dX4_cut__5 : decode cX4_cut_ 5 = .ok (.iconst 1, 1) := by decide +kernel
theorem dX4_cut__6 : decode cX4_cut_ 6 = .ok (.invokevirtual 110, 3) := by decide +kernel
theorem dX4_cut__9 : decode cX4_cut_ 9 = .ok (.ifCond .eq 5, 3) := by decide +kernel
theorem dX4_cut__12 : decode cX4_cut_ 12 = .ok (.iconst 0, 1) := by decide +kernel
theorem dX4_cut__13 : decode cX4_cut_ 13 = .ok (.ireturn, 1) := by decide +kernel
theorem dX4_cut__14 : decode cX4_cut_ 14 = .ok (.aload_n 0, 1) := by decide +kernel
theorem dX4_cut__15 : decode cX4_cut_ 15 = .ok (.aload_n 0, 1) := by decide +kernel
theorem dX4_cut__16 : decode cX4_cut_ 16 = .ok (.getfield 72, 3) := by decide +kernel
theorem dX4_cut__19 : decode cX4_cut_ 19 = .ok (.iload_n 1, 1) := by decide +kernel
theorem dX4_cut__20 : decode cX4_cut_ 20 = .ok (.aaload, 1) := by decide +kernel
theorem dX4_cut__21 : decode cX4_cut_ 21 = .ok (.invokestatic 141, 3) := by decide +kernel
theorem dX4_cut__24 : decode cX4_cut_ 24 = .ok (.putfield 78, 3) := by decide +kernel
theorem dX4_cut__27 : decode cX4_cut_ 27 = .ok (.aload_n 0, 1) := by decide +kernel
theorem dX4_cut__28 : decode cX4_cut_ 28 = .ok (.getfield 78, 3) := by decide +kernel
theorem dX4_cut__31 : decode cX4_cut_ 31 = .ok (.invokevirtual 54, 3) := by decide +kernel
theorem dX4_cut__34 : decode cX4_cut_ 34 = .ok (.ireturn, 1) := by decide +kernel
theorem dX4_isNoPiece_0 : decode cX4_isNoPiece 0 = .ok (.iload_n 1, 1) := by decide +kernel
theorem dX4_isNoPiece_1 : decode cX4_isNoPiece 1 = .ok (.iconst 0, 1) := by decide +kernel
theorem dX4_isNoPiece_2 : decode cX4_isNoPiece 2 = .ok (.aload_n 0, 1) := by decide +kernel
theorem dX4_isNoPiece_3 : decode cX4_isNoPiece 3 = .ok (.getfield 78, 3) := by decide +kernel
theorem dX4_isNoPiece_6 : decode cX4_isNoPiece 6 = .ok (.invokevirtual 54, 3) := by decide +kernel
theorem dX4_isNoPiece_9 : decode cX4_isNoPiece 9 = .ok (.iconst 1, 1) := by decide +kernel
theorem dX4_isNoPiece_10 : decode cX4_isNoPiece 10 = .ok (.isub, 1) := by decide +kernel
theorem dX4_isNoPiece_11 : decode cX4_isNoPiece 11 = .ok (.invokestatic 90, 3) := by decide +kernel
theorem dX4_isNoPiece_14 : decode cX4_isNoPiece 14 = .ok (.ifCond .ne 7, 3) := by decide +kernel
theorem dX4_isNoPiece_17 : decode cX4_isNoPiece 17 = .ok (.iconst 1, 1) := by decide +kernel
theorem dX4_isNoPiece_18 : decode cX4_isNoPiece 18 = .ok (.goto 4, 3) := by decide +kernel
theorem dX4_isNoPiece_21 : decode cX4_isNoPiece 21 = .ok (.iconst 0, 1) := by decide +kernel
theorem dX4_isNoPiece_22 : decode cX4_isNoPiece 22 = .ok (.ireturn, 1) := by decide +kernel
theorem dX4_takePiece_0 : decode cX4_takePiece 0 = .ok (.aload_n 0, 1) := by decide +kernel
theorem dX4_takePiece_1 : decode cX4_takePiece 1 = .ok (.aload_n 0, 1) := by decide +kernel
theorem dX4_takePiece_2 : decode cX4_takePiece 2 = .ok (.iload_n 1, 1) := by decide +kernel
theorem dX4_takePiece_3 : decode cX4_takePiece 3 = .ok (.invokevirtual 144, 3) := by decide +kernel
theorem dX4_takePiece_6 : decode cX4_takePiece 6 = .ok (.ifCond .ne 10, 3) := by decide +kernel
theorem dX4_takePiece_9 : decode cX4_takePiece 9 = .ok (.iload_n 2, 1) := by decide +kernel
theorem dX4_takePiece_10 : decode cX4_takePiece 10 = .ok (.invokestatic 107, 3) := by decide +kernel
theorem dX4_takePiece_13 : decode cX4_takePiece 13 = .ok (.ifCond .eq 7, 3) := by decide +kernel
theorem dX4_takePiece_16 : decode cX4_takePiece 16 = .ok (.iconst 1, 1) := by decide +kernel
theorem dX4_takePiece_17 : decode cX4_takePiece 17 = .ok (.goto 4, 3) := by decide +kernel
theorem dX4_takePiece_20 : decode cX4_takePiece 20 = .ok (.iconst 0, 1) := by decide +kernel
theorem dX4_takePiece_21 : decode cX4_takePiece 21 = .ok (.iconst 1, 1) := by decide +kernel
theorem dX4_takePiece_22 : decode cX4_takePiece 22 = .ok (.invokevirtual 110, 3) := by decide +kernel
theorem dX4_takePiece_25 : decode cX4_takePiece 25 = .ok (.ifCond .eq 7, 3) := by decide +kernel
theorem dX4_takePiece_28 : decode cX4_takePiece 28 = .ok (.iconst 0, 1) := by decide +kernel
theorem dX4_takePiece_29 : decode cX4_takePiece 29 = .ok (.goto 35, 3) := by decide +kernel
theorem dX4_takePiece_32 : decode cX4_takePiece 32 = .ok (.aload_n 0, 1) := by decide +kernel
theorem dX4_takePiece_33 : decode cX4_takePiece 33 = .ok (.iload_n 2, 1) := by decide +kernel
theorem dX4_takePiece_34 : decode cX4_takePiece 34 = .ok (.aload_n 0, 1) := by decide +kernel
theorem dX4_takePiece_35 : decode cX4_takePiece 35 = .ok (.getfield 78, 3) := by decide +kernel
theorem dX4_takePiece_38 : decode cX4_takePiece 38 = .ok (.iload_n 1, 1) := by decide +kernel
theorem dX4_takePiece_39 : decode cX4_takePiece 39 = .ok (.invokevirtual 58, 3) := by decide +kernel
theorem dX4_takePiece_42 : decode cX4_takePiece 42 = .ok (.checkcast 62, 3) := by decide +kernel
theorem dX4_takePiece_45 : decode cX4_takePiece 45 = .ok (.iconst 0, 1) := by decide +kernel
theorem dX4_takePiece_46 : decode cX4_takePiece 46 = .ok (.aload_n 0, 1) := by decide +kernel
theorem dX4_takePiece_47 : decode cX4_takePiece 47 = .ok (.getfield 78, 3) := by decide +kernel
theorem dX4_takePiece_50 : decode cX4_takePiece 50 = .ok (.iload_n 1, 1) := by decide +kernel
theorem dX4_takePiece_51 : decode cX4_takePiece 51 = .ok (.invokevirtual 58, 3) := by decide +kernel
theorem dX4_takePiece_54 : decode cX4_takePiece 54 = .ok (.checkcast 62, 3) := by decide +kernel
theorem dX4_takePiece_57 : decode cX4_takePiece 57 = .ok (.arraylength, 1) := by decide +kernel
theorem dX4_takePiece_58 : decode cX4_takePiece 58 = .ok (.invokestatic 31, 3) := by decide +kernel
theorem dX4_takePiece_61 : decode cX4_takePiece 61 = .ok (.invokevirtual 113, 3) := by decide +kernel
theorem dX4_takePiece_64 : decode cX4_takePiece 64 = .ok (.ireturn, 1) := by decide +kernel
theorem dX4_isPiece_0 : decode cX4_isPiece 0 = .ok (.aload_n 0, 1) := by decide +kernel
theorem dX4_isPiece_1 : decode cX4_isPiece 1 = .ok (.aload_n 0, 1) := by decide +kernel
theorem dX4_isPiece_2 : decode cX4_isPiece 2 = .ok (.iload_n 1, 1) := by decide +kernel
theorem dX4_isPiece_3 : decode cX4_isPiece 3 = .ok (.invokevirtual 144, 3) := by decide +kernel
theorem dX4_isPiece_6 : decode cX4_isPiece 6 = .ok (.ifCond .ne 10, 3) := by decide +kernel
theorem dX4_isPiece_9 : decode cX4_isPiece 9 = .ok (.iload_n 2, 1) := by decide +kernel
theorem dX4_isPiece_10 : decode cX4_isPiece 10 = .ok (.invokestatic 107, 3) := by decide +kernel
theorem dX4_isPiece_13 : decode cX4_isPiece 13 = .ok (.ifCond .eq 7, 3) := by decide +kernel
theorem dX4_isPiece_16 : decode cX4_isPiece 16 = .ok (.iconst 1, 1) := by decide +kernel
theorem dX4_isPiece_17 : decode cX4_isPiece 17 = .ok (.goto 4, 3) := by decide +kernel
theorem dX4_isPiece_20 : decode cX4_isPiece 20 = .ok (.iconst 0, 1) := by decide +kernel
theorem dX4_isPiece_21 : decode cX4_isPiece 21 = .ok (.iconst 1, 1) := by decide +kernel
theorem dX4_isPiece_22 : decode cX4_isPiece 22 = .ok (.invokevirtual 110, 3) := by decide +kernel
theorem dX4_isPiece_25 : decode cX4_isPiece 25 = .ok (.ifCond .ne 31, 3) := by decide +kernel
theorem dX4_isPiece_28 : decode cX4_isPiece 28 = .ok (.aload_n 0, 1) := by decide +kernel
theorem dX4_isPiece_29 : decode cX4_isPiece 29 = .ok (.getfield 78, 3) := by decide +kernel
theorem dX4_isPiece_32 : decode cX4_isPiece 32 = .ok (.iload_n 1, 1) := by decide +kernel
theorem dX4_isPiece_33 : decode cX4_isPiece 33 = .ok (.invokevirtual 58, 3) := by decide +kernel
theorem dX4_isPiece_36 : decode cX4_isPiece 36 = .ok (.checkcast 62, 3) := by decide +kernel
theorem dX4_isPiece_39 : decode cX4_isPiece 39 = .ok (.aload_n 0, 1) := by decide +kernel
theorem dX4_isPiece_40 : decode cX4_isPiece 40 = .ok (.getfield 72, 3) := by decide +kernel
theorem dX4_isPiece_43 : decode cX4_isPiece 43 = .ok (.iload_n 2, 1) := by decide +kernel
theorem dX4_isPiece_44 : decode cX4_isPiece 44 = .ok (.aaload, 1) := by decide +kernel
theorem dX4_isPiece_45 : decode cX4_isPiece 45 = .ok (.iconst 0, 1) := by decide +kernel
theorem dX4_isPiece_46 : decode cX4_isPiece 46 = .ok (.invokestatic 171, 3) := by decide +kernel
theorem dX4_isPiece_49 : decode cX4_isPiece 49 = .ok (.ifCond .eq 7, 3) := by decide +kernel
theorem dX4_isPiece_52 : decode cX4_isPiece 52 = .ok (.iconst 1, 1) := by decide +kernel
theorem dX4_isPiece_53 : decode cX4_isPiece 53 = .ok (.goto 4, 3) := by decide +kernel
theorem dX4_isPiece_56 : decode cX4_isPiece 56 = .ok (.iconst 0, 1) := by decide +kernel
theorem dX4_isPiece_57 : decode cX4_isPiece 57 = .ok (.ireturn, 1) := by decide +kernel
abbrev rmX4_cut_ : Room := { frames := 8, cells := 123, slots := 9214, locals := 215 }
theorem mX4_cut_ {l : Launch} {G : Cx} {A : Nat → Prop} {am xa : Nat} {X : Nat → List Nat} {P : List (List Nat)} {k : Int32} {x th : Int32} : Met l yX4_cut_ (.code yX4_cut_ cX4_cut_ 2 (some .int) :: GW) rmX4_cut_ (PC G A [.ref am, .int x] (MW G A am xa X P k th)) (qI A (fun r H => ((NT x) ∧ r = 0 ∧ MW G A am xa X P k 1 H) ∨ ∃ (i : Nat) (es1 : List Nat), i < 4 ∧ x = nI i ∧ isCut (X i) es1 ∧ r = nI es1.length ∧ MW G A am xa X (pcL (X i) es1) k 0 H)) 123 9214 (A) := by
  refine mstart "SigntextModel" (by decide +kernel) rfl (Nat.le_of_ble_eq_true rfl) ?_
  intro p e s m below meth c ls hx hb hr hts hown hml hlocks hname hC hA hW hl
  have hl : lv_has ls 2 [(0, .ref am), (1, .int x)] := hl
  have hK := hC.1
  have hS : va_S A s.heap s.heap [] := va_S.rf
  obtain ⟨ra, pa, tx, hW⟩ := hW
  have hO := hW.obj
  have hAm := hW.1
  refine lv_aload_n hx hb dX4_cut__0 rfl (lv_at hl 0 rfl) ?_
  refine lv_iload_n hx hb dX4_cut__1 rfl (lv_at hl 1 rfl) ?_
  refine kS_i (A := A) (As := [.int x]) (rest := .ref am :: []) ⟨hx, hb, hml, hown, hts⟩ (mX4_isNone (A := A) ) (va_cwS 1 hts (gS tw_4_203 tw_4_204 tw_1_8 tw_4_205) rfl rfl rfl (by decide +kernel) ⟨Nat.le_of_ble_eq_true rfl, Nat.le_of_ble_eq_true rfl⟩) hC hS hA  trivial rfl rfl hl.1 (Nat.le_of_ble_eq_true rfl) ⟨Nat.zero_le _, Nat.zero_le _⟩ dX4_cut__2 (fun r_14 hr_14 => ?_)
  obtain ⟨r_14v, hr_14v, rfl⟩ := hr_14
  refine lv_iconst (v := nI 1) hx hb dX4_cut__5 (by decide) ?_
  cases r_14v
  · obtain ⟨i, hi, rfl⟩ : ∃ i : Nat, i < 4 ∧ x = nI i := Classical.byContradiction (fun q => Bool.noConfusion (hr_14v.mpr q))
    refine qI_V (A := A) (A1 := A) (b := am) (As := [.int (bI false), .int (nI 1)]) (rest := []) ⟨hx, hb, hml, hown, hts⟩ (mX4_start (A := A) (X := X) (P := P) (k := k) (xa := xa) (b := false) (w9 := 1) (by decide)) (cwV 2 hts (gV tw_4_206 tw_4_208 sel_X4_start tw_1_8 tw_4_209) rfl rfl rfl (by decide +kernel) ⟨Nat.le_of_ble_eq_true rfl, Nat.le_of_ble_eq_true rfl⟩) hC hS (fun _ h => h) (fun q h => hA q (Nat.le_trans hS.1 h)) (hW.recv hK) ⟨ra, pa, tx, hW⟩ rfl rfl hl.1 (Nat.le_of_ble_eq_true rfl) ⟨Nat.zero_le _, Nat.zero_le _⟩ dX4_cut__6 (fun rv15 H15 L15 hP15 hk15 hS => ?_)
    have hZ15 := hS.1
    obtain ⟨hr15, hM15⟩ := hP15
    subst hr15
    obtain ⟨ra, pa, tx, hW⟩ := hM15
    have hW : MWx G A am xa ra pa tx X P k (nI 0) H15 := hW
    have hO := hW.obj
    have hAm := hW.1
    refine f_eq (tgt := 14) hx hb dX4_cut__9 (by decide) (fun c_16 => ?_) (fun c_16 => ?_)
    · refine lv_aload_n hx hb dX4_cut__14 rfl (lv_at hl 0 rfl) ?_
      refine lv_aload_n hx hb dX4_cut__15 rfl (lv_at hl 0 rfl) ?_
      refine va_get (D := G.1) (ci := 8) (C := RX4) (T := TX4) (N := 5) hx hb hts inX4 hown hK (at_P hO) 0 rfl rfl 1 (by decide) (hts _ tw_4_173) (fun _ h9 => h9) rfl dX4_cut__16 ?_
      refine lv_iload_n hx hb dX4_cut__19 rfl (lv_at hl 1 rfl) ?_
      refine h_aaldI (D := G.1) hx hb hK 4 hW.txs rfl (vp_in_nI (n := i) (N := 4) (by omega) (by omega)) dX4_cut__20 ?_
      refine v_cv (show va_rf _ = .ref (tx i) from by rw [nI_clamp (n := i) (by omega)]; rfl) ?_
      have x60i := hW.2.2.1 i (Or.inl (by omega))
      have hTi := hW.tx (j := i) (by omega)
      have hW0 := hW
      have ham := hW.obj.lt
      refine qR_S (A := A) (A1 := nw H15.size)  (As := [.ref (tx i)]) (rest := .ref am :: []) ⟨hx, hb, hml, hown, hts⟩ (mX4_pieces (A := nw H15.size) (sz := H15.size) (t := X i) x60i.1 x60i.2) (va_cwS 1 hts (gS tw_5_82 tw_5_83 tw_1_8 tw_5_84) rfl rfl rfl (by decide +kernel) ⟨Nat.le_of_ble_eq_true rfl, Nat.le_of_ble_eq_true rfl⟩) hC hS (nw_in hA hS.1) nw_n  ⟨rfl, hTi⟩ rfl rfl hl.1 (Nat.le_of_ble_eq_true rfl) ⟨Nat.le_trans (show 0 + 123 ≤ 123 by omega) (Nat.le_of_ble_eq_true rfl), Nat.le_trans (show 0 + 9214 ≤ 9214 by omega) (Nat.le_of_ble_eq_true rfl)⟩ dX4_cut__21 (fun rv17 H17 L17 hP17 hk17 hS => ?_)
      have hZ17 := hS.1
      obtain ⟨es1, pe, hcut, hL, hpl, hpz, hrw⟩ := hP17
      have hW := hW.nw hk17
      have hO := hW.obj
      have hAm := hW.1
      refine h_put (D := G.1) (ci := 8) (C := RX4) (T := TX4) (N := 5) hx hb hts inX4 tyX4 tyX4_ok nmX4 hown hK hO hS hAm rfl 3 (by decide) (hts _ tw_4_175) (fun _ h9 => h9) rfl (tyX4_ok 3 (by decide)) rfl rfl (Nat.le_of_ble_eq_true rfl) dX4_cut__24 (fun H18 L18 hO z18 o18 hS => ?_)
      have hO : va_at G.1 vwCl (am, .inr (8, [.int (nI 0), .ref xa, .ref ra, .ref rv17, .int k])) H18 := hO
      have hZ18 := hS.1
      have hAp2 : A rv17 := hA _ (by omega)
      have hW := MWx_cut hK hW0 hk17 hpz hAp2 (LQ_mono (nw_in hA (by omega)) hL) (P2 := pcL (X i) es1) (by rw [pcL_len]; exact hpl) (by rw [pcL_len]; exact isCut_le hcut x60i.2) (fun j hj => by rw [pcL_len] at hj; rw [pcL_get hj]; exact hrw j hj) hO o18 (fun j => pcL_ok x60i.1 x60i.2 j)
      have hO := hW.obj
      refine lv_aload_n hx hb dX4_cut__27 rfl (lv_at hl 0 rfl) ?_
      refine va_get (D := G.1) (ci := 8) (C := RX4) (T := TX4) (N := 5) hx hb hts inX4 hown hK (at_P hO) 0 rfl rfl 3 (by decide) (hts _ tw_4_175) (fun _ h9 => h9) rfl dX4_cut__28 ?_
      obtain ⟨md, ed, hPa⟩ := MWx_pl hW
      rw [pcL_len] at hPa
      have hle := isCut_le hcut x60i.2
      refine kV_i (A := A) (b := rv17) (As := []) (rest := []) ⟨hx, hb, hml, hown, hts⟩ (mJx4a65c_size_8abf5 (A := A) (ed := ed) (n := es1.length) (md := md) (by omega)) (cwV 0 hts (gV tw_5_148 tw_5_149 tw_5_150 tw_1_11 tw_5_151) rfl rfl rfl (by decide +kernel) ⟨Nat.le_of_ble_eq_true rfl, Nat.le_of_ble_eq_true rfl⟩) hC hS hA (at_recv hK hPa (q := (RJx4a65c, TJx4a65c, 3)) rfl) hPa rfl rfl hl.1 (Nat.le_of_ble_eq_true rfl) ⟨Nat.le_trans (show (0 + 123) ≤ 123 by omega) (Nat.le_of_ble_eq_true rfl), Nat.le_trans (show (0 + 9214) ≤ 9214 by omega) (Nat.le_of_ble_eq_true rfl)⟩ dX4_cut__31 (fun r9 h9 => lv_cv h9 ?_)
      exact q_i hx hb hr hlocks dX4_cut__34 hS (by omega) (by omega) (Or.inr (⟨i, es1, hi, rfl, hcut, rfl, ra, _, tx, hW⟩))
    · exact absurd c_16 (by decide)
  · refine qI_V (A := A) (A1 := A) (b := am) (As := [.int (bI true), .int (nI 1)]) (rest := []) ⟨hx, hb, hml, hown, hts⟩ (mX4_start (A := A) (X := X) (P := P) (k := k) (xa := xa) (b := true) (w9 := 1) (by decide)) (cwV 2 hts (gV tw_4_206 tw_4_208 sel_X4_start tw_1_8 tw_4_209) rfl rfl rfl (by decide +kernel) ⟨Nat.le_of_ble_eq_true rfl, Nat.le_of_ble_eq_true rfl⟩) hC hS (fun _ h => h) (fun q h => hA q (Nat.le_trans hS.1 h)) (hW.recv hK) ⟨ra, pa, tx, hW⟩ rfl rfl hl.1 (Nat.le_of_ble_eq_true rfl) ⟨Nat.zero_le _, Nat.zero_le _⟩ dX4_cut__6 (fun rv19 H19 L19 hP19 hk19 hS => ?_)
    have hZ19 := hS.1
    obtain ⟨hr19, hM19⟩ := hP19
    subst hr19
    obtain ⟨ra, pa, tx, hW⟩ := hM19
    have hW : MWx G A am xa ra pa tx X P k (nI 1) H19 := hW
    have hO := hW.obj
    have hAm := hW.1
    refine f_eq (tgt := 14) hx hb dX4_cut__9 (by decide) (fun c_20 => ?_) (fun c_20 => ?_)
    · exact absurd c_20 (by decide)
    · refine lv_iconst (v := nI 0) hx hb dX4_cut__12 (by decide) ?_
      exact q_i hx hb hr hlocks dX4_cut__13 hS (by omega) (by omega) (Or.inl ⟨(hr_14v.mp rfl), rfl, ra, pa, tx, hW⟩)

abbrev rmX4_isNoPiece : Room := { frames := 2, cells := 0, slots := 0, locals := 40 }
theorem mX4_isNoPiece {l : Launch} {G : Cx} {A : Nat → Prop} {am xa : Nat} {X : Nat → List Nat} {P : List (List Nat)} {k : Int32} {x th : Int32} : Met l yX4_isNoPiece (.code yX4_isNoPiece cX4_isNoPiece 2 (some .boolean) :: GW) rmX4_isNoPiece (PC G A [.ref am, .int x] (MW G A am xa X P k th)) (vp_Si (fun r => ∃ v : Bool, (v = true ↔ ¬ ∃ j : Nat, j < P.length ∧ x = nI j) ∧ r = bI v)) 0 0 (fun _ => False) := by
  refine mstart "SigntextModel" (by decide +kernel) rfl (Nat.le_of_ble_eq_true rfl) ?_
  intro p e s m below meth c ls hx hb hr hts hown hml hlocks hname hC hA hW hl
  have hl : lv_has ls 2 [(0, .ref am), (1, .int x)] := hl
  have hK := hC.1
  have hS : va_S A s.heap s.heap [] := va_S.rf
  obtain ⟨ra, pa, tx, hW⟩ := hW
  have hO := hW.obj
  have hAm := hW.1
  have hp61 := hW.2.2.2.2.2.2.2.2.2.2.2.1
  refine lv_iload_n hx hb dX4_isNoPiece_0 rfl (lv_at hl 1 rfl) ?_
  refine lv_iconst (v := nI 0) hx hb dX4_isNoPiece_1 (by decide) ?_
  refine lv_aload_n hx hb dX4_isNoPiece_2 rfl (lv_at hl 0 rfl) ?_
  refine va_get (D := G.1) (ci := 8) (C := RX4) (T := TX4) (N := 5) hx hb hts inX4 hown hK (at_P hO) 0 rfl rfl 3 (by decide) (hts _ tw_4_175) (fun _ h9 => h9) rfl dX4_isNoPiece_3 ?_
  obtain ⟨md, ed, hPa⟩ := MWx_pl hW
  refine kV_i (A := A) (b := pa) (As := []) (rest := .int (nI 0) :: .int x :: []) ⟨hx, hb, hml, hown, hts⟩ (mJx4a65c_size_8abf5 (A := A) (ed := ed) (n := P.length) (md := md) (by omega)) (cwV 0 hts (gV tw_5_148 tw_5_149 tw_5_150 tw_1_11 tw_5_151) rfl rfl rfl (by decide +kernel) ⟨Nat.le_of_ble_eq_true rfl, Nat.le_of_ble_eq_true rfl⟩) hC hS hA (at_recv hK hPa (q := (RJx4a65c, TJx4a65c, 3)) rfl) hPa rfl rfl hl.1 (Nat.le_of_ble_eq_true rfl) ⟨Nat.zero_le _, Nat.zero_le _⟩ dX4_isNoPiece_6 (fun r9 h9 => lv_cv h9 ?_)
  refine lv_iconst (v := nI 1) hx hb dX4_isNoPiece_9 (by decide) ?_
  refine lv_isub hx hb dX4_isNoPiece_10 ?_
  refine kS_i (A := A) (As := [.int x, .int (nI 0), .int (nI P.length - nI 1)]) (rest := []) ⟨hx, hb, hml, hown, hts⟩ (mX4_isIn (A := A) ) (va_cwS 3 hts (gS tw_4_197 tw_4_198 tw_1_8 tw_4_199) rfl rfl rfl (by decide +kernel) ⟨Nat.le_of_ble_eq_true rfl, Nat.le_of_ble_eq_true rfl⟩) hC hS hA  trivial rfl rfl hl.1 (Nat.le_of_ble_eq_true rfl) ⟨Nat.zero_le _, Nat.zero_le _⟩ dX4_isNoPiece_11 (fun r9 h9 => lv_cv h9 ?_)
  refine f_ne (tgt := 21) hx hb dX4_isNoPiece_14 (by decide) (fun c_21 => ?_) (fun c_21 => ?_)
  · refine lv_iconst (v := nI 0) hx hb dX4_isNoPiece_21 (by decide) ?_
    exact p_z (b := false) hx hb hr hlocks dX4_isNoPiece_22 ⟨false, ⟨fun q => Bool.noConfusion q, fun q => absurd ((rngL (by omega)).mp (of_decide_eq_true c_21)) q⟩, rfl⟩
  · refine lv_iconst (v := nI 1) hx hb dX4_isNoPiece_17 (by decide) ?_
    refine lv_goto (tgt := 22) hx hb dX4_isNoPiece_18 (by decide) ?_
    exact p_z (b := true) hx hb hr hlocks dX4_isNoPiece_22 ⟨true, ⟨fun _ q => absurd ((rngL (by omega)).mpr q) (of_decide_eq_false c_21), fun _ => rfl⟩, rfl⟩

abbrev rmX4_takePiece : Room := { frames := 3, cells := 1, slots := 61, locals := 64 }
theorem mX4_takePiece {l : Launch} {G : Cx} {A : Nat → Prop} {am xa : Nat} {X : Nat → List Nat} {P : List (List Nat)} {k : Int32} {x y th : Int32} : Met l yX4_takePiece (.code yX4_takePiece cX4_takePiece 3 (some .int) :: GW) rmX4_takePiece (PC G A [.ref am, .int x, .int y] (MW G A am xa X P k th)) (qI A (fun r H => (((¬ ∃ j : Nat, j < P.length ∧ x = nI j) ∨ NT y) ∧ r = 0 ∧ MW G A am xa X P k 1 H) ∨ ∃ j i : Nat, j < P.length ∧ x = nI j ∧ i < 4 ∧ y = nI i ∧ r = nI (P.getD j []).length ∧ MW G A am xa (updT X i (P.getD j [])) P k 0 H)) 1 61 (A) := by
  refine mstart "SigntextModel" (by decide +kernel) rfl (Nat.le_of_ble_eq_true rfl) ?_
  intro p e s m below meth c ls hx hb hr hts hown hml hlocks hname hC hA hW hl
  have hl : lv_has ls 3 [(0, .ref am), (1, .int x), (2, .int y)] := hl
  have hK := hC.1
  have hS : va_S A s.heap s.heap [] := va_S.rf
  obtain ⟨ra, pa, tx, hW⟩ := hW
  have hO := hW.obj
  have hAm := hW.1
  have hp61 := hW.2.2.2.2.2.2.2.2.2.2.2.1
  refine lv_aload_n hx hb dX4_takePiece_0 rfl (lv_at hl 0 rfl) ?_
  refine lv_aload_n hx hb dX4_takePiece_1 rfl (lv_at hl 0 rfl) ?_
  refine lv_iload_n hx hb dX4_takePiece_2 rfl (lv_at hl 1 rfl) ?_
  refine kV_i (A := A) (b := am) (As := [.int x]) (rest := .ref am :: []) ⟨hx, hb, hml, hown, hts⟩ (mX4_isNoPiece (A := A) (xa := xa) (X := X) (P := P) (k := k)) (cwV 1 hts (gV tw_5_178 tw_5_180 sel_X4_isNoPiece tw_1_8 tw_5_181) rfl rfl rfl (by decide +kernel) ⟨Nat.le_of_ble_eq_true rfl, Nat.le_of_ble_eq_true rfl⟩) hC hS hA (hW.recv hK) ⟨ra, pa, tx, hW⟩ rfl rfl hl.1 (Nat.le_of_ble_eq_true rfl) ⟨Nat.zero_le _, Nat.zero_le _⟩ dX4_takePiece_3 (fun r_22 hr_22 => ?_)
  obtain ⟨r_22v, hr_22v, rfl⟩ := hr_22
  refine f_ne (tgt := 16) hx hb dX4_takePiece_6 (by decide) (fun c_23 => ?_) (fun c_23 => ?_)
  · refine lv_iconst (v := nI 1) hx hb dX4_takePiece_16 (by decide) ?_
    refine lv_goto (tgt := 21) hx hb dX4_takePiece_17 (by decide) ?_
    refine lv_iconst (v := nI 1) hx hb dX4_takePiece_21 (by decide) ?_
    refine qI_V (A := A) (A1 := A) (b := am) (As := [.int (bI true), .int (nI 1)]) (rest := []) ⟨hx, hb, hml, hown, hts⟩ (mX4_start (A := A) (X := X) (P := P) (k := k) (xa := xa) (b := true) (w9 := 1) (by decide)) (cwV 2 hts (gV tw_4_206 tw_4_208 sel_X4_start tw_1_8 tw_4_209) rfl rfl rfl (by decide +kernel) ⟨Nat.le_of_ble_eq_true rfl, Nat.le_of_ble_eq_true rfl⟩) hC hS (fun _ h => h) (fun q h => hA q (Nat.le_trans hS.1 h)) (hW.recv hK) ⟨ra, pa, tx, hW⟩ rfl rfl hl.1 (Nat.le_of_ble_eq_true rfl) ⟨Nat.zero_le _, Nat.zero_le _⟩ dX4_takePiece_22 (fun rv24 H24 L24 hP24 hk24 hS => ?_)
    have hZ24 := hS.1
    obtain ⟨hr24, hM24⟩ := hP24
    subst hr24
    obtain ⟨ra, pa, tx, hW⟩ := hM24
    have hW : MWx G A am xa ra pa tx X P k (nI 1) H24 := hW
    have hO := hW.obj
    have hAm := hW.1
    refine f_eq (tgt := 32) hx hb dX4_takePiece_25 (by decide) (fun c_25 => ?_) (fun c_25 => ?_)
    · exact absurd c_25 (by decide)
    · refine lv_iconst (v := nI 0) hx hb dX4_takePiece_28 (by decide) ?_
      refine lv_goto (tgt := 64) hx hb dX4_takePiece_29 (by decide) ?_
      exact q_i hx hb hr hlocks dX4_takePiece_64 hS (by omega) (by omega) (Or.inl ⟨(Or.inl (hr_22v.mp c_23)), rfl, ra, pa, tx, hW⟩)
  · obtain ⟨j, hj, rfl⟩ : ∃ j : Nat, j < P.length ∧ x = nI j := Classical.byContradiction (fun q => absurd (hr_22v.mpr q) (by rw [c_23]; decide))
    refine lv_iload_n hx hb dX4_takePiece_9 rfl (lv_at hl 2 rfl) ?_
    refine kS_i (A := A) (As := [.int y]) (rest := .ref am :: []) ⟨hx, hb, hml, hown, hts⟩ (mX4_isNone (A := A) ) (va_cwS 1 hts (gS tw_4_203 tw_4_204 tw_1_8 tw_4_205) rfl rfl rfl (by decide +kernel) ⟨Nat.le_of_ble_eq_true rfl, Nat.le_of_ble_eq_true rfl⟩) hC hS hA  trivial rfl rfl hl.1 (Nat.le_of_ble_eq_true rfl) ⟨Nat.zero_le _, Nat.zero_le _⟩ dX4_takePiece_10 (fun r_26 hr_26 => ?_)
    obtain ⟨r_26v, hr_26v, rfl⟩ := hr_26
    refine f_eq (tgt := 20) hx hb dX4_takePiece_13 (by decide) (fun c_27 => ?_) (fun c_27 => ?_)
    · obtain ⟨i, hi, rfl⟩ : ∃ i : Nat, i < 4 ∧ y = nI i := Classical.byContradiction (fun q => absurd (hr_26v.mpr q) (by rw [c_27]; decide))
      refine lv_iconst (v := nI 0) hx hb dX4_takePiece_20 (by decide) ?_
      refine lv_iconst (v := nI 1) hx hb dX4_takePiece_21 (by decide) ?_
      refine qI_V (A := A) (A1 := A) (b := am) (As := [.int (bI false), .int (nI 1)]) (rest := []) ⟨hx, hb, hml, hown, hts⟩ (mX4_start (A := A) (X := X) (P := P) (k := k) (xa := xa) (b := false) (w9 := 1) (by decide)) (cwV 2 hts (gV tw_4_206 tw_4_208 sel_X4_start tw_1_8 tw_4_209) rfl rfl rfl (by decide +kernel) ⟨Nat.le_of_ble_eq_true rfl, Nat.le_of_ble_eq_true rfl⟩) hC hS (fun _ h => h) (fun q h => hA q (Nat.le_trans hS.1 h)) (hW.recv hK) ⟨ra, pa, tx, hW⟩ rfl rfl hl.1 (Nat.le_of_ble_eq_true rfl) ⟨Nat.zero_le _, Nat.zero_le _⟩ dX4_takePiece_22 (fun rv28 H28 L28 hP28 hk28 hS => ?_)
      have hZ28 := hS.1
      obtain ⟨hr28, hM28⟩ := hP28
      subst hr28
      obtain ⟨ra, pa, tx, hW⟩ := hM28
      have hW : MWx G A am xa ra pa tx X P k (nI 0) H28 := hW
      have hO := hW.obj
      have hAm := hW.1
      refine f_eq (tgt := 32) hx hb dX4_takePiece_25 (by decide) (fun c_29 => ?_) (fun c_29 => ?_)
      · obtain ⟨md, ed, cap9, f9, pq, w1, w2, w3, w4, w5, w6⟩ := MWx_pc hW hj
        have p60 := hW.2.2.2.1 j
        refine lv_aload_n hx hb dX4_takePiece_32 rfl (lv_at hl 0 rfl) ?_
        refine lv_iload_n hx hb dX4_takePiece_33 rfl (lv_at hl 2 rfl) ?_
        refine lv_aload_n hx hb dX4_takePiece_34 rfl (lv_at hl 0 rfl) ?_
        refine va_get (D := G.1) (ci := 8) (C := RX4) (T := TX4) (N := 5) hx hb hts inX4 hown hK (at_P hO) 0 rfl rfl 3 (by decide) (hts _ tw_4_175) (fun _ h9 => h9) rfl dX4_takePiece_35 ?_
        refine lv_iload_n hx hb dX4_takePiece_38 rfl (lv_at hl 1 rfl) ?_
        refine kV_a (A := A) (b := pa) (As := [.int (nI j)]) (rest := .int (nI i) :: .ref am :: []) ⟨hx, hb, hml, hown, hts⟩ (mJx4a65c_get_915e3 (A := A) (j := j) (n := P.length) (f := f9) (cap := cap9) (md := md) (ed := ed) hj w3 (by omega) w5) (cwV 1 hts (gV tw_5_152 tw_5_153 tw_5_154 tw_1_11 tw_5_155) rfl rfl rfl (by decide +kernel) ⟨Nat.le_of_ble_eq_true rfl, Nat.le_of_ble_eq_true rfl⟩) hC hS hA (at_recv hK w1 (q := (RJx4a65c, TJx4a65c, 3)) rfl) ⟨w1, w2⟩ rfl rfl hl.1 (Nat.le_of_ble_eq_true rfl) ⟨Nat.zero_le _, Nat.zero_le _⟩ dX4_takePiece_39 (fun a_30 ha_30 => ?_)
        have e7 : a_30 = pq := ha_30
        subst e7
        refine va_castA (D := G.1) hx hb hown (hts _ tw_5_164) (at_P w6.fst) 0 rfl (findIA hK) dX4_takePiece_42 ?_
        refine lv_iconst (v := nI 0) hx hb dX4_takePiece_45 (by decide) ?_
        refine lv_aload_n hx hb dX4_takePiece_46 rfl (lv_at hl 0 rfl) ?_
        refine va_get (D := G.1) (ci := 8) (C := RX4) (T := TX4) (N := 5) hx hb hts inX4 hown hK (at_P hO) 0 rfl rfl 3 (by decide) (hts _ tw_4_175) (fun _ h9 => h9) rfl dX4_takePiece_47 ?_
        refine lv_iload_n hx hb dX4_takePiece_50 rfl (lv_at hl 1 rfl) ?_
        have w5b := w5
        refine kV_a (A := A) (b := pa) (As := [.int (nI j)]) (rest := .int (nI 0) :: .ref a_30 :: .int (nI i) :: .ref am :: []) ⟨hx, hb, hml, hown, hts⟩ (mJx4a65c_get_915e3 (A := A) (j := j) (n := P.length) (f := f9) (cap := cap9) (md := md) (ed := ed) hj w3 (by omega) w5b) (cwV 1 hts (gV tw_5_152 tw_5_153 tw_5_154 tw_1_11 tw_5_155) rfl rfl rfl (by decide +kernel) ⟨Nat.le_of_ble_eq_true rfl, Nat.le_of_ble_eq_true rfl⟩) hC hS hA (at_recv hK w1 (q := (RJx4a65c, TJx4a65c, 3)) rfl) ⟨w1, w2⟩ rfl rfl hl.1 (Nat.le_of_ble_eq_true rfl) ⟨Nat.zero_le _, Nat.zero_le _⟩ dX4_takePiece_51 (fun a_31 ha_31 => ?_)
        have e8 : a_31 = a_30 := ha_31
        rw [e8]
        refine va_castA (D := G.1) hx hb hown (hts _ tw_5_164) (at_P w6.fst) 0 rfl (findIA hK) dX4_takePiece_54 ?_
        have hPq := w6.ia hC.2.1.2
        refine h_ilen hx hb hC.2.1 hPq dX4_takePiece_57 ?_
        have hra := hW.row.lt
        refine qR_S (A := A) (A1 := nw H28.size)  (As := [.ref a_30, .int (nI 0), .int (nI ((P.getD j []).length))]) (rest := .int (nI i) :: .ref am :: []) ⟨hx, hb, hml, hown, hts⟩ (mX4_cut (A := nw H28.size) (sz := H28.size) (t := P.getD j []) (i := 0) (i2 := (P.getD j []).length) (Nat.zero_le _) (Nat.le_refl _) (by omega)) (va_cwS 3 hts (gS tw_4_226 tw_4_227 tw_1_8 tw_4_228) rfl rfl rfl (by decide +kernel) ⟨Nat.le_of_ble_eq_true rfl, Nat.le_of_ble_eq_true rfl⟩) hC hS (nw_in hA hS.1) nw_n  ⟨rfl, hPq⟩ rfl rfl hl.1 (Nat.le_of_ble_eq_true rfl) ⟨Nat.le_trans (show 0 + 1 ≤ 1 by omega) (Nat.le_of_ble_eq_true rfl), Nat.le_trans (show 0 + 61 ≤ 61 by omega) (Nat.le_of_ble_eq_true rfl)⟩ dX4_takePiece_58 (fun rv32 H32 L32 hP32 hk32 hS => ?_)
        have hZ32 := hS.1
        have hW := hW.nw hk32
        rw [cutL_all] at hP32
        refine qI_V (A := A) (A1 := A) (b := am) (As := [.int (nI i), .ref rv32]) (rest := []) ⟨hx, hb, hml, hown, hts⟩ (mX4_become (A := A) (X := X) (P := P) (k := k) (xa := xa) (t := P.getD j []) hi p60) (cwV 2 hts (gV tw_4_214 tw_4_216 sel_X4_become tw_1_8 tw_4_217) rfl rfl rfl (by decide +kernel) ⟨Nat.le_of_ble_eq_true rfl, Nat.le_of_ble_eq_true rfl⟩) hC hS (fun _ h => h) (fun q h => hA q (Nat.le_trans hS.1 h)) (hW.recv hK) ⟨ra, pa, tx, hW, hP32.2, (by have := hP32.1; omega)⟩ rfl rfl hl.1 (Nat.le_of_ble_eq_true rfl) ⟨Nat.le_trans (show (0 + 1) ≤ 1 by omega) (Nat.le_of_ble_eq_true rfl), Nat.le_trans (show (0 + 61) ≤ 61 by omega) (Nat.le_of_ble_eq_true rfl)⟩ dX4_takePiece_61 (fun rv33 H33 L33 hP33 hk33 hS => ?_)
        have hZ33 := hS.1
        exact q_i hx hb hr hlocks dX4_takePiece_64 hS (by omega) (by omega) (Or.inr (⟨j, i, hj, rfl, hi, rfl, hP33.1, hP33.2⟩))
      · exact absurd c_29 (by decide)
    · refine lv_iconst (v := nI 1) hx hb dX4_takePiece_16 (by decide) ?_
      refine lv_goto (tgt := 21) hx hb dX4_takePiece_17 (by decide) ?_
      refine lv_iconst (v := nI 1) hx hb dX4_takePiece_21 (by decide) ?_
      refine qI_V (A := A) (A1 := A) (b := am) (As := [.int (bI true), .int (nI 1)]) (rest := []) ⟨hx, hb, hml, hown, hts⟩ (mX4_start (A := A) (X := X) (P := P) (k := k) (xa := xa) (b := true) (w9 := 1) (by decide)) (cwV 2 hts (gV tw_4_206 tw_4_208 sel_X4_start tw_1_8 tw_4_209) rfl rfl rfl (by decide +kernel) ⟨Nat.le_of_ble_eq_true rfl, Nat.le_of_ble_eq_true rfl⟩) hC hS (fun _ h => h) (fun q h => hA q (Nat.le_trans hS.1 h)) (hW.recv hK) ⟨ra, pa, tx, hW⟩ rfl rfl hl.1 (Nat.le_of_ble_eq_true rfl) ⟨Nat.zero_le _, Nat.zero_le _⟩ dX4_takePiece_22 (fun rv34 H34 L34 hP34 hk34 hS => ?_)
      have hZ34 := hS.1
      obtain ⟨hr34, hM34⟩ := hP34
      subst hr34
      obtain ⟨ra, pa, tx, hW⟩ := hM34
      have hW : MWx G A am xa ra pa tx X P k (nI 1) H34 := hW
      have hO := hW.obj
      have hAm := hW.1
      refine f_eq (tgt := 32) hx hb dX4_takePiece_25 (by decide) (fun c_35 => ?_) (fun c_35 => ?_)
      · exact absurd c_35 (by decide)
      · refine lv_iconst (v := nI 0) hx hb dX4_takePiece_28 (by decide) ?_
        refine lv_goto (tgt := 64) hx hb dX4_takePiece_29 (by decide) ?_
        exact q_i hx hb hr hlocks dX4_takePiece_64 hS (by omega) (by omega) (Or.inl ⟨(Or.inr (hr_26v.mp c_27)), rfl, ra, pa, tx, hW⟩)

abbrev rmX4_isPiece : Room := { frames := 3, cells := 0, slots := 0, locals := 66 }
theorem mX4_isPiece {l : Launch} {G : Cx} {A : Nat → Prop} {am xa : Nat} {X : Nat → List Nat} {P : List (List Nat)} {k : Int32} {x y th : Int32} : Met l yX4_isPiece (.code yX4_isPiece cX4_isPiece 3 (some .boolean) :: GW) rmX4_isPiece (PC G A [.ref am, .int x, .int y] (MW G A am xa X P k th)) (qI A (fun r H => (((¬ ∃ j : Nat, j < P.length ∧ x = nI j) ∨ NT y) ∧ r = 0 ∧ MW G A am xa X P k 1 H) ∨ ∃ (j i : Nat) (v : Bool), j < P.length ∧ x = nI j ∧ i < 4 ∧ y = nI i ∧ (v = true ↔ (P.getD j []).length = (X i).length ∧ stL false (P.getD j []) (X i) 0) ∧ r = bI v ∧ MW G A am xa X P k 0 H)) 0 0 (A) := by
  refine mstart "SigntextModel" (by decide +kernel) rfl (Nat.le_of_ble_eq_true rfl) ?_
  intro p e s m below meth c ls hx hb hr hts hown hml hlocks hname hC hA hW hl
  have hl : lv_has ls 3 [(0, .ref am), (1, .int x), (2, .int y)] := hl
  have hK := hC.1
  have hS : va_S A s.heap s.heap [] := va_S.rf
  obtain ⟨ra, pa, tx, hW⟩ := hW
  have hO := hW.obj
  have hAm := hW.1
  have hp61 := hW.2.2.2.2.2.2.2.2.2.2.2.1
  refine lv_aload_n hx hb dX4_isPiece_0 rfl (lv_at hl 0 rfl) ?_
  refine lv_aload_n hx hb dX4_isPiece_1 rfl (lv_at hl 0 rfl) ?_
  refine lv_iload_n hx hb dX4_isPiece_2 rfl (lv_at hl 1 rfl) ?_
  refine kV_i (A := A) (b := am) (As := [.int x]) (rest := .ref am :: []) ⟨hx, hb, hml, hown, hts⟩ (mX4_isNoPiece (A := A) (xa := xa) (X := X) (P := P) (k := k)) (cwV 1 hts (gV tw_5_178 tw_5_180 sel_X4_isNoPiece tw_1_8 tw_5_181) rfl rfl rfl (by decide +kernel) ⟨Nat.le_of_ble_eq_true rfl, Nat.le_of_ble_eq_true rfl⟩) hC hS hA (hW.recv hK) ⟨ra, pa, tx, hW⟩ rfl rfl hl.1 (Nat.le_of_ble_eq_true rfl) ⟨Nat.zero_le _, Nat.zero_le _⟩ dX4_isPiece_3 (fun r_36 hr_36 => ?_)
  obtain ⟨r_36v, hr_36v, rfl⟩ := hr_36
  refine f_ne (tgt := 16) hx hb dX4_isPiece_6 (by decide) (fun c_37 => ?_) (fun c_37 => ?_)
  · refine lv_iconst (v := nI 1) hx hb dX4_isPiece_16 (by decide) ?_
    refine lv_goto (tgt := 21) hx hb dX4_isPiece_17 (by decide) ?_
    refine lv_iconst (v := nI 1) hx hb dX4_isPiece_21 (by decide) ?_
    refine qI_V (A := A) (A1 := A) (b := am) (As := [.int (bI true), .int (nI 1)]) (rest := []) ⟨hx, hb, hml, hown, hts⟩ (mX4_start (A := A) (X := X) (P := P) (k := k) (xa := xa) (b := true) (w9 := 1) (by decide)) (cwV 2 hts (gV tw_4_206 tw_4_208 sel_X4_start tw_1_8 tw_4_209) rfl rfl rfl (by decide +kernel) ⟨Nat.le_of_ble_eq_true rfl, Nat.le_of_ble_eq_true rfl⟩) hC hS (fun _ h => h) (fun q h => hA q (Nat.le_trans hS.1 h)) (hW.recv hK) ⟨ra, pa, tx, hW⟩ rfl rfl hl.1 (Nat.le_of_ble_eq_true rfl) ⟨Nat.zero_le _, Nat.zero_le _⟩ dX4_isPiece_22 (fun rv38 H38 L38 hP38 hk38 hS => ?_)
    have hZ38 := hS.1
    obtain ⟨hr38, hM38⟩ := hP38
    subst hr38
    obtain ⟨ra, pa, tx, hW⟩ := hM38
    have hW : MWx G A am xa ra pa tx X P k (nI 1) H38 := hW
    have hO := hW.obj
    have hAm := hW.1
    refine f_ne (tgt := 56) hx hb dX4_isPiece_25 (by decide) (fun c_39 => ?_) (fun c_39 => ?_)
    · refine lv_iconst (v := nI 0) hx hb dX4_isPiece_56 (by decide) ?_
      exact q_z (b9 := false) hx hb hr hlocks dX4_isPiece_57 hS (Nat.le_refl _) (Nat.le_refl _) (Or.inl ⟨(Or.inl (hr_36v.mp c_37)), rfl, ra, pa, tx, hW⟩)
    · exact absurd c_39 (by decide)
  · obtain ⟨j, hj, rfl⟩ : ∃ j : Nat, j < P.length ∧ x = nI j := Classical.byContradiction (fun q => absurd (hr_36v.mpr q) (by rw [c_37]; decide))
    refine lv_iload_n hx hb dX4_isPiece_9 rfl (lv_at hl 2 rfl) ?_
    refine kS_i (A := A) (As := [.int y]) (rest := .ref am :: []) ⟨hx, hb, hml, hown, hts⟩ (mX4_isNone (A := A) ) (va_cwS 1 hts (gS tw_4_203 tw_4_204 tw_1_8 tw_4_205) rfl rfl rfl (by decide +kernel) ⟨Nat.le_of_ble_eq_true rfl, Nat.le_of_ble_eq_true rfl⟩) hC hS hA  trivial rfl rfl hl.1 (Nat.le_of_ble_eq_true rfl) ⟨Nat.zero_le _, Nat.zero_le _⟩ dX4_isPiece_10 (fun r_40 hr_40 => ?_)
    obtain ⟨r_40v, hr_40v, rfl⟩ := hr_40
    refine f_eq (tgt := 20) hx hb dX4_isPiece_13 (by decide) (fun c_41 => ?_) (fun c_41 => ?_)
    · obtain ⟨i, hi, rfl⟩ : ∃ i : Nat, i < 4 ∧ y = nI i := Classical.byContradiction (fun q => absurd (hr_40v.mpr q) (by rw [c_41]; decide))
      refine lv_iconst (v := nI 0) hx hb dX4_isPiece_20 (by decide) ?_
      refine lv_iconst (v := nI 1) hx hb dX4_isPiece_21 (by decide) ?_
      refine qI_V (A := A) (A1 := A) (b := am) (As := [.int (bI false), .int (nI 1)]) (rest := []) ⟨hx, hb, hml, hown, hts⟩ (mX4_start (A := A) (X := X) (P := P) (k := k) (xa := xa) (b := false) (w9 := 1) (by decide)) (cwV 2 hts (gV tw_4_206 tw_4_208 sel_X4_start tw_1_8 tw_4_209) rfl rfl rfl (by decide +kernel) ⟨Nat.le_of_ble_eq_true rfl, Nat.le_of_ble_eq_true rfl⟩) hC hS (fun _ h => h) (fun q h => hA q (Nat.le_trans hS.1 h)) (hW.recv hK) ⟨ra, pa, tx, hW⟩ rfl rfl hl.1 (Nat.le_of_ble_eq_true rfl) ⟨Nat.zero_le _, Nat.zero_le _⟩ dX4_isPiece_22 (fun rv42 H42 L42 hP42 hk42 hS => ?_)
      have hZ42 := hS.1
      obtain ⟨hr42, hM42⟩ := hP42
      subst hr42
      obtain ⟨ra, pa, tx, hW⟩ := hM42
      have hW : MWx G A am xa ra pa tx X P k (nI 0) H42 := hW
      have hO := hW.obj
      have hAm := hW.1
      refine f_ne (tgt := 56) hx hb dX4_isPiece_25 (by decide) (fun c_43 => ?_) (fun c_43 => ?_)
      · exact absurd c_43 (by decide)
      · obtain ⟨md, ed, cap9, f9, pq, w1, w2, w3, w4, w5, w6⟩ := MWx_pc hW hj
        have p60 := hW.2.2.2.1 j
        refine lv_aload_n hx hb dX4_isPiece_28 rfl (lv_at hl 0 rfl) ?_
        refine va_get (D := G.1) (ci := 8) (C := RX4) (T := TX4) (N := 5) hx hb hts inX4 hown hK (at_P hO) 0 rfl rfl 3 (by decide) (hts _ tw_4_175) (fun _ h9 => h9) rfl dX4_isPiece_29 ?_
        refine lv_iload_n hx hb dX4_isPiece_32 rfl (lv_at hl 1 rfl) ?_
        refine kV_a (A := A) (b := pa) (As := [.int (nI j)]) (rest := []) ⟨hx, hb, hml, hown, hts⟩ (mJx4a65c_get_915e3 (A := A) (j := j) (n := P.length) (f := f9) (cap := cap9) (md := md) (ed := ed) hj w3 (by omega) w5) (cwV 1 hts (gV tw_5_152 tw_5_153 tw_5_154 tw_1_11 tw_5_155) rfl rfl rfl (by decide +kernel) ⟨Nat.le_of_ble_eq_true rfl, Nat.le_of_ble_eq_true rfl⟩) hC hS hA (at_recv hK w1 (q := (RJx4a65c, TJx4a65c, 3)) rfl) ⟨w1, w2⟩ rfl rfl hl.1 (Nat.le_of_ble_eq_true rfl) ⟨Nat.zero_le _, Nat.zero_le _⟩ dX4_isPiece_33 (fun a_44 ha_44 => ?_)
        have e7 : a_44 = pq := ha_44
        subst e7
        refine va_castA (D := G.1) hx hb hown (hts _ tw_5_164) (at_P w6.fst) 0 rfl (findIA hK) dX4_isPiece_36 ?_
        have hPq := w6.ia hC.2.1.2
        refine lv_aload_n hx hb dX4_isPiece_39 rfl (lv_at hl 0 rfl) ?_
        refine va_get (D := G.1) (ci := 8) (C := RX4) (T := TX4) (N := 5) hx hb hts inX4 hown hK (at_P hO) 0 rfl rfl 1 (by decide) (hts _ tw_4_173) (fun _ h9 => h9) rfl dX4_isPiece_40 ?_
        refine lv_iload_n hx hb dX4_isPiece_43 rfl (lv_at hl 2 rfl) ?_
        refine h_aaldI (D := G.1) hx hb hK 4 hW.txs rfl (vp_in_nI (n := i) (N := 4) (by omega) (by omega)) dX4_isPiece_44 ?_
        refine v_cv (show va_rf _ = .ref (tx i) from by rw [nI_clamp (n := i) (by omega)]; rfl) ?_
        have hTi := (hW.tx (j := i) (by omega)).ia hC.2.1.2
        have x60i := hW.2.2.1 i (Or.inl (by omega))
        have i60 := x60i.2
        refine lv_iconst (v := nI 0) hx hb dX4_isPiece_45 (by decide) ?_
        refine kS_i (A := A) (As := [.ref a_44, .ref (tx i), .int (bI false)]) (rest := []) ⟨hx, hb, hml, hown, hts⟩ (mX4_isSame (A := A) (t := P.getD j []) (u := X i) (b0 := false) p60.1 x60i.1 (by omega) (by omega)) (va_cwS 3 hts (gS tw_6_220 tw_6_221 tw_1_8 tw_6_222) rfl rfl rfl (by decide +kernel) ⟨Nat.le_of_ble_eq_true rfl, Nat.le_of_ble_eq_true rfl⟩) hC hS hA  ⟨hPq, hTi⟩ rfl rfl hl.1 (Nat.le_of_ble_eq_true rfl) ⟨Nat.zero_le _, Nat.zero_le _⟩ dX4_isPiece_46 (fun r_45 hr_45 => ?_)
        obtain ⟨v9, hv9, rfl⟩ := hr_45
        refine f_eq (tgt := 56) hx hb dX4_isPiece_49 (by decide) (fun c_46 => ?_) (fun c_46 => ?_)
        · subst c_46
          refine lv_iconst (v := nI 0) hx hb dX4_isPiece_56 (by decide) ?_
          exact q_z (b9 := false) hx hb hr hlocks dX4_isPiece_57 hS (Nat.le_refl _) (Nat.le_refl _) (Or.inr (⟨j, i, false, hj, rfl, hi, rfl, hv9, rfl, ra, pa, tx, hW⟩))
        · subst c_46
          refine lv_iconst (v := nI 1) hx hb dX4_isPiece_52 (by decide) ?_
          refine lv_goto (tgt := 57) hx hb dX4_isPiece_53 (by decide) ?_
          exact q_z (b9 := true) hx hb hr hlocks dX4_isPiece_57 hS (Nat.le_refl _) (Nat.le_refl _) (Or.inr (⟨j, i, true, hj, rfl, hi, rfl, hv9, rfl, ra, pa, tx, hW⟩))
    · refine lv_iconst (v := nI 1) hx hb dX4_isPiece_16 (by decide) ?_
      refine lv_goto (tgt := 21) hx hb dX4_isPiece_17 (by decide) ?_
      refine lv_iconst (v := nI 1) hx hb dX4_isPiece_21 (by decide) ?_
      refine qI_V (A := A) (A1 := A) (b := am) (As := [.int (bI true), .int (nI 1)]) (rest := []) ⟨hx, hb, hml, hown, hts⟩ (mX4_start (A := A) (X := X) (P := P) (k := k) (xa := xa) (b := true) (w9 := 1) (by decide)) (cwV 2 hts (gV tw_4_206 tw_4_208 sel_X4_start tw_1_8 tw_4_209) rfl rfl rfl (by decide +kernel) ⟨Nat.le_of_ble_eq_true rfl, Nat.le_of_ble_eq_true rfl⟩) hC hS (fun _ h => h) (fun q h => hA q (Nat.le_trans hS.1 h)) (hW.recv hK) ⟨ra, pa, tx, hW⟩ rfl rfl hl.1 (Nat.le_of_ble_eq_true rfl) ⟨Nat.zero_le _, Nat.zero_le _⟩ dX4_isPiece_22 (fun rv47 H47 L47 hP47 hk47 hS => ?_)
      have hZ47 := hS.1
      obtain ⟨hr47, hM47⟩ := hP47
      subst hr47
      obtain ⟨ra, pa, tx, hW⟩ := hM47
      have hW : MWx G A am xa ra pa tx X P k (nI 1) H47 := hW
      have hO := hW.obj
      have hAm := hW.1
      refine f_ne (tgt := 56) hx hb dX4_isPiece_25 (by decide) (fun c_48 => ?_) (fun c_48 => ?_)
      · refine lv_iconst (v := nI 0) hx hb dX4_isPiece_56 (by decide) ?_
        exact q_z (b9 := false) hx hb hr hlocks dX4_isPiece_57 hS (Nat.le_refl _) (Nat.le_refl _) (Or.inl ⟨(Or.inr (hr_40v.mp c_41)), rfl, ra, pa, tx, hW⟩)
      · exact absurd c_48 (by decide)
