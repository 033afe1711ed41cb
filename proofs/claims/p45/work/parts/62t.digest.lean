/-! THE DIGEST, told, of class and reference -/
def stp (x : Int64) (v : Int32) : Int64 := x * 31 + v.toInt64
noncomputable def teC (b : Bool) (t : List Nat) : Nat := Classical.epsilon (fun e => isTe b t e)
noncomputable def fstV (t u : List Nat) : Int32 := Classical.epsilon (fstR (fun k => stL false t u k))
noncomputable def lstV (t u : List Nat) : Int32 := Classical.epsilon (lstR (fun k => stL false t u k))
noncomputable def ordV (b : Bool) (t u : List Nat) : Int32 := Classical.epsilon (ordR b t u)
noncomputable def samV (t u : List Nat) : Bool := Classical.epsilon (fun v : Bool => (v = true ↔ t.length = u.length ∧ stL true t u 0))
theorem te_ep {b : Bool} {t : List Nat} {e9 : Nat} (h : isTe b t e9) : e9 = teC b t := isTe.eq h (Classical.epsilon_spec (p := fun e => isTe b t e) ⟨e9, h⟩)
theorem fst_ep {t u : List Nat} {r : Int32} (h : fstR (fun k => stL false t u k) r) : r = fstV t u := fstR.eq h (Classical.epsilon_spec ⟨r, h⟩)
theorem lst_ep {t u : List Nat} {r : Int32} (h : lstR (fun k => stL false t u k) r) : r = lstV t u := lstR.eq h (Classical.epsilon_spec ⟨r, h⟩)
theorem ordR_u9 {b : Bool} {t u : List Nat} {x y : Int32} (h : ordR b t u x) (g : ordR b t u y) : x = y := by
  rcases h with ⟨k, h1, h2, h3, h4, h5⟩ | ⟨h1, h2⟩
  · rcases g with ⟨j, g1, g2, g3, g4, g5⟩ | ⟨g1, g2⟩
    · have e : k = j := by
        rcases Nat.lt_trichotomy k j with q | q | q
        · exact absurd (g3 k q) h4
        · exact q
        · exact absurd (h3 j q) g4
      subst e
      rw [h5, g5]
    · exact absurd (g1 k h1 h2) h4
  · rcases g with ⟨j, g1, g2, g3, g4, g5⟩ | ⟨g1, g2⟩
    · exact absurd (h1 j g1 g2) g4
    · rw [h2, g2]
theorem ord_ep {b : Bool} {t u : List Nat} {r : Int32} (h : ordR b t u r) : r = ordV b t u := ordR_u9 h (Classical.epsilon_spec ⟨r, h⟩)
theorem ordm_f {t u : List Nat} {r : Int32} (h : ∃ o9, ordR false t u o9 ∧ r = if false then sgI o9 else o9) : r = ordV false t u := by
  obtain ⟨o9, h1, h2⟩ := h
  rw [h2, if_neg (by decide)]
  exact ord_ep h1
theorem ordm_t {t u : List Nat} {r : Int32} (h : ∃ o9, ordR true t u o9 ∧ r = if true then sgI o9 else o9) : r = sgI (ordV true t u) := by
  obtain ⟨o9, h1, h2⟩ := h
  rw [h2, if_pos rfl, ord_ep h1]
theorem sam_ep {t u : List Nat} {v : Bool} (h : v = true ↔ t.length = u.length ∧ stL true t u 0) : v = samV t u := by
  have g : samV t u = true ↔ t.length = u.length ∧ stL true t u 0 := Classical.epsilon_spec (p := fun v : Bool => (v = true ↔ t.length = u.length ∧ stL true t u 0)) ⟨v, h⟩
  by_cases q : t.length = u.length ∧ stL true t u 0
  · rw [h.mpr q, g.mpr q]
  · rw [Bool.eq_false_iff.mpr (fun e => q (h.mp e)), Bool.eq_false_iff.mpr (fun e => q (g.mp e))]
theorem wh_dec {t : List Nat} {b : Bool} (he : isTe true t (teC true t)) (hc : if b then (cutL t (tbL true t) (teC true t)).length = 0 else ¬ (cutL t (tbL true t) (teC true t)).length = 0) : decide (tbL true t = t.length) = b := by
  have h1 := he.1
  have h2 := he.2.1
  rw [cutL_len h2] at hc
  cases b with
  | true =>
    have hc : teC true t - tbL true t = 0 := hc
    exact decide_eq_true (tbL_all he (by omega))
  | false =>
    have hc : ¬ teC true t - tbL true t = 0 := hc
    exact decide_eq_false (fun q => hc (by omega))
theorem hmV_pcd {X : Nat → List Nat} {t es : List Nat} {k : Int32} {w : Nat} : hmV X (pcL t es) k w = hsV X es k w := by
  match w with
  | 0 => rfl
  | 1 => show nI (pcL t es).length = nI es.length; rw [pcL_len]
  | 2 => rfl
  | 3 => rfl
  | _ + 4 => rfl
noncomputable def dTx (x : Int64) (t : List Nat) : Int64 := stp (stp (stp (stp (stp x (hashL t)) (nI t.length)) (bI (decide (tbL true t = t.length)))) (nI (teC false t - tbL false t))) (nI (teC true t - tbL true t))
noncomputable def dPr (x : Int64) (t u : List Nat) : Int64 := stp (stp (stp (stp (stp x (fstV t u)) (lstV t u)) (ordV false t u)) (sgI (ordV true t u))) (bI (samV t u))
def dfo (f : Int64 → Nat → Int64) (x : Int64) : Nat → Int64
  | 0 => x
  | n + 1 => f (dfo f x n) n
def dg1 (X : Nat → List Nat) (P : List (List Nat)) (k : Int32) (j : Nat) : Int64 := dfo (fun x w => stp x (hmV X P k w)) 6173 j
noncomputable def dg2 (X : Nat → List Nat) (P : List (List Nat)) (k : Int32) (j : Nat) : Int64 := dfo (fun x j => dTx x (X j)) (dg1 X P k 5) j
noncomputable def dg3 (X : Nat → List Nat) (P : List (List Nat)) (k : Int32) (j : Nat) : Int64 := dfo (fun x j => dfo (fun x q => dPr x (X j) (X q)) x 4) (dg2 X P k 4) j
noncomputable def dg3i (X : Nat → List Nat) (P : List (List Nat)) (k : Int32) (j q : Nat) : Int64 := dfo (fun x q => dPr x (X j) (X q)) (dg3 X P k j) q
noncomputable def dg4 (X : Nat → List Nat) (P : List (List Nat)) (k : Int32) (j : Nat) : Int64 := dfo (fun x j => stp x (nI ((X 11).getD j 0))) (dg3 X P k 4) j
noncomputable def dg5 (X : Nat → List Nat) (P : List (List Nat)) (k : Int32) (j : Nat) : Int64 := dfo (fun x j => stp x (nI (P.getD j []).length)) (dg4 X P k (X 11).length) j
noncomputable def dgM (X : Nat → List Nat) (P : List (List Nat)) (k : Int32) : Int64 := stp (dg5 X P k P.length) (bI true)
section DG
variable {X : Nat → List Nat} {P : List (List Nat)} {k : Int32} {j q : Nat} {x : Int64}
theorem stp_e (x : Int64) (v : Int32) : x * 31 + v.toInt64 = stp x v := rfl
theorem stp_t (x : Int64) : x * 31 + 1 = stp x (bI true) := by
  rw [← stp_e, show (bI true).toInt64 = 1 by decide]
theorem stp_f (x : Int64) : x * 31 + 0 = stp x (bI false) := by
  rw [← stp_e, show (bI false).toInt64 = 0 by decide]
theorem dfo_0 {f : Int64 → Nat → Int64} : dfo f x 0 = x := rfl
theorem dfo_s {f : Int64 → Nat → Int64} {n : Nat} : dfo f x (n + 1) = f (dfo f x n) n := rfl
theorem dg1_0 : dg1 X P k 0 = 6173 := by
  unfold dg1
  exact dfo_0
theorem dg1_s : dg1 X P k (j + 1) = stp (dg1 X P k j) (hmV X P k j) := by
  unfold dg1
  exact dfo_s
theorem dg2_0 : dg2 X P k 0 = dg1 X P k 5 := by
  unfold dg2
  exact dfo_0
theorem dg2_s : dg2 X P k (j + 1) = dTx (dg2 X P k j) (X j) := by
  unfold dg2
  exact dfo_s
theorem dg3_0 : dg3 X P k 0 = dg2 X P k 4 := by
  unfold dg3
  exact dfo_0
theorem dg3_s : dg3 X P k (j + 1) = dg3i X P k j 4 := by
  unfold dg3i dg3
  exact dfo_s
theorem dg3i_0 : dg3i X P k j 0 = dg3 X P k j := by
  unfold dg3i
  exact dfo_0
theorem dg3i_s : dg3i X P k j (q + 1) = dPr (dg3i X P k j q) (X j) (X q) := by
  unfold dg3i
  exact dfo_s
theorem dg4_0 : dg4 X P k 0 = dg3 X P k 4 := by
  unfold dg4
  exact dfo_0
theorem dg4_s : dg4 X P k (j + 1) = stp (dg4 X P k j) (nI ((X 11).getD j 0)) := by
  unfold dg4
  exact dfo_s
theorem dg5_0 : dg5 X P k 0 = dg4 X P k (X 11).length := by
  unfold dg5
  exact dfo_0
theorem dg5_s : dg5 X P k (j + 1) = stp (dg5 X P k j) (nI (P.getD j []).length) := by
  unfold dg5
  exact dfo_s
theorem dgM_e : dgM X P k = stp (dg5 X P k P.length) (bI true) := rfl
end DG
theorem mX2s_summedText {l : Launch} {G : Cx} {A : Nat → Prop} {x : Int64} {a ca : Nat} {t : List Nat} : Met l yX2_summedText (.code yX2_summedText cX2_summedText 5 (some .long) :: GW) rmX2_summedText (PC G A [.long x, .ref a] (LA G a ca t)) (vp_Sl (fun r => r = dTx x t)) 0 0 (fun _ => False) := by
  refine mstart "Signtext" (by decide +kernel) rfl (Nat.le_of_ble_eq_true rfl) ?_
  intro p e s m below meth c ls hx hb hr hts hown hml hlocks hname hC hA hW hl
  have hl : lv_has ls 5 [(0, .long x), (2, .ref a)] := hl
  have hK := hC.1
  have hS : va_S A s.heap s.heap [] := va_S.rf
  have t60 := hW.1
  refine lv_lload_n hx hb dX2_summedText_0 rfl (lv_at hl 0 rfl) ?_
  refine lv_aload_n hx hb dX2_summedText_1 rfl (lv_at hl 1 rfl) ?_
  refine kV_i (A := A) (b := a) (As := []) (rest := .long x :: []) ⟨hx, hb, hml, hown, hts⟩ (mX0_hashOfSigns (A := A) (ca := ca)) (cwV 0 hts (gV tw_2_110 tw_2_111 tw_2_112 tw_1_2 tw_2_113) rfl rfl rfl (by decide +kernel) ⟨Nat.le_of_ble_eq_true rfl, Nat.le_of_ble_eq_true rfl⟩) hC hS hA (hW.recv hK) hW rfl rfl hl.1 (Nat.le_of_ble_eq_true rfl) ⟨Nat.zero_le _, Nat.zero_le _⟩ dX2_summedText_2 (fun r9 h9 => lv_cv h9 ?_)
  refine lv_i2l hx hb dX2_summedText_5 rfl ?_
  refine kS_l (A := A) (As := [.long x, .long ((hashL t).toInt64)]) (rest := []) ⟨hx, hb, hml, hown, hts⟩ (mX2_summed (A := A) ) (va_cwS 2 hts (gS tw_2_200 tw_2_201 tw_1_1 tw_2_202) rfl rfl rfl (by decide +kernel) ⟨Nat.le_of_ble_eq_true rfl, Nat.le_of_ble_eq_true rfl⟩) hC hS hA trivial rfl rfl hl.1 (Nat.le_of_ble_eq_true rfl) ⟨Nat.zero_le _, Nat.zero_le _⟩ dX2_summedText_6 (fun y_51 hy_51 => lv_cvl (hy_51.trans (stp_e _ _)) ?_)
  refine lv_lstore_n (lv' := [(3, .long (stp x (hashL t))), (0, .long x), (2, .ref a)]) hx hb dX2_summedText_9 rfl hl (by decide) rfl (fun ls hl => ?_)
  refine lv_lload_n hx hb dX2_summedText_10 rfl (lv_at hl 0 rfl) ?_
  refine lv_aload_n hx hb dX2_summedText_11 rfl (lv_at hl 2 rfl) ?_
  refine kV_i (A := A) (b := a) (As := []) (rest := .long (stp x (hashL t)) :: []) ⟨hx, hb, hml, hown, hts⟩ (mX0_size (A := A) (ca := ca)) (cwV 0 hts (gV tw_2_30 tw_2_12 tw_2_13 tw_1_2 tw_2_14) rfl rfl rfl (by decide +kernel) ⟨Nat.le_of_ble_eq_true rfl, Nat.le_of_ble_eq_true rfl⟩) hC hS hA (hW.recv hK) hW rfl rfl hl.1 (Nat.le_of_ble_eq_true rfl) ⟨Nat.zero_le _, Nat.zero_le _⟩ dX2_summedText_12 (fun r9 h9 => lv_cv h9 ?_)
  refine lv_i2l hx hb dX2_summedText_15 rfl ?_
  refine kS_l (A := A) (As := [.long (stp x (hashL t)), .long ((nI t.length).toInt64)]) (rest := []) ⟨hx, hb, hml, hown, hts⟩ (mX2_summed (A := A) ) (va_cwS 2 hts (gS tw_2_200 tw_2_201 tw_1_1 tw_2_202) rfl rfl rfl (by decide +kernel) ⟨Nat.le_of_ble_eq_true rfl, Nat.le_of_ble_eq_true rfl⟩) hC hS hA trivial rfl rfl hl.1 (Nat.le_of_ble_eq_true rfl) ⟨Nat.zero_le _, Nat.zero_le _⟩ dX2_summedText_16 (fun y_52 hy_52 => lv_cvl (hy_52.trans (stp_e _ _)) ?_)
  refine lv_lstore_n (lv' := [(3, .long (stp (stp x (hashL t)) (nI t.length))), (0, .long x), (2, .ref a)]) hx hb dX2_summedText_19 rfl hl (by decide) rfl (fun ls hl => ?_)
  refine lv_lload_n hx hb dX2_summedText_20 rfl (lv_at hl 0 rfl) ?_
  refine lv_aload_n hx hb dX2_summedText_21 rfl (lv_at hl 2 rfl) ?_
  refine kV_i (A := A) (b := a) (As := []) (rest := .long (stp (stp x (hashL t)) (nI t.length)) :: []) ⟨hx, hb, hml, hown, hts⟩ (mX0_isAllWhite (A := A) (ca := ca)) (cwV 0 hts (gV tw_2_207 tw_2_208 tw_2_209 tw_1_2 tw_2_210) rfl rfl rfl (by decide +kernel) ⟨Nat.le_of_ble_eq_true rfl, Nat.le_of_ble_eq_true rfl⟩) hC hS hA (hW.recv hK) hW rfl rfl hl.1 (Nat.le_of_ble_eq_true rfl) ⟨Nat.zero_le _, Nat.zero_le _⟩ dX2_summedText_22 (fun r9 h9 => lv_cv h9 ?_)
  refine f_eq (tgt := 32) hx hb dX2_summedText_25 (by decide) (fun c_53 => ?_) (fun c_53 => ?_)
  · refine lv_lconst (v := 0) hx hb dX2_summedText_32 (by decide) ?_
    refine kS_l (A := A) (As := [.long (stp (stp x (hashL t)) (nI t.length)), .long 0]) (rest := []) ⟨hx, hb, hml, hown, hts⟩ (mX2_summed (A := A) ) (va_cwS 2 hts (gS tw_2_200 tw_2_201 tw_1_1 tw_2_202) rfl rfl rfl (by decide +kernel) ⟨Nat.le_of_ble_eq_true rfl, Nat.le_of_ble_eq_true rfl⟩) hC hS hA trivial rfl rfl hl.1 (Nat.le_of_ble_eq_true rfl) ⟨Nat.zero_le _, Nat.zero_le _⟩ dX2_summedText_33 (fun y_54 hy_54 => lv_cvl (hy_54.trans (show (stp (stp x (hashL t)) (nI t.length)) * 31 + 0 = stp (stp (stp x (hashL t)) (nI t.length)) (bI (decide (tbL true t = t.length))) from (by rw [c_53]; exact stp_f _))) ?_)
    refine lv_lstore_n (lv' := [(3, .long (stp (stp (stp x (hashL t)) (nI t.length)) (bI (decide (tbL true t = t.length))))), (0, .long x), (2, .ref a)]) hx hb dX2_summedText_36 rfl hl (by decide) rfl (fun ls hl => ?_)
    refine lv_lload_n hx hb dX2_summedText_37 rfl (lv_at hl 0 rfl) ?_
    refine lv_aload_n hx hb dX2_summedText_38 rfl (lv_at hl 2 rfl) ?_
    refine lv_iconst (v := nI 0) hx hb dX2_summedText_39 (by decide) ?_
    refine kV_i (A := A) (b := a) (As := [.int (bI false)]) (rest := .long (stp (stp (stp x (hashL t)) (nI t.length)) (bI (decide (tbL true t = t.length)))) :: []) ⟨hx, hb, hml, hown, hts⟩ (mX0_trimmedEnd (A := A) (ca := ca) (b := false)) (cwV 1 hts (gV tw_2_50 tw_2_51 tw_2_52 tw_1_2 tw_2_53) rfl rfl rfl (by decide +kernel) ⟨Nat.le_of_ble_eq_true rfl, Nat.le_of_ble_eq_true rfl⟩) hC hS hA (hW.recv hK) hW rfl rfl hl.1 (Nat.le_of_ble_eq_true rfl) ⟨Nat.zero_le _, Nat.zero_le _⟩ dX2_summedText_40 (fun r_55 hr_55 => ?_)
    obtain ⟨r_55e, he9, rfl⟩ := hr_55
    obtain rfl : r_55e = teC false t := te_ep he9
    have ge9 := he9.1
    refine lv_aload_n hx hb dX2_summedText_43 rfl (lv_at hl 2 rfl) ?_
    refine lv_iconst (v := nI 0) hx hb dX2_summedText_44 (by decide) ?_
    refine kV_i (A := A) (b := a) (As := [.int (bI false)]) (rest := .int (nI (teC false t)) :: .long (stp (stp (stp x (hashL t)) (nI t.length)) (bI (decide (tbL true t = t.length)))) :: []) ⟨hx, hb, hml, hown, hts⟩ (mX0_trimmedBegin (A := A) (ca := ca) (b := false)) (cwV 1 hts (gV tw_2_43 tw_2_44 tw_2_45 tw_1_2 tw_2_46) rfl rfl rfl (by decide +kernel) ⟨Nat.le_of_ble_eq_true rfl, Nat.le_of_ble_eq_true rfl⟩) hC hS hA (hW.recv hK) hW rfl rfl hl.1 (Nat.le_of_ble_eq_true rfl) ⟨Nat.zero_le _, Nat.zero_le _⟩ dX2_summedText_45 (fun r9 h9 => lv_cv h9 ?_)
    refine lv_isub hx hb dX2_summedText_48 ?_
    refine lv_cv (pk_sub (a := teC false t) (b := tbL false t) (by omega)) ?_
    refine lv_i2l hx hb dX2_summedText_49 rfl ?_
    refine kS_l (A := A) (As := [.long (stp (stp (stp x (hashL t)) (nI t.length)) (bI (decide (tbL true t = t.length)))), .long ((nI (teC false t - (tbL false t))).toInt64)]) (rest := []) ⟨hx, hb, hml, hown, hts⟩ (mX2_summed (A := A) ) (va_cwS 2 hts (gS tw_2_200 tw_2_201 tw_1_1 tw_2_202) rfl rfl rfl (by decide +kernel) ⟨Nat.le_of_ble_eq_true rfl, Nat.le_of_ble_eq_true rfl⟩) hC hS hA trivial rfl rfl hl.1 (Nat.le_of_ble_eq_true rfl) ⟨Nat.zero_le _, Nat.zero_le _⟩ dX2_summedText_50 (fun y_56 hy_56 => lv_cvl (hy_56.trans (stp_e _ _)) ?_)
    refine lv_lstore_n (lv' := [(3, .long (stp (stp (stp (stp x (hashL t)) (nI t.length)) (bI (decide (tbL true t = t.length)))) (nI (teC false t - (tbL false t))))), (0, .long x), (2, .ref a)]) hx hb dX2_summedText_53 rfl hl (by decide) rfl (fun ls hl => ?_)
    refine lv_lload_n hx hb dX2_summedText_54 rfl (lv_at hl 0 rfl) ?_
    refine lv_aload_n hx hb dX2_summedText_55 rfl (lv_at hl 2 rfl) ?_
    refine lv_iconst (v := nI 1) hx hb dX2_summedText_56 (by decide) ?_
    refine kV_i (A := A) (b := a) (As := [.int (bI true)]) (rest := .long (stp (stp (stp (stp x (hashL t)) (nI t.length)) (bI (decide (tbL true t = t.length)))) (nI (teC false t - (tbL false t)))) :: []) ⟨hx, hb, hml, hown, hts⟩ (mX0_trimmedEnd (A := A) (ca := ca) (b := true)) (cwV 1 hts (gV tw_2_50 tw_2_51 tw_2_52 tw_1_2 tw_2_53) rfl rfl rfl (by decide +kernel) ⟨Nat.le_of_ble_eq_true rfl, Nat.le_of_ble_eq_true rfl⟩) hC hS hA (hW.recv hK) hW rfl rfl hl.1 (Nat.le_of_ble_eq_true rfl) ⟨Nat.zero_le _, Nat.zero_le _⟩ dX2_summedText_57 (fun r_57 hr_57 => ?_)
    obtain ⟨r_57e, he9, rfl⟩ := hr_57
    obtain rfl : r_57e = teC true t := te_ep he9
    have ge9 := he9.1
    refine lv_aload_n hx hb dX2_summedText_60 rfl (lv_at hl 2 rfl) ?_
    refine lv_iconst (v := nI 1) hx hb dX2_summedText_61 (by decide) ?_
    refine kV_i (A := A) (b := a) (As := [.int (bI true)]) (rest := .int (nI (teC true t)) :: .long (stp (stp (stp (stp x (hashL t)) (nI t.length)) (bI (decide (tbL true t = t.length)))) (nI (teC false t - (tbL false t)))) :: []) ⟨hx, hb, hml, hown, hts⟩ (mX0_trimmedBegin (A := A) (ca := ca) (b := true)) (cwV 1 hts (gV tw_2_43 tw_2_44 tw_2_45 tw_1_2 tw_2_46) rfl rfl rfl (by decide +kernel) ⟨Nat.le_of_ble_eq_true rfl, Nat.le_of_ble_eq_true rfl⟩) hC hS hA (hW.recv hK) hW rfl rfl hl.1 (Nat.le_of_ble_eq_true rfl) ⟨Nat.zero_le _, Nat.zero_le _⟩ dX2_summedText_62 (fun r9 h9 => lv_cv h9 ?_)
    refine lv_isub hx hb dX2_summedText_65 ?_
    refine lv_cv (pk_sub (a := teC true t) (b := tbL true t) (by omega)) ?_
    refine lv_i2l hx hb dX2_summedText_66 rfl ?_
    refine kS_l (A := A) (As := [.long (stp (stp (stp (stp x (hashL t)) (nI t.length)) (bI (decide (tbL true t = t.length)))) (nI (teC false t - (tbL false t)))), .long ((nI (teC true t - (tbL true t))).toInt64)]) (rest := []) ⟨hx, hb, hml, hown, hts⟩ (mX2_summed (A := A) ) (va_cwS 2 hts (gS tw_2_200 tw_2_201 tw_1_1 tw_2_202) rfl rfl rfl (by decide +kernel) ⟨Nat.le_of_ble_eq_true rfl, Nat.le_of_ble_eq_true rfl⟩) hC hS hA trivial rfl rfl hl.1 (Nat.le_of_ble_eq_true rfl) ⟨Nat.zero_le _, Nat.zero_le _⟩ dX2_summedText_67 (fun y_58 hy_58 => lv_cvl (hy_58.trans (stp_e _ _)) ?_)
    exact p_l hx hb hr hlocks dX2_summedText_70 rfl
  · refine lv_lconst (v := 1) hx hb dX2_summedText_28 (by decide) ?_
    refine lv_goto (tgt := 33) hx hb dX2_summedText_29 (by decide) ?_
    refine kS_l (A := A) (As := [.long (stp (stp x (hashL t)) (nI t.length)), .long 1]) (rest := []) ⟨hx, hb, hml, hown, hts⟩ (mX2_summed (A := A) ) (va_cwS 2 hts (gS tw_2_200 tw_2_201 tw_1_1 tw_2_202) rfl rfl rfl (by decide +kernel) ⟨Nat.le_of_ble_eq_true rfl, Nat.le_of_ble_eq_true rfl⟩) hC hS hA trivial rfl rfl hl.1 (Nat.le_of_ble_eq_true rfl) ⟨Nat.zero_le _, Nat.zero_le _⟩ dX2_summedText_33 (fun y_59 hy_59 => lv_cvl (hy_59.trans (show (stp (stp x (hashL t)) (nI t.length)) * 31 + 1 = stp (stp (stp x (hashL t)) (nI t.length)) (bI (decide (tbL true t = t.length))) from (by rw [c_53]; exact stp_t _))) ?_)
    refine lv_lstore_n (lv' := [(3, .long (stp (stp (stp x (hashL t)) (nI t.length)) (bI (decide (tbL true t = t.length))))), (0, .long x), (2, .ref a)]) hx hb dX2_summedText_36 rfl hl (by decide) rfl (fun ls hl => ?_)
    refine lv_lload_n hx hb dX2_summedText_37 rfl (lv_at hl 0 rfl) ?_
    refine lv_aload_n hx hb dX2_summedText_38 rfl (lv_at hl 2 rfl) ?_
    refine lv_iconst (v := nI 0) hx hb dX2_summedText_39 (by decide) ?_
    refine kV_i (A := A) (b := a) (As := [.int (bI false)]) (rest := .long (stp (stp (stp x (hashL t)) (nI t.length)) (bI (decide (tbL true t = t.length)))) :: []) ⟨hx, hb, hml, hown, hts⟩ (mX0_trimmedEnd (A := A) (ca := ca) (b := false)) (cwV 1 hts (gV tw_2_50 tw_2_51 tw_2_52 tw_1_2 tw_2_53) rfl rfl rfl (by decide +kernel) ⟨Nat.le_of_ble_eq_true rfl, Nat.le_of_ble_eq_true rfl⟩) hC hS hA (hW.recv hK) hW rfl rfl hl.1 (Nat.le_of_ble_eq_true rfl) ⟨Nat.zero_le _, Nat.zero_le _⟩ dX2_summedText_40 (fun r_60 hr_60 => ?_)
    obtain ⟨r_60e, he9, rfl⟩ := hr_60
    obtain rfl : r_60e = teC false t := te_ep he9
    have ge9 := he9.1
    refine lv_aload_n hx hb dX2_summedText_43 rfl (lv_at hl 2 rfl) ?_
    refine lv_iconst (v := nI 0) hx hb dX2_summedText_44 (by decide) ?_
    refine kV_i (A := A) (b := a) (As := [.int (bI false)]) (rest := .int (nI (teC false t)) :: .long (stp (stp (stp x (hashL t)) (nI t.length)) (bI (decide (tbL true t = t.length)))) :: []) ⟨hx, hb, hml, hown, hts⟩ (mX0_trimmedBegin (A := A) (ca := ca) (b := false)) (cwV 1 hts (gV tw_2_43 tw_2_44 tw_2_45 tw_1_2 tw_2_46) rfl rfl rfl (by decide +kernel) ⟨Nat.le_of_ble_eq_true rfl, Nat.le_of_ble_eq_true rfl⟩) hC hS hA (hW.recv hK) hW rfl rfl hl.1 (Nat.le_of_ble_eq_true rfl) ⟨Nat.zero_le _, Nat.zero_le _⟩ dX2_summedText_45 (fun r9 h9 => lv_cv h9 ?_)
    refine lv_isub hx hb dX2_summedText_48 ?_
    refine lv_cv (pk_sub (a := teC false t) (b := tbL false t) (by omega)) ?_
    refine lv_i2l hx hb dX2_summedText_49 rfl ?_
    refine kS_l (A := A) (As := [.long (stp (stp (stp x (hashL t)) (nI t.length)) (bI (decide (tbL true t = t.length)))), .long ((nI (teC false t - (tbL false t))).toInt64)]) (rest := []) ⟨hx, hb, hml, hown, hts⟩ (mX2_summed (A := A) ) (va_cwS 2 hts (gS tw_2_200 tw_2_201 tw_1_1 tw_2_202) rfl rfl rfl (by decide +kernel) ⟨Nat.le_of_ble_eq_true rfl, Nat.le_of_ble_eq_true rfl⟩) hC hS hA trivial rfl rfl hl.1 (Nat.le_of_ble_eq_true rfl) ⟨Nat.zero_le _, Nat.zero_le _⟩ dX2_summedText_50 (fun y_61 hy_61 => lv_cvl (hy_61.trans (stp_e _ _)) ?_)
    refine lv_lstore_n (lv' := [(3, .long (stp (stp (stp (stp x (hashL t)) (nI t.length)) (bI (decide (tbL true t = t.length)))) (nI (teC false t - (tbL false t))))), (0, .long x), (2, .ref a)]) hx hb dX2_summedText_53 rfl hl (by decide) rfl (fun ls hl => ?_)
    refine lv_lload_n hx hb dX2_summedText_54 rfl (lv_at hl 0 rfl) ?_
    refine lv_aload_n hx hb dX2_summedText_55 rfl (lv_at hl 2 rfl) ?_
    refine lv_iconst (v := nI 1) hx hb dX2_summedText_56 (by decide) ?_
    refine kV_i (A := A) (b := a) (As := [.int (bI true)]) (rest := .long (stp (stp (stp (stp x (hashL t)) (nI t.length)) (bI (decide (tbL true t = t.length)))) (nI (teC false t - (tbL false t)))) :: []) ⟨hx, hb, hml, hown, hts⟩ (mX0_trimmedEnd (A := A) (ca := ca) (b := true)) (cwV 1 hts (gV tw_2_50 tw_2_51 tw_2_52 tw_1_2 tw_2_53) rfl rfl rfl (by decide +kernel) ⟨Nat.le_of_ble_eq_true rfl, Nat.le_of_ble_eq_true rfl⟩) hC hS hA (hW.recv hK) hW rfl rfl hl.1 (Nat.le_of_ble_eq_true rfl) ⟨Nat.zero_le _, Nat.zero_le _⟩ dX2_summedText_57 (fun r_62 hr_62 => ?_)
    obtain ⟨r_62e, he9, rfl⟩ := hr_62
    obtain rfl : r_62e = teC true t := te_ep he9
    have ge9 := he9.1
    refine lv_aload_n hx hb dX2_summedText_60 rfl (lv_at hl 2 rfl) ?_
    refine lv_iconst (v := nI 1) hx hb dX2_summedText_61 (by decide) ?_
    refine kV_i (A := A) (b := a) (As := [.int (bI true)]) (rest := .int (nI (teC true t)) :: .long (stp (stp (stp (stp x (hashL t)) (nI t.length)) (bI (decide (tbL true t = t.length)))) (nI (teC false t - (tbL false t)))) :: []) ⟨hx, hb, hml, hown, hts⟩ (mX0_trimmedBegin (A := A) (ca := ca) (b := true)) (cwV 1 hts (gV tw_2_43 tw_2_44 tw_2_45 tw_1_2 tw_2_46) rfl rfl rfl (by decide +kernel) ⟨Nat.le_of_ble_eq_true rfl, Nat.le_of_ble_eq_true rfl⟩) hC hS hA (hW.recv hK) hW rfl rfl hl.1 (Nat.le_of_ble_eq_true rfl) ⟨Nat.zero_le _, Nat.zero_le _⟩ dX2_summedText_62 (fun r9 h9 => lv_cv h9 ?_)
    refine lv_isub hx hb dX2_summedText_65 ?_
    refine lv_cv (pk_sub (a := teC true t) (b := tbL true t) (by omega)) ?_
    refine lv_i2l hx hb dX2_summedText_66 rfl ?_
    refine kS_l (A := A) (As := [.long (stp (stp (stp (stp x (hashL t)) (nI t.length)) (bI (decide (tbL true t = t.length)))) (nI (teC false t - (tbL false t)))), .long ((nI (teC true t - (tbL true t))).toInt64)]) (rest := []) ⟨hx, hb, hml, hown, hts⟩ (mX2_summed (A := A) ) (va_cwS 2 hts (gS tw_2_200 tw_2_201 tw_1_1 tw_2_202) rfl rfl rfl (by decide +kernel) ⟨Nat.le_of_ble_eq_true rfl, Nat.le_of_ble_eq_true rfl⟩) hC hS hA trivial rfl rfl hl.1 (Nat.le_of_ble_eq_true rfl) ⟨Nat.zero_le _, Nat.zero_le _⟩ dX2_summedText_67 (fun y_63 hy_63 => lv_cvl (hy_63.trans (stp_e _ _)) ?_)
    exact p_l hx hb hr hlocks dX2_summedText_70 rfl

theorem mX2s_summedPair {l : Launch} {G : Cx} {A : Nat → Prop} {x : Int64} {a ca b cb : Nat} {t u : List Nat} : Met l yX2_summedPair (.code yX2_summedPair cX2_summedPair 6 (some .long) :: GW) rmX2_summedPair (PC G A [.long x, .ref a, .ref b] (fun H => LA G a ca t H ∧ LA G b cb u H)) (vp_Sl (fun r => r = dPr x t u)) 0 0 (fun _ => False) := by
  refine mstart "Signtext" (by decide +kernel) rfl (Nat.le_of_ble_eq_true rfl) ?_
  intro p e s m below meth c ls hx hb hr hts hown hml hlocks hname hC hA hW hl
  have hl : lv_has ls 6 [(0, .long x), (2, .ref a), (3, .ref b)] := hl
  have hK := hC.1
  have hS : va_S A s.heap s.heap [] := va_S.rf
  obtain ⟨hWa, hWb⟩ := hW
  refine lv_lload_n hx hb dX2_summedPair_0 rfl (lv_at hl 0 rfl) ?_
  refine lv_aload_n hx hb dX2_summedPair_1 rfl (lv_at hl 1 rfl) ?_
  refine lv_aload_n hx hb dX2_summedPair_2 rfl (lv_at hl 2 rfl) ?_
  refine kV_i (A := A) (b := a) (As := [.ref b]) (rest := .long x :: []) ⟨hx, hb, hml, hown, hts⟩ (mX0_firstPlaceOf (A := A) (ca := ca) (cb := cb)) (cwV 1 hts (gV tw_2_102 tw_2_103 tw_2_104 tw_1_2 tw_2_105) rfl rfl rfl (by decide +kernel) ⟨Nat.le_of_ble_eq_true rfl, Nat.le_of_ble_eq_true rfl⟩) hC hS hA (hWa.recv hK) ⟨hWa, hWb⟩ rfl rfl hl.1 (Nat.le_of_ble_eq_true rfl) ⟨Nat.zero_le _, Nat.zero_le _⟩ dX2_summedPair_3 (fun r_64 hr_64 => ?_)
  obtain rfl : r_64 = fstV t u := fst_ep hr_64
  refine lv_i2l hx hb dX2_summedPair_6 rfl ?_
  refine kS_l (A := A) (As := [.long x, .long ((fstV t u).toInt64)]) (rest := []) ⟨hx, hb, hml, hown, hts⟩ (mX2_summed (A := A) ) (va_cwS 2 hts (gS tw_2_200 tw_2_201 tw_1_1 tw_2_202) rfl rfl rfl (by decide +kernel) ⟨Nat.le_of_ble_eq_true rfl, Nat.le_of_ble_eq_true rfl⟩) hC hS hA trivial rfl rfl hl.1 (Nat.le_of_ble_eq_true rfl) ⟨Nat.zero_le _, Nat.zero_le _⟩ dX2_summedPair_7 (fun y_65 hy_65 => lv_cvl (hy_65.trans (stp_e _ _)) ?_)
  refine lv_lstore (lv' := [(4, .long (stp x (fstV t u))), (0, .long x), (2, .ref a), (3, .ref b)]) hx hb dX2_summedPair_10 hl (by decide) rfl (fun ls hl => ?_)
  refine lv_lload hx hb dX2_summedPair_12 (lv_at hl 0 rfl) ?_
  refine lv_aload_n hx hb dX2_summedPair_14 rfl (lv_at hl 2 rfl) ?_
  refine lv_aload_n hx hb dX2_summedPair_15 rfl (lv_at hl 3 rfl) ?_
  refine kV_i (A := A) (b := a) (As := [.ref b]) (rest := .long (stp x (fstV t u)) :: []) ⟨hx, hb, hml, hown, hts⟩ (mX0_lastPlaceOf (A := A) (ca := ca) (cb := cb)) (cwV 1 hts (gV tw_2_106 tw_2_107 tw_2_108 tw_1_2 tw_2_109) rfl rfl rfl (by decide +kernel) ⟨Nat.le_of_ble_eq_true rfl, Nat.le_of_ble_eq_true rfl⟩) hC hS hA (hWa.recv hK) ⟨hWa, hWb⟩ rfl rfl hl.1 (Nat.le_of_ble_eq_true rfl) ⟨Nat.zero_le _, Nat.zero_le _⟩ dX2_summedPair_16 (fun r_66 hr_66 => ?_)
  obtain rfl : r_66 = lstV t u := lst_ep hr_66
  refine lv_i2l hx hb dX2_summedPair_19 rfl ?_
  refine kS_l (A := A) (As := [.long (stp x (fstV t u)), .long ((lstV t u).toInt64)]) (rest := []) ⟨hx, hb, hml, hown, hts⟩ (mX2_summed (A := A) ) (va_cwS 2 hts (gS tw_2_200 tw_2_201 tw_1_1 tw_2_202) rfl rfl rfl (by decide +kernel) ⟨Nat.le_of_ble_eq_true rfl, Nat.le_of_ble_eq_true rfl⟩) hC hS hA trivial rfl rfl hl.1 (Nat.le_of_ble_eq_true rfl) ⟨Nat.zero_le _, Nat.zero_le _⟩ dX2_summedPair_20 (fun y_67 hy_67 => lv_cvl (hy_67.trans (stp_e _ _)) ?_)
  refine lv_lstore (lv' := [(4, .long (stp (stp x (fstV t u)) (lstV t u))), (0, .long x), (2, .ref a), (3, .ref b)]) hx hb dX2_summedPair_23 hl (by decide) rfl (fun ls hl => ?_)
  refine lv_lload hx hb dX2_summedPair_25 (lv_at hl 0 rfl) ?_
  refine lv_aload_n hx hb dX2_summedPair_27 rfl (lv_at hl 2 rfl) ?_
  refine lv_aload_n hx hb dX2_summedPair_28 rfl (lv_at hl 3 rfl) ?_
  refine lv_iconst (v := nI 0) hx hb dX2_summedPair_29 (by decide) ?_
  refine kV_i (A := A) (b := a) (As := [.ref b, .int (bI false)]) (rest := .long (stp (stp x (fstV t u)) (lstV t u)) :: []) ⟨hx, hb, hml, hown, hts⟩ (mX0_orderTo (A := A) (ca := ca) (cb := cb) (b0 := false)) (cwV 2 hts (gV tw_2_98 tw_2_99 tw_2_100 tw_1_2 tw_2_101) rfl rfl rfl (by decide +kernel) ⟨Nat.le_of_ble_eq_true rfl, Nat.le_of_ble_eq_true rfl⟩) hC hS hA (hWa.recv hK) ⟨hWa, hWb⟩ rfl rfl hl.1 (Nat.le_of_ble_eq_true rfl) ⟨Nat.zero_le _, Nat.zero_le _⟩ dX2_summedPair_30 (fun r_68 hr_68 => ?_)
  obtain rfl : r_68 = ordV false t u := ord_ep hr_68
  refine lv_i2l hx hb dX2_summedPair_33 rfl ?_
  refine kS_l (A := A) (As := [.long (stp (stp x (fstV t u)) (lstV t u)), .long ((ordV false t u).toInt64)]) (rest := []) ⟨hx, hb, hml, hown, hts⟩ (mX2_summed (A := A) ) (va_cwS 2 hts (gS tw_2_200 tw_2_201 tw_1_1 tw_2_202) rfl rfl rfl (by decide +kernel) ⟨Nat.le_of_ble_eq_true rfl, Nat.le_of_ble_eq_true rfl⟩) hC hS hA trivial rfl rfl hl.1 (Nat.le_of_ble_eq_true rfl) ⟨Nat.zero_le _, Nat.zero_le _⟩ dX2_summedPair_34 (fun y_69 hy_69 => lv_cvl (hy_69.trans (stp_e _ _)) ?_)
  refine lv_lstore (lv' := [(4, .long (stp (stp (stp x (fstV t u)) (lstV t u)) (ordV false t u))), (0, .long x), (2, .ref a), (3, .ref b)]) hx hb dX2_summedPair_37 hl (by decide) rfl (fun ls hl => ?_)
  refine lv_lload hx hb dX2_summedPair_39 (lv_at hl 0 rfl) ?_
  refine lv_aload_n hx hb dX2_summedPair_41 rfl (lv_at hl 2 rfl) ?_
  refine lv_aload_n hx hb dX2_summedPair_42 rfl (lv_at hl 3 rfl) ?_
  refine lv_iconst (v := nI 1) hx hb dX2_summedPair_43 (by decide) ?_
  refine kV_i (A := A) (b := a) (As := [.ref b, .int (bI true)]) (rest := .long (stp (stp (stp x (fstV t u)) (lstV t u)) (ordV false t u)) :: []) ⟨hx, hb, hml, hown, hts⟩ (mX0_orderTo (A := A) (ca := ca) (cb := cb) (b0 := true)) (cwV 2 hts (gV tw_2_98 tw_2_99 tw_2_100 tw_1_2 tw_2_101) rfl rfl rfl (by decide +kernel) ⟨Nat.le_of_ble_eq_true rfl, Nat.le_of_ble_eq_true rfl⟩) hC hS hA (hWa.recv hK) ⟨hWa, hWb⟩ rfl rfl hl.1 (Nat.le_of_ble_eq_true rfl) ⟨Nat.zero_le _, Nat.zero_le _⟩ dX2_summedPair_44 (fun r_70 hr_70 => ?_)
  obtain rfl : r_70 = ordV true t u := ord_ep hr_70
  refine kS_i (A := A) (As := [.int (ordV true t u)]) (rest := .long (stp (stp (stp x (fstV t u)) (lstV t u)) (ordV false t u)) :: []) ⟨hx, hb, hml, hown, hts⟩ (mX2_directionOf (A := A) ) (va_cwS 1 hts (gS tw_2_214 tw_2_215 tw_1_1 tw_2_216) rfl rfl rfl (by decide +kernel) ⟨Nat.le_of_ble_eq_true rfl, Nat.le_of_ble_eq_true rfl⟩) hC hS hA  trivial rfl rfl hl.1 (Nat.le_of_ble_eq_true rfl) ⟨Nat.zero_le _, Nat.zero_le _⟩ dX2_summedPair_47 (fun r9 h9 => lv_cv h9 ?_)
  refine lv_i2l hx hb dX2_summedPair_50 rfl ?_
  refine kS_l (A := A) (As := [.long (stp (stp (stp x (fstV t u)) (lstV t u)) (ordV false t u)), .long ((sgI (ordV true t u)).toInt64)]) (rest := []) ⟨hx, hb, hml, hown, hts⟩ (mX2_summed (A := A) ) (va_cwS 2 hts (gS tw_2_200 tw_2_201 tw_1_1 tw_2_202) rfl rfl rfl (by decide +kernel) ⟨Nat.le_of_ble_eq_true rfl, Nat.le_of_ble_eq_true rfl⟩) hC hS hA trivial rfl rfl hl.1 (Nat.le_of_ble_eq_true rfl) ⟨Nat.zero_le _, Nat.zero_le _⟩ dX2_summedPair_51 (fun y_71 hy_71 => lv_cvl (hy_71.trans (stp_e _ _)) ?_)
  refine lv_lstore (lv' := [(4, .long (stp (stp (stp (stp x (fstV t u)) (lstV t u)) (ordV false t u)) (sgI (ordV true t u)))), (0, .long x), (2, .ref a), (3, .ref b)]) hx hb dX2_summedPair_54 hl (by decide) rfl (fun ls hl => ?_)
  refine lv_lload hx hb dX2_summedPair_56 (lv_at hl 0 rfl) ?_
  refine lv_aload_n hx hb dX2_summedPair_58 rfl (lv_at hl 2 rfl) ?_
  refine lv_aload_n hx hb dX2_summedPair_59 rfl (lv_at hl 3 rfl) ?_
  refine lv_iconst (v := nI 1) hx hb dX2_summedPair_60 (by decide) ?_
  refine kV_i (A := A) (b := a) (As := [.ref b, .int (bI true)]) (rest := .long (stp (stp (stp (stp x (fstV t u)) (lstV t u)) (ordV false t u)) (sgI (ordV true t u))) :: []) ⟨hx, hb, hml, hown, hts⟩ (mX0_isSameAs (A := A) (ca := ca) (cb := cb) (b0 := true)) (cwV 2 hts (gV tw_2_7 tw_2_8 tw_2_9 tw_1_2 tw_2_10) rfl rfl rfl (by decide +kernel) ⟨Nat.le_of_ble_eq_true rfl, Nat.le_of_ble_eq_true rfl⟩) hC hS hA (hWa.recv hK) ⟨hWa, hWb⟩ rfl rfl hl.1 (Nat.le_of_ble_eq_true rfl) ⟨Nat.zero_le _, Nat.zero_le _⟩ dX2_summedPair_61 (fun r_72 hr_72 => ?_)
  obtain ⟨r_72v, hv9, rfl⟩ := hr_72
  obtain rfl : r_72v = samV t u := sam_ep hv9
  refine f_eq (tgt := 71) hx hb dX2_summedPair_64 (by decide) (fun c_73 => ?_) (fun c_73 => ?_)
  · refine lv_lconst (v := 0) hx hb dX2_summedPair_71 (by decide) ?_
    refine kS_l (A := A) (As := [.long (stp (stp (stp (stp x (fstV t u)) (lstV t u)) (ordV false t u)) (sgI (ordV true t u))), .long 0]) (rest := []) ⟨hx, hb, hml, hown, hts⟩ (mX2_summed (A := A) ) (va_cwS 2 hts (gS tw_2_200 tw_2_201 tw_1_1 tw_2_202) rfl rfl rfl (by decide +kernel) ⟨Nat.le_of_ble_eq_true rfl, Nat.le_of_ble_eq_true rfl⟩) hC hS hA trivial rfl rfl hl.1 (Nat.le_of_ble_eq_true rfl) ⟨Nat.zero_le _, Nat.zero_le _⟩ dX2_summedPair_72 (fun y_74 hy_74 => lv_cvl (hy_74.trans (show (stp (stp (stp (stp x (fstV t u)) (lstV t u)) (ordV false t u)) (sgI (ordV true t u))) * 31 + 0 = stp (stp (stp (stp (stp x (fstV t u)) (lstV t u)) (ordV false t u)) (sgI (ordV true t u))) (bI (samV t u)) from (by rw [c_73]; exact stp_f _))) ?_)
    exact p_l hx hb hr hlocks dX2_summedPair_75 rfl
  · refine lv_lconst (v := 1) hx hb dX2_summedPair_67 (by decide) ?_
    refine lv_goto (tgt := 72) hx hb dX2_summedPair_68 (by decide) ?_
    refine kS_l (A := A) (As := [.long (stp (stp (stp (stp x (fstV t u)) (lstV t u)) (ordV false t u)) (sgI (ordV true t u))), .long 1]) (rest := []) ⟨hx, hb, hml, hown, hts⟩ (mX2_summed (A := A) ) (va_cwS 2 hts (gS tw_2_200 tw_2_201 tw_1_1 tw_2_202) rfl rfl rfl (by decide +kernel) ⟨Nat.le_of_ble_eq_true rfl, Nat.le_of_ble_eq_true rfl⟩) hC hS hA trivial rfl rfl hl.1 (Nat.le_of_ble_eq_true rfl) ⟨Nat.zero_le _, Nat.zero_le _⟩ dX2_summedPair_72 (fun y_75 hy_75 => lv_cvl (hy_75.trans (show (stp (stp (stp (stp x (fstV t u)) (lstV t u)) (ordV false t u)) (sgI (ordV true t u))) * 31 + 1 = stp (stp (stp (stp (stp x (fstV t u)) (lstV t u)) (ordV false t u)) (sgI (ordV true t u))) (bI (samV t u)) from (by rw [c_73]; exact stp_t _))) ?_)
    exact p_l hx hb hr hlocks dX2_summedPair_75 rfl

theorem mX2s_digest {l : Launch} {G : Cx} {A : Nat → Prop} (hst : l.stackTraces = false) {SA : Nat → Nat} {X : Nat → List Nat} {es : List Nat} {k : Int32} (hAS : ∀ i : Nat, i < 39 → A (SA i)) : vx_Met l yX2_digest (.code yX2_digest cX2_digest 5 (some .long) :: GW) rmX2_digest (PC G A [.ref (SA 0)] (SS G SA X es k)) (qL A (fun r H => r = dgM X (pcL (X 14) es) k ∧ SS G SA X es k H)) (xE A (fun _ _ => False)) 5 30 A := by
  refine mstartX "Signtext" (by decide +kernel) rfl (Nat.le_of_ble_eq_true rfl) ?_
  intro p e s m below meth c ls hx hb hr hts hown hml hlocks hnx hC hA hW hl
  have hl : lv_has ls 5 [(0, .ref (SA 0))] := hl
  have hK := hC.1
  have hS : va_S A s.heap s.heap [] := va_S.rf
  have hSS := hW
  refine lv_ldc2 (v := 6173) hx hb hown (hts _ tw_2_123) dX2_digest_0 ?_
  refine lv_lstore_n (lv' := [(1, .long 6173), (0, .ref (SA 0))]) hx hb dX2_digest_3 rfl hl (by decide) rfl (fun ls hl => ?_)
  refine lv_iconst (v := nI 0) hx hb dX2_digest_4 (by decide) ?_
  refine lv_istore_n (lv' := [(3, .int (nI 0)), (1, .long 6173), (0, .ref (SA 0))]) hx hb dX2_digest_5 rfl hl (by decide) rfl (fun ls hl => ?_)
  have k173 : ∀ (ls : Array Slot) (H : Heap) (L : List Loc), lv_has ls 5 [(1, .long (dg5 X (pcL (X 14) es) k (es.length))), (0, .ref (SA 0))] → va_S A s.heap H L → SS G SA X es k H → W p l e rmX2_digest s m [.ref (SA 0)].toArray below meth c H L 5 30 (vx_MQ below (qL A (fun r H => r = dgM X (pcL (X 14) es) k ∧ SS G SA X es k H)) (xE A (fun _ _ => False)) [.ref (SA 0)].toArray s 5 30 A) (F0 m 173 ls []) := by
    clear hl hS hSS hW
    intro ls H L hl hS hSS
    have hs9 := hSS
    obtain ⟨T, es2, hW, hF⟩ := hs9
    have hO := hW.2.1
    have hR1 := hW.2.2.1
    have hR2 := hW.2.2.2.1
    refine lv_lload_n hx hb dX2_digest_173 rfl (lv_at hl 0 rfl) ?_
    refine lv_aload_n hx hb dX2_digest_174 rfl (lv_at hl 1 rfl) ?_
    refine qI_V (A := A) (A1 := A) (b := (SA 0)) (As := []) (rest := .long (dg5 X (pcL (X 14) es) k (es.length)) :: []) ⟨hx, hb, hml, hown, hts⟩ (mX2s_isSound (A := A) hAS) (cwV 0 hts (gV tw_2_220 tw_1_232 tw_1_233 tw_1_1 tw_1_234) rfl rfl rfl (by decide +kernel) ⟨Nat.le_of_ble_eq_true rfl, Nat.le_of_ble_eq_true rfl⟩) hC hS (fun _ h => h) (fun q h => hA q (Nat.le_trans hS.1 h)) (hW.recv hK) hSS rfl rfl hl.1 (Nat.le_of_ble_eq_true rfl) ⟨Nat.le_trans (show 5 ≤ 5 by omega) (Nat.le_of_ble_eq_true rfl), Nat.le_trans (show 30 ≤ 30 by omega) (Nat.le_of_ble_eq_true rfl)⟩ dX2_digest_175 (fun rv76 H76 L76 hP76 hk76 hS => ?_)
    have hZ76 := hS.1
    obtain ⟨hv76, hSS⟩ := hP76
    subst hv76
    refine f_eq (tgt := 185) hx hb dX2_digest_178 (by decide) (fun c_77 => ?_) (fun c_77 => ?_)
    · exact absurd c_77 (by decide)
    · refine lv_lconst (v := 1) hx hb dX2_digest_181 (by decide) ?_
      refine lv_goto (tgt := 186) hx hb dX2_digest_182 (by decide) ?_
      refine kS_l (A := A) (As := [.long (dg5 X (pcL (X 14) es) k (es.length)), .long 1]) (rest := []) ⟨hx, hb, hml, hown, hts⟩ (mX2_summed (A := A) ) (va_cwS 2 hts (gS tw_2_200 tw_2_201 tw_1_1 tw_2_202) rfl rfl rfl (by decide +kernel) ⟨Nat.le_of_ble_eq_true rfl, Nat.le_of_ble_eq_true rfl⟩) hC hS hA trivial rfl rfl hl.1 (Nat.le_of_ble_eq_true rfl) ⟨Nat.le_trans (show 5 ≤ 5 by omega) (Nat.le_of_ble_eq_true rfl), Nat.le_trans (show 30 ≤ 30 by omega) (Nat.le_of_ble_eq_true rfl)⟩ dX2_digest_186 (fun y_78 hy_78 => lv_cvl (hy_78.trans (show (dg5 X (pcL (X 14) es) k (es.length)) * 31 + 1 = dgM X (pcL (X 14) es) k from (by rw [dgM_e, pcL_len]; exact stp_t _))) ?_)
      exact vx_ret (q_l hx hb hr hlocks dX2_digest_189 hS (Nat.le_refl _) (Nat.le_refl _) ⟨rfl, hSS⟩)
  have k131 : ∀ (ls : Array Slot) (H : Heap) (L : List Loc), lv_has ls 5 [(1, .long (dg4 X (pcL (X 14) es) k ((X 11).length))), (0, .ref (SA 0))] → va_S A s.heap H L → SS G SA X es k H → W p l e rmX2_digest s m [.ref (SA 0)].toArray below meth c H L 5 30 (vx_MQ below (qL A (fun r H => r = dgM X (pcL (X 14) es) k ∧ SS G SA X es k H)) (xE A (fun _ _ => False)) [.ref (SA 0)].toArray s 5 30 A) (F0 m 131 ls []) := by
    clear hl hS hSS hW
    intro ls H L hl hS hSS
    refine lv_iconst (v := nI 0) hx hb dX2_digest_131 (by decide) ?_
    refine lv_istore_n (lv' := [(3, .int (nI 0)), (1, .long (dg4 X (pcL (X 14) es) k ((X 11).length))), (0, .ref (SA 0))]) hx hb dX2_digest_132 rfl hl (by decide) rfl (fun ls hl => ?_)
    rw [← dg5_0] at hl
    refine nloop (P := fun j => ∀ (ls : Array Slot) (H : Heap) (L : List Loc), lv_has ls 5 [(3, .int (nI j)), (1, .long (dg5 X (pcL (X 14) es) k (j))), (0, .ref (SA 0))] → va_S A s.heap H L → SS G SA X es k H → W p l e rmX2_digest s m [.ref (SA 0)].toArray below meth c H L 5 30 (vx_MQ below (qL A (fun r H => r = dgM X (pcL (X 14) es) k ∧ SS G SA X es k H)) (xE A (fun _ _ => False)) [.ref (SA 0)].toArray s 5 30 A) (F0 m 133 ls [])) es.length ?_ 0 (Nat.zero_le _) ls H L hl hS hSS
    clear hl
    intro j hj ih ls H L hl
    clear hS hSS
    intro hS hSS
    have hs9 := hSS
    obtain ⟨T, es2, hW, hF⟩ := hs9
    have hO := hW.2.1
    have hR1 := hW.2.2.1
    have hR2 := hW.2.2.2.1
    refine lv_iload_n hx hb dX2_digest_133 rfl (lv_at hl 0 rfl) ?_
    refine lv_aload_n hx hb dX2_digest_134 rfl (lv_at hl 2 rfl) ?_
    refine va_get (D := G.1) (ci := 6) (C := RX2) (T := TX2) (N := 8) hx hb hts inX2 hown hK (at_P hO) 0 rfl rfl 3 (by decide) (hts _ tw_1_140) (fun _ h9 => h9) rfl dX2_digest_135 ?_
    have hPB := hW.pcs.1
    have e61 := hPB.1
    refine kV_i (A := A) (b := (SA 3)) (As := []) (rest := .int (nI j) :: []) ⟨hx, hb, hml, hown, hts⟩ (mX1_size (A := A) (la := SA 35) (ea := SA 4) (es := es)) (cwV 0 hts (gV tw_2_82 tw_2_83 tw_2_84 tw_1_3 tw_2_85) rfl rfl rfl (by decide +kernel) ⟨Nat.le_of_ble_eq_true rfl, Nat.le_of_ble_eq_true rfl⟩) hC hS hA (hPB.recv hK) hPB rfl rfl hl.1 (Nat.le_of_ble_eq_true rfl) ⟨Nat.le_trans (show 5 ≤ 5 by omega) (Nat.le_of_ble_eq_true rfl), Nat.le_trans (show 30 ≤ 30 by omega) (Nat.le_of_ble_eq_true rfl)⟩ dX2_digest_138 (fun r9 h9 => lv_cv h9 ?_)
    refine b_ge (tgt := 173) hx hb dX2_digest_141 (by decide) (by omega) (by omega) (fun c_79 => ?_) (fun c_79 => ?_)
    · obtain rfl : j = es.length := by omega
      exact k173 ls H L (lv_sub hl [1, 2] rfl) hS hSS
    · have hok := hW.pcs.2.2.1 j (by omega)
      rw [hF 14 (Or.inr (Or.inr rfl))] at hok
      have ho1 := hok.1
      have ho2 := hok.2
      refine lv_lload_n hx hb dX2_digest_144 rfl (lv_at hl 1 rfl) ?_
      refine lv_aload_n hx hb dX2_digest_145 rfl (lv_at hl 2 rfl) ?_
      refine va_get (D := G.1) (ci := 6) (C := RX2) (T := TX2) (N := 8) hx hb hts inX2 hown hK (at_P hO) 0 rfl rfl 3 (by decide) (hts _ tw_1_140) (fun _ h9 => h9) rfl dX2_digest_146 ?_
      refine lv_iload_n hx hb dX2_digest_149 rfl (lv_at hl 0 rfl) ?_
      refine kV_i (A := A) (b := (SA 3)) (As := [.int (nI j)]) (rest := .long (dg5 X (pcL (X 14) es) k (j)) :: []) ⟨hx, hb, hml, hown, hts⟩ (mX1_endOf (A := A) (la := SA 35) (ea := SA 4) (es := es) (k := j) (by omega)) (cwV 1 hts (gV tw_2_92 tw_2_79 tw_2_80 tw_1_3 tw_2_81) rfl rfl rfl (by decide +kernel) ⟨Nat.le_of_ble_eq_true rfl, Nat.le_of_ble_eq_true rfl⟩) hC hS hA (hPB.recv hK) hPB rfl rfl hl.1 (Nat.le_of_ble_eq_true rfl) ⟨Nat.le_trans (show 5 ≤ 5 by omega) (Nat.le_of_ble_eq_true rfl), Nat.le_trans (show 30 ≤ 30 by omega) (Nat.le_of_ble_eq_true rfl)⟩ dX2_digest_150 (fun r9 h9 => lv_cv h9 ?_)
      refine lv_aload_n hx hb dX2_digest_153 rfl (lv_at hl 2 rfl) ?_
      refine va_get (D := G.1) (ci := 6) (C := RX2) (T := TX2) (N := 8) hx hb hts inX2 hown hK (at_P hO) 0 rfl rfl 3 (by decide) (hts _ tw_1_140) (fun _ h9 => h9) rfl dX2_digest_154 ?_
      refine lv_iload_n hx hb dX2_digest_157 rfl (lv_at hl 0 rfl) ?_
      refine kV_i (A := A) (b := (SA 3)) (As := [.int (nI j)]) (rest := .int (nI (es.getD j 0)) :: .long (dg5 X (pcL (X 14) es) k (j)) :: []) ⟨hx, hb, hml, hown, hts⟩ (mX1_beginOf (A := A) (la := SA 35) (ea := SA 4) (es := es) (k := j) (by omega)) (cwV 1 hts (gV tw_2_91 tw_2_75 tw_2_76 tw_1_3 tw_2_77) rfl rfl rfl (by decide +kernel) ⟨Nat.le_of_ble_eq_true rfl, Nat.le_of_ble_eq_true rfl⟩) hC hS hA (hPB.recv hK) hPB rfl rfl hl.1 (Nat.le_of_ble_eq_true rfl) ⟨Nat.le_trans (show 5 ≤ 5 by omega) (Nat.le_of_ble_eq_true rfl), Nat.le_trans (show 30 ≤ 30 by omega) (Nat.le_of_ble_eq_true rfl)⟩ dX2_digest_158 (fun r9 h9 => lv_cv h9 ?_)
      refine lv_isub hx hb dX2_digest_161 ?_
      refine lv_cv (pk_sub (a := es.getD j 0) (b := bgE es j) (by omega)) ?_
      refine lv_i2l hx hb dX2_digest_162 rfl ?_
      refine kS_l (A := A) (As := [.long (dg5 X (pcL (X 14) es) k (j)), .long ((nI (es.getD j 0 - (bgE es j))).toInt64)]) (rest := []) ⟨hx, hb, hml, hown, hts⟩ (mX2_summed (A := A) ) (va_cwS 2 hts (gS tw_2_200 tw_2_201 tw_1_1 tw_2_202) rfl rfl rfl (by decide +kernel) ⟨Nat.le_of_ble_eq_true rfl, Nat.le_of_ble_eq_true rfl⟩) hC hS hA trivial rfl rfl hl.1 (Nat.le_of_ble_eq_true rfl) ⟨Nat.le_trans (show 5 ≤ 5 by omega) (Nat.le_of_ble_eq_true rfl), Nat.le_trans (show 30 ≤ 30 by omega) (Nat.le_of_ble_eq_true rfl)⟩ dX2_digest_163 (fun y_80 hy_80 => lv_cvl (hy_80.trans (show (dg5 X (pcL (X 14) es) k (j)) * 31 + ((nI (es.getD j 0 - (bgE es j))).toInt64) = dg5 X (pcL (X 14) es) k (j + 1) from (by rw [dg5_s, pcL_get (by omega), cutL_len ho2]; exact stp_e _ _))) ?_)
      refine lv_lstore_n (lv' := [(1, .long (dg5 X (pcL (X 14) es) k (j + 1))), (3, .int (nI j)), (0, .ref (SA 0))]) hx hb dX2_digest_166 rfl hl (by decide) rfl (fun ls hl => ?_)
      refine lv_iinc (v := nI (j + 1)) (lv' := [(3, .int (nI (j + 1))), (1, .long (dg5 X (pcL (X 14) es) k (j + 1))), (0, .ref (SA 0))]) hx hb dX2_digest_167 hl (k := 1) rfl (nI_add j 1) (by decide) rfl (fun ls hl => ?_)
      refine lv_goto (tgt := 133) hx hb dX2_digest_170 (by decide) ?_
      exact ih (j + 1) (by omega) (by omega) ls H L (lv_sub hl [0, 1, 2] rfl) hS hSS
  have k98 : ∀ (ls : Array Slot) (H : Heap) (L : List Loc), lv_has ls 5 [(1, .long (dg3 X (pcL (X 14) es) k (4))), (0, .ref (SA 0))] → va_S A s.heap H L → SS G SA X es k H → W p l e rmX2_digest s m [.ref (SA 0)].toArray below meth c H L 5 30 (vx_MQ below (qL A (fun r H => r = dgM X (pcL (X 14) es) k ∧ SS G SA X es k H)) (xE A (fun _ _ => False)) [.ref (SA 0)].toArray s 5 30 A) (F0 m 98 ls []) := by
    clear hl hS hSS hW
    intro ls H L hl hS hSS
    refine lv_iconst (v := nI 0) hx hb dX2_digest_98 (by decide) ?_
    refine lv_istore_n (lv' := [(3, .int (nI 0)), (1, .long (dg3 X (pcL (X 14) es) k (4))), (0, .ref (SA 0))]) hx hb dX2_digest_99 rfl hl (by decide) rfl (fun ls hl => ?_)
    rw [← dg4_0] at hl
    refine nloop (P := fun j => ∀ (ls : Array Slot) (H : Heap) (L : List Loc), lv_has ls 5 [(3, .int (nI j)), (1, .long (dg4 X (pcL (X 14) es) k (j))), (0, .ref (SA 0))] → va_S A s.heap H L → SS G SA X es k H → W p l e rmX2_digest s m [.ref (SA 0)].toArray below meth c H L 5 30 (vx_MQ below (qL A (fun r H => r = dgM X (pcL (X 14) es) k ∧ SS G SA X es k H)) (xE A (fun _ _ => False)) [.ref (SA 0)].toArray s 5 30 A) (F0 m 100 ls [])) ((X 11).length) ?_ 0 (Nat.zero_le _) ls H L hl hS hSS
    clear hl
    intro j hj ih ls H L hl
    clear hS hSS
    intro hS hSS
    have hs9 := hSS
    obtain ⟨T, es2, hW, hF⟩ := hs9
    have hO := hW.2.1
    have hR1 := hW.2.2.1
    have hR2 := hW.2.2.2.1
    have hL11 := hW.line (i := 11) (by omega)
    rw [hF 11 (Or.inr (Or.inl rfl))] at hL11
    have r60 := hL11.1
    refine lv_iload_n hx hb dX2_digest_100 rfl (lv_at hl 0 rfl) ?_
    refine lv_aload_n hx hb dX2_digest_101 rfl (lv_at hl 2 rfl) ?_
    refine va_get (D := G.1) (ci := 6) (C := RX2) (T := TX2) (N := 8) hx hb hts inX2 hown hK (at_P hO) 0 rfl rfl 2 (by decide) (hts _ tw_1_139) (fun _ h9 => h9) rfl dX2_digest_102 ?_
    refine kV_i (A := A) (b := (SA 29)) (As := []) (rest := .int (nI j) :: []) ⟨hx, hb, hml, hown, hts⟩ (mX0_size (A := A) (ca := SA (8 + 2 * 11))) (cwV 0 hts (gV tw_2_30 tw_2_12 tw_2_13 tw_1_2 tw_2_14) rfl rfl rfl (by decide +kernel) ⟨Nat.le_of_ble_eq_true rfl, Nat.le_of_ble_eq_true rfl⟩) hC hS hA (hL11.recv hK) hL11 rfl rfl hl.1 (Nat.le_of_ble_eq_true rfl) ⟨Nat.le_trans (show 5 ≤ 5 by omega) (Nat.le_of_ble_eq_true rfl), Nat.le_trans (show 30 ≤ 30 by omega) (Nat.le_of_ble_eq_true rfl)⟩ dX2_digest_105 (fun r9 h9 => lv_cv h9 ?_)
    refine b_ge (tgt := 131) hx hb dX2_digest_108 (by decide) (by omega) (by omega) (fun c_81 => ?_) (fun c_81 => ?_)
    · obtain rfl : j = (X 11).length := by omega
      exact k131 ls H L (lv_sub hl [1, 2] rfl) hS hSS
    · refine lv_lload_n hx hb dX2_digest_111 rfl (lv_at hl 1 rfl) ?_
      refine lv_aload_n hx hb dX2_digest_112 rfl (lv_at hl 2 rfl) ?_
      refine va_get (D := G.1) (ci := 6) (C := RX2) (T := TX2) (N := 8) hx hb hts inX2 hown hK (at_P hO) 0 rfl rfl 2 (by decide) (hts _ tw_1_139) (fun _ h9 => h9) rfl dX2_digest_113 ?_
      refine lv_iload_n hx hb dX2_digest_116 rfl (lv_at hl 0 rfl) ?_
      refine kV_i (A := A) (b := (SA 29)) (As := [.int (nI j)]) (rest := .long (dg4 X (pcL (X 14) es) k (j)) :: []) ⟨hx, hb, hml, hown, hts⟩ (mX0_codeAt (A := A) (ca := SA (8 + 2 * 11)) (i := j) (by omega)) (cwV 1 hts (gV tw_2_93 tw_2_20 tw_2_21 tw_1_2 tw_2_22) rfl rfl rfl (by decide +kernel) ⟨Nat.le_of_ble_eq_true rfl, Nat.le_of_ble_eq_true rfl⟩) hC hS hA (hL11.recv hK) hL11 rfl rfl hl.1 (Nat.le_of_ble_eq_true rfl) ⟨Nat.le_trans (show 5 ≤ 5 by omega) (Nat.le_of_ble_eq_true rfl), Nat.le_trans (show 30 ≤ 30 by omega) (Nat.le_of_ble_eq_true rfl)⟩ dX2_digest_117 (fun r9 h9 => lv_cv h9 ?_)
      refine lv_i2l hx hb dX2_digest_120 rfl ?_
      refine kS_l (A := A) (As := [.long (dg4 X (pcL (X 14) es) k (j)), .long ((nI ((X 11).getD j 0)).toInt64)]) (rest := []) ⟨hx, hb, hml, hown, hts⟩ (mX2_summed (A := A) ) (va_cwS 2 hts (gS tw_2_200 tw_2_201 tw_1_1 tw_2_202) rfl rfl rfl (by decide +kernel) ⟨Nat.le_of_ble_eq_true rfl, Nat.le_of_ble_eq_true rfl⟩) hC hS hA trivial rfl rfl hl.1 (Nat.le_of_ble_eq_true rfl) ⟨Nat.le_trans (show 5 ≤ 5 by omega) (Nat.le_of_ble_eq_true rfl), Nat.le_trans (show 30 ≤ 30 by omega) (Nat.le_of_ble_eq_true rfl)⟩ dX2_digest_121 (fun y_82 hy_82 => lv_cvl (hy_82.trans (show (dg4 X (pcL (X 14) es) k (j)) * 31 + ((nI ((X 11).getD j 0)).toInt64) = dg4 X (pcL (X 14) es) k (j + 1) from (by rw [dg4_s]; exact stp_e _ _))) ?_)
      refine lv_lstore_n (lv' := [(1, .long (dg4 X (pcL (X 14) es) k (j + 1))), (3, .int (nI j)), (0, .ref (SA 0))]) hx hb dX2_digest_124 rfl hl (by decide) rfl (fun ls hl => ?_)
      refine lv_iinc (v := nI (j + 1)) (lv' := [(3, .int (nI (j + 1))), (1, .long (dg4 X (pcL (X 14) es) k (j + 1))), (0, .ref (SA 0))]) hx hb dX2_digest_125 hl (k := 1) rfl (nI_add j 1) (by decide) rfl (fun ls hl => ?_)
      refine lv_goto (tgt := 100) hx hb dX2_digest_128 (by decide) ?_
      exact ih (j + 1) (by omega) (by omega) ls H L (lv_sub hl [0, 1, 2] rfl) hS hSS
  have k52 : ∀ (ls : Array Slot) (H : Heap) (L : List Loc), lv_has ls 5 [(1, .long (dg2 X (pcL (X 14) es) k (4))), (0, .ref (SA 0))] → va_S A s.heap H L → SS G SA X es k H → W p l e rmX2_digest s m [.ref (SA 0)].toArray below meth c H L 5 30 (vx_MQ below (qL A (fun r H => r = dgM X (pcL (X 14) es) k ∧ SS G SA X es k H)) (xE A (fun _ _ => False)) [.ref (SA 0)].toArray s 5 30 A) (F0 m 52 ls []) := by
    clear hl hS hSS hW
    intro ls H L hl hS hSS
    refine lv_iconst (v := nI 0) hx hb dX2_digest_52 (by decide) ?_
    refine lv_istore_n (lv' := [(3, .int (nI 0)), (1, .long (dg2 X (pcL (X 14) es) k (4))), (0, .ref (SA 0))]) hx hb dX2_digest_53 rfl hl (by decide) rfl (fun ls hl => ?_)
    rw [← dg3_0] at hl
    refine nloop (P := fun j => ∀ (ls : Array Slot) (H : Heap) (L : List Loc), lv_has ls 5 [(3, .int (nI j)), (1, .long (dg3 X (pcL (X 14) es) k (j))), (0, .ref (SA 0))] → va_S A s.heap H L → SS G SA X es k H → W p l e rmX2_digest s m [.ref (SA 0)].toArray below meth c H L 5 30 (vx_MQ below (qL A (fun r H => r = dgM X (pcL (X 14) es) k ∧ SS G SA X es k H)) (xE A (fun _ _ => False)) [.ref (SA 0)].toArray s 5 30 A) (F0 m 54 ls [])) 4 ?_ 0 (Nat.zero_le _) ls H L hl hS hSS
    clear hl
    intro j hj ih ls H L hl
    clear hS hSS
    intro hS hSS
    have hs9 := hSS
    obtain ⟨T, es2, hW, hF⟩ := hs9
    have hO := hW.2.1
    have hR1 := hW.2.2.1
    have hR2 := hW.2.2.2.1
    refine lv_iload_n hx hb dX2_digest_54 rfl (lv_at hl 0 rfl) ?_
    refine lv_iconst (v := nI 4) hx hb dX2_digest_55 (by decide) ?_
    refine b_ge (tgt := 98) hx hb dX2_digest_56 (by decide) (by omega) (by omega) (fun c_83 => ?_) (fun c_83 => ?_)
    · obtain rfl : j = 4 := by omega
      exact k98 ls H L (lv_sub hl [1, 2] rfl) hS hSS
    · refine lv_iconst (v := nI 0) hx hb dX2_digest_59 (by decide) ?_
      refine lv_istore (lv' := [(4, .int (nI 0)), (3, .int (nI j)), (1, .long (dg3 X (pcL (X 14) es) k (j))), (0, .ref (SA 0))]) hx hb dX2_digest_60 hl (by decide) rfl (fun ls hl => ?_)
      have ih1 := ih
      have hLj := hW.line (i := j) (by omega)
      rw [hF j (Or.inl (by omega))] at hLj
      rw [← dg3i_0] at hl
      refine nloop (P := fun q => ∀ (ls : Array Slot) , lv_has ls 5 [(4, .int (nI q)), (3, .int (nI j)), (1, .long (dg3i X (pcL (X 14) es) k (j) (q))), (0, .ref (SA 0))] → W p l e rmX2_digest s m [.ref (SA 0)].toArray below meth c H L 5 30 (vx_MQ below (qL A (fun r H => r = dgM X (pcL (X 14) es) k ∧ SS G SA X es k H)) (xE A (fun _ _ => False)) [.ref (SA 0)].toArray s 5 30 A) (F0 m 62 ls [])) 4 ?_ 0 (Nat.zero_le _) ls  hl 
      clear hl
      intro q hq ih ls  hl
      refine lv_iload hx hb dX2_digest_62 (lv_at hl 0 rfl) ?_
      refine lv_iconst (v := nI 4) hx hb dX2_digest_64 (by decide) ?_
      refine b_ge (tgt := 92) hx hb dX2_digest_65 (by decide) (by omega) (by omega) (fun c_84 => ?_) (fun c_84 => ?_)
      · obtain rfl : q = 4 := by omega
        rw [← dg3_s] at hl
        refine lv_iinc (v := nI (j + 1)) (lv' := [(3, .int (nI (j + 1))), (4, .int (nI 4)), (1, .long (dg3 X (pcL (X 14) es) k (j + 1))), (0, .ref (SA 0))]) hx hb dX2_digest_92 hl (k := 1) rfl (nI_add j 1) (by decide) rfl (fun ls hl => ?_)
        refine lv_goto (tgt := 54) hx hb dX2_digest_95 (by decide) ?_
        exact ih1 (j + 1) (by omega) (by omega) ls H L (lv_sub hl [0, 2, 3] rfl) hS hSS
      · have hLq := hW.line (i := q) (by omega)
        rw [hF q (Or.inl (by omega))] at hLq
        refine lv_lload_n hx hb dX2_digest_68 rfl (lv_at hl 2 rfl) ?_
        refine lv_aload_n hx hb dX2_digest_69 rfl (lv_at hl 3 rfl) ?_
        refine va_get (D := G.1) (ci := 6) (C := RX2) (T := TX2) (N := 8) hx hb hts inX2 hown hK (at_P hO) 0 rfl rfl 0 (by decide) (hts _ tw_1_137) (fun _ h9 => h9) rfl dX2_digest_70 ?_
        refine lv_iload_n hx hb dX2_digest_73 rfl (lv_at hl 1 rfl) ?_
        refine va_aldq (D := G.1) hx hb hK (at_P hR1) 0 3 rfl rfl (vp_in_nI (n := j) (N := 4) (by omega) (by omega)) dX2_digest_74 ?_
        refine v_cv (show va_rf _ = .ref (SA (7 + 2 * j)) from by rw [nI_clamp (n := j) (by omega)]; rfl) ?_
        refine lv_aload_n hx hb dX2_digest_75 rfl (lv_at hl 3 rfl) ?_
        refine va_get (D := G.1) (ci := 6) (C := RX2) (T := TX2) (N := 8) hx hb hts inX2 hown hK (at_P hO) 0 rfl rfl 0 (by decide) (hts _ tw_1_137) (fun _ h9 => h9) rfl dX2_digest_76 ?_
        refine lv_iload hx hb dX2_digest_79 (lv_at hl 0 rfl) ?_
        refine va_aldq (D := G.1) hx hb hK (at_P hR1) 0 3 rfl rfl (vp_in_nI (n := q) (N := 4) (by omega) (by omega)) dX2_digest_81 ?_
        refine v_cv (show va_rf _ = .ref (SA (7 + 2 * q)) from by rw [nI_clamp (n := q) (by omega)]; rfl) ?_
        refine kS_l (A := A) (As := [.long (dg3i X (pcL (X 14) es) k (j) (q)), .ref (SA (7 + 2 * j)), .ref (SA (7 + 2 * q))]) (rest := []) ⟨hx, hb, hml, hown, hts⟩ (mX2s_summedPair (A := A) (ca := SA (8 + 2 * j)) (cb := SA (8 + 2 * q))) (va_cwS 3 hts (gS tw_2_211 tw_2_212 tw_1_1 tw_2_213) rfl rfl rfl (by decide +kernel) ⟨Nat.le_of_ble_eq_true rfl, Nat.le_of_ble_eq_true rfl⟩) hC hS hA ⟨hLj, hLq⟩ rfl rfl hl.1 (Nat.le_of_ble_eq_true rfl) ⟨Nat.le_trans (show 5 ≤ 5 by omega) (Nat.le_of_ble_eq_true rfl), Nat.le_trans (show 30 ≤ 30 by omega) (Nat.le_of_ble_eq_true rfl)⟩ dX2_digest_82 (fun y_85 hy_85 => lv_cvl (hy_85.trans dg3i_s.symm) ?_)
        refine lv_lstore_n (lv' := [(1, .long (dg3i X (pcL (X 14) es) k (j) (q + 1))), (4, .int (nI q)), (3, .int (nI j)), (0, .ref (SA 0))]) hx hb dX2_digest_85 rfl hl (by decide) rfl (fun ls hl => ?_)
        refine lv_iinc (v := nI (q + 1)) (lv' := [(4, .int (nI (q + 1))), (1, .long (dg3i X (pcL (X 14) es) k (j) (q + 1))), (3, .int (nI j)), (0, .ref (SA 0))]) hx hb dX2_digest_86 hl (k := 1) rfl (nI_add q 1) (by decide) rfl (fun ls hl => ?_)
        refine lv_goto (tgt := 62) hx hb dX2_digest_89 (by decide) ?_
        exact ih (q + 1) (by omega) (by omega) ls (lv_sub hl [0, 2, 1, 3] rfl)
  have k28 : ∀ (ls : Array Slot) (H : Heap) (L : List Loc), lv_has ls 5 [(1, .long (dg1 X (pcL (X 14) es) k (5))), (0, .ref (SA 0))] → va_S A s.heap H L → SS G SA X es k H → W p l e rmX2_digest s m [.ref (SA 0)].toArray below meth c H L 5 30 (vx_MQ below (qL A (fun r H => r = dgM X (pcL (X 14) es) k ∧ SS G SA X es k H)) (xE A (fun _ _ => False)) [.ref (SA 0)].toArray s 5 30 A) (F0 m 28 ls []) := by
    clear hl hS hSS hW
    intro ls H L hl hS hSS
    refine lv_iconst (v := nI 0) hx hb dX2_digest_28 (by decide) ?_
    refine lv_istore_n (lv' := [(3, .int (nI 0)), (1, .long (dg1 X (pcL (X 14) es) k (5))), (0, .ref (SA 0))]) hx hb dX2_digest_29 rfl hl (by decide) rfl (fun ls hl => ?_)
    rw [← dg2_0] at hl
    refine nloop (P := fun j => ∀ (ls : Array Slot) (H : Heap) (L : List Loc), lv_has ls 5 [(3, .int (nI j)), (1, .long (dg2 X (pcL (X 14) es) k (j))), (0, .ref (SA 0))] → va_S A s.heap H L → SS G SA X es k H → W p l e rmX2_digest s m [.ref (SA 0)].toArray below meth c H L 5 30 (vx_MQ below (qL A (fun r H => r = dgM X (pcL (X 14) es) k ∧ SS G SA X es k H)) (xE A (fun _ _ => False)) [.ref (SA 0)].toArray s 5 30 A) (F0 m 30 ls [])) 4 ?_ 0 (Nat.zero_le _) ls H L hl hS hSS
    clear hl
    intro j hj ih ls H L hl
    clear hS hSS
    intro hS hSS
    have hs9 := hSS
    obtain ⟨T, es2, hW, hF⟩ := hs9
    have hO := hW.2.1
    have hR1 := hW.2.2.1
    have hR2 := hW.2.2.2.1
    refine lv_iload_n hx hb dX2_digest_30 rfl (lv_at hl 0 rfl) ?_
    refine lv_iconst (v := nI 4) hx hb dX2_digest_31 (by decide) ?_
    refine b_ge (tgt := 52) hx hb dX2_digest_32 (by decide) (by omega) (by omega) (fun c_86 => ?_) (fun c_86 => ?_)
    · obtain rfl : j = 4 := by omega
      exact k52 ls H L (lv_sub hl [1, 2] rfl) hS hSS
    · have hLj := hW.line (i := j) (by omega)
      rw [hF j (Or.inl (by omega))] at hLj
      refine lv_lload_n hx hb dX2_digest_35 rfl (lv_at hl 1 rfl) ?_
      refine lv_aload_n hx hb dX2_digest_36 rfl (lv_at hl 2 rfl) ?_
      refine va_get (D := G.1) (ci := 6) (C := RX2) (T := TX2) (N := 8) hx hb hts inX2 hown hK (at_P hO) 0 rfl rfl 0 (by decide) (hts _ tw_1_137) (fun _ h9 => h9) rfl dX2_digest_37 ?_
      refine lv_iload_n hx hb dX2_digest_40 rfl (lv_at hl 0 rfl) ?_
      refine va_aldq (D := G.1) hx hb hK (at_P hR1) 0 3 rfl rfl (vp_in_nI (n := j) (N := 4) (by omega) (by omega)) dX2_digest_41 ?_
      refine v_cv (show va_rf _ = .ref (SA (7 + 2 * j)) from by rw [nI_clamp (n := j) (by omega)]; rfl) ?_
      refine kS_l (A := A) (As := [.long (dg2 X (pcL (X 14) es) k (j)), .ref (SA (7 + 2 * j))]) (rest := []) ⟨hx, hb, hml, hown, hts⟩ (mX2s_summedText (A := A) (ca := SA (8 + 2 * j))) (va_cwS 2 hts (gS tw_2_204 tw_2_205 tw_1_1 tw_2_206) rfl rfl rfl (by decide +kernel) ⟨Nat.le_of_ble_eq_true rfl, Nat.le_of_ble_eq_true rfl⟩) hC hS hA hLj rfl rfl hl.1 (Nat.le_of_ble_eq_true rfl) ⟨Nat.le_trans (show 5 ≤ 5 by omega) (Nat.le_of_ble_eq_true rfl), Nat.le_trans (show 30 ≤ 30 by omega) (Nat.le_of_ble_eq_true rfl)⟩ dX2_digest_42 (fun y_87 hy_87 => lv_cvl (hy_87.trans dg2_s.symm) ?_)
      refine lv_lstore_n (lv' := [(1, .long (dg2 X (pcL (X 14) es) k (j + 1))), (3, .int (nI j)), (0, .ref (SA 0))]) hx hb dX2_digest_45 rfl hl (by decide) rfl (fun ls hl => ?_)
      refine lv_iinc (v := nI (j + 1)) (lv' := [(3, .int (nI (j + 1))), (1, .long (dg2 X (pcL (X 14) es) k (j + 1))), (0, .ref (SA 0))]) hx hb dX2_digest_46 hl (k := 1) rfl (nI_add j 1) (by decide) rfl (fun ls hl => ?_)
      refine lv_goto (tgt := 30) hx hb dX2_digest_49 (by decide) ?_
      exact ih (j + 1) (by omega) (by omega) ls H L (lv_sub hl [0, 1, 2] rfl) hS hSS
  have hl : lv_has ls 5 [(3, .int (nI 0)), (1, .long (dg1 X (pcL (X 14) es) k (0))), (0, .ref (SA 0))] := by rw [dg1_0]; exact hl
  refine W.widen (k := 0 * 1) (n := 0 * 6) (by decide) (by decide) ?_
  refine nloop (P := fun j => ∀ (ls : Array Slot) (H : Heap) (L : List Loc), lv_has ls 5 [(3, .int (nI j)), (1, .long (dg1 X (pcL (X 14) es) k (j))), (0, .ref (SA 0))] → va_S A s.heap H L → SS G SA X es k H → W p l e rmX2_digest s m [.ref (SA 0)].toArray below meth c H L (j * 1) (j * 6) (vx_MQ below (qL A (fun r H => r = dgM X (pcL (X 14) es) k ∧ SS G SA X es k H)) (xE A (fun _ _ => False)) [.ref (SA 0)].toArray s 5 30 A) (F0 m 6 ls [])) 5 ?_ 0 (Nat.zero_le _) ls s.heap [] hl hS hSS
  clear hl
  intro j hj ih ls H L hl
  clear hS hSS hW
  intro hS hSS
  have hs9 := hSS
  obtain ⟨T, es2, hW, hF⟩ := hs9
  have hO := hW.2.1
  have hR1 := hW.2.2.1
  have hR2 := hW.2.2.2.1
  refine lv_iload_n hx hb dX2_digest_6 rfl (lv_at hl 0 rfl) ?_
  refine lv_iconst (v := nI 4) hx hb dX2_digest_7 (by decide) ?_
  refine b_gt (tgt := 28) hx hb dX2_digest_8 (by decide) (by omega) (by omega) (fun c_88 => ?_) (fun c_88 => ?_)
  · refine W.widen (k := 5) (n := 30) (by omega) (by omega) ?_
    obtain rfl : j = 5 := by omega
    exact k28 ls H L (lv_sub hl [1, 2] rfl) hS hSS
  · refine lv_lload_n hx hb dX2_digest_11 rfl (lv_at hl 1 rfl) ?_
    refine lv_aload_n hx hb dX2_digest_12 rfl (lv_at hl 2 rfl) ?_
    refine lv_iload_n hx hb dX2_digest_13 rfl (lv_at hl 0 rfl) ?_
    refine xI_V (A := A) (A1 := A) (b := (SA 0)) (As := [.int (nI j)]) (rest := .long (dg1 X (pcL (X 14) es) k (j)) :: []) ⟨hx, hb, hml, hown, hts⟩ (mX2_house (A := A) hst hAS) (cwV 1 hts (gV tw_2_124 tw_2_125 tw_2_126 tw_1_1 tw_2_127) rfl rfl rfl (by decide +kernel) ⟨Nat.le_of_ble_eq_true rfl, Nat.le_of_ble_eq_true rfl⟩) hC hS (fun _ h => h) (fun q h => hA q (Nat.le_trans hS.1 h)) (hW.recv hK) hSS rfl rfl hl.1 (Nat.le_of_ble_eq_true rfl) ⟨Nat.le_trans (show (j * 1) + 1 ≤ 5 by omega) (Nat.le_of_ble_eq_true rfl), Nat.le_trans (show (j * 6) + 6 ≤ 30 by omega) (Nat.le_of_ble_eq_true rfl)⟩ dX2_digest_14 hnx hlocks (by omega) (by omega) (fun E H9 q _ => q.1.2 ⟨j, by omega, rfl⟩) (fun rv89 H89 L89 hP89 hk89 hS => ?_)
    have hZ89 := hS.1
    obtain ⟨w9, hw5, hwj, hrv, hSS⟩ := hP89
    obtain rfl : j = w9 := (nI_eq (by omega) (by omega)).mp hwj
    refine lv_i2l hx hb dX2_digest_17 rfl ?_
    refine kS_l (A := A) (As := [.long (dg1 X (pcL (X 14) es) k (j)), .long rv89.toInt64]) (rest := []) ⟨hx, hb, hml, hown, hts⟩ (mX2_summed (A := A) ) (va_cwS 2 hts (gS tw_2_200 tw_2_201 tw_1_1 tw_2_202) rfl rfl rfl (by decide +kernel) ⟨Nat.le_of_ble_eq_true rfl, Nat.le_of_ble_eq_true rfl⟩) hC hS hA trivial rfl rfl hl.1 (Nat.le_of_ble_eq_true rfl) ⟨Nat.le_trans (show ((j * 1) + 1) ≤ 5 by omega) (Nat.le_of_ble_eq_true rfl), Nat.le_trans (show ((j * 6) + 6) ≤ 30 by omega) (Nat.le_of_ble_eq_true rfl)⟩ dX2_digest_18 (fun y_90 hy_90 => lv_cvl (hy_90.trans (show (dg1 X (pcL (X 14) es) k (j)) * 31 + rv89.toInt64 = dg1 X (pcL (X 14) es) k (j + 1) from (by rw [dg1_s, hmV_pcd, hrv]; exact stp_e _ _))) ?_)
    refine lv_lstore_n (lv' := [(1, .long (dg1 X (pcL (X 14) es) k (j + 1))), (3, .int (nI j)), (0, .ref (SA 0))]) hx hb dX2_digest_21 rfl hl (by decide) rfl (fun ls hl => ?_)
    refine lv_iinc (v := nI (j + 1)) (lv' := [(3, .int (nI (j + 1))), (1, .long (dg1 X (pcL (X 14) es) k (j + 1))), (0, .ref (SA 0))]) hx hb dX2_digest_22 hl (k := 1) rfl (nI_add j 1) (by decide) rfl (fun ls hl => ?_)
    refine lv_goto (tgt := 6) hx hb dX2_digest_25 (by decide) ?_
    refine W.widen (k := (j + 1) * 1) (n := (j + 1) * 6) (by omega) (by omega) ?_
    exact ih (j + 1) (by omega) (by omega) ls H89 L89 (lv_sub hl [0, 1, 2] rfl) hS hSS

theorem mX4s_digest {l : Launch} {G : Cx} {A : Nat → Prop} {am xa : Nat} {X : Nat → List Nat} {P : List (List Nat)} {k : Int32} {th : Int32} : Met l yX4_digest (.code yX4_digest cX4_digest 11 (some .long) :: GW) rmX4_digest (PC G A [.ref am] (MW G A am xa X P k th)) (qL A (fun r H => r = dgM X P k ∧ MW G A am xa X P k 0 H)) 18 761 (A) := by
  refine mstart "SigntextModel" (by decide +kernel) rfl (Nat.le_of_ble_eq_true rfl) ?_
  intro p e s m below meth c ls hx hb hr hts hown hml hlocks hname hC hA hW hl
  have hl : lv_has ls 11 [(0, .ref am)] := hl
  have hK := hC.1
  have hS : va_S A s.heap s.heap [] := va_S.rf
  obtain ⟨ra, pa, tx, hW⟩ := hW
  have hO := hW.obj
  have hAm := hW.1
  refine lv_aload_n hx hb dX4_digest_0 rfl (lv_at hl 0 rfl) ?_
  refine lv_iconst (v := nI 0) hx hb dX4_digest_1 (by decide) ?_
  refine h_put (D := G.1) (ci := 8) (C := RX4) (T := TX4) (N := 5) hx hb hts inX4 tyX4 tyX4_ok nmX4 hown hK hO hS hAm rfl 0 (by decide) (hts _ tw_4_172) (fun _ h9 => h9) rfl (tyX4_ok 0 (by decide)) rfl rfl (Nat.le_of_ble_eq_true rfl) dX4_digest_2 (fun H91 L91 hO z91 o91 hS => ?_)
  have hO : va_at G.1 vwCl (am, .inr (8, [.int (nI 0), .ref xa, .ref ra, .ref pa, .int k])) H91 := hO
  have hZ91 := hS.1
  have hW := hW.nums hK hO o91
  have hO := hW.obj
  have hAm := hW.1
  refine lv_ldc2 (v := 6173) hx hb hown (hts _ tw_7_30) dX4_digest_5 ?_
  refine lv_lstore_n (lv' := [(1, .long 6173), (0, .ref am)]) hx hb dX4_digest_8 rfl hl (by decide) rfl (fun ls hl => ?_)
  refine lv_iconst (v := nI 0) hx hb dX4_digest_9 (by decide) ?_
  refine lv_istore_n (lv' := [(3, .int (nI 0)), (1, .long 6173), (0, .ref am)]) hx hb dX4_digest_10 rfl hl (by decide) rfl (fun ls hl => ?_)
  have hM : MW G A am xa X P k 0 H91 := ⟨ra, pa, tx, hW⟩
  refine W.widen (k := 0 + 0) (n := 0 + 0 * 5) (by decide) (by decide) ?_
  have hl : lv_has ls 11 [(3, .int (nI 0)), (1, .long (dg1 X P k (0))), (0, .ref am)] := by rw [dg1_0]; exact (lv_sub hl [0, 1, 2] rfl)
  refine nloop (P := fun j => ∀ (ls : Array Slot) (H : Heap) (L : List Loc), lv_has ls 11 [(3, .int (nI j)), (1, .long (dg1 X P k (j))), (0, .ref am)] → va_S A s.heap H L → MW G A am xa X P k 0 H → W p l e rmX4_digest s m [.ref am].toArray below meth c H L (0 + j) (0 + j * 5) (MQ below (qL A (fun r H => r = dgM X P k ∧ MW G A am xa X P k 0 H)) [.ref am].toArray s 18 761 (A)) (F0 m 11 ls [])) 5 ?_ 0 (Nat.zero_le _) ls H91 L91 hl hS hM
  clear hl
  intro j hj ih ls H L hl
  clear hS hM hW hO
  intro hS hM
  have hZ0 := hS.1
  refine lv_iload_n hx hb dX4_digest_11 rfl (lv_at hl 0 rfl) ?_
  refine lv_iconst (v := nI 5) hx hb dX4_digest_12 (by decide) ?_
  refine b_ge (tgt := 33) hx hb dX4_digest_13 (by decide) (by omega) (by omega) (fun c_92 => ?_) (fun c_92 => ?_)
  · have e5 : j = 5 := by omega
    subst e5
    clear ih
    obtain ⟨ra, pa, tx, hW⟩ := hM
    have hO := hW.obj
    have hAm := hW.1
    have hXa := hW.txs
    refine lv_aload_n hx hb dX4_digest_33 rfl (lv_at hl 2 rfl) ?_
    refine va_get (D := G.1) (ci := 8) (C := RX4) (T := TX4) (N := 5) hx hb hts inX4 hown hK (at_P hO) 0 rfl rfl 1 (by decide) (hts _ tw_4_173) (fun _ h9 => h9) rfl dX4_digest_34 ?_
    refine lv_astore_n (lv' := [(3, .ref xa), (1, .long (dg1 X P k (5))), (0, .ref am)]) hx hb dX4_digest_37 rfl hl (by decide) rfl (fun ls hl => ?_)
    refine lv_aload_n hx hb dX4_digest_38 rfl (lv_at hl 0 rfl) ?_
    refine va_alen hx hb hK (at_P hXa) 0 4 (v := nI 4) rfl rfl rfl dX4_digest_39 ?_
    refine lv_istore (lv' := [(4, .int (nI 4)), (3, .ref xa), (1, .long (dg1 X P k (5))), (0, .ref am)]) hx hb dX4_digest_40 hl (by decide) rfl (fun ls hl => ?_)
    refine lv_iconst (v := nI 0) hx hb dX4_digest_42 (by decide) ?_
    refine lv_istore (lv' := [(5, .int (nI 0)), (4, .int (nI 4)), (3, .ref xa), (1, .long (dg1 X P k (5))), (0, .ref am)]) hx hb dX4_digest_43 hl (by decide) rfl (fun ls hl => ?_)
    have hl : lv_has ls 11 [(5, .int (nI 0)), (4, .int (nI 4)), (3, .ref xa), (1, .long (dg2 X P k (0))), (0, .ref am)] := by rw [dg2_0]; exact (lv_sub hl [0, 1, 2, 3, 4] rfl)
    refine W.widen (k := 5 + 0 * 3) (n := 25 + 0 * 183) (by decide) (by decide) ?_
    refine nloop (P := fun j => ∀ (ls : Array Slot) (H : Heap) (L : List Loc), lv_has ls 11 [(5, .int (nI j)), (4, .int (nI 4)), (3, .ref xa), (1, .long (dg2 X P k (j))), (0, .ref am)] → va_S A s.heap H L → MWx G A am xa ra pa tx X P k 0 H → W p l e rmX4_digest s m [.ref am].toArray below meth c H L (5 + j * 3) (25 + j * 183) (MQ below (qL A (fun r H => r = dgM X P k ∧ MW G A am xa X P k 0 H)) [.ref am].toArray s 18 761 (A)) (F0 m 45 ls [])) 4 ?_ 0 (Nat.zero_le _) ls H L hl hS hW
    clear hl
    intro j hj ih ls H L hl
    clear hS hW hO hXa
    intro hS hW
    have hZ0 := hS.1
    refine lv_iload hx hb dX4_digest_45 (lv_at hl 0 rfl) ?_
    refine lv_iload hx hb dX4_digest_47 (lv_at hl 1 rfl) ?_
    refine b_ge (tgt := 128) hx hb dX4_digest_49 (by decide) (by omega) (by omega) (fun c_93 => ?_) (fun c_93 => ?_)
    · have e4 : j = 4 := by omega
      subst e4
      clear ih
      have hO := hW.obj
      have hAm := hW.1
      have hXa := hW.txs
      refine lv_aload_n hx hb dX4_digest_128 rfl (lv_at hl 4 rfl) ?_
      refine va_get (D := G.1) (ci := 8) (C := RX4) (T := TX4) (N := 5) hx hb hts inX4 hown hK (at_P hO) 0 rfl rfl 1 (by decide) (hts _ tw_4_173) (fun _ h9 => h9) rfl dX4_digest_129 ?_
      refine lv_astore_n (lv' := [(3, .ref xa), (5, .int (nI 4)), (4, .int (nI 4)), (1, .long (dg2 X P k (4))), (0, .ref am)]) hx hb dX4_digest_132 rfl hl (by decide) rfl (fun ls hl => ?_)
      refine lv_aload_n hx hb dX4_digest_133 rfl (lv_at hl 0 rfl) ?_
      refine va_alen hx hb hK (at_P hXa) 0 4 (v := nI 4) rfl rfl rfl dX4_digest_134 ?_
      refine lv_istore (lv' := [(4, .int (nI 4)), (3, .ref xa), (5, .int (nI 4)), (1, .long (dg2 X P k (4))), (0, .ref am)]) hx hb dX4_digest_135 hl (by decide) rfl (fun ls hl => ?_)
      refine lv_iconst (v := nI 0) hx hb dX4_digest_137 (by decide) ?_
      refine lv_istore (lv' := [(5, .int (nI 0)), (4, .int (nI 4)), (3, .ref xa), (1, .long (dg2 X P k (4))), (0, .ref am)]) hx hb dX4_digest_138 hl (by decide) rfl (fun ls hl => ?_)
      have hl : lv_has ls 11 [(5, .int (nI 0)), (4, .int (nI 4)), (3, .ref xa), (1, .long (dg3 X P k (0))), (0, .ref am)] := by rw [dg3_0]; exact (lv_sub hl [0, 1, 2, 3, 4] rfl)
      refine nloop (P := fun j => ∀ (ls : Array Slot) , lv_has ls 11 [(5, .int (nI j)), (4, .int (nI 4)), (3, .ref xa), (1, .long (dg3 X P k (j))), (0, .ref am)] → W p l e rmX4_digest s m [.ref am].toArray below meth c H L (5 + 4 * 3) (25 + 4 * 183) (MQ below (qL A (fun r H => r = dgM X P k ∧ MW G A am xa X P k 0 H)) [.ref am].toArray s 18 761 (A)) (F0 m 140 ls [])) 4 ?_ 0 (Nat.zero_le _) ls  hl 
      clear hl
      intro j hj ih ls  hl
      refine lv_iload hx hb dX4_digest_140 (lv_at hl 0 rfl) ?_
      refine lv_iload hx hb dX4_digest_142 (lv_at hl 1 rfl) ?_
      refine b_ge (tgt := 258) hx hb dX4_digest_144 (by decide) (by omega) (by omega) (fun c_94 => ?_) (fun c_94 => ?_)
      · have e4 : j = 4 := by omega
        subst e4
        clear ih
        have hO := hW.obj
        have hAm := hW.1
        have hR1 := hW.row.ia hC.2.1.2
        have x11 := hW.2.2.1 11 (Or.inr rfl)
        have r60 := x11.2
        refine lv_aload_n hx hb dX4_digest_258 rfl (lv_at hl 4 rfl) ?_
        refine va_get (D := G.1) (ci := 8) (C := RX4) (T := TX4) (N := 5) hx hb hts inX4 hown hK (at_P hO) 0 rfl rfl 2 (by decide) (hts _ tw_4_174) (fun _ h9 => h9) rfl dX4_digest_259 ?_
        refine lv_astore_n (lv' := [(3, .ref ra), (5, .int (nI 4)), (4, .int (nI 4)), (1, .long (dg3 X P k (4))), (0, .ref am)]) hx hb dX4_digest_262 rfl hl (by decide) rfl (fun ls hl => ?_)
        refine lv_aload_n hx hb dX4_digest_263 rfl (lv_at hl 0 rfl) ?_
        refine h_ilen hx hb hC.2.1 hR1 dX4_digest_264 ?_
        refine lv_istore (lv' := [(4, .int (nI ((X 11).length))), (3, .ref ra), (5, .int (nI 4)), (1, .long (dg3 X P k (4))), (0, .ref am)]) hx hb dX4_digest_265 hl (by decide) rfl (fun ls hl => ?_)
        refine lv_iconst (v := nI 0) hx hb dX4_digest_267 (by decide) ?_
        refine lv_istore (lv' := [(5, .int (nI 0)), (4, .int (nI ((X 11).length))), (3, .ref ra), (1, .long (dg3 X P k (4))), (0, .ref am)]) hx hb dX4_digest_268 hl (by decide) rfl (fun ls hl => ?_)
        have hl : lv_has ls 11 [(5, .int (nI 0)), (4, .int (nI ((X 11).length))), (3, .ref ra), (1, .long (dg4 X P k (0))), (0, .ref am)] := by rw [dg4_0]; exact (lv_sub hl [0, 1, 2, 3, 4] rfl)
        refine nloop (P := fun q => ∀ (ls : Array Slot) , lv_has ls 11 [(5, .int (nI q)), (4, .int (nI ((X 11).length))), (3, .ref ra), (1, .long (dg4 X P k (q))), (0, .ref am)] → W p l e rmX4_digest s m [.ref am].toArray below meth c H L (5 + 4 * 3) (25 + 4 * 183) (MQ below (qL A (fun r H => r = dgM X P k ∧ MW G A am xa X P k 0 H)) [.ref am].toArray s 18 761 (A)) (F0 m 270 ls [])) ((X 11).length) ?_ 0 (Nat.zero_le _) ls  hl 
        clear hl
        intro q hq ih ls  hl
        refine lv_iload hx hb dX4_digest_270 (lv_at hl 0 rfl) ?_
        refine lv_iload hx hb dX4_digest_272 (lv_at hl 1 rfl) ?_
        refine b_ge (tgt := 297) hx hb dX4_digest_274 (by decide) (by omega) (by omega) (fun c_95 => ?_) (fun c_95 => ?_)
        · obtain rfl : q = (X 11).length := by omega
          clear ih
          refine lv_aload_n hx hb dX4_digest_297 rfl (lv_at hl 4 rfl) ?_
          refine va_get (D := G.1) (ci := 8) (C := RX4) (T := TX4) (N := 5) hx hb hts inX4 hown hK (at_P hO) 0 rfl rfl 3 (by decide) (hts _ tw_4_175) (fun _ h9 => h9) rfl dX4_digest_298 ?_
          obtain ⟨md, ed, hPa, hPc⟩ := MWx_it hW
          have hp61 := hW.2.2.2.2.2.2.2.2.2.2.2.1
          have hW0 := hW
          have hpl := hPa.lt
          obtain ⟨H0, hH0⟩ : ∃ H0, H0 = H := ⟨_, rfl⟩
          subst hH0
          refine qR_V (A := A) (A1 := nw H0.size) (b := pa) (As := []) (rest := []) ⟨hx, hb, hml, hown, hts⟩ (mJx4a65c_iterator_32c93 (A := nw H0.size) (md := md) (ed := ed) (n := P.length)) (cwV 0 hts (gV tw_7_35 tw_7_36 tw_7_37 tw_1_11 tw_7_38) rfl rfl rfl (by decide +kernel) ⟨Nat.le_of_ble_eq_true rfl, Nat.le_of_ble_eq_true rfl⟩) hC hS (nw_in hA hS.1) nw_n (at_recv hK hPa (q := (RJx4a65c, TJx4a65c, 3)) rfl) hPa rfl rfl hl.1 (Nat.le_of_ble_eq_true rfl) ⟨Nat.le_trans (show (5 + 4 * 3) + 1 ≤ 18 by omega) (Nat.le_of_ble_eq_true rfl), Nat.le_trans (show (25 + 4 * 183) + 4 ≤ 761 by omega) (Nat.le_of_ble_eq_true rfl)⟩ dX4_digest_301 (fun rv96 H96 L96 hP96 hk96 hS => ?_)
          have hZ96 := hS.1
          obtain ⟨hiz, hIt, hPa1⟩ := hP96
          have hkk := hk96
          have hiz : H0.size ≤ rv96 := hiz
          refine lv_astore_n (lv' := [(3, .ref rv96), (5, .int (nI ((X 11).length))), (4, .int (nI ((X 11).length))), (1, .long (dg4 X P k ((X 11).length))), (0, .ref am)]) hx hb dX4_digest_304 rfl hl (by decide) rfl (fun ls hl => ?_)
          have hl : lv_has ls 11 [(3, .ref rv96), (1, .long (dg5 X P k (0))), (0, .ref am)] := by rw [dg5_0]; exact (lv_sub hl [0, 3, 4] rfl)
          generalize hcl : ((5 + 4 * 3) + 1) = CC
          generalize hsl : ((25 + 4 * 183) + 4) = SS9
          refine nloop (P := fun cu => ∀ (ls : Array Slot) (H : Heap) (L : List Loc) (lr : Int32), lv_has ls 11 [(3, .ref rv96), (1, .long (dg5 X P k (cu))), (0, .ref am)] → va_S A s.heap H L → kp (nw H0.size) H0 H → va_at G.1 vwCl (rv96, .inr (2, [.int (nI cu), .int lr, .int md, .ref pa])) H → W p l e rmX4_digest s m [.ref am].toArray below meth c H L CC SS9 (MQ below (qL A (fun r H => r = dgM X P k ∧ MW G A am xa X P k 0 H)) [.ref am].toArray s 18 761 (A)) (F0 m 305 ls [])) P.length ?_ 0 (Nat.zero_le _) ls H96 L96 (-1) hl hS hkk hIt
          clear hl
          intro cu hcu ih ls H L lr hl
          clear hS hkk hIt hPa1
          intro hS hkk hIt
          have hZ0 := hS.1
          have hPa := at_kp hPa hkk (Nat.not_le_of_lt hPa.lt)
          refine lv_aload_n hx hb dX4_digest_305 rfl (lv_at hl 0 rfl) ?_
          refine kF_i (x := xHN) (A := A) (b := rv96) (As := []) (rest := []) (hK.1 2 _ rfl).2 ⟨hx, hb, hml, hown, hts⟩ (mJx35411_hasNext_aae02 (A := A) (ed := ed) (n := P.length) (cu := cu) (md := md) (lr := lr) (by omega) (by omega)) (va_cwF 0 hts (gF tw_7_59 tw_7_63 tw_7_65 tw_1_28 tw_7_67) rfl rfl rfl hC.2.2.2.2.2.2.2.2.2.2.2.2.2.2.2.2.2.1 (by decide +kernel) ⟨Nat.le_of_ble_eq_true rfl, Nat.le_of_ble_eq_true rfl⟩) hC hS hA (at_recv hK hIt (q := (RJx35411, TJx35411, 4)) rfl) ⟨hIt, hPa⟩ rfl rfl hl.1 (Nat.le_of_ble_eq_true rfl) ⟨by rw [← hcl]; exact (Nat.le_of_ble_eq_true rfl), by rw [← hsl]; exact (Nat.le_of_ble_eq_true rfl)⟩ dX4_digest_306 (fun r9 h9 => lv_cv h9 ?_)
          refine f_eq (tgt := 337) hx hb dX4_digest_311 (by decide) (fun c_97 => ?_) (fun c_97 => ?_)
          · obtain rfl : cu = P.length := Decidable.byContradiction (fun q => absurd (decide_eq_true q) (by rw [c_97]; decide))
            have hW := hW0.nw hkk
            refine lv_lload_n hx hb dX4_digest_337 rfl (lv_at hl 1 rfl) ?_
            refine lv_aload_n hx hb dX4_digest_338 rfl (lv_at hl 2 rfl) ?_
            refine kV_i (A := A) (b := am) (As := []) (rest := .long (dg5 X P k (P.length)) :: []) ⟨hx, hb, hml, hown, hts⟩ (mX4_isTrue (A := A) (X := X) (P := P) (k := k) (xa := xa)) (cwV 0 hts (gV tw_7_22 tw_7_24 sel_X4_isTrue tw_1_8 tw_7_25) rfl rfl rfl (by decide +kernel) ⟨Nat.le_of_ble_eq_true rfl, Nat.le_of_ble_eq_true rfl⟩) hC hS hA (hW.recv hK) ⟨ra, pa, tx, hW⟩ rfl rfl hl.1 (Nat.le_of_ble_eq_true rfl) ⟨Nat.le_trans (show CC ≤ 18 by omega) (Nat.le_of_ble_eq_true rfl), Nat.le_trans (show SS9 ≤ 761 by omega) (Nat.le_of_ble_eq_true rfl)⟩ dX4_digest_339 (fun r9 h9 => lv_cv h9 ?_)
            refine kS_i (A := A) (As := [.int (bI true)]) (rest := .long (dg5 X P k (P.length)) :: []) ⟨hx, hb, hml, hown, hts⟩ (mX4_one (A := A) ) (va_cwS 1 hts (gS tw_5_26 tw_5_27 tw_1_8 tw_5_28) rfl rfl rfl (by decide +kernel) ⟨Nat.le_of_ble_eq_true rfl, Nat.le_of_ble_eq_true rfl⟩) hC hS hA  trivial rfl rfl hl.1 (Nat.le_of_ble_eq_true rfl) ⟨Nat.le_trans (show CC ≤ 18 by omega) (Nat.le_of_ble_eq_true rfl), Nat.le_trans (show SS9 ≤ 761 by omega) (Nat.le_of_ble_eq_true rfl)⟩ dX4_digest_342 (fun r9 h9 => lv_cv h9 ?_)
            refine lv_i2l hx hb dX4_digest_345 rfl ?_
            refine kS_l (A := A) (As := [.long (dg5 X P k (P.length)), .long ((bI true).toInt64)]) (rest := []) ⟨hx, hb, hml, hown, hts⟩ (mX4_add (A := A) ) (va_cwS 2 hts (gS tw_7_31 tw_7_32 tw_1_8 tw_7_33) rfl rfl rfl (by decide +kernel) ⟨Nat.le_of_ble_eq_true rfl, Nat.le_of_ble_eq_true rfl⟩) hC hS hA trivial rfl rfl hl.1 (Nat.le_of_ble_eq_true rfl) ⟨Nat.le_trans (show CC ≤ 18 by omega) (Nat.le_of_ble_eq_true rfl), Nat.le_trans (show SS9 ≤ 761 by omega) (Nat.le_of_ble_eq_true rfl)⟩ dX4_digest_346 (fun y_98 hy_98 => lv_cvl (hy_98.trans (show (dg5 X P k (P.length)) * 31 + ((bI true).toInt64) = dgM X P k from (by rw [dgM_e]; exact stp_e _ _))) ?_)
            exact q_l hx hb hr hlocks dX4_digest_349 hS (by omega) (by omega) ⟨rfl, ra, pa, tx, hW⟩
          · have hcu : cu < P.length := by have := of_decide_eq_true c_97; omega
            obtain ⟨cap, f9, pq, w2, w3, w4, w5, w6⟩ := hPc cu hcu
            have w2 := at_kp w2 hkk (Nat.not_le_of_lt w2.lt)
            have hedl := w2.lt
            refine lv_aload_n hx hb dX4_digest_314 rfl (lv_at hl 0 rfl) ?_
            have d1 : pa ≠ rv96 := by have := hpl; omega
            have d2 : ed ≠ rv96 := Ne.symm (at_ne_oa hK hIt (r := (RJx35411, TJx35411, 4)) rfl w2 5 rfl)
            refine qR_F (x := xNX) (A := A) (A1 := ow rv96 rv96 H.size) (b := rv96) (As := []) (rest := []) (hK.1 2 _ rfl).2 ⟨hx, hb, hml, hown, hts⟩ (mJx35411_next_0502b (A := ow rv96 rv96 H.size) (lr := lr) (f := f9) (cap := cap) (n := P.length) (cu := cu) (md := md) (Or.inl rfl) hcu w3 (by omega) w5 d1 d2) (va_cwF 0 hts (gF tw_7_69 tw_7_72 tw_7_74 tw_1_28 tw_7_76) rfl rfl rfl hC.2.2.2.2.2.2.2.2.2.2.2.2.2.2.2.2.2.2 (by decide +kernel) ⟨Nat.le_of_ble_eq_true rfl, Nat.le_of_ble_eq_true rfl⟩) hC hS (ow_in (hA _ (by omega)) (hA _ (by omega)) hA hS.1) ow_n (at_recv hK hIt (q := (RJx35411, TJx35411, 4)) rfl) ⟨hIt, hPa, w2⟩ rfl rfl hl.1 (Nat.le_of_ble_eq_true rfl) ⟨by rw [← hcl]; exact (Nat.le_of_ble_eq_true rfl), by rw [← hsl]; exact (Nat.le_of_ble_eq_true rfl)⟩ dX4_digest_315 (fun r9 H9 L9 hP9 hk9 hS => ?_)
            obtain ⟨e9, hIt, -⟩ := hP9
            subst e9
            have hkk2 := hkk.tr (hk9.wk (fun q _ hq => by rcases hq with q1 | q1 | q1; exact q1 ▸ hiz; exact q1 ▸ hiz; exact Nat.le_trans hkk.1 q1))
            have w6 := w6.kp hkk2 (Nat.not_le_of_lt w6.lt)
            refine va_castA (D := G.1) hx hb hown (hts _ tw_5_164) (at_P w6.fst) 0 rfl (findIA hK) dX4_digest_320 ?_
            have hPq := w6.ia hC.2.1.2
            refine lv_astore (lv' := [(4, .ref r9), (3, .ref rv96), (1, .long (dg5 X P k (cu))), (0, .ref am)]) hx hb dX4_digest_323 hl (by decide) rfl (fun ls hl => ?_)
            refine lv_lload_n hx hb dX4_digest_325 rfl (lv_at hl 2 rfl) ?_
            refine lv_aload hx hb dX4_digest_326 (lv_at hl 0 rfl) ?_
            refine h_ilen hx hb hC.2.1 hPq dX4_digest_328 ?_
            refine lv_i2l hx hb dX4_digest_329 rfl ?_
            refine kS_l (A := A) (As := [.long (dg5 X P k (cu)), .long ((nI ((P.getD cu []).length)).toInt64)]) (rest := []) ⟨hx, hb, hml, hown, hts⟩ (mX4_add (A := A) ) (va_cwS 2 hts (gS tw_7_31 tw_7_32 tw_1_8 tw_7_33) rfl rfl rfl (by decide +kernel) ⟨Nat.le_of_ble_eq_true rfl, Nat.le_of_ble_eq_true rfl⟩) hC hS hA trivial rfl rfl hl.1 (Nat.le_of_ble_eq_true rfl) ⟨Nat.le_trans (show CC ≤ 18 by omega) (Nat.le_of_ble_eq_true rfl), Nat.le_trans (show SS9 ≤ 761 by omega) (Nat.le_of_ble_eq_true rfl)⟩ dX4_digest_330 (fun y_99 hy_99 => lv_cvl (hy_99.trans (show (dg5 X P k (cu)) * 31 + ((nI ((P.getD cu []).length)).toInt64) = dg5 X P k (cu + 1) from (by rw [dg5_s]; exact stp_e _ _))) ?_)
            refine lv_lstore_n (lv' := [(1, .long (dg5 X P k (cu + 1))), (4, .ref r9), (3, .ref rv96), (0, .ref am)]) hx hb dX4_digest_333 rfl hl (by decide) rfl (fun ls hl => ?_)
            refine lv_goto (tgt := 305) hx hb dX4_digest_334 (by decide) ?_
            exact ih (cu + 1) (by omega) (by omega) ls H9 L9 _ (lv_sub hl [2, 0, 3] rfl) hS hkk2 hIt
        · refine lv_aload_n hx hb dX4_digest_277 rfl (lv_at hl 2 rfl) ?_
          refine lv_iload hx hb dX4_digest_278 (lv_at hl 0 rfl) ?_
          refine h_ild hx hb hC.2.1 hR1 (i := q) (by omega) (by omega) dX4_digest_280 ?_
          refine lv_istore (lv' := [(6, .int (nI ((X 11).getD q 0))), (5, .int (nI q)), (4, .int (nI ((X 11).length))), (3, .ref ra), (1, .long (dg4 X P k (q))), (0, .ref am)]) hx hb dX4_digest_281 hl (by decide) rfl (fun ls hl => ?_)
          refine lv_lload_n hx hb dX4_digest_283 rfl (lv_at hl 4 rfl) ?_
          refine lv_iload hx hb dX4_digest_284 (lv_at hl 0 rfl) ?_
          refine lv_i2l hx hb dX4_digest_286 rfl ?_
          refine kS_l (A := A) (As := [.long (dg4 X P k (q)), .long ((nI ((X 11).getD q 0)).toInt64)]) (rest := []) ⟨hx, hb, hml, hown, hts⟩ (mX4_add (A := A) ) (va_cwS 2 hts (gS tw_7_31 tw_7_32 tw_1_8 tw_7_33) rfl rfl rfl (by decide +kernel) ⟨Nat.le_of_ble_eq_true rfl, Nat.le_of_ble_eq_true rfl⟩) hC hS hA trivial rfl rfl hl.1 (Nat.le_of_ble_eq_true rfl) ⟨Nat.le_trans (show (5 + 4 * 3) ≤ 18 by omega) (Nat.le_of_ble_eq_true rfl), Nat.le_trans (show (25 + 4 * 183) ≤ 761 by omega) (Nat.le_of_ble_eq_true rfl)⟩ dX4_digest_287 (fun y_100 hy_100 => lv_cvl (hy_100.trans (show (dg4 X P k (q)) * 31 + ((nI ((X 11).getD q 0)).toInt64) = dg4 X P k (q + 1) from (by rw [dg4_s]; exact stp_e _ _))) ?_)
          refine lv_lstore_n (lv' := [(1, .long (dg4 X P k (q + 1))), (6, .int (nI ((X 11).getD q 0))), (5, .int (nI q)), (4, .int (nI ((X 11).length))), (3, .ref ra), (0, .ref am)]) hx hb dX4_digest_290 rfl hl (by decide) rfl (fun ls hl => ?_)
          refine lv_iinc (v := nI (q + 1)) (lv' := [(5, .int (nI (q + 1))), (1, .long (dg4 X P k (q + 1))), (6, .int (nI ((X 11).getD q 0))), (4, .int (nI ((X 11).length))), (3, .ref ra), (0, .ref am)]) hx hb dX4_digest_291 hl (k := 2) rfl (nI_add q 1) (by decide) rfl (fun ls hl => ?_)
          refine lv_goto (tgt := 270) hx hb dX4_digest_294 (by decide) ?_
          exact ih (q + 1) (by omega) (by omega) ls (lv_sub hl [0, 3, 4, 1, 5] rfl)
      · have hXa := hW.txs
        refine lv_aload_n hx hb dX4_digest_147 rfl (lv_at hl 2 rfl) ?_
        refine lv_iload hx hb dX4_digest_148 (lv_at hl 0 rfl) ?_
        refine h_aaldI (D := G.1) hx hb hK 4 hW.txs rfl (vp_in_nI (n := j) (N := 4) (by omega) (by omega)) dX4_digest_150 ?_
        refine v_cv (show va_rf _ = .ref (tx j) from by rw [nI_clamp (n := j) (by omega)]; rfl) ?_
        have hTj := (hW.tx (j := j) (by omega)).ia hC.2.1.2
        have x60j := hW.2.2.1 j (Or.inl (by omega))
        have j60 := x60j.2
        refine lv_astore (lv' := [(6, .ref (tx j)), (5, .int (nI j)), (4, .int (nI 4)), (3, .ref xa), (1, .long (dg3 X P k (j))), (0, .ref am)]) hx hb dX4_digest_151 hl (by decide) rfl (fun ls hl => ?_)
        refine lv_aload_n hx hb dX4_digest_153 rfl (lv_at hl 5 rfl) ?_
        refine va_get (D := G.1) (ci := 8) (C := RX4) (T := TX4) (N := 5) hx hb hts inX4 hown hK (at_P hO) 0 rfl rfl 1 (by decide) (hts _ tw_4_173) (fun _ h9 => h9) rfl dX4_digest_154 ?_
        refine lv_astore (lv' := [(7, .ref xa), (6, .ref (tx j)), (5, .int (nI j)), (4, .int (nI 4)), (3, .ref xa), (1, .long (dg3 X P k (j))), (0, .ref am)]) hx hb dX4_digest_157 hl (by decide) rfl (fun ls hl => ?_)
        refine lv_aload hx hb dX4_digest_159 (lv_at hl 0 rfl) ?_
        refine va_alen hx hb hK (at_P hXa) 0 4 (v := nI 4) rfl rfl rfl dX4_digest_161 ?_
        refine lv_istore (lv' := [(8, .int (nI 4)), (7, .ref xa), (6, .ref (tx j)), (5, .int (nI j)), (4, .int (nI 4)), (3, .ref xa), (1, .long (dg3 X P k (j))), (0, .ref am)]) hx hb dX4_digest_162 hl (by decide) rfl (fun ls hl => ?_)
        refine lv_iconst (v := nI 0) hx hb dX4_digest_164 (by decide) ?_
        refine lv_istore (lv' := [(9, .int (nI 0)), (8, .int (nI 4)), (7, .ref xa), (6, .ref (tx j)), (5, .int (nI j)), (4, .int (nI 4)), (3, .ref xa), (1, .long (dg3 X P k (j))), (0, .ref am)]) hx hb dX4_digest_165 hl (by decide) rfl (fun ls hl => ?_)
        have ihj := ih
        clear ih
        have hl : lv_has ls 11 [(9, .int (nI 0)), (8, .int (nI 4)), (7, .ref xa), (6, .ref (tx j)), (5, .int (nI j)), (4, .int (nI 4)), (3, .ref xa), (1, .long (dg3i X P k (j) (0))), (0, .ref am)] := by rw [dg3i_0]; exact (lv_sub hl [0, 1, 2, 3, 4, 5, 6, 7, 8] rfl)
        refine nloop (P := fun i => ∀ (ls : Array Slot) , lv_has ls 11 [(9, .int (nI i)), (8, .int (nI 4)), (7, .ref xa), (6, .ref (tx j)), (5, .int (nI j)), (4, .int (nI 4)), (3, .ref xa), (1, .long (dg3i X P k (j) (i))), (0, .ref am)] → W p l e rmX4_digest s m [.ref am].toArray below meth c H L (5 + 4 * 3) (25 + 4 * 183) (MQ below (qL A (fun r H => r = dgM X P k ∧ MW G A am xa X P k 0 H)) [.ref am].toArray s 18 761 (A)) (F0 m 167 ls [])) 4 ?_ 0 (Nat.zero_le _) ls  hl 
        clear hl
        intro i hi ih ls  hl
        refine lv_iload hx hb dX4_digest_167 (lv_at hl 0 rfl) ?_
        refine lv_iload hx hb dX4_digest_169 (lv_at hl 1 rfl) ?_
        refine b_ge (tgt := 252) hx hb dX4_digest_171 (by decide) (by omega) (by omega) (fun c_101 => ?_) (fun c_101 => ?_)
        · have e4 : i = 4 := by omega
          subst e4
          rw [← dg3_s] at hl
          refine lv_iinc (v := nI (j + 1)) (lv' := [(5, .int (nI (j + 1))), (9, .int (nI 4)), (8, .int (nI 4)), (7, .ref xa), (6, .ref (tx j)), (4, .int (nI 4)), (3, .ref xa), (1, .long (dg3 X P k (j + 1))), (0, .ref am)]) hx hb dX4_digest_252 hl (k := 4) rfl (nI_add j 1) (by decide) rfl (fun ls hl => ?_)
          refine lv_goto (tgt := 140) hx hb dX4_digest_255 (by decide) ?_
          exact ihj (j + 1) (by omega) (by omega) ls (lv_sub hl [0, 5, 6, 7, 8] rfl)
        · refine lv_aload hx hb dX4_digest_174 (lv_at hl 2 rfl) ?_
          refine lv_iload hx hb dX4_digest_176 (lv_at hl 0 rfl) ?_
          refine h_aaldI (D := G.1) hx hb hK 4 hW.txs rfl (vp_in_nI (n := i) (N := 4) (by omega) (by omega)) dX4_digest_178 ?_
          refine v_cv (show va_rf _ = .ref (tx i) from by rw [nI_clamp (n := i) (by omega)]; rfl) ?_
          have hTi := (hW.tx (j := i) (by omega)).ia hC.2.1.2
          have x60i := hW.2.2.1 i (Or.inl (by omega))
          have i60 := x60i.2
          refine lv_astore (lv' := [(10, .ref (tx i)), (9, .int (nI i)), (8, .int (nI 4)), (7, .ref xa), (6, .ref (tx j)), (5, .int (nI j)), (4, .int (nI 4)), (3, .ref xa), (1, .long (dg3i X P k (j) (i))), (0, .ref am)]) hx hb dX4_digest_179 hl (by decide) rfl (fun ls hl => ?_)
          refine lv_lload_n hx hb dX4_digest_181 rfl (lv_at hl 8 rfl) ?_
          refine lv_aload hx hb dX4_digest_182 (lv_at hl 4 rfl) ?_
          refine lv_aload hx hb dX4_digest_184 (lv_at hl 0 rfl) ?_
          refine kS_i (A := A) (As := [.ref (tx j), .ref (tx i)]) (rest := .long (dg3i X P k (j) (i)) :: []) ⟨hx, hb, hml, hown, hts⟩ (mX4_first (A := A) (t := X j) (u := X i) x60j.1 x60i.1 (by omega) (by omega)) (va_cwS 2 hts (gS tw_6_172 tw_6_173 tw_1_8 tw_6_174) rfl rfl rfl (by decide +kernel) ⟨Nat.le_of_ble_eq_true rfl, Nat.le_of_ble_eq_true rfl⟩) hC hS hA  ⟨hTj, hTi⟩ rfl rfl hl.1 (Nat.le_of_ble_eq_true rfl) ⟨Nat.le_trans (show (5 + 4 * 3) ≤ 18 by omega) (Nat.le_of_ble_eq_true rfl), Nat.le_trans (show (25 + 4 * 183) ≤ 761 by omega) (Nat.le_of_ble_eq_true rfl)⟩ dX4_digest_186 (fun r_102 hr_102 => ?_)
          obtain rfl : r_102 = fstV (X j) (X i) := fst_ep hr_102
          refine lv_i2l hx hb dX4_digest_189 rfl ?_
          refine kS_l (A := A) (As := [.long (dg3i X P k (j) (i)), .long ((fstV (X j) (X i)).toInt64)]) (rest := []) ⟨hx, hb, hml, hown, hts⟩ (mX4_add (A := A) ) (va_cwS 2 hts (gS tw_7_31 tw_7_32 tw_1_8 tw_7_33) rfl rfl rfl (by decide +kernel) ⟨Nat.le_of_ble_eq_true rfl, Nat.le_of_ble_eq_true rfl⟩) hC hS hA trivial rfl rfl hl.1 (Nat.le_of_ble_eq_true rfl) ⟨Nat.le_trans (show (5 + 4 * 3) ≤ 18 by omega) (Nat.le_of_ble_eq_true rfl), Nat.le_trans (show (25 + 4 * 183) ≤ 761 by omega) (Nat.le_of_ble_eq_true rfl)⟩ dX4_digest_190 (fun y_103 hy_103 => lv_cvl (hy_103.trans (stp_e _ _)) ?_)
          refine lv_aload hx hb dX4_digest_193 (lv_at hl 4 rfl) ?_
          refine lv_aload hx hb dX4_digest_195 (lv_at hl 0 rfl) ?_
          refine kS_i (A := A) (As := [.ref (tx j), .ref (tx i)]) (rest := .long (stp (dg3i X P k (j) (i)) (fstV (X j) (X i))) :: []) ⟨hx, hb, hml, hown, hts⟩ (mX4_last (A := A) (t := X j) (u := X i) x60j.1 x60i.1 (by omega) (by omega)) (va_cwS 2 hts (gS tw_6_185 tw_6_186 tw_1_8 tw_6_187) rfl rfl rfl (by decide +kernel) ⟨Nat.le_of_ble_eq_true rfl, Nat.le_of_ble_eq_true rfl⟩) hC hS hA  ⟨hTj, hTi⟩ rfl rfl hl.1 (Nat.le_of_ble_eq_true rfl) ⟨Nat.le_trans (show (5 + 4 * 3) ≤ 18 by omega) (Nat.le_of_ble_eq_true rfl), Nat.le_trans (show (25 + 4 * 183) ≤ 761 by omega) (Nat.le_of_ble_eq_true rfl)⟩ dX4_digest_197 (fun r_104 hr_104 => ?_)
          obtain rfl : r_104 = lstV (X j) (X i) := lst_ep hr_104
          refine lv_i2l hx hb dX4_digest_200 rfl ?_
          refine kS_l (A := A) (As := [.long (stp (dg3i X P k (j) (i)) (fstV (X j) (X i))), .long ((lstV (X j) (X i)).toInt64)]) (rest := []) ⟨hx, hb, hml, hown, hts⟩ (mX4_add (A := A) ) (va_cwS 2 hts (gS tw_7_31 tw_7_32 tw_1_8 tw_7_33) rfl rfl rfl (by decide +kernel) ⟨Nat.le_of_ble_eq_true rfl, Nat.le_of_ble_eq_true rfl⟩) hC hS hA trivial rfl rfl hl.1 (Nat.le_of_ble_eq_true rfl) ⟨Nat.le_trans (show (5 + 4 * 3) ≤ 18 by omega) (Nat.le_of_ble_eq_true rfl), Nat.le_trans (show (25 + 4 * 183) ≤ 761 by omega) (Nat.le_of_ble_eq_true rfl)⟩ dX4_digest_201 (fun y_105 hy_105 => lv_cvl (hy_105.trans (stp_e _ _)) ?_)
          refine lv_lstore_n (lv' := [(1, .long (stp (stp (dg3i X P k (j) (i)) (fstV (X j) (X i))) (lstV (X j) (X i)))), (10, .ref (tx i)), (9, .int (nI i)), (8, .int (nI 4)), (7, .ref xa), (6, .ref (tx j)), (5, .int (nI j)), (4, .int (nI 4)), (3, .ref xa), (0, .ref am)]) hx hb dX4_digest_204 rfl hl (by decide) rfl (fun ls hl => ?_)
          refine lv_lload_n hx hb dX4_digest_205 rfl (lv_at hl 0 rfl) ?_
          refine lv_aload hx hb dX4_digest_206 (lv_at hl 5 rfl) ?_
          refine lv_aload hx hb dX4_digest_208 (lv_at hl 1 rfl) ?_
          refine lv_iconst (v := nI 0) hx hb dX4_digest_210 (by decide) ?_
          refine kS_i (A := A) (As := [.ref (tx j), .ref (tx i), .int (bI false)]) (rest := .long (stp (stp (dg3i X P k (j) (i)) (fstV (X j) (X i))) (lstV (X j) (X i))) :: []) ⟨hx, hb, hml, hown, hts⟩ (mX4_order (A := A) (t := X j) (u := X i) (b0 := false) x60j.1 x60i.1 (by omega) (by omega)) (va_cwS 3 hts (gS tw_6_227 tw_6_228 tw_1_8 tw_6_229) rfl rfl rfl (by decide +kernel) ⟨Nat.le_of_ble_eq_true rfl, Nat.le_of_ble_eq_true rfl⟩) hC hS hA  ⟨hTj, hTi⟩ rfl rfl hl.1 (Nat.le_of_ble_eq_true rfl) ⟨Nat.le_trans (show (5 + 4 * 3) ≤ 18 by omega) (Nat.le_of_ble_eq_true rfl), Nat.le_trans (show (25 + 4 * 183) ≤ 761 by omega) (Nat.le_of_ble_eq_true rfl)⟩ dX4_digest_211 (fun r_106 hr_106 => ?_)
          obtain rfl : r_106 = ordV false (X j) (X i) := ordm_f hr_106
          refine lv_i2l hx hb dX4_digest_214 rfl ?_
          refine kS_l (A := A) (As := [.long (stp (stp (dg3i X P k (j) (i)) (fstV (X j) (X i))) (lstV (X j) (X i))), .long ((ordV false (X j) (X i)).toInt64)]) (rest := []) ⟨hx, hb, hml, hown, hts⟩ (mX4_add (A := A) ) (va_cwS 2 hts (gS tw_7_31 tw_7_32 tw_1_8 tw_7_33) rfl rfl rfl (by decide +kernel) ⟨Nat.le_of_ble_eq_true rfl, Nat.le_of_ble_eq_true rfl⟩) hC hS hA trivial rfl rfl hl.1 (Nat.le_of_ble_eq_true rfl) ⟨Nat.le_trans (show (5 + 4 * 3) ≤ 18 by omega) (Nat.le_of_ble_eq_true rfl), Nat.le_trans (show (25 + 4 * 183) ≤ 761 by omega) (Nat.le_of_ble_eq_true rfl)⟩ dX4_digest_215 (fun y_107 hy_107 => lv_cvl (hy_107.trans (stp_e _ _)) ?_)
          refine lv_aload hx hb dX4_digest_218 (lv_at hl 5 rfl) ?_
          refine lv_aload hx hb dX4_digest_220 (lv_at hl 1 rfl) ?_
          refine lv_iconst (v := nI 1) hx hb dX4_digest_222 (by decide) ?_
          refine kS_i (A := A) (As := [.ref (tx j), .ref (tx i), .int (bI true)]) (rest := .long (stp (stp (stp (dg3i X P k (j) (i)) (fstV (X j) (X i))) (lstV (X j) (X i))) (ordV false (X j) (X i))) :: []) ⟨hx, hb, hml, hown, hts⟩ (mX4_order (A := A) (t := X j) (u := X i) (b0 := true) x60j.1 x60i.1 (by omega) (by omega)) (va_cwS 3 hts (gS tw_6_227 tw_6_228 tw_1_8 tw_6_229) rfl rfl rfl (by decide +kernel) ⟨Nat.le_of_ble_eq_true rfl, Nat.le_of_ble_eq_true rfl⟩) hC hS hA  ⟨hTj, hTi⟩ rfl rfl hl.1 (Nat.le_of_ble_eq_true rfl) ⟨Nat.le_trans (show (5 + 4 * 3) ≤ 18 by omega) (Nat.le_of_ble_eq_true rfl), Nat.le_trans (show (25 + 4 * 183) ≤ 761 by omega) (Nat.le_of_ble_eq_true rfl)⟩ dX4_digest_223 (fun r_108 hr_108 => ?_)
          obtain rfl : r_108 = sgI (ordV true (X j) (X i)) := ordm_t hr_108
          refine lv_i2l hx hb dX4_digest_226 rfl ?_
          refine kS_l (A := A) (As := [.long (stp (stp (stp (dg3i X P k (j) (i)) (fstV (X j) (X i))) (lstV (X j) (X i))) (ordV false (X j) (X i))), .long ((sgI (ordV true (X j) (X i))).toInt64)]) (rest := []) ⟨hx, hb, hml, hown, hts⟩ (mX4_add (A := A) ) (va_cwS 2 hts (gS tw_7_31 tw_7_32 tw_1_8 tw_7_33) rfl rfl rfl (by decide +kernel) ⟨Nat.le_of_ble_eq_true rfl, Nat.le_of_ble_eq_true rfl⟩) hC hS hA trivial rfl rfl hl.1 (Nat.le_of_ble_eq_true rfl) ⟨Nat.le_trans (show (5 + 4 * 3) ≤ 18 by omega) (Nat.le_of_ble_eq_true rfl), Nat.le_trans (show (25 + 4 * 183) ≤ 761 by omega) (Nat.le_of_ble_eq_true rfl)⟩ dX4_digest_227 (fun y_109 hy_109 => lv_cvl (hy_109.trans (stp_e _ _)) ?_)
          refine lv_aload hx hb dX4_digest_230 (lv_at hl 5 rfl) ?_
          refine lv_aload hx hb dX4_digest_232 (lv_at hl 1 rfl) ?_
          refine lv_iconst (v := nI 1) hx hb dX4_digest_234 (by decide) ?_
          refine kS_i (A := A) (As := [.ref (tx j), .ref (tx i), .int (bI true)]) (rest := .long (stp (stp (stp (stp (dg3i X P k (j) (i)) (fstV (X j) (X i))) (lstV (X j) (X i))) (ordV false (X j) (X i))) (sgI (ordV true (X j) (X i)))) :: []) ⟨hx, hb, hml, hown, hts⟩ (mX4_isSame (A := A) (t := X j) (u := X i) (b0 := true) x60j.1 x60i.1 (by omega) (by omega)) (va_cwS 3 hts (gS tw_6_220 tw_6_221 tw_1_8 tw_6_222) rfl rfl rfl (by decide +kernel) ⟨Nat.le_of_ble_eq_true rfl, Nat.le_of_ble_eq_true rfl⟩) hC hS hA  ⟨hTj, hTi⟩ rfl rfl hl.1 (Nat.le_of_ble_eq_true rfl) ⟨Nat.le_trans (show (5 + 4 * 3) ≤ 18 by omega) (Nat.le_of_ble_eq_true rfl), Nat.le_trans (show (25 + 4 * 183) ≤ 761 by omega) (Nat.le_of_ble_eq_true rfl)⟩ dX4_digest_235 (fun r_110 hr_110 => ?_)
          obtain ⟨r_110v, hv9, rfl⟩ := hr_110
          obtain rfl : r_110v = samV (X j) (X i) := sam_ep hv9
          refine kS_i (A := A) (As := [.int (bI (samV (X j) (X i)))]) (rest := .long (stp (stp (stp (stp (dg3i X P k (j) (i)) (fstV (X j) (X i))) (lstV (X j) (X i))) (ordV false (X j) (X i))) (sgI (ordV true (X j) (X i)))) :: []) ⟨hx, hb, hml, hown, hts⟩ (mX4_one (A := A) ) (va_cwS 1 hts (gS tw_5_26 tw_5_27 tw_1_8 tw_5_28) rfl rfl rfl (by decide +kernel) ⟨Nat.le_of_ble_eq_true rfl, Nat.le_of_ble_eq_true rfl⟩) hC hS hA  trivial rfl rfl hl.1 (Nat.le_of_ble_eq_true rfl) ⟨Nat.le_trans (show (5 + 4 * 3) ≤ 18 by omega) (Nat.le_of_ble_eq_true rfl), Nat.le_trans (show (25 + 4 * 183) ≤ 761 by omega) (Nat.le_of_ble_eq_true rfl)⟩ dX4_digest_238 (fun r9 h9 => lv_cv h9 ?_)
          refine lv_i2l hx hb dX4_digest_241 rfl ?_
          refine kS_l (A := A) (As := [.long (stp (stp (stp (stp (dg3i X P k (j) (i)) (fstV (X j) (X i))) (lstV (X j) (X i))) (ordV false (X j) (X i))) (sgI (ordV true (X j) (X i)))), .long ((bI (samV (X j) (X i))).toInt64)]) (rest := []) ⟨hx, hb, hml, hown, hts⟩ (mX4_add (A := A) ) (va_cwS 2 hts (gS tw_7_31 tw_7_32 tw_1_8 tw_7_33) rfl rfl rfl (by decide +kernel) ⟨Nat.le_of_ble_eq_true rfl, Nat.le_of_ble_eq_true rfl⟩) hC hS hA trivial rfl rfl hl.1 (Nat.le_of_ble_eq_true rfl) ⟨Nat.le_trans (show (5 + 4 * 3) ≤ 18 by omega) (Nat.le_of_ble_eq_true rfl), Nat.le_trans (show (25 + 4 * 183) ≤ 761 by omega) (Nat.le_of_ble_eq_true rfl)⟩ dX4_digest_242 (fun y_111 hy_111 => lv_cvl (hy_111.trans (show (stp (stp (stp (stp (dg3i X P k (j) (i)) (fstV (X j) (X i))) (lstV (X j) (X i))) (ordV false (X j) (X i))) (sgI (ordV true (X j) (X i)))) * 31 + ((bI (samV (X j) (X i))).toInt64) = dg3i X P k (j) (i + 1) from (by rw [dg3i_s]; exact stp_e _ _))) ?_)
          refine lv_lstore_n (lv' := [(1, .long (dg3i X P k (j) (i + 1))), (10, .ref (tx i)), (9, .int (nI i)), (8, .int (nI 4)), (7, .ref xa), (6, .ref (tx j)), (5, .int (nI j)), (4, .int (nI 4)), (3, .ref xa), (0, .ref am)]) hx hb dX4_digest_245 rfl hl (by decide) rfl (fun ls hl => ?_)
          refine lv_iinc (v := nI (i + 1)) (lv' := [(9, .int (nI (i + 1))), (1, .long (dg3i X P k (j) (i + 1))), (10, .ref (tx i)), (8, .int (nI 4)), (7, .ref xa), (6, .ref (tx j)), (5, .int (nI j)), (4, .int (nI 4)), (3, .ref xa), (0, .ref am)]) hx hb dX4_digest_246 hl (k := 2) rfl (nI_add i 1) (by decide) rfl (fun ls hl => ?_)
          refine lv_goto (tgt := 167) hx hb dX4_digest_249 (by decide) ?_
          exact ih (i + 1) (by omega) (by omega) ls (lv_sub hl [0, 3, 4, 5, 6, 7, 8, 1, 9] rfl)
    · refine lv_aload_n hx hb dX4_digest_52 rfl (lv_at hl 2 rfl) ?_
      refine lv_iload hx hb dX4_digest_53 (lv_at hl 0 rfl) ?_
      refine h_aaldI (D := G.1) hx hb hK 4 hW.txs rfl (vp_in_nI (n := j) (N := 4) (by omega) (by omega)) dX4_digest_55 ?_
      refine v_cv (show va_rf _ = .ref (tx j) from by rw [nI_clamp (n := j) (by omega)]; rfl) ?_
      have hTj := (hW.tx (j := j) (by omega)).ia hC.2.1.2
      have x60j := hW.2.2.1 j (Or.inl (by omega))
      have j60 := x60j.2
      refine lv_astore (lv' := [(6, .ref (tx j)), (5, .int (nI j)), (4, .int (nI 4)), (3, .ref xa), (1, .long (dg2 X P k (j))), (0, .ref am)]) hx hb dX4_digest_56 hl (by decide) rfl (fun ls hl => ?_)
      refine lv_lload_n hx hb dX4_digest_58 rfl (lv_at hl 4 rfl) ?_
      refine lv_aload hx hb dX4_digest_59 (lv_at hl 0 rfl) ?_
      refine kS_i (A := A) (As := [.ref (tx j)]) (rest := .long (dg2 X P k (j)) :: []) ⟨hx, hb, hml, hown, hts⟩ (mX4_hash (A := A) (t := X j) (by omega)) (va_cwS 1 hts (gS tw_6_165 tw_6_166 tw_1_8 tw_6_167) rfl rfl rfl (by decide +kernel) ⟨Nat.le_of_ble_eq_true rfl, Nat.le_of_ble_eq_true rfl⟩) hC hS hA  hTj rfl rfl hl.1 (Nat.le_of_ble_eq_true rfl) ⟨Nat.le_trans (show (5 + j * 3) ≤ 18 by omega) (Nat.le_of_ble_eq_true rfl), Nat.le_trans (show (25 + j * 183) ≤ 761 by omega) (Nat.le_of_ble_eq_true rfl)⟩ dX4_digest_61 (fun r9 h9 => lv_cv h9 ?_)
      refine lv_i2l hx hb dX4_digest_64 rfl ?_
      refine kS_l (A := A) (As := [.long (dg2 X P k (j)), .long ((hashL (X j)).toInt64)]) (rest := []) ⟨hx, hb, hml, hown, hts⟩ (mX4_add (A := A) ) (va_cwS 2 hts (gS tw_7_31 tw_7_32 tw_1_8 tw_7_33) rfl rfl rfl (by decide +kernel) ⟨Nat.le_of_ble_eq_true rfl, Nat.le_of_ble_eq_true rfl⟩) hC hS hA trivial rfl rfl hl.1 (Nat.le_of_ble_eq_true rfl) ⟨Nat.le_trans (show (5 + j * 3) ≤ 18 by omega) (Nat.le_of_ble_eq_true rfl), Nat.le_trans (show (25 + j * 183) ≤ 761 by omega) (Nat.le_of_ble_eq_true rfl)⟩ dX4_digest_65 (fun y_112 hy_112 => lv_cvl (hy_112.trans (stp_e _ _)) ?_)
      refine lv_aload hx hb dX4_digest_68 (lv_at hl 0 rfl) ?_
      refine h_ilen hx hb hC.2.1 hTj dX4_digest_70 ?_
      refine lv_i2l hx hb dX4_digest_71 rfl ?_
      refine kS_l (A := A) (As := [.long (stp (dg2 X P k (j)) (hashL (X j))), .long ((nI ((X j).length)).toInt64)]) (rest := []) ⟨hx, hb, hml, hown, hts⟩ (mX4_add (A := A) ) (va_cwS 2 hts (gS tw_7_31 tw_7_32 tw_1_8 tw_7_33) rfl rfl rfl (by decide +kernel) ⟨Nat.le_of_ble_eq_true rfl, Nat.le_of_ble_eq_true rfl⟩) hC hS hA trivial rfl rfl hl.1 (Nat.le_of_ble_eq_true rfl) ⟨Nat.le_trans (show (5 + j * 3) ≤ 18 by omega) (Nat.le_of_ble_eq_true rfl), Nat.le_trans (show (25 + j * 183) ≤ 761 by omega) (Nat.le_of_ble_eq_true rfl)⟩ dX4_digest_72 (fun y_113 hy_113 => lv_cvl (hy_113.trans (stp_e _ _)) ?_)
      refine lv_aload hx hb dX4_digest_75 (lv_at hl 0 rfl) ?_
      refine lv_iconst (v := nI 1) hx hb dX4_digest_77 (by decide) ?_
      have hra := hW.row.lt
      have hTj := (hW.tx (j := j) (by omega)).ia hC.2.1.2
      have x60j := hW.2.2.1 j (Or.inl (by omega))
      have j60 := x60j.2
      refine qR_S (A := A) (A1 := nw H.size)  (As := [.ref (tx j), .int (bI true)]) (rest := .long (stp (stp (dg2 X P k (j)) (hashL (X j))) (nI ((X j).length))) :: []) ⟨hx, hb, hml, hown, hts⟩ (mX4_trimmed (A := nw H.size) (sz := H.size) (t := X j) (b := true) x60j.1 (by omega)) (va_cwS 2 hts (gS tw_5_9 tw_5_10 tw_1_8 tw_5_11) rfl rfl rfl (by decide +kernel) ⟨Nat.le_of_ble_eq_true rfl, Nat.le_of_ble_eq_true rfl⟩) hC hS (nw_in hA hS.1) nw_n  ⟨rfl, hTj⟩ rfl rfl hl.1 (Nat.le_of_ble_eq_true rfl) ⟨Nat.le_trans (show (5 + j * 3) + 1 ≤ 18 by omega) (Nat.le_of_ble_eq_true rfl), Nat.le_trans (show (25 + j * 183) + 61 ≤ 761 by omega) (Nat.le_of_ble_eq_true rfl)⟩ dX4_digest_78 (fun rv114 H114 L114 hP114 hk114 hS => ?_)
      have hZ114 := hS.1
      obtain ⟨hsz9, e9, he9, hR9⟩ := hP114
      obtain rfl : e9 = teC true (X j) := te_ep he9
      have hW := hW.nw hk114
      have hR8 := hR9.ia hC.2.1.2
      have hcle := cutL_le (X j) (tbL true (X j)) (teC true (X j))
      refine h_ilen hx hb hC.2.1 hR8 dX4_digest_81 ?_
      refine z_ne (tgt := 89) hx hb dX4_digest_82 (by decide) (by omega) (fun c_115 => ?_) (fun c_115 => ?_)
      · have hwh : decide (tbL true (X j) = (X j).length) = false := wh_dec he9 c_115
        refine lv_iconst (v := nI 0) hx hb dX4_digest_89 (by decide) ?_
        refine kS_i (A := A) (As := [.int (bI false)]) (rest := .long (stp (stp (dg2 X P k (j)) (hashL (X j))) (nI ((X j).length))) :: []) ⟨hx, hb, hml, hown, hts⟩ (mX4_one (A := A) ) (va_cwS 1 hts (gS tw_5_26 tw_5_27 tw_1_8 tw_5_28) rfl rfl rfl (by decide +kernel) ⟨Nat.le_of_ble_eq_true rfl, Nat.le_of_ble_eq_true rfl⟩) hC hS hA  trivial rfl rfl hl.1 (Nat.le_of_ble_eq_true rfl) ⟨Nat.le_trans (show ((5 + j * 3) + 1) ≤ 18 by omega) (Nat.le_of_ble_eq_true rfl), Nat.le_trans (show ((25 + j * 183) + 61) ≤ 761 by omega) (Nat.le_of_ble_eq_true rfl)⟩ dX4_digest_90 (fun r9 h9 => lv_cv h9 ?_)
        refine lv_i2l hx hb dX4_digest_93 rfl ?_
        refine kS_l (A := A) (As := [.long (stp (stp (dg2 X P k (j)) (hashL (X j))) (nI ((X j).length))), .long ((bI false).toInt64)]) (rest := []) ⟨hx, hb, hml, hown, hts⟩ (mX4_add (A := A) ) (va_cwS 2 hts (gS tw_7_31 tw_7_32 tw_1_8 tw_7_33) rfl rfl rfl (by decide +kernel) ⟨Nat.le_of_ble_eq_true rfl, Nat.le_of_ble_eq_true rfl⟩) hC hS hA trivial rfl rfl hl.1 (Nat.le_of_ble_eq_true rfl) ⟨Nat.le_trans (show ((5 + j * 3) + 1) ≤ 18 by omega) (Nat.le_of_ble_eq_true rfl), Nat.le_trans (show ((25 + j * 183) + 61) ≤ 761 by omega) (Nat.le_of_ble_eq_true rfl)⟩ dX4_digest_94 (fun y_116 hy_116 => lv_cvl (hy_116.trans (show (stp (stp (dg2 X P k (j)) (hashL (X j))) (nI ((X j).length))) * 31 + ((bI false).toInt64) = stp (stp (stp (dg2 X P k (j)) (hashL (X j))) (nI ((X j).length))) (bI (decide (tbL true (X j) = (X j).length))) from (by rw [hwh]; exact stp_e _ _))) ?_)
        refine lv_lstore_n (lv' := [(1, .long (stp (stp (stp (dg2 X P k (j)) (hashL (X j))) (nI ((X j).length))) (bI (decide (tbL true (X j) = (X j).length))))), (6, .ref (tx j)), (5, .int (nI j)), (4, .int (nI 4)), (3, .ref xa), (0, .ref am)]) hx hb dX4_digest_97 rfl hl (by decide) rfl (fun ls hl => ?_)
        refine lv_lload_n hx hb dX4_digest_98 rfl (lv_at hl 0 rfl) ?_
        refine lv_aload hx hb dX4_digest_99 (lv_at hl 1 rfl) ?_
        refine lv_iconst (v := nI 0) hx hb dX4_digest_101 (by decide) ?_
        have hra := hW.row.lt
        have hTj := (hW.tx (j := j) (by omega)).ia hC.2.1.2
        have x60j := hW.2.2.1 j (Or.inl (by omega))
        have j60 := x60j.2
        refine qR_S (A := A) (A1 := nw H114.size)  (As := [.ref (tx j), .int (bI false)]) (rest := .long (stp (stp (stp (dg2 X P k (j)) (hashL (X j))) (nI ((X j).length))) (bI (decide (tbL true (X j) = (X j).length)))) :: []) ⟨hx, hb, hml, hown, hts⟩ (mX4_trimmed (A := nw H114.size) (sz := H114.size) (t := X j) (b := false) x60j.1 (by omega)) (va_cwS 2 hts (gS tw_5_9 tw_5_10 tw_1_8 tw_5_11) rfl rfl rfl (by decide +kernel) ⟨Nat.le_of_ble_eq_true rfl, Nat.le_of_ble_eq_true rfl⟩) hC hS (nw_in hA hS.1) nw_n  ⟨rfl, hTj⟩ rfl rfl hl.1 (Nat.le_of_ble_eq_true rfl) ⟨Nat.le_trans (show ((5 + j * 3) + 1) + 1 ≤ 18 by omega) (Nat.le_of_ble_eq_true rfl), Nat.le_trans (show ((25 + j * 183) + 61) + 61 ≤ 761 by omega) (Nat.le_of_ble_eq_true rfl)⟩ dX4_digest_102 (fun rv117 H117 L117 hP117 hk117 hS => ?_)
        have hZ117 := hS.1
        obtain ⟨hsz9, e9, he9, hR9⟩ := hP117
        obtain rfl : e9 = teC false (X j) := te_ep he9
        have hW := hW.nw hk117
        have hR8 := hR9.ia hC.2.1.2
        have hcle := cutL_le (X j) (tbL false (X j)) (teC false (X j))
        refine h_ilen hx hb hC.2.1 hR8 dX4_digest_105 ?_
        refine lv_i2l hx hb dX4_digest_106 rfl ?_
        refine kS_l (A := A) (As := [.long (stp (stp (stp (dg2 X P k (j)) (hashL (X j))) (nI ((X j).length))) (bI (decide (tbL true (X j) = (X j).length)))), .long ((nI ((cutL (X j) (tbL false (X j)) (teC false (X j))).length)).toInt64)]) (rest := []) ⟨hx, hb, hml, hown, hts⟩ (mX4_add (A := A) ) (va_cwS 2 hts (gS tw_7_31 tw_7_32 tw_1_8 tw_7_33) rfl rfl rfl (by decide +kernel) ⟨Nat.le_of_ble_eq_true rfl, Nat.le_of_ble_eq_true rfl⟩) hC hS hA trivial rfl rfl hl.1 (Nat.le_of_ble_eq_true rfl) ⟨Nat.le_trans (show (((5 + j * 3) + 1) + 1) ≤ 18 by omega) (Nat.le_of_ble_eq_true rfl), Nat.le_trans (show (((25 + j * 183) + 61) + 61) ≤ 761 by omega) (Nat.le_of_ble_eq_true rfl)⟩ dX4_digest_107 (fun y_118 hy_118 => lv_cvl (hy_118.trans (show (stp (stp (stp (dg2 X P k (j)) (hashL (X j))) (nI ((X j).length))) (bI (decide (tbL true (X j) = (X j).length)))) * 31 + ((nI ((cutL (X j) (tbL false (X j)) (teC false (X j))).length)).toInt64) = stp (stp (stp (stp (dg2 X P k (j)) (hashL (X j))) (nI ((X j).length))) (bI (decide (tbL true (X j) = (X j).length)))) (nI (teC false (X j) - tbL false (X j))) from (by rw [cutL_len he9.2.1]; exact stp_e _ _))) ?_)
        refine lv_aload hx hb dX4_digest_110 (lv_at hl 1 rfl) ?_
        refine lv_iconst (v := nI 1) hx hb dX4_digest_112 (by decide) ?_
        have hra := hW.row.lt
        have hTj := (hW.tx (j := j) (by omega)).ia hC.2.1.2
        have x60j := hW.2.2.1 j (Or.inl (by omega))
        have j60 := x60j.2
        refine qR_S (A := A) (A1 := nw H117.size)  (As := [.ref (tx j), .int (bI true)]) (rest := .long (stp (stp (stp (stp (dg2 X P k (j)) (hashL (X j))) (nI ((X j).length))) (bI (decide (tbL true (X j) = (X j).length)))) (nI (teC false (X j) - tbL false (X j)))) :: []) ⟨hx, hb, hml, hown, hts⟩ (mX4_trimmed (A := nw H117.size) (sz := H117.size) (t := X j) (b := true) x60j.1 (by omega)) (va_cwS 2 hts (gS tw_5_9 tw_5_10 tw_1_8 tw_5_11) rfl rfl rfl (by decide +kernel) ⟨Nat.le_of_ble_eq_true rfl, Nat.le_of_ble_eq_true rfl⟩) hC hS (nw_in hA hS.1) nw_n  ⟨rfl, hTj⟩ rfl rfl hl.1 (Nat.le_of_ble_eq_true rfl) ⟨Nat.le_trans (show (((5 + j * 3) + 1) + 1) + 1 ≤ 18 by omega) (Nat.le_of_ble_eq_true rfl), Nat.le_trans (show (((25 + j * 183) + 61) + 61) + 61 ≤ 761 by omega) (Nat.le_of_ble_eq_true rfl)⟩ dX4_digest_113 (fun rv119 H119 L119 hP119 hk119 hS => ?_)
        have hZ119 := hS.1
        obtain ⟨hsz9, e9, he9, hR9⟩ := hP119
        obtain rfl : e9 = teC true (X j) := te_ep he9
        have hW := hW.nw hk119
        have hR8 := hR9.ia hC.2.1.2
        have hcle := cutL_le (X j) (tbL true (X j)) (teC true (X j))
        refine h_ilen hx hb hC.2.1 hR8 dX4_digest_116 ?_
        refine lv_i2l hx hb dX4_digest_117 rfl ?_
        refine kS_l (A := A) (As := [.long (stp (stp (stp (stp (dg2 X P k (j)) (hashL (X j))) (nI ((X j).length))) (bI (decide (tbL true (X j) = (X j).length)))) (nI (teC false (X j) - tbL false (X j)))), .long ((nI ((cutL (X j) (tbL true (X j)) (teC true (X j))).length)).toInt64)]) (rest := []) ⟨hx, hb, hml, hown, hts⟩ (mX4_add (A := A) ) (va_cwS 2 hts (gS tw_7_31 tw_7_32 tw_1_8 tw_7_33) rfl rfl rfl (by decide +kernel) ⟨Nat.le_of_ble_eq_true rfl, Nat.le_of_ble_eq_true rfl⟩) hC hS hA trivial rfl rfl hl.1 (Nat.le_of_ble_eq_true rfl) ⟨Nat.le_trans (show ((((5 + j * 3) + 1) + 1) + 1) ≤ 18 by omega) (Nat.le_of_ble_eq_true rfl), Nat.le_trans (show ((((25 + j * 183) + 61) + 61) + 61) ≤ 761 by omega) (Nat.le_of_ble_eq_true rfl)⟩ dX4_digest_118 (fun y_120 hy_120 => lv_cvl (hy_120.trans (show (stp (stp (stp (stp (dg2 X P k (j)) (hashL (X j))) (nI ((X j).length))) (bI (decide (tbL true (X j) = (X j).length)))) (nI (teC false (X j) - tbL false (X j)))) * 31 + ((nI ((cutL (X j) (tbL true (X j)) (teC true (X j))).length)).toInt64) = dg2 X P k (j + 1) from (by rw [dg2_s, cutL_len he9.2.1]; exact stp_e _ _))) ?_)
        refine lv_lstore_n (lv' := [(1, .long (dg2 X P k (j + 1))), (6, .ref (tx j)), (5, .int (nI j)), (4, .int (nI 4)), (3, .ref xa), (0, .ref am)]) hx hb dX4_digest_121 rfl hl (by decide) rfl (fun ls hl => ?_)
        refine lv_iinc (v := nI (j + 1)) (lv' := [(5, .int (nI (j + 1))), (1, .long (dg2 X P k (j + 1))), (6, .ref (tx j)), (4, .int (nI 4)), (3, .ref xa), (0, .ref am)]) hx hb dX4_digest_122 hl (k := 2) rfl (nI_add j 1) (by decide) rfl (fun ls hl => ?_)
        refine lv_goto (tgt := 45) hx hb dX4_digest_125 (by decide) ?_
        refine W.widen (k := 5 + (j + 1) * 3) (n := 25 + (j + 1) * 183) (by omega) (by omega) ?_
        exact ih (j + 1) (by omega) (by omega) ls H119 L119 (lv_sub hl [0, 3, 4, 1, 5] rfl) hS hW
      · have hwh : decide (tbL true (X j) = (X j).length) = true := wh_dec he9 c_115
        refine lv_iconst (v := nI 1) hx hb dX4_digest_85 (by decide) ?_
        refine lv_goto (tgt := 90) hx hb dX4_digest_86 (by decide) ?_
        refine kS_i (A := A) (As := [.int (bI true)]) (rest := .long (stp (stp (dg2 X P k (j)) (hashL (X j))) (nI ((X j).length))) :: []) ⟨hx, hb, hml, hown, hts⟩ (mX4_one (A := A) ) (va_cwS 1 hts (gS tw_5_26 tw_5_27 tw_1_8 tw_5_28) rfl rfl rfl (by decide +kernel) ⟨Nat.le_of_ble_eq_true rfl, Nat.le_of_ble_eq_true rfl⟩) hC hS hA  trivial rfl rfl hl.1 (Nat.le_of_ble_eq_true rfl) ⟨Nat.le_trans (show ((5 + j * 3) + 1) ≤ 18 by omega) (Nat.le_of_ble_eq_true rfl), Nat.le_trans (show ((25 + j * 183) + 61) ≤ 761 by omega) (Nat.le_of_ble_eq_true rfl)⟩ dX4_digest_90 (fun r9 h9 => lv_cv h9 ?_)
        refine lv_i2l hx hb dX4_digest_93 rfl ?_
        refine kS_l (A := A) (As := [.long (stp (stp (dg2 X P k (j)) (hashL (X j))) (nI ((X j).length))), .long ((bI true).toInt64)]) (rest := []) ⟨hx, hb, hml, hown, hts⟩ (mX4_add (A := A) ) (va_cwS 2 hts (gS tw_7_31 tw_7_32 tw_1_8 tw_7_33) rfl rfl rfl (by decide +kernel) ⟨Nat.le_of_ble_eq_true rfl, Nat.le_of_ble_eq_true rfl⟩) hC hS hA trivial rfl rfl hl.1 (Nat.le_of_ble_eq_true rfl) ⟨Nat.le_trans (show ((5 + j * 3) + 1) ≤ 18 by omega) (Nat.le_of_ble_eq_true rfl), Nat.le_trans (show ((25 + j * 183) + 61) ≤ 761 by omega) (Nat.le_of_ble_eq_true rfl)⟩ dX4_digest_94 (fun y_121 hy_121 => lv_cvl (hy_121.trans (show (stp (stp (dg2 X P k (j)) (hashL (X j))) (nI ((X j).length))) * 31 + ((bI true).toInt64) = stp (stp (stp (dg2 X P k (j)) (hashL (X j))) (nI ((X j).length))) (bI (decide (tbL true (X j) = (X j).length))) from (by rw [hwh]; exact stp_e _ _))) ?_)
        refine lv_lstore_n (lv' := [(1, .long (stp (stp (stp (dg2 X P k (j)) (hashL (X j))) (nI ((X j).length))) (bI (decide (tbL true (X j) = (X j).length))))), (6, .ref (tx j)), (5, .int (nI j)), (4, .int (nI 4)), (3, .ref xa), (0, .ref am)]) hx hb dX4_digest_97 rfl hl (by decide) rfl (fun ls hl => ?_)
        refine lv_lload_n hx hb dX4_digest_98 rfl (lv_at hl 0 rfl) ?_
        refine lv_aload hx hb dX4_digest_99 (lv_at hl 1 rfl) ?_
        refine lv_iconst (v := nI 0) hx hb dX4_digest_101 (by decide) ?_
        have hra := hW.row.lt
        have hTj := (hW.tx (j := j) (by omega)).ia hC.2.1.2
        have x60j := hW.2.2.1 j (Or.inl (by omega))
        have j60 := x60j.2
        refine qR_S (A := A) (A1 := nw H114.size)  (As := [.ref (tx j), .int (bI false)]) (rest := .long (stp (stp (stp (dg2 X P k (j)) (hashL (X j))) (nI ((X j).length))) (bI (decide (tbL true (X j) = (X j).length)))) :: []) ⟨hx, hb, hml, hown, hts⟩ (mX4_trimmed (A := nw H114.size) (sz := H114.size) (t := X j) (b := false) x60j.1 (by omega)) (va_cwS 2 hts (gS tw_5_9 tw_5_10 tw_1_8 tw_5_11) rfl rfl rfl (by decide +kernel) ⟨Nat.le_of_ble_eq_true rfl, Nat.le_of_ble_eq_true rfl⟩) hC hS (nw_in hA hS.1) nw_n  ⟨rfl, hTj⟩ rfl rfl hl.1 (Nat.le_of_ble_eq_true rfl) ⟨Nat.le_trans (show ((5 + j * 3) + 1) + 1 ≤ 18 by omega) (Nat.le_of_ble_eq_true rfl), Nat.le_trans (show ((25 + j * 183) + 61) + 61 ≤ 761 by omega) (Nat.le_of_ble_eq_true rfl)⟩ dX4_digest_102 (fun rv122 H122 L122 hP122 hk122 hS => ?_)
        have hZ122 := hS.1
        obtain ⟨hsz9, e9, he9, hR9⟩ := hP122
        obtain rfl : e9 = teC false (X j) := te_ep he9
        have hW := hW.nw hk122
        have hR8 := hR9.ia hC.2.1.2
        have hcle := cutL_le (X j) (tbL false (X j)) (teC false (X j))
        refine h_ilen hx hb hC.2.1 hR8 dX4_digest_105 ?_
        refine lv_i2l hx hb dX4_digest_106 rfl ?_
        refine kS_l (A := A) (As := [.long (stp (stp (stp (dg2 X P k (j)) (hashL (X j))) (nI ((X j).length))) (bI (decide (tbL true (X j) = (X j).length)))), .long ((nI ((cutL (X j) (tbL false (X j)) (teC false (X j))).length)).toInt64)]) (rest := []) ⟨hx, hb, hml, hown, hts⟩ (mX4_add (A := A) ) (va_cwS 2 hts (gS tw_7_31 tw_7_32 tw_1_8 tw_7_33) rfl rfl rfl (by decide +kernel) ⟨Nat.le_of_ble_eq_true rfl, Nat.le_of_ble_eq_true rfl⟩) hC hS hA trivial rfl rfl hl.1 (Nat.le_of_ble_eq_true rfl) ⟨Nat.le_trans (show (((5 + j * 3) + 1) + 1) ≤ 18 by omega) (Nat.le_of_ble_eq_true rfl), Nat.le_trans (show (((25 + j * 183) + 61) + 61) ≤ 761 by omega) (Nat.le_of_ble_eq_true rfl)⟩ dX4_digest_107 (fun y_123 hy_123 => lv_cvl (hy_123.trans (show (stp (stp (stp (dg2 X P k (j)) (hashL (X j))) (nI ((X j).length))) (bI (decide (tbL true (X j) = (X j).length)))) * 31 + ((nI ((cutL (X j) (tbL false (X j)) (teC false (X j))).length)).toInt64) = stp (stp (stp (stp (dg2 X P k (j)) (hashL (X j))) (nI ((X j).length))) (bI (decide (tbL true (X j) = (X j).length)))) (nI (teC false (X j) - tbL false (X j))) from (by rw [cutL_len he9.2.1]; exact stp_e _ _))) ?_)
        refine lv_aload hx hb dX4_digest_110 (lv_at hl 1 rfl) ?_
        refine lv_iconst (v := nI 1) hx hb dX4_digest_112 (by decide) ?_
        have hra := hW.row.lt
        have hTj := (hW.tx (j := j) (by omega)).ia hC.2.1.2
        have x60j := hW.2.2.1 j (Or.inl (by omega))
        have j60 := x60j.2
        refine qR_S (A := A) (A1 := nw H122.size)  (As := [.ref (tx j), .int (bI true)]) (rest := .long (stp (stp (stp (stp (dg2 X P k (j)) (hashL (X j))) (nI ((X j).length))) (bI (decide (tbL true (X j) = (X j).length)))) (nI (teC false (X j) - tbL false (X j)))) :: []) ⟨hx, hb, hml, hown, hts⟩ (mX4_trimmed (A := nw H122.size) (sz := H122.size) (t := X j) (b := true) x60j.1 (by omega)) (va_cwS 2 hts (gS tw_5_9 tw_5_10 tw_1_8 tw_5_11) rfl rfl rfl (by decide +kernel) ⟨Nat.le_of_ble_eq_true rfl, Nat.le_of_ble_eq_true rfl⟩) hC hS (nw_in hA hS.1) nw_n  ⟨rfl, hTj⟩ rfl rfl hl.1 (Nat.le_of_ble_eq_true rfl) ⟨Nat.le_trans (show (((5 + j * 3) + 1) + 1) + 1 ≤ 18 by omega) (Nat.le_of_ble_eq_true rfl), Nat.le_trans (show (((25 + j * 183) + 61) + 61) + 61 ≤ 761 by omega) (Nat.le_of_ble_eq_true rfl)⟩ dX4_digest_113 (fun rv124 H124 L124 hP124 hk124 hS => ?_)
        have hZ124 := hS.1
        obtain ⟨hsz9, e9, he9, hR9⟩ := hP124
        obtain rfl : e9 = teC true (X j) := te_ep he9
        have hW := hW.nw hk124
        have hR8 := hR9.ia hC.2.1.2
        have hcle := cutL_le (X j) (tbL true (X j)) (teC true (X j))
        refine h_ilen hx hb hC.2.1 hR8 dX4_digest_116 ?_
        refine lv_i2l hx hb dX4_digest_117 rfl ?_
        refine kS_l (A := A) (As := [.long (stp (stp (stp (stp (dg2 X P k (j)) (hashL (X j))) (nI ((X j).length))) (bI (decide (tbL true (X j) = (X j).length)))) (nI (teC false (X j) - tbL false (X j)))), .long ((nI ((cutL (X j) (tbL true (X j)) (teC true (X j))).length)).toInt64)]) (rest := []) ⟨hx, hb, hml, hown, hts⟩ (mX4_add (A := A) ) (va_cwS 2 hts (gS tw_7_31 tw_7_32 tw_1_8 tw_7_33) rfl rfl rfl (by decide +kernel) ⟨Nat.le_of_ble_eq_true rfl, Nat.le_of_ble_eq_true rfl⟩) hC hS hA trivial rfl rfl hl.1 (Nat.le_of_ble_eq_true rfl) ⟨Nat.le_trans (show ((((5 + j * 3) + 1) + 1) + 1) ≤ 18 by omega) (Nat.le_of_ble_eq_true rfl), Nat.le_trans (show ((((25 + j * 183) + 61) + 61) + 61) ≤ 761 by omega) (Nat.le_of_ble_eq_true rfl)⟩ dX4_digest_118 (fun y_125 hy_125 => lv_cvl (hy_125.trans (show (stp (stp (stp (stp (dg2 X P k (j)) (hashL (X j))) (nI ((X j).length))) (bI (decide (tbL true (X j) = (X j).length)))) (nI (teC false (X j) - tbL false (X j)))) * 31 + ((nI ((cutL (X j) (tbL true (X j)) (teC true (X j))).length)).toInt64) = dg2 X P k (j + 1) from (by rw [dg2_s, cutL_len he9.2.1]; exact stp_e _ _))) ?_)
        refine lv_lstore_n (lv' := [(1, .long (dg2 X P k (j + 1))), (6, .ref (tx j)), (5, .int (nI j)), (4, .int (nI 4)), (3, .ref xa), (0, .ref am)]) hx hb dX4_digest_121 rfl hl (by decide) rfl (fun ls hl => ?_)
        refine lv_iinc (v := nI (j + 1)) (lv' := [(5, .int (nI (j + 1))), (1, .long (dg2 X P k (j + 1))), (6, .ref (tx j)), (4, .int (nI 4)), (3, .ref xa), (0, .ref am)]) hx hb dX4_digest_122 hl (k := 2) rfl (nI_add j 1) (by decide) rfl (fun ls hl => ?_)
        refine lv_goto (tgt := 45) hx hb dX4_digest_125 (by decide) ?_
        refine W.widen (k := 5 + (j + 1) * 3) (n := 25 + (j + 1) * 183) (by omega) (by omega) ?_
        exact ih (j + 1) (by omega) (by omega) ls H124 L124 (lv_sub hl [0, 3, 4, 1, 5] rfl) hS hW
  · obtain ⟨ra, pa, tx, hW⟩ := hM
    refine lv_lload_n hx hb dX4_digest_16 rfl (lv_at hl 1 rfl) ?_
    refine lv_aload_n hx hb dX4_digest_17 rfl (lv_at hl 2 rfl) ?_
    refine lv_iload_n hx hb dX4_digest_18 rfl (lv_at hl 0 rfl) ?_
    refine qI_V (A := A) (A1 := A) (b := am) (As := [.int (nI j)]) (rest := .long (dg1 X P k (j)) :: []) ⟨hx, hb, hml, hown, hts⟩ (mX4_houseTold (A := A) (X := X) (P := P) (k := k) (xa := xa) (w9 := j) (by omega)) (cwV 1 hts (gV tw_7_14 tw_7_16 sel_X4_houseTold tw_1_8 tw_7_17) rfl rfl rfl (by decide +kernel) ⟨Nat.le_of_ble_eq_true rfl, Nat.le_of_ble_eq_true rfl⟩) hC hS (fun _ h => h) (fun q h => hA q (Nat.le_trans hS.1 h)) (hW.recv hK) ⟨ra, pa, tx, hW⟩ rfl rfl hl.1 (Nat.le_of_ble_eq_true rfl) ⟨Nat.le_trans (show (0 + j) + 1 ≤ 18 by omega) (Nat.le_of_ble_eq_true rfl), Nat.le_trans (show (0 + j * 5) + 5 ≤ 761 by omega) (Nat.le_of_ble_eq_true rfl)⟩ dX4_digest_19 (fun rv126 H126 L126 hP126 hk126 hS => ?_)
    have hZ126 := hS.1
    refine lv_i2l hx hb dX4_digest_22 rfl ?_
    refine kS_l (A := A) (As := [.long (dg1 X P k (j)), .long rv126.toInt64]) (rest := []) ⟨hx, hb, hml, hown, hts⟩ (mX4_add (A := A) ) (va_cwS 2 hts (gS tw_7_31 tw_7_32 tw_1_8 tw_7_33) rfl rfl rfl (by decide +kernel) ⟨Nat.le_of_ble_eq_true rfl, Nat.le_of_ble_eq_true rfl⟩) hC hS hA trivial rfl rfl hl.1 (Nat.le_of_ble_eq_true rfl) ⟨Nat.le_trans (show ((0 + j) + 1) ≤ 18 by omega) (Nat.le_of_ble_eq_true rfl), Nat.le_trans (show ((0 + j * 5) + 5) ≤ 761 by omega) (Nat.le_of_ble_eq_true rfl)⟩ dX4_digest_23 (fun y_127 hy_127 => lv_cvl (hy_127.trans (show (dg1 X P k (j)) * 31 + rv126.toInt64 = dg1 X P k (j + 1) from (by rw [dg1_s, hP126.1]; exact stp_e _ _))) ?_)
    refine lv_lstore_n (lv' := [(1, .long (dg1 X P k (j + 1))), (3, .int (nI j)), (0, .ref am)]) hx hb dX4_digest_26 rfl hl (by decide) rfl (fun ls hl => ?_)
    refine lv_iinc (v := nI (j + 1)) (lv' := [(3, .int (nI (j + 1))), (1, .long (dg1 X P k (j + 1))), (0, .ref am)]) hx hb dX4_digest_27 hl (k := 1) rfl (nI_add j 1) (by decide) rfl (fun ls hl => ?_)
    refine lv_goto (tgt := 11) hx hb dX4_digest_30 (by decide) ?_
    refine W.widen (k := 0 + (j + 1)) (n := 0 + (j + 1) * 5) (by omega) (by omega) ?_
    exact ih (j + 1) (by omega) (by omega) ls H126 L126 (lv_sub hl [0, 1, 2] rfl) hS hP126.2
