/-! ALL IS SOUND, told -/
theorem same_v {v : Bool} {t u : List Nat} (hv : v = true ↔ t.length = u.length ∧ stL false t u 0) (h : t = u) : v = true := by
  subst h
  exact hv.mpr ⟨rfl, Nat.le_of_eq (Nat.zero_add _), fun k _ => by rw [Nat.zero_add]⟩
theorem take_gd {t : List Nat} {n k : Nat} (h : k < n) : (t.take n).getD k 0 = t.getD k 0 := by
  rw [List.getD_eq_getElem?_getD, List.getElem?_take, if_pos h, ← List.getD_eq_getElem?_getD]
theorem cutL_gd {t : List Nat} {i j k : Nat} (h : k < j - i) : (cutL t i j).getD k 0 = t.getD (i + k) 0 := by
  unfold cutL
  rw [take_gd h, List.getD_eq_getElem?_getD, List.getElem?_drop, ← List.getD_eq_getElem?_getD]
theorem twoP {t : List Nat} {j : Nat} (h : t.length ≤ 60) (hj : j ≤ t.length) : ((([] : List Nat) ++ cutL t 0 j).take 60 ++ cutL t j t.length).take 60 = t := by
  unfold cutL
  rw [List.nil_append, List.drop_zero, Nat.sub_zero, List.take_of_length_le (l := t.take j) (by rw [List.length_take]; omega), List.take_of_length_le (l := t.drop j) (by rw [List.length_drop]; omega), List.take_append_drop, List.take_of_length_le h]
theorem tbL_z {b : Bool} {t : List Nat} (g : t.length = 0 ∨ goesN b (t.getD 0 0) = false) : tbL b t = 0 := by
  cases t with
  | nil => rfl
  | cons c t =>
    have g : goesN b c = false := g.resolve_left (fun h => by cases h)
    show (if goesN b c then tbL b t + 1 else 0) = 0
    rw [g]
    rfl
theorem trimU {b : Bool} {t : List Nat} {e9 e7 : Nat} (he : isTe b t e9) (h7 : isTe b (cutL t (tbL b t) e9) e7) : cutL (cutL t (tbL b t) e9) (tbL b (cutL t (tbL b t) e9)) e7 = cutL t (tbL b t) e9 := by
  have h1 := he.1
  have h2 := he.2.1
  have hl : (cutL t (tbL b t) e9).length = e9 - tbL b t := cutL_len h2
  have h0 : tbL b (cutL t (tbL b t) e9) = 0 := tbL_z (by
    by_cases q : tbL b t < e9
    · refine Or.inr ?_
      rw [cutL_gd (by omega)]
      exact tbL_ge (by omega)
    · exact Or.inl (by omega))
  have h7e : e7 = (cutL t (tbL b t) e9).length := by
    have a := h7.2.1
    by_cases q : e7 < (cutL t (tbL b t) e9).length
    · have g1 := h7.2.2.1 ((cutL t (tbL b t) e9).length - 1) (by omega) (by omega)
      have g2 := he.2.2.2 (by omega)
      rw [hl, cutL_gd (by omega), show tbL b t + (e9 - tbL b t - 1) = e9 - 1 by omega, g2] at g1
      cases g1
    · omega
  rw [h0, h7e, cutL_all]
theorem comE_end (t : List Nat) : ∀ i : Nat, (comE t i).getD ((comE t i).length - 1) 0 = i + t.length := by
  induction t with
  | nil => intro i; rfl
  | cons c t ih =>
    intro i
    have h := ih (i + 1)
    have hl := (comE_len t (i + 1)).1
    have el : (c :: t).length = t.length + 1 := rfl
    by_cases q : c = 44
    · have e : comE (c :: t) i = i :: comE t (i + 1) := if_pos q
      rw [e, show (i :: comE t (i + 1)).length - 1 = (comE t (i + 1)).length - 1 + 1 by show (comE t (i + 1)).length + 1 - 1 = _; omega]
      show (comE t (i + 1)).getD ((comE t (i + 1)).length - 1) 0 = _
      rw [h]
      omega
    · have e : comE (c :: t) i = comE t (i + 1) := if_neg q
      rw [e, h]
      omega
theorem comE_com (t : List Nat) : ∀ i k : Nat, k + 1 < (comE t i).length → i ≤ (comE t i).getD k 0 ∧ (comE t i).getD k 0 < i + t.length ∧ t.getD ((comE t i).getD k 0 - i) 0 = 44 := by
  induction t with
  | nil => intro i k h; exact absurd h (by show ¬ k + 1 < 1; omega)
  | cons c t ih =>
    intro i k h
    have el : (c :: t).length = t.length + 1 := rfl
    have up : ∀ k : Nat, k + 1 < (comE t (i + 1)).length → i ≤ (comE t (i + 1)).getD k 0 ∧ (comE t (i + 1)).getD k 0 < i + (c :: t).length ∧ (c :: t).getD ((comE t (i + 1)).getD k 0 - i) 0 = 44 := fun k hk => by
      obtain ⟨h1, h2, h3⟩ := ih (i + 1) k hk
      refine ⟨by omega, by omega, ?_⟩
      rw [show (comE t (i + 1)).getD k 0 - i = ((comE t (i + 1)).getD k 0 - (i + 1)) + 1 by omega]
      exact h3
    by_cases q : c = 44
    · have e : comE (c :: t) i = i :: comE t (i + 1) := if_pos q
      rw [e] at h ⊢
      have h : k + 1 < (comE t (i + 1)).length + 1 := h
      cases k with
      | zero =>
        refine ⟨Nat.le_refl i, (by omega : i < i + (c :: t).length), ?_⟩
        show (c :: t).getD (i - i) 0 = 44
        rw [Nat.sub_self]
        exact q
      | succ k => exact up k (by omega)
    · have e : comE (c :: t) i = comE t (i + 1) := if_neg q
      rw [e] at h ⊢
      exact up k h
def mE (es : List Nat) : Nat → Nat
  | 0 => 0
  | j + 1 => es.getD j 0
theorem mE_le {u es : List Nat} (ok : okE u es) : mE es es.length ≤ u.length := by
  have key : ∀ n : Nat, n ≤ es.length → mE es n ≤ u.length := fun n hn => by
    cases n with
    | zero => exact Nat.zero_le _
    | succ n => exact (ok n hn).2
  exact key _ (Nat.le_refl _)
theorem cut_com {u es : List Nat} (h : isCut u es) {k : Nat} (hk : k + 1 < es.length) : es.getD k 0 < u.length ∧ u.getD (es.getD k 0) 0 = 44 := by
  obtain ⟨n, hn, rfl, -⟩ := h
  rw [List.length_take] at hk
  rw [take_gd (by omega)]
  have q := comE_com u 0 k (by omega)
  rw [Nat.zero_add, Nat.sub_zero] at q
  exact q.2
theorem cut_tail {u es : List Nat} (h : isCut u es) {p : Nat} (h1 : mE es es.length ≤ p) (h2 : p < u.length) : u.getD p 0 = 44 := by
  obtain ⟨n, hn, rfl, h⟩ := h
  have hl := (comE_len u 0).1
  have he := comE_end u 0
  rw [Nat.zero_add] at he
  rw [List.length_take, Nat.min_eq_left hn] at h1
  have key : ∀ k : Nat, k + 1 < (comE u 0).length → (comE u 0).getD k 0 = p → u.getD p 0 = 44 := fun k hk e => by
    have q := (comE_com u 0 k hk).2.2
    rw [e, Nat.sub_zero] at q
    exact q
  rcases h with ⟨q1, q2⟩ | ⟨q1, q2, -⟩
  · have n1 : n = 1 := by omega
    subst n1
    have e : mE ((comE u 0).take 1) 1 = u.length := by
      show ((comE u 0).take 1).getD 0 0 = u.length
      rw [take_gd (by omega), ← he, show (comE u 0).length - 1 = 0 by omega]
    omega
  · have st : ∀ d : Nat, n + d < (comE u 0).length → (comE u 0).getD (n + d) 0 = bgE (comE u 0) n + d := by
      intro d
      induction d with
      | zero => intro hd; exact (q2 n (Nat.le_refl _) hd).symm
      | succ d ih =>
        intro hd
        have a := q2 (n + (d + 1)) (by omega) hd
        have b := ih (by omega)
        rw [← a]
        show (comE u 0).getD (n + d) 0 + 1 = _
        omega
    cases n with
    | zero =>
      have a := st ((comE u 0).length - 1) (by omega)
      rw [Nat.zero_add, he] at a
      have z : bgE (comE u 0) 0 = 0 := rfl
      have b := st p (by omega)
      rw [Nat.zero_add] at b
      exact key p (by omega) (by omega)
    | succ n =>
      have m1 : mE ((comE u 0).take (n + 1)) (n + 1) = (comE u 0).getD n 0 := take_gd (by omega)
      have z : bgE (comE u 0) (n + 1) = (comE u 0).getD n 0 + 1 := rfl
      by_cases hf : n + 1 < (comE u 0).length
      · have a := st ((comE u 0).length - 1 - (n + 1)) (by omega)
        rw [show n + 1 + ((comE u 0).length - 1 - (n + 1)) = (comE u 0).length - 1 by omega, he] at a
        by_cases hp : p = (comE u 0).getD n 0
        · exact key n hf hp.symm
        · have b := st (p - (comE u 0).getD n 0 - 1) (by omega)
          exact key _ (by omega) (b.trans (by omega))
      · have e : (comE u 0).length - 1 = n := by omega
        rw [e] at he
        omega
theorem pj_add {u es : List Nat} {j : Nat} (ok : okE u es) (h60 : u.length ≤ 60) (hj : j < es.length) : (u.take (bgE es j) ++ cutL u (bgE es j) (es.getD j 0)).take 60 = u.take (mE es (j + 1)) := by
  have h := ok j hj
  show _ = u.take (es.getD j 0)
  generalize bgE es j = x at h ⊢
  generalize es.getD j 0 = y at h ⊢
  unfold cutL
  have e2 : u.take (x + (y - x)) = u.take x ++ (u.drop x).take (y - x) := by rw [List.take_add]
  rw [show x + (y - x) = y by omega] at e2
  rw [← e2, List.take_of_length_le (by rw [List.length_take]; omega)]
theorem pj_com {u es : List Nat} {j : Nat} (h : isCut u es) (h60 : u.length ≤ 60) (h0 : 0 < j) (hj : j < es.length) : (u.take (mE es j) ++ [44]).take 60 = u.take (bgE es j) := by
  cases j with
  | zero => exact absurd h0 (Nat.lt_irrefl _)
  | succ j =>
    obtain ⟨h1, h2⟩ := cut_com h hj
    show (u.take (es.getD j 0) ++ [44]).take 60 = u.take (es.getD j 0 + 1)
    generalize es.getD j 0 = x at h1 h2 ⊢
    rw [List.getD_eq_getElem?_getD, List.getElem?_eq_getElem h1] at h2
    have h2 : u[x] = 44 := h2
    have e3 : u.take (x + 1) = u.take x ++ [44] := by
      rw [List.take_add_one, List.getElem?_eq_getElem h1, h2]
      rfl
    rw [e3]
    exact List.take_of_length_le (by rw [List.length_append, List.length_take]; show min x u.length + 1 ≤ 60; omega)
theorem stL_take {u : List Nat} {n : Nat} : stL false u (u.take n) 0 := by
  refine ⟨by rw [List.length_take]; omega, fun k hk => ?_⟩
  rw [List.length_take] at hk
  rw [Nat.zero_add, take_gd (by omega)]
theorem mX2s_isSoundPair {l : Launch} {G : Cx} {A : Nat → Prop} {a ca b cb : Nat} {t u : List Nat} : Met l yX2_isSoundPair (.code yX2_isSoundPair cX2_isSoundPair 6 (some .boolean) :: GW) rmX2_isSoundPair (PC G A [.ref a, .ref b] (fun H => LA G a ca t H ∧ LA G b cb u H)) (vp_Si (fun r => r = bI true)) 0 0 (fun _ => False) := by
  refine mstart "Signtext" (by decide +kernel) rfl (Nat.le_of_ble_eq_true rfl) ?_
  intro p e s m below meth c ls hx hb hr hts hown hml hlocks hname hC hA hW hl
  have hl : lv_has ls 6 [(0, .ref a), (1, .ref b)] := hl
  have hK := hC.1
  have hS : va_S A s.heap s.heap [] := va_S.rf
  obtain ⟨hWa, hWb⟩ := hW
  have okt := hWa.2.1
  have oku := hWb.2.1
  have t60 := hWa.1
  have u60 := hWb.1
  refine lv_aload_n hx hb dX2_isSoundPair_0 rfl (lv_at hl 0 rfl) ?_
  refine lv_aload_n hx hb dX2_isSoundPair_1 rfl (lv_at hl 1 rfl) ?_
  refine lv_iconst (v := nI 0) hx hb dX2_isSoundPair_2 (by decide) ?_
  refine kV_i (A := A) (b := a) (As := [.ref b, .int (bI false)]) (rest := []) ⟨hx, hb, hml, hown, hts⟩ (mX0_orderTo (A := A) (ca := ca) (cb := cb) (b0 := false)) (cwV 2 hts (gV tw_2_98 tw_2_99 tw_2_100 tw_1_2 tw_2_101) rfl rfl rfl (by decide +kernel) ⟨Nat.le_of_ble_eq_true rfl, Nat.le_of_ble_eq_true rfl⟩) hC hS hA (hWa.recv hK) ⟨hWa, hWb⟩ rfl rfl hl.1 (Nat.le_of_ble_eq_true rfl) ⟨Nat.zero_le _, Nat.zero_le _⟩ dX2_isSoundPair_3 (fun r_1 hr_1 => ?_)
  have ho1 : ordR false t u r_1 := hr_1
  refine lv_istore_n (lv' := [(2, .int r_1), (0, .ref a), (1, .ref b)]) hx hb dX2_isSoundPair_6 rfl hl (by decide) rfl (fun ls hl => ?_)
  refine lv_aload_n hx hb dX2_isSoundPair_7 rfl (lv_at hl 1 rfl) ?_
  refine lv_aload_n hx hb dX2_isSoundPair_8 rfl (lv_at hl 2 rfl) ?_
  refine lv_iconst (v := nI 0) hx hb dX2_isSoundPair_9 (by decide) ?_
  refine kV_i (A := A) (b := a) (As := [.ref b, .int (bI false)]) (rest := []) ⟨hx, hb, hml, hown, hts⟩ (mX0_isSameAs (A := A) (ca := ca) (cb := cb) (b0 := false)) (cwV 2 hts (gV tw_2_7 tw_2_8 tw_2_9 tw_1_2 tw_2_10) rfl rfl rfl (by decide +kernel) ⟨Nat.le_of_ble_eq_true rfl, Nat.le_of_ble_eq_true rfl⟩) hC hS hA (hWa.recv hK) ⟨hWa, hWb⟩ rfl rfl hl.1 (Nat.le_of_ble_eq_true rfl) ⟨Nat.zero_le _, Nat.zero_le _⟩ dX2_isSoundPair_10 (fun r_2 hr_2 => ?_)
  obtain ⟨r_2v, hv, rfl⟩ := hr_2
  refine lv_istore_n (lv' := [(3, .int (bI r_2v)), (2, .int r_1), (0, .ref a), (1, .ref b)]) hx hb dX2_isSoundPair_13 rfl hl (by decide) rfl (fun ls hl => ?_)
  refine lv_aload_n hx hb dX2_isSoundPair_14 rfl (lv_at hl 2 rfl) ?_
  refine lv_aload_n hx hb dX2_isSoundPair_15 rfl (lv_at hl 3 rfl) ?_
  refine kV_i (A := A) (b := a) (As := [.ref b]) (rest := []) ⟨hx, hb, hml, hown, hts⟩ (mX0_firstPlaceOf (A := A) (ca := ca) (cb := cb)) (cwV 1 hts (gV tw_2_102 tw_2_103 tw_2_104 tw_1_2 tw_2_105) rfl rfl rfl (by decide +kernel) ⟨Nat.le_of_ble_eq_true rfl, Nat.le_of_ble_eq_true rfl⟩) hC hS hA (hWa.recv hK) ⟨hWa, hWb⟩ rfl rfl hl.1 (Nat.le_of_ble_eq_true rfl) ⟨Nat.zero_le _, Nat.zero_le _⟩ dX2_isSoundPair_16 (fun r_3 hr_3 => ?_)
  have hfi : fstR (fun k9 => stL false t u k9) r_3 := hr_3
  refine lv_istore (lv' := [(4, .int r_3), (3, .int (bI r_2v)), (2, .int r_1), (0, .ref a), (1, .ref b)]) hx hb dX2_isSoundPair_19 hl (by decide) rfl (fun ls hl => ?_)
  refine lv_aload_n hx hb dX2_isSoundPair_21 rfl (lv_at hl 3 rfl) ?_
  refine lv_aload_n hx hb dX2_isSoundPair_22 rfl (lv_at hl 4 rfl) ?_
  refine kV_i (A := A) (b := a) (As := [.ref b]) (rest := []) ⟨hx, hb, hml, hown, hts⟩ (mX0_lastPlaceOf (A := A) (ca := ca) (cb := cb)) (cwV 1 hts (gV tw_2_106 tw_2_107 tw_2_108 tw_1_2 tw_2_109) rfl rfl rfl (by decide +kernel) ⟨Nat.le_of_ble_eq_true rfl, Nat.le_of_ble_eq_true rfl⟩) hC hS hA (hWa.recv hK) ⟨hWa, hWb⟩ rfl rfl hl.1 (Nat.le_of_ble_eq_true rfl) ⟨Nat.zero_le _, Nat.zero_le _⟩ dX2_isSoundPair_23 (fun r_4 hr_4 => ?_)
  have hla : lstR (fun k9 => stL false t u k9) r_4 := hr_4
  refine lv_istore (lv' := [(5, .int r_4), (4, .int r_3), (3, .int (bI r_2v)), (2, .int r_1), (0, .ref a), (1, .ref b)]) hx hb dX2_isSoundPair_26 hl (by decide) rfl (fun ls hl => ?_)
  have hz1 := ordR_zero okt oku (by omega) (by omega) ho1
  have hbd : ∀ k9 : Nat, stL false t u k9 → k9 < 2 ^ 31 := fun k9 q => by have := q.1; omega
  refine lv_iload_n hx hb dX2_isSoundPair_28 rfl (lv_at hl 2 rfl) ?_
  refine lv_iload_n hx hb dX2_isSoundPair_29 rfl (lv_at hl 3 rfl) ?_
  refine lv_if_ne (tgt := 37) hx hb dX2_isSoundPair_30 (by decide) (fun c_5 => ?_) (fun c_5 => ?_)
  · have hvv : r_2v = false := by cases e9 : r_2v; rfl; exact absurd (hz1.mpr (hv.mp e9)) c_5
    subst hvv
    refine lv_iconst (v := nI 0) hx hb dX2_isSoundPair_37 (by decide) ?_
    refine lv_icmp_ne (tgt := 97) hx hb dX2_isSoundPair_38 (by decide) (fun c_6 => ?_) (fun c_6 => ?_)
    · exact absurd rfl c_6
    · refine lv_iload_n hx hb dX2_isSoundPair_41 rfl (lv_at hl 3 rfl) ?_
      refine lv_aload_n hx hb dX2_isSoundPair_42 rfl (lv_at hl 5 rfl) ?_
      refine lv_aload_n hx hb dX2_isSoundPair_43 rfl (lv_at hl 4 rfl) ?_
      refine lv_iconst (v := nI 0) hx hb dX2_isSoundPair_44 (by decide) ?_
      refine kV_i (A := A) (b := b) (As := [.ref a, .int (bI false)]) (rest := .int r_1 :: []) ⟨hx, hb, hml, hown, hts⟩ (mX0_orderTo (A := A) (ca := cb) (cb := ca) (b0 := false)) (cwV 2 hts (gV tw_2_98 tw_2_99 tw_2_100 tw_1_2 tw_2_101) rfl rfl rfl (by decide +kernel) ⟨Nat.le_of_ble_eq_true rfl, Nat.le_of_ble_eq_true rfl⟩) hC hS hA (hWb.recv hK) ⟨hWb, hWa⟩ rfl rfl hl.1 (Nat.le_of_ble_eq_true rfl) ⟨Nat.zero_le _, Nat.zero_le _⟩ dX2_isSoundPair_45 (fun r_7 hr_7 => ?_)
      have ho2 : ordR false u t r_7 := hr_7
      refine lv_ineg hx hb dX2_isSoundPair_48 ?_
      refine lv_icmp_ne (tgt := 97) hx hb dX2_isSoundPair_49 (by decide) (fun c_8 => ?_) (fun c_8 => ?_)
      · exact absurd (ordR_neg okt oku ho1 ho2) c_8
      · refine lv_iload_n hx hb dX2_isSoundPair_52 rfl (lv_at hl 2 rfl) ?_
        refine f_eq (tgt := 67) hx hb dX2_isSoundPair_53 (by decide) (fun c_9 => ?_) (fun c_9 => ?_)
        · refine lv_aload_n hx hb dX2_isSoundPair_67 rfl (lv_at hl 4 rfl) ?_
          refine lv_aload_n hx hb dX2_isSoundPair_68 rfl (lv_at hl 5 rfl) ?_
          refine kV_i (A := A) (b := a) (As := [.ref b]) (rest := []) ⟨hx, hb, hml, hown, hts⟩ (mX0_holds (A := A) (ca := ca) (cb := cb)) (cwV 1 hts (gV tw_2_114 tw_2_115 tw_2_116 tw_1_2 tw_2_117) rfl rfl rfl (by decide +kernel) ⟨Nat.le_of_ble_eq_true rfl, Nat.le_of_ble_eq_true rfl⟩) hC hS hA (hWa.recv hK) ⟨hWa, hWb⟩ rfl rfl hl.1 (Nat.le_of_ble_eq_true rfl) ⟨Nat.zero_le _, Nat.zero_le _⟩ dX2_isSoundPair_69 (fun r_10 hr_10 => ?_)
          obtain ⟨r_10v, hw, rfl⟩ := hr_10
          refine lv_iload hx hb dX2_isSoundPair_72 (lv_at hl 1 rfl) ?_
          refine lv_iconst (v := (-1)) hx hb dX2_isSoundPair_74 (by decide) ?_
          refine lv_icmp_eq (tgt := 82) hx hb dX2_isSoundPair_75 (by decide) (fun c_11 => ?_) (fun c_11 => ?_)
          · have hc9 : r_3 < 0 := by rw [c_11]; decide
            have hww : r_10v = false := by cases e9 : r_10v; rfl; obtain ⟨k9, hk9⟩ := hw.mp e9; exact absurd hc9 (fstR_pos hfi hbd hk9)
            subst hww
            refine lv_iconst (v := nI 0) hx hb dX2_isSoundPair_82 (by decide) ?_
            refine lv_icmp_ne (tgt := 97) hx hb dX2_isSoundPair_83 (by decide) (fun c_12 => ?_) (fun c_12 => ?_)
            · exact absurd rfl c_12
            · refine lv_iload hx hb dX2_isSoundPair_86 (lv_at hl 0 rfl) ?_
              refine lv_iload hx hb dX2_isSoundPair_88 (lv_at hl 1 rfl) ?_
              refine lv_icmp_lt (tgt := 97) hx hb dX2_isSoundPair_90 (by decide) (fun c_13 => ?_) (fun c_13 => ?_)
              · exact absurd (fst_le_lst hfi hla hbd) (Int32.not_le.mpr c_13)
              · refine lv_iconst (v := nI 1) hx hb dX2_isSoundPair_93 (by decide) ?_
                refine lv_goto (tgt := 98) hx hb dX2_isSoundPair_94 (by decide) ?_
                exact p_z (b := true) hx hb hr hlocks dX2_isSoundPair_98 rfl
          · have hww : r_10v = true := hw.mpr (by rcases hfi with ⟨k9, h9, -⟩ | ⟨-, h9⟩; exact ⟨k9, h9⟩; exact absurd h9 c_11)
            subst hww
            refine lv_iconst (v := nI 1) hx hb dX2_isSoundPair_78 (by decide) ?_
            refine lv_goto (tgt := 83) hx hb dX2_isSoundPair_79 (by decide) ?_
            refine lv_icmp_ne (tgt := 97) hx hb dX2_isSoundPair_83 (by decide) (fun c_14 => ?_) (fun c_14 => ?_)
            · exact absurd rfl c_14
            · refine lv_iload hx hb dX2_isSoundPair_86 (lv_at hl 0 rfl) ?_
              refine lv_iload hx hb dX2_isSoundPair_88 (lv_at hl 1 rfl) ?_
              refine lv_icmp_lt (tgt := 97) hx hb dX2_isSoundPair_90 (by decide) (fun c_15 => ?_) (fun c_15 => ?_)
              · exact absurd (fst_le_lst hfi hla hbd) (Int32.not_le.mpr c_15)
              · refine lv_iconst (v := nI 1) hx hb dX2_isSoundPair_93 (by decide) ?_
                refine lv_goto (tgt := 98) hx hb dX2_isSoundPair_94 (by decide) ?_
                exact p_z (b := true) hx hb hr hlocks dX2_isSoundPair_98 rfl
        · exact absurd c_9 (by decide)
  · have hq9 := hz1.mp c_5
    have htu : t = u := stL_eq hq9.1 hq9.2
    have hvv : r_2v = true := hv.mpr hq9
    subst hvv
    refine lv_iconst (v := nI 1) hx hb dX2_isSoundPair_33 (by decide) ?_
    refine lv_goto (tgt := 38) hx hb dX2_isSoundPair_34 (by decide) ?_
    refine lv_icmp_ne (tgt := 97) hx hb dX2_isSoundPair_38 (by decide) (fun c_16 => ?_) (fun c_16 => ?_)
    · exact absurd rfl c_16
    · refine lv_iload_n hx hb dX2_isSoundPair_41 rfl (lv_at hl 3 rfl) ?_
      refine lv_aload_n hx hb dX2_isSoundPair_42 rfl (lv_at hl 5 rfl) ?_
      refine lv_aload_n hx hb dX2_isSoundPair_43 rfl (lv_at hl 4 rfl) ?_
      refine lv_iconst (v := nI 0) hx hb dX2_isSoundPair_44 (by decide) ?_
      refine kV_i (A := A) (b := b) (As := [.ref a, .int (bI false)]) (rest := .int r_1 :: []) ⟨hx, hb, hml, hown, hts⟩ (mX0_orderTo (A := A) (ca := cb) (cb := ca) (b0 := false)) (cwV 2 hts (gV tw_2_98 tw_2_99 tw_2_100 tw_1_2 tw_2_101) rfl rfl rfl (by decide +kernel) ⟨Nat.le_of_ble_eq_true rfl, Nat.le_of_ble_eq_true rfl⟩) hC hS hA (hWb.recv hK) ⟨hWb, hWa⟩ rfl rfl hl.1 (Nat.le_of_ble_eq_true rfl) ⟨Nat.zero_le _, Nat.zero_le _⟩ dX2_isSoundPair_45 (fun r_17 hr_17 => ?_)
      have ho2 : ordR false u t r_17 := hr_17
      refine lv_ineg hx hb dX2_isSoundPair_48 ?_
      refine lv_icmp_ne (tgt := 97) hx hb dX2_isSoundPair_49 (by decide) (fun c_18 => ?_) (fun c_18 => ?_)
      · exact absurd (ordR_neg okt oku ho1 ho2) c_18
      · refine lv_iload_n hx hb dX2_isSoundPair_52 rfl (lv_at hl 2 rfl) ?_
        refine f_eq (tgt := 67) hx hb dX2_isSoundPair_53 (by decide) (fun c_19 => ?_) (fun c_19 => ?_)
        · exact absurd c_19 (by decide)
        · refine lv_aload_n hx hb dX2_isSoundPair_56 rfl (lv_at hl 4 rfl) ?_
          refine kV_i (A := A) (b := a) (As := []) (rest := []) ⟨hx, hb, hml, hown, hts⟩ (mX0_hashOfSigns (A := A) (ca := ca)) (cwV 0 hts (gV tw_2_110 tw_2_111 tw_2_112 tw_1_2 tw_2_113) rfl rfl rfl (by decide +kernel) ⟨Nat.le_of_ble_eq_true rfl, Nat.le_of_ble_eq_true rfl⟩) hC hS hA (hWa.recv hK) hWa rfl rfl hl.1 (Nat.le_of_ble_eq_true rfl) ⟨Nat.zero_le _, Nat.zero_le _⟩ dX2_isSoundPair_57 (fun r9 h9 => lv_cv h9 ?_)
          refine lv_aload_n hx hb dX2_isSoundPair_60 rfl (lv_at hl 5 rfl) ?_
          refine kV_i (A := A) (b := b) (As := []) (rest := .int (hashL t) :: []) ⟨hx, hb, hml, hown, hts⟩ (mX0_hashOfSigns (A := A) (ca := cb)) (cwV 0 hts (gV tw_2_110 tw_2_111 tw_2_112 tw_1_2 tw_2_113) rfl rfl rfl (by decide +kernel) ⟨Nat.le_of_ble_eq_true rfl, Nat.le_of_ble_eq_true rfl⟩) hC hS hA (hWb.recv hK) hWb rfl rfl hl.1 (Nat.le_of_ble_eq_true rfl) ⟨Nat.zero_le _, Nat.zero_le _⟩ dX2_isSoundPair_61 (fun r9 h9 => lv_cv h9 ?_)
          refine lv_icmp_ne (tgt := 97) hx hb dX2_isSoundPair_64 (by decide) (fun c_20 => ?_) (fun c_20 => ?_)
          · exact absurd (by rw [htu]) c_20
          · refine lv_aload_n hx hb dX2_isSoundPair_67 rfl (lv_at hl 4 rfl) ?_
            refine lv_aload_n hx hb dX2_isSoundPair_68 rfl (lv_at hl 5 rfl) ?_
            refine kV_i (A := A) (b := a) (As := [.ref b]) (rest := []) ⟨hx, hb, hml, hown, hts⟩ (mX0_holds (A := A) (ca := ca) (cb := cb)) (cwV 1 hts (gV tw_2_114 tw_2_115 tw_2_116 tw_1_2 tw_2_117) rfl rfl rfl (by decide +kernel) ⟨Nat.le_of_ble_eq_true rfl, Nat.le_of_ble_eq_true rfl⟩) hC hS hA (hWa.recv hK) ⟨hWa, hWb⟩ rfl rfl hl.1 (Nat.le_of_ble_eq_true rfl) ⟨Nat.zero_le _, Nat.zero_le _⟩ dX2_isSoundPair_69 (fun r_21 hr_21 => ?_)
            obtain ⟨r_21v, hw, rfl⟩ := hr_21
            refine lv_iload hx hb dX2_isSoundPair_72 (lv_at hl 1 rfl) ?_
            refine lv_iconst (v := (-1)) hx hb dX2_isSoundPair_74 (by decide) ?_
            refine lv_icmp_eq (tgt := 82) hx hb dX2_isSoundPair_75 (by decide) (fun c_22 => ?_) (fun c_22 => ?_)
            · have hc9 : r_3 < 0 := by rw [c_22]; decide
              have hww : r_21v = false := by cases e9 : r_21v; rfl; obtain ⟨k9, hk9⟩ := hw.mp e9; exact absurd hc9 (fstR_pos hfi hbd hk9)
              subst hww
              refine lv_iconst (v := nI 0) hx hb dX2_isSoundPair_82 (by decide) ?_
              refine lv_icmp_ne (tgt := 97) hx hb dX2_isSoundPair_83 (by decide) (fun c_23 => ?_) (fun c_23 => ?_)
              · exact absurd rfl c_23
              · refine lv_iload hx hb dX2_isSoundPair_86 (lv_at hl 0 rfl) ?_
                refine lv_iload hx hb dX2_isSoundPair_88 (lv_at hl 1 rfl) ?_
                refine lv_icmp_lt (tgt := 97) hx hb dX2_isSoundPair_90 (by decide) (fun c_24 => ?_) (fun c_24 => ?_)
                · exact absurd (fst_le_lst hfi hla hbd) (Int32.not_le.mpr c_24)
                · refine lv_iconst (v := nI 1) hx hb dX2_isSoundPair_93 (by decide) ?_
                  refine lv_goto (tgt := 98) hx hb dX2_isSoundPair_94 (by decide) ?_
                  exact p_z (b := true) hx hb hr hlocks dX2_isSoundPair_98 rfl
            · have hww : r_21v = true := hw.mpr (by rcases hfi with ⟨k9, h9, -⟩ | ⟨-, h9⟩; exact ⟨k9, h9⟩; exact absurd h9 c_22)
              subst hww
              refine lv_iconst (v := nI 1) hx hb dX2_isSoundPair_78 (by decide) ?_
              refine lv_goto (tgt := 83) hx hb dX2_isSoundPair_79 (by decide) ?_
              refine lv_icmp_ne (tgt := 97) hx hb dX2_isSoundPair_83 (by decide) (fun c_25 => ?_) (fun c_25 => ?_)
              · exact absurd rfl c_25
              · refine lv_iload hx hb dX2_isSoundPair_86 (lv_at hl 0 rfl) ?_
                refine lv_iload hx hb dX2_isSoundPair_88 (lv_at hl 1 rfl) ?_
                refine lv_icmp_lt (tgt := 97) hx hb dX2_isSoundPair_90 (by decide) (fun c_26 => ?_) (fun c_26 => ?_)
                · exact absurd (fst_le_lst hfi hla hbd) (Int32.not_le.mpr c_26)
                · refine lv_iconst (v := nI 1) hx hb dX2_isSoundPair_93 (by decide) ?_
                  refine lv_goto (tgt := 98) hx hb dX2_isSoundPair_94 (by decide) ?_
                  exact p_z (b := true) hx hb hr hlocks dX2_isSoundPair_98 rfl

theorem mX2s_isSameTakenAgain {l : Launch} {G : Cx} {A : Nat → Prop} {SA : Nat → Nat} {X : Nat → List Nat} {es : List Nat} {k : Int32} {i : Nat} (hi : i < 4) (hAS : ∀ i : Nat, i < 39 → A (SA i)) : Met l yX2_isSameTakenAgain (.code yX2_isSameTakenAgain cX2_isSameTakenAgain 2 (some .boolean) :: GW) rmX2_isSameTakenAgain (PC G A [.ref (SA 0), .ref (SA (7 + 2 * i))] (SS G SA X es k)) (qI A (fun r H => r = bI true ∧ SS G SA X es k H)) 0 0 (A) := by
  refine mstart "Signtext" (by decide +kernel) rfl (Nat.le_of_ble_eq_true rfl) ?_
  intro p e s m below meth c ls hx hb hr hts hown hml hlocks hname hC hA hW hl
  have hl : lv_has ls 2 [(0, .ref (SA 0)), (1, .ref (SA (7 + 2 * i)))] := hl
  have hK := hC.1
  have hS : va_S A s.heap s.heap [] := va_S.rf
  obtain ⟨T, es2, hW, hF⟩ := hW
  have hO := hW.2.1
  have hR1 := hW.2.2.1
  have hR2 := hW.2.2.2.1
  refine lv_aload_n hx hb dX2_isSameTakenAgain_0 rfl (lv_at hl 0 rfl) ?_
  refine va_get (D := G.1) (ci := 6) (C := RX2) (T := TX2) (N := 8) hx hb hts inX2 hown hK (at_P hO) 0 rfl rfl 5 (by decide) (hts _ tw_1_142) (fun _ h9 => h9) rfl dX2_isSameTakenAgain_1 ?_
  refine lv_aload_n hx hb dX2_isSameTakenAgain_4 rfl (lv_at hl 1 rfl) ?_
  refine qV_V (A := A) (A1 := ow (SA (7 + 2 * 12)) (SA (8 + 2 * 12)) s.heap.size) (b := (SA 31)) (As := [.ref (SA (7 + 2 * i))]) (rest := []) ⟨hx, hb, hml, hown, hts⟩ (mX0_become (A := ow (SA (7 + 2 * 12)) (SA (8 + 2 * 12)) s.heap.size) (ca := SA (8 + 2 * 12)) (cb := SA (8 + 2 * i)) (t := T 12) (u := T i) (Or.inl rfl) (Or.inr (Or.inl rfl)) ⟨hW.ne (i := 7 + 2 * i) (j := 7 + 2 * 12) (by omega) (by omega) (by omega), hW.ne (i := 7 + 2 * i) (j := 8 + 2 * 12) (by omega) (by omega) (by omega), hW.ne (i := 8 + 2 * i) (j := 7 + 2 * 12) (by omega) (by omega) (by omega), hW.ne (i := 8 + 2 * i) (j := 8 + 2 * 12) (by omega) (by omega) (by omega)⟩) (cwV 1 hts (gV tw_2_3 tw_2_4 tw_2_5 tw_1_2 tw_2_6) rfl rfl rfl (by decide +kernel) ⟨Nat.le_of_ble_eq_true rfl, Nat.le_of_ble_eq_true rfl⟩) hC hS (ow_in (hAS _ (by omega)) (hAS _ (by omega)) hA (Nat.le_refl _)) ow_n ((hW.line (i := 12) (by omega)).recv hK) ⟨(hW.line (i := 12) (by omega)), (hW.line (i := i) (by omega))⟩ rfl rfl hl.1 (Nat.le_of_ble_eq_true rfl) ⟨Nat.zero_le _, Nat.zero_le _⟩ dX2_isSameTakenAgain_5 (fun H27 L27 hP27 hk27 hS => ?_)
  have hZ27 := hS.1
  have hW := hW.put (q := 12) (t := T i) (by omega) hk27 hP27.1
  have hO := hW.2.1
  have hR1 := hW.2.2.1
  have hR2 := hW.2.2.2.1
  refine lv_aload_n hx hb dX2_isSameTakenAgain_8 rfl (lv_at hl 0 rfl) ?_
  refine va_get (D := G.1) (ci := 6) (C := RX2) (T := TX2) (N := 8) hx hb hts inX2 hown hK (at_P hO) 0 rfl rfl 6 (by decide) (hts _ tw_1_143) (fun _ h9 => h9) rfl dX2_isSameTakenAgain_9 ?_
  refine lv_aload_n hx hb dX2_isSameTakenAgain_12 rfl (lv_at hl 0 rfl) ?_
  refine va_get (D := G.1) (ci := 6) (C := RX2) (T := TX2) (N := 8) hx hb hts inX2 hown hK (at_P hO) 0 rfl rfl 5 (by decide) (hts _ tw_1_142) (fun _ h9 => h9) rfl dX2_isSameTakenAgain_13 ?_
  refine qV_V (A := A) (A1 := ow (SA (7 + 2 * 13)) (SA (8 + 2 * 13)) H27.size) (b := (SA 33)) (As := [.ref (SA 31)]) (rest := []) ⟨hx, hb, hml, hown, hts⟩ (mX0_become (A := ow (SA (7 + 2 * 13)) (SA (8 + 2 * 13)) H27.size) (ca := SA (8 + 2 * 13)) (cb := SA (8 + 2 * 12)) (t := _) (u := (updT T 12 (T i) 12)) (Or.inl rfl) (Or.inr (Or.inl rfl)) ⟨hW.ne (i := 7 + 2 * 12) (j := 7 + 2 * 13) (by omega) (by omega) (by omega), hW.ne (i := 7 + 2 * 12) (j := 8 + 2 * 13) (by omega) (by omega) (by omega), hW.ne (i := 8 + 2 * 12) (j := 7 + 2 * 13) (by omega) (by omega) (by omega), hW.ne (i := 8 + 2 * 12) (j := 8 + 2 * 13) (by omega) (by omega) (by omega)⟩) (cwV 1 hts (gV tw_2_3 tw_2_4 tw_2_5 tw_1_2 tw_2_6) rfl rfl rfl (by decide +kernel) ⟨Nat.le_of_ble_eq_true rfl, Nat.le_of_ble_eq_true rfl⟩) hC hS (ow_in (hAS _ (by omega)) (hAS _ (by omega)) hA hS.1) ow_n ((hW.line (i := 13) (by omega)).recv hK) ⟨(hW.line (i := 13) (by omega)), (hW.line (i := 12) (by omega))⟩ rfl rfl hl.1 (Nat.le_of_ble_eq_true rfl) ⟨Nat.zero_le _, Nat.zero_le _⟩ dX2_isSameTakenAgain_16 (fun H28 L28 hP28 hk28 hS => ?_)
  have hZ28 := hS.1
  have hW := hW.put (q := 13) (t := (updT T 12 (T i) 12)) (by omega) hk28 hP28.1
  have hO := hW.2.1
  have hR1 := hW.2.2.1
  have hR2 := hW.2.2.2.1
  refine lv_aload_n hx hb dX2_isSameTakenAgain_19 rfl (lv_at hl 0 rfl) ?_
  refine va_get (D := G.1) (ci := 6) (C := RX2) (T := TX2) (N := 8) hx hb hts inX2 hown hK (at_P hO) 0 rfl rfl 6 (by decide) (hts _ tw_1_143) (fun _ h9 => h9) rfl dX2_isSameTakenAgain_20 ?_
  refine lv_aload_n hx hb dX2_isSameTakenAgain_23 rfl (lv_at hl 1 rfl) ?_
  refine lv_iconst (v := nI 0) hx hb dX2_isSameTakenAgain_24 (by decide) ?_
  refine kV_i (A := A) (b := (SA 33)) (As := [.ref (SA (7 + 2 * i)), .int (bI false)]) (rest := []) ⟨hx, hb, hml, hown, hts⟩ (mX0_isSameAs (A := A) (ca := SA (8 + 2 * 13)) (cb := SA (8 + 2 * i)) (b0 := false)) (cwV 2 hts (gV tw_2_7 tw_2_8 tw_2_9 tw_1_2 tw_2_10) rfl rfl rfl (by decide +kernel) ⟨Nat.le_of_ble_eq_true rfl, Nat.le_of_ble_eq_true rfl⟩) hC hS hA ((hW.line (i := 13) (by omega)).recv hK) ⟨(hW.line (i := 13) (by omega)), (hW.line (i := i) (by omega))⟩ rfl rfl hl.1 (Nat.le_of_ble_eq_true rfl) ⟨Nat.zero_le _, Nat.zero_le _⟩ dX2_isSameTakenAgain_25 (fun r_29 hr_29 => ?_)
  obtain ⟨r_29v, hv9, rfl⟩ := hr_29
  obtain rfl : r_29v = true := same_v hv9 (by rw [updT_s, updT_s, updT_n (by omega), updT_n (by omega)])
  exact q_z (b9 := true) hx hb hr hlocks dX2_isSameTakenAgain_28 hS (Nat.le_refl _) (Nat.le_refl _) ⟨rfl, _, _, hW, (FR.s13 (FR.s12 hF))⟩

theorem mX2s_isSameInTwoParts {l : Launch} {G : Cx} {A : Nat → Prop} {SA : Nat → Nat} {X : Nat → List Nat} {es : List Nat} {k : Int32} {i : Nat} (hi : i < 4) (hAS : ∀ i : Nat, i < 39 → A (SA i)) : Met l yX2_isSameInTwoParts (.code yX2_isSameInTwoParts cX2_isSameInTwoParts 3 (some .boolean) :: GW) rmX2_isSameInTwoParts (PC G A [.ref (SA 0), .ref (SA (7 + 2 * i))] (SS G SA X es k)) (qI A (fun r H => r = bI true ∧ SS G SA X es k H)) 0 0 (A) := by
  refine mstart "Signtext" (by decide +kernel) rfl (Nat.le_of_ble_eq_true rfl) ?_
  intro p e s m below meth c ls hx hb hr hts hown hml hlocks hname hC hA hW hl
  have hl : lv_has ls 3 [(0, .ref (SA 0)), (1, .ref (SA (7 + 2 * i)))] := hl
  have hK := hC.1
  have hS : va_S A s.heap s.heap [] := va_S.rf
  obtain ⟨T, es2, hW, hF⟩ := hW
  have hO := hW.2.1
  have hR1 := hW.2.2.1
  have hR2 := hW.2.2.2.1
  have i60 := (hW.line (i := i) (by omega)).1
  generalize hTi : T i = ti at i60
  refine lv_iconst (v := nI 0) hx hb dX2_isSameInTwoParts_0 (by decide) ?_
  refine lv_istore_n (lv' := [(2, .int (nI 0)), (0, .ref (SA 0)), (1, .ref (SA (7 + 2 * i)))]) hx hb dX2_isSameInTwoParts_1 rfl hl (by decide) rfl (fun ls hl => ?_)
  refine nloop (P := fun j => ∀ (ls : Array Slot) (H : Heap) (L : List Loc) (T : Nat → List Nat) (es2 : List Nat), lv_has ls 3 [(2, .int (nI j)), (0, .ref (SA 0)), (1, .ref (SA (7 + 2 * i)))] → va_S A s.heap H L → SW G SA T es es2 k H → (∀ i : Nat, i < 4 ∨ i = 11 ∨ i = 14 → T i = X i) → T i = ti → W p l e rmX2_isSameInTwoParts s m [.ref (SA 0), .ref (SA (7 + 2 * i))].toArray below meth c H L 0 0 (MQ below (qI A (fun r H => r = bI true ∧ SS G SA X es k H)) [.ref (SA 0), .ref (SA (7 + 2 * i))].toArray s 0 0 (A)) (F0 m 2 ls [])) 61 ?_ 0 (Nat.zero_le _) ls s.heap [] T es2 hl hS hW hF hTi
  clear hl
  intro j hj ih ls H L T es2 hl
  clear hS hW hF hTi hO hR1 hR2
  intro hS hW hF hTi
  have hO := hW.2.1
  have hR1 := hW.2.2.1
  have hR2 := hW.2.2.2.1
  refine lv_iload_n hx hb dX2_isSameInTwoParts_2 rfl (lv_at hl 0 rfl) ?_
  refine lv_aload_n hx hb dX2_isSameInTwoParts_3 rfl (lv_at hl 2 rfl) ?_
  refine kV_i (A := A) (b := (SA (7 + 2 * i))) (As := []) (rest := .int (nI j) :: []) ⟨hx, hb, hml, hown, hts⟩ (mX0_size (A := A) (ca := SA (8 + 2 * i))) (cwV 0 hts (gV tw_2_30 tw_2_12 tw_2_13 tw_1_2 tw_2_14) rfl rfl rfl (by decide +kernel) ⟨Nat.le_of_ble_eq_true rfl, Nat.le_of_ble_eq_true rfl⟩) hC hS hA ((hW.line (i := i) (by omega)).recv hK) (hW.line (i := i) (by omega)) rfl rfl hl.1 (Nat.le_of_ble_eq_true rfl) ⟨Nat.zero_le _, Nat.zero_le _⟩ dX2_isSameInTwoParts_4 (fun r9 h9 => lv_cv h9 ?_)
  rw [hTi]
  refine b_gt (tgt := 60) hx hb dX2_isSameInTwoParts_7 (by decide) (by omega) (by omega) (fun c_30 => ?_) (fun c_30 => ?_)
  · refine lv_iconst (v := nI 1) hx hb dX2_isSameInTwoParts_60 (by decide) ?_
    exact q_z (b9 := true) hx hb hr hlocks dX2_isSameInTwoParts_61 hS (Nat.le_refl _) (Nat.le_refl _) ⟨rfl, _, _, hW, hF⟩
  · refine lv_aload_n hx hb dX2_isSameInTwoParts_10 rfl (lv_at hl 1 rfl) ?_
    refine va_get (D := G.1) (ci := 6) (C := RX2) (T := TX2) (N := 8) hx hb hts inX2 hown hK (at_P hO) 0 rfl rfl 6 (by decide) (hts _ tw_1_143) (fun _ h9 => h9) rfl dX2_isSameInTwoParts_11 ?_
    refine qV_V (A := A) (A1 := ow (SA (7 + 2 * 13)) (SA (8 + 2 * 13)) H.size) (b := (SA 33)) (As := []) (rest := []) ⟨hx, hb, hml, hown, hts⟩ (mX0_empty (A := ow (SA (7 + 2 * 13)) (SA (8 + 2 * 13)) H.size) (ca := SA (8 + 2 * 13)) (hAa := Or.inl rfl)) (cwV 0 hts (gV tw_2_31 tw_2_32 tw_2_33 tw_1_2 tw_2_34) rfl rfl rfl (by decide +kernel) ⟨Nat.le_of_ble_eq_true rfl, Nat.le_of_ble_eq_true rfl⟩) hC hS (ow_in (hAS _ (by omega)) (hAS _ (by omega)) hA hS.1) ow_n ((hW.line (i := 13) (by omega)).recv hK) (hW.line (i := 13) (by omega)) rfl rfl hl.1 (Nat.le_of_ble_eq_true rfl) ⟨Nat.zero_le _, Nat.zero_le _⟩ dX2_isSameInTwoParts_14 (fun H31 L31 hP31 hk31 hS => ?_)
    have hZ31 := hS.1
    have hW := hW.put (q := 13) (t := []) (by omega) hk31 hP31
    have hO := hW.2.1
    have hR1 := hW.2.2.1
    have hR2 := hW.2.2.2.1
    refine lv_aload_n hx hb dX2_isSameInTwoParts_17 rfl (lv_at hl 1 rfl) ?_
    refine va_get (D := G.1) (ci := 6) (C := RX2) (T := TX2) (N := 8) hx hb hts inX2 hown hK (at_P hO) 0 rfl rfl 6 (by decide) (hts _ tw_1_143) (fun _ h9 => h9) rfl dX2_isSameInTwoParts_18 ?_
    refine lv_aload_n hx hb dX2_isSameInTwoParts_21 rfl (lv_at hl 2 rfl) ?_
    refine lv_iconst (v := nI 0) hx hb dX2_isSameInTwoParts_22 (by decide) ?_
    refine lv_iload_n hx hb dX2_isSameInTwoParts_23 rfl (lv_at hl 0 rfl) ?_
    have e1 : updT T 13 [] i = ti := (updT_n (by omega)).trans hTi
    have hLi := hW.line (i := i) (by omega)
    rw [e1] at hLi
    have hL13 := hW.line (i := 13) (by omega)
    rw [updT_s] at hL13
    refine qV_V (A := A) (A1 := ow (SA (7 + 2 * 13)) (SA (8 + 2 * 13)) H31.size) (b := (SA 33)) (As := [.ref (SA (7 + 2 * i)), .int (nI 0), .int (nI j)]) (rest := []) ⟨hx, hb, hml, hown, hts⟩ (mX0_addPart (A := ow (SA (7 + 2 * 13)) (SA (8 + 2 * 13)) H31.size) (ca := SA (8 + 2 * 13)) (cb := SA (8 + 2 * i)) (t := []) (u := ti) (i := 0) (i2 := j) (Or.inl rfl) (Or.inr (Or.inl rfl)) ⟨hW.ne (i := 7 + 2 * i) (j := 7 + 2 * 13) (by omega) (by omega) (by omega), hW.ne (i := 7 + 2 * i) (j := 8 + 2 * 13) (by omega) (by omega) (by omega), hW.ne (i := 8 + 2 * i) (j := 7 + 2 * 13) (by omega) (by omega) (by omega), hW.ne (i := 8 + 2 * i) (j := 8 + 2 * 13) (by omega) (by omega) (by omega)⟩ (Nat.zero_le _) c_30) (cwV 3 hts (gV tw_2_35 tw_2_36 tw_2_37 tw_1_2 tw_2_38) rfl rfl rfl (by decide +kernel) ⟨Nat.le_of_ble_eq_true rfl, Nat.le_of_ble_eq_true rfl⟩) hC hS (ow_in (hAS _ (by omega)) (hAS _ (by omega)) hA hS.1) ow_n ((hW.line (i := 13) (by omega)).recv hK) ⟨hL13, hLi⟩ rfl rfl hl.1 (Nat.le_of_ble_eq_true rfl) ⟨Nat.zero_le _, Nat.zero_le _⟩ dX2_isSameInTwoParts_24 (fun H32 L32 hP32 hk32 hS => ?_)
    have hZ32 := hS.1
    have hW := hW.put (q := 13) (t := (([] : List Nat) ++ cutL ti 0 j).take 60) (by omega) hk32 hP32.1
    rw [updT_2] at hW
    have hO := hW.2.1
    have hR1 := hW.2.2.1
    have hR2 := hW.2.2.2.1
    refine lv_aload_n hx hb dX2_isSameInTwoParts_27 rfl (lv_at hl 1 rfl) ?_
    refine va_get (D := G.1) (ci := 6) (C := RX2) (T := TX2) (N := 8) hx hb hts inX2 hown hK (at_P hO) 0 rfl rfl 6 (by decide) (hts _ tw_1_143) (fun _ h9 => h9) rfl dX2_isSameInTwoParts_28 ?_
    refine lv_aload_n hx hb dX2_isSameInTwoParts_31 rfl (lv_at hl 2 rfl) ?_
    refine lv_iload_n hx hb dX2_isSameInTwoParts_32 rfl (lv_at hl 0 rfl) ?_
    refine lv_aload_n hx hb dX2_isSameInTwoParts_33 rfl (lv_at hl 2 rfl) ?_
    have e2 : updT T 13 ((([] : List Nat) ++ cutL ti 0 j).take 60) i = ti := (updT_n (by omega)).trans hTi
    have hLi := hW.line (i := i) (by omega)
    rw [e2] at hLi
    have hL13 := hW.line (i := 13) (by omega)
    rw [updT_s] at hL13
    refine kV_i (A := A) (b := (SA (7 + 2 * i))) (As := []) (rest := .int (nI j) :: .ref (SA (7 + 2 * i)) :: .ref (SA 33) :: []) ⟨hx, hb, hml, hown, hts⟩ (mX0_size (A := A) (ca := SA (8 + 2 * i))) (cwV 0 hts (gV tw_2_30 tw_2_12 tw_2_13 tw_1_2 tw_2_14) rfl rfl rfl (by decide +kernel) ⟨Nat.le_of_ble_eq_true rfl, Nat.le_of_ble_eq_true rfl⟩) hC hS hA (hLi.recv hK) hLi rfl rfl hl.1 (Nat.le_of_ble_eq_true rfl) ⟨Nat.zero_le _, Nat.zero_le _⟩ dX2_isSameInTwoParts_34 (fun r9 h9 => lv_cv h9 ?_)
    refine qV_V (A := A) (A1 := ow (SA (7 + 2 * 13)) (SA (8 + 2 * 13)) H32.size) (b := (SA 33)) (As := [.ref (SA (7 + 2 * i)), .int (nI j), .int (nI ti.length)]) (rest := []) ⟨hx, hb, hml, hown, hts⟩ (mX0_addPart (A := ow (SA (7 + 2 * 13)) (SA (8 + 2 * 13)) H32.size) (ca := SA (8 + 2 * 13)) (cb := SA (8 + 2 * i)) (t := (([] : List Nat) ++ cutL ti 0 j).take 60) (u := ti) (i := j) (i2 := ti.length) (Or.inl rfl) (Or.inr (Or.inl rfl)) ⟨hW.ne (i := 7 + 2 * i) (j := 7 + 2 * 13) (by omega) (by omega) (by omega), hW.ne (i := 7 + 2 * i) (j := 8 + 2 * 13) (by omega) (by omega) (by omega), hW.ne (i := 8 + 2 * i) (j := 7 + 2 * 13) (by omega) (by omega) (by omega), hW.ne (i := 8 + 2 * i) (j := 8 + 2 * 13) (by omega) (by omega) (by omega)⟩ c_30 (Nat.le_refl _)) (cwV 3 hts (gV tw_2_35 tw_2_36 tw_2_37 tw_1_2 tw_2_38) rfl rfl rfl (by decide +kernel) ⟨Nat.le_of_ble_eq_true rfl, Nat.le_of_ble_eq_true rfl⟩) hC hS (ow_in (hAS _ (by omega)) (hAS _ (by omega)) hA hS.1) ow_n ((hW.line (i := 13) (by omega)).recv hK) ⟨hL13, hLi⟩ rfl rfl hl.1 (Nat.le_of_ble_eq_true rfl) ⟨Nat.zero_le _, Nat.zero_le _⟩ dX2_isSameInTwoParts_37 (fun H33 L33 hP33 hk33 hS => ?_)
    have hZ33 := hS.1
    have hW := hW.put (q := 13) (t := ((([] : List Nat) ++ cutL ti 0 j).take 60 ++ cutL ti j ti.length).take 60) (by omega) hk33 hP33.1
    rw [updT_2] at hW
    have hO := hW.2.1
    have hR1 := hW.2.2.1
    have hR2 := hW.2.2.2.1
    refine lv_aload_n hx hb dX2_isSameInTwoParts_40 rfl (lv_at hl 1 rfl) ?_
    refine va_get (D := G.1) (ci := 6) (C := RX2) (T := TX2) (N := 8) hx hb hts inX2 hown hK (at_P hO) 0 rfl rfl 6 (by decide) (hts _ tw_1_143) (fun _ h9 => h9) rfl dX2_isSameInTwoParts_41 ?_
    refine lv_aload_n hx hb dX2_isSameInTwoParts_44 rfl (lv_at hl 2 rfl) ?_
    refine lv_iconst (v := nI 0) hx hb dX2_isSameInTwoParts_45 (by decide) ?_
    refine kV_i (A := A) (b := (SA 33)) (As := [.ref (SA (7 + 2 * i)), .int (bI false)]) (rest := []) ⟨hx, hb, hml, hown, hts⟩ (mX0_isSameAs (A := A) (ca := SA (8 + 2 * 13)) (cb := SA (8 + 2 * i)) (b0 := false)) (cwV 2 hts (gV tw_2_7 tw_2_8 tw_2_9 tw_1_2 tw_2_10) rfl rfl rfl (by decide +kernel) ⟨Nat.le_of_ble_eq_true rfl, Nat.le_of_ble_eq_true rfl⟩) hC hS hA ((hW.line (i := 13) (by omega)).recv hK) ⟨(hW.line (i := 13) (by omega)), (hW.line (i := i) (by omega))⟩ rfl rfl hl.1 (Nat.le_of_ble_eq_true rfl) ⟨Nat.zero_le _, Nat.zero_le _⟩ dX2_isSameInTwoParts_46 (fun r_34 hr_34 => ?_)
    obtain ⟨r_34v, hv9, rfl⟩ := hr_34
    obtain rfl : r_34v = true := same_v hv9 ((updT_s.trans (twoP i60 c_30)).trans ((updT_n (by omega)).trans hTi).symm)
    refine f_ne (tgt := 54) hx hb dX2_isSameInTwoParts_49 (by decide) (fun c_35 => ?_) (fun c_35 => ?_)
    · refine lv_iinc (v := nI (j + 1)) (lv' := [(2, .int (nI (j + 1))), (0, .ref (SA 0)), (1, .ref (SA (7 + 2 * i)))]) hx hb dX2_isSameInTwoParts_54 hl (k := 0) rfl (nI_add j 1) (by decide) rfl (fun ls hl => ?_)
      refine lv_goto (tgt := 2) hx hb dX2_isSameInTwoParts_57 (by decide) ?_
      exact ih (j + 1) (by omega) (by omega) ls H33 L33 _ es2 (lv_sub hl [0, 1, 2] rfl) hS hW (FR.s13 hF) ((updT_n (by omega)).trans hTi)
    · exact absurd c_35 (by decide)

theorem mX2s_isSameTrimmedAgain {l : Launch} {G : Cx} {A : Nat → Prop} {SA : Nat → Nat} {X : Nat → List Nat} {es : List Nat} {k : Int32} {i : Nat} (hi : i < 4) {b : Bool} (hAS : ∀ i : Nat, i < 39 → A (SA i)) : Met l yX2_isSameTrimmedAgain (.code yX2_isSameTrimmedAgain cX2_isSameTrimmedAgain 3 (some .boolean) :: GW) rmX2_isSameTrimmedAgain (PC G A [.ref (SA 0), .ref (SA (7 + 2 * i)), .int (bI b)] (SS G SA X es k)) (qI A (fun r H => r = bI true ∧ SS G SA X es k H)) 0 0 (A) := by
  refine mstart "Signtext" (by decide +kernel) rfl (Nat.le_of_ble_eq_true rfl) ?_
  intro p e s m below meth c ls hx hb hr hts hown hml hlocks hname hC hA hW hl
  have hl : lv_has ls 3 [(0, .ref (SA 0)), (1, .ref (SA (7 + 2 * i))), (2, .int (bI b))] := hl
  have hK := hC.1
  have hS : va_S A s.heap s.heap [] := va_S.rf
  obtain ⟨T, es2, hW, hF⟩ := hW
  have hO := hW.2.1
  have hR1 := hW.2.2.1
  have hR2 := hW.2.2.2.1
  refine lv_aload_n hx hb dX2_isSameTrimmedAgain_0 rfl (lv_at hl 0 rfl) ?_
  refine lv_aload_n hx hb dX2_isSameTrimmedAgain_1 rfl (lv_at hl 1 rfl) ?_
  refine lv_aload_n hx hb dX2_isSameTrimmedAgain_2 rfl (lv_at hl 1 rfl) ?_
  refine lv_iload_n hx hb dX2_isSameTrimmedAgain_3 rfl (lv_at hl 2 rfl) ?_
  have tbi := tbL_le b (T i)
  have t60e8 := (hW.line (i := i) (by omega)).1
  refine kV_i (A := A) (b := (SA (7 + 2 * i))) (As := [.int (bI b)]) (rest := .ref (SA (7 + 2 * i)) :: .ref (SA 0) :: []) ⟨hx, hb, hml, hown, hts⟩ (mX0_trimmedBegin (A := A) (ca := SA (8 + 2 * i)) (b := b)) (cwV 1 hts (gV tw_2_43 tw_2_44 tw_2_45 tw_1_2 tw_2_46) rfl rfl rfl (by decide +kernel) ⟨Nat.le_of_ble_eq_true rfl, Nat.le_of_ble_eq_true rfl⟩) hC hS hA ((hW.line (i := i) (by omega)).recv hK) (hW.line (i := i) (by omega)) rfl rfl hl.1 (Nat.le_of_ble_eq_true rfl) ⟨Nat.zero_le _, Nat.zero_le _⟩ dX2_isSameTrimmedAgain_4 (fun r9 h9 => lv_cv h9 ?_)
  refine lv_aload_n hx hb dX2_isSameTrimmedAgain_7 rfl (lv_at hl 1 rfl) ?_
  refine lv_iload_n hx hb dX2_isSameTrimmedAgain_8 rfl (lv_at hl 2 rfl) ?_
  refine kV_i (A := A) (b := (SA (7 + 2 * i))) (As := [.int (bI b)]) (rest := .int (nI (tbL b (T i))) :: .ref (SA (7 + 2 * i)) :: .ref (SA 0) :: []) ⟨hx, hb, hml, hown, hts⟩ (mX0_trimmedEnd (A := A) (ca := SA (8 + 2 * i)) (b := b)) (cwV 1 hts (gV tw_2_50 tw_2_51 tw_2_52 tw_1_2 tw_2_53) rfl rfl rfl (by decide +kernel) ⟨Nat.le_of_ble_eq_true rfl, Nat.le_of_ble_eq_true rfl⟩) hC hS hA ((hW.line (i := i) (by omega)).recv hK) (hW.line (i := i) (by omega)) rfl rfl hl.1 (Nat.le_of_ble_eq_true rfl) ⟨Nat.zero_le _, Nat.zero_le _⟩ dX2_isSameTrimmedAgain_9 (fun r_36 hr_36 => ?_)
  obtain ⟨e8, he8, rfl⟩ := hr_36
  refine lv_aload_n hx hb dX2_isSameTrimmedAgain_12 rfl (lv_at hl 0 rfl) ?_
  refine va_get (D := G.1) (ci := 6) (C := RX2) (T := TX2) (N := 8) hx hb hts inX2 hown hK (at_P hO) 0 rfl rfl 5 (by decide) (hts _ tw_1_142) (fun _ h9 => h9) rfl dX2_isSameTrimmedAgain_13 ?_
  have ge8 := he8.1
  have g2e8 := he8.2.1
  refine qI_V (A := A) (A1 := A) (b := (SA 0)) (As := [.ref (SA (7 + 2 * i)), .int (nI (tbL b (T i))), .int (nI e8), .ref (SA 31)]) (rest := []) ⟨hx, hb, hml, hown, hts⟩ (mX2_partInto (A := A) (i := i) (q := 12) (a9 := tbL b (T i)) (b9 := e8) hAS (by omega) (by omega) (by omega) he8.1 he8.2.1) (cwV 4 hts (gV tw_2_55 tw_2_57 sel_X2_partInto tw_1_1 tw_2_58) rfl rfl rfl (by decide +kernel) ⟨Nat.le_of_ble_eq_true rfl, Nat.le_of_ble_eq_true rfl⟩) hC hS (fun _ h => h) (fun q h => hA q (Nat.le_trans hS.1 h)) (hW.recv hK) hW rfl rfl hl.1 (Nat.le_of_ble_eq_true rfl) ⟨Nat.zero_le _, Nat.zero_le _⟩ dX2_isSameTrimmedAgain_16 (fun rv37 H37 L37 hP37 hk37 hS => ?_)
  have hZ37 := hS.1
  have hW := hP37.2
  have hO := hW.2.1
  have hR1 := hW.2.2.1
  have hR2 := hW.2.2.2.1
  generalize hT2 : updT (updT T 13 _) 12 _ = T2 at hW
  have hF2 : ∀ i : Nat, i < 4 ∨ i = 11 ∨ i = 14 → T2 i = X i := by rw [← hT2]; exact (FR.s12 (FR.s13 hF))
  have hT12 : T2 12 = cutL (T i) (tbL b (T i)) e8 := by rw [← hT2, updT_s]
  refine lv_pop hx hb dX2_isSameTrimmedAgain_19 rfl ?_
  refine lv_aload_n hx hb dX2_isSameTrimmedAgain_20 rfl (lv_at hl 0 rfl) ?_
  refine lv_aload_n hx hb dX2_isSameTrimmedAgain_21 rfl (lv_at hl 0 rfl) ?_
  refine va_get (D := G.1) (ci := 6) (C := RX2) (T := TX2) (N := 8) hx hb hts inX2 hown hK (at_P hO) 0 rfl rfl 5 (by decide) (hts _ tw_1_142) (fun _ h9 => h9) rfl dX2_isSameTrimmedAgain_22 ?_
  refine lv_aload_n hx hb dX2_isSameTrimmedAgain_25 rfl (lv_at hl 0 rfl) ?_
  refine va_get (D := G.1) (ci := 6) (C := RX2) (T := TX2) (N := 8) hx hb hts inX2 hown hK (at_P hO) 0 rfl rfl 5 (by decide) (hts _ tw_1_142) (fun _ h9 => h9) rfl dX2_isSameTrimmedAgain_26 ?_
  refine lv_iload_n hx hb dX2_isSameTrimmedAgain_29 rfl (lv_at hl 2 rfl) ?_
  have tb12 := tbL_le b (T2 12)
  have t60e7 := (hW.line (i := 12) (by omega)).1
  refine kV_i (A := A) (b := (SA 31)) (As := [.int (bI b)]) (rest := .ref (SA 31) :: .ref (SA 0) :: []) ⟨hx, hb, hml, hown, hts⟩ (mX0_trimmedBegin (A := A) (ca := SA (8 + 2 * 12)) (b := b)) (cwV 1 hts (gV tw_2_43 tw_2_44 tw_2_45 tw_1_2 tw_2_46) rfl rfl rfl (by decide +kernel) ⟨Nat.le_of_ble_eq_true rfl, Nat.le_of_ble_eq_true rfl⟩) hC hS hA ((hW.line (i := 12) (by omega)).recv hK) (hW.line (i := 12) (by omega)) rfl rfl hl.1 (Nat.le_of_ble_eq_true rfl) ⟨Nat.zero_le _, Nat.zero_le _⟩ dX2_isSameTrimmedAgain_30 (fun r9 h9 => lv_cv h9 ?_)
  refine lv_aload_n hx hb dX2_isSameTrimmedAgain_33 rfl (lv_at hl 0 rfl) ?_
  refine va_get (D := G.1) (ci := 6) (C := RX2) (T := TX2) (N := 8) hx hb hts inX2 hown hK (at_P hO) 0 rfl rfl 5 (by decide) (hts _ tw_1_142) (fun _ h9 => h9) rfl dX2_isSameTrimmedAgain_34 ?_
  refine lv_iload_n hx hb dX2_isSameTrimmedAgain_37 rfl (lv_at hl 2 rfl) ?_
  refine kV_i (A := A) (b := (SA 31)) (As := [.int (bI b)]) (rest := .int (nI (tbL b (T2 12))) :: .ref (SA 31) :: .ref (SA 0) :: []) ⟨hx, hb, hml, hown, hts⟩ (mX0_trimmedEnd (A := A) (ca := SA (8 + 2 * 12)) (b := b)) (cwV 1 hts (gV tw_2_50 tw_2_51 tw_2_52 tw_1_2 tw_2_53) rfl rfl rfl (by decide +kernel) ⟨Nat.le_of_ble_eq_true rfl, Nat.le_of_ble_eq_true rfl⟩) hC hS hA ((hW.line (i := 12) (by omega)).recv hK) (hW.line (i := 12) (by omega)) rfl rfl hl.1 (Nat.le_of_ble_eq_true rfl) ⟨Nat.zero_le _, Nat.zero_le _⟩ dX2_isSameTrimmedAgain_38 (fun r_38 hr_38 => ?_)
  obtain ⟨e7, he7, rfl⟩ := hr_38
  refine lv_aload_n hx hb dX2_isSameTrimmedAgain_41 rfl (lv_at hl 0 rfl) ?_
  refine va_get (D := G.1) (ci := 6) (C := RX2) (T := TX2) (N := 8) hx hb hts inX2 hown hK (at_P hO) 0 rfl rfl 6 (by decide) (hts _ tw_1_143) (fun _ h9 => h9) rfl dX2_isSameTrimmedAgain_42 ?_
  have ge7 := he7.1
  have g2e7 := he7.2.1
  refine qI_V (A := A) (A1 := A) (b := (SA 0)) (As := [.ref (SA 31), .int (nI (tbL b (T2 12))), .int (nI e7), .ref (SA 33)]) (rest := []) ⟨hx, hb, hml, hown, hts⟩ (mX2_partInto_d (A := A) (i := 12) (a9 := tbL b (T2 12)) (b9 := e7) hAS (by omega) (by omega) he7.1 he7.2.1) (cwV 4 hts (gV tw_2_55 tw_2_57 sel_X2_partInto tw_1_1 tw_2_58) rfl rfl rfl (by decide +kernel) ⟨Nat.le_of_ble_eq_true rfl, Nat.le_of_ble_eq_true rfl⟩) hC hS (fun _ h => h) (fun q h => hA q (Nat.le_trans hS.1 h)) (hW.recv hK) hW rfl rfl hl.1 (Nat.le_of_ble_eq_true rfl) ⟨Nat.zero_le _, Nat.zero_le _⟩ dX2_isSameTrimmedAgain_45 (fun rv39 H39 L39 hP39 hk39 hS => ?_)
  have hZ39 := hS.1
  have hW := hP39.2
  have hO := hW.2.1
  have hR1 := hW.2.2.1
  have hR2 := hW.2.2.2.1
  refine lv_pop hx hb dX2_isSameTrimmedAgain_48 rfl ?_
  refine lv_aload_n hx hb dX2_isSameTrimmedAgain_49 rfl (lv_at hl 0 rfl) ?_
  refine va_get (D := G.1) (ci := 6) (C := RX2) (T := TX2) (N := 8) hx hb hts inX2 hown hK (at_P hO) 0 rfl rfl 6 (by decide) (hts _ tw_1_143) (fun _ h9 => h9) rfl dX2_isSameTrimmedAgain_50 ?_
  refine lv_aload_n hx hb dX2_isSameTrimmedAgain_53 rfl (lv_at hl 0 rfl) ?_
  refine va_get (D := G.1) (ci := 6) (C := RX2) (T := TX2) (N := 8) hx hb hts inX2 hown hK (at_P hO) 0 rfl rfl 5 (by decide) (hts _ tw_1_142) (fun _ h9 => h9) rfl dX2_isSameTrimmedAgain_54 ?_
  refine lv_iconst (v := nI 0) hx hb dX2_isSameTrimmedAgain_57 (by decide) ?_
  have hk9 : cutL (T2 12) (tbL b (T2 12)) e7 = T2 12 := by have h7 := he7; rw [hT12] at h7 ⊢; exact trimU he8 h7
  refine kV_i (A := A) (b := (SA 33)) (As := [.ref (SA 31), .int (bI false)]) (rest := []) ⟨hx, hb, hml, hown, hts⟩ (mX0_isSameAs (A := A) (ca := SA (8 + 2 * 13)) (cb := SA (8 + 2 * 12)) (b0 := false)) (cwV 2 hts (gV tw_2_7 tw_2_8 tw_2_9 tw_1_2 tw_2_10) rfl rfl rfl (by decide +kernel) ⟨Nat.le_of_ble_eq_true rfl, Nat.le_of_ble_eq_true rfl⟩) hC hS hA ((hW.line (i := 13) (by omega)).recv hK) ⟨(hW.line (i := 13) (by omega)), (hW.line (i := 12) (by omega))⟩ rfl rfl hl.1 (Nat.le_of_ble_eq_true rfl) ⟨Nat.zero_le _, Nat.zero_le _⟩ dX2_isSameTrimmedAgain_58 (fun r_40 hr_40 => ?_)
  obtain ⟨r_40v, hv9, rfl⟩ := hr_40
  obtain rfl : r_40v = true := same_v hv9 ((updT_s.trans hk9).trans (updT_n (by omega)).symm)
  exact q_z (b9 := true) hx hb hr hlocks dX2_isSameTrimmedAgain_61 hS (Nat.le_refl _) (Nat.le_refl _) ⟨rfl, _, _, hW, FR.s13 hF2⟩

theorem mX2s_isSameOfPieces {l : Launch} {G : Cx} {A : Nat → Prop} {SA : Nat → Nat} {X : Nat → List Nat} {es : List Nat} {k : Int32} {i : Nat} (hi : i < 4) (hAS : ∀ i : Nat, i < 39 → A (SA i)) : Met l yX2_isSameOfPieces (.code yX2_isSameOfPieces cX2_isSameOfPieces 3 (some .boolean) :: GW) rmX2_isSameOfPieces (PC G A [.ref (SA 0), .ref (SA (7 + 2 * i))] (SS G SA X es k)) (qI A (fun r H => r = bI true ∧ SS G SA X es k H)) 0 0 (A) := by
  refine mstart "Signtext" (by decide +kernel) rfl (Nat.le_of_ble_eq_true rfl) ?_
  intro p e s m below meth c ls hx hb hr hts hown hml hlocks hname hC hA hW hl
  have hl : lv_has ls 3 [(0, .ref (SA 0)), (1, .ref (SA (7 + 2 * i)))] := hl
  have hK := hC.1
  have hS : va_S A s.heap s.heap [] := va_S.rf
  obtain ⟨T, es2, hW, hF⟩ := hW
  have hO := hW.2.1
  have hR1 := hW.2.2.1
  have hR2 := hW.2.2.2.1
  obtain ⟨ti, hTi⟩ : ∃ ti, T i = ti := ⟨_, rfl⟩
  refine lv_aload_n hx hb dX2_isSameOfPieces_0 rfl (lv_at hl 0 rfl) ?_
  refine va_get (D := G.1) (ci := 6) (C := RX2) (T := TX2) (N := 8) hx hb hts inX2 hown hK (at_P hO) 0 rfl rfl 7 (by decide) (hts _ tw_1_144) (fun _ h9 => h9) rfl dX2_isSameOfPieces_1 ?_
  refine lv_aload_n hx hb dX2_isSameOfPieces_4 rfl (lv_at hl 1 rfl) ?_
  refine qV_V (A := A) (A1 := oP SA 5 37 38 6 s.heap.size) (b := (SA 5)) (As := [.ref (SA (7 + 2 * i))]) (rest := []) ⟨hx, hb, hml, hown, hts⟩ (mX1_cutOf (A := oP SA 5 37 38 6 s.heap.size) (la := SA 37) (lca := SA 38) (ea := SA 6) (cb := SA (8 + 2 * i)) (t := T 15) (u := T i) (es := es2) (Or.inl rfl) (Or.inr (Or.inl rfl)) (Or.inr (Or.inr (Or.inl rfl))) (Or.inr (Or.inr (Or.inr (Or.inl rfl)))) ⟨hW.ne (i := 7 + 2 * i) (j := 5) (by omega) (by omega) (by omega), hW.ne (i := 7 + 2 * i) (j := 37) (by omega) (by omega) (by omega), hW.ne (i := 7 + 2 * i) (j := 38) (by omega) (by omega) (by omega), hW.ne (i := 7 + 2 * i) (j := 6) (by omega) (by omega) (by omega)⟩ ⟨hW.ne (i := 8 + 2 * i) (j := 5) (by omega) (by omega) (by omega), hW.ne (i := 8 + 2 * i) (j := 37) (by omega) (by omega) (by omega), hW.ne (i := 8 + 2 * i) (j := 38) (by omega) (by omega) (by omega), hW.ne (i := 8 + 2 * i) (j := 6) (by omega) (by omega) (by omega)⟩) (cwV 1 hts (gV tw_2_63 tw_2_64 tw_2_65 tw_1_3 tw_2_66) rfl rfl rfl (by decide +kernel) ⟨Nat.le_of_ble_eq_true rfl, Nat.le_of_ble_eq_true rfl⟩) hC hS (oP_in (hAS 5 (by decide)) (hAS 37 (by decide)) (hAS 38 (by decide)) (hAS 6 (by decide)) hA hS.1) oP_n (hW.trd.1.recv hK) ⟨hW.trd, hW.line (i := i) (by omega)⟩ rfl rfl hl.1 (Nat.le_of_ble_eq_true rfl) ⟨Nat.zero_le _, Nat.zero_le _⟩ dX2_isSameOfPieces_5 (fun H41 L41 hP41 hk41 hS => ?_)
  have hZ41 := hS.1
  obtain ⟨⟨es1, hcut, hPA⟩, -⟩ := hP41
  have hW := hW.putTr hk41 hPA
  have hokE := hPA.2.2.1
  generalize hT2 : updT T 15 (T i) = T2 at hW
  have hF2 : ∀ i : Nat, i < 4 ∨ i = 11 ∨ i = 14 → T2 i = X i := by rw [← hT2]; exact FR.s15 hF
  have hT15 : T2 15 = ti := by rw [← hT2, updT_s, hTi]
  have hTi2 : T2 i = ti := by rw [← hT2, updT_n (by omega), hTi]
  rw [hTi] at hcut hokE
  have hO := hW.2.1
  have hR1 := hW.2.2.1
  have hR2 := hW.2.2.2.1
  refine lv_aload_n hx hb dX2_isSameOfPieces_8 rfl (lv_at hl 0 rfl) ?_
  refine va_get (D := G.1) (ci := 6) (C := RX2) (T := TX2) (N := 8) hx hb hts inX2 hown hK (at_P hO) 0 rfl rfl 6 (by decide) (hts _ tw_1_143) (fun _ h9 => h9) rfl dX2_isSameOfPieces_9 ?_
  refine qV_V (A := A) (A1 := ow (SA (7 + 2 * 13)) (SA (8 + 2 * 13)) H41.size) (b := (SA 33)) (As := []) (rest := []) ⟨hx, hb, hml, hown, hts⟩ (mX0_empty (A := ow (SA (7 + 2 * 13)) (SA (8 + 2 * 13)) H41.size) (ca := SA (8 + 2 * 13)) (hAa := Or.inl rfl)) (cwV 0 hts (gV tw_2_31 tw_2_32 tw_2_33 tw_1_2 tw_2_34) rfl rfl rfl (by decide +kernel) ⟨Nat.le_of_ble_eq_true rfl, Nat.le_of_ble_eq_true rfl⟩) hC hS (ow_in (hAS _ (by omega)) (hAS _ (by omega)) hA hS.1) ow_n ((hW.line (i := 13) (by omega)).recv hK) (hW.line (i := 13) (by omega)) rfl rfl hl.1 (Nat.le_of_ble_eq_true rfl) ⟨Nat.zero_le _, Nat.zero_le _⟩ dX2_isSameOfPieces_12 (fun H42 L42 hP42 hk42 hS => ?_)
  have hZ42 := hS.1
  have hW := hW.put (q := 13) (t := []) (by omega) hk42 hP42
  have hO := hW.2.1
  have hR1 := hW.2.2.1
  have hR2 := hW.2.2.2.1
  refine lv_iconst (v := nI 0) hx hb dX2_isSameOfPieces_15 (by decide) ?_
  refine lv_istore_n (lv' := [(2, .int (nI 0)), (0, .ref (SA 0)), (1, .ref (SA (7 + 2 * i)))]) hx hb dX2_isSameOfPieces_16 rfl hl (by decide) rfl (fun ls hl => ?_)
  have e61 := hW.trd.1.1
  have i60 := (hW.line (i := i) (by omega)).1
  rw [show updT T2 13 [] i = ti from (updT_n (by omega)).trans hTi2] at i60
  have hmE := mE_le hokE
  have k77 : ∀ (ls : Array Slot) (H : Heap) (L : List Loc) (w : List Nat), lv_has ls 3 [(0, .ref (SA 0)), (1, .ref (SA (7 + 2 * i)))] → va_S A s.heap H L → SW G SA (updT T2 13 w) es es1 k H → w = ti.take (mE es1 es1.length) → W p l e rmX2_isSameOfPieces s m [.ref (SA 0), .ref (SA (7 + 2 * i))].toArray below meth c H L 0 0 (MQ below (qI A (fun r H => r = bI true ∧ SS G SA X es k H)) [.ref (SA 0), .ref (SA (7 + 2 * i))].toArray s 0 0 (A)) (F0 m 77 ls []) := by
    clear hl hS hW hO hR1 hR2
    intro ls H L w hl hS hW hw
    have hO := hW.2.1
    have hR1 := hW.2.2.1
    have hR2 := hW.2.2.2.1
    have hL13 := hW.line (i := 13) (by omega)
    rw [updT_s] at hL13
    have hLi := hW.line (i := i) (by omega)
    rw [show updT T2 13 w i = ti from (updT_n (by omega)).trans hTi2] at hLi
    have hwl : w.length = mE es1 es1.length := by rw [hw, List.length_take]; omega
    refine lv_aload_n hx hb dX2_isSameOfPieces_77 rfl (lv_at hl 0 rfl) ?_
    refine va_get (D := G.1) (ci := 6) (C := RX2) (T := TX2) (N := 8) hx hb hts inX2 hown hK (at_P hO) 0 rfl rfl 6 (by decide) (hts _ tw_1_143) (fun _ h9 => h9) rfl dX2_isSameOfPieces_78 ?_
    refine kV_i (A := A) (b := (SA 33)) (As := []) (rest := []) ⟨hx, hb, hml, hown, hts⟩ (mX0_size (A := A) (ca := SA (8 + 2 * 13))) (cwV 0 hts (gV tw_2_30 tw_2_12 tw_2_13 tw_1_2 tw_2_14) rfl rfl rfl (by decide +kernel) ⟨Nat.le_of_ble_eq_true rfl, Nat.le_of_ble_eq_true rfl⟩) hC hS hA (hL13.recv hK) hL13 rfl rfl hl.1 (Nat.le_of_ble_eq_true rfl) ⟨Nat.zero_le _, Nat.zero_le _⟩ dX2_isSameOfPieces_81 (fun r9 h9 => lv_cv h9 ?_)
    refine lv_istore_n (lv' := [(2, .int (nI w.length)), (0, .ref (SA 0)), (1, .ref (SA (7 + 2 * i)))]) hx hb dX2_isSameOfPieces_84 rfl hl (by decide) rfl (fun ls hl => ?_)
    refine nloop (P := fun j => ∀ (ls : Array Slot) , lv_has ls 3 [(2, .int (nI j)), (0, .ref (SA 0)), (1, .ref (SA (7 + 2 * i)))] → w.length ≤ j → W p l e rmX2_isSameOfPieces s m [.ref (SA 0), .ref (SA (7 + 2 * i))].toArray below meth c H L 0 0 (MQ below (qI A (fun r H => r = bI true ∧ SS G SA X es k H)) [.ref (SA 0), .ref (SA (7 + 2 * i))].toArray s 0 0 (A)) (F0 m 85 ls [])) 61 ?_ w.length (by omega) ls  hl (Nat.le_refl _)
    clear hl
    intro j hj ih ls  hl
    intro hwj
    refine lv_iload_n hx hb dX2_isSameOfPieces_85 rfl (lv_at hl 0 rfl) ?_
    refine lv_aload_n hx hb dX2_isSameOfPieces_86 rfl (lv_at hl 2 rfl) ?_
    refine kV_i (A := A) (b := (SA (7 + 2 * i))) (As := []) (rest := .int (nI j) :: []) ⟨hx, hb, hml, hown, hts⟩ (mX0_size (A := A) (ca := SA (8 + 2 * i))) (cwV 0 hts (gV tw_2_30 tw_2_12 tw_2_13 tw_1_2 tw_2_14) rfl rfl rfl (by decide +kernel) ⟨Nat.le_of_ble_eq_true rfl, Nat.le_of_ble_eq_true rfl⟩) hC hS hA (hLi.recv hK) hLi rfl rfl hl.1 (Nat.le_of_ble_eq_true rfl) ⟨Nat.zero_le _, Nat.zero_le _⟩ dX2_isSameOfPieces_87 (fun r9 h9 => lv_cv h9 ?_)
    refine b_ge (tgt := 111) hx hb dX2_isSameOfPieces_90 (by decide) (by omega) (by omega) (fun c_43 => ?_) (fun c_43 => ?_)
    · refine lv_aload_n hx hb dX2_isSameOfPieces_111 rfl (lv_at hl 2 rfl) ?_
      refine lv_aload_n hx hb dX2_isSameOfPieces_112 rfl (lv_at hl 1 rfl) ?_
      refine va_get (D := G.1) (ci := 6) (C := RX2) (T := TX2) (N := 8) hx hb hts inX2 hown hK (at_P hO) 0 rfl rfl 6 (by decide) (hts _ tw_1_143) (fun _ h9 => h9) rfl dX2_isSameOfPieces_113 ?_
      refine lv_iconst (v := nI 0) hx hb dX2_isSameOfPieces_116 (by decide) ?_
      refine lv_iconst (v := nI 0) hx hb dX2_isSameOfPieces_117 (by decide) ?_
      refine kV_i (A := A) (b := (SA (7 + 2 * i))) (As := [.ref (SA 33), .int (nI 0), .int (bI false)]) (rest := []) ⟨hx, hb, hml, hown, hts⟩ (mX0_standsAt (A := A) (ca := SA (8 + 2 * i)) (cb := SA (8 + 2 * 13)) (i := 0) (b0 := false) (by omega)) (cwV 3 hts (gV tw_2_94 tw_2_16 tw_2_17 tw_1_2 tw_2_18) rfl rfl rfl (by decide +kernel) ⟨Nat.le_of_ble_eq_true rfl, Nat.le_of_ble_eq_true rfl⟩) hC hS hA (hLi.recv hK) ⟨hLi, hL13⟩ rfl rfl hl.1 (Nat.le_of_ble_eq_true rfl) ⟨Nat.zero_le _, Nat.zero_le _⟩ dX2_isSameOfPieces_118 (fun r_44 hr_44 => ?_)
      obtain ⟨r_44v, hv9, rfl⟩ := hr_44
      obtain rfl : r_44v = true := hv9.mpr (by rw [hw]; exact stL_take)
      exact q_z (b9 := true) hx hb hr hlocks dX2_isSameOfPieces_121 hS (Nat.le_refl _) (Nat.le_refl _) ⟨rfl, _, _, hW, FR.s13 hF2⟩
    · refine lv_aload_n hx hb dX2_isSameOfPieces_93 rfl (lv_at hl 2 rfl) ?_
      refine lv_iload_n hx hb dX2_isSameOfPieces_94 rfl (lv_at hl 0 rfl) ?_
      have tokj := hLi.2.1 j
      refine kV_i (A := A) (b := (SA (7 + 2 * i))) (As := [.int (nI j)]) (rest := []) ⟨hx, hb, hml, hown, hts⟩ (mX0_codeAt (A := A) (ca := SA (8 + 2 * i)) (i := j) (by omega)) (cwV 1 hts (gV tw_2_93 tw_2_20 tw_2_21 tw_1_2 tw_2_22) rfl rfl rfl (by decide +kernel) ⟨Nat.le_of_ble_eq_true rfl, Nat.le_of_ble_eq_true rfl⟩) hC hS hA (hLi.recv hK) hLi rfl rfl hl.1 (Nat.le_of_ble_eq_true rfl) ⟨Nat.zero_le _, Nat.zero_le _⟩ dX2_isSameOfPieces_95 (fun r9 h9 => lv_cv h9 ?_)
      refine lv_bipush (v := nI 44) hx hb dX2_isSameOfPieces_98 (by decide) ?_
      refine b_eq (tgt := 105) hx hb dX2_isSameOfPieces_100 (by decide) (by omega) (by omega) (fun c_45 => ?_) (fun c_45 => ?_)
      · refine lv_iinc (v := nI (j + 1)) (lv' := [(2, .int (nI (j + 1))), (0, .ref (SA 0)), (1, .ref (SA (7 + 2 * i)))]) hx hb dX2_isSameOfPieces_105 hl (k := 0) rfl (nI_add j 1) (by decide) rfl (fun ls hl => ?_)
        refine lv_goto (tgt := 85) hx hb dX2_isSameOfPieces_108 (by decide) ?_
        exact ih (j + 1) (by omega) (by omega) ls (lv_sub hl [0, 1, 2] rfl) (by omega)
      · exact absurd (cut_tail hcut (p := j) (by omega) (by omega)) c_45
  refine nloop (P := fun j => ∀ (ls : Array Slot) (H : Heap) (L : List Loc) (w : List Nat), lv_has ls 3 [(2, .int (nI j)), (0, .ref (SA 0)), (1, .ref (SA (7 + 2 * i)))] → va_S A s.heap H L → SW G SA (updT T2 13 w) es es1 k H → w = ti.take (mE es1 j) → W p l e rmX2_isSameOfPieces s m [.ref (SA 0), .ref (SA (7 + 2 * i))].toArray below meth c H L 0 0 (MQ below (qI A (fun r H => r = bI true ∧ SS G SA X es k H)) [.ref (SA 0), .ref (SA (7 + 2 * i))].toArray s 0 0 (A)) (F0 m 17 ls [])) es1.length ?_ 0 (Nat.zero_le _) ls H42 L42 [] hl hS hW rfl
  clear hl
  intro j hj ih ls H L w hl
  clear hS hW hO hR1 hR2
  intro hS hW hw
  have hO := hW.2.1
  have hR1 := hW.2.2.1
  have hR2 := hW.2.2.2.1
  refine lv_iload_n hx hb dX2_isSameOfPieces_17 rfl (lv_at hl 0 rfl) ?_
  refine lv_aload_n hx hb dX2_isSameOfPieces_18 rfl (lv_at hl 1 rfl) ?_
  refine va_get (D := G.1) (ci := 6) (C := RX2) (T := TX2) (N := 8) hx hb hts inX2 hown hK (at_P hO) 0 rfl rfl 7 (by decide) (hts _ tw_1_144) (fun _ h9 => h9) rfl dX2_isSameOfPieces_19 ?_
  refine kV_i (A := A) (b := (SA 5)) (As := []) (rest := .int (nI j) :: []) ⟨hx, hb, hml, hown, hts⟩ (mX1_size (A := A) (la := SA 37) (ea := SA 6) (es := es1)) (cwV 0 hts (gV tw_2_82 tw_2_83 tw_2_84 tw_1_3 tw_2_85) rfl rfl rfl (by decide +kernel) ⟨Nat.le_of_ble_eq_true rfl, Nat.le_of_ble_eq_true rfl⟩) hC hS hA (hW.trd.1.recv hK) hW.trd.1 rfl rfl hl.1 (Nat.le_of_ble_eq_true rfl) ⟨Nat.zero_le _, Nat.zero_le _⟩ dX2_isSameOfPieces_22 (fun r9 h9 => lv_cv h9 ?_)
  refine b_ge (tgt := 77) hx hb dX2_isSameOfPieces_25 (by decide) (by omega) (by omega) (fun c_46 => ?_) (fun c_46 => ?_)
  · exact k77 ls H L w (lv_sub hl [1, 2] rfl) hS hW (by rw [show es1.length = j by omega]; exact hw)
  · have k41 : ∀ (ls : Array Slot) (H : Heap) (L : List Loc) (w : List Nat), lv_has ls 3 [(2, .int (nI j)), (0, .ref (SA 0)), (1, .ref (SA (7 + 2 * i)))] → va_S A s.heap H L → SW G SA (updT T2 13 w) es es1 k H → w = ti.take (bgE es1 j) → W p l e rmX2_isSameOfPieces s m [.ref (SA 0), .ref (SA (7 + 2 * i))].toArray below meth c H L 0 0 (MQ below (qI A (fun r H => r = bI true ∧ SS G SA X es k H)) [.ref (SA 0), .ref (SA (7 + 2 * i))].toArray s 0 0 (A)) (F0 m 41 ls []) := by
      clear hl hS hW hO hR1 hR2 hw
      intro ls H L w hl hS hW hw
      have hO := hW.2.1
      have hR1 := hW.2.2.1
      have hR2 := hW.2.2.2.1
      refine lv_aload_n hx hb dX2_isSameOfPieces_41 rfl (lv_at hl 1 rfl) ?_
      refine va_get (D := G.1) (ci := 6) (C := RX2) (T := TX2) (N := 8) hx hb hts inX2 hown hK (at_P hO) 0 rfl rfl 6 (by decide) (hts _ tw_1_143) (fun _ h9 => h9) rfl dX2_isSameOfPieces_42 ?_
      refine lv_aload_n hx hb dX2_isSameOfPieces_45 rfl (lv_at hl 1 rfl) ?_
      refine va_get (D := G.1) (ci := 6) (C := RX2) (T := TX2) (N := 8) hx hb hts inX2 hown hK (at_P hO) 0 rfl rfl 7 (by decide) (hts _ tw_1_144) (fun _ h9 => h9) rfl dX2_isSameOfPieces_46 ?_
      have hPB := hW.trd.1
      have hok := hW.trd.2.2.1 j (by omega)
      refine kV_a (A := A) (b := (SA 5)) (As := []) (rest := .ref (SA 33) :: []) ⟨hx, hb, hml, hown, hts⟩ (mX1_line (A := A) (la := SA 37) (ea := SA 6)) (cwV 0 hts (gV tw_2_87 tw_2_88 tw_2_89 tw_1_3 tw_2_90) rfl rfl rfl (by decide +kernel) ⟨Nat.le_of_ble_eq_true rfl, Nat.le_of_ble_eq_true rfl⟩) hC hS hA (hPB.recv hK) hPB rfl rfl hl.1 (Nat.le_of_ble_eq_true rfl) ⟨Nat.zero_le _, Nat.zero_le _⟩ dX2_isSameOfPieces_49 (fun a_47 ha_47 => ?_)
      obtain rfl : a_47 = SA 37 := ha_47
      refine lv_aload_n hx hb dX2_isSameOfPieces_52 rfl (lv_at hl 1 rfl) ?_
      refine va_get (D := G.1) (ci := 6) (C := RX2) (T := TX2) (N := 8) hx hb hts inX2 hown hK (at_P hO) 0 rfl rfl 7 (by decide) (hts _ tw_1_144) (fun _ h9 => h9) rfl dX2_isSameOfPieces_53 ?_
      refine lv_iload_n hx hb dX2_isSameOfPieces_56 rfl (lv_at hl 0 rfl) ?_
      refine kV_i (A := A) (b := (SA 5)) (As := [.int (nI j)]) (rest := .ref (SA 37) :: .ref (SA 33) :: []) ⟨hx, hb, hml, hown, hts⟩ (mX1_beginOf (A := A) (la := SA 37) (ea := SA 6) (es := es1) (k := j) (by omega)) (cwV 1 hts (gV tw_2_91 tw_2_75 tw_2_76 tw_1_3 tw_2_77) rfl rfl rfl (by decide +kernel) ⟨Nat.le_of_ble_eq_true rfl, Nat.le_of_ble_eq_true rfl⟩) hC hS hA (hPB.recv hK) hPB rfl rfl hl.1 (Nat.le_of_ble_eq_true rfl) ⟨Nat.zero_le _, Nat.zero_le _⟩ dX2_isSameOfPieces_57 (fun r9 h9 => lv_cv h9 ?_)
      refine lv_aload_n hx hb dX2_isSameOfPieces_60 rfl (lv_at hl 1 rfl) ?_
      refine va_get (D := G.1) (ci := 6) (C := RX2) (T := TX2) (N := 8) hx hb hts inX2 hown hK (at_P hO) 0 rfl rfl 7 (by decide) (hts _ tw_1_144) (fun _ h9 => h9) rfl dX2_isSameOfPieces_61 ?_
      refine lv_iload_n hx hb dX2_isSameOfPieces_64 rfl (lv_at hl 0 rfl) ?_
      refine kV_i (A := A) (b := (SA 5)) (As := [.int (nI j)]) (rest := .int (nI (bgE es1 j)) :: .ref (SA 37) :: .ref (SA 33) :: []) ⟨hx, hb, hml, hown, hts⟩ (mX1_endOf (A := A) (la := SA 37) (ea := SA 6) (es := es1) (k := j) (by omega)) (cwV 1 hts (gV tw_2_92 tw_2_79 tw_2_80 tw_1_3 tw_2_81) rfl rfl rfl (by decide +kernel) ⟨Nat.le_of_ble_eq_true rfl, Nat.le_of_ble_eq_true rfl⟩) hC hS hA (hPB.recv hK) hPB rfl rfl hl.1 (Nat.le_of_ble_eq_true rfl) ⟨Nat.zero_le _, Nat.zero_le _⟩ dX2_isSameOfPieces_65 (fun r9 h9 => lv_cv h9 ?_)
      refine qV_V (A := A) (A1 := ow (SA (7 + 2 * 13)) (SA (8 + 2 * 13)) H.size) (b := (SA 33)) (As := [.ref (SA 37), .int (nI (bgE es1 j)), .int (nI (es1.getD j 0))]) (rest := []) ⟨hx, hb, hml, hown, hts⟩ (mX0_addPart (A := ow (SA (7 + 2 * 13)) (SA (8 + 2 * 13)) H.size) (ca := SA (8 + 2 * 13)) (cb := SA (8 + 2 * 15)) (i := bgE es1 j) (i2 := es1.getD j 0) (Or.inl rfl) (Or.inr (Or.inl rfl)) ⟨hW.ne (i := 7 + 2 * 15) (j := 7 + 2 * 13) (by omega) (by omega) (by omega), hW.ne (i := 7 + 2 * 15) (j := 8 + 2 * 13) (by omega) (by omega) (by omega), hW.ne (i := 8 + 2 * 15) (j := 7 + 2 * 13) (by omega) (by omega) (by omega), hW.ne (i := 8 + 2 * 15) (j := 8 + 2 * 13) (by omega) (by omega) (by omega)⟩ hok.1 hok.2) (cwV 3 hts (gV tw_2_35 tw_2_36 tw_2_37 tw_1_2 tw_2_38) rfl rfl rfl (by decide +kernel) ⟨Nat.le_of_ble_eq_true rfl, Nat.le_of_ble_eq_true rfl⟩) hC hS (ow_in (hAS _ (by omega)) (hAS _ (by omega)) hA hS.1) ow_n ((hW.line (i := 13) (by omega)).recv hK) ⟨(hW.line (i := 13) (by omega)), (hW.line (i := 15) (by omega))⟩ rfl rfl hl.1 (Nat.le_of_ble_eq_true rfl) ⟨Nat.zero_le _, Nat.zero_le _⟩ dX2_isSameOfPieces_68 (fun H48 L48 hP48 hk48 hS => ?_)
      have hZ48 := hS.1
      have hW := hW.put (q := 13) (t := _) (by omega) hk48 hP48.1
      rw [updT_2] at hW
      refine lv_iinc (v := nI (j + 1)) (lv' := [(2, .int (nI (j + 1))), (0, .ref (SA 0)), (1, .ref (SA (7 + 2 * i)))]) hx hb dX2_isSameOfPieces_71 hl (k := 0) rfl (nI_add j 1) (by decide) rfl (fun ls hl => ?_)
      refine lv_goto (tgt := 17) hx hb dX2_isSameOfPieces_74 (by decide) ?_
      exact ih (j + 1) (by omega) (by omega) ls H48 L48 _ (lv_sub hl [0, 1, 2] rfl) hS hW (by rw [updT_s, updT_n (by omega), hT15, hw]; exact pj_add hokE i60 (by omega))
    refine lv_iload_n hx hb dX2_isSameOfPieces_28 rfl (lv_at hl 0 rfl) ?_
    rcases Nat.eq_zero_or_pos j with hj0 | hjp
    · refine lv_if_le (tgt := 41) hx hb dX2_isSameOfPieces_29 (by decide) (fun _ => ?_) (fun q => absurd (by rw [hj0]; decide) q)
      exact k41 ls H L w (lv_sub hl [0, 1, 2] rfl) hS hW (by rw [hw, hj0]; rfl)
    · refine lv_if_le (tgt := 41) hx hb dX2_isSameOfPieces_29 (by decide) (fun q => absurd q (nI_nle hjp (by omega))) (fun _ => ?_)
      refine lv_aload_n hx hb dX2_isSameOfPieces_32 rfl (lv_at hl 1 rfl) ?_
      refine va_get (D := G.1) (ci := 6) (C := RX2) (T := TX2) (N := 8) hx hb hts inX2 hown hK (at_P hO) 0 rfl rfl 6 (by decide) (hts _ tw_1_143) (fun _ h9 => h9) rfl dX2_isSameOfPieces_33 ?_
      refine lv_bipush (v := nI 44) hx hb dX2_isSameOfPieces_36 (by decide) ?_
      refine qV_V (A := A) (A1 := ow (SA (7 + 2 * 13)) (SA (8 + 2 * 13)) H.size) (b := (SA 33)) (As := [.int (nI 44)]) (rest := []) ⟨hx, hb, hml, hown, hts⟩ (mX0_addCode (A := ow (SA (7 + 2 * 13)) (SA (8 + 2 * 13)) H.size) (ca := SA (8 + 2 * 13)) (k0 := 44) (Or.inl rfl) (Or.inr (Or.inl rfl)) (by decide)) (cwV 1 hts (gV tw_2_86 tw_1_134 tw_1_135 tw_1_2 tw_1_136) rfl rfl rfl (by decide +kernel) ⟨Nat.le_of_ble_eq_true rfl, Nat.le_of_ble_eq_true rfl⟩) hC hS (ow_in (hAS _ (by omega)) (hAS _ (by omega)) hA hS.1) ow_n ((hW.line (i := 13) (by omega)).recv hK) (hW.line (i := 13) (by omega)) rfl rfl hl.1 (Nat.le_of_ble_eq_true rfl) ⟨Nat.zero_le _, Nat.zero_le _⟩ dX2_isSameOfPieces_38 (fun H49 L49 hP49 hk49 hS => ?_)
      have hZ49 := hS.1
      have hW := hW.put (q := 13) (t := _) (by omega) hk49 hP49
      rw [updT_2] at hW
      exact k41 ls H49 L49 _ (lv_sub hl [0, 1, 2] rfl) hS hW (by rw [updT_s, hw]; exact pj_com hcut i60 hjp (by omega))

theorem mX2s_isSoundAlone {l : Launch} {G : Cx} {A : Nat → Prop} {SA : Nat → Nat} {X : Nat → List Nat} {es : List Nat} {k : Int32} {i : Nat} (hi : i < 4) (hAS : ∀ i : Nat, i < 39 → A (SA i)) : Met l yX2_isSoundAlone (.code yX2_isSoundAlone cX2_isSoundAlone 2 (some .boolean) :: GW) rmX2_isSoundAlone (PC G A [.ref (SA 0), .ref (SA (7 + 2 * i))] (SS G SA X es k)) (qI A (fun r H => r = bI true ∧ SS G SA X es k H)) 0 0 (A) := by
  refine mstart "Signtext" (by decide +kernel) rfl (Nat.le_of_ble_eq_true rfl) ?_
  intro p e s m below meth c ls hx hb hr hts hown hml hlocks hname hC hA hW hl
  have hl : lv_has ls 2 [(0, .ref (SA 0)), (1, .ref (SA (7 + 2 * i)))] := hl
  have hK := hC.1
  have hS : va_S A s.heap s.heap [] := va_S.rf
  have hSS := hW
  refine lv_aload_n hx hb dX2_isSoundAlone_0 rfl (lv_at hl 0 rfl) ?_
  refine lv_aload_n hx hb dX2_isSoundAlone_1 rfl (lv_at hl 1 rfl) ?_
  refine qI_V (A := A) (A1 := A) (b := (SA 0)) (As := [.ref (SA (7 + 2 * i))]) (rest := []) ⟨hx, hb, hml, hown, hts⟩ (mX2s_isSameTakenAgain (A := A) (i := i) hi hAS) (cwV 1 hts (gV tw_1_239 tw_2_1 sel_X2_isSameTakenAgain tw_1_1 tw_2_2) rfl rfl rfl (by decide +kernel) ⟨Nat.le_of_ble_eq_true rfl, Nat.le_of_ble_eq_true rfl⟩) hC hS (fun _ h => h) (fun q h => hA q (Nat.le_trans hS.1 h)) (by obtain ⟨T, es2, hW, hF⟩ := hSS; exact hW.recv hK) hSS rfl rfl hl.1 (Nat.le_of_ble_eq_true rfl) ⟨Nat.zero_le _, Nat.zero_le _⟩ dX2_isSoundAlone_2 (fun rv50 H50 L50 hP50 hk50 hS => ?_)
  have hZ50 := hS.1
  obtain ⟨hv50, hSS⟩ := hP50
  subst hv50
  refine f_eq (tgt := 46) hx hb dX2_isSoundAlone_5 (by decide) (fun c_51 => ?_) (fun c_51 => ?_)
  · exact absurd c_51 (by decide)
  · refine lv_aload_n hx hb dX2_isSoundAlone_8 rfl (lv_at hl 0 rfl) ?_
    refine lv_aload_n hx hb dX2_isSoundAlone_9 rfl (lv_at hl 1 rfl) ?_
    refine qI_V (A := A) (A1 := A) (b := (SA 0)) (As := [.ref (SA (7 + 2 * i))]) (rest := []) ⟨hx, hb, hml, hown, hts⟩ (mX2s_isSameInTwoParts (A := A) (i := i) hi hAS) (cwV 1 hts (gV tw_2_26 tw_2_28 sel_X2_isSameInTwoParts tw_1_1 tw_2_29) rfl rfl rfl (by decide +kernel) ⟨Nat.le_of_ble_eq_true rfl, Nat.le_of_ble_eq_true rfl⟩) hC hS (fun _ h => h) (fun q h => hA q (Nat.le_trans hS.1 h)) (by obtain ⟨T, es2, hW, hF⟩ := hSS; exact hW.recv hK) hSS rfl rfl hl.1 (Nat.le_of_ble_eq_true rfl) ⟨Nat.zero_le _, Nat.zero_le _⟩ dX2_isSoundAlone_10 (fun rv52 H52 L52 hP52 hk52 hS => ?_)
    have hZ52 := hS.1
    obtain ⟨hv52, hSS⟩ := hP52
    subst hv52
    refine f_eq (tgt := 46) hx hb dX2_isSoundAlone_13 (by decide) (fun c_53 => ?_) (fun c_53 => ?_)
    · exact absurd c_53 (by decide)
    · refine lv_aload_n hx hb dX2_isSoundAlone_16 rfl (lv_at hl 0 rfl) ?_
      refine lv_aload_n hx hb dX2_isSoundAlone_17 rfl (lv_at hl 1 rfl) ?_
      refine lv_iconst (v := nI 0) hx hb dX2_isSoundAlone_18 (by decide) ?_
      refine qI_V (A := A) (A1 := A) (b := (SA 0)) (As := [.ref (SA (7 + 2 * i)), .int (bI false)]) (rest := []) ⟨hx, hb, hml, hown, hts⟩ (mX2s_isSameTrimmedAgain (A := A) (i := i) (b := false) hi hAS) (cwV 2 hts (gV tw_2_39 tw_2_41 sel_X2_isSameTrimmedAgain tw_1_1 tw_2_42) rfl rfl rfl (by decide +kernel) ⟨Nat.le_of_ble_eq_true rfl, Nat.le_of_ble_eq_true rfl⟩) hC hS (fun _ h => h) (fun q h => hA q (Nat.le_trans hS.1 h)) (by obtain ⟨T, es2, hW, hF⟩ := hSS; exact hW.recv hK) hSS rfl rfl hl.1 (Nat.le_of_ble_eq_true rfl) ⟨Nat.zero_le _, Nat.zero_le _⟩ dX2_isSoundAlone_19 (fun rv54 H54 L54 hP54 hk54 hS => ?_)
      have hZ54 := hS.1
      obtain ⟨hv54, hSS⟩ := hP54
      subst hv54
      refine f_eq (tgt := 46) hx hb dX2_isSoundAlone_22 (by decide) (fun c_55 => ?_) (fun c_55 => ?_)
      · exact absurd c_55 (by decide)
      · refine lv_aload_n hx hb dX2_isSoundAlone_25 rfl (lv_at hl 0 rfl) ?_
        refine lv_aload_n hx hb dX2_isSoundAlone_26 rfl (lv_at hl 1 rfl) ?_
        refine lv_iconst (v := nI 1) hx hb dX2_isSoundAlone_27 (by decide) ?_
        refine qI_V (A := A) (A1 := A) (b := (SA 0)) (As := [.ref (SA (7 + 2 * i)), .int (bI true)]) (rest := []) ⟨hx, hb, hml, hown, hts⟩ (mX2s_isSameTrimmedAgain (A := A) (i := i) (b := true) hi hAS) (cwV 2 hts (gV tw_2_39 tw_2_41 sel_X2_isSameTrimmedAgain tw_1_1 tw_2_42) rfl rfl rfl (by decide +kernel) ⟨Nat.le_of_ble_eq_true rfl, Nat.le_of_ble_eq_true rfl⟩) hC hS (fun _ h => h) (fun q h => hA q (Nat.le_trans hS.1 h)) (by obtain ⟨T, es2, hW, hF⟩ := hSS; exact hW.recv hK) hSS rfl rfl hl.1 (Nat.le_of_ble_eq_true rfl) ⟨Nat.zero_le _, Nat.zero_le _⟩ dX2_isSoundAlone_28 (fun rv56 H56 L56 hP56 hk56 hS => ?_)
        have hZ56 := hS.1
        obtain ⟨hv56, hSS⟩ := hP56
        subst hv56
        refine f_eq (tgt := 46) hx hb dX2_isSoundAlone_31 (by decide) (fun c_57 => ?_) (fun c_57 => ?_)
        · exact absurd c_57 (by decide)
        · refine lv_aload_n hx hb dX2_isSoundAlone_34 rfl (lv_at hl 0 rfl) ?_
          refine lv_aload_n hx hb dX2_isSoundAlone_35 rfl (lv_at hl 1 rfl) ?_
          refine qI_V (A := A) (A1 := A) (b := (SA 0)) (As := [.ref (SA (7 + 2 * i))]) (rest := []) ⟨hx, hb, hml, hown, hts⟩ (mX2s_isSameOfPieces (A := A) (i := i) hi hAS) (cwV 1 hts (gV tw_2_59 tw_2_61 sel_X2_isSameOfPieces tw_1_1 tw_2_62) rfl rfl rfl (by decide +kernel) ⟨Nat.le_of_ble_eq_true rfl, Nat.le_of_ble_eq_true rfl⟩) hC hS (fun _ h => h) (fun q h => hA q (Nat.le_trans hS.1 h)) (by obtain ⟨T, es2, hW, hF⟩ := hSS; exact hW.recv hK) hSS rfl rfl hl.1 (Nat.le_of_ble_eq_true rfl) ⟨Nat.zero_le _, Nat.zero_le _⟩ dX2_isSoundAlone_36 (fun rv58 H58 L58 hP58 hk58 hS => ?_)
          have hZ58 := hS.1
          obtain ⟨hv58, hSS⟩ := hP58
          subst hv58
          refine f_eq (tgt := 46) hx hb dX2_isSoundAlone_39 (by decide) (fun c_59 => ?_) (fun c_59 => ?_)
          · exact absurd c_59 (by decide)
          · refine lv_iconst (v := nI 1) hx hb dX2_isSoundAlone_42 (by decide) ?_
            refine lv_goto (tgt := 47) hx hb dX2_isSoundAlone_43 (by decide) ?_
            exact q_z (b9 := true) hx hb hr hlocks dX2_isSoundAlone_47 hS (Nat.le_refl _) (Nat.le_refl _) ⟨rfl, hSS⟩

theorem mX2s_isSound {l : Launch} {G : Cx} {A : Nat → Prop} {SA : Nat → Nat} {X : Nat → List Nat} {es : List Nat} {k : Int32} (hAS : ∀ i : Nat, i < 39 → A (SA i)) : Met l yX2_isSound (.code yX2_isSound cX2_isSound 3 (some .boolean) :: GW) rmX2_isSound (PC G A [.ref (SA 0)] (SS G SA X es k)) (qI A (fun r H => r = bI true ∧ SS G SA X es k H)) 0 0 (A) := by
  refine mstart "Signtext" (by decide +kernel) rfl (Nat.le_of_ble_eq_true rfl) ?_
  intro p e s m below meth c ls hx hb hr hts hown hml hlocks hname hC hA hW hl
  have hl : lv_has ls 3 [(0, .ref (SA 0))] := hl
  have hK := hC.1
  have hS : va_S A s.heap s.heap [] := va_S.rf
  have hSS := hW
  refine lv_iconst (v := nI 0) hx hb dX2_isSound_0 (by decide) ?_
  refine lv_istore_n (lv' := [(1, .int (nI 0)), (0, .ref (SA 0))]) hx hb dX2_isSound_1 rfl hl (by decide) rfl (fun ls hl => ?_)
  refine nloop (P := fun j => ∀ (ls : Array Slot) (H : Heap) (L : List Loc), lv_has ls 3 [(1, .int (nI j)), (0, .ref (SA 0))] → va_S A s.heap H L → SS G SA X es k H → W p l e rmX2_isSound s m [.ref (SA 0)].toArray below meth c H L 0 0 (MQ below (qI A (fun r H => r = bI true ∧ SS G SA X es k H)) [.ref (SA 0)].toArray s 0 0 (A)) (F0 m 2 ls [])) 4 ?_ 0 (Nat.zero_le _) ls s.heap [] hl hS hSS
  clear hl
  intro j hj ih ls H L hl
  clear hS hSS hW
  intro hS hSS
  have hs9 := hSS
  obtain ⟨T, es2, hW, hF⟩ := hs9
  have hO := hW.2.1
  have hR1 := hW.2.2.1
  have hR2 := hW.2.2.2.1
  refine lv_iload_n hx hb dX2_isSound_2 rfl (lv_at hl 0 rfl) ?_
  refine lv_iconst (v := nI 4) hx hb dX2_isSound_3 (by decide) ?_
  refine b_ge (tgt := 61) hx hb dX2_isSound_4 (by decide) (by omega) (by omega) (fun c_60 => ?_) (fun c_60 => ?_)
  · refine lv_iconst (v := nI 1) hx hb dX2_isSound_61 (by decide) ?_
    exact q_z (b9 := true) hx hb hr hlocks dX2_isSound_62 hS (Nat.le_refl _) (Nat.le_refl _) ⟨rfl, hSS⟩
  · refine lv_aload_n hx hb dX2_isSound_7 rfl (lv_at hl 1 rfl) ?_
    refine lv_aload_n hx hb dX2_isSound_8 rfl (lv_at hl 1 rfl) ?_
    refine va_get (D := G.1) (ci := 6) (C := RX2) (T := TX2) (N := 8) hx hb hts inX2 hown hK (at_P hO) 0 rfl rfl 0 (by decide) (hts _ tw_1_137) (fun _ h9 => h9) rfl dX2_isSound_9 ?_
    refine lv_iload_n hx hb dX2_isSound_12 rfl (lv_at hl 0 rfl) ?_
    refine va_aldq (D := G.1) hx hb hK (at_P hR1) 0 3 rfl rfl (vp_in_nI (n := j) (N := 4) (by omega) (by omega)) dX2_isSound_13 ?_
    refine v_cv (show va_rf _ = .ref (SA (7 + 2 * j)) from by rw [nI_clamp (n := j) (by omega)]; rfl) ?_
    refine qI_V (A := A) (A1 := A) (b := (SA 0)) (As := [.ref (SA (7 + 2 * j))]) (rest := []) ⟨hx, hb, hml, hown, hts⟩ (mX2s_isSoundAlone (A := A) (i := j) (by omega) hAS) (cwV 1 hts (gV tw_1_235 tw_1_237 sel_X2_isSoundAlone tw_1_1 tw_1_238) rfl rfl rfl (by decide +kernel) ⟨Nat.le_of_ble_eq_true rfl, Nat.le_of_ble_eq_true rfl⟩) hC hS (fun _ h => h) (fun q h => hA q (Nat.le_trans hS.1 h)) (hW.recv hK) hSS rfl rfl hl.1 (Nat.le_of_ble_eq_true rfl) ⟨Nat.zero_le _, Nat.zero_le _⟩ dX2_isSound_14 (fun rv61 H61 L61 hP61 hk61 hS => ?_)
    have hZ61 := hS.1
    obtain ⟨hv61, hSS⟩ := hP61
    subst hv61
    refine f_ne (tgt := 22) hx hb dX2_isSound_17 (by decide) (fun c_62 => ?_) (fun c_62 => ?_)
    · refine lv_iconst (v := nI 0) hx hb dX2_isSound_22 (by decide) ?_
      refine lv_istore_n (lv' := [(2, .int (nI 0)), (1, .int (nI j)), (0, .ref (SA 0))]) hx hb dX2_isSound_23 rfl hl (by decide) rfl (fun ls hl => ?_)
      have ih1 := ih
      have hs9 := hSS
      obtain ⟨T, es2, hW, hF⟩ := hs9
      have hO := hW.2.1
      have hR1 := hW.2.2.1
      have hR2 := hW.2.2.2.1
      refine nloop (P := fun q => ∀ (ls : Array Slot) , lv_has ls 3 [(2, .int (nI q)), (1, .int (nI j)), (0, .ref (SA 0))] → W p l e rmX2_isSound s m [.ref (SA 0)].toArray below meth c H61 L61 0 0 (MQ below (qI A (fun r H => r = bI true ∧ SS G SA X es k H)) [.ref (SA 0)].toArray s 0 0 (A)) (F0 m 24 ls [])) 4 ?_ 0 (Nat.zero_le _) ls  hl 
      clear hl
      intro q hq ih ls  hl
      have hs9 := hSS
      obtain ⟨T, es2, hW, hF⟩ := hs9
      have hO := hW.2.1
      have hR1 := hW.2.2.1
      have hR2 := hW.2.2.2.1
      refine lv_iload_n hx hb dX2_isSound_24 rfl (lv_at hl 0 rfl) ?_
      refine lv_iconst (v := nI 4) hx hb dX2_isSound_25 (by decide) ?_
      refine b_ge (tgt := 55) hx hb dX2_isSound_26 (by decide) (by omega) (by omega) (fun c_63 => ?_) (fun c_63 => ?_)
      · refine lv_iinc (v := nI (j + 1)) (lv' := [(1, .int (nI (j + 1))), (2, .int (nI q)), (0, .ref (SA 0))]) hx hb dX2_isSound_55 hl (k := 1) rfl (nI_add j 1) (by decide) rfl (fun ls hl => ?_)
        refine lv_goto (tgt := 2) hx hb dX2_isSound_58 (by decide) ?_
        exact ih1 (j + 1) (by omega) (by omega) ls H61 L61 (lv_sub hl [0, 2] rfl) hS hSS
      · refine lv_aload_n hx hb dX2_isSound_29 rfl (lv_at hl 2 rfl) ?_
        refine va_get (D := G.1) (ci := 6) (C := RX2) (T := TX2) (N := 8) hx hb hts inX2 hown hK (at_P hO) 0 rfl rfl 0 (by decide) (hts _ tw_1_137) (fun _ h9 => h9) rfl dX2_isSound_30 ?_
        refine lv_iload_n hx hb dX2_isSound_33 rfl (lv_at hl 1 rfl) ?_
        refine va_aldq (D := G.1) hx hb hK (at_P hR1) 0 3 rfl rfl (vp_in_nI (n := j) (N := 4) (by omega) (by omega)) dX2_isSound_34 ?_
        refine v_cv (show va_rf _ = .ref (SA (7 + 2 * j)) from by rw [nI_clamp (n := j) (by omega)]; rfl) ?_
        refine lv_aload_n hx hb dX2_isSound_35 rfl (lv_at hl 2 rfl) ?_
        refine va_get (D := G.1) (ci := 6) (C := RX2) (T := TX2) (N := 8) hx hb hts inX2 hown hK (at_P hO) 0 rfl rfl 0 (by decide) (hts _ tw_1_137) (fun _ h9 => h9) rfl dX2_isSound_36 ?_
        refine lv_iload_n hx hb dX2_isSound_39 rfl (lv_at hl 0 rfl) ?_
        refine va_aldq (D := G.1) hx hb hK (at_P hR1) 0 3 rfl rfl (vp_in_nI (n := q) (N := 4) (by omega) (by omega)) dX2_isSound_40 ?_
        refine v_cv (show va_rf _ = .ref (SA (7 + 2 * q)) from by rw [nI_clamp (n := q) (by omega)]; rfl) ?_
        refine kS_i (A := A) (As := [.ref (SA (7 + 2 * j)), .ref (SA (7 + 2 * q))]) (rest := []) ⟨hx, hb, hml, hown, hts⟩ (mX2s_isSoundPair (A := A) (ca := SA (8 + 2 * j)) (cb := SA (8 + 2 * q))) (va_cwS 2 hts (gS tw_2_95 tw_2_96 tw_1_1 tw_2_97) rfl rfl rfl (by decide +kernel) ⟨Nat.le_of_ble_eq_true rfl, Nat.le_of_ble_eq_true rfl⟩) hC hS hA  ⟨(hW.line (i := j) (by omega)), (hW.line (i := q) (by omega))⟩ rfl rfl hl.1 (Nat.le_of_ble_eq_true rfl) ⟨Nat.zero_le _, Nat.zero_le _⟩ dX2_isSound_41 (fun r9 h9 => lv_cv h9 ?_)
        refine f_ne (tgt := 49) hx hb dX2_isSound_44 (by decide) (fun c_64 => ?_) (fun c_64 => ?_)
        · refine lv_iinc (v := nI (q + 1)) (lv' := [(2, .int (nI (q + 1))), (1, .int (nI j)), (0, .ref (SA 0))]) hx hb dX2_isSound_49 hl (k := 0) rfl (nI_add q 1) (by decide) rfl (fun ls hl => ?_)
          refine lv_goto (tgt := 24) hx hb dX2_isSound_52 (by decide) ?_
          exact ih (q + 1) (by omega) (by omega) ls (lv_sub hl [0, 1, 2] rfl)
        · exact absurd c_64 (by decide)
    · exact absurd c_62 (by decide)
