/-! Pieces -/
theorem sel_X2_isSoundAlone : Cond.selects "Signtext" yX2_isSoundAlone yX2_isSoundAlone ∈ GW := gw_of (List.mem_append_left _ (List.mem_of_getElem? (i := 0) rfl)) rfl
theorem sel_X2_isSameTakenAgain : Cond.selects "Signtext" yX2_isSameTakenAgain yX2_isSameTakenAgain ∈ GW := gw_of (List.mem_append_left _ (List.mem_of_getElem? (i := 1) rfl)) rfl
theorem sel_X2_isSameInTwoParts : Cond.selects "Signtext" yX2_isSameInTwoParts yX2_isSameInTwoParts ∈ GW := gw_of (List.mem_append_left _ (List.mem_of_getElem? (i := 2) rfl)) rfl
theorem sel_X2_isSameTrimmedAgain : Cond.selects "Signtext" yX2_isSameTrimmedAgain yX2_isSameTrimmedAgain ∈ GW := gw_of (List.mem_append_left _ (List.mem_of_getElem? (i := 3) rfl)) rfl
theorem sel_X2_partInto : Cond.selects "Signtext" yX2_partInto yX2_partInto ∈ GW := gw_of (List.mem_append_left _ (List.mem_of_getElem? (i := 4) rfl)) rfl
theorem sel_X2_isSameOfPieces : Cond.selects "Signtext" yX2_isSameOfPieces yX2_isSameOfPieces ∈ GW := gw_of (List.mem_append_left _ (List.mem_of_getElem? (i := 5) rfl)) rfl
theorem sel_X1_addEnd : Cond.selects "Signtext$Pieces" yX1_addEnd yX1_addEnd ∈ GW := gw_of (List.mem_append_left _ (List.mem_of_getElem? (i := 6) rfl)) rfl
theorem sel_X2_signsOfAll : Cond.selects "Signtext" yX2_signsOfAll yX2_signsOfAll ∈ GW := gw_of (List.mem_append_left _ (List.mem_of_getElem? (i := 7) rfl)) rfl
theorem sel_X2_emptyOnes : Cond.selects "Signtext" yX2_emptyOnes yX2_emptyOnes ∈ GW := gw_of (List.mem_append_left _ (List.mem_of_getElem? (i := 8) rfl)) rfl
theorem sel_X2_textOf : Cond.selects "Signtext" yX2_textOf yX2_textOf ∈ GW := gw_of (List.mem_append_left _ (List.mem_of_getElem? (i := 10) rfl)) rfl
theorem sel_X2_addSignOrNone : Cond.selects "Signtext" yX2_addSignOrNone yX2_addSignOrNone ∈ GW := gw_of (List.mem_append_left _ (List.mem_of_getElem? (i := 11) rfl)) rfl
theorem sel_X2_joinInto : Cond.selects "Signtext" yX2_joinInto yX2_joinInto ∈ GW := gw_of (List.mem_append_left _ (List.mem_of_getElem? (i := 12) rfl)) rfl
theorem sel_X2_addMade : Cond.selects "Signtext" yX2_addMade yX2_addMade ∈ GW := gw_of (List.mem_append_left _ (List.mem_of_getElem? (i := 13) rfl)) rfl
theorem sel_X2_knownOf : Cond.selects "Signtext" yX2_knownOf yX2_knownOf ∈ GW := gw_of (List.mem_append_left _ (List.mem_of_getElem? (i := 14) rfl)) rfl
theorem sel_X2_needPiece : Cond.selects "Signtext" yX2_needPiece yX2_needPiece ∈ GW := gw_of (List.mem_append_left _ (List.mem_of_getElem? (i := 15) rfl)) rfl
theorem sel_X2_pieceInto : Cond.selects "Signtext" yX2_pieceInto yX2_pieceInto ∈ GW := gw_of (List.mem_append_left _ (List.mem_of_getElem? (i := 16) rfl)) rfl
theorem sel_X4_start : Cond.selects "SigntextModel" yX4_start yX4_start ∈ GW := gw_of (List.mem_append_left _ (List.mem_of_getElem? (i := 17) rfl)) rfl
theorem sel_X4_refuse : Cond.selects "SigntextModel" yX4_refuse yX4_refuse ∈ GW := gw_of (List.mem_append_left _ (List.mem_of_getElem? (i := 18) rfl)) rfl
theorem sel_X4_become : Cond.selects "SigntextModel" yX4_become yX4_become ∈ GW := gw_of (List.mem_append_left _ (List.mem_of_getElem? (i := 19) rfl)) rfl
theorem sel_X4_beside : Cond.selects "SigntextModel" yX4_beside yX4_beside ∈ GW := gw_of (List.mem_append_left _ (List.mem_of_getElem? (i := 20) rfl)) rfl
theorem sel_X4_isNoPlace : Cond.selects "SigntextModel" yX4_isNoPlace yX4_isNoPlace ∈ GW := gw_of (List.mem_append_left _ (List.mem_of_getElem? (i := 21) rfl)) rfl
theorem sel_Jx4a65c_add_72be8 : Cond.selects "java/util/ArrayList" yJx4a65c_add_72be8 yJx4a65c_add_72be8 ∈ GW := gw_of (List.mem_append_left _ (List.mem_of_getElem? (i := 22) rfl)) rfl
theorem sel_Jx4a65c_grow_d5877 : Cond.selects "java/util/ArrayList" yJx4a65c_grow_d5877 yJx4a65c_grow_d5877 ∈ GW := gw_of (List.mem_append_left _ (List.mem_of_getElem? (i := 23) rfl)) rfl
theorem sel_Jx4a65c_grow_92f84 : Cond.selects "java/util/ArrayList" yJx4a65c_grow_92f84 yJx4a65c_grow_92f84 ∈ GW := gw_of (List.mem_append_left _ (List.mem_of_getElem? (i := 24) rfl)) rfl
theorem sel_Jx4a65c_fastRemove_b59b0 : Cond.selects "java/util/ArrayList" yJx4a65c_fastRemove_b59b0 yJx4a65c_fastRemove_b59b0 ∈ GW := gw_of (List.mem_append_left _ (List.mem_of_getElem? (i := 25) rfl)) rfl
theorem sel_X4_isNoPiece : Cond.selects "SigntextModel" yX4_isNoPiece yX4_isNoPiece ∈ GW := gw_of (List.mem_append_left _ (List.mem_of_getElem? (i := 26) rfl)) rfl
theorem sel_X4_areNone : Cond.selects "SigntextModel" yX4_areNone yX4_areNone ∈ GW := gw_of (List.mem_append_left _ (List.mem_of_getElem? (i := 27) rfl)) rfl
theorem sel_X4_houseTold : Cond.selects "SigntextModel" yX4_houseTold yX4_houseTold ∈ GW := gw_of (List.mem_append_left _ (List.mem_of_getElem? (i := 28) rfl)) rfl
theorem sel_X4_isTrue : Cond.selects "SigntextModel" yX4_isTrue yX4_isTrue ∈ GW := gw_of (List.mem_append_left _ (List.mem_of_getElem? (i := 29) rfl)) rfl
/-- where a piece begins -/
def bgE (es : List Nat) : Nat → Nat
  | 0 => 0
  | k + 1 => es.getD k 0 + 1
def okE (t es : List Nat) : Prop := ∀ k : Nat, k < es.length → bgE es k ≤ es.getD k 0 ∧ es.getD k 0 ≤ t.length
theorem getD_take {E : List Nat} {n k : Nat} (h : k < n) : (E.take n).getD k 0 = E.getD k 0 := by
  rw [List.getD_eq_getElem?_getD, List.getElem?_take, if_pos h, ← List.getD_eq_getElem?_getD]
theorem bgE_take {E : List Nat} {n k : Nat} (h : k < n) : bgE (E.take n) k = bgE E k := by
  cases k with
  | zero => rfl
  | succ k => show (E.take n).getD k 0 + 1 = E.getD k 0 + 1; rw [getD_take (by omega)]
theorem okE_take {t E : List Nat} (h : okE t E) (n : Nat) : okE t (E.take n) := fun k hk => by
  rw [List.length_take] at hk
  rw [bgE_take (by omega), getD_take (by omega)]
  exact h k (by omega)
/-- the ends of the pieces of a text that begins at i -/
def comE : List Nat → Nat → List Nat
  | [], i => [i]
  | c :: t, i => if c = 44 then i :: comE t (i + 1) else comE t (i + 1)
theorem comE_len (t : List Nat) (i : Nat) : 1 ≤ (comE t i).length ∧ (comE t i).length ≤ t.length + 1 := by
  induction t generalizing i with
  | nil => exact ⟨Nat.le_refl _, Nat.le_refl _⟩
  | cons c t ih =>
    have := ih (i + 1)
    unfold comE
    split <;> simp only [List.length_cons] <;> omega
theorem comE_ne {u : List Nat} {j : Nat} (h : j < u.length) (hc : u.getD j 0 ≠ 44) : comE (u.drop j) j = comE (u.drop (j + 1)) (j + 1) := by
  rw [List.drop_eq_getElem_cons h]
  rw [List.getD_eq_getElem?_getD, List.getElem?_eq_getElem h] at hc
  show (if u[j] = 44 then _ else _) = _
  exact if_neg hc
theorem comE_eq {u : List Nat} {j : Nat} (h : j < u.length) (hc : u.getD j 0 = 44) : comE (u.drop j) j = j :: comE (u.drop (j + 1)) (j + 1) := by
  rw [List.drop_eq_getElem_cons h]
  rw [List.getD_eq_getElem?_getD, List.getElem?_eq_getElem h] at hc
  show (if u[j] = 44 then _ else _) = _
  exact if_pos hc
theorem comE_room {u e9 : List Nat} {j : Nat} (h : e9 ++ comE (u.drop j) j = comE u 0) : e9.length ≤ u.length := by
  have h1 := congrArg List.length h
  rw [List.length_append] at h1
  have h2 := comE_len (u.drop j) j
  have h3 := comE_len u 0
  omega
theorem comE_bd (t : List Nat) (i : Nat) : ∀ k : Nat, k < (comE t i).length → i + k ≤ (comE t i).getD k 0 ∧ (comE t i).getD k 0 ≤ i + t.length ∧ bgE (comE t i) k ≤ (comE t i).getD k 0 := by
  induction t generalizing i with
  | nil =>
    intro k hk
    have : k = 0 := by have : k < 1 := hk; omega
    subst this
    exact ⟨Nat.le_refl _, Nat.le_refl _, Nat.zero_le _⟩
  | cons c t ih =>
    intro k hk
    have ih := ih (i + 1)
    have hl := comE_len t (i + 1)
    unfold comE at hk ⊢
    split at hk
    · next h =>
      rw [if_pos h]
      cases k with
      | zero => exact ⟨Nat.le_refl _, by show i ≤ _; omega, Nat.zero_le _⟩
      | succ k =>
        have h1 := ih k (by simpa using hk)
        rw [List.getD_cons_succ]
        refine ⟨by omega, by simp only [List.length_cons]; omega, ?_⟩
        cases k with
        | zero => show (i :: comE t (i + 1)).getD 0 0 + 1 ≤ _; rw [List.getD_cons_zero]; omega
        | succ k => show (i :: comE t (i + 1)).getD (k + 1) 0 + 1 ≤ _; rw [List.getD_cons_succ]; exact h1.2.2
    · next h =>
      rw [if_neg h]
      have h1 := ih k hk
      exact ⟨by omega, by simp only [List.length_cons]; omega, h1.2.2⟩
theorem comE_ok (u : List Nat) : okE u (comE u 0) := fun k hk => by
  have := comE_bd u 0 k hk
  exact ⟨this.2.2, by omega⟩
/-- what is left when the empty ones at the end have gone -/
def isCut (u es : List Nat) : Prop := ∃ n : Nat, n ≤ (comE u 0).length ∧ es = (comE u 0).take n ∧ (((comE u 0).length ≤ 1 ∧ n = (comE u 0).length) ∨ (1 < (comE u 0).length ∧ (∀ k : Nat, n ≤ k → k < (comE u 0).length → bgE (comE u 0) k = (comE u 0).getD k 0) ∧ (0 < n → bgE (comE u 0) (n - 1) ≠ (comE u 0).getD (n - 1) 0)))
/-- the object and its ends -/
def PB (G : Cx) (a la ea : Nat) (es : List Nat) (H : Heap) : Prop := es.length ≤ 61 ∧ va_at G.1 vwCl (a, .inr (5, [.ref la, .ref ea, .int (nI es.length)])) H ∧ ∃ f : Nat → Int32, va_at G.1 vwCl (ea, .inl (G.2.1 0, 61, .inl f)) H ∧ ∀ j : Nat, j < es.length → f j = nI (es.getD j 0)
def PA (G : Cx) (a la lca ea : Nat) (t es : List Nat) (H : Heap) : Prop := PB G a la ea es H ∧ LA G la lca t H ∧ okE t es ∧ a ≠ la ∧ a ≠ lca ∧ a ≠ ea ∧ ea ≠ la ∧ ea ≠ lca
theorem PB.recv {G : Cx} {a la ea : Nat} {es : List Nat} {H : Heap} {s : State} (h : PB G a la ea es H) (hK : va_K G.1 vwCl (tyL G.2.1) s) : ∃ cell : Cell, H[a]? = some cell ∧ cell.vm.isStatics = false ∧ s.vm.findClass "Signtext$Pieces" = some cell.cls := at_recv hK h.2.1 (q := (RX1, TX1, 3)) rfl
theorem PB.lt {G : Cx} {a la ea : Nat} {es : List Nat} {H : Heap} (h : PB G a la ea es H) : a < H.size ∧ ea < H.size := ⟨h.2.1.lt, by obtain ⟨-, -, f, q, -⟩ := h; exact q.lt⟩
theorem PB.kp {G : Cx} {a la ea : Nat} {es : List Nat} {X : Nat → Prop} {H H1 : Heap} (h : PB G a la ea es H) (hk : kp X H H1) (h1 : ¬ X a) (h2 : ¬ X ea) : PB G a la ea es H1 := by
  obtain ⟨q1, q2, f, q3, q4⟩ := h
  exact ⟨q1, at_kp q2 hk h1, f, at_kp q3 hk h2, q4⟩
theorem PA.kp {G : Cx} {a la lca ea : Nat} {t es : List Nat} {X : Nat → Prop} {H H1 : Heap} (h : PA G a la lca ea t es H) (hk : kp X H H1) (h1 : ¬ X a) (h2 : ¬ X ea) (h3 : ¬ X la) (h4 : ¬ X lca) : PA G a la lca ea t es H1 := ⟨h.1.kp hk h1 h2, h.2.1.kp hk h3 h4, h.2.2⟩
theorem PB.push {G : Cx} {a la ea j : Nat} {es : List Nat} {f : Nat → Int32} {H : Heap} (h : es.length ≤ 60) (hO : va_at G.1 vwCl (a, .inr (5, [.ref la, .ref ea, .int (nI (es.length + 1))])) H) (hE : va_at G.1 vwCl (ea, .inl (G.2.1 0, 61, .inl (upd f es.length (nI j)))) H) (hf : ∀ j : Nat, j < es.length → f j = nI (es.getD j 0)) : PB G a la ea (es ++ [j]) H := by
  have hl : (es ++ [j]).length = es.length + 1 := by rw [List.length_append]; rfl
  refine ⟨by rw [hl]; omega, by rw [hl]; exact hO, _, hE, fun k hk => ?_⟩
  rw [hl] at hk
  by_cases q : k = es.length
  · subst q; rw [pk_us, getD_last]
  · rw [pk_un q, hf k (by omega), getD_app1 (by omega)]
theorem dX1_size_0 : decode cX1_size 0 = .ok (.aload_n 0, 1) := by decide +kernel
theorem dX1_size_1 : decode cX1_size 1 = .ok (.getfield 22, 3) := by decide +kernel
theorem dX1_size_4 : decode cX1_size 4 = .ok (.ireturn, 1) := by decide +kernel
theorem dX1_line_0 : decode cX1_line 0 = .ok (.aload_n 0, 1) := by decide +kernel
theorem dX1_line_1 : decode cX1_line 1 = .ok (.getfield 12, 3) := by decide +kernel
theorem dX1_line_4 : decode cX1_line 4 = .ok (.areturn, 1) := by decide +kernel
theorem dX1_endOf_0 : decode cX1_endOf 0 = .ok (.iload_n 1, 1) := by decide +kernel
theorem dX1_endOf_1 : decode cX1_endOf 1 = .ok (.ifCond .lt 20, 3) := by decide +kernel
theorem dX1_endOf_4 : decode cX1_endOf 4 = .ok (.iload_n 1, 1) := by decide +kernel
theorem dX1_endOf_5 : decode cX1_endOf 5 = .ok (.aload_n 0, 1) := by decide +kernel
theorem dX1_endOf_6 : decode cX1_endOf 6 = .ok (.getfield 22, 3) := by decide +kernel
theorem dX1_endOf_9 : decode cX1_endOf 9 = .ok (.if_icmp .ge 12, 3) := by decide +kernel
theorem dX1_endOf_12 : decode cX1_endOf 12 = .ok (.aload_n 0, 1) := by decide +kernel
theorem dX1_endOf_13 : decode cX1_endOf 13 = .ok (.getfield 18, 3) := by decide +kernel
theorem dX1_endOf_16 : decode cX1_endOf 16 = .ok (.iload_n 1, 1) := by decide +kernel
theorem dX1_endOf_17 : decode cX1_endOf 17 = .ok (.iaload, 1) := by decide +kernel
theorem dX1_endOf_18 : decode cX1_endOf 18 = .ok (.goto 4, 3) := by decide +kernel
theorem dX1_endOf_21 : decode cX1_endOf 21 = .ok (.iconst 0, 1) := by decide +kernel
theorem dX1_endOf_22 : decode cX1_endOf 22 = .ok (.ireturn, 1) := by decide +kernel
theorem dX1_beginOf_0 : decode cX1_beginOf 0 = .ok (.iload_n 1, 1) := by decide +kernel
theorem dX1_beginOf_1 : decode cX1_beginOf 1 = .ok (.ifCond .le 15, 3) := by decide +kernel
theorem dX1_beginOf_4 : decode cX1_beginOf 4 = .ok (.aload_n 0, 1) := by decide +kernel
theorem dX1_beginOf_5 : decode cX1_beginOf 5 = .ok (.iload_n 1, 1) := by decide +kernel
theorem dX1_beginOf_6 : decode cX1_beginOf 6 = .ok (.iconst 1, 1) := by decide +kernel
theorem dX1_beginOf_7 : decode cX1_beginOf 7 = .ok (.isub, 1) := by decide +kernel
theorem dX1_beginOf_8 : decode cX1_beginOf 8 = .ok (.invokevirtual 26, 3) := by decide +kernel
theorem dX1_beginOf_11 : decode cX1_beginOf 11 = .ok (.iconst 1, 1) := by decide +kernel
theorem dX1_beginOf_12 : decode cX1_beginOf 12 = .ok (.iadd, 1) := by decide +kernel
theorem dX1_beginOf_13 : decode cX1_beginOf 13 = .ok (.goto 4, 3) := by decide +kernel
theorem dX1_beginOf_16 : decode cX1_beginOf 16 = .ok (.iconst 0, 1) := by decide +kernel
theorem dX1_beginOf_17 : decode cX1_beginOf 17 = .ok (.ireturn, 1) := by decide +kernel
theorem dX1_cutOf_0 : decode cX1_cutOf 0 = .ok (.aload_n 0, 1) := by decide +kernel
theorem dX1_cutOf_1 : decode cX1_cutOf 1 = .ok (.getfield 12, 3) := by decide +kernel
theorem dX1_cutOf_4 : decode cX1_cutOf 4 = .ok (.aload_n 1, 1) := by decide +kernel
theorem dX1_cutOf_5 : decode cX1_cutOf 5 = .ok (.invokevirtual 30, 3) := by decide +kernel
theorem dX1_cutOf_8 : decode cX1_cutOf 8 = .ok (.aload_n 0, 1) := by decide +kernel
theorem dX1_cutOf_9 : decode cX1_cutOf 9 = .ok (.iconst 0, 1) := by decide +kernel
theorem dX1_cutOf_10 : decode cX1_cutOf 10 = .ok (.putfield 22, 3) := by decide +kernel
theorem dX1_cutOf_13 : decode cX1_cutOf 13 = .ok (.iconst 0, 1) := by decide +kernel
theorem dX1_cutOf_14 : decode cX1_cutOf 14 = .ok (.istore_n 2, 1) := by decide +kernel
theorem dX1_cutOf_15 : decode cX1_cutOf 15 = .ok (.iload_n 2, 1) := by decide +kernel
theorem dX1_cutOf_16 : decode cX1_cutOf 16 = .ok (.aload_n 0, 1) := by decide +kernel
theorem dX1_cutOf_17 : decode cX1_cutOf 17 = .ok (.getfield 12, 3) := by decide +kernel
theorem dX1_cutOf_20 : decode cX1_cutOf 20 = .ok (.invokevirtual 34, 3) := by decide +kernel
theorem dX1_cutOf_23 : decode cX1_cutOf 23 = .ok (.if_icmp .ge 27, 3) := by decide +kernel
theorem dX1_cutOf_26 : decode cX1_cutOf 26 = .ok (.aload_n 0, 1) := by decide +kernel
theorem dX1_cutOf_27 : decode cX1_cutOf 27 = .ok (.getfield 12, 3) := by decide +kernel
theorem dX1_cutOf_30 : decode cX1_cutOf 30 = .ok (.iload_n 2, 1) := by decide +kernel
theorem dX1_cutOf_31 : decode cX1_cutOf 31 = .ok (.invokevirtual 38, 3) := by decide +kernel
theorem dX1_cutOf_34 : decode cX1_cutOf 34 = .ok (.bipush 44, 2) := by decide +kernel
theorem dX1_cutOf_36 : decode cX1_cutOf 36 = .ok (.if_icmp .ne 8, 3) := by decide +kernel
theorem dX1_cutOf_39 : decode cX1_cutOf 39 = .ok (.aload_n 0, 1) := by decide +kernel
theorem dX1_cutOf_40 : decode cX1_cutOf 40 = .ok (.iload_n 2, 1) := by decide +kernel
theorem dX1_cutOf_41 : decode cX1_cutOf 41 = .ok (.invokevirtual 41, 3) := by decide +kernel
theorem dX1_cutOf_44 : decode cX1_cutOf 44 = .ok (.iinc 2 1, 3) := by decide +kernel
theorem dX1_cutOf_47 : decode cX1_cutOf 47 = .ok (.goto (-32), 3) := by decide +kernel
theorem dX1_cutOf_50 : decode cX1_cutOf 50 = .ok (.aload_n 0, 1) := by decide +kernel
theorem dX1_cutOf_51 : decode cX1_cutOf 51 = .ok (.aload_n 0, 1) := by decide +kernel
theorem dX1_cutOf_52 : decode cX1_cutOf 52 = .ok (.getfield 12, 3) := by decide +kernel
theorem dX1_cutOf_55 : decode cX1_cutOf 55 = .ok (.invokevirtual 34, 3) := by decide +kernel
theorem dX1_cutOf_58 : decode cX1_cutOf 58 = .ok (.invokevirtual 41, 3) := by decide +kernel
theorem dX1_cutOf_61 : decode cX1_cutOf 61 = .ok (.aload_n 0, 1) := by decide +kernel
theorem dX1_cutOf_62 : decode cX1_cutOf 62 = .ok (.getfield 22, 3) := by decide +kernel
theorem dX1_cutOf_65 : decode cX1_cutOf 65 = .ok (.iconst 1, 1) := by decide +kernel
theorem dX1_cutOf_66 : decode cX1_cutOf 66 = .ok (.if_icmp .le 7, 3) := by decide +kernel
theorem dX1_cutOf_69 : decode cX1_cutOf 69 = .ok (.iconst 1, 1) := by decide +kernel
theorem dX1_cutOf_70 : decode cX1_cutOf 70 = .ok (.goto 4, 3) := by decide +kernel
theorem dX1_cutOf_73 : decode cX1_cutOf 73 = .ok (.iconst 0, 1) := by decide +kernel
theorem dX1_cutOf_74 : decode cX1_cutOf 74 = .ok (.istore_n 2, 1) := by decide +kernel
theorem dX1_cutOf_75 : decode cX1_cutOf 75 = .ok (.iload_n 2, 1) := by decide +kernel
theorem dX1_cutOf_76 : decode cX1_cutOf 76 = .ok (.ifCond .eq 46, 3) := by decide +kernel
theorem dX1_cutOf_79 : decode cX1_cutOf 79 = .ok (.aload_n 0, 1) := by decide +kernel
theorem dX1_cutOf_80 : decode cX1_cutOf 80 = .ok (.getfield 22, 3) := by decide +kernel
theorem dX1_cutOf_83 : decode cX1_cutOf 83 = .ok (.ifCond .le 39, 3) := by decide +kernel
theorem dX1_cutOf_86 : decode cX1_cutOf 86 = .ok (.aload_n 0, 1) := by decide +kernel
theorem dX1_cutOf_87 : decode cX1_cutOf 87 = .ok (.aload_n 0, 1) := by decide +kernel
theorem dX1_cutOf_88 : decode cX1_cutOf 88 = .ok (.getfield 22, 3) := by decide +kernel
theorem dX1_cutOf_91 : decode cX1_cutOf 91 = .ok (.iconst 1, 1) := by decide +kernel
theorem dX1_cutOf_92 : decode cX1_cutOf 92 = .ok (.isub, 1) := by decide +kernel
theorem dX1_cutOf_93 : decode cX1_cutOf 93 = .ok (.invokevirtual 45, 3) := by decide +kernel
theorem dX1_cutOf_96 : decode cX1_cutOf 96 = .ok (.aload_n 0, 1) := by decide +kernel
theorem dX1_cutOf_97 : decode cX1_cutOf 97 = .ok (.aload_n 0, 1) := by decide +kernel
theorem dX1_cutOf_98 : decode cX1_cutOf 98 = .ok (.getfield 22, 3) := by decide +kernel
theorem dX1_cutOf_101 : decode cX1_cutOf 101 = .ok (.iconst 1, 1) := by decide +kernel
theorem dX1_cutOf_102 : decode cX1_cutOf 102 = .ok (.isub, 1) := by decide +kernel
theorem dX1_cutOf_103 : decode cX1_cutOf 103 = .ok (.invokevirtual 26, 3) := by decide +kernel
theorem dX1_cutOf_106 : decode cX1_cutOf 106 = .ok (.if_icmp .ne 16, 3) := by decide +kernel
theorem dX1_cutOf_109 : decode cX1_cutOf 109 = .ok (.aload_n 0, 1) := by decide +kernel
theorem dX1_cutOf_110 : decode cX1_cutOf 110 = .ok (.dup, 1) := by decide +kernel
theorem dX1_cutOf_111 : decode cX1_cutOf 111 = .ok (.getfield 22, 3) := by decide +kernel
theorem dX1_cutOf_114 : decode cX1_cutOf 114 = .ok (.iconst 1, 1) := by decide +kernel
theorem dX1_cutOf_115 : decode cX1_cutOf 115 = .ok (.isub, 1) := by decide +kernel
theorem dX1_cutOf_116 : decode cX1_cutOf 116 = .ok (.putfield 22, 3) := by decide +kernel
theorem dX1_cutOf_119 : decode cX1_cutOf 119 = .ok (.goto (-44), 3) := by decide +kernel
theorem dX1_cutOf_122 : decode cX1_cutOf 122 = .ok (.return_, 1) := by decide +kernel
theorem dX1_addEnd_0 : decode cX1_addEnd 0 = .ok (.aload_n 0, 1) := by decide +kernel
theorem dX1_addEnd_1 : decode cX1_addEnd 1 = .ok (.getfield 22, 3) := by decide +kernel
theorem dX1_addEnd_4 : decode cX1_addEnd 4 = .ok (.bipush 60, 2) := by decide +kernel
theorem dX1_addEnd_6 : decode cX1_addEnd 6 = .ok (.if_icmp .gt 23, 3) := by decide +kernel
theorem dX1_addEnd_9 : decode cX1_addEnd 9 = .ok (.aload_n 0, 1) := by decide +kernel
theorem dX1_addEnd_10 : decode cX1_addEnd 10 = .ok (.getfield 18, 3) := by decide +kernel
theorem dX1_addEnd_13 : decode cX1_addEnd 13 = .ok (.aload_n 0, 1) := by decide +kernel
theorem dX1_addEnd_14 : decode cX1_addEnd 14 = .ok (.getfield 22, 3) := by decide +kernel
theorem dX1_addEnd_17 : decode cX1_addEnd 17 = .ok (.iload_n 1, 1) := by decide +kernel
theorem dX1_addEnd_18 : decode cX1_addEnd 18 = .ok (.iastore, 1) := by decide +kernel
theorem dX1_addEnd_19 : decode cX1_addEnd 19 = .ok (.aload_n 0, 1) := by decide +kernel
theorem dX1_addEnd_20 : decode cX1_addEnd 20 = .ok (.dup, 1) := by decide +kernel
theorem dX1_addEnd_21 : decode cX1_addEnd 21 = .ok (.getfield 22, 3) := by decide +kernel
theorem dX1_addEnd_24 : decode cX1_addEnd 24 = .ok (.iconst 1, 1) := by decide +kernel
theorem dX1_addEnd_25 : decode cX1_addEnd 25 = .ok (.iadd, 1) := by decide +kernel
theorem dX1_addEnd_26 : decode cX1_addEnd 26 = .ok (.putfield 22, 3) := by decide +kernel
theorem dX1_addEnd_29 : decode cX1_addEnd 29 = .ok (.return_, 1) := by decide +kernel
abbrev rmX1_size : Room := { frames := 1, cells := 0, slots := 0, locals := 20 }
theorem mX1_size {l : Launch} {G : Cx} {A : Nat → Prop} {a la ea : Nat} {es : List Nat} : Met l yX1_size (.code yX1_size cX1_size 1 (some .int) :: GW) rmX1_size (PC G A [.ref a] (PB G a la ea es)) (vp_Si (fun r => r = nI es.length)) 0 0 (fun _ => False) := by
  refine mstart "Signtext$Pieces" (by decide +kernel) rfl (Nat.le_of_ble_eq_true rfl) ?_
  intro p e s m below meth c ls hx hb hr hts hown hml hlocks hname hC hA hW hl
  have hl : lv_has ls 1 [(0, .ref a)] := hl
  have hK := hC.1
  have hS : va_S A s.heap s.heap [] := va_S.rf
  have hq9 := hW
  obtain ⟨e61, hO, f, hE, hf⟩ := hq9
  refine lv_aload_n hx hb dX1_size_0 rfl (lv_at hl 0 rfl) ?_
  refine va_get (D := G.1) (ci := 5) (C := RX1) (T := TX1) (N := 3) hx hb hts inX1 hown hK (at_P hO) 0 rfl rfl 2 (by decide) (hts _ tw_1_62) (fun _ h9 => h9) rfl dX1_size_1 ?_
  exact p_i hx hb hr hlocks dX1_size_4 rfl

abbrev rmX1_line : Room := { frames := 1, cells := 0, slots := 0, locals := 20 }
theorem mX1_line {l : Launch} {G : Cx} {A : Nat → Prop} {a la ea : Nat} {es : List Nat} : Met l yX1_line (.code yX1_line cX1_line 1 (some (.object "Signtext$Line")) :: GW) rmX1_line (PC G A [.ref a] (PB G a la ea es)) (pR (fun r => r = la)) 0 0 (fun _ => False) := by
  refine mstart "Signtext$Pieces" (by decide +kernel) rfl (Nat.le_of_ble_eq_true rfl) ?_
  intro p e s m below meth c ls hx hb hr hts hown hml hlocks hname hC hA hW hl
  have hl : lv_has ls 1 [(0, .ref a)] := hl
  have hK := hC.1
  have hS : va_S A s.heap s.heap [] := va_S.rf
  have hq9 := hW
  obtain ⟨e61, hO, f, hE, hf⟩ := hq9
  refine lv_aload_n hx hb dX1_line_0 rfl (lv_at hl 0 rfl) ?_
  refine va_get (D := G.1) (ci := 5) (C := RX1) (T := TX1) (N := 3) hx hb hts inX1 hown hK (at_P hO) 0 rfl rfl 0 (by decide) (hts _ tw_1_60) (fun _ h9 => h9) rfl dX1_line_1 ?_
  exact p_a hx hb hr (Or.inl ⟨_, rfl⟩) hlocks dX1_line_4 rfl

abbrev rmX1_endOf : Room := { frames := 1, cells := 0, slots := 0, locals := 20 }
theorem mX1_endOf {l : Launch} {G : Cx} {A : Nat → Prop} {a la ea : Nat} {es : List Nat} {k : Nat} (hk : k < es.length) : Met l yX1_endOf (.code yX1_endOf cX1_endOf 2 (some .int) :: GW) rmX1_endOf (PC G A [.ref a, .int (nI k)] (PB G a la ea es)) (vp_Si (fun r => r = nI (es.getD k 0))) 0 0 (fun _ => False) := by
  refine mstart "Signtext$Pieces" (by decide +kernel) rfl (Nat.le_of_ble_eq_true rfl) ?_
  intro p e s m below meth c ls hx hb hr hts hown hml hlocks hname hC hA hW hl
  have hl : lv_has ls 2 [(0, .ref a), (1, .int (nI k))] := hl
  have hK := hC.1
  have hS : va_S A s.heap s.heap [] := va_S.rf
  have hq9 := hW
  obtain ⟨e61, hO, f, hE, hf⟩ := hq9
  refine lv_iload_n hx hb dX1_endOf_0 rfl (lv_at hl 1 rfl) ?_
  refine z_lt (tgt := 21) hx hb dX1_endOf_1 (by decide) (by omega) ?_
  refine lv_iload_n hx hb dX1_endOf_4 rfl (lv_at hl 1 rfl) ?_
  refine lv_aload_n hx hb dX1_endOf_5 rfl (lv_at hl 0 rfl) ?_
  refine va_get (D := G.1) (ci := 5) (C := RX1) (T := TX1) (N := 3) hx hb hts inX1 hown hK (at_P hO) 0 rfl rfl 2 (by decide) (hts _ tw_1_62) (fun _ h9 => h9) rfl dX1_endOf_6 ?_
  refine b_ge (tgt := 21) hx hb dX1_endOf_9 (by decide) (by omega) (by omega) (fun c_2 => ?_) (fun c_2 => ?_)
  · exact absurd c_2 (by omega)
  · refine lv_aload_n hx hb dX1_endOf_12 rfl (lv_at hl 0 rfl) ?_
    refine va_get (D := G.1) (ci := 5) (C := RX1) (T := TX1) (N := 3) hx hb hts inX1 hown hK (at_P hO) 0 rfl rfl 1 (by decide) (hts _ tw_1_61) (fun _ h9 => h9) rfl dX1_endOf_13 ?_
    refine lv_iload_n hx hb dX1_endOf_16 rfl (lv_at hl 1 rfl) ?_
    refine va_iald hx hb hK (at_P hE) 0 0 rfl rfl (vp_in_nI (n := k) (N := 61) (by omega) (by omega)) dX1_endOf_17 ?_
    refine lv_cv (show _ = nI (es.getD k 0) from by rw [nI_clamp (by omega)]; exact hf _ (by omega)) ?_
    refine lv_goto (tgt := 22) hx hb dX1_endOf_18 (by decide) ?_
    exact p_i hx hb hr hlocks dX1_endOf_22 rfl

abbrev rmX1_beginOf : Room := { frames := 2, cells := 0, slots := 0, locals := 41 }
theorem mX1_beginOf {l : Launch} {G : Cx} {A : Nat → Prop} {a la ea : Nat} {es : List Nat} {k : Nat} (hk : k ≤ es.length) : Met l yX1_beginOf (.code yX1_beginOf cX1_beginOf 2 (some .int) :: GW) rmX1_beginOf (PC G A [.ref a, .int (nI k)] (PB G a la ea es)) (vp_Si (fun r => r = nI (bgE es k))) 0 0 (fun _ => False) := by
  refine mstart "Signtext$Pieces" (by decide +kernel) rfl (Nat.le_of_ble_eq_true rfl) ?_
  intro p e s m below meth c ls hx hb hr hts hown hml hlocks hname hC hA hW hl
  have hl : lv_has ls 2 [(0, .ref a), (1, .int (nI k))] := hl
  have hK := hC.1
  have hS : va_S A s.heap s.heap [] := va_S.rf
  have hW0 := hW
  have hq9 := hW
  obtain ⟨e61, hO, f, hE, hf⟩ := hq9
  cases k with
  | zero =>
    refine lv_iload_n hx hb dX1_beginOf_0 rfl (lv_at hl 1 rfl) ?_
    refine lv_if_le (tgt := 16) hx hb dX1_beginOf_1 (by decide) (fun _ => ?_) (fun q => absurd (by decide) q)
    refine lv_iconst (v := nI 0) hx hb dX1_beginOf_16 (by decide) ?_
    exact p_i hx hb hr hlocks dX1_beginOf_17 rfl
  | succ k =>
    refine lv_iload_n hx hb dX1_beginOf_0 rfl (lv_at hl 1 rfl) ?_
    refine lv_if_le (tgt := 16) hx hb dX1_beginOf_1 (by decide) (fun q => absurd q (nI_nle (Nat.succ_pos k) (by omega))) (fun _ => ?_)
    refine lv_aload_n hx hb dX1_beginOf_4 rfl (lv_at hl 0 rfl) ?_
    refine lv_iload_n hx hb dX1_beginOf_5 rfl (lv_at hl 1 rfl) ?_
    refine lv_iconst (v := nI 1) hx hb dX1_beginOf_6 (by decide) ?_
    refine lv_isub hx hb dX1_beginOf_7 ?_
    refine lv_cv (nI_pred k) ?_
    refine kV_i (A := A) (b := a) (As := [.int (nI k)]) (rest := []) ⟨hx, hb, hml, hown, hts⟩ (mX1_endOf (A := A) (la := la) (ea := ea) (k := k) (by omega)) (cwV 1 hts (gV tw_2_78 tw_2_79 tw_2_80 tw_1_3 tw_2_81) rfl rfl rfl (by decide +kernel) ⟨Nat.le_of_ble_eq_true rfl, Nat.le_of_ble_eq_true rfl⟩) hC hS hA (hW0.recv hK) hW0 rfl rfl hl.1 (Nat.le_of_ble_eq_true rfl) ⟨Nat.zero_le _, Nat.zero_le _⟩ dX1_beginOf_8 (fun r9 h9 => lv_cv h9 ?_)
    refine lv_iconst (v := nI 1) hx hb dX1_beginOf_11 (by decide) ?_
    refine lv_iadd hx hb dX1_beginOf_12 ?_
    refine lv_cv (nI_add (es.getD k 0) 1) ?_
    refine lv_goto (tgt := 17) hx hb dX1_beginOf_13 (by decide) ?_
    exact p_i hx hb hr hlocks dX1_beginOf_17 rfl

abbrev rmX1_addEnd : Room := { frames := 1, cells := 0, slots := 0, locals := 20 }
theorem mX1_addEnd {l : Launch} {G : Cx} {A : Nat → Prop} {a la ea : Nat} {es : List Nat} {j : Nat} (hAa : A a) (hAe : A ea) (hne : a ≠ ea) (h60 : es.length ≤ 60) : Met l yX1_addEnd (.code yX1_addEnd cX1_addEnd 2 (none : Option Jvm.ClassFile.FieldType) :: GW) rmX1_addEnd (PC G A [.ref a, .int (nI j)] (PB G a la ea es)) (qV A (PB G a la ea (es ++ [j]))) 0 0 (A) := by
  refine mstart "Signtext$Pieces" (by decide +kernel) rfl (Nat.le_of_ble_eq_true rfl) ?_
  intro p e s m below meth c ls hx hb hr hts hown hml hlocks hname hC hA hW hl
  have hl : lv_has ls 2 [(0, .ref a), (1, .int (nI j))] := hl
  have hK := hC.1
  have hS : va_S A s.heap s.heap [] := va_S.rf
  have hq9 := hW
  obtain ⟨e61, hO, f, hE, hf⟩ := hq9
  refine lv_aload_n hx hb dX1_addEnd_0 rfl (lv_at hl 0 rfl) ?_
  refine va_get (D := G.1) (ci := 5) (C := RX1) (T := TX1) (N := 3) hx hb hts inX1 hown hK (at_P hO) 0 rfl rfl 2 (by decide) (hts _ tw_1_62) (fun _ h9 => h9) rfl dX1_addEnd_1 ?_
  refine lv_bipush (v := nI 60) hx hb dX1_addEnd_4 (by decide) ?_
  refine b_gt (tgt := 29) hx hb dX1_addEnd_6 (by decide) (by omega) (by omega) (fun c_3 => ?_) (fun c_3 => ?_)
  · exact absurd c_3 (by omega)
  · refine lv_aload_n hx hb dX1_addEnd_9 rfl (lv_at hl 0 rfl) ?_
    refine va_get (D := G.1) (ci := 5) (C := RX1) (T := TX1) (N := 3) hx hb hts inX1 hown hK (at_P hO) 0 rfl rfl 1 (by decide) (hts _ tw_1_61) (fun _ h9 => h9) rfl dX1_addEnd_10 ?_
    refine lv_aload_n hx hb dX1_addEnd_13 rfl (lv_at hl 0 rfl) ?_
    refine va_get (D := G.1) (ci := 5) (C := RX1) (T := TX1) (N := 3) hx hb hts inX1 hown hK (at_P hO) 0 rfl rfl 2 (by decide) (hts _ tw_1_62) (fun _ h9 => h9) rfl dX1_addEnd_14 ?_
    refine lv_iload_n hx hb dX1_addEnd_17 rfl (lv_at hl 1 rfl) ?_
    refine h_ist (D := G.1) hx hb hK 0 hE rfl hS hAe (vp_in_nI (n := es.length) (N := 61) (by omega) (by omega)) dX1_addEnd_18 (fun H4 L4 hE z4 o4 hS => ?_)
    rw [nI_clamp (n := es.length) (by omega)] at hE
    have hO := at_o hO o4 hne
    have hZ4 := hS.1
    refine lv_aload_n hx hb dX1_addEnd_19 rfl (lv_at hl 0 rfl) ?_
    refine lv_dup hx hb dX1_addEnd_20 rfl ?_
    refine va_get (D := G.1) (ci := 5) (C := RX1) (T := TX1) (N := 3) hx hb hts inX1 hown hK (at_P hO) 0 rfl rfl 2 (by decide) (hts _ tw_1_62) (fun _ h9 => h9) rfl dX1_addEnd_21 ?_
    refine lv_iconst (v := nI 1) hx hb dX1_addEnd_24 (by decide) ?_
    refine lv_iadd hx hb dX1_addEnd_25 ?_
    refine lv_cv (nI_add es.length 1) ?_
    refine h_put (D := G.1) (ci := 5) (C := RX1) (T := TX1) (N := 3) hx hb hts inX1 tyX1 tyX1_ok nmX1 hown hK hO hS hAa rfl 2 (by decide) (hts _ tw_1_62) (fun _ h9 => h9) rfl (tyX1_ok 2 (by decide)) rfl rfl (Nat.le_of_ble_eq_true rfl) dX1_addEnd_26 (fun H5 L5 hO z5 o5 hS => ?_)
    have hO : va_at G.1 vwCl (a, .inr (5, [.ref la, .ref ea, .int (nI (es.length + 1))])) H5 := hO
    have hE := at_o hE o5 (Ne.symm hne)
    have hZ5 := hS.1
    exact q_v hx hb hr hlocks dX1_addEnd_29 hS (Nat.le_refl _) (Nat.le_refl _) (PB.push h60 hO hE hf)

abbrev rmX1_cutOf : Room := { frames := 3, cells := 0, slots := 0, locals := 62 }
theorem mX1_cutOf {l : Launch} {G : Cx} {A : Nat → Prop} {a la lca ea b cb : Nat} {t u es : List Nat} (hAa : A a) (hAl : A la) (hAc : A lca) (hAe : A ea) (hd : b ≠ a ∧ b ≠ la ∧ b ≠ lca ∧ b ≠ ea) (hd2 : cb ≠ a ∧ cb ≠ la ∧ cb ≠ lca ∧ cb ≠ ea) : Met l yX1_cutOf (.code yX1_cutOf cX1_cutOf 3 (none : Option Jvm.ClassFile.FieldType) :: GW) rmX1_cutOf (PC G A [.ref a, .ref b] (fun H => PA G a la lca ea t es H ∧ LA G b cb u H)) (qV A (fun H => (∃ es1, isCut u es1 ∧ PA G a la lca ea u es1 H) ∧ LA G b cb u H)) 0 0 (A) := by
  refine mstart "Signtext$Pieces" (by decide +kernel) rfl (Nat.le_of_ble_eq_true rfl) ?_
  intro p e s m below meth c ls hx hb hr hts hown hml hlocks hname hC hA hW hl
  have hl : lv_has ls 3 [(0, .ref a), (1, .ref b)] := hl
  have hK := hC.1
  have hS : va_S A s.heap s.heap [] := va_S.rf
  obtain ⟨⟨hPB, hL, -, nal, nac, nae, nel, nec⟩, hB⟩ := hW
  obtain ⟨d1, d2, d3, d4⟩ := hd
  obtain ⟨d5, d6, d7, d8⟩ := hd2
  obtain ⟨e61, hO, f, hE, hf⟩ := hPB
  refine lv_aload_n hx hb dX1_cutOf_0 rfl (lv_at hl 0 rfl) ?_
  refine va_get (D := G.1) (ci := 5) (C := RX1) (T := TX1) (N := 3) hx hb hts inX1 hown hK (at_P hO) 0 rfl rfl 0 (by decide) (hts _ tw_1_60) (fun _ h9 => h9) rfl dX1_cutOf_1 ?_
  refine lv_aload_n hx hb dX1_cutOf_4 rfl (lv_at hl 1 rfl) ?_
  refine qV_V (A := A) (A1 := ow la lca s.heap.size) (b := la) (As := [.ref b]) (rest := []) ⟨hx, hb, hml, hown, hts⟩ (mX0_become (A := ow la lca s.heap.size) (ca := lca) (cb := cb) (t := t) (u := u) (Or.inl rfl) (Or.inr (Or.inl rfl)) ⟨d2, d3, d6, d7⟩) (cwV 1 hts (gV tw_2_67 tw_2_4 tw_2_5 tw_1_2 tw_2_6) rfl rfl rfl (by decide +kernel) ⟨Nat.le_of_ble_eq_true rfl, Nat.le_of_ble_eq_true rfl⟩) hC hS (ow_in hAl hAc hA (Nat.le_refl _)) ow_n (hL.recv hK) ⟨hL, hB⟩ rfl rfl hl.1 (Nat.le_of_ble_eq_true rfl) ⟨Nat.zero_le _, Nat.zero_le _⟩ dX1_cutOf_5 (fun H6 L6 hP6 hk6 hS => ?_)
  have hZ6 := hS.1
  have hO := at_kp hO hk6 (ow_no nal nac hO.lt)
  have hE := at_kp hE hk6 (ow_no nel nec hE.lt)
  obtain ⟨hL, hB⟩ := hP6
  have u60 := hL.1
  have uok := hL.2.1
  refine lv_aload_n hx hb dX1_cutOf_8 rfl (lv_at hl 0 rfl) ?_
  refine lv_iconst (v := nI 0) hx hb dX1_cutOf_9 (by decide) ?_
  refine h_put (D := G.1) (ci := 5) (C := RX1) (T := TX1) (N := 3) hx hb hts inX1 tyX1 tyX1_ok nmX1 hown hK hO hS hAa rfl 2 (by decide) (hts _ tw_1_62) (fun _ h9 => h9) rfl (tyX1_ok 2 (by decide)) rfl rfl (Nat.le_of_ble_eq_true rfl) dX1_cutOf_10 (fun H7 L7 hO z7 o7 hS => ?_)
  have hO : va_at G.1 vwCl (a, .inr (5, [.ref la, .ref ea, .int (nI 0)])) H7 := hO
  have hE := at_o hE o7 (Ne.symm nae)
  have hL := LA.o hL o7 nal.symm nac.symm
  have hB := LA.o hB o7 d1 d5
  have hZ7 := hS.1
  refine lv_iconst (v := nI 0) hx hb dX1_cutOf_13 (by decide) ?_
  refine lv_istore_n (lv' := [(2, .int (nI 0)), (0, .ref a), (1, .ref b)]) hx hb dX1_cutOf_14 rfl hl (by decide) rfl (fun ls hl => ?_)
  have hPB : PB G a la ea [] H7 := ⟨Nat.zero_le _, hO, f, hE, fun j hj => absurd hj (Nat.not_lt_zero j)⟩
  refine nloop (P := fun j => ∀ (ls : Array Slot) (H : Heap) (L : List Loc) (e9 : List Nat), lv_has ls 3 [(2, .int (nI j)), (0, .ref a), (1, .ref b)] → va_S A s.heap H L → PB G a la ea e9 H → LA G la lca u H → LA G b cb u H → e9 ++ comE (u.drop j) j = comE u 0 → W p l e rmX1_cutOf s m [.ref a, .ref b].toArray below meth c H L 0 0 (MQ below (qV A (fun H => (∃ es1, isCut u es1 ∧ PA G a la lca ea u es1 H) ∧ LA G b cb u H)) [.ref a, .ref b].toArray s 0 0 (A)) (F0 m 15 ls [])) u.length ?_ 0 (Nat.zero_le _) ls H7 L7 [] hl hS hPB hL hB rfl
  clear hl
  intro j hj ih ls H L e9 hl
  clear hS hPB hL hB hO hE hf
  intro hS hPB hL hB hEE
  have hZ0 := hS.1
  have hPB0 := hPB
  obtain ⟨e61, hO, f, hE, hf⟩ := hPB
  refine lv_iload_n hx hb dX1_cutOf_15 rfl (lv_at hl 0 rfl) ?_
  refine lv_aload_n hx hb dX1_cutOf_16 rfl (lv_at hl 1 rfl) ?_
  refine va_get (D := G.1) (ci := 5) (C := RX1) (T := TX1) (N := 3) hx hb hts inX1 hown hK (at_P hO) 0 rfl rfl 0 (by decide) (hts _ tw_1_60) (fun _ h9 => h9) rfl dX1_cutOf_17 ?_
  refine kV_i (A := A) (b := la) (As := []) (rest := .int (nI j) :: []) ⟨hx, hb, hml, hown, hts⟩ (mX0_size (A := A) (ca := lca)) (cwV 0 hts (gV tw_2_68 tw_2_12 tw_2_13 tw_1_2 tw_2_14) rfl rfl rfl (by decide +kernel) ⟨Nat.le_of_ble_eq_true rfl, Nat.le_of_ble_eq_true rfl⟩) hC hS hA (hL.recv hK) hL rfl rfl hl.1 (Nat.le_of_ble_eq_true rfl) ⟨Nat.zero_le _, Nat.zero_le _⟩ dX1_cutOf_20 (fun r9 h9 => lv_cv h9 ?_)
  have h60 := comE_room hEE
  have h60 : e9.length ≤ 60 := by omega
  refine b_ge (tgt := 50) hx hb dX1_cutOf_23 (by decide) (by omega) (by omega) (fun c_8 => ?_) (fun c_8 => ?_)
  · obtain rfl : j = u.length := by omega
    rw [List.drop_length] at hEE
    refine lv_aload_n hx hb dX1_cutOf_50 rfl (lv_at hl 1 rfl) ?_
    refine lv_aload_n hx hb dX1_cutOf_51 rfl (lv_at hl 1 rfl) ?_
    refine va_get (D := G.1) (ci := 5) (C := RX1) (T := TX1) (N := 3) hx hb hts inX1 hown hK (at_P hO) 0 rfl rfl 0 (by decide) (hts _ tw_1_60) (fun _ h9 => h9) rfl dX1_cutOf_52 ?_
    refine kV_i (A := A) (b := la) (As := []) (rest := .ref a :: []) ⟨hx, hb, hml, hown, hts⟩ (mX0_size (A := A) (ca := lca)) (cwV 0 hts (gV tw_2_68 tw_2_12 tw_2_13 tw_1_2 tw_2_14) rfl rfl rfl (by decide +kernel) ⟨Nat.le_of_ble_eq_true rfl, Nat.le_of_ble_eq_true rfl⟩) hC hS hA (hL.recv hK) hL rfl rfl hl.1 (Nat.le_of_ble_eq_true rfl) ⟨Nat.zero_le _, Nat.zero_le _⟩ dX1_cutOf_55 (fun r9 h9 => lv_cv h9 ?_)
    refine qV_V (A := A) (A1 := ow a ea H.size) (b := a) (As := [.int (nI u.length)]) (rest := []) ⟨hx, hb, hml, hown, hts⟩ (mX1_addEnd (A := ow a ea H.size) (la := la) (ea := ea) (es := e9) (j := u.length) (Or.inl rfl) (Or.inr (Or.inl rfl)) nae h60) (cwV 1 hts (gV tw_2_70 tw_2_72 sel_X1_addEnd tw_1_3 tw_2_73) rfl rfl rfl (by decide +kernel) ⟨Nat.le_of_ble_eq_true rfl, Nat.le_of_ble_eq_true rfl⟩) hC hS (ow_in hAa hAe hA hZ0) ow_n (hPB0.recv hK) hPB0 rfl rfl hl.1 (Nat.le_of_ble_eq_true rfl) ⟨Nat.zero_le _, Nat.zero_le _⟩ dX1_cutOf_58 (fun H9 L9 hP9 hk9 hS => ?_)
    have hZ9 := hS.1
    have hL := hL.kp hk9 (ow_no nal.symm nel.symm hL.lt.1) (ow_no nac.symm nec.symm hL.lt.2)
    have hB := hB.kp hk9 (ow_no d1 d4 hB.lt.1) (ow_no d5 d8 hB.lt.2)
    have hEE : e9 ++ [u.length] = comE u 0 := hEE
    rw [hEE] at hP9
    have hPB0 := hP9
    generalize hEg : comE u 0 = E at hPB0 hEE
    have hEl := comE_len u 0
    rw [hEg] at hEl
    have hq9 := hPB0
    obtain ⟨e61, hO, f, hE, hf⟩ := hq9
    refine lv_aload_n hx hb dX1_cutOf_61 rfl (lv_at hl 1 rfl) ?_
    refine va_get (D := G.1) (ci := 5) (C := RX1) (T := TX1) (N := 3) hx hb hts inX1 hown hK (at_P hO) 0 rfl rfl 2 (by decide) (hts _ tw_1_62) (fun _ h9 => h9) rfl dX1_cutOf_62 ?_
    refine lv_iconst (v := nI 1) hx hb dX1_cutOf_65 (by decide) ?_
    refine b_le (tgt := 73) hx hb dX1_cutOf_66 (by decide) (by omega) (by omega) (fun c_10 => ?_) (fun c_10 => ?_)
    · refine lv_iconst (v := nI 0) hx hb dX1_cutOf_73 (by decide) ?_
      refine lv_istore_n (lv' := [(2, .int (bI false)), (0, .ref a), (1, .ref b)]) hx hb dX1_cutOf_74 rfl hl (by decide) rfl (fun ls hl => ?_)
      refine lv_iload_n hx hb dX1_cutOf_75 rfl (lv_at hl 0 rfl) ?_
      refine f_eq (tgt := 122) hx hb dX1_cutOf_76 (by decide) (fun c_11 => ?_) (fun c_11 => ?_)
      · exact q_v hx hb hr hlocks dX1_cutOf_122 hS (Nat.le_refl _) (Nat.le_refl _) ⟨⟨E, ⟨E.length, hEg.symm ▸ Nat.le_refl _, by rw [hEg, List.take_length], Or.inl ⟨by rw [hEg]; omega, by rw [hEg]⟩⟩, hPB0, hL, hEg ▸ comE_ok u, nal, nac, nae, nel, nec⟩, hB⟩
      · exact absurd c_11 (by decide)
    · refine lv_iconst (v := nI 1) hx hb dX1_cutOf_69 (by decide) ?_
      refine lv_goto (tgt := 74) hx hb dX1_cutOf_70 (by decide) ?_
      refine lv_istore_n (lv' := [(2, .int (bI true)), (0, .ref a), (1, .ref b)]) hx hb dX1_cutOf_74 rfl hl (by decide) rfl (fun ls hl => ?_)
      refine dloop (P := fun j => ∀ (ls : Array Slot) (H : Heap) (L : List Loc), lv_has ls 3 [(2, .int (bI true)), (0, .ref a), (1, .ref b)] → va_S A s.heap H L → PB G a la ea (E.take j) H → LA G la lca u H → LA G b cb u H → j ≤ E.length → (∀ k : Nat, j ≤ k → k < E.length → bgE E k = E.getD k 0) → W p l e rmX1_cutOf s m [.ref a, .ref b].toArray below meth c H L 0 0 (MQ below (qV A (fun H => (∃ es1, isCut u es1 ∧ PA G a la lca ea u es1 H) ∧ LA G b cb u H)) [.ref a, .ref b].toArray s 0 0 (A)) (F0 m 75 ls [])) ?_ E.length ls H9 L9 hl hS (by rw [List.take_length]; exact hPB0) hL hB (Nat.le_refl _) (fun k h1 h2 => absurd h2 (by omega))
      clear hl
      intro j ih ls H L hl
      clear hS hPB0 hL hB hO hE hf
      intro hS hPB0 hL hB hj hem
      have hZ0 := hS.1
      have hjl : (E.take j).length = j := by rw [List.length_take]; omega
      have hq9 := hPB0
      obtain ⟨-, hO, f, hE, hf⟩ := hq9
      rw [hjl] at hO
      refine lv_iload_n hx hb dX1_cutOf_75 rfl (lv_at hl 0 rfl) ?_
      refine f_eq (tgt := 122) hx hb dX1_cutOf_76 (by decide) (fun c_12 => ?_) (fun c_12 => ?_)
      · exact absurd c_12 (by decide)
      · refine lv_aload_n hx hb dX1_cutOf_79 rfl (lv_at hl 1 rfl) ?_
        refine va_get (D := G.1) (ci := 5) (C := RX1) (T := TX1) (N := 3) hx hb hts inX1 hown hK (at_P hO) 0 rfl rfl 2 (by decide) (hts _ tw_1_62) (fun _ h9 => h9) rfl dX1_cutOf_80 ?_
        cases j with
        | zero =>
          refine lv_if_le (tgt := 122) hx hb dX1_cutOf_83 (by decide) (fun _ => ?_) (fun q => absurd (by decide) q)
          exact q_v hx hb hr hlocks dX1_cutOf_122 hS (Nat.le_refl _) (Nat.le_refl _) ⟨⟨E.take 0, ⟨0, by rw [hEg]; exact hj, by rw [hEg], Or.inr ⟨by rw [hEg]; omega, by rw [hEg]; exact hem, fun q => absurd q (Nat.lt_irrefl 0)⟩⟩, hPB0, hL, okE_take (hEg ▸ comE_ok u) 0, nal, nac, nae, nel, nec⟩, hB⟩
        | succ j =>
          refine lv_if_le (tgt := 122) hx hb dX1_cutOf_83 (by decide) (fun q => absurd q (nI_nle (Nat.succ_pos j) (by omega))) (fun _ => ?_)
          refine lv_aload_n hx hb dX1_cutOf_86 rfl (lv_at hl 1 rfl) ?_
          refine lv_aload_n hx hb dX1_cutOf_87 rfl (lv_at hl 1 rfl) ?_
          refine va_get (D := G.1) (ci := 5) (C := RX1) (T := TX1) (N := 3) hx hb hts inX1 hown hK (at_P hO) 0 rfl rfl 2 (by decide) (hts _ tw_1_62) (fun _ h9 => h9) rfl dX1_cutOf_88 ?_
          refine lv_iconst (v := nI 1) hx hb dX1_cutOf_91 (by decide) ?_
          refine lv_isub hx hb dX1_cutOf_92 ?_
          refine lv_cv (nI_pred j) ?_
          refine kV_i (A := A) (b := a) (As := [.int (nI j)]) (rest := []) ⟨hx, hb, hml, hown, hts⟩ (mX1_beginOf (A := A) (la := la) (ea := ea) (es := E.take (j + 1)) (k := j) (by omega)) (cwV 1 hts (gV tw_2_74 tw_2_75 tw_2_76 tw_1_3 tw_2_77) rfl rfl rfl (by decide +kernel) ⟨Nat.le_of_ble_eq_true rfl, Nat.le_of_ble_eq_true rfl⟩) hC hS hA (hPB0.recv hK) hPB0 rfl rfl hl.1 (Nat.le_of_ble_eq_true rfl) ⟨Nat.zero_le _, Nat.zero_le _⟩ dX1_cutOf_93 (fun r9 h9 => lv_cv h9 ?_)
          refine lv_aload_n hx hb dX1_cutOf_96 rfl (lv_at hl 1 rfl) ?_
          refine lv_aload_n hx hb dX1_cutOf_97 rfl (lv_at hl 1 rfl) ?_
          refine va_get (D := G.1) (ci := 5) (C := RX1) (T := TX1) (N := 3) hx hb hts inX1 hown hK (at_P hO) 0 rfl rfl 2 (by decide) (hts _ tw_1_62) (fun _ h9 => h9) rfl dX1_cutOf_98 ?_
          refine lv_iconst (v := nI 1) hx hb dX1_cutOf_101 (by decide) ?_
          refine lv_isub hx hb dX1_cutOf_102 ?_
          refine lv_cv (nI_pred j) ?_
          refine kV_i (A := A) (b := a) (As := [.int (nI j)]) (rest := .int (nI (bgE (E.take (j + 1)) j)) :: []) ⟨hx, hb, hml, hown, hts⟩ (mX1_endOf (A := A) (la := la) (ea := ea) (es := E.take (j + 1)) (k := j) (by omega)) (cwV 1 hts (gV tw_2_78 tw_2_79 tw_2_80 tw_1_3 tw_2_81) rfl rfl rfl (by decide +kernel) ⟨Nat.le_of_ble_eq_true rfl, Nat.le_of_ble_eq_true rfl⟩) hC hS hA (hPB0.recv hK) hPB0 rfl rfl hl.1 (Nat.le_of_ble_eq_true rfl) ⟨Nat.zero_le _, Nat.zero_le _⟩ dX1_cutOf_103 (fun r9 h9 => lv_cv h9 ?_)
          have ok9 := (okE_take (hEg ▸ comE_ok u) (j + 1) : okE u (E.take (j + 1))) j (by omega)
          have q1 := bgE_take (E := E) (n := j + 1) (k := j) (by omega)
          have q2 := getD_take (E := E) (n := j + 1) (k := j) (by omega)
          rw [q1, q2] at ok9
          rw [q1, q2]
          refine b_ne (tgt := 122) hx hb dX1_cutOf_106 (by decide) (by omega) (by omega) (fun c_13 => ?_) (fun c_13 => ?_)
          · exact q_v hx hb hr hlocks dX1_cutOf_122 hS (Nat.le_refl _) (Nat.le_refl _) ⟨⟨E.take (j + 1), ⟨j + 1, by rw [hEg]; exact hj, by rw [hEg], Or.inr ⟨by rw [hEg]; omega, by rw [hEg]; exact hem, fun _ => by rw [hEg]; exact c_13⟩⟩, hPB0, hL, okE_take (hEg ▸ comE_ok u) (j + 1), nal, nac, nae, nel, nec⟩, hB⟩
          · refine lv_aload_n hx hb dX1_cutOf_109 rfl (lv_at hl 1 rfl) ?_
            refine lv_dup hx hb dX1_cutOf_110 rfl ?_
            refine va_get (D := G.1) (ci := 5) (C := RX1) (T := TX1) (N := 3) hx hb hts inX1 hown hK (at_P hO) 0 rfl rfl 2 (by decide) (hts _ tw_1_62) (fun _ h9 => h9) rfl dX1_cutOf_111 ?_
            refine lv_iconst (v := nI 1) hx hb dX1_cutOf_114 (by decide) ?_
            refine lv_isub hx hb dX1_cutOf_115 ?_
            refine lv_cv (nI_pred j) ?_
            refine h_put (D := G.1) (ci := 5) (C := RX1) (T := TX1) (N := 3) hx hb hts inX1 tyX1 tyX1_ok nmX1 hown hK hO hS hAa rfl 2 (by decide) (hts _ tw_1_62) (fun _ h9 => h9) rfl (tyX1_ok 2 (by decide)) rfl rfl (Nat.le_of_ble_eq_true rfl) dX1_cutOf_116 (fun H14 L14 hO z14 o14 hS => ?_)
            have hO : va_at G.1 vwCl (a, .inr (5, [.ref la, .ref ea, .int (nI j)])) H14 := hO
            have hE := at_o hE o14 (Ne.symm nae)
            have hL := LA.o hL o14 nal.symm nac.symm
            have hB := LA.o hB o14 d1 d5
            have hZ14 := hS.1
            refine lv_goto (tgt := 75) hx hb dX1_cutOf_119 (by decide) ?_
            exact ih j (Nat.lt_succ_self j) ls H14 L14 (lv_sub hl [0, 1, 2] rfl) hS ⟨by rw [List.length_take]; omega, by rw [List.length_take, Nat.min_eq_left (by omega)]; exact hO, f, hE, fun k hk => by rw [List.length_take] at hk; rw [hf k (by omega), getD_take (by omega), getD_take (by omega)]⟩ hL hB (by omega) (fun k h1 h2 => by rcases Nat.lt_or_ge j k with q | q; exact hem k q h2; rw [show k = j by omega]; exact c_13)
  · refine lv_aload_n hx hb dX1_cutOf_26 rfl (lv_at hl 1 rfl) ?_
    refine va_get (D := G.1) (ci := 5) (C := RX1) (T := TX1) (N := 3) hx hb hts inX1 hown hK (at_P hO) 0 rfl rfl 0 (by decide) (hts _ tw_1_60) (fun _ h9 => h9) rfl dX1_cutOf_27 ?_
    refine lv_iload_n hx hb dX1_cutOf_30 rfl (lv_at hl 0 rfl) ?_
    refine kV_i (A := A) (b := la) (As := [.int (nI j)]) (rest := []) ⟨hx, hb, hml, hown, hts⟩ (mX0_codeAt (A := A) (ca := lca) (i := j) (by omega)) (cwV 1 hts (gV tw_2_69 tw_2_20 tw_2_21 tw_1_2 tw_2_22) rfl rfl rfl (by decide +kernel) ⟨Nat.le_of_ble_eq_true rfl, Nat.le_of_ble_eq_true rfl⟩) hC hS hA (hL.recv hK) hL rfl rfl hl.1 (Nat.le_of_ble_eq_true rfl) ⟨Nat.zero_le _, Nat.zero_le _⟩ dX1_cutOf_31 (fun r9 h9 => lv_cv h9 ?_)
    have tokj := uok j
    refine lv_bipush (v := nI 44) hx hb dX1_cutOf_34 (by decide) ?_
    refine b_ne (tgt := 44) hx hb dX1_cutOf_36 (by decide) (by omega) (by omega) (fun c_15 => ?_) (fun c_15 => ?_)
    · refine lv_iinc (v := nI (j + 1)) (lv' := [(2, .int (nI (j + 1))), (0, .ref a), (1, .ref b)]) hx hb dX1_cutOf_44 hl (k := 0) rfl (nI_add j 1) (by decide) rfl (fun ls hl => ?_)
      refine lv_goto (tgt := 15) hx hb dX1_cutOf_47 (by decide) ?_
      exact ih (j + 1) (by omega) (by omega) ls H L e9 (lv_sub hl [0, 1, 2] rfl) hS hPB0 hL hB (by rw [← hEE, comE_ne (by omega) c_15])
    · refine lv_aload_n hx hb dX1_cutOf_39 rfl (lv_at hl 1 rfl) ?_
      refine lv_iload_n hx hb dX1_cutOf_40 rfl (lv_at hl 0 rfl) ?_
      refine qV_V (A := A) (A1 := ow a ea H.size) (b := a) (As := [.int (nI j)]) (rest := []) ⟨hx, hb, hml, hown, hts⟩ (mX1_addEnd (A := ow a ea H.size) (la := la) (ea := ea) (es := e9) (j := j) (Or.inl rfl) (Or.inr (Or.inl rfl)) nae h60) (cwV 1 hts (gV tw_2_70 tw_2_72 sel_X1_addEnd tw_1_3 tw_2_73) rfl rfl rfl (by decide +kernel) ⟨Nat.le_of_ble_eq_true rfl, Nat.le_of_ble_eq_true rfl⟩) hC hS (ow_in hAa hAe hA hZ0) ow_n (hPB0.recv hK) hPB0 rfl rfl hl.1 (Nat.le_of_ble_eq_true rfl) ⟨Nat.zero_le _, Nat.zero_le _⟩ dX1_cutOf_41 (fun H16 L16 hP16 hk16 hS => ?_)
      have hZ16 := hS.1
      have hL := hL.kp hk16 (ow_no nal.symm nel.symm hL.lt.1) (ow_no nac.symm nec.symm hL.lt.2)
      have hB := hB.kp hk16 (ow_no d1 d4 hB.lt.1) (ow_no d5 d8 hB.lt.2)
      refine lv_iinc (v := nI (j + 1)) (lv' := [(2, .int (nI (j + 1))), (0, .ref a), (1, .ref b)]) hx hb dX1_cutOf_44 hl (k := 0) rfl (nI_add j 1) (by decide) rfl (fun ls hl => ?_)
      refine lv_goto (tgt := 15) hx hb dX1_cutOf_47 (by decide) ?_
      exact ih (j + 1) (by omega) (by omega) ls H16 L16 (e9 ++ [j]) (lv_sub hl [0, 1, 2] rfl) hS hP16 hL hB (by rw [← hEE, comE_eq (by omega) c_15, List.append_assoc]; rfl)
